-- methods of the class that write: a world of cells, and the world behind
abbrev cmP (D : va_G) (G : Nat → ClassId) (sz : Nat) (ws : va_W) (As : List Value) : Array Value → State → Prop := va_Pc As (fun U => U.heap.size = sz ∧ va_P D vwCl ws U.heap ∧ KK D G U ∧ va_D (fun _ => True) ws)
abbrev cmB (D : va_G) (A : Nat → Prop) (ws : va_W) (t : State) : Prop := va_P D vwCl ws t.heap ∧ va_D A ws
abbrev cmQi (D : va_G) (A : Nat → Prop) (ans : Int32) (Wp : va_W → Prop) : Array Value → State → Outcome → State → Prop := va_Qi (fun r (z : va_W) => r = ans ∧ Wp z) (cmB D A) A
abbrev cmQv (D : va_G) (A : Nat → Prop) (Wp : va_W → Prop) : Array Value → State → Outcome → State → Prop := va_Qv (fun (z : va_W) => Wp z) (cmB D A) A
section CM
variable {p : Program} {l : Launch} {e : Env} {R : Room} {s : State} {m : MethodId} {args : Array Value} {below : List Frame} {meth : Method} {c : Code} {H : Heap} {locs : List Loc} {cells slots mc ms : Nat} {Q : State → Prop}
variable {cc : ByteArray} {pc : Nat} {ls : Array Slot} {rest stk : List Value} {D : va_G} {G : Nat → ClassId} {y : MethodName} {bytes : ByteArray} {maxL nL n idx d : Nat} {ret : Option FieldType} {As : List Value} {own C : String} {A : Nat → Prop} {ws : va_W} {b : Nat} {Wp : va_W → Prop}
theorem cm_pre (hK : KK D G s) (hP : va_P D vwCl ws H) (hD : va_D A ws) : PreS s H (cmP D G H.size ws As) As :=
  ⟨fun _ _ _ _ q => ⟨q.1, q.2.1, q.2.2.1, q.2.2.2.1.call, q.2.2.2.2⟩, fun U hU hW => ⟨rfl, by rw [hU], by rw [hU]; exact hP, hK.warm hW, hD.weaken (fun _ _ _ _ => trivial)⟩⟩
theorem cm_fr (hD : va_D A ws) (hS : va_S A s.heap H locs) (hA : ∀ q, s.heap.size ≤ q → A q) : ∀ q, va_A ws H.size q → A q := by
  intro q h
  rcases h with ⟨k, e, h⟩ | h
  · exact hD.2 k (q, e) h
  · exact hA q (Nat.le_trans hS.1 h)
theorem cm_Vi {ans : Int32} (S : CallFix p m c cc nL s args TT own) (hM : Met l y (.code y bytes maxL ret :: TT) (rmC d mc ms) (cmP D G H.size ws (.ref b :: As)) (cmQi D (va_A ws H.size) ans Wp) mc ms (va_A ws H.size)) (g : GoodIn TT (wsV own idx C y (.code y bytes maxL ret :: TT)))
    (hd : y.cls = C ∧ y.cls ≠ "java/lang/invoke/MethodHandle" ∧ y.cls ≠ "java/lang/invoke/VarHandle" ∧ (parseMethodDescriptor y.desc).map (fun d => d.parameters.length) = some n) (hR : d + 1 ≤ R.frames ∧ 8 + (maxL + 11) + 40 * d ≤ R.locals) (hK : KK D G s) (hrv : ∃ cellB : Cell, H[b]? = some cellB ∧ cellB.vm.isStatics = false ∧ s.vm.findClass C = some cellB.cls) (hP : va_P D vwCl ws H) (hD : va_D A ws) (hS : va_S A s.heap H locs) (hA : ∀ q, s.heap.size ≤ q → A q) (hn : As.length = n) (hsize : ls.size = nL) (hstack : stk = As.reverse ++ .ref b :: rest) (hW : (rest.map fun v => v.category).sum ≤ 8) (hdg : decode cc pc = .ok (.invokevirtual idx, 3)) (hc : cells + mc ≤ R.cells ∧ slots + ms ≤ R.slots)
    (kk : ∀ (ws : va_W) (H : Heap) (locs : List Loc), Wp ws → va_P D vwCl ws H → va_D A ws → va_S A s.heap H locs → W p l e R s m args below meth c H locs (cells + mc) (slots + ms) Q (F0 m (pc + 3) ls (.int ans :: rest))) : W p l e R s m args below meth c H locs cells slots Q (F0 m pc ls stk) := by
  refine va_calli (va_runV S hM (cwV n S.2.2.2.2 g rfl rfl rfl hd hR) ⟨(cm_pre (As := .ref b :: As) hK hP hD).1, hrv, (cm_pre hK hP hD).2⟩ rfl hn hsize hstack (lv_room hW) hdg hc) hS (fun q _ h => cm_fr hD hS hA q h) (cm_fr hD hS hA) (fun r z t H1 locs1 ht hvm hw hB hz1 hk1 hS1 => ?_)
  obtain ⟨rfl, hw⟩ := hw
  obtain ⟨hP1, hD1⟩ := hB
  rw [ht] at hP1
  exact kk z H1 locs1 hw hP1 (hD1.weaken (fun k q _ h => cm_fr hD hS hA q.1 h)) hS1
theorem cm_Vv (S : CallFix p m c cc nL s args TT own) (hM : Met l y (.code y bytes maxL ret :: TT) (rmC d mc ms) (cmP D G H.size ws (.ref b :: As)) (cmQv D (va_A ws H.size) Wp) mc ms (va_A ws H.size)) (g : GoodIn TT (wsV own idx C y (.code y bytes maxL ret :: TT)))
    (hd : y.cls = C ∧ y.cls ≠ "java/lang/invoke/MethodHandle" ∧ y.cls ≠ "java/lang/invoke/VarHandle" ∧ (parseMethodDescriptor y.desc).map (fun d => d.parameters.length) = some n) (hR : d + 1 ≤ R.frames ∧ 8 + (maxL + 11) + 40 * d ≤ R.locals) (hK : KK D G s) (hrv : ∃ cellB : Cell, H[b]? = some cellB ∧ cellB.vm.isStatics = false ∧ s.vm.findClass C = some cellB.cls) (hP : va_P D vwCl ws H) (hD : va_D A ws) (hS : va_S A s.heap H locs) (hA : ∀ q, s.heap.size ≤ q → A q) (hn : As.length = n) (hsize : ls.size = nL) (hstack : stk = As.reverse ++ .ref b :: rest) (hW : (rest.map fun v => v.category).sum ≤ 8) (hdg : decode cc pc = .ok (.invokevirtual idx, 3)) (hc : cells + mc ≤ R.cells ∧ slots + ms ≤ R.slots)
    (kk : ∀ (ws : va_W) (H : Heap) (locs : List Loc), Wp ws → va_P D vwCl ws H → va_D A ws → va_S A s.heap H locs → W p l e R s m args below meth c H locs (cells + mc) (slots + ms) Q (F0 m (pc + 3) ls rest)) : W p l e R s m args below meth c H locs cells slots Q (F0 m pc ls stk) := by
  refine va_callv (va_runV S hM (cwV n S.2.2.2.2 g rfl rfl rfl hd hR) ⟨(cm_pre (As := .ref b :: As) hK hP hD).1, hrv, (cm_pre hK hP hD).2⟩ rfl hn hsize hstack (lv_room hW) hdg hc) hS (fun q _ h => cm_fr hD hS hA q h) (cm_fr hD hS hA) (fun z t H1 locs1 ht hvm hw hB hz1 hk1 hS1 => ?_)
  obtain ⟨hP1, hD1⟩ := hB
  rw [ht] at hP1
  exact kk z H1 locs1 hw hP1 (hD1.weaken (fun k q _ h => cm_fr hD hS hA q.1 h)) hS1
theorem cm_iret {v0 ans : Int32} (hx : p.tables.exec = Jvm.exec) (hb : c.code = cc) (hr : meth.sig.returnType = some .int) (hlocks : meth.locks = false) (hP : va_P D vwCl ws H) (hD : va_D A ws) (hS : va_S A s.heap H locs) (hdg : decode cc pc = .ok (.ireturn, 1)) (h1 : v0 = ans) (h2 : Wp ws) : W p l e R s m args below meth c H locs cells slots (MQ below (cmQi D A ans Wp) args s cells slots A) (F0 m pc ls [.int v0]) :=
  W.iret hx hb hr (fun t ht _ => ⟨⟨v0, ws, rfl, ⟨h1, h2⟩, by rw [ht]; exact hP, hD⟩, hS.F ht⟩) hS.2.2 hdg hlocks
theorem cm_zret {v0 ans : Int32} (hx : p.tables.exec = Jvm.exec) (hb : c.code = cc) (hr : meth.sig.returnType = some .boolean) (hlocks : meth.locks = false) (hP : va_P D vwCl ws H) (hD : va_D A ws) (hS : va_S A s.heap H locs) (hdg : decode cc pc = .ok (.ireturn, 1)) (hv : v0 = 0 ∨ v0 = 1) (h1 : v0 = ans) (h2 : Wp ws) : W p l e R s m args below meth c H locs cells slots (MQ below (cmQi D A ans Wp) args s cells slots A) (F0 m pc ls [.int v0]) :=
  W.zret hx hb hr (by rcases hv with rfl | rfl <;> rfl) (fun t ht _ => ⟨⟨v0, ws, rfl, ⟨h1, h2⟩, by rw [ht]; exact hP, hD⟩, hS.F ht⟩) hS.2.2 hdg hlocks
theorem cm_vret (hx : p.tables.exec = Jvm.exec) (hb : c.code = cc) (hr : meth.sig.returnType = none) (hlocks : meth.locks = false) (hP : va_P D vwCl ws H) (hD : va_D A ws) (hS : va_S A s.heap H locs) (hdg : decode cc pc = .ok (.return_, 1)) (h2 : Wp ws) : W p l e R s m args below meth c H locs cells slots (MQ below (cmQv D A Wp) args s cells slots A) (F0 m pc ls []) :=
  W.vret hx hb hr (fun t ht _ => ⟨⟨ws, rfl, h2, by rw [ht]; exact hP, hD⟩, hS.F ht⟩) hS.2.2 hdg hlocks
theorem aast_e {H0 : Heap} (hx : p.tables.exec = Jvm.exec) (hb : c.code = cc) (hK : va_K D vwCl (tyG G) s) (hP : va_P D vwCl ws H) (hD : va_D A ws) (hS : va_S A H0 H locs) (q0 qk ci : Nat) {r : vw_C} {a v : Nat} {vs : List Value} {f : Nat → Option Nat} (ha : ws[q0]? = some (a, .inl (G 3, 60, .inr (.inr (.inr (.inr f)))))) (hca : va_Nw (.castable r.1 "FieldMember$Entry") s) (hv : ws[qk]? = some (v, .inr (ci, vs))) (hc : vwCl[ci]? = some r) {i : Int32} (j : Nat) (hi : i = nI j) (hj : j < 60) (hdg : decode cc pc = .ok (.aastore, 1))
    (kk : ∀ (H1 : Heap) (locs1 : List Loc), va_P D vwCl (ws.set q0 (a, .inl (G 3, 60, .inr (.inr (.inr (.inr (va_up f j (some v)))))))) H1 → va_D A (ws.set q0 (a, .inl (G 3, 60, .inr (.inr (.inr (.inr (va_up f j (some v)))))))) → va_S A H0 H1 locs1 → W p l e R s m args below meth c H1 locs1 cells slots Q (F0 m (pc + 1) ls rest)) : W p l e R s m args below meth c H locs cells slots Q (F0 m pc ls (.ref v :: .int i :: .ref a :: rest)) :=
  va_astqO hx hb hK hP hD hS q0 3 qk ci ha rfl hca hv hc (in_n hi hj (by decide)).1 hdg (by rw [(in_n hi hj (by decide)).2]; exact kk)
theorem aast_n {H0 : Heap} (hx : p.tables.exec = Jvm.exec) (hb : c.code = cc) (hK : va_K D vwCl (tyG G) s) (hP : va_P D vwCl ws H) (hD : va_D A ws) (hS : va_S A H0 H locs) (q0 : Nat) {a : Nat} {f : Nat → Option Nat} (ha : ws[q0]? = some (a, .inl (G 3, 60, .inr (.inr (.inr (.inr f)))))) {i : Int32} (j : Nat) (hi : i = nI j) (hj : j < 60) (hdg : decode cc pc = .ok (.aastore, 1))
    (kk : ∀ (H1 : Heap) (locs1 : List Loc), va_P D vwCl (ws.set q0 (a, .inl (G 3, 60, .inr (.inr (.inr (.inr (va_up f j none))))))) H1 → va_D A (ws.set q0 (a, .inl (G 3, 60, .inr (.inr (.inr (.inr (va_up f j none))))))) → va_S A H0 H1 locs1 → W p l e R s m args below meth c H1 locs1 cells slots Q (F0 m (pc + 1) ls rest)) : W p l e R s m args below meth c H locs cells slots Q (F0 m pc ls (.null :: .int i :: .ref a :: rest)) :=
  va_astqN hx hb hK hP hD hS q0 3 ha rfl (in_n hi hj (by decide)).1 hdg (by rw [(in_n hi hj (by decide)).2]; exact kk)
end CM
/-- the entries' cells lie in the pool -/
def plE (G : Nat → ClassId) (ea : Nat → Nat → Nat) (σ : MS) (κ : Nat → Int64) (k : Nat) (pl : va_W) : Prop := ∀ e, e < k → ∀ c ∈ eW G (ea e) σ κ e, c ∈ pl
theorem plE_P {D : va_G} {cl : List vw_C} {G : Nat → ClassId} {ea : Nat → Nat → Nat} {σ : MS} {κ : Nat → Int64} {k : Nat} {wf pl : va_W} {H : Heap} (hP : va_P D cl (wf ++ pl) H) (hE : plE G ea σ κ k pl) : ∀ e, e < k → va_P D cl (eW G (ea e) σ κ e) H := by
  intro e he i q hq
  obtain ⟨j, hj⟩ := List.getElem?_of_mem (List.mem_append_right wf (hE e he q (List.mem_of_getElem? hq)))
  exact hP j q hj
theorem plE_app {G : Nat → ClassId} {ea : Nat → Nat → Nat} {σ : MS} {κ : Nat → Int64} {k : Nat} {pl : va_W} (hE : plE G ea σ κ k pl) (l : va_W) : plE G ea σ κ k (l ++ pl) := fun e he c hc => List.mem_append_right l (hE e he c hc)
/-- the cells of a member that is begun -/
abbrev bgW (G : Nat → ClassId) (a : Nat → Nat) (t nm kd d m bd vr z : Int32) (f g : Nat → Int32) (me : Int32) : va_W := [(a 0, .inr (4, [.int t, .int nm, .int kd, .int d, .int m, .int bd, .ref (a 1), .int vr, .int me])), (a 1, .inr (5, [.ref (a 2), .ref (a 3), .int z])), (a 2, .inl (G 0, 5, .inl f)), (a 3, .inl (G 0, 5, .inl g))]
/-- what a type lies below, as the class reckons it: itself, and what its parent and its faces lie below -/
def abvF (pa fm : Int32) (ab : Nat → Int32) (t : Nat) : Nat → Int32
  | 0 => 1 <<< (nI t &&& 31)
  | q + 1 => if nI q = pa ∨ bitP fm q then abvF pa fm ab t q ||| ab q else abvF pa fm ab t q
/-- the masks from t on are reckoned anew -/
def reA (pa fm ab : Nat → Int32) (t : Nat) : Nat → Nat → Int32
  | 0 => ab
  | j + 1 => upd (reA pa fm ab t j) (t + j) (abvF (pa (t + j)) (fm (t + j)) (reA pa fm ab t j) (t + j) (t + j))
theorem reA_s {pa fm ab : Nat → Int32} {t k : Nat} (h : t ≤ k) : upd (reA pa fm ab t (k - t)) k (abvF (pa k) (fm k) (reA pa fm ab t (k - t)) k k) = reA pa fm ab t (k + 1 - t) := by
  rw [show k + 1 - t = (k - t) + 1 by omega]
  show _ = upd _ (t + (k - t)) (abvF (pa (t + (k - t))) (fm (t + (k - t))) _ (t + (k - t)) (t + (k - t)))
  rw [show t + (k - t) = k by omega]
theorem bg_row {D : va_G} {cl : List vw_C} {G : Nat → ClassId} {H : Heap} {ca ba : Nat → Nat} {bg : Value} {en : Nat → Option Nat} {σ x : MS} {t nm kd d m bd vr zi me : Int32} {f g : Nat → Int32} {pl : va_W} {z : Nat} (h : va_P D cl (cF G ca bg en σ x ++ (bgW G ba t nm kd d m bd vr zi f g me ++ pl)) H) (hz : zi = nI z) : va_P D cl (rwW G (ba 1) (ba 2) (ba 3) f g (nI z)) H := by
  rw [← hz]; exact h.sub [15, 16, 17] rfl
/-- the candidates, one after the other -/
def ccF (σ : MS) (t : Nat) (name : Int32) (f : Nat → Int32) : Nat → Nat → Int32
  | 0 => f
  | k + 1 => upd (ccF σ t name f k) k (bI (¬ σ 8 k = 0 ∧ σ 10 k = name ∧ rcP σ t k))
abbrev fgP (σ : MS) (cd : Nat → Int32) (w : Nat) (v : Int32) (K e : Nat) : Prop := ¬ cd e = 0 ∧ ¬ σ 8 e = 0 ∧ tkN σ w e v w ∧ ¬ sfP σ cd e K
/-- those that fit, one after the other -/
def fgF (σ : MS) (cd : Nat → Int32) (w : Nat) (v : Int32) (K : Nat) (f : Nat → Int32) : Nat → Nat → Int32
  | 0 => f
  | k + 1 => upd (fgF σ cd w v K f k) k (bI (fgP σ cd w v K k))
def fgb (σ : MS) (cd : Nat → Int32) (w : Nat) (v : Int32) (K n : Nat) : Bool := decide (∃ e, e < n ∧ fgP σ cd w v K e)
abbrev fgA (σ : MS) (cd : Nat → Int32) (w : Nat) (v : Int32) (K n : Nat) : Prop := fgb σ cd w v K n = true
theorem fgA_def {σ : MS} {cd : Nat → Int32} {w : Nat} {v : Int32} {K n : Nat} : fgA σ cd w v K n ↔ ∃ e, e < n ∧ fgP σ cd w v K e := decide_eq_true_iff
theorem fgA_0 {σ : MS} {cd : Nat → Int32} {w : Nat} {v : Int32} {K : Nat} : (0 : Int32) = bI (fgA σ cd w v K 0) := (bI_f (fun h => by obtain ⟨e, he, -⟩ := fgA_def.mp h; omega)).symm
theorem fgA_s {σ : MS} {cd : Nat → Int32} {w : Nat} {v : Int32} {K k : Nat} : bI (fgA σ cd w v K k ∨ fgP σ cd w v K k) = bI (fgA σ cd w v K (k + 1)) := by
  refine bI_c ⟨fun h => ?_, fun h => ?_⟩
  · rcases h with h | h
    · obtain ⟨e, he, q⟩ := fgA_def.mp h; exact fgA_def.mpr ⟨e, by omega, q⟩
    · exact fgA_def.mpr ⟨k, by omega, h⟩
  · obtain ⟨e, he, q⟩ := fgA_def.mp h
    rcases Nat.lt_or_ge e k with h1 | h1
    · exact Or.inl (fgA_def.mpr ⟨e, h1, q⟩)
    · exact Or.inr (by rw [show k = e by omega]; exact q)

theorem dX6_allAbove_0 : decode cX6_allAbove 0 = .ok (.iconst 1, 1) := by decide +kernel
theorem dX6_allAbove_1 : decode cX6_allAbove 1 = .ok (.iload_n 1, 1) := by decide +kernel
theorem dX6_allAbove_2 : decode cX6_allAbove 2 = .ok (.ishl, 1) := by decide +kernel
theorem dX6_allAbove_3 : decode cX6_allAbove 3 = .ok (.istore_n 2, 1) := by decide +kernel
theorem dX6_allAbove_4 : decode cX6_allAbove 4 = .ok (.iconst 0, 1) := by decide +kernel
theorem dX6_allAbove_5 : decode cX6_allAbove 5 = .ok (.istore_n 3, 1) := by decide +kernel
theorem dX6_allAbove_6 : decode cX6_allAbove 6 = .ok (.iload_n 3, 1) := by decide +kernel
theorem dX6_allAbove_7 : decode cX6_allAbove 7 = .ok (.iload_n 1, 1) := by decide +kernel
theorem dX6_allAbove_8 : decode cX6_allAbove 8 = .ok (.if_icmp .ge 44, 3) := by decide +kernel
theorem dX6_allAbove_52 : decode cX6_allAbove 52 = .ok (.iload_n 2, 1) := by decide +kernel
theorem dX6_allAbove_53 : decode cX6_allAbove 53 = .ok (.ireturn, 1) := by decide +kernel
theorem dX6_allAbove_11 : decode cX6_allAbove 11 = .ok (.iload_n 3, 1) := by decide +kernel
theorem dX6_allAbove_12 : decode cX6_allAbove 12 = .ok (.aload_n 0, 1) := by decide +kernel
theorem dX6_allAbove_13 : decode cX6_allAbove 13 = .ok (.getfield 24, 3) := by decide +kernel
theorem dX6_allAbove_16 : decode cX6_allAbove 16 = .ok (.if_icmp .ge 36, 3) := by decide +kernel
theorem dX6_allAbove_19 : decode cX6_allAbove 19 = .ok (.iload_n 3, 1) := by decide +kernel
theorem dX6_allAbove_20 : decode cX6_allAbove 20 = .ok (.aload_n 0, 1) := by decide +kernel
theorem dX6_allAbove_21 : decode cX6_allAbove 21 = .ok (.iload_n 1, 1) := by decide +kernel
theorem q_132 : Cond.methodLink "FieldMember$Types" 44 ⟨"FieldMember$Types", "parentOf", "(I)I"⟩ ∈ TT := tt_t (i := 132) (by decide +kernel) (by decide +kernel)
theorem gV_X6_X6_parentOf : GoodIn TT (wsV RX6 44 RX6 yX6_parentOf (ww yX6_parentOf cX6_parentOf 2 (some .int))) := tt_V q_132 q_133 q_134 q_2 q_135
theorem dX6_allAbove_22 : decode cX6_allAbove 22 = .ok (.invokevirtual 44, 3) := by decide +kernel
theorem dX6_allAbove_25 : decode cX6_allAbove 25 = .ok (.if_icmp .eq 12, 3) := by decide +kernel
theorem dX6_allAbove_37 : decode cX6_allAbove 37 = .ok (.iload_n 2, 1) := by decide +kernel
theorem dX6_allAbove_38 : decode cX6_allAbove 38 = .ok (.aload_n 0, 1) := by decide +kernel
theorem dX6_allAbove_39 : decode cX6_allAbove 39 = .ok (.getfield 21, 3) := by decide +kernel
theorem dX6_allAbove_42 : decode cX6_allAbove 42 = .ok (.iload_n 3, 1) := by decide +kernel
theorem dX6_allAbove_43 : decode cX6_allAbove 43 = .ok (.iaload, 1) := by decide +kernel
theorem dX6_allAbove_44 : decode cX6_allAbove 44 = .ok (.ior, 1) := by decide +kernel
theorem dX6_allAbove_45 : decode cX6_allAbove 45 = .ok (.istore_n 2, 1) := by decide +kernel
theorem dX6_allAbove_46 : decode cX6_allAbove 46 = .ok (.iinc 3 1, 3) := by decide +kernel
theorem dX6_allAbove_49 : decode cX6_allAbove 49 = .ok (.goto (-43), 3) := by decide +kernel
theorem dX6_allAbove_28 : decode cX6_allAbove 28 = .ok (.aload_n 0, 1) := by decide +kernel
theorem dX6_allAbove_29 : decode cX6_allAbove 29 = .ok (.iload_n 1, 1) := by decide +kernel
theorem dX6_allAbove_30 : decode cX6_allAbove 30 = .ok (.iload_n 3, 1) := by decide +kernel
theorem q_136 : Cond.methodLink "FieldMember$Types" 47 ⟨"FieldMember$Types", "hasFace", "(II)Z"⟩ ∈ TT := tt_t (i := 136) (by decide +kernel) (by decide +kernel)
theorem gV_X6_X6_hasFace : GoodIn TT (wsV RX6 47 RX6 yX6_hasFace (ww yX6_hasFace cX6_hasFace 3 (some .boolean))) := tt_V q_136 q_137 q_138 q_2 q_139
theorem dX6_allAbove_31 : decode cX6_allAbove 31 = .ok (.invokevirtual 47, 3) := by decide +kernel
theorem dX6_allAbove_34 : decode cX6_allAbove 34 = .ok (.ifCond .eq 12, 3) := by decide +kernel
theorem dX7_breakRule_0 : decode cX7_breakRule 0 = .ok (.iload_n 1, 1) := by decide +kernel
theorem dX7_breakRule_1 : decode cX7_breakRule 1 = .ok (.iconst 1, 1) := by decide +kernel
theorem dX7_breakRule_2 : decode cX7_breakRule 2 = .ok (.if_icmp .lt 29, 3) := by decide +kernel
theorem dX7_breakRule_5 : decode cX7_breakRule 5 = .ok (.iload_n 1, 1) := by decide +kernel
theorem dX7_breakRule_6 : decode cX7_breakRule 6 = .ok (.bipush 25, 2) := by decide +kernel
theorem dX7_breakRule_8 : decode cX7_breakRule 8 = .ok (.if_icmp .gt 23, 3) := by decide +kernel
theorem dX7_breakRule_11 : decode cX7_breakRule 11 = .ok (.aload_n 0, 1) := by decide +kernel
theorem dX7_breakRule_12 : decode cX7_breakRule 12 = .ok (.getfield 29, 3) := by decide +kernel
theorem dX7_breakRule_15 : decode cX7_breakRule 15 = .ok (.iload_n 1, 1) := by decide +kernel
theorem dX7_breakRule_16 : decode cX7_breakRule 16 = .ok (.dup2, 1) := by decide +kernel
theorem dX7_breakRule_17 : decode cX7_breakRule 17 = .ok (.iaload, 1) := by decide +kernel
theorem dX7_breakRule_18 : decode cX7_breakRule 18 = .ok (.iconst 1, 1) := by decide +kernel
theorem dX7_breakRule_19 : decode cX7_breakRule 19 = .ok (.iadd, 1) := by decide +kernel
theorem dX7_breakRule_20 : decode cX7_breakRule 20 = .ok (.iastore, 1) := by decide +kernel
theorem dX7_breakRule_21 : decode cX7_breakRule 21 = .ok (.aload_n 0, 1) := by decide +kernel
theorem dX7_breakRule_22 : decode cX7_breakRule 22 = .ok (.dup, 1) := by decide +kernel
theorem dX7_breakRule_23 : decode cX7_breakRule 23 = .ok (.getfield 262, 3) := by decide +kernel
theorem dX7_breakRule_26 : decode cX7_breakRule 26 = .ok (.iconst 1, 1) := by decide +kernel
theorem dX7_breakRule_27 : decode cX7_breakRule 27 = .ok (.iadd, 1) := by decide +kernel
theorem dX7_breakRule_28 : decode cX7_breakRule 28 = .ok (.putfield 262, 3) := by decide +kernel
theorem dX7_breakRule_31 : decode cX7_breakRule 31 = .ok (.bipush (-40), 2) := by decide +kernel
theorem dX7_breakRule_33 : decode cX7_breakRule 33 = .ok (.iload_n 1, 1) := by decide +kernel
theorem dX7_breakRule_34 : decode cX7_breakRule 34 = .ok (.isub, 1) := by decide +kernel
theorem dX7_breakRule_35 : decode cX7_breakRule 35 = .ok (.ireturn, 1) := by decide +kernel
theorem dX7_addEntry_0 : decode cX7_addEntry 0 = .ok (.aload_n 0, 1) := by decide +kernel
theorem dX7_addEntry_1 : decode cX7_addEntry 1 = .ok (.getfield 61, 3) := by decide +kernel
theorem dX7_addEntry_4 : decode cX7_addEntry 4 = .ok (.bipush 60, 2) := by decide +kernel
theorem dX7_addEntry_6 : decode cX7_addEntry 6 = .ok (.if_icmp .lt 6, 3) := by decide +kernel
theorem dX7_addEntry_12 : decode cX7_addEntry 12 = .ok (.aload_n 0, 1) := by decide +kernel
theorem dX7_addEntry_13 : decode cX7_addEntry 13 = .ok (.getfield 18, 3) := by decide +kernel
theorem dX7_addEntry_16 : decode cX7_addEntry 16 = .ok (.aload_n 0, 1) := by decide +kernel
theorem dX7_addEntry_17 : decode cX7_addEntry 17 = .ok (.getfield 61, 3) := by decide +kernel
theorem dX7_addEntry_20 : decode cX7_addEntry 20 = .ok (.aload_n 1, 1) := by decide +kernel
theorem dX7_addEntry_21 : decode cX7_addEntry 21 = .ok (.aastore, 1) := by decide +kernel
theorem dX7_addEntry_22 : decode cX7_addEntry 22 = .ok (.aload_n 0, 1) := by decide +kernel
theorem dX7_addEntry_23 : decode cX7_addEntry 23 = .ok (.dup, 1) := by decide +kernel
theorem dX7_addEntry_24 : decode cX7_addEntry 24 = .ok (.getfield 61, 3) := by decide +kernel
theorem dX7_addEntry_27 : decode cX7_addEntry 27 = .ok (.iconst 1, 1) := by decide +kernel
theorem dX7_addEntry_28 : decode cX7_addEntry 28 = .ok (.iadd, 1) := by decide +kernel
theorem dX7_addEntry_29 : decode cX7_addEntry 29 = .ok (.putfield 61, 3) := by decide +kernel
theorem dX7_addEntry_32 : decode cX7_addEntry 32 = .ok (.aload_n 0, 1) := by decide +kernel
theorem dX7_addEntry_33 : decode cX7_addEntry 33 = .ok (.getfield 61, 3) := by decide +kernel
theorem dX7_addEntry_36 : decode cX7_addEntry 36 = .ok (.iconst 1, 1) := by decide +kernel
theorem dX7_addEntry_37 : decode cX7_addEntry 37 = .ok (.isub, 1) := by decide +kernel
theorem dX7_addEntry_38 : decode cX7_addEntry 38 = .ok (.ireturn, 1) := by decide +kernel
theorem dX4_add_0 : decode cX4_add 0 = .ok (.aload_n 0, 1) := by decide +kernel
theorem q_351 : Cond.methodLink "FieldMember$Row" 22 ⟨"FieldMember$Row", "isFull", "()Z"⟩ ∈ TT := tt_t (i := 351) (by decide +kernel) (by decide +kernel)
theorem q_343 : Cond.code ⟨"FieldMember$Row", "isFull", "()Z"⟩ prog_6_method_2_code 1 (some .boolean) ∈ TT := tt_t (i := 343) (by decide +kernel) (by decide +kernel)
theorem q_341 : Cond.instanceMethod ⟨"FieldMember$Row", "isFull", "()Z"⟩ ∈ TT := tt_t (i := 341) (by decide +kernel) (by decide +kernel)
theorem q_342 : Cond.selects "FieldMember$Row" ⟨"FieldMember$Row", "isFull", "()Z"⟩ ⟨"FieldMember$Row", "isFull", "()Z"⟩ ∈ TT := tt_t (i := 342) (by decide +kernel) (by decide +kernel)
theorem gV_X4_X4_isFull : GoodIn TT (wsV RX4 22 RX4 yX4_isFull (ww yX4_isFull cX4_isFull 1 (some .boolean))) := tt_V q_351 q_341 q_342 q_3 q_343
theorem hdV_X4_isFull : yX4_isFull.cls = RX4 ∧ yX4_isFull.cls ≠ "java/lang/invoke/MethodHandle" ∧ yX4_isFull.cls ≠ "java/lang/invoke/VarHandle" ∧ (parseMethodDescriptor yX4_isFull.desc).map (fun d => d.parameters.length) = some 0 := by decide +kernel
theorem dX4_add_1 : decode cX4_add 1 = .ok (.invokevirtual 22, 3) := by decide +kernel
theorem dX4_add_4 : decode cX4_add 4 = .ok (.ifCond .eq 6, 3) := by decide +kernel
theorem dX4_add_7 : decode cX4_add 7 = .ok (.bipush (-15), 2) := by decide +kernel
theorem dX4_add_9 : decode cX4_add 9 = .ok (.ireturn, 1) := by decide +kernel
theorem dX4_add_10 : decode cX4_add 10 = .ok (.aload_n 0, 1) := by decide +kernel
theorem dX4_add_11 : decode cX4_add 11 = .ok (.getfield 9, 3) := by decide +kernel
theorem dX4_add_14 : decode cX4_add 14 = .ok (.aload_n 0, 1) := by decide +kernel
theorem dX4_add_15 : decode cX4_add 15 = .ok (.getfield 18, 3) := by decide +kernel
theorem dX4_add_18 : decode cX4_add 18 = .ok (.iload_n 1, 1) := by decide +kernel
theorem dX4_add_19 : decode cX4_add 19 = .ok (.iastore, 1) := by decide +kernel
theorem dX4_add_20 : decode cX4_add 20 = .ok (.aload_n 0, 1) := by decide +kernel
theorem dX4_add_21 : decode cX4_add 21 = .ok (.getfield 15, 3) := by decide +kernel
theorem dX4_add_24 : decode cX4_add 24 = .ok (.aload_n 0, 1) := by decide +kernel
theorem dX4_add_25 : decode cX4_add 25 = .ok (.getfield 18, 3) := by decide +kernel
theorem dX4_add_28 : decode cX4_add 28 = .ok (.iload_n 2, 1) := by decide +kernel
theorem dX4_add_29 : decode cX4_add 29 = .ok (.iastore, 1) := by decide +kernel
theorem dX4_add_30 : decode cX4_add 30 = .ok (.aload_n 0, 1) := by decide +kernel
theorem dX4_add_31 : decode cX4_add 31 = .ok (.dup, 1) := by decide +kernel
theorem dX4_add_32 : decode cX4_add 32 = .ok (.getfield 18, 3) := by decide +kernel
theorem dX4_add_35 : decode cX4_add 35 = .ok (.iconst 1, 1) := by decide +kernel
theorem dX4_add_36 : decode cX4_add 36 = .ok (.iadd, 1) := by decide +kernel
theorem dX4_add_37 : decode cX4_add 37 = .ok (.putfield 18, 3) := by decide +kernel
theorem dX4_add_40 : decode cX4_add 40 = .ok (.aload_n 0, 1) := by decide +kernel
theorem dX4_add_41 : decode cX4_add 41 = .ok (.getfield 18, 3) := by decide +kernel
theorem dX4_add_44 : decode cX4_add 44 = .ok (.ireturn, 1) := by decide +kernel
theorem dX4_empty_0 : decode cX4_empty 0 = .ok (.aload_n 0, 1) := by decide +kernel
theorem dX4_empty_1 : decode cX4_empty 1 = .ok (.iconst 0, 1) := by decide +kernel
theorem dX4_empty_2 : decode cX4_empty 2 = .ok (.putfield 18, 3) := by decide +kernel
theorem dX4_empty_5 : decode cX4_empty 5 = .ok (.return_, 1) := by decide +kernel
theorem dX6_empty_0 : decode cX6_empty 0 = .ok (.aload_n 0, 1) := by decide +kernel
theorem dX6_empty_1 : decode cX6_empty 1 = .ok (.iconst 0, 1) := by decide +kernel
theorem dX6_empty_2 : decode cX6_empty 2 = .ok (.putfield 24, 3) := by decide +kernel
theorem dX6_empty_5 : decode cX6_empty 5 = .ok (.return_, 1) := by decide +kernel
theorem dX6_add_0 : decode cX6_add 0 = .ok (.aload_n 0, 1) := by decide +kernel
theorem dX6_add_1 : decode cX6_add 1 = .ok (.getfield 24, 3) := by decide +kernel
theorem dX6_add_4 : decode cX6_add 4 = .ok (.bipush 12, 2) := by decide +kernel
theorem dX6_add_6 : decode cX6_add 6 = .ok (.if_icmp .lt 6, 3) := by decide +kernel
theorem dX6_add_9 : decode cX6_add 9 = .ok (.bipush (-15), 2) := by decide +kernel
theorem dX6_add_11 : decode cX6_add 11 = .ok (.ireturn, 1) := by decide +kernel
theorem dX6_add_12 : decode cX6_add 12 = .ok (.aload_n 0, 1) := by decide +kernel
theorem dX6_add_13 : decode cX6_add 13 = .ok (.getfield 9, 3) := by decide +kernel
theorem dX6_add_16 : decode cX6_add 16 = .ok (.aload_n 0, 1) := by decide +kernel
theorem dX6_add_17 : decode cX6_add 17 = .ok (.getfield 24, 3) := by decide +kernel
theorem dX6_add_20 : decode cX6_add 20 = .ok (.iload_n 1, 1) := by decide +kernel
theorem dX6_add_21 : decode cX6_add 21 = .ok (.iastore, 1) := by decide +kernel
theorem dX6_add_22 : decode cX6_add 22 = .ok (.aload_n 0, 1) := by decide +kernel
theorem dX6_add_23 : decode cX6_add 23 = .ok (.getfield 15, 3) := by decide +kernel
theorem dX6_add_26 : decode cX6_add 26 = .ok (.aload_n 0, 1) := by decide +kernel
theorem dX6_add_27 : decode cX6_add 27 = .ok (.getfield 24, 3) := by decide +kernel
theorem dX6_add_30 : decode cX6_add 30 = .ok (.iload_n 2, 1) := by decide +kernel
theorem dX6_add_31 : decode cX6_add 31 = .ok (.iastore, 1) := by decide +kernel
theorem dX6_add_32 : decode cX6_add 32 = .ok (.aload_n 0, 1) := by decide +kernel
theorem dX6_add_33 : decode cX6_add 33 = .ok (.getfield 18, 3) := by decide +kernel
theorem dX6_add_36 : decode cX6_add 36 = .ok (.aload_n 0, 1) := by decide +kernel
theorem dX6_add_37 : decode cX6_add 37 = .ok (.getfield 24, 3) := by decide +kernel
theorem dX6_add_40 : decode cX6_add 40 = .ok (.iconst 0, 1) := by decide +kernel
theorem dX6_add_41 : decode cX6_add 41 = .ok (.iastore, 1) := by decide +kernel
theorem dX6_add_42 : decode cX6_add 42 = .ok (.aload_n 0, 1) := by decide +kernel
theorem dX6_add_43 : decode cX6_add 43 = .ok (.dup, 1) := by decide +kernel
theorem dX6_add_44 : decode cX6_add 44 = .ok (.getfield 24, 3) := by decide +kernel
theorem dX6_add_47 : decode cX6_add 47 = .ok (.iconst 1, 1) := by decide +kernel
theorem dX6_add_48 : decode cX6_add 48 = .ok (.iadd, 1) := by decide +kernel
theorem dX6_add_49 : decode cX6_add 49 = .ok (.putfield 24, 3) := by decide +kernel
theorem dX6_add_52 : decode cX6_add 52 = .ok (.aload_n 0, 1) := by decide +kernel
theorem dX6_add_53 : decode cX6_add 53 = .ok (.getfield 21, 3) := by decide +kernel
theorem dX6_add_56 : decode cX6_add 56 = .ok (.aload_n 0, 1) := by decide +kernel
theorem dX6_add_57 : decode cX6_add 57 = .ok (.getfield 24, 3) := by decide +kernel
theorem dX6_add_60 : decode cX6_add 60 = .ok (.iconst 1, 1) := by decide +kernel
theorem dX6_add_61 : decode cX6_add 61 = .ok (.isub, 1) := by decide +kernel
theorem dX6_add_62 : decode cX6_add 62 = .ok (.aload_n 0, 1) := by decide +kernel
theorem dX6_add_63 : decode cX6_add 63 = .ok (.aload_n 0, 1) := by decide +kernel
theorem dX6_add_64 : decode cX6_add 64 = .ok (.getfield 24, 3) := by decide +kernel
theorem dX6_add_67 : decode cX6_add 67 = .ok (.iconst 1, 1) := by decide +kernel
theorem dX6_add_68 : decode cX6_add 68 = .ok (.isub, 1) := by decide +kernel
theorem q_128 : Cond.methodLink "FieldMember$Types" 36 ⟨"FieldMember$Types", "allAbove", "(I)I"⟩ ∈ TT := tt_t (i := 128) (by decide +kernel) (by decide +kernel)
theorem q_131 : Cond.code ⟨"FieldMember$Types", "allAbove", "(I)I"⟩ prog_8_method_13_code 4 (some .int) ∈ TT := tt_t (i := 131) (by decide +kernel) (by decide +kernel)
theorem q_130 : Cond.instanceMethod ⟨"FieldMember$Types", "allAbove", "(I)I"⟩ ∈ TT := tt_t (i := 130) (by decide +kernel) (by decide +kernel)
theorem qs_0 : Cond.selects "FieldMember$Types" ⟨"FieldMember$Types", "allAbove", "(I)I"⟩ ⟨"FieldMember$Types", "allAbove", "(I)I"⟩ ∈ TT := tt_s (i := 0) (by decide +kernel) (by decide +kernel)
theorem gV_X6_X6_allAbove : GoodIn TT (wsV RX6 36 RX6 yX6_allAbove (ww yX6_allAbove cX6_allAbove 4 (some .int))) := tt_V q_128 q_130 qs_0 q_2 q_131
theorem hdV_X6_allAbove : yX6_allAbove.cls = RX6 ∧ yX6_allAbove.cls ≠ "java/lang/invoke/MethodHandle" ∧ yX6_allAbove.cls ≠ "java/lang/invoke/VarHandle" ∧ (parseMethodDescriptor yX6_allAbove.desc).map (fun d => d.parameters.length) = some 1 := by decide +kernel
theorem dX6_add_69 : decode cX6_add 69 = .ok (.invokevirtual 36, 3) := by decide +kernel
theorem dX6_add_72 : decode cX6_add 72 = .ok (.iastore, 1) := by decide +kernel
theorem dX6_add_73 : decode cX6_add 73 = .ok (.aload_n 0, 1) := by decide +kernel
theorem dX6_add_74 : decode cX6_add 74 = .ok (.getfield 24, 3) := by decide +kernel
theorem dX6_add_77 : decode cX6_add 77 = .ok (.iconst 1, 1) := by decide +kernel
theorem dX6_add_78 : decode cX6_add 78 = .ok (.isub, 1) := by decide +kernel
theorem dX6_add_79 : decode cX6_add 79 = .ok (.ireturn, 1) := by decide +kernel
theorem dX6_addFace_0 : decode cX6_addFace 0 = .ok (.aload_n 0, 1) := by decide +kernel
theorem dX6_addFace_1 : decode cX6_addFace 1 = .ok (.iload_n 1, 1) := by decide +kernel
theorem dX6_addFace_2 : decode cX6_addFace 2 = .ok (.invokevirtual 28, 3) := by decide +kernel
theorem dX6_addFace_5 : decode cX6_addFace 5 = .ok (.ifCond .eq 11, 3) := by decide +kernel
theorem dX6_addFace_8 : decode cX6_addFace 8 = .ok (.aload_n 0, 1) := by decide +kernel
theorem dX6_addFace_9 : decode cX6_addFace 9 = .ok (.iload_n 2, 1) := by decide +kernel
theorem dX6_addFace_10 : decode cX6_addFace 10 = .ok (.invokevirtual 28, 3) := by decide +kernel
theorem dX6_addFace_13 : decode cX6_addFace 13 = .ok (.ifCond .ne 6, 3) := by decide +kernel
theorem dX6_addFace_19 : decode cX6_addFace 19 = .ok (.aload_n 0, 1) := by decide +kernel
theorem dX6_addFace_20 : decode cX6_addFace 20 = .ok (.getfield 18, 3) := by decide +kernel
theorem dX6_addFace_23 : decode cX6_addFace 23 = .ok (.iload_n 1, 1) := by decide +kernel
theorem dX6_addFace_24 : decode cX6_addFace 24 = .ok (.iaload, 1) := by decide +kernel
theorem q_154 : Cond.methodLink "FieldMember$Types" 39 ⟨"java/lang/Integer", "bitCount", "(I)I"⟩ ∈ TT := tt_t (i := 154) (by decide +kernel) (by decide +kernel)
theorem gS_X6_J6_bitCount_0f7a4 : GoodIn TT (va_wsS RX6 39 yJ6_bitCount_0f7a4 (ww yJ6_bitCount_0f7a4 cJ6_bitCount_0f7a4 1 (some .int))) := tt_S q_154 q_155 q_5 q_156
theorem dX6_addFace_25 : decode cX6_addFace 25 = .ok (.invokestatic 39, 3) := by decide +kernel
theorem dX6_addFace_28 : decode cX6_addFace 28 = .ok (.iconst 3, 1) := by decide +kernel
theorem dX6_addFace_29 : decode cX6_addFace 29 = .ok (.if_icmp .lt 6, 3) := by decide +kernel
theorem dX6_addFace_32 : decode cX6_addFace 32 = .ok (.bipush (-15), 2) := by decide +kernel
theorem dX6_addFace_34 : decode cX6_addFace 34 = .ok (.ireturn, 1) := by decide +kernel
theorem dX6_addFace_35 : decode cX6_addFace 35 = .ok (.aload_n 0, 1) := by decide +kernel
theorem dX6_addFace_36 : decode cX6_addFace 36 = .ok (.getfield 18, 3) := by decide +kernel
theorem dX6_addFace_39 : decode cX6_addFace 39 = .ok (.iload_n 1, 1) := by decide +kernel
theorem dX6_addFace_40 : decode cX6_addFace 40 = .ok (.dup2, 1) := by decide +kernel
theorem dX6_addFace_41 : decode cX6_addFace 41 = .ok (.iaload, 1) := by decide +kernel
theorem dX6_addFace_42 : decode cX6_addFace 42 = .ok (.iconst 1, 1) := by decide +kernel
theorem dX6_addFace_43 : decode cX6_addFace 43 = .ok (.iload_n 2, 1) := by decide +kernel
theorem dX6_addFace_44 : decode cX6_addFace 44 = .ok (.ishl, 1) := by decide +kernel
theorem dX6_addFace_45 : decode cX6_addFace 45 = .ok (.ior, 1) := by decide +kernel
theorem dX6_addFace_46 : decode cX6_addFace 46 = .ok (.iastore, 1) := by decide +kernel
theorem dX6_addFace_47 : decode cX6_addFace 47 = .ok (.iload_n 1, 1) := by decide +kernel
theorem dX6_addFace_48 : decode cX6_addFace 48 = .ok (.istore_n 3, 1) := by decide +kernel
theorem dX6_addFace_49 : decode cX6_addFace 49 = .ok (.iload_n 3, 1) := by decide +kernel
theorem dX6_addFace_50 : decode cX6_addFace 50 = .ok (.aload_n 0, 1) := by decide +kernel
theorem dX6_addFace_51 : decode cX6_addFace 51 = .ok (.getfield 24, 3) := by decide +kernel
theorem dX6_addFace_54 : decode cX6_addFace 54 = .ok (.if_icmp .ge 20, 3) := by decide +kernel
theorem dX6_addFace_74 : decode cX6_addFace 74 = .ok (.aload_n 0, 1) := by decide +kernel
theorem dX6_addFace_75 : decode cX6_addFace 75 = .ok (.getfield 18, 3) := by decide +kernel
theorem dX6_addFace_78 : decode cX6_addFace 78 = .ok (.iload_n 1, 1) := by decide +kernel
theorem dX6_addFace_79 : decode cX6_addFace 79 = .ok (.iaload, 1) := by decide +kernel
theorem dX6_addFace_80 : decode cX6_addFace 80 = .ok (.invokestatic 39, 3) := by decide +kernel
theorem dX6_addFace_83 : decode cX6_addFace 83 = .ok (.ireturn, 1) := by decide +kernel
theorem dX6_addFace_57 : decode cX6_addFace 57 = .ok (.aload_n 0, 1) := by decide +kernel
theorem dX6_addFace_58 : decode cX6_addFace 58 = .ok (.getfield 21, 3) := by decide +kernel
theorem dX6_addFace_61 : decode cX6_addFace 61 = .ok (.iload_n 3, 1) := by decide +kernel
theorem dX6_addFace_62 : decode cX6_addFace 62 = .ok (.aload_n 0, 1) := by decide +kernel
theorem dX6_addFace_63 : decode cX6_addFace 63 = .ok (.iload_n 3, 1) := by decide +kernel
theorem dX6_addFace_64 : decode cX6_addFace 64 = .ok (.invokevirtual 36, 3) := by decide +kernel
theorem dX6_addFace_67 : decode cX6_addFace 67 = .ok (.iastore, 1) := by decide +kernel
theorem dX6_addFace_68 : decode cX6_addFace 68 = .ok (.iinc 3 1, 3) := by decide +kernel
theorem dX6_addFace_71 : decode cX6_addFace 71 = .ok (.goto (-22), 3) := by decide +kernel
set_option maxHeartbeats 4000000 in
set_option maxRecDepth 100000 in
theorem c_allAbove (l : Launch) (D : va_G) (G : Nat → ClassId) (H : Heap) (ca : Nat → Nat) (σ x : MS) (hP : va_P D vwCl (tyW G ca σ x) H) (n : Nat) (h1 : σ 1 0 = nI n) (hn : n ≤ 12) (t : Nat) (ht : t < n) : Met l yX6_allAbove (ww yX6_allAbove cX6_allAbove 4 (some .int)) (rmD 2) (roP D G H [.ref ((ca 1)), .int (nI t)]) (vp_Si (fun r => r = abvF (σ 3 t) (x 0 t) (x 1) t t)) 0 0 (fun _ => False) := by
  refine Met.ofW (cc := cX6_allAbove) (maxL := 4) (ret := (some .int)) (by decide) rfl ?_
  intro p e s m args below meth c s₁ B hml hv
  obtain ⟨rfl, hH, hK⟩ := hv
  have hx := B.exec
  have hb := B.bytes
  have hr := B.returns
  have hts : ∀ w ∈ TT, w.before _ s = true := fun w h => atoms_spec (ws := ww yX6_allAbove cX6_allAbove 4 (some .int)) B.pre w (List.mem_cons_of_mem _ h)
  have hown : s.vm.findClass RX6 = some m.cls := findClass_of_methodNamed B.named
  have hlocks := B.notSynchronized
  rw [hH]
  have hl := lv_entry ([.ref ((ca 1)), .int (nI t)]) (n := 4) (Nat.le_of_ble_eq_true rfl)
  rw [lg_entry_eq]
  generalize (lg_sl ([.ref ((ca 1)), .int (nI t)]) ++ List.replicate (4 - (lg_sl ([.ref ((ca 1)), .int (nI t)])).length) Slot.unset).toArray = ls at hl ⊢
  have hl : lv_has ls 4 [(0, .ref ((ca 1))), (1, .int (nI t))] := hl
  refine lv_iconst (v := 1) hx hb dX6_allAbove_0 (by decide) ?_
  refine lv_iload_n hx hb dX6_allAbove_1 rfl (lv_at hl 1 rfl) ?_
  refine lv_ishl hx hb dX6_allAbove_2 ?_
  refine lv_istore_n (lv' := [(2, .int (1 <<< ((nI t) &&& 31))), (0, .ref ((ca 1))), (1, .int (nI t))]) hx hb dX6_allAbove_3 rfl hl (by decide) rfl (fun ls hl => ?_)
  refine lv_iconst (v := 0) hx hb dX6_allAbove_4 (by decide) ?_
  refine lv_istore_n (lv' := [(3, .int 0), (2, .int (1 <<< ((nI t) &&& 31))), (0, .ref ((ca 1))), (1, .int (nI t))]) hx hb dX6_allAbove_5 rfl hl (by decide) rfl (fun ls hl => ?_)
  refine w_for (N := t) 6 (L := fun q9 ls => lv_has ls 4 [(3, .int (nI q9)), (2, .int (abvF (σ 3 t) (x 0 t) (x 1) t q9)), (0, .ref ((ca 1))), (1, .int (nI t))]) (fun k9 ls hk hL ih => ?_) 0 ls (Nat.zero_le _) (hl)
  have hl := hL
  have hl : lv_has ls 4 [(3, .int (nI k9)), (2, .int (abvF (σ 3 t) (x 0 t) (x 1) t k9)), (0, .ref ((ca 1))), (1, .int (nI t))] := hl
  refine lv_iload_n hx hb dX6_allAbove_6 rfl (lv_at hl 0 rfl) ?_
  refine lv_iload_n hx hb dX6_allAbove_7 rfl (lv_at hl 3 rfl) ?_
  refine lv_icmp_ge (tgt := 52) hx hb dX6_allAbove_8 (by decide) (fun c1 => ?_) (fun c1 => ?_)
  · -- 8 taken
    have c1 : t ≤ k9 := (nI_leI (a := t) (b := k9) (by omega) (by omega)).mp (by have h8 := c1; exact h8)
    refine lv_iload_n hx hb dX6_allAbove_52 rfl (lv_at hl 1 rfl) ?_
    exact ro_iret (v := abvF (σ 3 t) (x 0 t) (x 1) t k9) hx hb hr hH hlocks dX6_allAbove_53 (by rw [show k9 = t by omega])
  · -- 8 not
    have c1 : ¬ t ≤ k9 := fun h9 => c1 (by exact (nI_leI (a := t) (b := k9) (by omega) (by omega)).mpr h9)
    refine lv_iload_n hx hb dX6_allAbove_11 rfl (lv_at hl 0 rfl) ?_
    refine lv_aload_n hx hb dX6_allAbove_12 rfl (lv_at hl 2 rfl) ?_
    refine va_get (D := D) (ci := 6) (v := .int (σ 1 0)) (C := RX6) (T := TX6) (N := 5) hx hb hts iX6 hown hK.1 hP 0 rfl rfl 4 (by decide) (hts _ q_39) (fun _ h9 => h9) rfl dX6_allAbove_13 ?_
    refine lv_icmp_ge (tgt := 52) hx hb dX6_allAbove_16 (by decide) (fun c2 => ?_) (fun c2 => ?_)
    · -- 16 taken
      have c2 : n ≤ k9 := (nI_leI (a := n) (b := k9) (by omega) (by omega)).mp (by have h8 := c2; rw [h1] at h8; exact h8)
      exfalso; omega
    · -- 16 not
      have c2 : ¬ n ≤ k9 := fun h9 => c2 (by rw [h1]; exact (nI_leI (a := n) (b := k9) (by omega) (by omega)).mpr h9)
      refine lv_iload_n hx hb dX6_allAbove_19 rfl (lv_at hl 0 rfl) ?_
      refine lv_aload_n hx hb dX6_allAbove_20 rfl (lv_at hl 2 rfl) ?_
      refine lv_iload_n hx hb dX6_allAbove_21 rfl (lv_at hl 3 rfl) ?_
      refine ro_Vi (D := D) (G := G) (As := [.int (nI t)]) (rest := [.int (nI k9)]) ⟨hx, hb, hml, hown, hts⟩ (c_parentOfN l D G _ ca σ x hP n h1 hn (t) (by omega)) gV_X6_X6_parentOf hdV_X6_parentOf ⟨Nat.le_of_ble_eq_true rfl, Nat.le_of_ble_eq_true rfl⟩ hK (va_recv hK.1 hP (ci := 6) (q0 := 0) rfl rfl) rfl hl.1 rfl (Nat.le_of_ble_eq_true rfl) dX6_allAbove_22 ⟨Nat.le_of_ble_eq_true rfl, Nat.le_of_ble_eq_true rfl⟩ (fun r3 e_r3 => ?_)
      subst e_r3
      refine lv_icmp_eq (tgt := 37) hx hb dX6_allAbove_25 (by decide) (fun c4 => ?_) (fun c4 => ?_)
      · -- 25 taken
        refine lv_iload_n hx hb dX6_allAbove_37 rfl (lv_at hl 1 rfl) ?_
        refine lv_aload_n hx hb dX6_allAbove_38 rfl (lv_at hl 2 rfl) ?_
        refine va_get (D := D) (ci := 6) (v := .ref ((ca 5))) (C := RX6) (T := TX6) (N := 5) hx hb hts iX6 hown hK.1 hP 0 rfl rfl 3 (by decide) (hts _ q_38) (fun _ h9 => h9) rfl dX6_allAbove_39 ?_
        refine lv_iload_n hx hb dX6_allAbove_42 rfl (lv_at hl 0 rfl) ?_
        refine iald_n (f := x 1) hx hb hK.1 hP 4 0 rfl rfl (k9) rfl (by omega) (by decide) dX6_allAbove_43 ?_
        refine lv_ior hx hb dX6_allAbove_44 ?_
        refine lv_istore_n (lv' := [(2, .int ((abvF (σ 3 t) (x 0 t) (x 1) t k9) ||| (x 1 k9))), (3, .int (nI k9)), (0, .ref ((ca 1))), (1, .int (nI t))]) hx hb dX6_allAbove_45 rfl hl (by decide) rfl (fun ls hl => ?_)
        refine lv_iinc (v := nI (k9 + 1)) (lv' := [(3, .int (nI (k9 + 1))), (2, .int ((abvF (σ 3 t) (x 0 t) (x 1) t k9) ||| (x 1 k9))), (0, .ref ((ca 1))), (1, .int (nI t))]) hx hb dX6_allAbove_46 hl (k := 1) rfl (nI_1 _) (by decide) rfl (fun ls hl => ?_)
        refine lv_goto (tgt := 6) hx hb dX6_allAbove_49 (by decide) ?_
        rw [show (abvF (σ 3 t) (x 0 t) (x 1) t k9) ||| (x 1 k9) = abvF (σ 3 t) (x 0 t) (x 1) t (k9 + 1) from (if_pos (Or.inl c4)).symm] at hl
        exact ih _ (by omega) (lv_sub hl [0, 1, 2, 3] rfl)
      · -- 25 not
        refine lv_aload_n hx hb dX6_allAbove_28 rfl (lv_at hl 2 rfl) ?_
        refine lv_iload_n hx hb dX6_allAbove_29 rfl (lv_at hl 3 rfl) ?_
        refine lv_iload_n hx hb dX6_allAbove_30 rfl (lv_at hl 0 rfl) ?_
        refine ro_Vi (D := D) (G := G) (As := [.int (nI t), .int (nI k9)]) (rest := []) ⟨hx, hb, hml, hown, hts⟩ (c_hasFaceN l D G _ ca σ x hP n h1 hn (t) (k9) (by omega) (by omega)) gV_X6_X6_hasFace hdV_X6_hasFace ⟨Nat.le_of_ble_eq_true rfl, Nat.le_of_ble_eq_true rfl⟩ hK (va_recv hK.1 hP (ci := 6) (q0 := 0) rfl rfl) rfl hl.1 rfl (Nat.le_of_ble_eq_true rfl) dX6_allAbove_31 ⟨Nat.le_of_ble_eq_true rfl, Nat.le_of_ble_eq_true rfl⟩ (fun r5 e_r5 => ?_)
        subst e_r5
        refine lv_if_eq (tgt := 46) hx hb dX6_allAbove_34 (by decide) (fun c6 => ?_) (fun c6 => ?_)
        · -- 34 taken
          have c6 := bI_0 c6
          refine lv_iinc (v := nI (k9 + 1)) (lv' := [(3, .int (nI (k9 + 1))), (2, .int (abvF (σ 3 t) (x 0 t) (x 1) t k9)), (0, .ref ((ca 1))), (1, .int (nI t))]) hx hb dX6_allAbove_46 hl (k := 0) rfl (nI_1 _) (by decide) rfl (fun ls hl => ?_)
          refine lv_goto (tgt := 6) hx hb dX6_allAbove_49 (by decide) ?_
          rw [show abvF (σ 3 t) (x 0 t) (x 1) t k9 = abvF (σ 3 t) (x 0 t) (x 1) t (k9 + 1) from (if_neg (fun h9 => h9.elim c4 c6)).symm] at hl
          exact ih _ (by omega) (lv_sub hl [0, 1, 2, 3] rfl)
        · -- 34 not
          have c6 := bI_1 c6
          refine lv_iload_n hx hb dX6_allAbove_37 rfl (lv_at hl 1 rfl) ?_
          refine lv_aload_n hx hb dX6_allAbove_38 rfl (lv_at hl 2 rfl) ?_
          refine va_get (D := D) (ci := 6) (v := .ref ((ca 5))) (C := RX6) (T := TX6) (N := 5) hx hb hts iX6 hown hK.1 hP 0 rfl rfl 3 (by decide) (hts _ q_38) (fun _ h9 => h9) rfl dX6_allAbove_39 ?_
          refine lv_iload_n hx hb dX6_allAbove_42 rfl (lv_at hl 0 rfl) ?_
          refine iald_n (f := x 1) hx hb hK.1 hP 4 0 rfl rfl (k9) rfl (by omega) (by decide) dX6_allAbove_43 ?_
          refine lv_ior hx hb dX6_allAbove_44 ?_
          refine lv_istore_n (lv' := [(2, .int ((abvF (σ 3 t) (x 0 t) (x 1) t k9) ||| (x 1 k9))), (3, .int (nI k9)), (0, .ref ((ca 1))), (1, .int (nI t))]) hx hb dX6_allAbove_45 rfl hl (by decide) rfl (fun ls hl => ?_)
          refine lv_iinc (v := nI (k9 + 1)) (lv' := [(3, .int (nI (k9 + 1))), (2, .int ((abvF (σ 3 t) (x 0 t) (x 1) t k9) ||| (x 1 k9))), (0, .ref ((ca 1))), (1, .int (nI t))]) hx hb dX6_allAbove_46 hl (k := 1) rfl (nI_1 _) (by decide) rfl (fun ls hl => ?_)
          refine lv_goto (tgt := 6) hx hb dX6_allAbove_49 (by decide) ?_
          rw [show (abvF (σ 3 t) (x 0 t) (x 1) t k9) ||| (x 1 k9) = abvF (σ 3 t) (x 0 t) (x 1) t (k9 + 1) from (if_pos (Or.inr c6)).symm] at hl
          exact ih _ (by omega) (lv_sub hl [0, 1, 2, 3] rfl)
set_option maxHeartbeats 800000 in
set_option maxRecDepth 100000 in
theorem c_breakRule (l : Launch) (D : va_G) (G : Nat → ClassId) (ca : Nat → Nat) (bg : Value) (ea : Nat → Nat → Nat) (n k w0 : Nat) (σ x : MS) (κ : Nat → Int64) (pl : va_W) (sz : Nat) (hE : plE G ea σ κ k pl) (hI : cI σ x n k w0) (r : Nat) (hr1 : 1 ≤ r) (hr25 : r ≤ 25) : Met l yX7_breakRule (ww yX7_breakRule cX7_breakRule 2 (some .int)) (rmC 0 0 0) (cmP D G sz (cF G ca bg (enF ea k) σ x ++ pl) [.ref ((ca 0)), .int (nI r)]) (cmQi D (va_A (cF G ca bg (enF ea k) σ x ++ pl) sz) ((-40) - nI r) (fun z8 => z8 = cF G ca bg (enF ea k) (brS σ r) x ++ pl)) 0 0 (va_A (cF G ca bg (enF ea k) σ x ++ pl) sz) := by
  refine Met.ofW (cc := cX7_breakRule) (maxL := 2) (ret := (some .int)) (by decide) rfl ?_
  intro p e s m args below meth c s₁ B hml hv
  obtain ⟨rfl, hsz, hP, hK, hD0⟩ := hv
  have hx := B.exec
  have hb := B.bytes
  have hr := B.returns
  have hts : ∀ w ∈ TT, w.before _ s = true := fun w h => atoms_spec (ws := ww yX7_breakRule cX7_breakRule 2 (some .int)) B.pre w (List.mem_cons_of_mem _ h)
  have hown : s.vm.findClass RX7 = some m.cls := findClass_of_methodNamed B.named
  have hlocks := B.notSynchronized
  subst hsz
  have hD : va_D (va_A (cF G ca bg (enF ea k) σ x ++ pl) s.heap.size) (cF G ca bg (enF ea k) σ x ++ pl) := hD0.self
  generalize hAe : va_A (cF G ca bg (enF ea k) σ x ++ pl) s.heap.size = A at hD ⊢
  have hA : ∀ q : Nat, s.heap.size ≤ q → A q := fun q h => by rw [← hAe]; exact Or.inr h
  have hS : va_S A s.heap s.heap [] := va_S.rf
  have hP : va_P D vwCl (cF G ca bg (enF ea k) σ x ++ pl) s.heap := hP
  have hI0 := hI
  obtain ⟨h1, hn, h7, hk60, h22, hw, hab, hfa, hmi, hak, hrf⟩ := hI
  have hl := lv_entry ([.ref ((ca 0)), .int (nI r)]) (n := 2) (Nat.le_of_ble_eq_true rfl)
  rw [lg_entry_eq]
  generalize (lg_sl ([.ref ((ca 0)), .int (nI r)]) ++ List.replicate (2 - (lg_sl ([.ref ((ca 0)), .int (nI r)])).length) Slot.unset).toArray = ls at hl ⊢
  have hl : lv_has ls 2 [(0, .ref ((ca 0))), (1, .int (nI r))] := hl
  refine lv_iload_n hx hb dX7_breakRule_0 rfl (lv_at hl 1 rfl) ?_
  refine lv_iconst (v := 1) hx hb dX7_breakRule_1 (by decide) ?_
  refine lv_icmp_lt (tgt := 31) hx hb dX7_breakRule_2 (by decide) (fun c1 => ?_) (fun c1 => ?_)
  · -- 2 taken
    have c1 : r < 1 := (nI_ltI (a := r) (b := 1) (by omega) (by omega)).mp (by have h8 := c1; exact h8)
    exfalso; omega
  · -- 2 not
    have c1 : ¬ r < 1 := fun h9 => c1 (by exact (nI_ltI (a := r) (b := 1) (by omega) (by omega)).mpr h9)
    refine lv_iload_n hx hb dX7_breakRule_5 rfl (lv_at hl 1 rfl) ?_
    refine lv_bipush (v := 25) hx hb dX7_breakRule_6 (by decide) ?_
    refine lv_icmp_gt (tgt := 31) hx hb dX7_breakRule_8 (by decide) (fun c2 => ?_) (fun c2 => ?_)
    · -- 8 taken
      have c2 : 25 < r := (nI_ltI (a := 25) (b := r) (by omega) (by omega)).mp (by have h8 := c2; exact h8)
      exfalso; omega
    · -- 8 not
      have c2 : ¬ 25 < r := fun h9 => c2 (by exact (nI_ltI (a := 25) (b := r) (by omega) (by omega)).mpr h9)
      refine lv_aload_n hx hb dX7_breakRule_11 rfl (lv_at hl 0 rfl) ?_
      refine va_get (D := D) (ci := 7) (v := .ref ((ca 10))) (C := RX7) (T := TX7) (N := 11) hx hb hts iX7 hown hK.1 hP 0 rfl rfl 6 (by decide) (hts _ q_79) (fun _ h9 => h9) rfl dX7_breakRule_12 ?_
      refine lv_iload_n hx hb dX7_breakRule_15 rfl (lv_at hl 1 rfl) ?_
      refine lv_dup2_11 hx hb dX7_breakRule_16 rfl rfl ?_
      refine iald_n (f := σ 27) hx hb hK.1 hP 10 0 rfl rfl (r) rfl (by omega) (by decide) dX7_breakRule_17 ?_
      refine lv_iconst (v := 1) hx hb dX7_breakRule_18 (by decide) ?_
      refine lv_iadd hx hb dX7_breakRule_19 ?_
      refine iast_n hx hb hK.1 hP hD hS 10 0 rfl rfl (r) rfl (by omega) (by decide) dX7_breakRule_20 (fun H locs hP hD hS => ?_)
      have hP : va_P D vwCl (cF G ca bg (enF ea k) (su σ 27 (r) ((σ 27 r) + 1)) x ++ pl) H := hP
      have hD : va_D A (cF G ca bg (enF ea k) (su σ 27 (r) ((σ 27 r) + 1)) x ++ pl) := hD
      refine lv_aload_n hx hb dX7_breakRule_21 rfl (lv_at hl 0 rfl) ?_
      refine lv_dup hx hb dX7_breakRule_22 rfl ?_
      refine va_get (D := D) (ci := 7) (v := .int (σ 26 0)) (C := RX7) (T := TX7) (N := 11) hx hb hts iX7 hown hK.1 hP 0 rfl rfl 7 (by decide) (hts _ q_80) (fun _ h9 => h9) rfl dX7_breakRule_23 ?_
      refine lv_iconst (v := 1) hx hb dX7_breakRule_26 (by decide) ?_
      refine lv_iadd hx hb dX7_breakRule_27 ?_
      refine va_put (D := D) (ci := 7) (v := .int ((σ 26 0) + 1)) (ty := .int) (C := RX7) (T := TX7) (N := 11) hx hb hts iX7 tyX7 tyX7_ok nmX7 hown hK.1 hP hD hS 0 rfl rfl 7 (by decide) (hts _ q_80) (fun _ h9 => h9) rfl (by decide +kernel) rfl rfl (Nat.le_of_ble_eq_true rfl) dX7_breakRule_28 (fun H locs hP hD hS => ?_)
      have hP : va_P D vwCl (cF G ca bg (enF ea k) (su (su σ 27 (r) ((σ 27 r) + 1)) 26 (0) ((σ 26 0) + 1)) x ++ pl) H := hP
      have hD : va_D A (cF G ca bg (enF ea k) (su (su σ 27 (r) ((σ 27 r) + 1)) 26 (0) ((σ 26 0) + 1)) x ++ pl) := hD
      refine lv_bipush (v := -40) hx hb dX7_breakRule_31 (by decide) ?_
      refine lv_iload_n hx hb dX7_breakRule_33 rfl (lv_at hl 1 rfl) ?_
      refine lv_isub hx hb dX7_breakRule_34 ?_
      exact cm_iret (v0 := (-40) - (nI r)) hx hb hr hlocks hP hD hS dX7_breakRule_35 (rfl) (rfl)
set_option maxHeartbeats 800000 in
set_option maxRecDepth 100000 in
theorem c_addEntry (l : Launch) (D : va_G) (G : Nat → ClassId) (ca : Nat → Nat) (bg : Value) (ea : Nat → Nat → Nat) (n k w0 : Nat) (σ x : MS) (κ : Nat → Int64) (pl : va_W) (sz : Nat) (hE : plE G ea σ κ k pl) (hI : cI σ x n k w0) (v qk ci : Nat) (vs : List Value) (rr : vw_C) (hv : (cF G ca bg (enF ea k) σ x ++ pl)[qk]? = some (v, .inr (ci, vs))) (hcc : vwCl[ci]? = some rr) (hca : ∀ U, KK D G U → va_Nw (.castable rr.1 "FieldMember$Entry") U) (hk59 : k < 60) : Met l yX7_addEntry (ww yX7_addEntry cX7_addEntry 2 (some .int)) (rmC 0 0 0) (cmP D G sz (cF G ca bg (enF ea k) σ x ++ pl) [.ref ((ca 0)), .ref v]) (cmQi D (va_A (cF G ca bg (enF ea k) σ x ++ pl) sz) (nI k) (fun z8 => z8 = cF G ca bg (va_up (enF ea k) k (some v)) (su σ 7 0 (nI (k + 1))) x ++ pl)) 0 0 (va_A (cF G ca bg (enF ea k) σ x ++ pl) sz) := by
  refine Met.ofW (cc := cX7_addEntry) (maxL := 2) (ret := (some .int)) (by decide) rfl ?_
  intro p e s m args below meth c s₁ B hml hv
  obtain ⟨rfl, hsz, hP, hK, hD0⟩ := hv
  have hx := B.exec
  have hb := B.bytes
  have hr := B.returns
  have hts : ∀ w ∈ TT, w.before _ s = true := fun w h => atoms_spec (ws := ww yX7_addEntry cX7_addEntry 2 (some .int)) B.pre w (List.mem_cons_of_mem _ h)
  have hown : s.vm.findClass RX7 = some m.cls := findClass_of_methodNamed B.named
  have hlocks := B.notSynchronized
  subst hsz
  have hD : va_D (va_A (cF G ca bg (enF ea k) σ x ++ pl) s.heap.size) (cF G ca bg (enF ea k) σ x ++ pl) := hD0.self
  generalize hAe : va_A (cF G ca bg (enF ea k) σ x ++ pl) s.heap.size = A at hD ⊢
  have hA : ∀ q : Nat, s.heap.size ≤ q → A q := fun q h => by rw [← hAe]; exact Or.inr h
  have hS : va_S A s.heap s.heap [] := va_S.rf
  have hP : va_P D vwCl (cF G ca bg (enF ea k) σ x ++ pl) s.heap := hP
  have hI0 := hI
  obtain ⟨h1, hn, h7, hk60, h22, hw, hab, hfa, hmi, hak, hrf⟩ := hI
  have hl := lv_entry ([.ref ((ca 0)), .ref v]) (n := 2) (Nat.le_of_ble_eq_true rfl)
  rw [lg_entry_eq]
  generalize (lg_sl ([.ref ((ca 0)), .ref v]) ++ List.replicate (2 - (lg_sl ([.ref ((ca 0)), .ref v])).length) Slot.unset).toArray = ls at hl ⊢
  have hl : lv_has ls 2 [(0, .ref ((ca 0))), (1, .ref v)] := hl
  refine lv_aload_n hx hb dX7_addEntry_0 rfl (lv_at hl 0 rfl) ?_
  refine va_get (D := D) (ci := 7) (v := .int (σ 7 0)) (C := RX7) (T := TX7) (N := 11) hx hb hts iX7 hown hK.1 hP 0 rfl rfl 2 (by decide) (hts _ q_75) (fun _ h9 => h9) rfl dX7_addEntry_1 ?_
  refine lv_bipush (v := 60) hx hb dX7_addEntry_4 (by decide) ?_
  refine lv_icmp_lt (tgt := 12) hx hb dX7_addEntry_6 (by decide) (fun c1 => ?_) (fun c1 => ?_)
  · -- 6 taken
    have c1 : k < 60 := (nI_ltI (a := k) (b := 60) (by omega) (by omega)).mp (by have h8 := c1; rw [h7] at h8; exact h8)
    refine lv_aload_n hx hb dX7_addEntry_12 rfl (lv_at hl 0 rfl) ?_
    refine va_get (D := D) (ci := 7) (v := .ref ((ca 6))) (C := RX7) (T := TX7) (N := 11) hx hb hts iX7 hown hK.1 hP 0 rfl rfl 1 (by decide) (hts _ q_74) (fun _ h9 => h9) rfl dX7_addEntry_13 ?_
    refine lv_aload_n hx hb dX7_addEntry_16 rfl (lv_at hl 0 rfl) ?_
    refine va_get (D := D) (ci := 7) (v := .int (σ 7 0)) (C := RX7) (T := TX7) (N := 11) hx hb hts iX7 hown hK.1 hP 0 rfl rfl 2 (by decide) (hts _ q_75) (fun _ h9 => h9) rfl dX7_addEntry_17 ?_
    refine lv_aload_n hx hb dX7_addEntry_20 rfl (lv_at hl 1 rfl) ?_
    refine aast_e hx hb hK.1 hP hD hS 6 qk ci rfl (hca _ hK) hv hcc (k) h7 (by omega) dX7_addEntry_21 (fun H locs hP hD hS => ?_)
    have hP : va_P D vwCl (cF G ca bg (va_up (enF ea k) (k) (some v)) σ x ++ pl) H := hP
    have hD : va_D A (cF G ca bg (va_up (enF ea k) (k) (some v)) σ x ++ pl) := hD
    refine lv_aload_n hx hb dX7_addEntry_22 rfl (lv_at hl 0 rfl) ?_
    refine lv_dup hx hb dX7_addEntry_23 rfl ?_
    refine va_get (D := D) (ci := 7) (v := .int (σ 7 0)) (C := RX7) (T := TX7) (N := 11) hx hb hts iX7 hown hK.1 hP 0 rfl rfl 2 (by decide) (hts _ q_75) (fun _ h9 => h9) rfl dX7_addEntry_24 ?_
    refine lv_iconst (v := 1) hx hb dX7_addEntry_27 (by decide) ?_
    refine lv_iadd hx hb dX7_addEntry_28 ?_
    refine W.eq (g2 := F0 m 29 ls [.int (nI (k + 1)), .ref ((ca 0))]) (congrArg (fun z9 => F0 m 29 ls [.int z9, .ref ((ca 0))]) (n_add (a := k) (b := 1) h7 (rfl : (1 : Int32) = nI 1))) ?_
    refine va_put (D := D) (ci := 7) (v := .int (nI (k + 1))) (ty := .int) (C := RX7) (T := TX7) (N := 11) hx hb hts iX7 tyX7 tyX7_ok nmX7 hown hK.1 hP hD hS 0 rfl rfl 2 (by decide) (hts _ q_75) (fun _ h9 => h9) rfl (by decide +kernel) rfl rfl (Nat.le_of_ble_eq_true rfl) dX7_addEntry_29 (fun H locs hP hD hS => ?_)
    have hP : va_P D vwCl (cF G ca bg (va_up (enF ea k) (k) (some v)) (su σ 7 (0) (nI (k + 1))) x ++ pl) H := hP
    have hD : va_D A (cF G ca bg (va_up (enF ea k) (k) (some v)) (su σ 7 (0) (nI (k + 1))) x ++ pl) := hD
    refine lv_aload_n hx hb dX7_addEntry_32 rfl (lv_at hl 0 rfl) ?_
    refine va_get (D := D) (ci := 7) (v := .int (nI (k + 1))) (C := RX7) (T := TX7) (N := 11) hx hb hts iX7 hown hK.1 hP 0 rfl rfl 2 (by decide) (hts _ q_75) (fun _ h9 => h9) rfl dX7_addEntry_33 ?_
    refine lv_iconst (v := 1) hx hb dX7_addEntry_36 (by decide) ?_
    refine lv_isub hx hb dX7_addEntry_37 ?_
    refine W.eq (g2 := F0 m 38 ls [.int (nI k)]) (congrArg (fun z9 => F0 m 38 ls [.int z9]) (nI_pred k)) ?_
    exact cm_iret (v0 := nI k) hx hb hr hlocks hP hD hS dX7_addEntry_38 (rfl) (rfl)
  · -- 6 not
    have c1 : ¬ k < 60 := fun h9 => c1 (by rw [h7]; exact (nI_ltI (a := k) (b := 60) (by omega) (by omega)).mpr h9)
    exfalso; omega
set_option maxHeartbeats 800000 in
set_option maxRecDepth 100000 in
theorem c_argFull (l : Launch) (D : va_G) (G : Nat → ClassId) (ca : Nat → Nat) (bg : Value) (ea : Nat → Nat → Nat) (n k w0 : Nat) (σ x : MS) (κ : Nat → Int64) (pl : va_W) (sz : Nat) (hE : plE G ea σ κ k pl) (hI : cI σ x n k w0) (kind dd : Int32) (h5 : w0 = 5) : Met l yX4_add (ww yX4_add cX4_add 3 (some .int)) (rmC 1 0 0) (cmP D G sz (cF G ca bg (enF ea k) σ x ++ pl) [.ref ((ca 7)), .int kind, .int dd]) (cmQi D (va_A (cF G ca bg (enF ea k) σ x ++ pl) sz) (-15) (fun z8 => z8 = cF G ca bg (enF ea k) σ x ++ pl)) 0 0 (va_A (cF G ca bg (enF ea k) σ x ++ pl) sz) := by
  refine Met.ofW (cc := cX4_add) (maxL := 3) (ret := (some .int)) (by decide) rfl ?_
  intro p e s m args below meth c s₁ B hml hv
  obtain ⟨rfl, hsz, hP, hK, hD0⟩ := hv
  have hx := B.exec
  have hb := B.bytes
  have hr := B.returns
  have hts : ∀ w ∈ TT, w.before _ s = true := fun w h => atoms_spec (ws := ww yX4_add cX4_add 3 (some .int)) B.pre w (List.mem_cons_of_mem _ h)
  have hown : s.vm.findClass RX4 = some m.cls := findClass_of_methodNamed B.named
  have hlocks := B.notSynchronized
  subst hsz
  have hD : va_D (va_A (cF G ca bg (enF ea k) σ x ++ pl) s.heap.size) (cF G ca bg (enF ea k) σ x ++ pl) := hD0.self
  generalize hAe : va_A (cF G ca bg (enF ea k) σ x ++ pl) s.heap.size = A at hD ⊢
  have hA : ∀ q : Nat, s.heap.size ≤ q → A q := fun q h => by rw [← hAe]; exact Or.inr h
  have hS : va_S A s.heap s.heap [] := va_S.rf
  have hP : va_P D vwCl (cF G ca bg (enF ea k) σ x ++ pl) s.heap := hP
  have hI0 := hI
  obtain ⟨h1, hn, h7, hk60, h22, hw, hab, hfa, hmi, hak, hrf⟩ := hI
  have hl := lv_entry ([.ref ((ca 7)), .int kind, .int dd]) (n := 3) (Nat.le_of_ble_eq_true rfl)
  rw [lg_entry_eq]
  generalize (lg_sl ([.ref ((ca 7)), .int kind, .int dd]) ++ List.replicate (3 - (lg_sl ([.ref ((ca 7)), .int kind, .int dd])).length) Slot.unset).toArray = ls at hl ⊢
  have hl : lv_has ls 3 [(0, .ref ((ca 7))), (1, .int kind), (2, .int dd)] := hl
  refine lv_aload_n hx hb dX4_add_0 rfl (lv_at hl 0 rfl) ?_
  have hPf : va_P D vwCl (cF G ca bg (enF ea k) σ x) _ := cF_of hP
  have hEf : ∀ e, e < k → va_P D vwCl (eW G (ea e) σ κ e) _ := plE_P hP hE
  refine ro_Vi (D := D) (G := G) (As := []) (rest := []) ⟨hx, hb, hml, hown, hts⟩ (c_isFull l D G _ _ _ _ _ _ _ (by omega) (cF_ar hPf h22) ) gV_X4_X4_isFull hdV_X4_isFull ⟨Nat.le_of_ble_eq_true rfl, Nat.le_of_ble_eq_true rfl⟩ hK (va_recv hK.1 hP (ci := 5) (q0 := 7) rfl rfl) rfl hl.1 rfl (Nat.le_of_ble_eq_true rfl) dX4_add_1 ⟨Nat.le_of_ble_eq_true rfl, Nat.le_of_ble_eq_true rfl⟩ (fun r1 e_r1 => ?_)
  subst e_r1
  refine W.eq (g2 := F0 m 4 ls [.int (bI (w0 = 5))]) rfl ?_
  refine lv_if_eq (tgt := 10) hx hb dX4_add_4 (by decide) (fun c2 => ?_) (fun c2 => ?_)
  · -- 4 taken
    have c2 := bI_0 c2
    exact absurd h5 c2
  · -- 4 not
    have c2 := bI_1 c2
    refine lv_bipush (v := -15) hx hb dX4_add_7 (by decide) ?_
    exact cm_iret (v0 := (-15)) hx hb hr hlocks hP hD hS dX4_add_9 (rfl) (rfl)
set_option maxHeartbeats 800000 in
set_option maxRecDepth 100000 in
theorem c_argAdd (l : Launch) (D : va_G) (G : Nat → ClassId) (ca : Nat → Nat) (bg : Value) (ea : Nat → Nat → Nat) (n k w0 : Nat) (σ x : MS) (κ : Nat → Int64) (pl : va_W) (sz : Nat) (hE : plE G ea σ κ k pl) (hI : cI σ x n k w0) (kind dd : Int32) (h5 : ¬ w0 = 5) : Met l yX4_add (ww yX4_add cX4_add 3 (some .int)) (rmC 1 0 0) (cmP D G sz (cF G ca bg (enF ea k) σ x ++ pl) [.ref ((ca 7)), .int kind, .int dd]) (cmQi D (va_A (cF G ca bg (enF ea k) σ x ++ pl) sz) (nI (w0 + 1)) (fun z8 => z8 = cF G ca bg (enF ea k) (su (su (su σ 23 w0 kind) 24 w0 dd) 22 0 (nI (w0 + 1))) x ++ pl)) 0 0 (va_A (cF G ca bg (enF ea k) σ x ++ pl) sz) := by
  refine Met.ofW (cc := cX4_add) (maxL := 3) (ret := (some .int)) (by decide) rfl ?_
  intro p e s m args below meth c s₁ B hml hv
  obtain ⟨rfl, hsz, hP, hK, hD0⟩ := hv
  have hx := B.exec
  have hb := B.bytes
  have hr := B.returns
  have hts : ∀ w ∈ TT, w.before _ s = true := fun w h => atoms_spec (ws := ww yX4_add cX4_add 3 (some .int)) B.pre w (List.mem_cons_of_mem _ h)
  have hown : s.vm.findClass RX4 = some m.cls := findClass_of_methodNamed B.named
  have hlocks := B.notSynchronized
  subst hsz
  have hD : va_D (va_A (cF G ca bg (enF ea k) σ x ++ pl) s.heap.size) (cF G ca bg (enF ea k) σ x ++ pl) := hD0.self
  generalize hAe : va_A (cF G ca bg (enF ea k) σ x ++ pl) s.heap.size = A at hD ⊢
  have hA : ∀ q : Nat, s.heap.size ≤ q → A q := fun q h => by rw [← hAe]; exact Or.inr h
  have hS : va_S A s.heap s.heap [] := va_S.rf
  have hP : va_P D vwCl (cF G ca bg (enF ea k) σ x ++ pl) s.heap := hP
  have hI0 := hI
  obtain ⟨h1, hn, h7, hk60, h22, hw, hab, hfa, hmi, hak, hrf⟩ := hI
  have hl := lv_entry ([.ref ((ca 7)), .int kind, .int dd]) (n := 3) (Nat.le_of_ble_eq_true rfl)
  rw [lg_entry_eq]
  generalize (lg_sl ([.ref ((ca 7)), .int kind, .int dd]) ++ List.replicate (3 - (lg_sl ([.ref ((ca 7)), .int kind, .int dd])).length) Slot.unset).toArray = ls at hl ⊢
  have hl : lv_has ls 3 [(0, .ref ((ca 7))), (1, .int kind), (2, .int dd)] := hl
  refine lv_aload_n hx hb dX4_add_0 rfl (lv_at hl 0 rfl) ?_
  have hPf : va_P D vwCl (cF G ca bg (enF ea k) σ x) _ := cF_of hP
  have hEf : ∀ e, e < k → va_P D vwCl (eW G (ea e) σ κ e) _ := plE_P hP hE
  refine ro_Vi (D := D) (G := G) (As := []) (rest := []) ⟨hx, hb, hml, hown, hts⟩ (c_isFull l D G _ _ _ _ _ _ _ (by omega) (cF_ar hPf h22) ) gV_X4_X4_isFull hdV_X4_isFull ⟨Nat.le_of_ble_eq_true rfl, Nat.le_of_ble_eq_true rfl⟩ hK (va_recv hK.1 hP (ci := 5) (q0 := 7) rfl rfl) rfl hl.1 rfl (Nat.le_of_ble_eq_true rfl) dX4_add_1 ⟨Nat.le_of_ble_eq_true rfl, Nat.le_of_ble_eq_true rfl⟩ (fun r1 e_r1 => ?_)
  subst e_r1
  refine W.eq (g2 := F0 m 4 ls [.int (bI (w0 = 5))]) rfl ?_
  refine lv_if_eq (tgt := 10) hx hb dX4_add_4 (by decide) (fun c2 => ?_) (fun c2 => ?_)
  · -- 4 taken
    have c2 := bI_0 c2
    refine lv_aload_n hx hb dX4_add_10 rfl (lv_at hl 0 rfl) ?_
    refine va_get (D := D) (ci := 5) (v := .ref ((ca 8))) (C := RX4) (T := TX4) (N := 3) hx hb hts iX4 hown hK.1 hP 7 rfl rfl 0 (by decide) (hts _ q_61) (fun _ h9 => h9) rfl dX4_add_11 ?_
    refine lv_aload_n hx hb dX4_add_14 rfl (lv_at hl 0 rfl) ?_
    refine va_get (D := D) (ci := 5) (v := .int (σ 22 0)) (C := RX4) (T := TX4) (N := 3) hx hb hts iX4 hown hK.1 hP 7 rfl rfl 2 (by decide) (hts _ q_63) (fun _ h9 => h9) rfl dX4_add_15 ?_
    refine lv_iload_n hx hb dX4_add_18 rfl (lv_at hl 1 rfl) ?_
    refine iast_n hx hb hK.1 hP hD hS 8 0 rfl rfl (w0) h22 (by omega) (by decide) dX4_add_19 (fun H locs hP hD hS => ?_)
    have hP : va_P D vwCl (cF G ca bg (enF ea k) (su σ 23 (w0) (kind)) x ++ pl) H := hP
    have hD : va_D A (cF G ca bg (enF ea k) (su σ 23 (w0) (kind)) x ++ pl) := hD
    refine lv_aload_n hx hb dX4_add_20 rfl (lv_at hl 0 rfl) ?_
    refine va_get (D := D) (ci := 5) (v := .ref ((ca 9))) (C := RX4) (T := TX4) (N := 3) hx hb hts iX4 hown hK.1 hP 7 rfl rfl 1 (by decide) (hts _ q_62) (fun _ h9 => h9) rfl dX4_add_21 ?_
    refine lv_aload_n hx hb dX4_add_24 rfl (lv_at hl 0 rfl) ?_
    refine va_get (D := D) (ci := 5) (v := .int (σ 22 0)) (C := RX4) (T := TX4) (N := 3) hx hb hts iX4 hown hK.1 hP 7 rfl rfl 2 (by decide) (hts _ q_63) (fun _ h9 => h9) rfl dX4_add_25 ?_
    refine lv_iload_n hx hb dX4_add_28 rfl (lv_at hl 2 rfl) ?_
    refine iast_n hx hb hK.1 hP hD hS 9 0 rfl rfl (w0) h22 (by omega) (by decide) dX4_add_29 (fun H locs hP hD hS => ?_)
    have hP : va_P D vwCl (cF G ca bg (enF ea k) (su (su σ 23 (w0) (kind)) 24 (w0) (dd)) x ++ pl) H := hP
    have hD : va_D A (cF G ca bg (enF ea k) (su (su σ 23 (w0) (kind)) 24 (w0) (dd)) x ++ pl) := hD
    refine lv_aload_n hx hb dX4_add_30 rfl (lv_at hl 0 rfl) ?_
    refine lv_dup hx hb dX4_add_31 rfl ?_
    refine va_get (D := D) (ci := 5) (v := .int (σ 22 0)) (C := RX4) (T := TX4) (N := 3) hx hb hts iX4 hown hK.1 hP 7 rfl rfl 2 (by decide) (hts _ q_63) (fun _ h9 => h9) rfl dX4_add_32 ?_
    refine lv_iconst (v := 1) hx hb dX4_add_35 (by decide) ?_
    refine lv_iadd hx hb dX4_add_36 ?_
    refine W.eq (g2 := F0 m 37 ls [.int (nI (w0 + 1)), .ref ((ca 7))]) (congrArg (fun z9 => F0 m 37 ls [.int z9, .ref ((ca 7))]) (n_add (a := w0) (b := 1) h22 (rfl : (1 : Int32) = nI 1))) ?_
    refine va_put (D := D) (ci := 5) (v := .int (nI (w0 + 1))) (ty := .int) (C := RX4) (T := TX4) (N := 3) hx hb hts iX4 tyX4 tyX4_ok nmX4 hown hK.1 hP hD hS 7 rfl rfl 2 (by decide) (hts _ q_63) (fun _ h9 => h9) rfl (by decide +kernel) rfl rfl (Nat.le_of_ble_eq_true rfl) dX4_add_37 (fun H locs hP hD hS => ?_)
    have hP : va_P D vwCl (cF G ca bg (enF ea k) (su (su (su σ 23 (w0) (kind)) 24 (w0) (dd)) 22 (0) (nI (w0 + 1))) x ++ pl) H := hP
    have hD : va_D A (cF G ca bg (enF ea k) (su (su (su σ 23 (w0) (kind)) 24 (w0) (dd)) 22 (0) (nI (w0 + 1))) x ++ pl) := hD
    refine lv_aload_n hx hb dX4_add_40 rfl (lv_at hl 0 rfl) ?_
    refine va_get (D := D) (ci := 5) (v := .int (nI (w0 + 1))) (C := RX4) (T := TX4) (N := 3) hx hb hts iX4 hown hK.1 hP 7 rfl rfl 2 (by decide) (hts _ q_63) (fun _ h9 => h9) rfl dX4_add_41 ?_
    exact cm_iret (v0 := nI (w0 + 1)) hx hb hr hlocks hP hD hS dX4_add_44 (rfl) (rfl)
  · -- 4 not
    have c2 := bI_1 c2
    exact absurd c2 h5
set_option maxHeartbeats 800000 in
set_option maxRecDepth 100000 in
theorem c_argEmpty (l : Launch) (D : va_G) (G : Nat → ClassId) (ca : Nat → Nat) (bg : Value) (ea : Nat → Nat → Nat) (n k w0 : Nat) (σ x : MS) (κ : Nat → Int64) (pl : va_W) (sz : Nat) (hE : plE G ea σ κ k pl) (hI : cI σ x n k w0)  : Met l yX4_empty (ww yX4_empty cX4_empty 1 none) (rmC 0 0 0) (cmP D G sz (cF G ca bg (enF ea k) σ x ++ pl) [.ref ((ca 7))]) (cmQv D (va_A (cF G ca bg (enF ea k) σ x ++ pl) sz) (fun z8 => z8 = cF G ca bg (enF ea k) (su σ 22 0 0) x ++ pl)) 0 0 (va_A (cF G ca bg (enF ea k) σ x ++ pl) sz) := by
  refine Met.ofW (cc := cX4_empty) (maxL := 1) (ret := none) (by decide) rfl ?_
  intro p e s m args below meth c s₁ B hml hv
  obtain ⟨rfl, hsz, hP, hK, hD0⟩ := hv
  have hx := B.exec
  have hb := B.bytes
  have hr := B.returns
  have hts : ∀ w ∈ TT, w.before _ s = true := fun w h => atoms_spec (ws := ww yX4_empty cX4_empty 1 none) B.pre w (List.mem_cons_of_mem _ h)
  have hown : s.vm.findClass RX4 = some m.cls := findClass_of_methodNamed B.named
  have hlocks := B.notSynchronized
  subst hsz
  have hD : va_D (va_A (cF G ca bg (enF ea k) σ x ++ pl) s.heap.size) (cF G ca bg (enF ea k) σ x ++ pl) := hD0.self
  generalize hAe : va_A (cF G ca bg (enF ea k) σ x ++ pl) s.heap.size = A at hD ⊢
  have hA : ∀ q : Nat, s.heap.size ≤ q → A q := fun q h => by rw [← hAe]; exact Or.inr h
  have hS : va_S A s.heap s.heap [] := va_S.rf
  have hP : va_P D vwCl (cF G ca bg (enF ea k) σ x ++ pl) s.heap := hP
  have hI0 := hI
  obtain ⟨h1, hn, h7, hk60, h22, hw, hab, hfa, hmi, hak, hrf⟩ := hI
  have hl := lv_entry ([.ref ((ca 7))]) (n := 1) (Nat.le_of_ble_eq_true rfl)
  rw [lg_entry_eq]
  generalize (lg_sl ([.ref ((ca 7))]) ++ List.replicate (1 - (lg_sl ([.ref ((ca 7))])).length) Slot.unset).toArray = ls at hl ⊢
  have hl : lv_has ls 1 [(0, .ref ((ca 7)))] := hl
  refine lv_aload_n hx hb dX4_empty_0 rfl (lv_at hl 0 rfl) ?_
  refine lv_iconst (v := 0) hx hb dX4_empty_1 (by decide) ?_
  refine va_put (D := D) (ci := 5) (v := .int 0) (ty := .int) (C := RX4) (T := TX4) (N := 3) hx hb hts iX4 tyX4 tyX4_ok nmX4 hown hK.1 hP hD hS 7 rfl rfl 2 (by decide) (hts _ q_63) (fun _ h9 => h9) rfl (by decide +kernel) rfl rfl (Nat.le_of_ble_eq_true rfl) dX4_empty_2 (fun H locs hP hD hS => ?_)
  have hP : va_P D vwCl (cF G ca bg (enF ea k) (su σ 22 (0) (0)) x ++ pl) H := hP
  have hD : va_D A (cF G ca bg (enF ea k) (su σ 22 (0) (0)) x ++ pl) := hD
  exact cm_vret hx hb hr hlocks hP hD hS dX4_empty_5 (rfl)
set_option maxHeartbeats 800000 in
set_option maxRecDepth 100000 in
theorem c_typesEmpty (l : Launch) (D : va_G) (G : Nat → ClassId) (ca : Nat → Nat) (bg : Value) (ea : Nat → Nat → Nat) (n k w0 : Nat) (σ x : MS) (κ : Nat → Int64) (pl : va_W) (sz : Nat) (hE : plE G ea σ κ k pl) (hI : cI σ x n k w0)  : Met l yX6_empty (ww yX6_empty cX6_empty 1 none) (rmC 0 0 0) (cmP D G sz (cF G ca bg (enF ea k) σ x ++ pl) [.ref ((ca 1))]) (cmQv D (va_A (cF G ca bg (enF ea k) σ x ++ pl) sz) (fun z8 => z8 = cF G ca bg (enF ea k) (su σ 1 0 0) x ++ pl)) 0 0 (va_A (cF G ca bg (enF ea k) σ x ++ pl) sz) := by
  refine Met.ofW (cc := cX6_empty) (maxL := 1) (ret := none) (by decide) rfl ?_
  intro p e s m args below meth c s₁ B hml hv
  obtain ⟨rfl, hsz, hP, hK, hD0⟩ := hv
  have hx := B.exec
  have hb := B.bytes
  have hr := B.returns
  have hts : ∀ w ∈ TT, w.before _ s = true := fun w h => atoms_spec (ws := ww yX6_empty cX6_empty 1 none) B.pre w (List.mem_cons_of_mem _ h)
  have hown : s.vm.findClass RX6 = some m.cls := findClass_of_methodNamed B.named
  have hlocks := B.notSynchronized
  subst hsz
  have hD : va_D (va_A (cF G ca bg (enF ea k) σ x ++ pl) s.heap.size) (cF G ca bg (enF ea k) σ x ++ pl) := hD0.self
  generalize hAe : va_A (cF G ca bg (enF ea k) σ x ++ pl) s.heap.size = A at hD ⊢
  have hA : ∀ q : Nat, s.heap.size ≤ q → A q := fun q h => by rw [← hAe]; exact Or.inr h
  have hS : va_S A s.heap s.heap [] := va_S.rf
  have hP : va_P D vwCl (cF G ca bg (enF ea k) σ x ++ pl) s.heap := hP
  have hI0 := hI
  obtain ⟨h1, hn, h7, hk60, h22, hw, hab, hfa, hmi, hak, hrf⟩ := hI
  have hl := lv_entry ([.ref ((ca 1))]) (n := 1) (Nat.le_of_ble_eq_true rfl)
  rw [lg_entry_eq]
  generalize (lg_sl ([.ref ((ca 1))]) ++ List.replicate (1 - (lg_sl ([.ref ((ca 1))])).length) Slot.unset).toArray = ls at hl ⊢
  have hl : lv_has ls 1 [(0, .ref ((ca 1)))] := hl
  refine lv_aload_n hx hb dX6_empty_0 rfl (lv_at hl 0 rfl) ?_
  refine lv_iconst (v := 0) hx hb dX6_empty_1 (by decide) ?_
  refine va_put (D := D) (ci := 6) (v := .int 0) (ty := .int) (C := RX6) (T := TX6) (N := 5) hx hb hts iX6 tyX6 tyX6_ok nmX6 hown hK.1 hP hD hS 1 rfl rfl 4 (by decide) (hts _ q_39) (fun _ h9 => h9) rfl (by decide +kernel) rfl rfl (Nat.le_of_ble_eq_true rfl) dX6_empty_2 (fun H locs hP hD hS => ?_)
  have hP : va_P D vwCl (cF G ca bg (enF ea k) (su σ 1 (0) (0)) x ++ pl) H := hP
  have hD : va_D A (cF G ca bg (enF ea k) (su σ 1 (0) (0)) x ++ pl) := hD
  exact cm_vret hx hb hr hlocks hP hD hS dX6_empty_5 (rfl)
set_option maxHeartbeats 800000 in
set_option maxRecDepth 100000 in
theorem c_bgAdd (l : Launch) (D : va_G) (G : Nat → ClassId) (ca : Nat → Nat) (bg : Value) (en : Nat → Option Nat) (σ x : MS) (ba : Nat → Nat) (tt nm kd dd mk bd vr zi : Int32) (f g : Nat → Int32) (me : Int32) (pl : va_W) (sz z : Nat) (hzi : zi = nI z) (hz : z < 5) (kind di : Int32) : Met l yX4_add (ww yX4_add cX4_add 3 (some .int)) (rmC 1 0 0) (cmP D G sz (cF G ca bg en σ x ++ (bgW G ba tt nm kd dd mk bd vr zi f g me ++ pl)) [.ref ((ba 1)), .int kind, .int di]) (cmQi D (va_A (cF G ca bg en σ x ++ (bgW G ba tt nm kd dd mk bd vr zi f g me ++ pl)) sz) (nI (z + 1)) (fun z8 => z8 = cF G ca bg en σ x ++ (bgW G ba tt nm kd dd mk bd vr (nI (z + 1)) (upd f z kind) (upd g z di) me ++ pl))) 0 0 (va_A (cF G ca bg en σ x ++ (bgW G ba tt nm kd dd mk bd vr zi f g me ++ pl)) sz) := by
  refine Met.ofW (cc := cX4_add) (maxL := 3) (ret := (some .int)) (by decide) rfl ?_
  intro p e s m args below meth c s₁ B hml hv
  obtain ⟨rfl, hsz, hP, hK, hD0⟩ := hv
  have hx := B.exec
  have hb := B.bytes
  have hr := B.returns
  have hts : ∀ w ∈ TT, w.before _ s = true := fun w h => atoms_spec (ws := ww yX4_add cX4_add 3 (some .int)) B.pre w (List.mem_cons_of_mem _ h)
  have hown : s.vm.findClass RX4 = some m.cls := findClass_of_methodNamed B.named
  have hlocks := B.notSynchronized
  subst hsz
  have hD : va_D (va_A (cF G ca bg en σ x ++ (bgW G ba tt nm kd dd mk bd vr zi f g me ++ pl)) s.heap.size) (cF G ca bg en σ x ++ (bgW G ba tt nm kd dd mk bd vr zi f g me ++ pl)) := hD0.self
  generalize hAe : va_A (cF G ca bg en σ x ++ (bgW G ba tt nm kd dd mk bd vr zi f g me ++ pl)) s.heap.size = A at hD ⊢
  have hA : ∀ q : Nat, s.heap.size ≤ q → A q := fun q h => by rw [← hAe]; exact Or.inr h
  have hS : va_S A s.heap s.heap [] := va_S.rf
  have hP : va_P D vwCl (cF G ca bg en σ x ++ (bgW G ba tt nm kd dd mk bd vr zi f g me ++ pl)) s.heap := hP
  have hl := lv_entry ([.ref ((ba 1)), .int kind, .int di]) (n := 3) (Nat.le_of_ble_eq_true rfl)
  rw [lg_entry_eq]
  generalize (lg_sl ([.ref ((ba 1)), .int kind, .int di]) ++ List.replicate (3 - (lg_sl ([.ref ((ba 1)), .int kind, .int di])).length) Slot.unset).toArray = ls at hl ⊢
  have hl : lv_has ls 3 [(0, .ref ((ba 1))), (1, .int kind), (2, .int di)] := hl
  refine lv_aload_n hx hb dX4_add_0 rfl (lv_at hl 0 rfl) ?_
  refine ro_Vi (D := D) (G := G) (As := []) (rest := []) ⟨hx, hb, hml, hown, hts⟩ (c_isFull l D G _ _ _ _ _ _ _ (by omega) (bg_row hP hzi) ) gV_X4_X4_isFull hdV_X4_isFull ⟨Nat.le_of_ble_eq_true rfl, Nat.le_of_ble_eq_true rfl⟩ hK (va_recv hK.1 hP (ci := 5) (q0 := 15) rfl rfl) rfl hl.1 rfl (Nat.le_of_ble_eq_true rfl) dX4_add_1 ⟨Nat.le_of_ble_eq_true rfl, Nat.le_of_ble_eq_true rfl⟩ (fun r1 e_r1 => ?_)
  subst e_r1
  refine W.eq (g2 := F0 m 4 ls [.int (bI (z = 5))]) rfl ?_
  refine lv_if_eq (tgt := 10) hx hb dX4_add_4 (by decide) (fun c2 => ?_) (fun c2 => ?_)
  · -- 4 taken
    have c2 := bI_0 c2
    refine lv_aload_n hx hb dX4_add_10 rfl (lv_at hl 0 rfl) ?_
    refine va_get (D := D) (ci := 5) (v := .ref ((ba 2))) (C := RX4) (T := TX4) (N := 3) hx hb hts iX4 hown hK.1 hP 15 rfl rfl 0 (by decide) (hts _ q_61) (fun _ h9 => h9) rfl dX4_add_11 ?_
    refine lv_aload_n hx hb dX4_add_14 rfl (lv_at hl 0 rfl) ?_
    refine va_get (D := D) (ci := 5) (v := .int zi) (C := RX4) (T := TX4) (N := 3) hx hb hts iX4 hown hK.1 hP 15 rfl rfl 2 (by decide) (hts _ q_63) (fun _ h9 => h9) rfl dX4_add_15 ?_
    refine lv_iload_n hx hb dX4_add_18 rfl (lv_at hl 1 rfl) ?_
    refine iast_n hx hb hK.1 hP hD hS 16 0 rfl rfl (z) hzi (by omega) (by decide) dX4_add_19 (fun H locs hP hD hS => ?_)
    have hP : va_P D vwCl (cF G ca bg en σ x ++ (bgW G ba tt nm kd dd mk bd vr zi (upd (f) (z) (kind)) g me ++ pl)) H := hP
    have hD : va_D A (cF G ca bg en σ x ++ (bgW G ba tt nm kd dd mk bd vr zi (upd (f) (z) (kind)) g me ++ pl)) := hD
    refine lv_aload_n hx hb dX4_add_20 rfl (lv_at hl 0 rfl) ?_
    refine va_get (D := D) (ci := 5) (v := .ref ((ba 3))) (C := RX4) (T := TX4) (N := 3) hx hb hts iX4 hown hK.1 hP 15 rfl rfl 1 (by decide) (hts _ q_62) (fun _ h9 => h9) rfl dX4_add_21 ?_
    refine lv_aload_n hx hb dX4_add_24 rfl (lv_at hl 0 rfl) ?_
    refine va_get (D := D) (ci := 5) (v := .int zi) (C := RX4) (T := TX4) (N := 3) hx hb hts iX4 hown hK.1 hP 15 rfl rfl 2 (by decide) (hts _ q_63) (fun _ h9 => h9) rfl dX4_add_25 ?_
    refine lv_iload_n hx hb dX4_add_28 rfl (lv_at hl 2 rfl) ?_
    refine iast_n hx hb hK.1 hP hD hS 17 0 rfl rfl (z) hzi (by omega) (by decide) dX4_add_29 (fun H locs hP hD hS => ?_)
    have hP : va_P D vwCl (cF G ca bg en σ x ++ (bgW G ba tt nm kd dd mk bd vr zi (upd (f) (z) (kind)) (upd (g) (z) (di)) me ++ pl)) H := hP
    have hD : va_D A (cF G ca bg en σ x ++ (bgW G ba tt nm kd dd mk bd vr zi (upd (f) (z) (kind)) (upd (g) (z) (di)) me ++ pl)) := hD
    refine lv_aload_n hx hb dX4_add_30 rfl (lv_at hl 0 rfl) ?_
    refine lv_dup hx hb dX4_add_31 rfl ?_
    refine va_get (D := D) (ci := 5) (v := .int zi) (C := RX4) (T := TX4) (N := 3) hx hb hts iX4 hown hK.1 hP 15 rfl rfl 2 (by decide) (hts _ q_63) (fun _ h9 => h9) rfl dX4_add_32 ?_
    refine lv_iconst (v := 1) hx hb dX4_add_35 (by decide) ?_
    refine lv_iadd hx hb dX4_add_36 ?_
    refine W.eq (g2 := F0 m 37 ls [.int (nI (z + 1)), .ref ((ba 1))]) (congrArg (fun z9 => F0 m 37 ls [.int z9, .ref ((ba 1))]) (n_add (a := z) (b := 1) hzi (rfl : (1 : Int32) = nI 1))) ?_
    refine va_put (D := D) (ci := 5) (v := .int (nI (z + 1))) (ty := .int) (C := RX4) (T := TX4) (N := 3) hx hb hts iX4 tyX4 tyX4_ok nmX4 hown hK.1 hP hD hS 15 rfl rfl 2 (by decide) (hts _ q_63) (fun _ h9 => h9) rfl (by decide +kernel) rfl rfl (Nat.le_of_ble_eq_true rfl) dX4_add_37 (fun H locs hP hD hS => ?_)
    have hP : va_P D vwCl (cF G ca bg en σ x ++ (bgW G ba tt nm kd dd mk bd vr (nI (z + 1)) (upd (f) (z) (kind)) (upd (g) (z) (di)) me ++ pl)) H := hP
    have hD : va_D A (cF G ca bg en σ x ++ (bgW G ba tt nm kd dd mk bd vr (nI (z + 1)) (upd (f) (z) (kind)) (upd (g) (z) (di)) me ++ pl)) := hD
    refine lv_aload_n hx hb dX4_add_40 rfl (lv_at hl 0 rfl) ?_
    refine va_get (D := D) (ci := 5) (v := .int (nI (z + 1))) (C := RX4) (T := TX4) (N := 3) hx hb hts iX4 hown hK.1 hP 15 rfl rfl 2 (by decide) (hts _ q_63) (fun _ h9 => h9) rfl dX4_add_41 ?_
    exact cm_iret (v0 := nI (z + 1)) hx hb hr hlocks hP hD hS dX4_add_44 (rfl) (rfl)
  · -- 4 not
    have c2 := bI_1 c2
    exfalso; omega
set_option maxHeartbeats 800000 in
set_option maxRecDepth 100000 in
theorem c_tAddFull (l : Launch) (D : va_G) (G : Nat → ClassId) (ca : Nat → Nat) (bg : Value) (ea : Nat → Nat → Nat) (n k w0 : Nat) (σ x : MS) (κ : Nat → Int64) (pl : va_W) (sz : Nat) (hE : plE G ea σ κ k pl) (hI : cI σ x n k w0) (sort parent : Int32) (hn12 : n = 12) : Met l yX6_add (ww yX6_add cX6_add 3 (some .int)) (rmC 3 0 0) (cmP D G sz (cF G ca bg (enF ea k) σ x ++ pl) [.ref ((ca 1)), .int sort, .int parent]) (cmQi D (va_A (cF G ca bg (enF ea k) σ x ++ pl) sz) (-15) (fun z8 => z8 = cF G ca bg (enF ea k) σ x ++ pl)) 0 0 (va_A (cF G ca bg (enF ea k) σ x ++ pl) sz) := by
  refine Met.ofW (cc := cX6_add) (maxL := 3) (ret := (some .int)) (by decide) rfl ?_
  intro p e s m args below meth c s₁ B hml hv
  obtain ⟨rfl, hsz, hP, hK, hD0⟩ := hv
  have hx := B.exec
  have hb := B.bytes
  have hr := B.returns
  have hts : ∀ w ∈ TT, w.before _ s = true := fun w h => atoms_spec (ws := ww yX6_add cX6_add 3 (some .int)) B.pre w (List.mem_cons_of_mem _ h)
  have hown : s.vm.findClass RX6 = some m.cls := findClass_of_methodNamed B.named
  have hlocks := B.notSynchronized
  subst hsz
  have hD : va_D (va_A (cF G ca bg (enF ea k) σ x ++ pl) s.heap.size) (cF G ca bg (enF ea k) σ x ++ pl) := hD0.self
  generalize hAe : va_A (cF G ca bg (enF ea k) σ x ++ pl) s.heap.size = A at hD ⊢
  have hA : ∀ q : Nat, s.heap.size ≤ q → A q := fun q h => by rw [← hAe]; exact Or.inr h
  have hS : va_S A s.heap s.heap [] := va_S.rf
  have hP : va_P D vwCl (cF G ca bg (enF ea k) σ x ++ pl) s.heap := hP
  have hI0 := hI
  obtain ⟨h1, hn, h7, hk60, h22, hw, hab, hfa, hmi, hak, hrf⟩ := hI
  have hl := lv_entry ([.ref ((ca 1)), .int sort, .int parent]) (n := 3) (Nat.le_of_ble_eq_true rfl)
  rw [lg_entry_eq]
  generalize (lg_sl ([.ref ((ca 1)), .int sort, .int parent]) ++ List.replicate (3 - (lg_sl ([.ref ((ca 1)), .int sort, .int parent])).length) Slot.unset).toArray = ls at hl ⊢
  have hl : lv_has ls 3 [(0, .ref ((ca 1))), (1, .int sort), (2, .int parent)] := hl
  refine lv_aload_n hx hb dX6_add_0 rfl (lv_at hl 0 rfl) ?_
  refine va_get (D := D) (ci := 6) (v := .int (σ 1 0)) (C := RX6) (T := TX6) (N := 5) hx hb hts iX6 hown hK.1 hP 1 rfl rfl 4 (by decide) (hts _ q_39) (fun _ h9 => h9) rfl dX6_add_1 ?_
  refine lv_bipush (v := 12) hx hb dX6_add_4 (by decide) ?_
  refine lv_icmp_lt (tgt := 12) hx hb dX6_add_6 (by decide) (fun c1 => ?_) (fun c1 => ?_)
  · -- 6 taken
    have c1 : n < 12 := (nI_ltI (a := n) (b := 12) (by omega) (by omega)).mp (by have h8 := c1; rw [h1] at h8; exact h8)
    exfalso; omega
  · -- 6 not
    have c1 : ¬ n < 12 := fun h9 => c1 (by rw [h1]; exact (nI_ltI (a := n) (b := 12) (by omega) (by omega)).mpr h9)
    refine lv_bipush (v := -15) hx hb dX6_add_9 (by decide) ?_
    exact cm_iret (v0 := (-15)) hx hb hr hlocks hP hD hS dX6_add_11 (rfl) (rfl)
set_option maxHeartbeats 800000 in
set_option maxRecDepth 100000 in
theorem c_tAdd (l : Launch) (D : va_G) (G : Nat → ClassId) (ca : Nat → Nat) (bg : Value) (ea : Nat → Nat → Nat) (n k w0 : Nat) (σ x : MS) (κ : Nat → Int64) (pl : va_W) (sz : Nat) (hE : plE G ea σ κ k pl) (hI : cI σ x n k w0) (sort parent : Int32) (hn12 : n < 12) : Met l yX6_add (ww yX6_add cX6_add 3 (some .int)) (rmC 3 0 0) (cmP D G sz (cF G ca bg (enF ea k) σ x ++ pl) [.ref ((ca 1)), .int sort, .int parent]) (cmQi D (va_A (cF G ca bg (enF ea k) σ x ++ pl) sz) (nI n) (fun z8 => z8 = cF G ca bg (enF ea k) (su (su (su σ 2 n sort) 3 n parent) 1 0 (nI (n + 1))) (su (su x 0 n 0) 1 n (abvF parent 0 (x 1) n n)) ++ pl)) 0 0 (va_A (cF G ca bg (enF ea k) σ x ++ pl) sz) := by
  refine Met.ofW (cc := cX6_add) (maxL := 3) (ret := (some .int)) (by decide) rfl ?_
  intro p e s m args below meth c s₁ B hml hv
  obtain ⟨rfl, hsz, hP, hK, hD0⟩ := hv
  have hx := B.exec
  have hb := B.bytes
  have hr := B.returns
  have hts : ∀ w ∈ TT, w.before _ s = true := fun w h => atoms_spec (ws := ww yX6_add cX6_add 3 (some .int)) B.pre w (List.mem_cons_of_mem _ h)
  have hown : s.vm.findClass RX6 = some m.cls := findClass_of_methodNamed B.named
  have hlocks := B.notSynchronized
  subst hsz
  have hD : va_D (va_A (cF G ca bg (enF ea k) σ x ++ pl) s.heap.size) (cF G ca bg (enF ea k) σ x ++ pl) := hD0.self
  generalize hAe : va_A (cF G ca bg (enF ea k) σ x ++ pl) s.heap.size = A at hD ⊢
  have hA : ∀ q : Nat, s.heap.size ≤ q → A q := fun q h => by rw [← hAe]; exact Or.inr h
  have hS : va_S A s.heap s.heap [] := va_S.rf
  have hP : va_P D vwCl (cF G ca bg (enF ea k) σ x ++ pl) s.heap := hP
  have hI0 := hI
  obtain ⟨h1, hn, h7, hk60, h22, hw, hab, hfa, hmi, hak, hrf⟩ := hI
  have hl := lv_entry ([.ref ((ca 1)), .int sort, .int parent]) (n := 3) (Nat.le_of_ble_eq_true rfl)
  rw [lg_entry_eq]
  generalize (lg_sl ([.ref ((ca 1)), .int sort, .int parent]) ++ List.replicate (3 - (lg_sl ([.ref ((ca 1)), .int sort, .int parent])).length) Slot.unset).toArray = ls at hl ⊢
  have hl : lv_has ls 3 [(0, .ref ((ca 1))), (1, .int sort), (2, .int parent)] := hl
  refine lv_aload_n hx hb dX6_add_0 rfl (lv_at hl 0 rfl) ?_
  refine va_get (D := D) (ci := 6) (v := .int (σ 1 0)) (C := RX6) (T := TX6) (N := 5) hx hb hts iX6 hown hK.1 hP 1 rfl rfl 4 (by decide) (hts _ q_39) (fun _ h9 => h9) rfl dX6_add_1 ?_
  refine lv_bipush (v := 12) hx hb dX6_add_4 (by decide) ?_
  refine lv_icmp_lt (tgt := 12) hx hb dX6_add_6 (by decide) (fun c1 => ?_) (fun c1 => ?_)
  · -- 6 taken
    have c1 : n < 12 := (nI_ltI (a := n) (b := 12) (by omega) (by omega)).mp (by have h8 := c1; rw [h1] at h8; exact h8)
    refine lv_aload_n hx hb dX6_add_12 rfl (lv_at hl 0 rfl) ?_
    refine va_get (D := D) (ci := 6) (v := .ref ((ca 2))) (C := RX6) (T := TX6) (N := 5) hx hb hts iX6 hown hK.1 hP 1 rfl rfl 0 (by decide) (hts _ q_35) (fun _ h9 => h9) rfl dX6_add_13 ?_
    refine lv_aload_n hx hb dX6_add_16 rfl (lv_at hl 0 rfl) ?_
    refine va_get (D := D) (ci := 6) (v := .int (σ 1 0)) (C := RX6) (T := TX6) (N := 5) hx hb hts iX6 hown hK.1 hP 1 rfl rfl 4 (by decide) (hts _ q_39) (fun _ h9 => h9) rfl dX6_add_17 ?_
    refine lv_iload_n hx hb dX6_add_20 rfl (lv_at hl 1 rfl) ?_
    refine iast_n hx hb hK.1 hP hD hS 2 0 rfl rfl (n) h1 (by omega) (by decide) dX6_add_21 (fun H locs hP hD hS => ?_)
    have hP : va_P D vwCl (cF G ca bg (enF ea k) (su σ 2 (n) (sort)) x ++ pl) H := hP
    have hD : va_D A (cF G ca bg (enF ea k) (su σ 2 (n) (sort)) x ++ pl) := hD
    refine lv_aload_n hx hb dX6_add_22 rfl (lv_at hl 0 rfl) ?_
    refine va_get (D := D) (ci := 6) (v := .ref ((ca 3))) (C := RX6) (T := TX6) (N := 5) hx hb hts iX6 hown hK.1 hP 1 rfl rfl 1 (by decide) (hts _ q_36) (fun _ h9 => h9) rfl dX6_add_23 ?_
    refine lv_aload_n hx hb dX6_add_26 rfl (lv_at hl 0 rfl) ?_
    refine va_get (D := D) (ci := 6) (v := .int (σ 1 0)) (C := RX6) (T := TX6) (N := 5) hx hb hts iX6 hown hK.1 hP 1 rfl rfl 4 (by decide) (hts _ q_39) (fun _ h9 => h9) rfl dX6_add_27 ?_
    refine lv_iload_n hx hb dX6_add_30 rfl (lv_at hl 2 rfl) ?_
    refine iast_n hx hb hK.1 hP hD hS 3 0 rfl rfl (n) h1 (by omega) (by decide) dX6_add_31 (fun H locs hP hD hS => ?_)
    have hP : va_P D vwCl (cF G ca bg (enF ea k) (su (su σ 2 (n) (sort)) 3 (n) (parent)) x ++ pl) H := hP
    have hD : va_D A (cF G ca bg (enF ea k) (su (su σ 2 (n) (sort)) 3 (n) (parent)) x ++ pl) := hD
    refine lv_aload_n hx hb dX6_add_32 rfl (lv_at hl 0 rfl) ?_
    refine va_get (D := D) (ci := 6) (v := .ref ((ca 4))) (C := RX6) (T := TX6) (N := 5) hx hb hts iX6 hown hK.1 hP 1 rfl rfl 2 (by decide) (hts _ q_37) (fun _ h9 => h9) rfl dX6_add_33 ?_
    refine lv_aload_n hx hb dX6_add_36 rfl (lv_at hl 0 rfl) ?_
    refine va_get (D := D) (ci := 6) (v := .int (σ 1 0)) (C := RX6) (T := TX6) (N := 5) hx hb hts iX6 hown hK.1 hP 1 rfl rfl 4 (by decide) (hts _ q_39) (fun _ h9 => h9) rfl dX6_add_37 ?_
    refine lv_iconst (v := 0) hx hb dX6_add_40 (by decide) ?_
    refine iast_n hx hb hK.1 hP hD hS 4 0 rfl rfl (n) h1 (by omega) (by decide) dX6_add_41 (fun H locs hP hD hS => ?_)
    have hP : va_P D vwCl (cF G ca bg (enF ea k) (su (su σ 2 (n) (sort)) 3 (n) (parent)) (su x 0 (n) (0)) ++ pl) H := hP
    have hD : va_D A (cF G ca bg (enF ea k) (su (su σ 2 (n) (sort)) 3 (n) (parent)) (su x 0 (n) (0)) ++ pl) := hD
    refine lv_aload_n hx hb dX6_add_42 rfl (lv_at hl 0 rfl) ?_
    refine lv_dup hx hb dX6_add_43 rfl ?_
    refine va_get (D := D) (ci := 6) (v := .int (σ 1 0)) (C := RX6) (T := TX6) (N := 5) hx hb hts iX6 hown hK.1 hP 1 rfl rfl 4 (by decide) (hts _ q_39) (fun _ h9 => h9) rfl dX6_add_44 ?_
    refine lv_iconst (v := 1) hx hb dX6_add_47 (by decide) ?_
    refine lv_iadd hx hb dX6_add_48 ?_
    refine W.eq (g2 := F0 m 49 ls [.int (nI (n + 1)), .ref ((ca 1))]) (congrArg (fun z9 => F0 m 49 ls [.int z9, .ref ((ca 1))]) (n_add (a := n) (b := 1) h1 (rfl : (1 : Int32) = nI 1))) ?_
    refine va_put (D := D) (ci := 6) (v := .int (nI (n + 1))) (ty := .int) (C := RX6) (T := TX6) (N := 5) hx hb hts iX6 tyX6 tyX6_ok nmX6 hown hK.1 hP hD hS 1 rfl rfl 4 (by decide) (hts _ q_39) (fun _ h9 => h9) rfl (by decide +kernel) rfl rfl (Nat.le_of_ble_eq_true rfl) dX6_add_49 (fun H locs hP hD hS => ?_)
    have hP : va_P D vwCl (cF G ca bg (enF ea k) (su (su (su σ 2 (n) (sort)) 3 (n) (parent)) 1 (0) (nI (n + 1))) (su x 0 (n) (0)) ++ pl) H := hP
    have hD : va_D A (cF G ca bg (enF ea k) (su (su (su σ 2 (n) (sort)) 3 (n) (parent)) 1 (0) (nI (n + 1))) (su x 0 (n) (0)) ++ pl) := hD
    refine lv_aload_n hx hb dX6_add_52 rfl (lv_at hl 0 rfl) ?_
    refine va_get (D := D) (ci := 6) (v := .ref ((ca 5))) (C := RX6) (T := TX6) (N := 5) hx hb hts iX6 hown hK.1 hP 1 rfl rfl 3 (by decide) (hts _ q_38) (fun _ h9 => h9) rfl dX6_add_53 ?_
    refine lv_aload_n hx hb dX6_add_56 rfl (lv_at hl 0 rfl) ?_
    refine va_get (D := D) (ci := 6) (v := .int (nI (n + 1))) (C := RX6) (T := TX6) (N := 5) hx hb hts iX6 hown hK.1 hP 1 rfl rfl 4 (by decide) (hts _ q_39) (fun _ h9 => h9) rfl dX6_add_57 ?_
    refine lv_iconst (v := 1) hx hb dX6_add_60 (by decide) ?_
    refine lv_isub hx hb dX6_add_61 ?_
    refine lv_aload_n hx hb dX6_add_62 rfl (lv_at hl 0 rfl) ?_
    refine lv_aload_n hx hb dX6_add_63 rfl (lv_at hl 0 rfl) ?_
    refine va_get (D := D) (ci := 6) (v := .int (nI (n + 1))) (C := RX6) (T := TX6) (N := 5) hx hb hts iX6 hown hK.1 hP 1 rfl rfl 4 (by decide) (hts _ q_39) (fun _ h9 => h9) rfl dX6_add_64 ?_
    refine lv_iconst (v := 1) hx hb dX6_add_67 (by decide) ?_
    refine lv_isub hx hb dX6_add_68 ?_
    refine W.eq (g2 := F0 m 69 ls [.int (nI n), .ref ((ca 1)), .int ((nI (n + 1)) - 1), .ref ((ca 5))]) (congrArg (fun z9 => F0 m 69 ls [.int z9, .ref ((ca 1)), .int ((nI (n + 1)) - 1), .ref ((ca 5))]) (nI_pred n)) ?_
    have hPf : va_P D vwCl (cF G ca bg (enF ea k) (su (su (su σ 2 (n) (sort)) 3 (n) (parent)) 1 (0) (nI (n + 1))) (su x 0 (n) (0))) _ := cF_of hP
    refine ro_Vi (D := D) (G := G) (As := [.int (nI n)]) (rest := [.int ((nI (n + 1)) - 1), .ref ((ca 5))]) ⟨hx, hb, hml, hown, hts⟩ (c_allAbove l D G _ ca (su (su (su σ 2 (n) (sort)) 3 (n) (parent)) 1 (0) (nI (n + 1))) (su x 0 (n) (0)) (cF_ty hPf) (n + 1) rfl (by omega) n (by omega)) gV_X6_X6_allAbove hdV_X6_allAbove ⟨Nat.le_of_ble_eq_true rfl, Nat.le_of_ble_eq_true rfl⟩ hK (va_recv hK.1 hP (ci := 6) (q0 := 1) rfl rfl) rfl hl.1 rfl (Nat.le_of_ble_eq_true rfl) dX6_add_69 ⟨Nat.le_of_ble_eq_true rfl, Nat.le_of_ble_eq_true rfl⟩ (fun r2 e_r2 => ?_)
    subst e_r2
    refine W.eq (g2 := F0 m 72 ls [.int (abvF ((su (su (su σ 2 (n) (sort)) 3 (n) (parent)) 1 (0) (nI (n + 1))) 3 n) ((su x 0 (n) (0)) 0 n) ((su x 0 (n) (0)) 1) n n), .int ((nI (n + 1)) - 1), .ref ((ca 5))]) rfl ?_
    refine W.eq (g2 := F0 m 72 ls [.int (abvF parent 0 (x 1) n n), .int ((nI (n + 1)) - 1), .ref ((ca 5))]) (congrArg (fun z9 => F0 m 72 ls [.int z9, .int ((nI (n + 1)) - 1), .ref ((ca 5))]) (show abvF ((su (su (su σ 2 (n) (sort)) 3 (n) (parent)) 1 (0) (nI (n + 1))) 3 n) ((su x 0 (n) (0)) 0 n) ((su x 0 (n) (0)) 1) n n = abvF parent 0 (x 1) n n by rw [show (su (su (su σ 2 (n) (sort)) 3 (n) (parent)) 1 (0) (nI (n + 1))) 3 n = parent from pk_us, show (su x 0 (n) (0)) 0 n = 0 from pk_us]; rfl)) ?_
    refine iast_n hx hb hK.1 hP hD hS 5 0 rfl rfl (n) (nI_pred n) (by omega) (by decide) dX6_add_72 (fun H locs hP hD hS => ?_)
    have hP : va_P D vwCl (cF G ca bg (enF ea k) (su (su (su σ 2 (n) (sort)) 3 (n) (parent)) 1 (0) (nI (n + 1))) (su (su x 0 (n) (0)) 1 (n) (abvF parent 0 (x 1) n n)) ++ pl) H := hP
    have hD : va_D A (cF G ca bg (enF ea k) (su (su (su σ 2 (n) (sort)) 3 (n) (parent)) 1 (0) (nI (n + 1))) (su (su x 0 (n) (0)) 1 (n) (abvF parent 0 (x 1) n n)) ++ pl) := hD
    refine lv_aload_n hx hb dX6_add_73 rfl (lv_at hl 0 rfl) ?_
    refine va_get (D := D) (ci := 6) (v := .int (nI (n + 1))) (C := RX6) (T := TX6) (N := 5) hx hb hts iX6 hown hK.1 hP 1 rfl rfl 4 (by decide) (hts _ q_39) (fun _ h9 => h9) rfl dX6_add_74 ?_
    refine lv_iconst (v := 1) hx hb dX6_add_77 (by decide) ?_
    refine lv_isub hx hb dX6_add_78 ?_
    refine W.eq (g2 := F0 m 79 ls [.int (nI n)]) (congrArg (fun z9 => F0 m 79 ls [.int z9]) (nI_pred n)) ?_
    exact cm_iret (v0 := nI n) hx hb hr hlocks hP hD hS dX6_add_79 (rfl) (rfl)
  · -- 6 not
    have c1 : ¬ n < 12 := fun h9 => c1 (by rw [h1]; exact (nI_ltI (a := n) (b := 12) (by omega) (by omega)).mpr h9)
    exfalso; omega
set_option maxHeartbeats 800000 in
set_option maxRecDepth 100000 in
theorem c_addFaceFull (l : Launch) (D : va_G) (G : Nat → ClassId) (ca : Nat → Nat) (bg : Value) (ea : Nat → Nat → Nat) (n k w0 : Nat) (σ x : MS) (κ : Nat → Int64) (pl : va_W) (sz : Nat) (hE : plE G ea σ κ k pl) (hI : cI σ x n k w0) (t fc : Nat) (ht : t < n) (hf : fc < n) (hbc : ¬ bcF (x 0 t) < 3) : Met l yX6_addFace (ww yX6_addFace cX6_addFace 4 (some .int)) (rmC 3 0 0) (cmP D G sz (cF G ca bg (enF ea k) σ x ++ pl) [.ref ((ca 1)), .int (nI t), .int (nI fc)]) (cmQi D (va_A (cF G ca bg (enF ea k) σ x ++ pl) sz) (-15) (fun z8 => z8 = cF G ca bg (enF ea k) σ x ++ pl)) 0 0 (va_A (cF G ca bg (enF ea k) σ x ++ pl) sz) := by
  refine Met.ofW (cc := cX6_addFace) (maxL := 4) (ret := (some .int)) (by decide) rfl ?_
  intro p e s m args below meth c s₁ B hml hv
  obtain ⟨rfl, hsz, hP, hK, hD0⟩ := hv
  have hx := B.exec
  have hb := B.bytes
  have hr := B.returns
  have hts : ∀ w ∈ TT, w.before _ s = true := fun w h => atoms_spec (ws := ww yX6_addFace cX6_addFace 4 (some .int)) B.pre w (List.mem_cons_of_mem _ h)
  have hown : s.vm.findClass RX6 = some m.cls := findClass_of_methodNamed B.named
  have hlocks := B.notSynchronized
  subst hsz
  have hD : va_D (va_A (cF G ca bg (enF ea k) σ x ++ pl) s.heap.size) (cF G ca bg (enF ea k) σ x ++ pl) := hD0.self
  generalize hAe : va_A (cF G ca bg (enF ea k) σ x ++ pl) s.heap.size = A at hD ⊢
  have hA : ∀ q : Nat, s.heap.size ≤ q → A q := fun q h => by rw [← hAe]; exact Or.inr h
  have hS : va_S A s.heap s.heap [] := va_S.rf
  have hP : va_P D vwCl (cF G ca bg (enF ea k) σ x ++ pl) s.heap := hP
  have hI0 := hI
  obtain ⟨h1, hn, h7, hk60, h22, hw, hab, hfa, hmi, hak, hrf⟩ := hI
  have hl := lv_entry ([.ref ((ca 1)), .int (nI t), .int (nI fc)]) (n := 4) (Nat.le_of_ble_eq_true rfl)
  rw [lg_entry_eq]
  generalize (lg_sl ([.ref ((ca 1)), .int (nI t), .int (nI fc)]) ++ List.replicate (4 - (lg_sl ([.ref ((ca 1)), .int (nI t), .int (nI fc)])).length) Slot.unset).toArray = ls at hl ⊢
  have hl : lv_has ls 4 [(0, .ref ((ca 1))), (1, .int (nI t)), (2, .int (nI fc))] := hl
  refine lv_aload_n hx hb dX6_addFace_0 rfl (lv_at hl 0 rfl) ?_
  refine lv_iload_n hx hb dX6_addFace_1 rfl (lv_at hl 1 rfl) ?_
  have hPf : va_P D vwCl (cF G ca bg (enF ea k) σ x) _ := cF_of hP
  have hEf : ∀ e, e < k → va_P D vwCl (eW G (ea e) σ κ e) _ := plE_P hP hE
  refine ro_Vi (D := D) (G := G) (As := [.int (nI t)]) (rest := []) ⟨hx, hb, hml, hown, hts⟩ (c_has l D G _ ca σ x (cF_ty hPf) n h1 hn (nI t)) gV_X6_X6_has hdV_X6_has ⟨Nat.le_of_ble_eq_true rfl, Nat.le_of_ble_eq_true rfl⟩ hK (va_recv hK.1 hP (ci := 6) (q0 := 1) rfl rfl) rfl hl.1 rfl (Nat.le_of_ble_eq_true rfl) dX6_addFace_2 ⟨Nat.le_of_ble_eq_true rfl, Nat.le_of_ble_eq_true rfl⟩ (fun r1 e_r1 => ?_)
  subst e_r1
  refine W.eq (g2 := F0 m 5 ls [.int (bI (okN n (nI t)))]) rfl ?_
  refine lv_if_eq (tgt := 16) hx hb dX6_addFace_5 (by decide) (fun c2 => ?_) (fun c2 => ?_)
  · -- 5 taken
    have c2 := bI_0 c2
    exact absurd (okN_nI (by omega) (by omega)) c2
  · -- 5 not
    have c2 := bI_1 c2
    refine lv_aload_n hx hb dX6_addFace_8 rfl (lv_at hl 0 rfl) ?_
    refine lv_iload_n hx hb dX6_addFace_9 rfl (lv_at hl 2 rfl) ?_
    refine ro_Vi (D := D) (G := G) (As := [.int (nI fc)]) (rest := []) ⟨hx, hb, hml, hown, hts⟩ (c_has l D G _ ca σ x (cF_ty hPf) n h1 hn (nI fc)) gV_X6_X6_has hdV_X6_has ⟨Nat.le_of_ble_eq_true rfl, Nat.le_of_ble_eq_true rfl⟩ hK (va_recv hK.1 hP (ci := 6) (q0 := 1) rfl rfl) rfl hl.1 rfl (Nat.le_of_ble_eq_true rfl) dX6_addFace_10 ⟨Nat.le_of_ble_eq_true rfl, Nat.le_of_ble_eq_true rfl⟩ (fun r3 e_r3 => ?_)
    subst e_r3
    refine W.eq (g2 := F0 m 13 ls [.int (bI (okN n (nI fc)))]) rfl ?_
    refine lv_if_ne (tgt := 19) hx hb dX6_addFace_13 (by decide) (fun c4 => ?_) (fun c4 => ?_)
    · -- 13 taken
      have c4 := bI_1 c4
      refine lv_aload_n hx hb dX6_addFace_19 rfl (lv_at hl 0 rfl) ?_
      refine va_get (D := D) (ci := 6) (v := .ref ((ca 4))) (C := RX6) (T := TX6) (N := 5) hx hb hts iX6 hown hK.1 hP 1 rfl rfl 2 (by decide) (hts _ q_37) (fun _ h9 => h9) rfl dX6_addFace_20 ?_
      refine lv_iload_n hx hb dX6_addFace_23 rfl (lv_at hl 1 rfl) ?_
      refine iald_n (f := x 0) hx hb hK.1 hP 4 0 rfl rfl (t) rfl (by omega) (by decide) dX6_addFace_24 ?_
      refine ro_Si (D := D) (G := G) (As := [.int (x 0 t)]) (rest := []) ⟨hx, hb, hml, hown, hts⟩ (c_bitCount l D G _ (x 0 t)) gS_X6_J6_bitCount_0f7a4 hdS_J6_bitCount_0f7a4 ⟨Nat.le_of_ble_eq_true rfl, Nat.le_of_ble_eq_true rfl⟩ hK rfl hl.1 rfl (Nat.le_of_ble_eq_true rfl) dX6_addFace_25 ⟨Nat.le_of_ble_eq_true rfl, Nat.le_of_ble_eq_true rfl⟩ (fun r5 e_r5 => ?_)
      subst e_r5
      refine W.eq (g2 := F0 m 28 ls [.int (bcF (x 0 t))]) rfl ?_
      refine lv_iconst (v := 3) hx hb dX6_addFace_28 (by decide) ?_
      refine lv_icmp_lt (tgt := 35) hx hb dX6_addFace_29 (by decide) (fun c6 => ?_) (fun c6 => ?_)
      · -- 29 taken
        exact absurd c6 hbc
      · -- 29 not
        refine lv_bipush (v := -15) hx hb dX6_addFace_32 (by decide) ?_
        exact cm_iret (v0 := (-15)) hx hb hr hlocks hP hD hS dX6_addFace_34 (rfl) (rfl)
    · -- 13 not
      have c4 := bI_0 c4
      exact absurd (okN_nI (by omega) (by omega)) c4
set_option maxHeartbeats 800000 in
set_option maxRecDepth 100000 in
theorem c_addFace (l : Launch) (D : va_G) (G : Nat → ClassId) (ca : Nat → Nat) (bg : Value) (ea : Nat → Nat → Nat) (n k w0 : Nat) (σ x : MS) (κ : Nat → Int64) (pl : va_W) (sz : Nat) (hE : plE G ea σ κ k pl) (hI : cI σ x n k w0) (t fc : Nat) (ht : t < n) (hf : fc < n) (hbc : bcF (x 0 t) < 3) : Met l yX6_addFace (ww yX6_addFace cX6_addFace 4 (some .int)) (rmC 3 0 0) (cmP D G sz (cF G ca bg (enF ea k) σ x ++ pl) [.ref ((ca 1)), .int (nI t), .int (nI fc)]) (cmQi D (va_A (cF G ca bg (enF ea k) σ x ++ pl) sz) (bcF (x 0 t ||| 1 <<< (nI fc &&& 31))) (fun z8 => z8 = cF G ca bg (enF ea k) σ (st (su x 0 t (x 0 t ||| 1 <<< (nI fc &&& 31))) 1 (reA (σ 3) (upd (x 0) t (x 0 t ||| 1 <<< (nI fc &&& 31))) (x 1) t (n - t))) ++ pl)) 0 0 (va_A (cF G ca bg (enF ea k) σ x ++ pl) sz) := by
  refine Met.ofW (cc := cX6_addFace) (maxL := 4) (ret := (some .int)) (by decide) rfl ?_
  intro p e s m args below meth c s₁ B hml hv
  obtain ⟨rfl, hsz, hP, hK, hD0⟩ := hv
  have hx := B.exec
  have hb := B.bytes
  have hr := B.returns
  have hts : ∀ w ∈ TT, w.before _ s = true := fun w h => atoms_spec (ws := ww yX6_addFace cX6_addFace 4 (some .int)) B.pre w (List.mem_cons_of_mem _ h)
  have hown : s.vm.findClass RX6 = some m.cls := findClass_of_methodNamed B.named
  have hlocks := B.notSynchronized
  subst hsz
  have hD : va_D (va_A (cF G ca bg (enF ea k) σ x ++ pl) s.heap.size) (cF G ca bg (enF ea k) σ x ++ pl) := hD0.self
  generalize hAe : va_A (cF G ca bg (enF ea k) σ x ++ pl) s.heap.size = A at hD ⊢
  have hA : ∀ q : Nat, s.heap.size ≤ q → A q := fun q h => by rw [← hAe]; exact Or.inr h
  have hS : va_S A s.heap s.heap [] := va_S.rf
  have hP : va_P D vwCl (cF G ca bg (enF ea k) σ x ++ pl) s.heap := hP
  have hI0 := hI
  obtain ⟨h1, hn, h7, hk60, h22, hw, hab, hfa, hmi, hak, hrf⟩ := hI
  have hl := lv_entry ([.ref ((ca 1)), .int (nI t), .int (nI fc)]) (n := 4) (Nat.le_of_ble_eq_true rfl)
  rw [lg_entry_eq]
  generalize (lg_sl ([.ref ((ca 1)), .int (nI t), .int (nI fc)]) ++ List.replicate (4 - (lg_sl ([.ref ((ca 1)), .int (nI t), .int (nI fc)])).length) Slot.unset).toArray = ls at hl ⊢
  have hl : lv_has ls 4 [(0, .ref ((ca 1))), (1, .int (nI t)), (2, .int (nI fc))] := hl
  refine lv_aload_n hx hb dX6_addFace_0 rfl (lv_at hl 0 rfl) ?_
  refine lv_iload_n hx hb dX6_addFace_1 rfl (lv_at hl 1 rfl) ?_
  have hPf : va_P D vwCl (cF G ca bg (enF ea k) σ x) _ := cF_of hP
  refine ro_Vi (D := D) (G := G) (As := [.int (nI t)]) (rest := []) ⟨hx, hb, hml, hown, hts⟩ (c_has l D G _ ca σ x (cF_ty hPf) n h1 hn (nI t)) gV_X6_X6_has hdV_X6_has ⟨Nat.le_of_ble_eq_true rfl, Nat.le_of_ble_eq_true rfl⟩ hK (va_recv hK.1 hP (ci := 6) (q0 := 1) rfl rfl) rfl hl.1 rfl (Nat.le_of_ble_eq_true rfl) dX6_addFace_2 ⟨Nat.le_of_ble_eq_true rfl, Nat.le_of_ble_eq_true rfl⟩ (fun r1 e_r1 => ?_)
  subst e_r1
  refine W.eq (g2 := F0 m 5 ls [.int (bI (okN n (nI t)))]) rfl ?_
  refine lv_if_eq (tgt := 16) hx hb dX6_addFace_5 (by decide) (fun c2 => ?_) (fun c2 => ?_)
  · -- 5 taken
    have c2 := bI_0 c2
    exact absurd (okN_nI (by omega) (by omega)) c2
  · -- 5 not
    have c2 := bI_1 c2
    refine lv_aload_n hx hb dX6_addFace_8 rfl (lv_at hl 0 rfl) ?_
    refine lv_iload_n hx hb dX6_addFace_9 rfl (lv_at hl 2 rfl) ?_
    refine ro_Vi (D := D) (G := G) (As := [.int (nI fc)]) (rest := []) ⟨hx, hb, hml, hown, hts⟩ (c_has l D G _ ca σ x (cF_ty hPf) n h1 hn (nI fc)) gV_X6_X6_has hdV_X6_has ⟨Nat.le_of_ble_eq_true rfl, Nat.le_of_ble_eq_true rfl⟩ hK (va_recv hK.1 hP (ci := 6) (q0 := 1) rfl rfl) rfl hl.1 rfl (Nat.le_of_ble_eq_true rfl) dX6_addFace_10 ⟨Nat.le_of_ble_eq_true rfl, Nat.le_of_ble_eq_true rfl⟩ (fun r3 e_r3 => ?_)
    subst e_r3
    refine W.eq (g2 := F0 m 13 ls [.int (bI (okN n (nI fc)))]) rfl ?_
    refine lv_if_ne (tgt := 19) hx hb dX6_addFace_13 (by decide) (fun c4 => ?_) (fun c4 => ?_)
    · -- 13 taken
      have c4 := bI_1 c4
      refine lv_aload_n hx hb dX6_addFace_19 rfl (lv_at hl 0 rfl) ?_
      refine va_get (D := D) (ci := 6) (v := .ref ((ca 4))) (C := RX6) (T := TX6) (N := 5) hx hb hts iX6 hown hK.1 hP 1 rfl rfl 2 (by decide) (hts _ q_37) (fun _ h9 => h9) rfl dX6_addFace_20 ?_
      refine lv_iload_n hx hb dX6_addFace_23 rfl (lv_at hl 1 rfl) ?_
      refine iald_n (f := x 0) hx hb hK.1 hP 4 0 rfl rfl (t) rfl (by omega) (by decide) dX6_addFace_24 ?_
      refine ro_Si (D := D) (G := G) (As := [.int (x 0 t)]) (rest := []) ⟨hx, hb, hml, hown, hts⟩ (c_bitCount l D G _ (x 0 t)) gS_X6_J6_bitCount_0f7a4 hdS_J6_bitCount_0f7a4 ⟨Nat.le_of_ble_eq_true rfl, Nat.le_of_ble_eq_true rfl⟩ hK rfl hl.1 rfl (Nat.le_of_ble_eq_true rfl) dX6_addFace_25 ⟨Nat.le_of_ble_eq_true rfl, Nat.le_of_ble_eq_true rfl⟩ (fun r5 e_r5 => ?_)
      subst e_r5
      refine W.eq (g2 := F0 m 28 ls [.int (bcF (x 0 t))]) rfl ?_
      refine lv_iconst (v := 3) hx hb dX6_addFace_28 (by decide) ?_
      refine lv_icmp_lt (tgt := 35) hx hb dX6_addFace_29 (by decide) (fun c6 => ?_) (fun c6 => ?_)
      · -- 29 taken
        refine lv_aload_n hx hb dX6_addFace_35 rfl (lv_at hl 0 rfl) ?_
        refine va_get (D := D) (ci := 6) (v := .ref ((ca 4))) (C := RX6) (T := TX6) (N := 5) hx hb hts iX6 hown hK.1 hP 1 rfl rfl 2 (by decide) (hts _ q_37) (fun _ h9 => h9) rfl dX6_addFace_36 ?_
        refine lv_iload_n hx hb dX6_addFace_39 rfl (lv_at hl 1 rfl) ?_
        refine lv_dup2_11 hx hb dX6_addFace_40 rfl rfl ?_
        refine iald_n (f := x 0) hx hb hK.1 hP 4 0 rfl rfl (t) rfl (by omega) (by decide) dX6_addFace_41 ?_
        refine lv_iconst (v := 1) hx hb dX6_addFace_42 (by decide) ?_
        refine lv_iload_n hx hb dX6_addFace_43 rfl (lv_at hl 2 rfl) ?_
        refine lv_ishl hx hb dX6_addFace_44 ?_
        refine lv_ior hx hb dX6_addFace_45 ?_
        refine iast_n hx hb hK.1 hP hD hS 4 0 rfl rfl (t) rfl (by omega) (by decide) dX6_addFace_46 (fun H locs hP hD hS => ?_)
        have hP : va_P D vwCl (cF G ca bg (enF ea k) σ (su x 0 (t) ((x 0 t) ||| (1 <<< ((nI fc) &&& 31)))) ++ pl) H := hP
        have hD : va_D A (cF G ca bg (enF ea k) σ (su x 0 (t) ((x 0 t) ||| (1 <<< ((nI fc) &&& 31)))) ++ pl) := hD
        refine lv_iload_n hx hb dX6_addFace_47 rfl (lv_at hl 1 rfl) ?_
        refine lv_istore_n (lv' := [(3, .int (nI t)), (0, .ref ((ca 1))), (1, .int (nI t)), (2, .int (nI fc))]) hx hb dX6_addFace_48 rfl hl (by decide) rfl (fun ls hl => ?_)
        refine w_forM (N := n) 49 (L := fun q9 ls H locs => lv_has ls 4 [(3, .int (nI q9)), (0, .ref ((ca 1))), (1, .int (nI t)), (2, .int (nI fc))] ∧ va_P D vwCl (cF G ca bg (enF ea k) σ (st (su x 0 (t) ((x 0 t) ||| (1 <<< ((nI fc) &&& 31)))) 1 (reA (σ 3) (upd (x 0) t (x 0 t ||| 1 <<< (nI fc &&& 31))) (x 1) t (q9 - t))) ++ pl) H ∧ va_D A (cF G ca bg (enF ea k) σ (st (su x 0 (t) ((x 0 t) ||| (1 <<< ((nI fc) &&& 31)))) 1 (reA (σ 3) (upd (x 0) t (x 0 t ||| 1 <<< (nI fc &&& 31))) (x 1) t (q9 - t))) ++ pl) ∧ va_S A s.heap H locs ∧ t ≤ q9) (fun k9 ls H locs hk hL ih49 => ?_) t ls _ _ (by omega) ⟨hl, (by rw [Nat.sub_self]; exact hP), (by rw [Nat.sub_self]; exact hD), hS, Nat.le_refl _⟩
        obtain ⟨hl, hP, hD, hS, hi⟩ := hL
        have hl : lv_has ls 4 [(3, .int (nI k9)), (0, .ref ((ca 1))), (1, .int (nI t)), (2, .int (nI fc))] := hl
        refine lv_iload_n hx hb dX6_addFace_49 rfl (lv_at hl 0 rfl) ?_
        refine lv_aload_n hx hb dX6_addFace_50 rfl (lv_at hl 1 rfl) ?_
        refine va_get (D := D) (ci := 6) (v := .int (σ 1 0)) (C := RX6) (T := TX6) (N := 5) hx hb hts iX6 hown hK.1 hP 1 rfl rfl 4 (by decide) (hts _ q_39) (fun _ h9 => h9) rfl dX6_addFace_51 ?_
        refine lv_icmp_ge (tgt := 74) hx hb dX6_addFace_54 (by decide) (fun c7 => ?_) (fun c7 => ?_)
        · -- 54 taken
          have c7 : n ≤ k9 := (nI_leI (a := n) (b := k9) (by omega) (by omega)).mp (by have h8 := c7; rw [h1] at h8; exact h8)
          obtain rfl : n = k9 := by omega
          have hP : va_P D vwCl (cF G ca bg (enF ea k) σ (st (su x 0 (t) ((x 0 t) ||| (1 <<< ((nI fc) &&& 31)))) 1 (reA (σ 3) (upd (x 0) t (x 0 t ||| 1 <<< (nI fc &&& 31))) (x 1) t (n - t))) ++ pl) H := hP
          have hD : va_D A (cF G ca bg (enF ea k) σ (st (su x 0 (t) ((x 0 t) ||| (1 <<< ((nI fc) &&& 31)))) 1 (reA (σ 3) (upd (x 0) t (x 0 t ||| 1 <<< (nI fc &&& 31))) (x 1) t (n - t))) ++ pl) := hD
          refine lv_aload_n hx hb dX6_addFace_74 rfl (lv_at hl 1 rfl) ?_
          refine va_get (D := D) (ci := 6) (v := .ref ((ca 4))) (C := RX6) (T := TX6) (N := 5) hx hb hts iX6 hown hK.1 hP 1 rfl rfl 2 (by decide) (hts _ q_37) (fun _ h9 => h9) rfl dX6_addFace_75 ?_
          refine lv_iload_n hx hb dX6_addFace_78 rfl (lv_at hl 2 rfl) ?_
          refine iald_n (f := upd (x 0) (t) ((x 0 t) ||| (1 <<< ((nI fc) &&& 31)))) hx hb hK.1 hP 4 0 rfl rfl (t) rfl (by omega) (by decide) dX6_addFace_79 ?_
          refine ro_Si (D := D) (G := G) (As := [.int ((upd (x 0) (t) ((x 0 t) ||| (1 <<< ((nI fc) &&& 31)))) t)]) (rest := []) ⟨hx, hb, hml, hown, hts⟩ (c_bitCount l D G _ ((upd (x 0) (t) ((x 0 t) ||| (1 <<< ((nI fc) &&& 31)))) t)) gS_X6_J6_bitCount_0f7a4 hdS_J6_bitCount_0f7a4 ⟨Nat.le_of_ble_eq_true rfl, Nat.le_of_ble_eq_true rfl⟩ hK rfl hl.1 rfl (Nat.le_of_ble_eq_true rfl) dX6_addFace_80 ⟨Nat.le_of_ble_eq_true rfl, Nat.le_of_ble_eq_true rfl⟩ (fun r8 e_r8 => ?_)
          subst e_r8
          refine W.eq (g2 := F0 m 83 ls [.int (bcF ((upd (x 0) (t) ((x 0 t) ||| (1 <<< ((nI fc) &&& 31)))) t))]) rfl ?_
          exact cm_iret (v0 := bcF ((upd (x 0) (t) ((x 0 t) ||| (1 <<< ((nI fc) &&& 31)))) t)) hx hb hr hlocks hP hD hS dX6_addFace_83 (by rw [pk_us]) (rfl)
        · -- 54 not
          have c7 : ¬ n ≤ k9 := fun h9 => c7 (by rw [h1]; exact (nI_leI (a := n) (b := k9) (by omega) (by omega)).mpr h9)
          refine lv_aload_n hx hb dX6_addFace_57 rfl (lv_at hl 1 rfl) ?_
          refine va_get (D := D) (ci := 6) (v := .ref ((ca 5))) (C := RX6) (T := TX6) (N := 5) hx hb hts iX6 hown hK.1 hP 1 rfl rfl 3 (by decide) (hts _ q_38) (fun _ h9 => h9) rfl dX6_addFace_58 ?_
          refine lv_iload_n hx hb dX6_addFace_61 rfl (lv_at hl 0 rfl) ?_
          refine lv_aload_n hx hb dX6_addFace_62 rfl (lv_at hl 1 rfl) ?_
          refine lv_iload_n hx hb dX6_addFace_63 rfl (lv_at hl 0 rfl) ?_
          have hPf : va_P D vwCl (cF G ca bg (enF ea k) σ (st (su x 0 (t) ((x 0 t) ||| (1 <<< ((nI fc) &&& 31)))) 1 (reA (σ 3) (upd (x 0) t (x 0 t ||| 1 <<< (nI fc &&& 31))) (x 1) t (k9 - t)))) _ := cF_of hP
          refine ro_Vi (D := D) (G := G) (As := [.int (nI k9)]) (rest := [.int (nI k9), .ref ((ca 5))]) ⟨hx, hb, hml, hown, hts⟩ (c_allAbove l D G _ ca σ (st (su x 0 (t) ((x 0 t) ||| (1 <<< ((nI fc) &&& 31)))) 1 (reA (σ 3) (upd (x 0) t (x 0 t ||| 1 <<< (nI fc &&& 31))) (x 1) t (k9 - t))) (cF_ty hPf) n h1 hn k9 (by omega)) gV_X6_X6_allAbove hdV_X6_allAbove ⟨Nat.le_of_ble_eq_true rfl, Nat.le_of_ble_eq_true rfl⟩ hK (va_recv hK.1 hP (ci := 6) (q0 := 1) rfl rfl) rfl hl.1 rfl (Nat.le_of_ble_eq_true rfl) dX6_addFace_64 ⟨Nat.le_of_ble_eq_true rfl, Nat.le_of_ble_eq_true rfl⟩ (fun r9 e_r9 => ?_)
          subst e_r9
          refine W.eq (g2 := F0 m 67 ls [.int (abvF (σ 3 k9) ((upd (x 0) t (x 0 t ||| 1 <<< (nI fc &&& 31))) k9) (reA (σ 3) (upd (x 0) t (x 0 t ||| 1 <<< (nI fc &&& 31))) (x 1) t (k9 - t)) k9 k9), .int (nI k9), .ref ((ca 5))]) rfl ?_
          refine iast_n hx hb hK.1 hP hD hS 5 0 rfl rfl (k9) rfl (by omega) (by decide) dX6_addFace_67 (fun H locs hP hD hS => ?_)
          have hP : va_P D vwCl (cF G ca bg (enF ea k) σ (st (su x 0 (t) ((x 0 t) ||| (1 <<< ((nI fc) &&& 31)))) 1 (upd (reA (σ 3) (upd (x 0) t (x 0 t ||| 1 <<< (nI fc &&& 31))) (x 1) t (k9 - t)) (k9) (abvF (σ 3 k9) ((upd (x 0) t (x 0 t ||| 1 <<< (nI fc &&& 31))) k9) (reA (σ 3) (upd (x 0) t (x 0 t ||| 1 <<< (nI fc &&& 31))) (x 1) t (k9 - t)) k9 k9))) ++ pl) H := hP
          have hD : va_D A (cF G ca bg (enF ea k) σ (st (su x 0 (t) ((x 0 t) ||| (1 <<< ((nI fc) &&& 31)))) 1 (upd (reA (σ 3) (upd (x 0) t (x 0 t ||| 1 <<< (nI fc &&& 31))) (x 1) t (k9 - t)) (k9) (abvF (σ 3 k9) ((upd (x 0) t (x 0 t ||| 1 <<< (nI fc &&& 31))) k9) (reA (σ 3) (upd (x 0) t (x 0 t ||| 1 <<< (nI fc &&& 31))) (x 1) t (k9 - t)) k9 k9))) ++ pl) := hD
          refine lv_iinc (v := nI (k9 + 1)) (lv' := [(3, .int (nI (k9 + 1))), (0, .ref ((ca 1))), (1, .int (nI t)), (2, .int (nI fc))]) hx hb dX6_addFace_68 hl (k := 0) rfl (nI_1 _) (by decide) rfl (fun ls hl => ?_)
          refine lv_goto (tgt := 49) hx hb dX6_addFace_71 (by decide) ?_
          rw [reA_s (by omega)] at hP hD
          exact ih49 _ _ _ (by omega) ⟨lv_sub hl [0, 1, 2, 3] rfl, hP, hD, hS, (by omega)⟩
      · -- 29 not
        exact absurd hbc c6
    · -- 13 not
      have c4 := bI_0 c4
      exact absurd (okN_nI (by omega) (by omega)) c4
