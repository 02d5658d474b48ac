-- the law: calls that get a part of the world
section FV
variable {p : Program} {l : Launch} {e : Env} {R : Room} {s : State} {m : MethodId} {args : Array Value} {below : List Frame} {meth : Method} {c : Code} {H : Heap} {locs : List Loc} {cells slots mc ms : Nat} {Q : State → Prop}
variable {cc : ByteArray} {pc : Nat} {ls : Array Slot} {rest stk : List Value} {D : va_G} {G : Nat → ClassId} {y : MethodName} {bytes : ByteArray} {maxL nL n idx d : Nat} {ret : Option FieldType} {As : List Value} {own C : String} {A : Nat → Prop} {wr wc : va_W} {b mo : Nat} {ad : Nat → Nat} {u v : MU} {Wp : va_W → Prop}
theorem fr_Vc {ans : Int32} (S : CallFix p m c cc nL s args TT own) (hM : Met l y (.code y bytes maxL ret :: TT) (rmC d mc ms) (cmP D G H.size wc (.ref b :: As)) (cmQi D (va_A wc H.size) ans Wp) mc ms (va_A wc H.size)) (g : GoodIn TT (wsV own idx C y (.code y bytes maxL ret :: TT)))
    (hd : y.cls = C ∧ y.cls ≠ "java/lang/invoke/MethodHandle" ∧ y.cls ≠ "java/lang/invoke/VarHandle" ∧ (parseMethodDescriptor y.desc).map (fun d => d.parameters.length) = some n) (hR : d + 1 ≤ R.frames ∧ 8 + (maxL + 11) + 40 * d ≤ R.locals) (hK : KK D G s) (hrv : ∃ cellB : Cell, H[b]? = some cellB ∧ cellB.vm.isStatics = false ∧ s.vm.findClass C = some cellB.cls) (hP : va_P D vwCl (wr ++ wc) H) (hD : va_D A (wr ++ wc)) (hS : va_S A s.heap H locs) (hA : ∀ q, s.heap.size ≤ q → A q) (hn : As.length = n) (hsize : ls.size = nL) (hstack : stk = As.reverse ++ .ref b :: rest) (hW : (rest.map fun v => v.category).sum ≤ 8) (hdg : decode cc pc = .ok (.invokevirtual idx, 3)) (hc : cells + mc ≤ R.cells ∧ slots + ms ≤ R.slots)
    (kk : ∀ (w1 : va_W) (H : Heap) (locs : List Loc), Wp w1 → va_P D vwCl (wr ++ w1) H → va_D A (wr ++ w1) → va_S A s.heap H locs → W p l e R s m args below meth c H locs (cells + mc) (slots + ms) Q (F0 m (pc + 3) ls (.int ans :: rest))) : W p l e R s m args below meth c H locs cells slots Q (F0 m pc ls stk) := by
  have hF := fr_free hD hS hA
  have hp := cm_pre (As := .ref b :: As) hK (fr_P hP) (fr_D2 hD)
  refine va_calli (va_runV S hM (cwV n S.2.2.2.2 g rfl rfl rfl hd hR) ⟨hp.1, hrv, hp.2⟩ rfl hn hsize hstack (lv_room hW) hdg hc) hS (fun q _ h => hF q h) hF (fun r z t H1 locs1 ht hvm hw hB hz1 hk1 hS1 => ?_)
  obtain ⟨rfl, hw⟩ := hw
  obtain ⟨hP1, hD1⟩ := hB
  rw [ht] at hP1
  obtain ⟨hP2, hD2⟩ := fr_join hP hD hk1 hF hP1 hD1
  exact kk z H1 locs1 hw hP2 hD2 hS1
theorem fr_Vm {ans : Int32} (S : CallFix p m c cc nL s args TT own) (hM : Met l y (.code y bytes maxL ret :: TT) (rmD d) (muP D G H.size mo ad u (.ref mo :: As)) (muQi D G mo ad (muA G mo ad u H.size) ans v) 0 0 (muA G mo ad u H.size)) (g : GoodIn TT (wsV own idx RX8 y (.code y bytes maxL ret :: TT)))
    (hd : y.cls = RX8 ∧ y.cls ≠ "java/lang/invoke/MethodHandle" ∧ y.cls ≠ "java/lang/invoke/VarHandle" ∧ (parseMethodDescriptor y.desc).map (fun d => d.parameters.length) = some n) (hR : d + 1 ≤ R.frames ∧ 8 + (maxL + 11) + 40 * d ≤ R.locals) (hK : KK D G s) (hP : va_P D vwCl (wr ++ mW G mo ad u.1 u.2) H) (hD : va_D A (wr ++ mW G mo ad u.1 u.2)) (hS : va_S A s.heap H locs) (hA : ∀ q, s.heap.size ≤ q → A q) (hn : As.length = n) (hsize : ls.size = nL) (hstack : stk = As.reverse ++ .ref mo :: rest) (hW : (rest.map fun v => v.category).sum ≤ 8) (hdg : decode cc pc = .ok (.invokevirtual idx, 3)) (hc : cells ≤ R.cells ∧ slots ≤ R.slots)
    (kk : ∀ (H : Heap) (locs : List Loc), va_P D vwCl (wr ++ mW G mo ad v.1 v.2) H → va_D A (wr ++ mW G mo ad v.1 v.2) → va_S A s.heap H locs → W p l e R s m args below meth c H locs cells slots Q (F0 m (pc + 3) ls (.int ans :: rest))) : W p l e R s m args below meth c H locs cells slots Q (F0 m pc ls stk) := by
  have hF := fr_free hD hS hA
  have hp := mu_pre (As := .ref mo :: As) hK (fr_P hP) (fr_D2 hD)
  refine va_calli (va_runV S hM (cwV n S.2.2.2.2 g rfl rfl rfl hd hR) ⟨hp.1, va_recv hK.1 (fr_P hP) (ci := 8) (q0 := 0) rfl rfl, hp.2⟩ rfl hn hsize hstack (lv_room hW) hdg hc) hS (fun q _ h => hF q h) hF (fun r z t H1 locs1 ht hvm hw hB hz1 hk1 hS1 => ?_)
  obtain ⟨rfl, rfl⟩ := hw
  obtain ⟨hP1, hD1⟩ := hB
  rw [ht] at hP1
  obtain ⟨hP2, hD2⟩ := fr_join hP hD hk1 hF hP1 hD1
  exact kk H1 locs1 hP2 hD2 hS1
theorem fr_Vml {ans : Int64} (S : CallFix p m c cc nL s args TT own) (hM : Met l y (.code y bytes maxL ret :: TT) (rmD d) (muP D G H.size mo ad u (.ref mo :: As)) (muQl D G mo ad (muA G mo ad u H.size) ans v) 0 0 (muA G mo ad u H.size)) (g : GoodIn TT (wsV own idx RX8 y (.code y bytes maxL ret :: TT)))
    (hd : y.cls = RX8 ∧ y.cls ≠ "java/lang/invoke/MethodHandle" ∧ y.cls ≠ "java/lang/invoke/VarHandle" ∧ (parseMethodDescriptor y.desc).map (fun d => d.parameters.length) = some n) (hR : d + 1 ≤ R.frames ∧ 8 + (maxL + 11) + 40 * d ≤ R.locals) (hK : KK D G s) (hP : va_P D vwCl (wr ++ mW G mo ad u.1 u.2) H) (hD : va_D A (wr ++ mW G mo ad u.1 u.2)) (hS : va_S A s.heap H locs) (hA : ∀ q, s.heap.size ≤ q → A q) (hn : As.length = n) (hsize : ls.size = nL) (hstack : stk = As.reverse ++ .ref mo :: rest) (hW : (rest.map fun v => v.category).sum ≤ 8) (hdg : decode cc pc = .ok (.invokevirtual idx, 3)) (hc : cells ≤ R.cells ∧ slots ≤ R.slots)
    (kk : ∀ (H : Heap) (locs : List Loc), va_P D vwCl (wr ++ mW G mo ad v.1 v.2) H → va_D A (wr ++ mW G mo ad v.1 v.2) → va_S A s.heap H locs → W p l e R s m args below meth c H locs cells slots Q (F0 m (pc + 3) ls (.long ans :: rest))) : W p l e R s m args below meth c H locs cells slots Q (F0 m pc ls stk) := by
  have hF := fr_free hD hS hA
  have hp := mu_pre (As := .ref mo :: As) hK (fr_P hP) (fr_D2 hD)
  refine va_calll (va_runV S hM (cwV n S.2.2.2.2 g rfl rfl rfl hd hR) ⟨hp.1, va_recv hK.1 (fr_P hP) (ci := 8) (q0 := 0) rfl rfl, hp.2⟩ rfl hn hsize hstack (lv_room hW) hdg hc) hS (fun q _ h => hF q h) hF (fun r z t H1 locs1 ht hvm hw hB hz1 hk1 hS1 => ?_)
  obtain ⟨rfl, rfl⟩ := hw
  obtain ⟨hP1, hD1⟩ := hB
  rw [ht] at hP1
  obtain ⟨hP2, hD2⟩ := fr_join hP hD hk1 hF hP1 hD1
  exact kk H1 locs1 hP2 hD2 hS1
variable {o : Nat} {f : Nat → Int64} {sa : Nat → Nat} {hh : List (Nat × Nat × Nat × Nat)} {post : Int32 → (Nat → Int64) → Prop}
/-- a helper of the law that catches -/
theorem fr_H (S : CallFix p m c cc nL s args TT own) (hM : vx_Met l y (.codeWith y bytes maxL (some .int) hh :: TT) (rmC d 1 6) (xoP D G sa H As) (va_Qi post (fun f' t => va_P D vwCl [(o, .inl (G 1, 1, .inr (.inl f')))] t.heap) (fun q => q = o ∨ H.size ≤ q)) (vx_X (fun _ : Unit => False) (fun _ _ _ => True) F0') 1 6 (fun q => q = o ∨ H.size ≤ q)) (g : GoodIn TT (va_wsS own idx y (.codeWith y bytes maxL (some .int) hh :: TT)))
    (hd : y.cls ≠ "java/lang/invoke/MethodHandle" ∧ y.cls ≠ "java/lang/invoke/VarHandle" ∧ (parseMethodDescriptor y.desc).map (fun d => d.parameters.length) = some n) (hR : d + 1 ≤ R.frames ∧ 8 + (maxL + 11) + 40 * d ≤ R.locals) (hK : KK D G s) (hXS : XS sa s) (hXZ : XZ F0' s H) (hP : va_P D vwCl (wr ++ [(o, .inl (G 1, 1, .inr (.inl f)))]) H) (hD : va_D A (wr ++ [(o, .inl (G 1, 1, .inr (.inl f)))])) (hS : va_S A s.heap H locs) (hA : ∀ q, s.heap.size ≤ q → A q) (hn : As.length = n) (hsize : ls.size = nL) (hstack : stk = As.reverse ++ rest) (hW : (rest.map fun v => v.category).sum ≤ 8) (hdg : decode cc pc = .ok (.invokestatic idx, 3)) (hc : cells + 1 ≤ R.cells ∧ slots + 6 ≤ R.slots)
    (kk : ∀ (r : Int32) (f' : Nat → Int64) (H : Heap) (locs : List Loc), post r f' → va_P D vwCl (wr ++ [(o, .inl (G 1, 1, .inr (.inl f')))]) H → va_D A (wr ++ [(o, .inl (G 1, 1, .inr (.inl f')))]) → va_S A s.heap H locs → W p l e R s m args below meth c H locs (cells + 1) (slots + 6) Q (F0 m (pc + 3) ls (.int r :: rest))) : W p l e R s m args below meth c H locs cells slots Q (F0 m pc ls stk) := by
  have hF := fr_free hD hS hA
  have hAo : ∀ q, (q = o ∨ H.size ≤ q) → va_A [((o, .inl (G 1, 1, .inr (.inl f))) : Nat × va_E)] H.size q := fun q h => h.elim (fun e => Or.inl ⟨0, _, by rw [e]; rfl⟩) Or.inr
  have hA2 : ∀ q, (q = o ∨ H.size ≤ q) → A q := fun q h => hF q (hAo q h)
  refine vx_calli (vx_runSX S hM (vx_cwSW n S.2.2.2.2 g rfl rfl rfl hd hR) ⟨fun _ _ _ _ q => q, fun U hU hW => ⟨rfl, hU, hK.warm hW, hXS.warm hW, hXZ.moved hW.alike⟩⟩ rfl hn hsize hstack (lv_room hW) hdg hc) hS (fun q _ h => hA2 q h) hA2 (fun q _ h => h.elim) (fun E ce q9 u t H1 locs1 ht hvm hpx => hpx.elim) (fun r f' t H1 locs1 ht hvm hp hB hz hk hS1 => ?_)
  have hP1 : va_P D vwCl [(o, .inl (G 1, 1, .inr (.inl f')))] t.heap := hB
  rw [ht] at hP1
  obtain ⟨hP2, hD2⟩ := fr_join hP hD (fun q hq h => hk q hq (fun z => h (hAo q z))) hF hP1 (D_one (Or.inl ⟨0, _, rfl⟩))
  exact kk r f' H1 locs1 hp hP2 hD2 hS1
variable {L t : Nat} {xs : Nat → Int32} {H0 : Heap}
theorem sld_n (hx : p.tables.exec = Jvm.exec) (hb : c.code = cc) (hX : va_X b L xs s H0) (hbl : b < H0.size) (hbA : ¬ A b) (hS : va_S A H0 H locs) (hL : L ≤ 3584) {i : Int32} (t : Nat) (hi : i = nI t) (ht : t < L) (hdg : decode cc pc = .ok (.iaload, 1))
    (kk : W p l e R s m args below meth c H locs cells slots Q (F0 m (pc + 1) ls (.int (xs t) :: rest))) : W p l e R s m args below meth c H locs cells slots Q (F0 m pc ls (.int i :: .ref b :: rest)) := by
  have h := in_n (n := L) hi ht (by omega)
  refine va_sld hx hb hX hbl hbA hS h.1 hdg ?_
  rw [h.2]; exact kk
end FV
theorem pm_m {a b z : va_W} : ((a ++ b) ++ z).Perm ((b ++ z) ++ a) := by rw [List.append_assoc]; exact List.perm_append_comm
theorem pm_r {a b z : va_W} : ((b ++ z) ++ a).Perm ((a ++ b) ++ z) := pm_m.symm
theorem pm_o {a b z : va_W} : ((a ++ b) ++ z).Perm ((a ++ z) ++ b) := by rw [List.append_assoc, List.append_assoc]; exact List.perm_append_comm.append_left a
section LIV
variable {σ x : MS} {τ κ : Nat → Int64} {n k w : Nat}
theorem IV.he (h : IV σ x τ κ n k w) : ∀ i, i < k → okE σ i := fun i hi => ⟨(h.2.2.1.1 i hi).1.1.1, Nat.lt_of_lt_of_le (h.2.2.1.1 i hi).1.1.2 h.1.1.2⟩
theorem IV.hm (h : IV σ x τ κ n k w) : ∀ i, i < k → okM σ i := fun i _ => (h.2.2.1.2.2.1 i).1
theorem IV.hk (h : IV σ x τ κ n k w) : ∀ i, i < k → kdO (σ 11 i) := fun i hi => kdn_O h.1.1.2 (h.2.2.1.1 i hi).1.2.2.1
theorem IV.hb (h : IV σ x τ κ n k w) : ¬ σ 21 0 = 0 → okE σ k ∧ okM σ k ∧ kdO (σ 11 k) := fun q => by
  have g := (h.2.2.2.2.2 q).2.1
  exact ⟨⟨g.1.1, Nat.lt_of_lt_of_le g.1.2 h.1.1.2⟩, g.2.1, kdn_O h.1.1.2 g.2.2.1⟩
theorem IV.h9 (h : IV σ x τ κ n k w) : ¬ σ 21 0 = 0 → k < 60 := fun q => (h.2.2.2.2.2 q).1
theorem IV.hg (h : IV σ x τ κ n k w) : ∀ q, q < w → kdO (σ 23 q) := fun q hq => kdn_O h.1.1.2 (h.2.2.2.1 q hq)
theorem IV.hv (h : IV σ x τ κ n k w) : ∀ i, i < k → ¬ σ 17 i = 0 → 1 ≤ mnE σ i := fun i _ => (h.2.2.1.2.2.1 i).2
theorem IV.hp (h : IV σ x τ κ n k w) : ∀ i, i < k → ∀ q, q < mnE σ i → kdO (σ 19 (5 * i + q)) := fun i _ q _ => h.2.2.1.2.2.2 _
variable {G : Nat → ClassId} {ca : Nat → Nat} {z : va_W}
theorem CW.recv {D : va_G} {H : Heap} {s : State} (hC : CW G ca σ x κ k z) (hK : KK D G s) (hP : va_P D vwCl z H) : ∃ cellB : Cell, H[ca 0]? = some cellB ∧ cellB.vm.isStatics = false ∧ s.vm.findClass RX7 = some cellB.cls := by
  obtain ⟨ea, ba, bg, pool, -, -, rfl, -⟩ := hC
  exact va_recv hK.1 hP (ci := 7) (q0 := 0) rfl rfl
theorem nx_val (hV : IV σ x τ κ n k w) (hC : CW G ca σ x κ k z) (en : Int32) : NX G ca (oValue σ τ k en).2 z := by
  obtain ⟨ea, ba, bg, pool, hE, hJ, rfl, hb⟩ := hC
  have e : ∃ v, (oValue σ τ k en).2 = (su σ 0 0 v, τ) := by unfold oValue; (repeat' split) <;> exact ⟨_, rfl⟩
  obtain ⟨v, e⟩ := e
  rw [e]; exact NX_q hV hE hJ hb v
theorem nx_par (hV : IV σ x τ κ n k w) (hC : CW G ca σ x κ k z) (en ii dm : Int32) : NX G ca (oParOf σ τ k en ii dm).2 z := by
  obtain ⟨ea, ba, bg, pool, hE, hJ, rfl, hb⟩ := hC
  have e : ∃ v, (oParOf σ τ k en ii dm).2 = (su σ 0 0 v, τ) := by unfold oParOf; (repeat' split) <;> exact ⟨_, rfl⟩
  obtain ⟨v, e⟩ := e
  rw [e]; exact NX_q hV hE hJ hb v
end LIV
/-- what holds all through the law -/
def LCx (p : Program) (l : Launch) (s : State) (m : MethodId) (c : Code) (b L : Nat) (xs : Nat → Int32) (D : va_G) (G : Nat → ClassId) (sa : Nat → Nat) : Prop :=
  p.tables.exec = Jvm.exec ∧ c.code = cL_law ∧ c.maxLocals = 8 ∧ s.vm.findClass RL = some m.cls ∧ (∀ w ∈ TT, w.before #[Value.ref b] s = true) ∧ va_X b L xs s s.heap ∧ b < s.heap.size ∧ KK D G s ∧ XS sa s ∧ XZ (fun q => s.heap.size ≤ q) s s.heap ∧ l.stackTraces = false ∧ L ≤ 3584
/-- the law's world: the reference, the row for longs, the class -/
def LW (s : State) (D : va_G) (G : Nat → ClassId) (ca : Nat → Nat) (mo : Nat) (ad : Nat → Nat) (o : Nat) (u : MU) (H : Heap) (locs : List Loc) : Prop :=
  ∃ (f : Nat → Int64) (z : va_W), NX G ca u z ∧ va_P D vwCl ((mW G mo ad u.1 u.2 ++ [(o, .inl (G 1, 1, .inr (.inl f)))]) ++ z) H ∧ va_D (fun q => s.heap.size ≤ q) ((mW G mo ad u.1 u.2 ++ [(o, .inl (G 1, 1, .inr (.inl f)))]) ++ z) ∧ va_S (fun q => s.heap.size ≤ q) s.heap H locs

theorem dL_law_136 : decode cL_law 136 = .ok (.aload_n 1, 1) := by decide +kernel
theorem dL_law_137 : decode cL_law 137 = .ok (.aload_n 0, 1) := by decide +kernel
theorem dL_law_138 : decode cL_law 138 = .ok (.iload 4, 2) := by decide +kernel
theorem dL_law_140 : decode cL_law 140 = .ok (.iconst 1, 1) := by decide +kernel
theorem dL_law_141 : decode cL_law 141 = .ok (.iadd, 1) := by decide +kernel
theorem dL_law_142 : decode cL_law 142 = .ok (.iaload, 1) := by decide +kernel
theorem dL_law_143 : decode cL_law 143 = .ok (.aload_n 0, 1) := by decide +kernel
theorem dL_law_144 : decode cL_law 144 = .ok (.iload 4, 2) := by decide +kernel
theorem dL_law_146 : decode cL_law 146 = .ok (.iconst 2, 1) := by decide +kernel
theorem dL_law_147 : decode cL_law 147 = .ok (.iadd, 1) := by decide +kernel
theorem dL_law_148 : decode cL_law 148 = .ok (.iaload, 1) := by decide +kernel
theorem q_108 : Cond.methodLink "FieldMemberLaw" 25 ⟨"FieldMember", "type", "(II)I"⟩ ∈ TT := tt_t (i := 108) (by decide +kernel) (by decide +kernel)
theorem q_111 : Cond.code ⟨"FieldMember", "type", "(II)I"⟩ prog_1_method_2_code 3 (some .int) ∈ TT := tt_t (i := 111) (by decide +kernel) (by decide +kernel)
theorem q_109 : Cond.instanceMethod ⟨"FieldMember", "type", "(II)I"⟩ ∈ TT := tt_t (i := 109) (by decide +kernel) (by decide +kernel)
theorem q_110 : Cond.selects "FieldMember" ⟨"FieldMember", "type", "(II)I"⟩ ⟨"FieldMember", "type", "(II)I"⟩ ∈ TT := tt_t (i := 110) (by decide +kernel) (by decide +kernel)
theorem gV_L_X7_type : GoodIn TT (wsV RL 25 RX7 yX7_type (ww yX7_type cX7_type 3 (some .int))) := tt_V q_108 q_109 q_110 q_1 q_111
theorem hdV_X7_type : yX7_type.cls = RX7 ∧ yX7_type.cls ≠ "java/lang/invoke/MethodHandle" ∧ yX7_type.cls ≠ "java/lang/invoke/VarHandle" ∧ (parseMethodDescriptor yX7_type.desc).map (fun d => d.parameters.length) = some 2 := by decide +kernel
theorem dL_law_149 : decode cL_law 149 = .ok (.invokevirtual 25, 3) := by decide +kernel
theorem dL_law_152 : decode cL_law 152 = .ok (.aload_n 2, 1) := by decide +kernel
theorem dL_law_153 : decode cL_law 153 = .ok (.aload_n 0, 1) := by decide +kernel
theorem dL_law_154 : decode cL_law 154 = .ok (.iload 4, 2) := by decide +kernel
theorem dL_law_156 : decode cL_law 156 = .ok (.iconst 1, 1) := by decide +kernel
theorem dL_law_157 : decode cL_law 157 = .ok (.iadd, 1) := by decide +kernel
theorem dL_law_158 : decode cL_law 158 = .ok (.iaload, 1) := by decide +kernel
theorem dL_law_159 : decode cL_law 159 = .ok (.aload_n 0, 1) := by decide +kernel
theorem dL_law_160 : decode cL_law 160 = .ok (.iload 4, 2) := by decide +kernel
theorem dL_law_162 : decode cL_law 162 = .ok (.iconst 2, 1) := by decide +kernel
theorem dL_law_163 : decode cL_law 163 = .ok (.iadd, 1) := by decide +kernel
theorem dL_law_164 : decode cL_law 164 = .ok (.iaload, 1) := by decide +kernel
theorem q_784 : Cond.methodLink "FieldMemberLaw" 29 ⟨"FieldMemberModel", "type", "(II)I"⟩ ∈ TT := tt_t (i := 784) (by decide +kernel) (by decide +kernel)
theorem q_787 : Cond.code ⟨"FieldMemberModel", "type", "(II)I"⟩ prog_10_method_8_code 3 (some .int) ∈ TT := tt_t (i := 787) (by decide +kernel) (by decide +kernel)
theorem q_785 : Cond.instanceMethod ⟨"FieldMemberModel", "type", "(II)I"⟩ ∈ TT := tt_t (i := 785) (by decide +kernel) (by decide +kernel)
theorem q_786 : Cond.selects "FieldMemberModel" ⟨"FieldMemberModel", "type", "(II)I"⟩ ⟨"FieldMemberModel", "type", "(II)I"⟩ ∈ TT := tt_t (i := 786) (by decide +kernel) (by decide +kernel)
theorem gV_L_X8_type : GoodIn TT (wsV RL 29 RX8 yX8_type (ww yX8_type cX8_type 3 (some .int))) := tt_V q_784 q_785 q_786 q_4 q_787
theorem hdV_X8_type : yX8_type.cls = RX8 ∧ yX8_type.cls ≠ "java/lang/invoke/MethodHandle" ∧ yX8_type.cls ≠ "java/lang/invoke/VarHandle" ∧ (parseMethodDescriptor yX8_type.desc).map (fun d => d.parameters.length) = some 2 := by decide +kernel
theorem dL_law_165 : decode cL_law 165 = .ok (.invokevirtual 29, 3) := by decide +kernel
theorem dL_law_168 : decode cL_law 168 = .ok (.if_icmp .eq 851, 3) := by decide +kernel
theorem dL_law_173 : decode cL_law 173 = .ok (.aload_n 1, 1) := by decide +kernel
theorem dL_law_174 : decode cL_law 174 = .ok (.aload_n 0, 1) := by decide +kernel
theorem dL_law_175 : decode cL_law 175 = .ok (.iload 4, 2) := by decide +kernel
theorem dL_law_177 : decode cL_law 177 = .ok (.iconst 1, 1) := by decide +kernel
theorem dL_law_178 : decode cL_law 178 = .ok (.iadd, 1) := by decide +kernel
theorem dL_law_179 : decode cL_law 179 = .ok (.iaload, 1) := by decide +kernel
theorem dL_law_180 : decode cL_law 180 = .ok (.aload_n 0, 1) := by decide +kernel
theorem dL_law_181 : decode cL_law 181 = .ok (.iload 4, 2) := by decide +kernel
theorem dL_law_183 : decode cL_law 183 = .ok (.iconst 2, 1) := by decide +kernel
theorem dL_law_184 : decode cL_law 184 = .ok (.iadd, 1) := by decide +kernel
theorem dL_law_185 : decode cL_law 185 = .ok (.iaload, 1) := by decide +kernel
theorem q_140 : Cond.methodLink "FieldMemberLaw" 30 ⟨"FieldMember", "face", "(II)I"⟩ ∈ TT := tt_t (i := 140) (by decide +kernel) (by decide +kernel)
theorem q_143 : Cond.code ⟨"FieldMember", "face", "(II)I"⟩ prog_1_method_3_code 3 (some .int) ∈ TT := tt_t (i := 143) (by decide +kernel) (by decide +kernel)
theorem q_141 : Cond.instanceMethod ⟨"FieldMember", "face", "(II)I"⟩ ∈ TT := tt_t (i := 141) (by decide +kernel) (by decide +kernel)
theorem q_142 : Cond.selects "FieldMember" ⟨"FieldMember", "face", "(II)I"⟩ ⟨"FieldMember", "face", "(II)I"⟩ ∈ TT := tt_t (i := 142) (by decide +kernel) (by decide +kernel)
theorem gV_L_X7_face : GoodIn TT (wsV RL 30 RX7 yX7_face (ww yX7_face cX7_face 3 (some .int))) := tt_V q_140 q_141 q_142 q_1 q_143
theorem hdV_X7_face : yX7_face.cls = RX7 ∧ yX7_face.cls ≠ "java/lang/invoke/MethodHandle" ∧ yX7_face.cls ≠ "java/lang/invoke/VarHandle" ∧ (parseMethodDescriptor yX7_face.desc).map (fun d => d.parameters.length) = some 2 := by decide +kernel
theorem dL_law_186 : decode cL_law 186 = .ok (.invokevirtual 30, 3) := by decide +kernel
theorem dL_law_189 : decode cL_law 189 = .ok (.aload_n 2, 1) := by decide +kernel
theorem dL_law_190 : decode cL_law 190 = .ok (.aload_n 0, 1) := by decide +kernel
theorem dL_law_191 : decode cL_law 191 = .ok (.iload 4, 2) := by decide +kernel
theorem dL_law_193 : decode cL_law 193 = .ok (.iconst 1, 1) := by decide +kernel
theorem dL_law_194 : decode cL_law 194 = .ok (.iadd, 1) := by decide +kernel
theorem dL_law_195 : decode cL_law 195 = .ok (.iaload, 1) := by decide +kernel
theorem dL_law_196 : decode cL_law 196 = .ok (.aload_n 0, 1) := by decide +kernel
theorem dL_law_197 : decode cL_law 197 = .ok (.iload 4, 2) := by decide +kernel
theorem dL_law_199 : decode cL_law 199 = .ok (.iconst 2, 1) := by decide +kernel
theorem dL_law_200 : decode cL_law 200 = .ok (.iadd, 1) := by decide +kernel
theorem dL_law_201 : decode cL_law 201 = .ok (.iaload, 1) := by decide +kernel
theorem q_803 : Cond.methodLink "FieldMemberLaw" 33 ⟨"FieldMemberModel", "face", "(II)I"⟩ ∈ TT := tt_t (i := 803) (by decide +kernel) (by decide +kernel)
theorem q_806 : Cond.code ⟨"FieldMemberModel", "face", "(II)I"⟩ prog_10_method_11_code 4 (some .int) ∈ TT := tt_t (i := 806) (by decide +kernel) (by decide +kernel)
theorem q_804 : Cond.instanceMethod ⟨"FieldMemberModel", "face", "(II)I"⟩ ∈ TT := tt_t (i := 804) (by decide +kernel) (by decide +kernel)
theorem q_805 : Cond.selects "FieldMemberModel" ⟨"FieldMemberModel", "face", "(II)I"⟩ ⟨"FieldMemberModel", "face", "(II)I"⟩ ∈ TT := tt_t (i := 805) (by decide +kernel) (by decide +kernel)
theorem gV_L_X8_face : GoodIn TT (wsV RL 33 RX8 yX8_face (ww yX8_face cX8_face 4 (some .int))) := tt_V q_803 q_804 q_805 q_4 q_806
theorem hdV_X8_face : yX8_face.cls = RX8 ∧ yX8_face.cls ≠ "java/lang/invoke/MethodHandle" ∧ yX8_face.cls ≠ "java/lang/invoke/VarHandle" ∧ (parseMethodDescriptor yX8_face.desc).map (fun d => d.parameters.length) = some 2 := by decide +kernel
theorem dL_law_202 : decode cL_law 202 = .ok (.invokevirtual 33, 3) := by decide +kernel
theorem dL_law_205 : decode cL_law 205 = .ok (.if_icmp .eq 814, 3) := by decide +kernel
theorem dL_law_210 : decode cL_law 210 = .ok (.aload_n 1, 1) := by decide +kernel
theorem dL_law_211 : decode cL_law 211 = .ok (.aload_n 0, 1) := by decide +kernel
theorem dL_law_212 : decode cL_law 212 = .ok (.iload 4, 2) := by decide +kernel
theorem dL_law_214 : decode cL_law 214 = .ok (.iconst 1, 1) := by decide +kernel
theorem dL_law_215 : decode cL_law 215 = .ok (.iadd, 1) := by decide +kernel
theorem dL_law_216 : decode cL_law 216 = .ok (.iaload, 1) := by decide +kernel
theorem dL_law_217 : decode cL_law 217 = .ok (.aload_n 0, 1) := by decide +kernel
theorem dL_law_218 : decode cL_law 218 = .ok (.iload 4, 2) := by decide +kernel
theorem dL_law_220 : decode cL_law 220 = .ok (.iconst 2, 1) := by decide +kernel
theorem dL_law_221 : decode cL_law 221 = .ok (.iadd, 1) := by decide +kernel
theorem dL_law_222 : decode cL_law 222 = .ok (.iaload, 1) := by decide +kernel
theorem q_160 : Cond.methodLink "FieldMemberLaw" 34 ⟨"FieldMember", "below", "(II)I"⟩ ∈ TT := tt_t (i := 160) (by decide +kernel) (by decide +kernel)
theorem q_163 : Cond.code ⟨"FieldMember", "below", "(II)I"⟩ prog_1_method_4_code 3 (some .int) ∈ TT := tt_t (i := 163) (by decide +kernel) (by decide +kernel)
theorem q_161 : Cond.instanceMethod ⟨"FieldMember", "below", "(II)I"⟩ ∈ TT := tt_t (i := 161) (by decide +kernel) (by decide +kernel)
theorem q_162 : Cond.selects "FieldMember" ⟨"FieldMember", "below", "(II)I"⟩ ⟨"FieldMember", "below", "(II)I"⟩ ∈ TT := tt_t (i := 162) (by decide +kernel) (by decide +kernel)
theorem gV_L_X7_below : GoodIn TT (wsV RL 34 RX7 yX7_below (ww yX7_below cX7_below 3 (some .int))) := tt_V q_160 q_161 q_162 q_1 q_163
theorem hdV_X7_below : yX7_below.cls = RX7 ∧ yX7_below.cls ≠ "java/lang/invoke/MethodHandle" ∧ yX7_below.cls ≠ "java/lang/invoke/VarHandle" ∧ (parseMethodDescriptor yX7_below.desc).map (fun d => d.parameters.length) = some 2 := by decide +kernel
theorem dL_law_223 : decode cL_law 223 = .ok (.invokevirtual 34, 3) := by decide +kernel
theorem dL_law_226 : decode cL_law 226 = .ok (.aload_n 2, 1) := by decide +kernel
theorem dL_law_227 : decode cL_law 227 = .ok (.aload_n 0, 1) := by decide +kernel
theorem dL_law_228 : decode cL_law 228 = .ok (.iload 4, 2) := by decide +kernel
theorem dL_law_230 : decode cL_law 230 = .ok (.iconst 1, 1) := by decide +kernel
theorem dL_law_231 : decode cL_law 231 = .ok (.iadd, 1) := by decide +kernel
theorem dL_law_232 : decode cL_law 232 = .ok (.iaload, 1) := by decide +kernel
theorem dL_law_233 : decode cL_law 233 = .ok (.aload_n 0, 1) := by decide +kernel
theorem dL_law_234 : decode cL_law 234 = .ok (.iload 4, 2) := by decide +kernel
theorem dL_law_236 : decode cL_law 236 = .ok (.iconst 2, 1) := by decide +kernel
theorem dL_law_237 : decode cL_law 237 = .ok (.iadd, 1) := by decide +kernel
theorem dL_law_238 : decode cL_law 238 = .ok (.iaload, 1) := by decide +kernel
theorem q_811 : Cond.methodLink "FieldMemberLaw" 37 ⟨"FieldMemberModel", "below", "(II)I"⟩ ∈ TT := tt_t (i := 811) (by decide +kernel) (by decide +kernel)
theorem q_814 : Cond.code ⟨"FieldMemberModel", "below", "(II)I"⟩ prog_10_method_13_code 3 (some .int) ∈ TT := tt_t (i := 814) (by decide +kernel) (by decide +kernel)
theorem q_812 : Cond.instanceMethod ⟨"FieldMemberModel", "below", "(II)I"⟩ ∈ TT := tt_t (i := 812) (by decide +kernel) (by decide +kernel)
theorem q_813 : Cond.selects "FieldMemberModel" ⟨"FieldMemberModel", "below", "(II)I"⟩ ⟨"FieldMemberModel", "below", "(II)I"⟩ ∈ TT := tt_t (i := 813) (by decide +kernel) (by decide +kernel)
theorem gV_L_X8_below : GoodIn TT (wsV RL 37 RX8 yX8_below (ww yX8_below cX8_below 3 (some .int))) := tt_V q_811 q_812 q_813 q_4 q_814
theorem hdV_X8_below : yX8_below.cls = RX8 ∧ yX8_below.cls ≠ "java/lang/invoke/MethodHandle" ∧ yX8_below.cls ≠ "java/lang/invoke/VarHandle" ∧ (parseMethodDescriptor yX8_below.desc).map (fun d => d.parameters.length) = some 2 := by decide +kernel
theorem dL_law_239 : decode cL_law 239 = .ok (.invokevirtual 37, 3) := by decide +kernel
theorem dL_law_242 : decode cL_law 242 = .ok (.if_icmp .eq 777, 3) := by decide +kernel
theorem dL_law_247 : decode cL_law 247 = .ok (.aload_n 1, 1) := by decide +kernel
theorem dL_law_248 : decode cL_law 248 = .ok (.aload_n 0, 1) := by decide +kernel
theorem dL_law_249 : decode cL_law 249 = .ok (.iload 4, 2) := by decide +kernel
theorem dL_law_251 : decode cL_law 251 = .ok (.iconst 1, 1) := by decide +kernel
theorem dL_law_252 : decode cL_law 252 = .ok (.iadd, 1) := by decide +kernel
theorem dL_law_253 : decode cL_law 253 = .ok (.iaload, 1) := by decide +kernel
theorem dL_law_254 : decode cL_law 254 = .ok (.aload_n 0, 1) := by decide +kernel
theorem dL_law_255 : decode cL_law 255 = .ok (.iload 4, 2) := by decide +kernel
theorem dL_law_257 : decode cL_law 257 = .ok (.iconst 2, 1) := by decide +kernel
theorem dL_law_258 : decode cL_law 258 = .ok (.iadd, 1) := by decide +kernel
theorem dL_law_259 : decode cL_law 259 = .ok (.iaload, 1) := by decide +kernel
theorem dL_law_260 : decode cL_law 260 = .ok (.aload_n 0, 1) := by decide +kernel
theorem dL_law_261 : decode cL_law 261 = .ok (.iload 4, 2) := by decide +kernel
theorem dL_law_263 : decode cL_law 263 = .ok (.iconst 3, 1) := by decide +kernel
theorem dL_law_264 : decode cL_law 264 = .ok (.iadd, 1) := by decide +kernel
theorem dL_law_265 : decode cL_law 265 = .ok (.iaload, 1) := by decide +kernel
theorem dL_law_266 : decode cL_law 266 = .ok (.aload_n 0, 1) := by decide +kernel
theorem dL_law_267 : decode cL_law 267 = .ok (.iload 4, 2) := by decide +kernel
theorem dL_law_269 : decode cL_law 269 = .ok (.iconst 4, 1) := by decide +kernel
theorem dL_law_270 : decode cL_law 270 = .ok (.iadd, 1) := by decide +kernel
theorem dL_law_271 : decode cL_law 271 = .ok (.iaload, 1) := by decide +kernel
theorem dL_law_272 : decode cL_law 272 = .ok (.aload_n 0, 1) := by decide +kernel
theorem dL_law_273 : decode cL_law 273 = .ok (.iload 4, 2) := by decide +kernel
theorem dL_law_275 : decode cL_law 275 = .ok (.iconst 5, 1) := by decide +kernel
theorem dL_law_276 : decode cL_law 276 = .ok (.iadd, 1) := by decide +kernel
theorem dL_law_277 : decode cL_law 277 = .ok (.iaload, 1) := by decide +kernel
theorem q_171 : Cond.methodLink "FieldMemberLaw" 38 ⟨"FieldMember", "field", "(IIIII)I"⟩ ∈ TT := tt_t (i := 171) (by decide +kernel) (by decide +kernel)
theorem q_174 : Cond.code ⟨"FieldMember", "field", "(IIIII)I"⟩ prog_1_method_5_code 10 (some .int) ∈ TT := tt_t (i := 174) (by decide +kernel) (by decide +kernel)
theorem q_172 : Cond.instanceMethod ⟨"FieldMember", "field", "(IIIII)I"⟩ ∈ TT := tt_t (i := 172) (by decide +kernel) (by decide +kernel)
theorem q_173 : Cond.selects "FieldMember" ⟨"FieldMember", "field", "(IIIII)I"⟩ ⟨"FieldMember", "field", "(IIIII)I"⟩ ∈ TT := tt_t (i := 173) (by decide +kernel) (by decide +kernel)
theorem gV_L_X7_field : GoodIn TT (wsV RL 38 RX7 yX7_field (ww yX7_field cX7_field 10 (some .int))) := tt_V q_171 q_172 q_173 q_1 q_174
theorem hdV_X7_field : yX7_field.cls = RX7 ∧ yX7_field.cls ≠ "java/lang/invoke/MethodHandle" ∧ yX7_field.cls ≠ "java/lang/invoke/VarHandle" ∧ (parseMethodDescriptor yX7_field.desc).map (fun d => d.parameters.length) = some 5 := by decide +kernel
theorem dL_law_278 : decode cL_law 278 = .ok (.invokevirtual 38, 3) := by decide +kernel
theorem dL_law_281 : decode cL_law 281 = .ok (.aload_n 2, 1) := by decide +kernel
theorem dL_law_282 : decode cL_law 282 = .ok (.aload_n 0, 1) := by decide +kernel
theorem dL_law_283 : decode cL_law 283 = .ok (.iload 4, 2) := by decide +kernel
theorem dL_law_285 : decode cL_law 285 = .ok (.iconst 1, 1) := by decide +kernel
theorem dL_law_286 : decode cL_law 286 = .ok (.iadd, 1) := by decide +kernel
theorem dL_law_287 : decode cL_law 287 = .ok (.iaload, 1) := by decide +kernel
theorem dL_law_288 : decode cL_law 288 = .ok (.aload_n 0, 1) := by decide +kernel
theorem dL_law_289 : decode cL_law 289 = .ok (.iload 4, 2) := by decide +kernel
theorem dL_law_291 : decode cL_law 291 = .ok (.iconst 2, 1) := by decide +kernel
theorem dL_law_292 : decode cL_law 292 = .ok (.iadd, 1) := by decide +kernel
theorem dL_law_293 : decode cL_law 293 = .ok (.iaload, 1) := by decide +kernel
theorem dL_law_294 : decode cL_law 294 = .ok (.aload_n 0, 1) := by decide +kernel
theorem dL_law_295 : decode cL_law 295 = .ok (.iload 4, 2) := by decide +kernel
theorem dL_law_297 : decode cL_law 297 = .ok (.iconst 3, 1) := by decide +kernel
theorem dL_law_298 : decode cL_law 298 = .ok (.iadd, 1) := by decide +kernel
theorem dL_law_299 : decode cL_law 299 = .ok (.iaload, 1) := by decide +kernel
theorem dL_law_300 : decode cL_law 300 = .ok (.aload_n 0, 1) := by decide +kernel
theorem dL_law_301 : decode cL_law 301 = .ok (.iload 4, 2) := by decide +kernel
theorem dL_law_303 : decode cL_law 303 = .ok (.iconst 4, 1) := by decide +kernel
theorem dL_law_304 : decode cL_law 304 = .ok (.iadd, 1) := by decide +kernel
theorem dL_law_305 : decode cL_law 305 = .ok (.iaload, 1) := by decide +kernel
theorem dL_law_306 : decode cL_law 306 = .ok (.aload_n 0, 1) := by decide +kernel
theorem dL_law_307 : decode cL_law 307 = .ok (.iload 4, 2) := by decide +kernel
theorem dL_law_309 : decode cL_law 309 = .ok (.iconst 5, 1) := by decide +kernel
theorem dL_law_310 : decode cL_law 310 = .ok (.iadd, 1) := by decide +kernel
theorem dL_law_311 : decode cL_law 311 = .ok (.iaload, 1) := by decide +kernel
theorem q_819 : Cond.methodLink "FieldMemberLaw" 42 ⟨"FieldMemberModel", "field", "(IIIII)I"⟩ ∈ TT := tt_t (i := 819) (by decide +kernel) (by decide +kernel)
theorem q_822 : Cond.code ⟨"FieldMemberModel", "field", "(IIIII)I"⟩ prog_10_method_16_code 8 (some .int) ∈ TT := tt_t (i := 822) (by decide +kernel) (by decide +kernel)
theorem q_820 : Cond.instanceMethod ⟨"FieldMemberModel", "field", "(IIIII)I"⟩ ∈ TT := tt_t (i := 820) (by decide +kernel) (by decide +kernel)
theorem q_821 : Cond.selects "FieldMemberModel" ⟨"FieldMemberModel", "field", "(IIIII)I"⟩ ⟨"FieldMemberModel", "field", "(IIIII)I"⟩ ∈ TT := tt_t (i := 821) (by decide +kernel) (by decide +kernel)
theorem gV_L_X8_field : GoodIn TT (wsV RL 42 RX8 yX8_field (ww yX8_field cX8_field 8 (some .int))) := tt_V q_819 q_820 q_821 q_4 q_822
theorem hdV_X8_field : yX8_field.cls = RX8 ∧ yX8_field.cls ≠ "java/lang/invoke/MethodHandle" ∧ yX8_field.cls ≠ "java/lang/invoke/VarHandle" ∧ (parseMethodDescriptor yX8_field.desc).map (fun d => d.parameters.length) = some 5 := by decide +kernel
theorem dL_law_312 : decode cL_law 312 = .ok (.invokevirtual 42, 3) := by decide +kernel
theorem dL_law_315 : decode cL_law 315 = .ok (.if_icmp .eq 704, 3) := by decide +kernel
theorem dL_law_320 : decode cL_law 320 = .ok (.aload_n 1, 1) := by decide +kernel
theorem dL_law_321 : decode cL_law 321 = .ok (.aload_n 0, 1) := by decide +kernel
theorem dL_law_322 : decode cL_law 322 = .ok (.iload 4, 2) := by decide +kernel
theorem dL_law_324 : decode cL_law 324 = .ok (.iconst 1, 1) := by decide +kernel
theorem dL_law_325 : decode cL_law 325 = .ok (.iadd, 1) := by decide +kernel
theorem dL_law_326 : decode cL_law 326 = .ok (.iaload, 1) := by decide +kernel
theorem dL_law_327 : decode cL_law 327 = .ok (.aload_n 0, 1) := by decide +kernel
theorem dL_law_328 : decode cL_law 328 = .ok (.iload 4, 2) := by decide +kernel
theorem dL_law_330 : decode cL_law 330 = .ok (.iconst 2, 1) := by decide +kernel
theorem dL_law_331 : decode cL_law 331 = .ok (.iadd, 1) := by decide +kernel
theorem dL_law_332 : decode cL_law 332 = .ok (.iaload, 1) := by decide +kernel
theorem dL_law_333 : decode cL_law 333 = .ok (.i2l, 1) := by decide +kernel
theorem dL_law_334 : decode cL_law 334 = .ok (.bipush 32, 2) := by decide +kernel
theorem dL_law_336 : decode cL_law 336 = .ok (.lshl, 1) := by decide +kernel
theorem dL_law_337 : decode cL_law 337 = .ok (.aload_n 0, 1) := by decide +kernel
theorem dL_law_338 : decode cL_law 338 = .ok (.iload 4, 2) := by decide +kernel
theorem dL_law_340 : decode cL_law 340 = .ok (.iconst 3, 1) := by decide +kernel
theorem dL_law_341 : decode cL_law 341 = .ok (.iadd, 1) := by decide +kernel
theorem dL_law_342 : decode cL_law 342 = .ok (.iaload, 1) := by decide +kernel
theorem dL_law_343 : decode cL_law 343 = .ok (.i2l, 1) := by decide +kernel
theorem q_1008 : Cond.constantLong "FieldMemberLaw" 43 (4294967295 : Int64) ∈ TT := tt_t (i := 1008) (by decide +kernel) (by decide +kernel)
theorem dL_law_344 : decode cL_law 344 = .ok (.ldc2_w 43, 3) := by decide +kernel
theorem dL_law_347 : decode cL_law 347 = .ok (.land, 1) := by decide +kernel
theorem dL_law_348 : decode cL_law 348 = .ok (.lor, 1) := by decide +kernel
theorem q_263 : Cond.methodLink "FieldMemberLaw" 45 ⟨"FieldMember", "constant", "(IJ)I"⟩ ∈ TT := tt_t (i := 263) (by decide +kernel) (by decide +kernel)
theorem q_266 : Cond.code ⟨"FieldMember", "constant", "(IJ)I"⟩ prog_1_method_6_code 6 (some .int) ∈ TT := tt_t (i := 266) (by decide +kernel) (by decide +kernel)
theorem q_264 : Cond.instanceMethod ⟨"FieldMember", "constant", "(IJ)I"⟩ ∈ TT := tt_t (i := 264) (by decide +kernel) (by decide +kernel)
theorem q_265 : Cond.selects "FieldMember" ⟨"FieldMember", "constant", "(IJ)I"⟩ ⟨"FieldMember", "constant", "(IJ)I"⟩ ∈ TT := tt_t (i := 265) (by decide +kernel) (by decide +kernel)
theorem gV_L_X7_constant : GoodIn TT (wsV RL 45 RX7 yX7_constant (ww yX7_constant cX7_constant 6 (some .int))) := tt_V q_263 q_264 q_265 q_1 q_266
theorem hdV_X7_constant : yX7_constant.cls = RX7 ∧ yX7_constant.cls ≠ "java/lang/invoke/MethodHandle" ∧ yX7_constant.cls ≠ "java/lang/invoke/VarHandle" ∧ (parseMethodDescriptor yX7_constant.desc).map (fun d => d.parameters.length) = some 2 := by decide +kernel
theorem dL_law_349 : decode cL_law 349 = .ok (.invokevirtual 45, 3) := by decide +kernel
theorem dL_law_352 : decode cL_law 352 = .ok (.aload_n 2, 1) := by decide +kernel
theorem dL_law_353 : decode cL_law 353 = .ok (.aload_n 0, 1) := by decide +kernel
theorem dL_law_354 : decode cL_law 354 = .ok (.iload 4, 2) := by decide +kernel
theorem dL_law_356 : decode cL_law 356 = .ok (.iconst 1, 1) := by decide +kernel
theorem dL_law_357 : decode cL_law 357 = .ok (.iadd, 1) := by decide +kernel
theorem dL_law_358 : decode cL_law 358 = .ok (.iaload, 1) := by decide +kernel
theorem dL_law_359 : decode cL_law 359 = .ok (.aload_n 0, 1) := by decide +kernel
theorem dL_law_360 : decode cL_law 360 = .ok (.iload 4, 2) := by decide +kernel
theorem dL_law_362 : decode cL_law 362 = .ok (.iconst 2, 1) := by decide +kernel
theorem dL_law_363 : decode cL_law 363 = .ok (.iadd, 1) := by decide +kernel
theorem dL_law_364 : decode cL_law 364 = .ok (.iaload, 1) := by decide +kernel
theorem dL_law_365 : decode cL_law 365 = .ok (.i2l, 1) := by decide +kernel
theorem dL_law_366 : decode cL_law 366 = .ok (.bipush 32, 2) := by decide +kernel
theorem dL_law_368 : decode cL_law 368 = .ok (.lshl, 1) := by decide +kernel
theorem dL_law_369 : decode cL_law 369 = .ok (.aload_n 0, 1) := by decide +kernel
theorem dL_law_370 : decode cL_law 370 = .ok (.iload 4, 2) := by decide +kernel
theorem dL_law_372 : decode cL_law 372 = .ok (.iconst 3, 1) := by decide +kernel
theorem dL_law_373 : decode cL_law 373 = .ok (.iadd, 1) := by decide +kernel
theorem dL_law_374 : decode cL_law 374 = .ok (.iaload, 1) := by decide +kernel
theorem dL_law_375 : decode cL_law 375 = .ok (.i2l, 1) := by decide +kernel
theorem dL_law_376 : decode cL_law 376 = .ok (.ldc2_w 43, 3) := by decide +kernel
theorem dL_law_379 : decode cL_law 379 = .ok (.land, 1) := by decide +kernel
theorem dL_law_380 : decode cL_law 380 = .ok (.lor, 1) := by decide +kernel
theorem q_850 : Cond.methodLink "FieldMemberLaw" 49 ⟨"FieldMemberModel", "constant", "(IJ)I"⟩ ∈ TT := tt_t (i := 850) (by decide +kernel) (by decide +kernel)
theorem q_853 : Cond.code ⟨"FieldMemberModel", "constant", "(IJ)I"⟩ prog_10_method_21_code 6 (some .int) ∈ TT := tt_t (i := 853) (by decide +kernel) (by decide +kernel)
theorem q_851 : Cond.instanceMethod ⟨"FieldMemberModel", "constant", "(IJ)I"⟩ ∈ TT := tt_t (i := 851) (by decide +kernel) (by decide +kernel)
theorem q_852 : Cond.selects "FieldMemberModel" ⟨"FieldMemberModel", "constant", "(IJ)I"⟩ ⟨"FieldMemberModel", "constant", "(IJ)I"⟩ ∈ TT := tt_t (i := 852) (by decide +kernel) (by decide +kernel)
theorem gV_L_X8_constant : GoodIn TT (wsV RL 49 RX8 yX8_constant (ww yX8_constant cX8_constant 6 (some .int))) := tt_V q_850 q_851 q_852 q_4 q_853
theorem hdV_X8_constant : yX8_constant.cls = RX8 ∧ yX8_constant.cls ≠ "java/lang/invoke/MethodHandle" ∧ yX8_constant.cls ≠ "java/lang/invoke/VarHandle" ∧ (parseMethodDescriptor yX8_constant.desc).map (fun d => d.parameters.length) = some 2 := by decide +kernel
theorem dL_law_381 : decode cL_law 381 = .ok (.invokevirtual 49, 3) := by decide +kernel
theorem dL_law_384 : decode cL_law 384 = .ok (.if_icmp .eq 635, 3) := by decide +kernel
theorem dL_law_389 : decode cL_law 389 = .ok (.aload_n 1, 1) := by decide +kernel
theorem dL_law_390 : decode cL_law 390 = .ok (.aload_n 0, 1) := by decide +kernel
theorem dL_law_391 : decode cL_law 391 = .ok (.iload 4, 2) := by decide +kernel
theorem dL_law_393 : decode cL_law 393 = .ok (.iconst 1, 1) := by decide +kernel
theorem dL_law_394 : decode cL_law 394 = .ok (.iadd, 1) := by decide +kernel
theorem dL_law_395 : decode cL_law 395 = .ok (.iaload, 1) := by decide +kernel
theorem dL_law_396 : decode cL_law 396 = .ok (.aload_n 3, 1) := by decide +kernel
theorem q_548 : Cond.methodLink "FieldMemberLaw" 50 ⟨"FieldMemberLaw", "value", "(LFieldMember;I[J)I"⟩ ∈ TT := tt_t (i := 548) (by decide +kernel) (by decide +kernel)
theorem q_549 : Cond.static ⟨"FieldMemberLaw", "value", "(LFieldMember;I[J)I"⟩ ∈ TT := tt_t (i := 549) (by decide +kernel) (by decide +kernel)
theorem q_0 : Cond.initialized "FieldMemberLaw" ∈ TT := tt_t (i := 0) (by decide +kernel) (by decide +kernel)
theorem q_550 : Cond.codeWith ⟨"FieldMemberLaw", "value", "(LFieldMember;I[J)I"⟩ method_3_code 4 (some .int) [(0, 8, 11, 13), (0, 8, 14, 15)] ∈ TT := tt_t (i := 550) (by decide +kernel) (by decide +kernel)
theorem dL_law_397 : decode cL_law 397 = .ok (.invokestatic 50, 3) := by decide +kernel
theorem dL_law_400 : decode cL_law 400 = .ok (.istore 5, 2) := by decide +kernel
theorem dL_law_402 : decode cL_law 402 = .ok (.aload_n 2, 1) := by decide +kernel
theorem dL_law_403 : decode cL_law 403 = .ok (.aload_n 0, 1) := by decide +kernel
theorem dL_law_404 : decode cL_law 404 = .ok (.iload 4, 2) := by decide +kernel
theorem dL_law_406 : decode cL_law 406 = .ok (.iconst 1, 1) := by decide +kernel
theorem dL_law_407 : decode cL_law 407 = .ok (.iadd, 1) := by decide +kernel
theorem dL_law_408 : decode cL_law 408 = .ok (.iaload, 1) := by decide +kernel
theorem q_878 : Cond.methodLink "FieldMemberLaw" 55 ⟨"FieldMemberModel", "value", "(I)J"⟩ ∈ TT := tt_t (i := 878) (by decide +kernel) (by decide +kernel)
theorem q_881 : Cond.code ⟨"FieldMemberModel", "value", "(I)J"⟩ prog_10_method_22_code 2 (some .long) ∈ TT := tt_t (i := 881) (by decide +kernel) (by decide +kernel)
theorem q_879 : Cond.instanceMethod ⟨"FieldMemberModel", "value", "(I)J"⟩ ∈ TT := tt_t (i := 879) (by decide +kernel) (by decide +kernel)
theorem q_880 : Cond.selects "FieldMemberModel" ⟨"FieldMemberModel", "value", "(I)J"⟩ ⟨"FieldMemberModel", "value", "(I)J"⟩ ∈ TT := tt_t (i := 880) (by decide +kernel) (by decide +kernel)
theorem gV_L_X8_value : GoodIn TT (wsV RL 55 RX8 yX8_value (ww yX8_value cX8_value 2 (some .long))) := tt_V q_878 q_879 q_880 q_4 q_881
theorem hdV_X8_value : yX8_value.cls = RX8 ∧ yX8_value.cls ≠ "java/lang/invoke/MethodHandle" ∧ yX8_value.cls ≠ "java/lang/invoke/VarHandle" ∧ (parseMethodDescriptor yX8_value.desc).map (fun d => d.parameters.length) = some 1 := by decide +kernel
theorem dL_law_409 : decode cL_law 409 = .ok (.invokevirtual 55, 3) := by decide +kernel
theorem dL_law_412 : decode cL_law 412 = .ok (.lstore 6, 2) := by decide +kernel
theorem dL_law_414 : decode cL_law 414 = .ok (.aload_n 2, 1) := by decide +kernel
theorem q_780 : Cond.methodLink "FieldMemberLaw" 56 ⟨"FieldMemberModel", "thrown", "()I"⟩ ∈ TT := tt_t (i := 780) (by decide +kernel) (by decide +kernel)
theorem q_783 : Cond.code ⟨"FieldMemberModel", "thrown", "()I"⟩ prog_10_method_2_code 1 (some .int) ∈ TT := tt_t (i := 783) (by decide +kernel) (by decide +kernel)
theorem q_781 : Cond.instanceMethod ⟨"FieldMemberModel", "thrown", "()I"⟩ ∈ TT := tt_t (i := 781) (by decide +kernel) (by decide +kernel)
theorem q_782 : Cond.selects "FieldMemberModel" ⟨"FieldMemberModel", "thrown", "()I"⟩ ⟨"FieldMemberModel", "thrown", "()I"⟩ ∈ TT := tt_t (i := 782) (by decide +kernel) (by decide +kernel)
theorem gV_L_X8_thrown : GoodIn TT (wsV RL 56 RX8 yX8_thrown (ww yX8_thrown cX8_thrown 1 (some .int))) := tt_V q_780 q_781 q_782 q_4 q_783
theorem hdV_X8_thrown : yX8_thrown.cls = RX8 ∧ yX8_thrown.cls ≠ "java/lang/invoke/MethodHandle" ∧ yX8_thrown.cls ≠ "java/lang/invoke/VarHandle" ∧ (parseMethodDescriptor yX8_thrown.desc).map (fun d => d.parameters.length) = some 0 := by decide +kernel
theorem dL_law_415 : decode cL_law 415 = .ok (.invokevirtual 56, 3) := by decide +kernel
theorem dL_law_418 : decode cL_law 418 = .ok (.iload 5, 2) := by decide +kernel
theorem dL_law_420 : decode cL_law 420 = .ok (.if_icmp .eq 5, 3) := by decide +kernel
theorem dL_law_425 : decode cL_law 425 = .ok (.iload 5, 2) := by decide +kernel
theorem dL_law_427 : decode cL_law 427 = .ok (.ifCond .ne 14, 3) := by decide +kernel
theorem dL_law_441 : decode cL_law 441 = .ok (.goto 578, 3) := by decide +kernel
theorem dL_law_430 : decode cL_law 430 = .ok (.aload_n 3, 1) := by decide +kernel
theorem dL_law_431 : decode cL_law 431 = .ok (.iconst 0, 1) := by decide +kernel
theorem dL_law_432 : decode cL_law 432 = .ok (.laload, 1) := by decide +kernel
theorem dL_law_433 : decode cL_law 433 = .ok (.lload 6, 2) := by decide +kernel
theorem dL_law_435 : decode cL_law 435 = .ok (.lcmp, 1) := by decide +kernel
theorem dL_law_436 : decode cL_law 436 = .ok (.ifCond .eq 5, 3) := by decide +kernel
theorem dL_law_444 : decode cL_law 444 = .ok (.aload_n 1, 1) := by decide +kernel
theorem dL_law_445 : decode cL_law 445 = .ok (.aload_n 0, 1) := by decide +kernel
theorem dL_law_446 : decode cL_law 446 = .ok (.iload 4, 2) := by decide +kernel
theorem dL_law_448 : decode cL_law 448 = .ok (.iconst 1, 1) := by decide +kernel
theorem dL_law_449 : decode cL_law 449 = .ok (.iadd, 1) := by decide +kernel
theorem dL_law_450 : decode cL_law 450 = .ok (.iaload, 1) := by decide +kernel
theorem dL_law_451 : decode cL_law 451 = .ok (.aload_n 0, 1) := by decide +kernel
theorem dL_law_452 : decode cL_law 452 = .ok (.iload 4, 2) := by decide +kernel
theorem dL_law_454 : decode cL_law 454 = .ok (.iconst 2, 1) := by decide +kernel
theorem dL_law_455 : decode cL_law 455 = .ok (.iadd, 1) := by decide +kernel
theorem dL_law_456 : decode cL_law 456 = .ok (.iaload, 1) := by decide +kernel
theorem dL_law_457 : decode cL_law 457 = .ok (.aload_n 0, 1) := by decide +kernel
theorem dL_law_458 : decode cL_law 458 = .ok (.iload 4, 2) := by decide +kernel
theorem dL_law_460 : decode cL_law 460 = .ok (.iconst 3, 1) := by decide +kernel
theorem dL_law_461 : decode cL_law 461 = .ok (.iadd, 1) := by decide +kernel
theorem dL_law_462 : decode cL_law 462 = .ok (.iaload, 1) := by decide +kernel
theorem dL_law_463 : decode cL_law 463 = .ok (.aload_n 0, 1) := by decide +kernel
theorem dL_law_464 : decode cL_law 464 = .ok (.iload 4, 2) := by decide +kernel
theorem dL_law_466 : decode cL_law 466 = .ok (.iconst 4, 1) := by decide +kernel
theorem dL_law_467 : decode cL_law 467 = .ok (.iadd, 1) := by decide +kernel
theorem dL_law_468 : decode cL_law 468 = .ok (.iaload, 1) := by decide +kernel
theorem dL_law_469 : decode cL_law 469 = .ok (.aload_n 0, 1) := by decide +kernel
theorem dL_law_470 : decode cL_law 470 = .ok (.iload 4, 2) := by decide +kernel
theorem dL_law_472 : decode cL_law 472 = .ok (.iconst 5, 1) := by decide +kernel
theorem dL_law_473 : decode cL_law 473 = .ok (.iadd, 1) := by decide +kernel
theorem dL_law_474 : decode cL_law 474 = .ok (.iaload, 1) := by decide +kernel
theorem dL_law_475 : decode cL_law 475 = .ok (.aload_n 0, 1) := by decide +kernel
theorem dL_law_476 : decode cL_law 476 = .ok (.iload 4, 2) := by decide +kernel
theorem dL_law_478 : decode cL_law 478 = .ok (.bipush 6, 2) := by decide +kernel
theorem dL_law_480 : decode cL_law 480 = .ok (.iadd, 1) := by decide +kernel
theorem dL_law_481 : decode cL_law 481 = .ok (.iaload, 1) := by decide +kernel
theorem dL_law_482 : decode cL_law 482 = .ok (.ifCond .eq 7, 3) := by decide +kernel
theorem dL_law_489 : decode cL_law 489 = .ok (.iconst 0, 1) := by decide +kernel
theorem q_284 : Cond.methodLink "FieldMemberLaw" 60 ⟨"FieldMember", "member", "(IIIIIZ)I"⟩ ∈ TT := tt_t (i := 284) (by decide +kernel) (by decide +kernel)
theorem q_287 : Cond.code ⟨"FieldMember", "member", "(IIIIIZ)I"⟩ prog_1_method_8_code 11 (some .int) ∈ TT := tt_t (i := 287) (by decide +kernel) (by decide +kernel)
theorem q_285 : Cond.instanceMethod ⟨"FieldMember", "member", "(IIIIIZ)I"⟩ ∈ TT := tt_t (i := 285) (by decide +kernel) (by decide +kernel)
theorem q_286 : Cond.selects "FieldMember" ⟨"FieldMember", "member", "(IIIIIZ)I"⟩ ⟨"FieldMember", "member", "(IIIIIZ)I"⟩ ∈ TT := tt_t (i := 286) (by decide +kernel) (by decide +kernel)
theorem gV_L_X7_member : GoodIn TT (wsV RL 60 RX7 yX7_member (ww yX7_member cX7_member 11 (some .int))) := tt_V q_284 q_285 q_286 q_1 q_287
theorem hdV_X7_member : yX7_member.cls = RX7 ∧ yX7_member.cls ≠ "java/lang/invoke/MethodHandle" ∧ yX7_member.cls ≠ "java/lang/invoke/VarHandle" ∧ (parseMethodDescriptor yX7_member.desc).map (fun d => d.parameters.length) = some 6 := by decide +kernel
theorem dL_law_490 : decode cL_law 490 = .ok (.invokevirtual 60, 3) := by decide +kernel
theorem dL_law_493 : decode cL_law 493 = .ok (.aload_n 2, 1) := by decide +kernel
theorem dL_law_494 : decode cL_law 494 = .ok (.aload_n 0, 1) := by decide +kernel
theorem dL_law_495 : decode cL_law 495 = .ok (.iload 4, 2) := by decide +kernel
theorem dL_law_497 : decode cL_law 497 = .ok (.iconst 1, 1) := by decide +kernel
theorem dL_law_498 : decode cL_law 498 = .ok (.iadd, 1) := by decide +kernel
theorem dL_law_499 : decode cL_law 499 = .ok (.iaload, 1) := by decide +kernel
theorem dL_law_500 : decode cL_law 500 = .ok (.aload_n 0, 1) := by decide +kernel
theorem dL_law_501 : decode cL_law 501 = .ok (.iload 4, 2) := by decide +kernel
theorem dL_law_503 : decode cL_law 503 = .ok (.iconst 2, 1) := by decide +kernel
theorem dL_law_504 : decode cL_law 504 = .ok (.iadd, 1) := by decide +kernel
theorem dL_law_505 : decode cL_law 505 = .ok (.iaload, 1) := by decide +kernel
theorem dL_law_506 : decode cL_law 506 = .ok (.aload_n 0, 1) := by decide +kernel
theorem dL_law_507 : decode cL_law 507 = .ok (.iload 4, 2) := by decide +kernel
theorem dL_law_509 : decode cL_law 509 = .ok (.iconst 3, 1) := by decide +kernel
theorem dL_law_510 : decode cL_law 510 = .ok (.iadd, 1) := by decide +kernel
theorem dL_law_511 : decode cL_law 511 = .ok (.iaload, 1) := by decide +kernel
theorem dL_law_512 : decode cL_law 512 = .ok (.aload_n 0, 1) := by decide +kernel
theorem dL_law_513 : decode cL_law 513 = .ok (.iload 4, 2) := by decide +kernel
theorem dL_law_515 : decode cL_law 515 = .ok (.iconst 4, 1) := by decide +kernel
theorem dL_law_516 : decode cL_law 516 = .ok (.iadd, 1) := by decide +kernel
theorem dL_law_517 : decode cL_law 517 = .ok (.iaload, 1) := by decide +kernel
theorem dL_law_518 : decode cL_law 518 = .ok (.aload_n 0, 1) := by decide +kernel
theorem dL_law_519 : decode cL_law 519 = .ok (.iload 4, 2) := by decide +kernel
theorem dL_law_521 : decode cL_law 521 = .ok (.iconst 5, 1) := by decide +kernel
theorem dL_law_522 : decode cL_law 522 = .ok (.iadd, 1) := by decide +kernel
theorem dL_law_523 : decode cL_law 523 = .ok (.iaload, 1) := by decide +kernel
theorem dL_law_524 : decode cL_law 524 = .ok (.aload_n 0, 1) := by decide +kernel
theorem dL_law_525 : decode cL_law 525 = .ok (.iload 4, 2) := by decide +kernel
theorem dL_law_527 : decode cL_law 527 = .ok (.bipush 6, 2) := by decide +kernel
theorem dL_law_529 : decode cL_law 529 = .ok (.iadd, 1) := by decide +kernel
theorem dL_law_530 : decode cL_law 530 = .ok (.iaload, 1) := by decide +kernel
theorem dL_law_531 : decode cL_law 531 = .ok (.ifCond .eq 7, 3) := by decide +kernel
theorem dL_law_538 : decode cL_law 538 = .ok (.iconst 0, 1) := by decide +kernel
theorem q_882 : Cond.methodLink "FieldMemberLaw" 64 ⟨"FieldMemberModel", "member", "(IIIIIZ)I"⟩ ∈ TT := tt_t (i := 882) (by decide +kernel) (by decide +kernel)
theorem q_885 : Cond.code ⟨"FieldMemberModel", "member", "(IIIIIZ)I"⟩ prog_10_method_23_code 10 (some .int) ∈ TT := tt_t (i := 885) (by decide +kernel) (by decide +kernel)
theorem q_883 : Cond.instanceMethod ⟨"FieldMemberModel", "member", "(IIIIIZ)I"⟩ ∈ TT := tt_t (i := 883) (by decide +kernel) (by decide +kernel)
theorem q_884 : Cond.selects "FieldMemberModel" ⟨"FieldMemberModel", "member", "(IIIIIZ)I"⟩ ⟨"FieldMemberModel", "member", "(IIIIIZ)I"⟩ ∈ TT := tt_t (i := 884) (by decide +kernel) (by decide +kernel)
theorem gV_L_X8_member : GoodIn TT (wsV RL 64 RX8 yX8_member (ww yX8_member cX8_member 10 (some .int))) := tt_V q_882 q_883 q_884 q_4 q_885
theorem hdV_X8_member : yX8_member.cls = RX8 ∧ yX8_member.cls ≠ "java/lang/invoke/MethodHandle" ∧ yX8_member.cls ≠ "java/lang/invoke/VarHandle" ∧ (parseMethodDescriptor yX8_member.desc).map (fun d => d.parameters.length) = some 6 := by decide +kernel
theorem dL_law_539 : decode cL_law 539 = .ok (.invokevirtual 64, 3) := by decide +kernel
theorem dL_law_542 : decode cL_law 542 = .ok (.if_icmp .eq 477, 3) := by decide +kernel
theorem dL_law_485 : decode cL_law 485 = .ok (.iconst 1, 1) := by decide +kernel
theorem dL_law_486 : decode cL_law 486 = .ok (.goto 4, 3) := by decide +kernel
theorem dL_law_534 : decode cL_law 534 = .ok (.iconst 1, 1) := by decide +kernel
theorem dL_law_535 : decode cL_law 535 = .ok (.goto 4, 3) := by decide +kernel
theorem dL_law_547 : decode cL_law 547 = .ok (.aload_n 1, 1) := by decide +kernel
theorem dL_law_548 : decode cL_law 548 = .ok (.aload_n 0, 1) := by decide +kernel
theorem dL_law_549 : decode cL_law 549 = .ok (.iload 4, 2) := by decide +kernel
theorem dL_law_551 : decode cL_law 551 = .ok (.iconst 1, 1) := by decide +kernel
theorem dL_law_552 : decode cL_law 552 = .ok (.iadd, 1) := by decide +kernel
theorem dL_law_553 : decode cL_law 553 = .ok (.iaload, 1) := by decide +kernel
theorem dL_law_554 : decode cL_law 554 = .ok (.aload_n 0, 1) := by decide +kernel
theorem dL_law_555 : decode cL_law 555 = .ok (.iload 4, 2) := by decide +kernel
theorem dL_law_557 : decode cL_law 557 = .ok (.iconst 2, 1) := by decide +kernel
theorem dL_law_558 : decode cL_law 558 = .ok (.iadd, 1) := by decide +kernel
theorem dL_law_559 : decode cL_law 559 = .ok (.iaload, 1) := by decide +kernel
theorem dL_law_560 : decode cL_law 560 = .ok (.aload_n 0, 1) := by decide +kernel
theorem dL_law_561 : decode cL_law 561 = .ok (.iload 4, 2) := by decide +kernel
theorem dL_law_563 : decode cL_law 563 = .ok (.iconst 3, 1) := by decide +kernel
theorem dL_law_564 : decode cL_law 564 = .ok (.iadd, 1) := by decide +kernel
theorem dL_law_565 : decode cL_law 565 = .ok (.iaload, 1) := by decide +kernel
theorem dL_law_566 : decode cL_law 566 = .ok (.ifCond .eq 7, 3) := by decide +kernel
theorem dL_law_573 : decode cL_law 573 = .ok (.iconst 0, 1) := by decide +kernel
theorem q_336 : Cond.methodLink "FieldMemberLaw" 65 ⟨"FieldMember", "parameter", "(IIZ)I"⟩ ∈ TT := tt_t (i := 336) (by decide +kernel) (by decide +kernel)
theorem q_339 : Cond.code ⟨"FieldMember", "parameter", "(IIZ)I"⟩ prog_1_method_9_code 5 (some .int) ∈ TT := tt_t (i := 339) (by decide +kernel) (by decide +kernel)
theorem q_337 : Cond.instanceMethod ⟨"FieldMember", "parameter", "(IIZ)I"⟩ ∈ TT := tt_t (i := 337) (by decide +kernel) (by decide +kernel)
theorem q_338 : Cond.selects "FieldMember" ⟨"FieldMember", "parameter", "(IIZ)I"⟩ ⟨"FieldMember", "parameter", "(IIZ)I"⟩ ∈ TT := tt_t (i := 338) (by decide +kernel) (by decide +kernel)
theorem gV_L_X7_parameter : GoodIn TT (wsV RL 65 RX7 yX7_parameter (ww yX7_parameter cX7_parameter 5 (some .int))) := tt_V q_336 q_337 q_338 q_1 q_339
theorem hdV_X7_parameter : yX7_parameter.cls = RX7 ∧ yX7_parameter.cls ≠ "java/lang/invoke/MethodHandle" ∧ yX7_parameter.cls ≠ "java/lang/invoke/VarHandle" ∧ (parseMethodDescriptor yX7_parameter.desc).map (fun d => d.parameters.length) = some 3 := by decide +kernel
theorem dL_law_574 : decode cL_law 574 = .ok (.invokevirtual 65, 3) := by decide +kernel
theorem dL_law_577 : decode cL_law 577 = .ok (.aload_n 2, 1) := by decide +kernel
theorem dL_law_578 : decode cL_law 578 = .ok (.aload_n 0, 1) := by decide +kernel
theorem dL_law_579 : decode cL_law 579 = .ok (.iload 4, 2) := by decide +kernel
theorem dL_law_581 : decode cL_law 581 = .ok (.iconst 1, 1) := by decide +kernel
theorem dL_law_582 : decode cL_law 582 = .ok (.iadd, 1) := by decide +kernel
theorem dL_law_583 : decode cL_law 583 = .ok (.iaload, 1) := by decide +kernel
theorem dL_law_584 : decode cL_law 584 = .ok (.aload_n 0, 1) := by decide +kernel
theorem dL_law_585 : decode cL_law 585 = .ok (.iload 4, 2) := by decide +kernel
theorem dL_law_587 : decode cL_law 587 = .ok (.iconst 2, 1) := by decide +kernel
theorem dL_law_588 : decode cL_law 588 = .ok (.iadd, 1) := by decide +kernel
theorem dL_law_589 : decode cL_law 589 = .ok (.iaload, 1) := by decide +kernel
theorem dL_law_590 : decode cL_law 590 = .ok (.aload_n 0, 1) := by decide +kernel
theorem dL_law_591 : decode cL_law 591 = .ok (.iload 4, 2) := by decide +kernel
theorem dL_law_593 : decode cL_law 593 = .ok (.iconst 3, 1) := by decide +kernel
theorem dL_law_594 : decode cL_law 594 = .ok (.iadd, 1) := by decide +kernel
theorem dL_law_595 : decode cL_law 595 = .ok (.iaload, 1) := by decide +kernel
theorem dL_law_596 : decode cL_law 596 = .ok (.ifCond .eq 7, 3) := by decide +kernel
theorem dL_law_603 : decode cL_law 603 = .ok (.iconst 0, 1) := by decide +kernel
theorem q_890 : Cond.methodLink "FieldMemberLaw" 68 ⟨"FieldMemberModel", "parameter", "(IIZ)I"⟩ ∈ TT := tt_t (i := 890) (by decide +kernel) (by decide +kernel)
theorem q_893 : Cond.code ⟨"FieldMemberModel", "parameter", "(IIZ)I"⟩ prog_10_method_25_code 5 (some .int) ∈ TT := tt_t (i := 893) (by decide +kernel) (by decide +kernel)
theorem q_891 : Cond.instanceMethod ⟨"FieldMemberModel", "parameter", "(IIZ)I"⟩ ∈ TT := tt_t (i := 891) (by decide +kernel) (by decide +kernel)
theorem q_892 : Cond.selects "FieldMemberModel" ⟨"FieldMemberModel", "parameter", "(IIZ)I"⟩ ⟨"FieldMemberModel", "parameter", "(IIZ)I"⟩ ∈ TT := tt_t (i := 892) (by decide +kernel) (by decide +kernel)
theorem gV_L_X8_parameter : GoodIn TT (wsV RL 68 RX8 yX8_parameter (ww yX8_parameter cX8_parameter 5 (some .int))) := tt_V q_890 q_891 q_892 q_4 q_893
theorem hdV_X8_parameter : yX8_parameter.cls = RX8 ∧ yX8_parameter.cls ≠ "java/lang/invoke/MethodHandle" ∧ yX8_parameter.cls ≠ "java/lang/invoke/VarHandle" ∧ (parseMethodDescriptor yX8_parameter.desc).map (fun d => d.parameters.length) = some 3 := by decide +kernel
theorem dL_law_604 : decode cL_law 604 = .ok (.invokevirtual 68, 3) := by decide +kernel
theorem dL_law_607 : decode cL_law 607 = .ok (.if_icmp .eq 412, 3) := by decide +kernel
theorem dL_law_569 : decode cL_law 569 = .ok (.iconst 1, 1) := by decide +kernel
theorem dL_law_570 : decode cL_law 570 = .ok (.goto 4, 3) := by decide +kernel
theorem dL_law_599 : decode cL_law 599 = .ok (.iconst 1, 1) := by decide +kernel
theorem dL_law_600 : decode cL_law 600 = .ok (.goto 4, 3) := by decide +kernel
theorem dL_law_612 : decode cL_law 612 = .ok (.aload_n 1, 1) := by decide +kernel
theorem q_352 : Cond.methodLink "FieldMemberLaw" 69 ⟨"FieldMember", "end", "()I"⟩ ∈ TT := tt_t (i := 352) (by decide +kernel) (by decide +kernel)
theorem q_355 : Cond.code ⟨"FieldMember", "end", "()I"⟩ prog_1_method_10_code 3 (some .int) ∈ TT := tt_t (i := 355) (by decide +kernel) (by decide +kernel)
theorem q_353 : Cond.instanceMethod ⟨"FieldMember", "end", "()I"⟩ ∈ TT := tt_t (i := 353) (by decide +kernel) (by decide +kernel)
theorem q_354 : Cond.selects "FieldMember" ⟨"FieldMember", "end", "()I"⟩ ⟨"FieldMember", "end", "()I"⟩ ∈ TT := tt_t (i := 354) (by decide +kernel) (by decide +kernel)
theorem gV_L_X7_end : GoodIn TT (wsV RL 69 RX7 yX7_end (ww yX7_end cX7_end 3 (some .int))) := tt_V q_352 q_353 q_354 q_1 q_355
theorem hdV_X7_end : yX7_end.cls = RX7 ∧ yX7_end.cls ≠ "java/lang/invoke/MethodHandle" ∧ yX7_end.cls ≠ "java/lang/invoke/VarHandle" ∧ (parseMethodDescriptor yX7_end.desc).map (fun d => d.parameters.length) = some 0 := by decide +kernel
theorem dL_law_613 : decode cL_law 613 = .ok (.invokevirtual 69, 3) := by decide +kernel
theorem dL_law_616 : decode cL_law 616 = .ok (.aload_n 2, 1) := by decide +kernel
theorem q_894 : Cond.methodLink "FieldMemberLaw" 72 ⟨"FieldMemberModel", "end", "()I"⟩ ∈ TT := tt_t (i := 894) (by decide +kernel) (by decide +kernel)
theorem q_897 : Cond.code ⟨"FieldMemberModel", "end", "()I"⟩ prog_10_method_31_code 4 (some .int) ∈ TT := tt_t (i := 897) (by decide +kernel) (by decide +kernel)
theorem q_895 : Cond.instanceMethod ⟨"FieldMemberModel", "end", "()I"⟩ ∈ TT := tt_t (i := 895) (by decide +kernel) (by decide +kernel)
theorem q_896 : Cond.selects "FieldMemberModel" ⟨"FieldMemberModel", "end", "()I"⟩ ⟨"FieldMemberModel", "end", "()I"⟩ ∈ TT := tt_t (i := 896) (by decide +kernel) (by decide +kernel)
theorem gV_L_X8_end : GoodIn TT (wsV RL 72 RX8 yX8_end (ww yX8_end cX8_end 4 (some .int))) := tt_V q_894 q_895 q_896 q_4 q_897
theorem hdV_X8_end : yX8_end.cls = RX8 ∧ yX8_end.cls ≠ "java/lang/invoke/MethodHandle" ∧ yX8_end.cls ≠ "java/lang/invoke/VarHandle" ∧ (parseMethodDescriptor yX8_end.desc).map (fun d => d.parameters.length) = some 0 := by decide +kernel
theorem dL_law_617 : decode cL_law 617 = .ok (.invokevirtual 72, 3) := by decide +kernel
theorem dL_law_620 : decode cL_law 620 = .ok (.if_icmp .eq 399, 3) := by decide +kernel
theorem dL_law_625 : decode cL_law 625 = .ok (.aload_n 1, 1) := by decide +kernel
theorem dL_law_626 : decode cL_law 626 = .ok (.aload_n 0, 1) := by decide +kernel
theorem dL_law_627 : decode cL_law 627 = .ok (.iload 4, 2) := by decide +kernel
theorem dL_law_629 : decode cL_law 629 = .ok (.iconst 1, 1) := by decide +kernel
theorem dL_law_630 : decode cL_law 630 = .ok (.iadd, 1) := by decide +kernel
theorem dL_law_631 : decode cL_law 631 = .ok (.iaload, 1) := by decide +kernel
theorem dL_law_632 : decode cL_law 632 = .ok (.aload_n 0, 1) := by decide +kernel
theorem dL_law_633 : decode cL_law 633 = .ok (.iload 4, 2) := by decide +kernel
theorem dL_law_635 : decode cL_law 635 = .ok (.iconst 2, 1) := by decide +kernel
theorem dL_law_636 : decode cL_law 636 = .ok (.iadd, 1) := by decide +kernel
theorem dL_law_637 : decode cL_law 637 = .ok (.iaload, 1) := by decide +kernel
theorem q_410 : Cond.methodLink "FieldMemberLaw" 73 ⟨"FieldMember", "entry", "(II)I"⟩ ∈ TT := tt_t (i := 410) (by decide +kernel) (by decide +kernel)
theorem q_413 : Cond.code ⟨"FieldMember", "entry", "(II)I"⟩ prog_1_method_11_code 4 (some .int) ∈ TT := tt_t (i := 413) (by decide +kernel) (by decide +kernel)
theorem q_411 : Cond.instanceMethod ⟨"FieldMember", "entry", "(II)I"⟩ ∈ TT := tt_t (i := 411) (by decide +kernel) (by decide +kernel)
theorem q_412 : Cond.selects "FieldMember" ⟨"FieldMember", "entry", "(II)I"⟩ ⟨"FieldMember", "entry", "(II)I"⟩ ∈ TT := tt_t (i := 412) (by decide +kernel) (by decide +kernel)
theorem gV_L_X7_entry : GoodIn TT (wsV RL 73 RX7 yX7_entry (ww yX7_entry cX7_entry 4 (some .int))) := tt_V q_410 q_411 q_412 q_1 q_413
theorem hdV_X7_entry : yX7_entry.cls = RX7 ∧ yX7_entry.cls ≠ "java/lang/invoke/MethodHandle" ∧ yX7_entry.cls ≠ "java/lang/invoke/VarHandle" ∧ (parseMethodDescriptor yX7_entry.desc).map (fun d => d.parameters.length) = some 2 := by decide +kernel
theorem dL_law_638 : decode cL_law 638 = .ok (.invokevirtual 73, 3) := by decide +kernel
theorem dL_law_641 : decode cL_law 641 = .ok (.aload_n 2, 1) := by decide +kernel
theorem dL_law_642 : decode cL_law 642 = .ok (.aload_n 0, 1) := by decide +kernel
theorem dL_law_643 : decode cL_law 643 = .ok (.iload 4, 2) := by decide +kernel
theorem dL_law_645 : decode cL_law 645 = .ok (.iconst 1, 1) := by decide +kernel
theorem dL_law_646 : decode cL_law 646 = .ok (.iadd, 1) := by decide +kernel
theorem dL_law_647 : decode cL_law 647 = .ok (.iaload, 1) := by decide +kernel
theorem dL_law_648 : decode cL_law 648 = .ok (.aload_n 0, 1) := by decide +kernel
theorem dL_law_649 : decode cL_law 649 = .ok (.iload 4, 2) := by decide +kernel
theorem dL_law_651 : decode cL_law 651 = .ok (.iconst 2, 1) := by decide +kernel
theorem dL_law_652 : decode cL_law 652 = .ok (.iadd, 1) := by decide +kernel
theorem dL_law_653 : decode cL_law 653 = .ok (.iaload, 1) := by decide +kernel
theorem q_922 : Cond.methodLink "FieldMemberLaw" 76 ⟨"FieldMemberModel", "entry", "(II)I"⟩ ∈ TT := tt_t (i := 922) (by decide +kernel) (by decide +kernel)
theorem q_925 : Cond.code ⟨"FieldMemberModel", "entry", "(II)I"⟩ prog_10_method_32_code 3 (some .int) ∈ TT := tt_t (i := 925) (by decide +kernel) (by decide +kernel)
theorem q_923 : Cond.instanceMethod ⟨"FieldMemberModel", "entry", "(II)I"⟩ ∈ TT := tt_t (i := 923) (by decide +kernel) (by decide +kernel)
theorem q_924 : Cond.selects "FieldMemberModel" ⟨"FieldMemberModel", "entry", "(II)I"⟩ ⟨"FieldMemberModel", "entry", "(II)I"⟩ ∈ TT := tt_t (i := 924) (by decide +kernel) (by decide +kernel)
theorem gV_L_X8_entry : GoodIn TT (wsV RL 76 RX8 yX8_entry (ww yX8_entry cX8_entry 3 (some .int))) := tt_V q_922 q_923 q_924 q_4 q_925
theorem hdV_X8_entry : yX8_entry.cls = RX8 ∧ yX8_entry.cls ≠ "java/lang/invoke/MethodHandle" ∧ yX8_entry.cls ≠ "java/lang/invoke/VarHandle" ∧ (parseMethodDescriptor yX8_entry.desc).map (fun d => d.parameters.length) = some 2 := by decide +kernel
theorem dL_law_654 : decode cL_law 654 = .ok (.invokevirtual 76, 3) := by decide +kernel
theorem dL_law_657 : decode cL_law 657 = .ok (.if_icmp .eq 362, 3) := by decide +kernel
theorem dL_law_662 : decode cL_law 662 = .ok (.aload_n 1, 1) := by decide +kernel
theorem dL_law_663 : decode cL_law 663 = .ok (.aload_n 0, 1) := by decide +kernel
theorem dL_law_664 : decode cL_law 664 = .ok (.iload 4, 2) := by decide +kernel
theorem dL_law_666 : decode cL_law 666 = .ok (.iconst 1, 1) := by decide +kernel
theorem dL_law_667 : decode cL_law 667 = .ok (.iadd, 1) := by decide +kernel
theorem dL_law_668 : decode cL_law 668 = .ok (.iaload, 1) := by decide +kernel
theorem dL_law_669 : decode cL_law 669 = .ok (.aload_n 0, 1) := by decide +kernel
theorem dL_law_670 : decode cL_law 670 = .ok (.iload 4, 2) := by decide +kernel
theorem dL_law_672 : decode cL_law 672 = .ok (.iconst 2, 1) := by decide +kernel
theorem dL_law_673 : decode cL_law 673 = .ok (.iadd, 1) := by decide +kernel
theorem dL_law_674 : decode cL_law 674 = .ok (.iaload, 1) := by decide +kernel
theorem q_414 : Cond.methodLink "FieldMemberLaw" 77 ⟨"FieldMember", "shape", "(II)I"⟩ ∈ TT := tt_t (i := 414) (by decide +kernel) (by decide +kernel)
theorem q_417 : Cond.code ⟨"FieldMember", "shape", "(II)I"⟩ prog_1_method_12_code 5 (some .int) ∈ TT := tt_t (i := 417) (by decide +kernel) (by decide +kernel)
theorem q_415 : Cond.instanceMethod ⟨"FieldMember", "shape", "(II)I"⟩ ∈ TT := tt_t (i := 415) (by decide +kernel) (by decide +kernel)
theorem q_416 : Cond.selects "FieldMember" ⟨"FieldMember", "shape", "(II)I"⟩ ⟨"FieldMember", "shape", "(II)I"⟩ ∈ TT := tt_t (i := 416) (by decide +kernel) (by decide +kernel)
theorem gV_L_X7_shape : GoodIn TT (wsV RL 77 RX7 yX7_shape (ww yX7_shape cX7_shape 5 (some .int))) := tt_V q_414 q_415 q_416 q_1 q_417
theorem hdV_X7_shape : yX7_shape.cls = RX7 ∧ yX7_shape.cls ≠ "java/lang/invoke/MethodHandle" ∧ yX7_shape.cls ≠ "java/lang/invoke/VarHandle" ∧ (parseMethodDescriptor yX7_shape.desc).map (fun d => d.parameters.length) = some 2 := by decide +kernel
theorem dL_law_675 : decode cL_law 675 = .ok (.invokevirtual 77, 3) := by decide +kernel
theorem dL_law_678 : decode cL_law 678 = .ok (.aload_n 2, 1) := by decide +kernel
theorem dL_law_679 : decode cL_law 679 = .ok (.aload_n 0, 1) := by decide +kernel
theorem dL_law_680 : decode cL_law 680 = .ok (.iload 4, 2) := by decide +kernel
theorem dL_law_682 : decode cL_law 682 = .ok (.iconst 1, 1) := by decide +kernel
theorem dL_law_683 : decode cL_law 683 = .ok (.iadd, 1) := by decide +kernel
theorem dL_law_684 : decode cL_law 684 = .ok (.iaload, 1) := by decide +kernel
theorem dL_law_685 : decode cL_law 685 = .ok (.aload_n 0, 1) := by decide +kernel
theorem dL_law_686 : decode cL_law 686 = .ok (.iload 4, 2) := by decide +kernel
theorem dL_law_688 : decode cL_law 688 = .ok (.iconst 2, 1) := by decide +kernel
theorem dL_law_689 : decode cL_law 689 = .ok (.iadd, 1) := by decide +kernel
theorem dL_law_690 : decode cL_law 690 = .ok (.iaload, 1) := by decide +kernel
theorem q_926 : Cond.methodLink "FieldMemberLaw" 80 ⟨"FieldMemberModel", "shape", "(II)I"⟩ ∈ TT := tt_t (i := 926) (by decide +kernel) (by decide +kernel)
theorem q_929 : Cond.code ⟨"FieldMemberModel", "shape", "(II)I"⟩ prog_10_method_34_code 3 (some .int) ∈ TT := tt_t (i := 929) (by decide +kernel) (by decide +kernel)
theorem q_927 : Cond.instanceMethod ⟨"FieldMemberModel", "shape", "(II)I"⟩ ∈ TT := tt_t (i := 927) (by decide +kernel) (by decide +kernel)
theorem q_928 : Cond.selects "FieldMemberModel" ⟨"FieldMemberModel", "shape", "(II)I"⟩ ⟨"FieldMemberModel", "shape", "(II)I"⟩ ∈ TT := tt_t (i := 928) (by decide +kernel) (by decide +kernel)
theorem gV_L_X8_shape : GoodIn TT (wsV RL 80 RX8 yX8_shape (ww yX8_shape cX8_shape 3 (some .int))) := tt_V q_926 q_927 q_928 q_4 q_929
theorem hdV_X8_shape : yX8_shape.cls = RX8 ∧ yX8_shape.cls ≠ "java/lang/invoke/MethodHandle" ∧ yX8_shape.cls ≠ "java/lang/invoke/VarHandle" ∧ (parseMethodDescriptor yX8_shape.desc).map (fun d => d.parameters.length) = some 2 := by decide +kernel
theorem dL_law_691 : decode cL_law 691 = .ok (.invokevirtual 80, 3) := by decide +kernel
theorem dL_law_694 : decode cL_law 694 = .ok (.if_icmp .eq 325, 3) := by decide +kernel
theorem dL_law_699 : decode cL_law 699 = .ok (.aload_n 1, 1) := by decide +kernel
theorem dL_law_700 : decode cL_law 700 = .ok (.aload_n 0, 1) := by decide +kernel
theorem dL_law_701 : decode cL_law 701 = .ok (.iload 4, 2) := by decide +kernel
theorem dL_law_703 : decode cL_law 703 = .ok (.iconst 1, 1) := by decide +kernel
theorem dL_law_704 : decode cL_law 704 = .ok (.iadd, 1) := by decide +kernel
theorem dL_law_705 : decode cL_law 705 = .ok (.iaload, 1) := by decide +kernel
theorem dL_law_706 : decode cL_law 706 = .ok (.aload_n 0, 1) := by decide +kernel
theorem dL_law_707 : decode cL_law 707 = .ok (.iload 4, 2) := by decide +kernel
theorem dL_law_709 : decode cL_law 709 = .ok (.iconst 2, 1) := by decide +kernel
theorem dL_law_710 : decode cL_law 710 = .ok (.iadd, 1) := by decide +kernel
theorem dL_law_711 : decode cL_law 711 = .ok (.iaload, 1) := by decide +kernel
theorem dL_law_712 : decode cL_law 712 = .ok (.aload_n 0, 1) := by decide +kernel
theorem dL_law_713 : decode cL_law 713 = .ok (.iload 4, 2) := by decide +kernel
theorem dL_law_715 : decode cL_law 715 = .ok (.iconst 3, 1) := by decide +kernel
theorem dL_law_716 : decode cL_law 716 = .ok (.iadd, 1) := by decide +kernel
theorem dL_law_717 : decode cL_law 717 = .ok (.iaload, 1) := by decide +kernel
theorem dL_law_718 : decode cL_law 718 = .ok (.ifCond .eq 7, 3) := by decide +kernel
theorem dL_law_725 : decode cL_law 725 = .ok (.iconst 0, 1) := by decide +kernel
theorem dL_law_726 : decode cL_law 726 = .ok (.aload_n 3, 1) := by decide +kernel
theorem q_664 : Cond.methodLink "FieldMemberLaw" 81 ⟨"FieldMemberLaw", "parameterOf", "(LFieldMember;IIZ[J)I"⟩ ∈ TT := tt_t (i := 664) (by decide +kernel) (by decide +kernel)
theorem q_665 : Cond.static ⟨"FieldMemberLaw", "parameterOf", "(LFieldMember;IIZ[J)I"⟩ ∈ TT := tt_t (i := 665) (by decide +kernel) (by decide +kernel)
theorem q_666 : Cond.codeWith ⟨"FieldMemberLaw", "parameterOf", "(LFieldMember;IIZ[J)I"⟩ method_4_code 6 (some .int) [(0, 12, 15, 13), (0, 12, 19, 15)] ∈ TT := tt_t (i := 666) (by decide +kernel) (by decide +kernel)
theorem dL_law_727 : decode cL_law 727 = .ok (.invokestatic 81, 3) := by decide +kernel
theorem dL_law_730 : decode cL_law 730 = .ok (.istore 5, 2) := by decide +kernel
theorem dL_law_732 : decode cL_law 732 = .ok (.aload_n 2, 1) := by decide +kernel
theorem dL_law_733 : decode cL_law 733 = .ok (.aload_n 0, 1) := by decide +kernel
theorem dL_law_734 : decode cL_law 734 = .ok (.iload 4, 2) := by decide +kernel
theorem dL_law_736 : decode cL_law 736 = .ok (.iconst 1, 1) := by decide +kernel
theorem dL_law_737 : decode cL_law 737 = .ok (.iadd, 1) := by decide +kernel
theorem dL_law_738 : decode cL_law 738 = .ok (.iaload, 1) := by decide +kernel
theorem dL_law_739 : decode cL_law 739 = .ok (.aload_n 0, 1) := by decide +kernel
theorem dL_law_740 : decode cL_law 740 = .ok (.iload 4, 2) := by decide +kernel
theorem dL_law_742 : decode cL_law 742 = .ok (.iconst 2, 1) := by decide +kernel
theorem dL_law_743 : decode cL_law 743 = .ok (.iadd, 1) := by decide +kernel
theorem dL_law_744 : decode cL_law 744 = .ok (.iaload, 1) := by decide +kernel
theorem dL_law_745 : decode cL_law 745 = .ok (.aload_n 0, 1) := by decide +kernel
theorem dL_law_746 : decode cL_law 746 = .ok (.iload 4, 2) := by decide +kernel
theorem dL_law_748 : decode cL_law 748 = .ok (.iconst 3, 1) := by decide +kernel
theorem dL_law_749 : decode cL_law 749 = .ok (.iadd, 1) := by decide +kernel
theorem dL_law_750 : decode cL_law 750 = .ok (.iaload, 1) := by decide +kernel
theorem dL_law_751 : decode cL_law 751 = .ok (.ifCond .eq 7, 3) := by decide +kernel
theorem dL_law_758 : decode cL_law 758 = .ok (.iconst 0, 1) := by decide +kernel
theorem q_930 : Cond.methodLink "FieldMemberLaw" 84 ⟨"FieldMemberModel", "parameterOf", "(IIZ)I"⟩ ∈ TT := tt_t (i := 930) (by decide +kernel) (by decide +kernel)
theorem q_933 : Cond.code ⟨"FieldMemberModel", "parameterOf", "(IIZ)I"⟩ prog_10_method_35_code 4 (some .int) ∈ TT := tt_t (i := 933) (by decide +kernel) (by decide +kernel)
theorem q_931 : Cond.instanceMethod ⟨"FieldMemberModel", "parameterOf", "(IIZ)I"⟩ ∈ TT := tt_t (i := 931) (by decide +kernel) (by decide +kernel)
theorem q_932 : Cond.selects "FieldMemberModel" ⟨"FieldMemberModel", "parameterOf", "(IIZ)I"⟩ ⟨"FieldMemberModel", "parameterOf", "(IIZ)I"⟩ ∈ TT := tt_t (i := 932) (by decide +kernel) (by decide +kernel)
theorem gV_L_X8_parameterOf : GoodIn TT (wsV RL 84 RX8 yX8_parameterOf (ww yX8_parameterOf cX8_parameterOf 4 (some .int))) := tt_V q_930 q_931 q_932 q_4 q_933
theorem hdV_X8_parameterOf : yX8_parameterOf.cls = RX8 ∧ yX8_parameterOf.cls ≠ "java/lang/invoke/MethodHandle" ∧ yX8_parameterOf.cls ≠ "java/lang/invoke/VarHandle" ∧ (parseMethodDescriptor yX8_parameterOf.desc).map (fun d => d.parameters.length) = some 3 := by decide +kernel
theorem dL_law_759 : decode cL_law 759 = .ok (.invokevirtual 84, 3) := by decide +kernel
theorem dL_law_762 : decode cL_law 762 = .ok (.istore 6, 2) := by decide +kernel
theorem dL_law_764 : decode cL_law 764 = .ok (.aload_n 2, 1) := by decide +kernel
theorem dL_law_765 : decode cL_law 765 = .ok (.invokevirtual 56, 3) := by decide +kernel
theorem dL_law_768 : decode cL_law 768 = .ok (.iload 5, 2) := by decide +kernel
theorem dL_law_770 : decode cL_law 770 = .ok (.if_icmp .eq 5, 3) := by decide +kernel
theorem dL_law_775 : decode cL_law 775 = .ok (.iload 5, 2) := by decide +kernel
theorem dL_law_777 : decode cL_law 777 = .ok (.ifCond .ne 15, 3) := by decide +kernel
theorem dL_law_792 : decode cL_law 792 = .ok (.goto 227, 3) := by decide +kernel
theorem dL_law_780 : decode cL_law 780 = .ok (.aload_n 3, 1) := by decide +kernel
theorem dL_law_781 : decode cL_law 781 = .ok (.iconst 0, 1) := by decide +kernel
theorem dL_law_782 : decode cL_law 782 = .ok (.laload, 1) := by decide +kernel
theorem dL_law_783 : decode cL_law 783 = .ok (.iload 6, 2) := by decide +kernel
theorem dL_law_785 : decode cL_law 785 = .ok (.i2l, 1) := by decide +kernel
theorem dL_law_786 : decode cL_law 786 = .ok (.lcmp, 1) := by decide +kernel
theorem dL_law_787 : decode cL_law 787 = .ok (.ifCond .eq 5, 3) := by decide +kernel
theorem dL_law_721 : decode cL_law 721 = .ok (.iconst 1, 1) := by decide +kernel
theorem dL_law_722 : decode cL_law 722 = .ok (.goto 4, 3) := by decide +kernel
theorem dL_law_754 : decode cL_law 754 = .ok (.iconst 1, 1) := by decide +kernel
theorem dL_law_755 : decode cL_law 755 = .ok (.goto 4, 3) := by decide +kernel
theorem dL_law_795 : decode cL_law 795 = .ok (.aload_n 1, 1) := by decide +kernel
theorem dL_law_796 : decode cL_law 796 = .ok (.aload_n 0, 1) := by decide +kernel
theorem dL_law_797 : decode cL_law 797 = .ok (.iload 4, 2) := by decide +kernel
theorem dL_law_799 : decode cL_law 799 = .ok (.iconst 1, 1) := by decide +kernel
theorem dL_law_800 : decode cL_law 800 = .ok (.iadd, 1) := by decide +kernel
theorem dL_law_801 : decode cL_law 801 = .ok (.iaload, 1) := by decide +kernel
theorem dL_law_802 : decode cL_law 802 = .ok (.aload_n 0, 1) := by decide +kernel
theorem dL_law_803 : decode cL_law 803 = .ok (.iload 4, 2) := by decide +kernel
theorem dL_law_805 : decode cL_law 805 = .ok (.iconst 2, 1) := by decide +kernel
theorem dL_law_806 : decode cL_law 806 = .ok (.iadd, 1) := by decide +kernel
theorem dL_law_807 : decode cL_law 807 = .ok (.iaload, 1) := by decide +kernel
theorem q_418 : Cond.methodLink "FieldMemberLaw" 85 ⟨"FieldMember", "sought", "(II)I"⟩ ∈ TT := tt_t (i := 418) (by decide +kernel) (by decide +kernel)
theorem q_421 : Cond.code ⟨"FieldMember", "sought", "(II)I"⟩ prog_1_method_14_code 4 (some .int) ∈ TT := tt_t (i := 421) (by decide +kernel) (by decide +kernel)
theorem q_419 : Cond.instanceMethod ⟨"FieldMember", "sought", "(II)I"⟩ ∈ TT := tt_t (i := 419) (by decide +kernel) (by decide +kernel)
theorem q_420 : Cond.selects "FieldMember" ⟨"FieldMember", "sought", "(II)I"⟩ ⟨"FieldMember", "sought", "(II)I"⟩ ∈ TT := tt_t (i := 420) (by decide +kernel) (by decide +kernel)
theorem gV_L_X7_sought : GoodIn TT (wsV RL 85 RX7 yX7_sought (ww yX7_sought cX7_sought 4 (some .int))) := tt_V q_418 q_419 q_420 q_1 q_421
theorem hdV_X7_sought : yX7_sought.cls = RX7 ∧ yX7_sought.cls ≠ "java/lang/invoke/MethodHandle" ∧ yX7_sought.cls ≠ "java/lang/invoke/VarHandle" ∧ (parseMethodDescriptor yX7_sought.desc).map (fun d => d.parameters.length) = some 2 := by decide +kernel
theorem dL_law_808 : decode cL_law 808 = .ok (.invokevirtual 85, 3) := by decide +kernel
theorem dL_law_811 : decode cL_law 811 = .ok (.aload_n 2, 1) := by decide +kernel
theorem dL_law_812 : decode cL_law 812 = .ok (.aload_n 0, 1) := by decide +kernel
theorem dL_law_813 : decode cL_law 813 = .ok (.iload 4, 2) := by decide +kernel
theorem dL_law_815 : decode cL_law 815 = .ok (.iconst 1, 1) := by decide +kernel
theorem dL_law_816 : decode cL_law 816 = .ok (.iadd, 1) := by decide +kernel
theorem dL_law_817 : decode cL_law 817 = .ok (.iaload, 1) := by decide +kernel
theorem dL_law_818 : decode cL_law 818 = .ok (.aload_n 0, 1) := by decide +kernel
theorem dL_law_819 : decode cL_law 819 = .ok (.iload 4, 2) := by decide +kernel
theorem dL_law_821 : decode cL_law 821 = .ok (.iconst 2, 1) := by decide +kernel
theorem dL_law_822 : decode cL_law 822 = .ok (.iadd, 1) := by decide +kernel
theorem dL_law_823 : decode cL_law 823 = .ok (.iaload, 1) := by decide +kernel
theorem q_934 : Cond.methodLink "FieldMemberLaw" 88 ⟨"FieldMemberModel", "sought", "(II)I"⟩ ∈ TT := tt_t (i := 934) (by decide +kernel) (by decide +kernel)
theorem q_937 : Cond.code ⟨"FieldMemberModel", "sought", "(II)I"⟩ prog_10_method_37_code 6 (some .int) ∈ TT := tt_t (i := 937) (by decide +kernel) (by decide +kernel)
theorem q_935 : Cond.instanceMethod ⟨"FieldMemberModel", "sought", "(II)I"⟩ ∈ TT := tt_t (i := 935) (by decide +kernel) (by decide +kernel)
theorem q_936 : Cond.selects "FieldMemberModel" ⟨"FieldMemberModel", "sought", "(II)I"⟩ ⟨"FieldMemberModel", "sought", "(II)I"⟩ ∈ TT := tt_t (i := 936) (by decide +kernel) (by decide +kernel)
theorem gV_L_X8_sought : GoodIn TT (wsV RL 88 RX8 yX8_sought (ww yX8_sought cX8_sought 6 (some .int))) := tt_V q_934 q_935 q_936 q_4 q_937
theorem hdV_X8_sought : yX8_sought.cls = RX8 ∧ yX8_sought.cls ≠ "java/lang/invoke/MethodHandle" ∧ yX8_sought.cls ≠ "java/lang/invoke/VarHandle" ∧ (parseMethodDescriptor yX8_sought.desc).map (fun d => d.parameters.length) = some 2 := by decide +kernel
theorem dL_law_824 : decode cL_law 824 = .ok (.invokevirtual 88, 3) := by decide +kernel
theorem dL_law_827 : decode cL_law 827 = .ok (.if_icmp .eq 192, 3) := by decide +kernel
theorem dL_law_832 : decode cL_law 832 = .ok (.aload_n 1, 1) := by decide +kernel
theorem dL_law_833 : decode cL_law 833 = .ok (.aload_n 0, 1) := by decide +kernel
theorem dL_law_834 : decode cL_law 834 = .ok (.iload 4, 2) := by decide +kernel
theorem dL_law_836 : decode cL_law 836 = .ok (.iconst 1, 1) := by decide +kernel
theorem dL_law_837 : decode cL_law 837 = .ok (.iadd, 1) := by decide +kernel
theorem dL_law_838 : decode cL_law 838 = .ok (.iaload, 1) := by decide +kernel
theorem dL_law_839 : decode cL_law 839 = .ok (.aload_n 0, 1) := by decide +kernel
theorem dL_law_840 : decode cL_law 840 = .ok (.iload 4, 2) := by decide +kernel
theorem dL_law_842 : decode cL_law 842 = .ok (.iconst 2, 1) := by decide +kernel
theorem dL_law_843 : decode cL_law 843 = .ok (.iadd, 1) := by decide +kernel
theorem dL_law_844 : decode cL_law 844 = .ok (.iaload, 1) := by decide +kernel
theorem q_435 : Cond.methodLink "FieldMemberLaw" 89 ⟨"FieldMember", "argument", "(II)I"⟩ ∈ TT := tt_t (i := 435) (by decide +kernel) (by decide +kernel)
theorem q_438 : Cond.code ⟨"FieldMember", "argument", "(II)I"⟩ prog_1_method_15_code 3 (some .int) ∈ TT := tt_t (i := 438) (by decide +kernel) (by decide +kernel)
theorem q_436 : Cond.instanceMethod ⟨"FieldMember", "argument", "(II)I"⟩ ∈ TT := tt_t (i := 436) (by decide +kernel) (by decide +kernel)
theorem q_437 : Cond.selects "FieldMember" ⟨"FieldMember", "argument", "(II)I"⟩ ⟨"FieldMember", "argument", "(II)I"⟩ ∈ TT := tt_t (i := 437) (by decide +kernel) (by decide +kernel)
theorem gV_L_X7_argument : GoodIn TT (wsV RL 89 RX7 yX7_argument (ww yX7_argument cX7_argument 3 (some .int))) := tt_V q_435 q_436 q_437 q_1 q_438
theorem hdV_X7_argument : yX7_argument.cls = RX7 ∧ yX7_argument.cls ≠ "java/lang/invoke/MethodHandle" ∧ yX7_argument.cls ≠ "java/lang/invoke/VarHandle" ∧ (parseMethodDescriptor yX7_argument.desc).map (fun d => d.parameters.length) = some 2 := by decide +kernel
theorem dL_law_845 : decode cL_law 845 = .ok (.invokevirtual 89, 3) := by decide +kernel
theorem dL_law_848 : decode cL_law 848 = .ok (.aload_n 2, 1) := by decide +kernel
theorem dL_law_849 : decode cL_law 849 = .ok (.aload_n 0, 1) := by decide +kernel
theorem dL_law_850 : decode cL_law 850 = .ok (.iload 4, 2) := by decide +kernel
theorem dL_law_852 : decode cL_law 852 = .ok (.iconst 1, 1) := by decide +kernel
theorem dL_law_853 : decode cL_law 853 = .ok (.iadd, 1) := by decide +kernel
theorem dL_law_854 : decode cL_law 854 = .ok (.iaload, 1) := by decide +kernel
theorem dL_law_855 : decode cL_law 855 = .ok (.aload_n 0, 1) := by decide +kernel
theorem dL_law_856 : decode cL_law 856 = .ok (.iload 4, 2) := by decide +kernel
theorem dL_law_858 : decode cL_law 858 = .ok (.iconst 2, 1) := by decide +kernel
theorem dL_law_859 : decode cL_law 859 = .ok (.iadd, 1) := by decide +kernel
theorem dL_law_860 : decode cL_law 860 = .ok (.iaload, 1) := by decide +kernel
theorem q_941 : Cond.methodLink "FieldMemberLaw" 92 ⟨"FieldMemberModel", "argument", "(II)I"⟩ ∈ TT := tt_t (i := 941) (by decide +kernel) (by decide +kernel)
theorem q_944 : Cond.code ⟨"FieldMemberModel", "argument", "(II)I"⟩ prog_10_method_38_code 3 (some .int) ∈ TT := tt_t (i := 944) (by decide +kernel) (by decide +kernel)
theorem q_942 : Cond.instanceMethod ⟨"FieldMemberModel", "argument", "(II)I"⟩ ∈ TT := tt_t (i := 942) (by decide +kernel) (by decide +kernel)
theorem q_943 : Cond.selects "FieldMemberModel" ⟨"FieldMemberModel", "argument", "(II)I"⟩ ⟨"FieldMemberModel", "argument", "(II)I"⟩ ∈ TT := tt_t (i := 943) (by decide +kernel) (by decide +kernel)
theorem gV_L_X8_argument : GoodIn TT (wsV RL 92 RX8 yX8_argument (ww yX8_argument cX8_argument 3 (some .int))) := tt_V q_941 q_942 q_943 q_4 q_944
theorem hdV_X8_argument : yX8_argument.cls = RX8 ∧ yX8_argument.cls ≠ "java/lang/invoke/MethodHandle" ∧ yX8_argument.cls ≠ "java/lang/invoke/VarHandle" ∧ (parseMethodDescriptor yX8_argument.desc).map (fun d => d.parameters.length) = some 2 := by decide +kernel
theorem dL_law_861 : decode cL_law 861 = .ok (.invokevirtual 92, 3) := by decide +kernel
theorem dL_law_864 : decode cL_law 864 = .ok (.if_icmp .eq 155, 3) := by decide +kernel
theorem dL_law_869 : decode cL_law 869 = .ok (.aload_n 1, 1) := by decide +kernel
theorem dL_law_870 : decode cL_law 870 = .ok (.aload_n 0, 1) := by decide +kernel
theorem dL_law_871 : decode cL_law 871 = .ok (.iload 4, 2) := by decide +kernel
theorem dL_law_873 : decode cL_law 873 = .ok (.iconst 1, 1) := by decide +kernel
theorem dL_law_874 : decode cL_law 874 = .ok (.iadd, 1) := by decide +kernel
theorem dL_law_875 : decode cL_law 875 = .ok (.iaload, 1) := by decide +kernel
theorem dL_law_876 : decode cL_law 876 = .ok (.aload_n 0, 1) := by decide +kernel
theorem dL_law_877 : decode cL_law 877 = .ok (.iload 4, 2) := by decide +kernel
theorem dL_law_879 : decode cL_law 879 = .ok (.iconst 2, 1) := by decide +kernel
theorem dL_law_880 : decode cL_law 880 = .ok (.iadd, 1) := by decide +kernel
theorem dL_law_881 : decode cL_law 881 = .ok (.iaload, 1) := by decide +kernel
theorem q_442 : Cond.methodLink "FieldMemberLaw" 93 ⟨"FieldMember", "call", "(II)I"⟩ ∈ TT := tt_t (i := 442) (by decide +kernel) (by decide +kernel)
theorem q_445 : Cond.code ⟨"FieldMember", "call", "(II)I"⟩ prog_1_method_16_code 6 (some .int) ∈ TT := tt_t (i := 445) (by decide +kernel) (by decide +kernel)
theorem q_443 : Cond.instanceMethod ⟨"FieldMember", "call", "(II)I"⟩ ∈ TT := tt_t (i := 443) (by decide +kernel) (by decide +kernel)
theorem q_444 : Cond.selects "FieldMember" ⟨"FieldMember", "call", "(II)I"⟩ ⟨"FieldMember", "call", "(II)I"⟩ ∈ TT := tt_t (i := 444) (by decide +kernel) (by decide +kernel)
theorem gV_L_X7_call : GoodIn TT (wsV RL 93 RX7 yX7_call (ww yX7_call cX7_call 6 (some .int))) := tt_V q_442 q_443 q_444 q_1 q_445
theorem hdV_X7_call : yX7_call.cls = RX7 ∧ yX7_call.cls ≠ "java/lang/invoke/MethodHandle" ∧ yX7_call.cls ≠ "java/lang/invoke/VarHandle" ∧ (parseMethodDescriptor yX7_call.desc).map (fun d => d.parameters.length) = some 2 := by decide +kernel
theorem dL_law_882 : decode cL_law 882 = .ok (.invokevirtual 93, 3) := by decide +kernel
theorem dL_law_885 : decode cL_law 885 = .ok (.aload_n 2, 1) := by decide +kernel
theorem dL_law_886 : decode cL_law 886 = .ok (.aload_n 0, 1) := by decide +kernel
theorem dL_law_887 : decode cL_law 887 = .ok (.iload 4, 2) := by decide +kernel
theorem dL_law_889 : decode cL_law 889 = .ok (.iconst 1, 1) := by decide +kernel
theorem dL_law_890 : decode cL_law 890 = .ok (.iadd, 1) := by decide +kernel
theorem dL_law_891 : decode cL_law 891 = .ok (.iaload, 1) := by decide +kernel
theorem dL_law_892 : decode cL_law 892 = .ok (.aload_n 0, 1) := by decide +kernel
theorem dL_law_893 : decode cL_law 893 = .ok (.iload 4, 2) := by decide +kernel
theorem dL_law_895 : decode cL_law 895 = .ok (.iconst 2, 1) := by decide +kernel
theorem dL_law_896 : decode cL_law 896 = .ok (.iadd, 1) := by decide +kernel
theorem dL_law_897 : decode cL_law 897 = .ok (.iaload, 1) := by decide +kernel
theorem q_945 : Cond.methodLink "FieldMemberLaw" 96 ⟨"FieldMemberModel", "call", "(II)I"⟩ ∈ TT := tt_t (i := 945) (by decide +kernel) (by decide +kernel)
theorem q_948 : Cond.code ⟨"FieldMemberModel", "call", "(II)I"⟩ prog_10_method_47_code 5 (some .int) ∈ TT := tt_t (i := 948) (by decide +kernel) (by decide +kernel)
theorem q_946 : Cond.instanceMethod ⟨"FieldMemberModel", "call", "(II)I"⟩ ∈ TT := tt_t (i := 946) (by decide +kernel) (by decide +kernel)
theorem q_947 : Cond.selects "FieldMemberModel" ⟨"FieldMemberModel", "call", "(II)I"⟩ ⟨"FieldMemberModel", "call", "(II)I"⟩ ∈ TT := tt_t (i := 947) (by decide +kernel) (by decide +kernel)
theorem gV_L_X8_call : GoodIn TT (wsV RL 96 RX8 yX8_call (ww yX8_call cX8_call 5 (some .int))) := tt_V q_945 q_946 q_947 q_4 q_948
theorem hdV_X8_call : yX8_call.cls = RX8 ∧ yX8_call.cls ≠ "java/lang/invoke/MethodHandle" ∧ yX8_call.cls ≠ "java/lang/invoke/VarHandle" ∧ (parseMethodDescriptor yX8_call.desc).map (fun d => d.parameters.length) = some 2 := by decide +kernel
theorem dL_law_898 : decode cL_law 898 = .ok (.invokevirtual 96, 3) := by decide +kernel
theorem dL_law_901 : decode cL_law 901 = .ok (.if_icmp .eq 118, 3) := by decide +kernel
theorem dL_law_906 : decode cL_law 906 = .ok (.aload_n 1, 1) := by decide +kernel
theorem q_512 : Cond.methodLink "FieldMemberLaw" 97 ⟨"FieldMember", "way", "()I"⟩ ∈ TT := tt_t (i := 512) (by decide +kernel) (by decide +kernel)
theorem q_515 : Cond.code ⟨"FieldMember", "way", "()I"⟩ prog_1_method_17_code 1 (some .int) ∈ TT := tt_t (i := 515) (by decide +kernel) (by decide +kernel)
theorem q_513 : Cond.instanceMethod ⟨"FieldMember", "way", "()I"⟩ ∈ TT := tt_t (i := 513) (by decide +kernel) (by decide +kernel)
theorem q_514 : Cond.selects "FieldMember" ⟨"FieldMember", "way", "()I"⟩ ⟨"FieldMember", "way", "()I"⟩ ∈ TT := tt_t (i := 514) (by decide +kernel) (by decide +kernel)
theorem gV_L_X7_way : GoodIn TT (wsV RL 97 RX7 yX7_way (ww yX7_way cX7_way 1 (some .int))) := tt_V q_512 q_513 q_514 q_1 q_515
theorem hdV_X7_way : yX7_way.cls = RX7 ∧ yX7_way.cls ≠ "java/lang/invoke/MethodHandle" ∧ yX7_way.cls ≠ "java/lang/invoke/VarHandle" ∧ (parseMethodDescriptor yX7_way.desc).map (fun d => d.parameters.length) = some 0 := by decide +kernel
theorem dL_law_907 : decode cL_law 907 = .ok (.invokevirtual 97, 3) := by decide +kernel
theorem dL_law_910 : decode cL_law 910 = .ok (.aload_n 2, 1) := by decide +kernel
theorem q_980 : Cond.methodLink "FieldMemberLaw" 100 ⟨"FieldMemberModel", "way", "()I"⟩ ∈ TT := tt_t (i := 980) (by decide +kernel) (by decide +kernel)
theorem q_983 : Cond.code ⟨"FieldMemberModel", "way", "()I"⟩ prog_10_method_48_code 1 (some .int) ∈ TT := tt_t (i := 983) (by decide +kernel) (by decide +kernel)
theorem q_981 : Cond.instanceMethod ⟨"FieldMemberModel", "way", "()I"⟩ ∈ TT := tt_t (i := 981) (by decide +kernel) (by decide +kernel)
theorem q_982 : Cond.selects "FieldMemberModel" ⟨"FieldMemberModel", "way", "()I"⟩ ⟨"FieldMemberModel", "way", "()I"⟩ ∈ TT := tt_t (i := 982) (by decide +kernel) (by decide +kernel)
theorem gV_L_X8_way : GoodIn TT (wsV RL 100 RX8 yX8_way (ww yX8_way cX8_way 1 (some .int))) := tt_V q_980 q_981 q_982 q_4 q_983
theorem hdV_X8_way : yX8_way.cls = RX8 ∧ yX8_way.cls ≠ "java/lang/invoke/MethodHandle" ∧ yX8_way.cls ≠ "java/lang/invoke/VarHandle" ∧ (parseMethodDescriptor yX8_way.desc).map (fun d => d.parameters.length) = some 0 := by decide +kernel
theorem dL_law_911 : decode cL_law 911 = .ok (.invokevirtual 100, 3) := by decide +kernel
theorem dL_law_914 : decode cL_law 914 = .ok (.if_icmp .eq 105, 3) := by decide +kernel
theorem dL_law_919 : decode cL_law 919 = .ok (.aload_n 1, 1) := by decide +kernel
theorem dL_law_920 : decode cL_law 920 = .ok (.aload_n 0, 1) := by decide +kernel
theorem dL_law_921 : decode cL_law 921 = .ok (.iload 4, 2) := by decide +kernel
theorem dL_law_923 : decode cL_law 923 = .ok (.iconst 1, 1) := by decide +kernel
theorem dL_law_924 : decode cL_law 924 = .ok (.iadd, 1) := by decide +kernel
theorem dL_law_925 : decode cL_law 925 = .ok (.iaload, 1) := by decide +kernel
theorem dL_law_926 : decode cL_law 926 = .ok (.aload_n 0, 1) := by decide +kernel
theorem dL_law_927 : decode cL_law 927 = .ok (.iload 4, 2) := by decide +kernel
theorem dL_law_929 : decode cL_law 929 = .ok (.iconst 2, 1) := by decide +kernel
theorem dL_law_930 : decode cL_law 930 = .ok (.iadd, 1) := by decide +kernel
theorem dL_law_931 : decode cL_law 931 = .ok (.iaload, 1) := by decide +kernel
theorem q_516 : Cond.methodLink "FieldMemberLaw" 101 ⟨"FieldMember", "lacks", "(II)I"⟩ ∈ TT := tt_t (i := 516) (by decide +kernel) (by decide +kernel)
theorem q_519 : Cond.code ⟨"FieldMember", "lacks", "(II)I"⟩ prog_1_method_18_code 7 (some .int) ∈ TT := tt_t (i := 519) (by decide +kernel) (by decide +kernel)
theorem q_517 : Cond.instanceMethod ⟨"FieldMember", "lacks", "(II)I"⟩ ∈ TT := tt_t (i := 517) (by decide +kernel) (by decide +kernel)
theorem q_518 : Cond.selects "FieldMember" ⟨"FieldMember", "lacks", "(II)I"⟩ ⟨"FieldMember", "lacks", "(II)I"⟩ ∈ TT := tt_t (i := 518) (by decide +kernel) (by decide +kernel)
theorem gV_L_X7_lacks : GoodIn TT (wsV RL 101 RX7 yX7_lacks (ww yX7_lacks cX7_lacks 7 (some .int))) := tt_V q_516 q_517 q_518 q_1 q_519
theorem hdV_X7_lacks : yX7_lacks.cls = RX7 ∧ yX7_lacks.cls ≠ "java/lang/invoke/MethodHandle" ∧ yX7_lacks.cls ≠ "java/lang/invoke/VarHandle" ∧ (parseMethodDescriptor yX7_lacks.desc).map (fun d => d.parameters.length) = some 2 := by decide +kernel
theorem dL_law_932 : decode cL_law 932 = .ok (.invokevirtual 101, 3) := by decide +kernel
theorem dL_law_935 : decode cL_law 935 = .ok (.aload_n 2, 1) := by decide +kernel
theorem dL_law_936 : decode cL_law 936 = .ok (.aload_n 0, 1) := by decide +kernel
theorem dL_law_937 : decode cL_law 937 = .ok (.iload 4, 2) := by decide +kernel
theorem dL_law_939 : decode cL_law 939 = .ok (.iconst 1, 1) := by decide +kernel
theorem dL_law_940 : decode cL_law 940 = .ok (.iadd, 1) := by decide +kernel
theorem dL_law_941 : decode cL_law 941 = .ok (.iaload, 1) := by decide +kernel
theorem dL_law_942 : decode cL_law 942 = .ok (.aload_n 0, 1) := by decide +kernel
theorem dL_law_943 : decode cL_law 943 = .ok (.iload 4, 2) := by decide +kernel
theorem dL_law_945 : decode cL_law 945 = .ok (.iconst 2, 1) := by decide +kernel
theorem dL_law_946 : decode cL_law 946 = .ok (.iadd, 1) := by decide +kernel
theorem dL_law_947 : decode cL_law 947 = .ok (.iaload, 1) := by decide +kernel
theorem q_984 : Cond.methodLink "FieldMemberLaw" 104 ⟨"FieldMemberModel", "lacks", "(II)I"⟩ ∈ TT := tt_t (i := 984) (by decide +kernel) (by decide +kernel)
theorem q_987 : Cond.code ⟨"FieldMemberModel", "lacks", "(II)I"⟩ prog_10_method_51_code 5 (some .int) ∈ TT := tt_t (i := 987) (by decide +kernel) (by decide +kernel)
theorem q_985 : Cond.instanceMethod ⟨"FieldMemberModel", "lacks", "(II)I"⟩ ∈ TT := tt_t (i := 985) (by decide +kernel) (by decide +kernel)
theorem q_986 : Cond.selects "FieldMemberModel" ⟨"FieldMemberModel", "lacks", "(II)I"⟩ ⟨"FieldMemberModel", "lacks", "(II)I"⟩ ∈ TT := tt_t (i := 986) (by decide +kernel) (by decide +kernel)
theorem gV_L_X8_lacks : GoodIn TT (wsV RL 104 RX8 yX8_lacks (ww yX8_lacks cX8_lacks 5 (some .int))) := tt_V q_984 q_985 q_986 q_4 q_987
theorem hdV_X8_lacks : yX8_lacks.cls = RX8 ∧ yX8_lacks.cls ≠ "java/lang/invoke/MethodHandle" ∧ yX8_lacks.cls ≠ "java/lang/invoke/VarHandle" ∧ (parseMethodDescriptor yX8_lacks.desc).map (fun d => d.parameters.length) = some 2 := by decide +kernel
theorem dL_law_948 : decode cL_law 948 = .ok (.invokevirtual 104, 3) := by decide +kernel
theorem dL_law_951 : decode cL_law 951 = .ok (.if_icmp .eq 68, 3) := by decide +kernel
theorem dL_law_956 : decode cL_law 956 = .ok (.aload_n 1, 1) := by decide +kernel
theorem dL_law_957 : decode cL_law 957 = .ok (.aload_n 0, 1) := by decide +kernel
theorem dL_law_958 : decode cL_law 958 = .ok (.iload 4, 2) := by decide +kernel
theorem dL_law_960 : decode cL_law 960 = .ok (.iconst 1, 1) := by decide +kernel
theorem dL_law_961 : decode cL_law 961 = .ok (.iadd, 1) := by decide +kernel
theorem dL_law_962 : decode cL_law 962 = .ok (.iaload, 1) := by decide +kernel
theorem q_532 : Cond.methodLink "FieldMemberLaw" 105 ⟨"FieldMember", "count", "(I)I"⟩ ∈ TT := tt_t (i := 532) (by decide +kernel) (by decide +kernel)
theorem q_535 : Cond.code ⟨"FieldMember", "count", "(I)I"⟩ prog_1_method_19_code 2 (some .int) ∈ TT := tt_t (i := 535) (by decide +kernel) (by decide +kernel)
theorem q_533 : Cond.instanceMethod ⟨"FieldMember", "count", "(I)I"⟩ ∈ TT := tt_t (i := 533) (by decide +kernel) (by decide +kernel)
theorem q_534 : Cond.selects "FieldMember" ⟨"FieldMember", "count", "(I)I"⟩ ⟨"FieldMember", "count", "(I)I"⟩ ∈ TT := tt_t (i := 534) (by decide +kernel) (by decide +kernel)
theorem gV_L_X7_count : GoodIn TT (wsV RL 105 RX7 yX7_count (ww yX7_count cX7_count 2 (some .int))) := tt_V q_532 q_533 q_534 q_1 q_535
theorem hdV_X7_count : yX7_count.cls = RX7 ∧ yX7_count.cls ≠ "java/lang/invoke/MethodHandle" ∧ yX7_count.cls ≠ "java/lang/invoke/VarHandle" ∧ (parseMethodDescriptor yX7_count.desc).map (fun d => d.parameters.length) = some 1 := by decide +kernel
theorem dL_law_963 : decode cL_law 963 = .ok (.invokevirtual 105, 3) := by decide +kernel
theorem dL_law_966 : decode cL_law 966 = .ok (.aload_n 2, 1) := by decide +kernel
theorem dL_law_967 : decode cL_law 967 = .ok (.aload_n 0, 1) := by decide +kernel
theorem dL_law_968 : decode cL_law 968 = .ok (.iload 4, 2) := by decide +kernel
theorem dL_law_970 : decode cL_law 970 = .ok (.iconst 1, 1) := by decide +kernel
theorem dL_law_971 : decode cL_law 971 = .ok (.iadd, 1) := by decide +kernel
theorem dL_law_972 : decode cL_law 972 = .ok (.iaload, 1) := by decide +kernel
theorem q_996 : Cond.methodLink "FieldMemberLaw" 109 ⟨"FieldMemberModel", "count", "(I)I"⟩ ∈ TT := tt_t (i := 996) (by decide +kernel) (by decide +kernel)
theorem q_999 : Cond.code ⟨"FieldMemberModel", "count", "(I)I"⟩ prog_10_method_52_code 2 (some .int) ∈ TT := tt_t (i := 999) (by decide +kernel) (by decide +kernel)
theorem q_997 : Cond.instanceMethod ⟨"FieldMemberModel", "count", "(I)I"⟩ ∈ TT := tt_t (i := 997) (by decide +kernel) (by decide +kernel)
theorem q_998 : Cond.selects "FieldMemberModel" ⟨"FieldMemberModel", "count", "(I)I"⟩ ⟨"FieldMemberModel", "count", "(I)I"⟩ ∈ TT := tt_t (i := 998) (by decide +kernel) (by decide +kernel)
theorem gV_L_X8_count : GoodIn TT (wsV RL 109 RX8 yX8_count (ww yX8_count cX8_count 2 (some .int))) := tt_V q_996 q_997 q_998 q_4 q_999
theorem hdV_X8_count : yX8_count.cls = RX8 ∧ yX8_count.cls ≠ "java/lang/invoke/MethodHandle" ∧ yX8_count.cls ≠ "java/lang/invoke/VarHandle" ∧ (parseMethodDescriptor yX8_count.desc).map (fun d => d.parameters.length) = some 1 := by decide +kernel
theorem dL_law_973 : decode cL_law 973 = .ok (.invokevirtual 109, 3) := by decide +kernel
theorem dL_law_976 : decode cL_law 976 = .ok (.if_icmp .eq 43, 3) := by decide +kernel
theorem dL_law_981 : decode cL_law 981 = .ok (.aload_n 1, 1) := by decide +kernel
theorem dL_law_982 : decode cL_law 982 = .ok (.aload_n 0, 1) := by decide +kernel
theorem dL_law_983 : decode cL_law 983 = .ok (.iload 4, 2) := by decide +kernel
theorem dL_law_985 : decode cL_law 985 = .ok (.iconst 1, 1) := by decide +kernel
theorem dL_law_986 : decode cL_law 986 = .ok (.iadd, 1) := by decide +kernel
theorem dL_law_987 : decode cL_law 987 = .ok (.iaload, 1) := by decide +kernel
theorem q_536 : Cond.methodLink "FieldMemberLaw" 110 ⟨"FieldMember", "broken", "(I)I"⟩ ∈ TT := tt_t (i := 536) (by decide +kernel) (by decide +kernel)
theorem q_539 : Cond.code ⟨"FieldMember", "broken", "(I)I"⟩ prog_1_method_20_code 2 (some .int) ∈ TT := tt_t (i := 539) (by decide +kernel) (by decide +kernel)
theorem q_537 : Cond.instanceMethod ⟨"FieldMember", "broken", "(I)I"⟩ ∈ TT := tt_t (i := 537) (by decide +kernel) (by decide +kernel)
theorem q_538 : Cond.selects "FieldMember" ⟨"FieldMember", "broken", "(I)I"⟩ ⟨"FieldMember", "broken", "(I)I"⟩ ∈ TT := tt_t (i := 538) (by decide +kernel) (by decide +kernel)
theorem gV_L_X7_broken : GoodIn TT (wsV RL 110 RX7 yX7_broken (ww yX7_broken cX7_broken 2 (some .int))) := tt_V q_536 q_537 q_538 q_1 q_539
theorem hdV_X7_broken : yX7_broken.cls = RX7 ∧ yX7_broken.cls ≠ "java/lang/invoke/MethodHandle" ∧ yX7_broken.cls ≠ "java/lang/invoke/VarHandle" ∧ (parseMethodDescriptor yX7_broken.desc).map (fun d => d.parameters.length) = some 1 := by decide +kernel
theorem dL_law_988 : decode cL_law 988 = .ok (.invokevirtual 110, 3) := by decide +kernel
theorem dL_law_991 : decode cL_law 991 = .ok (.aload_n 2, 1) := by decide +kernel
theorem dL_law_992 : decode cL_law 992 = .ok (.aload_n 0, 1) := by decide +kernel
theorem dL_law_993 : decode cL_law 993 = .ok (.iload 4, 2) := by decide +kernel
theorem dL_law_995 : decode cL_law 995 = .ok (.iconst 1, 1) := by decide +kernel
theorem dL_law_996 : decode cL_law 996 = .ok (.iadd, 1) := by decide +kernel
theorem dL_law_997 : decode cL_law 997 = .ok (.iaload, 1) := by decide +kernel
theorem q_1000 : Cond.methodLink "FieldMemberLaw" 113 ⟨"FieldMemberModel", "broken", "(I)I"⟩ ∈ TT := tt_t (i := 1000) (by decide +kernel) (by decide +kernel)
theorem q_1003 : Cond.code ⟨"FieldMemberModel", "broken", "(I)I"⟩ prog_10_method_53_code 2 (some .int) ∈ TT := tt_t (i := 1003) (by decide +kernel) (by decide +kernel)
theorem q_1001 : Cond.instanceMethod ⟨"FieldMemberModel", "broken", "(I)I"⟩ ∈ TT := tt_t (i := 1001) (by decide +kernel) (by decide +kernel)
theorem q_1002 : Cond.selects "FieldMemberModel" ⟨"FieldMemberModel", "broken", "(I)I"⟩ ⟨"FieldMemberModel", "broken", "(I)I"⟩ ∈ TT := tt_t (i := 1002) (by decide +kernel) (by decide +kernel)
theorem gV_L_X8_broken : GoodIn TT (wsV RL 113 RX8 yX8_broken (ww yX8_broken cX8_broken 2 (some .int))) := tt_V q_1000 q_1001 q_1002 q_4 q_1003
theorem hdV_X8_broken : yX8_broken.cls = RX8 ∧ yX8_broken.cls ≠ "java/lang/invoke/MethodHandle" ∧ yX8_broken.cls ≠ "java/lang/invoke/VarHandle" ∧ (parseMethodDescriptor yX8_broken.desc).map (fun d => d.parameters.length) = some 1 := by decide +kernel
theorem dL_law_998 : decode cL_law 998 = .ok (.invokevirtual 113, 3) := by decide +kernel
theorem dL_law_1001 : decode cL_law 1001 = .ok (.if_icmp .eq 18, 3) := by decide +kernel
theorem dL_law_1006 : decode cL_law 1006 = .ok (.aload_n 1, 1) := by decide +kernel
theorem q_540 : Cond.methodLink "FieldMemberLaw" 114 ⟨"FieldMember", "clear", "()I"⟩ ∈ TT := tt_t (i := 540) (by decide +kernel) (by decide +kernel)
theorem q_543 : Cond.code ⟨"FieldMember", "clear", "()I"⟩ prog_1_method_21_code 3 (some .int) ∈ TT := tt_t (i := 543) (by decide +kernel) (by decide +kernel)
theorem q_541 : Cond.instanceMethod ⟨"FieldMember", "clear", "()I"⟩ ∈ TT := tt_t (i := 541) (by decide +kernel) (by decide +kernel)
theorem q_542 : Cond.selects "FieldMember" ⟨"FieldMember", "clear", "()I"⟩ ⟨"FieldMember", "clear", "()I"⟩ ∈ TT := tt_t (i := 542) (by decide +kernel) (by decide +kernel)
theorem gV_L_X7_clear : GoodIn TT (wsV RL 114 RX7 yX7_clear (ww yX7_clear cX7_clear 3 (some .int))) := tt_V q_540 q_541 q_542 q_1 q_543
theorem hdV_X7_clear : yX7_clear.cls = RX7 ∧ yX7_clear.cls ≠ "java/lang/invoke/MethodHandle" ∧ yX7_clear.cls ≠ "java/lang/invoke/VarHandle" ∧ (parseMethodDescriptor yX7_clear.desc).map (fun d => d.parameters.length) = some 0 := by decide +kernel
theorem dL_law_1007 : decode cL_law 1007 = .ok (.invokevirtual 114, 3) := by decide +kernel
theorem dL_law_1010 : decode cL_law 1010 = .ok (.aload_n 2, 1) := by decide +kernel
theorem q_1004 : Cond.methodLink "FieldMemberLaw" 117 ⟨"FieldMemberModel", "clear", "()I"⟩ ∈ TT := tt_t (i := 1004) (by decide +kernel) (by decide +kernel)
theorem q_1007 : Cond.code ⟨"FieldMemberModel", "clear", "()I"⟩ prog_10_method_54_code 3 (some .int) ∈ TT := tt_t (i := 1007) (by decide +kernel) (by decide +kernel)
theorem q_1005 : Cond.instanceMethod ⟨"FieldMemberModel", "clear", "()I"⟩ ∈ TT := tt_t (i := 1005) (by decide +kernel) (by decide +kernel)
theorem q_1006 : Cond.selects "FieldMemberModel" ⟨"FieldMemberModel", "clear", "()I"⟩ ⟨"FieldMemberModel", "clear", "()I"⟩ ∈ TT := tt_t (i := 1006) (by decide +kernel) (by decide +kernel)
theorem gV_L_X8_clear : GoodIn TT (wsV RL 117 RX8 yX8_clear (ww yX8_clear cX8_clear 3 (some .int))) := tt_V q_1004 q_1005 q_1006 q_4 q_1007
theorem hdV_X8_clear : yX8_clear.cls = RX8 ∧ yX8_clear.cls ≠ "java/lang/invoke/MethodHandle" ∧ yX8_clear.cls ≠ "java/lang/invoke/VarHandle" ∧ (parseMethodDescriptor yX8_clear.desc).map (fun d => d.parameters.length) = some 0 := by decide +kernel
theorem dL_law_1011 : decode cL_law 1011 = .ok (.invokevirtual 117, 3) := by decide +kernel
theorem dL_law_1014 : decode cL_law 1014 = .ok (.if_icmp .eq 5, 3) := by decide +kernel
set_option maxHeartbeats 1600000 in
set_option maxRecDepth 100000 in
theorem lc_type {p : Program} {l : Launch} {e : Env} {s : State} {m : MethodId} {below : List Frame} {meth : Method} {c : Code} {b L : Nat} {xs : Nat → Int32} {D : va_G} {G : Nat → ClassId} {sa : Nat → Nat} {ca : Nat → Nat} {mo : Nat} {ad : Nat → Nat} {o : Nat} {Q : State → Prop} (C0 : LCx p l s m c b L xs D G sa) {j : Nat} (hj : 7 * j + 6 < L) {u : MU} {H : Heap} {locs : List Loc} {ls : Array Slot} {cells slots : Nat} (hW : LW s D G ca mo ad o u H locs) (hl : lv_has ls 8 [(4, .int (nI (7 * j))), (3, .ref o), (2, .ref mo), (1, .ref (ca 0)), (0, .ref b)]) (hc : cells + 4 ≤ 603072 ∧ slots + 22 ≤ 7262314)
    (kk : ∀ (u : MU) (H : Heap) (locs : List Loc) (ls : Array Slot), LW s D G ca mo ad o u H locs → lv_has ls 8 [(4, .int (nI (7 * j))), (3, .ref o), (2, .ref mo), (1, .ref (ca 0)), (0, .ref b)] → W p l e room_1 s m #[Value.ref b] below meth c H locs (cells + 4) (slots + 22) Q (F0 m 1019 ls [])) : W p l e room_1 s m #[Value.ref b] below meth c H locs cells slots Q (F0 m 136 ls []) := by
  obtain ⟨hx, hb, hml, hown, hts, hX, hbl, hK, hXS, hXZ, hst, hL⟩ := id C0
  have hbA : ¬ (fun q : Nat => s.heap.size ≤ q) b := Nat.not_le.mpr hbl
  have hA : ∀ q : Nat, s.heap.size ≤ q → (fun q : Nat => s.heap.size ≤ q) q := fun _ h => h
  obtain ⟨σ, τ⟩ := u
  obtain ⟨f, z, ⟨n, k, w0, κ, x, hV, hC⟩, hP, hD, hS⟩ := hW
  have hP : va_P D vwCl ((mW G mo ad σ τ ++ [(o, .inl (G 1, 1, .inr (.inl f)))]) ++ z) H := hP
  have hD : va_D (fun q => s.heap.size ≤ q) ((mW G mo ad σ τ ++ [(o, .inl (G 1, 1, .inr (.inl f)))]) ++ z) := hD
  have hV : IV σ x τ κ n k w0 := hV
  have hC : CW G ca σ x κ k z := hC
  refine lv_aload_n hx hb dL_law_136 rfl (lv_at hl 3 rfl) ?_
  refine lv_aload_n hx hb dL_law_137 rfl (lv_at hl 4 rfl) ?_
  refine lv_iload hx hb dL_law_138 (lv_at hl 0 rfl) ?_
  refine lv_iconst (v := 1) hx hb dL_law_140 (by decide) ?_
  refine lv_iadd hx hb dL_law_141 ?_
  refine sld_n hx hb hX hbl hbA hS hL ((7 * j) + 1) (n_add (a := (7 * j)) (b := 1) rfl (rfl : (1 : Int32) = nI 1)) (by omega) dL_law_142 ?_
  refine lv_aload_n hx hb dL_law_143 rfl (lv_at hl 4 rfl) ?_
  refine lv_iload hx hb dL_law_144 (lv_at hl 0 rfl) ?_
  refine lv_iconst (v := 2) hx hb dL_law_146 (by decide) ?_
  refine lv_iadd hx hb dL_law_147 ?_
  refine sld_n hx hb hX hbl hbA hS hL ((7 * j) + 2) (n_add (a := (7 * j)) (b := 2) rfl (rfl : (2 : Int32) = nI 2)) (by omega) dL_law_148 ?_
  refine fr_Vc (wr := mW G mo ad σ τ ++ [(o, .inl (G 1, 1, .inr (.inl f)))]) (wc := z) (As := [.int (xs ((7 * j) + 1)), .int (xs ((7 * j) + 2))]) (rest := []) ⟨hx, hb, hml, hown, hts⟩ (u_type l D G ca n k w0 σ x τ κ z _ hV hC (xs ((7 * j) + 1)) (xs ((7 * j) + 2))) gV_L_X7_type hdV_X7_type ⟨(Nat.le_of_ble_eq_true rfl), (Nat.le_of_ble_eq_true rfl)⟩ hK (hC.recv hK (fr_P hP)) hP hD hS hA rfl hl.1 rfl (Nat.le_of_ble_eq_true rfl) dL_law_149 ⟨(show cells + 0 ≤ 603072 by omega), (show slots + 0 ≤ 7262314 by omega)⟩ (fun z H locs hN hP hD hS => ?_)
  refine W.eq (g2 := F0 m 152 ls [.int ((oType σ τ n (xs ((7 * j) + 1)) (xs ((7 * j) + 2))).1)]) rfl ?_
  refine lv_aload_n hx hb dL_law_152 rfl (lv_at hl 2 rfl) ?_
  refine lv_aload_n hx hb dL_law_153 rfl (lv_at hl 4 rfl) ?_
  refine lv_iload hx hb dL_law_154 (lv_at hl 0 rfl) ?_
  refine lv_iconst (v := 1) hx hb dL_law_156 (by decide) ?_
  refine lv_iadd hx hb dL_law_157 ?_
  refine sld_n hx hb hX hbl hbA hS hL ((7 * j) + 1) (n_add (a := (7 * j)) (b := 1) rfl (rfl : (1 : Int32) = nI 1)) (by omega) dL_law_158 ?_
  refine lv_aload_n hx hb dL_law_159 rfl (lv_at hl 4 rfl) ?_
  refine lv_iload hx hb dL_law_160 (lv_at hl 0 rfl) ?_
  refine lv_iconst (v := 2) hx hb dL_law_162 (by decide) ?_
  refine lv_iadd hx hb dL_law_163 ?_
  refine sld_n hx hb hX hbl hbA hS hL ((7 * j) + 2) (n_add (a := (7 * j)) (b := 2) rfl (rfl : (2 : Int32) = nI 2)) (by omega) dL_law_164 ?_
  have hP := P_perm hP pm_m
  have hD := D_perm pm_m hD
  have hP : va_P D vwCl (([(o, .inl (G 1, 1, .inr (.inl f)))] ++ z) ++ mW G mo ad σ τ) H := hP
  have hD : va_D (fun q => s.heap.size ≤ q) (([(o, .inl (G 1, 1, .inr (.inl f)))] ++ z) ++ mW G mo ad σ τ) := hD
  refine fr_Vm (wr := [(o, .inl (G 1, 1, .inr (.inl f)))] ++ z) (u := (σ, τ)) (v := (oType σ τ n (xs ((7 * j) + 1)) (xs ((7 * j) + 2))).2) (mo := mo) (ad := ad) (As := [.int (xs ((7 * j) + 1)), .int (xs ((7 * j) + 2))]) (rest := [.int ((oType σ τ n (xs ((7 * j) + 1)) (xs ((7 * j) + 2))).1)]) ⟨hx, hb, hml, hown, hts⟩ (m_type l D G mo ad σ τ _ n hV.1.1.1 hV.1.1.2  (xs ((7 * j) + 1)) (xs ((7 * j) + 2)) hV.2.1.1) gV_L_X8_type hdV_X8_type ⟨(Nat.le_of_ble_eq_true rfl), (Nat.le_of_ble_eq_true rfl)⟩ hK hP hD hS hA rfl hl.1 rfl (Nat.le_of_ble_eq_true rfl) dL_law_165 ⟨(show cells + 0 ≤ 603072 by omega), (show slots + 0 ≤ 7262314 by omega)⟩ (fun H locs hP hD hS => ?_)
  have hP := P_perm hP pm_r
  have hD := D_perm pm_r hD
  have hP : va_P D vwCl ((mW G mo ad (oType σ τ n (xs ((7 * j) + 1)) (xs ((7 * j) + 2))).2.1 (oType σ τ n (xs ((7 * j) + 1)) (xs ((7 * j) + 2))).2.2 ++ [(o, .inl (G 1, 1, .inr (.inl f)))]) ++ z) H := hP
  have hD : va_D (fun q => s.heap.size ≤ q) ((mW G mo ad (oType σ τ n (xs ((7 * j) + 1)) (xs ((7 * j) + 2))).2.1 (oType σ τ n (xs ((7 * j) + 1)) (xs ((7 * j) + 2))).2.2 ++ [(o, .inl (G 1, 1, .inr (.inl f)))]) ++ z) := hD
  refine W.eq (g2 := F0 m 168 ls [.int ((oType σ τ n (xs ((7 * j) + 1)) (xs ((7 * j) + 2))).1), .int ((oType σ τ n (xs ((7 * j) + 1)) (xs ((7 * j) + 2))).1)]) rfl ?_
  refine lv_icmp_eq (tgt := 1019) hx hb dL_law_168 (by decide) (fun hh => ?_) (fun hh => absurd rfl hh)
  refine W.widen (k := cells + 4) (n := slots + 22) (by omega) (by omega) ?_
  exact kk (oType σ τ n (xs ((7 * j) + 1)) (xs ((7 * j) + 2))).2 _ _ _ ⟨f, z, hN, hP, hD, hS⟩ (lv_sub hl [0, 1, 2, 3, 4] rfl)
set_option maxHeartbeats 1600000 in
set_option maxRecDepth 100000 in
theorem lc_face {p : Program} {l : Launch} {e : Env} {s : State} {m : MethodId} {below : List Frame} {meth : Method} {c : Code} {b L : Nat} {xs : Nat → Int32} {D : va_G} {G : Nat → ClassId} {sa : Nat → Nat} {ca : Nat → Nat} {mo : Nat} {ad : Nat → Nat} {o : Nat} {Q : State → Prop} (C0 : LCx p l s m c b L xs D G sa) {j : Nat} (hj : 7 * j + 6 < L) {u : MU} {H : Heap} {locs : List Loc} {ls : Array Slot} {cells slots : Nat} (hW : LW s D G ca mo ad o u H locs) (hl : lv_has ls 8 [(4, .int (nI (7 * j))), (3, .ref o), (2, .ref mo), (1, .ref (ca 0)), (0, .ref b)]) (hc : cells + 4 ≤ 603072 ∧ slots + 22 ≤ 7262314)
    (kk : ∀ (u : MU) (H : Heap) (locs : List Loc) (ls : Array Slot), LW s D G ca mo ad o u H locs → lv_has ls 8 [(4, .int (nI (7 * j))), (3, .ref o), (2, .ref mo), (1, .ref (ca 0)), (0, .ref b)] → W p l e room_1 s m #[Value.ref b] below meth c H locs (cells + 4) (slots + 22) Q (F0 m 1019 ls [])) : W p l e room_1 s m #[Value.ref b] below meth c H locs cells slots Q (F0 m 173 ls []) := by
  obtain ⟨hx, hb, hml, hown, hts, hX, hbl, hK, hXS, hXZ, hst, hL⟩ := id C0
  have hbA : ¬ (fun q : Nat => s.heap.size ≤ q) b := Nat.not_le.mpr hbl
  have hA : ∀ q : Nat, s.heap.size ≤ q → (fun q : Nat => s.heap.size ≤ q) q := fun _ h => h
  obtain ⟨σ, τ⟩ := u
  obtain ⟨f, z, ⟨n, k, w0, κ, x, hV, hC⟩, hP, hD, hS⟩ := hW
  have hP : va_P D vwCl ((mW G mo ad σ τ ++ [(o, .inl (G 1, 1, .inr (.inl f)))]) ++ z) H := hP
  have hD : va_D (fun q => s.heap.size ≤ q) ((mW G mo ad σ τ ++ [(o, .inl (G 1, 1, .inr (.inl f)))]) ++ z) := hD
  have hV : IV σ x τ κ n k w0 := hV
  have hC : CW G ca σ x κ k z := hC
  refine lv_aload_n hx hb dL_law_173 rfl (lv_at hl 3 rfl) ?_
  refine lv_aload_n hx hb dL_law_174 rfl (lv_at hl 4 rfl) ?_
  refine lv_iload hx hb dL_law_175 (lv_at hl 0 rfl) ?_
  refine lv_iconst (v := 1) hx hb dL_law_177 (by decide) ?_
  refine lv_iadd hx hb dL_law_178 ?_
  refine sld_n hx hb hX hbl hbA hS hL ((7 * j) + 1) (n_add (a := (7 * j)) (b := 1) rfl (rfl : (1 : Int32) = nI 1)) (by omega) dL_law_179 ?_
  refine lv_aload_n hx hb dL_law_180 rfl (lv_at hl 4 rfl) ?_
  refine lv_iload hx hb dL_law_181 (lv_at hl 0 rfl) ?_
  refine lv_iconst (v := 2) hx hb dL_law_183 (by decide) ?_
  refine lv_iadd hx hb dL_law_184 ?_
  refine sld_n hx hb hX hbl hbA hS hL ((7 * j) + 2) (n_add (a := (7 * j)) (b := 2) rfl (rfl : (2 : Int32) = nI 2)) (by omega) dL_law_185 ?_
  refine fr_Vc (wr := mW G mo ad σ τ ++ [(o, .inl (G 1, 1, .inr (.inl f)))]) (wc := z) (As := [.int (xs ((7 * j) + 1)), .int (xs ((7 * j) + 2))]) (rest := []) ⟨hx, hb, hml, hown, hts⟩ (u_face l D G ca n k w0 σ x τ κ z _ hV hC (xs ((7 * j) + 1)) (xs ((7 * j) + 2))) gV_L_X7_face hdV_X7_face ⟨(Nat.le_of_ble_eq_true rfl), (Nat.le_of_ble_eq_true rfl)⟩ hK (hC.recv hK (fr_P hP)) hP hD hS hA rfl hl.1 rfl (Nat.le_of_ble_eq_true rfl) dL_law_186 ⟨(show cells + 0 ≤ 603072 by omega), (show slots + 0 ≤ 7262314 by omega)⟩ (fun z H locs hN hP hD hS => ?_)
  refine W.eq (g2 := F0 m 189 ls [.int ((oFace σ τ n k (xs ((7 * j) + 1)) (xs ((7 * j) + 2))).1)]) rfl ?_
  refine lv_aload_n hx hb dL_law_189 rfl (lv_at hl 2 rfl) ?_
  refine lv_aload_n hx hb dL_law_190 rfl (lv_at hl 4 rfl) ?_
  refine lv_iload hx hb dL_law_191 (lv_at hl 0 rfl) ?_
  refine lv_iconst (v := 1) hx hb dL_law_193 (by decide) ?_
  refine lv_iadd hx hb dL_law_194 ?_
  refine sld_n hx hb hX hbl hbA hS hL ((7 * j) + 1) (n_add (a := (7 * j)) (b := 1) rfl (rfl : (1 : Int32) = nI 1)) (by omega) dL_law_195 ?_
  refine lv_aload_n hx hb dL_law_196 rfl (lv_at hl 4 rfl) ?_
  refine lv_iload hx hb dL_law_197 (lv_at hl 0 rfl) ?_
  refine lv_iconst (v := 2) hx hb dL_law_199 (by decide) ?_
  refine lv_iadd hx hb dL_law_200 ?_
  refine sld_n hx hb hX hbl hbA hS hL ((7 * j) + 2) (n_add (a := (7 * j)) (b := 2) rfl (rfl : (2 : Int32) = nI 2)) (by omega) dL_law_201 ?_
  have hP := P_perm hP pm_m
  have hD := D_perm pm_m hD
  have hP : va_P D vwCl (([(o, .inl (G 1, 1, .inr (.inl f)))] ++ z) ++ mW G mo ad σ τ) H := hP
  have hD : va_D (fun q => s.heap.size ≤ q) (([(o, .inl (G 1, 1, .inr (.inl f)))] ++ z) ++ mW G mo ad σ τ) := hD
  refine fr_Vm (wr := [(o, .inl (G 1, 1, .inr (.inl f)))] ++ z) (u := (σ, τ)) (v := (oFace σ τ n k (xs ((7 * j) + 1)) (xs ((7 * j) + 2))).2) (mo := mo) (ad := ad) (As := [.int (xs ((7 * j) + 1)), .int (xs ((7 * j) + 2))]) (rest := [.int ((oFace σ τ n k (xs ((7 * j) + 1)) (xs ((7 * j) + 2))).1)]) ⟨hx, hb, hml, hown, hts⟩ (m_face l D G mo ad σ τ _ n hV.1.1.1 hV.1.1.2 k hV.1.2.1.1 hV.1.2.1.2 (TI.pa hV.2.1) (TI.fc hV.2.1) (xs ((7 * j) + 1)) (xs ((7 * j) + 2)) hV.2.1.1) gV_L_X8_face hdV_X8_face ⟨(Nat.le_of_ble_eq_true rfl), (Nat.le_of_ble_eq_true rfl)⟩ hK hP hD hS hA rfl hl.1 rfl (Nat.le_of_ble_eq_true rfl) dL_law_202 ⟨(show cells + 0 ≤ 603072 by omega), (show slots + 0 ≤ 7262314 by omega)⟩ (fun H locs hP hD hS => ?_)
  have hP := P_perm hP pm_r
  have hD := D_perm pm_r hD
  have hP : va_P D vwCl ((mW G mo ad (oFace σ τ n k (xs ((7 * j) + 1)) (xs ((7 * j) + 2))).2.1 (oFace σ τ n k (xs ((7 * j) + 1)) (xs ((7 * j) + 2))).2.2 ++ [(o, .inl (G 1, 1, .inr (.inl f)))]) ++ z) H := hP
  have hD : va_D (fun q => s.heap.size ≤ q) ((mW G mo ad (oFace σ τ n k (xs ((7 * j) + 1)) (xs ((7 * j) + 2))).2.1 (oFace σ τ n k (xs ((7 * j) + 1)) (xs ((7 * j) + 2))).2.2 ++ [(o, .inl (G 1, 1, .inr (.inl f)))]) ++ z) := hD
  refine W.eq (g2 := F0 m 205 ls [.int ((oFace σ τ n k (xs ((7 * j) + 1)) (xs ((7 * j) + 2))).1), .int ((oFace σ τ n k (xs ((7 * j) + 1)) (xs ((7 * j) + 2))).1)]) rfl ?_
  refine lv_icmp_eq (tgt := 1019) hx hb dL_law_205 (by decide) (fun hh => ?_) (fun hh => absurd rfl hh)
  refine W.widen (k := cells + 4) (n := slots + 22) (by omega) (by omega) ?_
  exact kk (oFace σ τ n k (xs ((7 * j) + 1)) (xs ((7 * j) + 2))).2 _ _ _ ⟨f, z, hN, hP, hD, hS⟩ (lv_sub hl [0, 1, 2, 3, 4] rfl)
set_option maxHeartbeats 1600000 in
set_option maxRecDepth 100000 in
theorem lc_below {p : Program} {l : Launch} {e : Env} {s : State} {m : MethodId} {below : List Frame} {meth : Method} {c : Code} {b L : Nat} {xs : Nat → Int32} {D : va_G} {G : Nat → ClassId} {sa : Nat → Nat} {ca : Nat → Nat} {mo : Nat} {ad : Nat → Nat} {o : Nat} {Q : State → Prop} (C0 : LCx p l s m c b L xs D G sa) {j : Nat} (hj : 7 * j + 6 < L) {u : MU} {H : Heap} {locs : List Loc} {ls : Array Slot} {cells slots : Nat} (hW : LW s D G ca mo ad o u H locs) (hl : lv_has ls 8 [(4, .int (nI (7 * j))), (3, .ref o), (2, .ref mo), (1, .ref (ca 0)), (0, .ref b)]) (hc : cells + 4 ≤ 603072 ∧ slots + 22 ≤ 7262314)
    (kk : ∀ (u : MU) (H : Heap) (locs : List Loc) (ls : Array Slot), LW s D G ca mo ad o u H locs → lv_has ls 8 [(4, .int (nI (7 * j))), (3, .ref o), (2, .ref mo), (1, .ref (ca 0)), (0, .ref b)] → W p l e room_1 s m #[Value.ref b] below meth c H locs (cells + 4) (slots + 22) Q (F0 m 1019 ls [])) : W p l e room_1 s m #[Value.ref b] below meth c H locs cells slots Q (F0 m 210 ls []) := by
  obtain ⟨hx, hb, hml, hown, hts, hX, hbl, hK, hXS, hXZ, hst, hL⟩ := id C0
  have hbA : ¬ (fun q : Nat => s.heap.size ≤ q) b := Nat.not_le.mpr hbl
  have hA : ∀ q : Nat, s.heap.size ≤ q → (fun q : Nat => s.heap.size ≤ q) q := fun _ h => h
  obtain ⟨σ, τ⟩ := u
  obtain ⟨f, z, ⟨n, k, w0, κ, x, hV, hC⟩, hP, hD, hS⟩ := hW
  have hP : va_P D vwCl ((mW G mo ad σ τ ++ [(o, .inl (G 1, 1, .inr (.inl f)))]) ++ z) H := hP
  have hD : va_D (fun q => s.heap.size ≤ q) ((mW G mo ad σ τ ++ [(o, .inl (G 1, 1, .inr (.inl f)))]) ++ z) := hD
  have hV : IV σ x τ κ n k w0 := hV
  have hC : CW G ca σ x κ k z := hC
  refine lv_aload_n hx hb dL_law_210 rfl (lv_at hl 3 rfl) ?_
  refine lv_aload_n hx hb dL_law_211 rfl (lv_at hl 4 rfl) ?_
  refine lv_iload hx hb dL_law_212 (lv_at hl 0 rfl) ?_
  refine lv_iconst (v := 1) hx hb dL_law_214 (by decide) ?_
  refine lv_iadd hx hb dL_law_215 ?_
  refine sld_n hx hb hX hbl hbA hS hL ((7 * j) + 1) (n_add (a := (7 * j)) (b := 1) rfl (rfl : (1 : Int32) = nI 1)) (by omega) dL_law_216 ?_
  refine lv_aload_n hx hb dL_law_217 rfl (lv_at hl 4 rfl) ?_
  refine lv_iload hx hb dL_law_218 (lv_at hl 0 rfl) ?_
  refine lv_iconst (v := 2) hx hb dL_law_220 (by decide) ?_
  refine lv_iadd hx hb dL_law_221 ?_
  refine sld_n hx hb hX hbl hbA hS hL ((7 * j) + 2) (n_add (a := (7 * j)) (b := 2) rfl (rfl : (2 : Int32) = nI 2)) (by omega) dL_law_222 ?_
  refine fr_Vc (wr := mW G mo ad σ τ ++ [(o, .inl (G 1, 1, .inr (.inl f)))]) (wc := z) (As := [.int (xs ((7 * j) + 1)), .int (xs ((7 * j) + 2))]) (rest := []) ⟨hx, hb, hml, hown, hts⟩ (u_below l D G ca n k w0 σ x τ κ z _ hV hC (xs ((7 * j) + 1)) (xs ((7 * j) + 2))) gV_L_X7_below hdV_X7_below ⟨(Nat.le_of_ble_eq_true rfl), (Nat.le_of_ble_eq_true rfl)⟩ hK (hC.recv hK (fr_P hP)) hP hD hS hA rfl hl.1 rfl (Nat.le_of_ble_eq_true rfl) dL_law_223 ⟨(show cells + 0 ≤ 603072 by omega), (show slots + 0 ≤ 7262314 by omega)⟩ (fun z H locs hN hP hD hS => ?_)
  refine W.eq (g2 := F0 m 226 ls [.int ((oBelow σ τ n (xs ((7 * j) + 1)) (xs ((7 * j) + 2))).1)]) rfl ?_
  refine lv_aload_n hx hb dL_law_226 rfl (lv_at hl 2 rfl) ?_
  refine lv_aload_n hx hb dL_law_227 rfl (lv_at hl 4 rfl) ?_
  refine lv_iload hx hb dL_law_228 (lv_at hl 0 rfl) ?_
  refine lv_iconst (v := 1) hx hb dL_law_230 (by decide) ?_
  refine lv_iadd hx hb dL_law_231 ?_
  refine sld_n hx hb hX hbl hbA hS hL ((7 * j) + 1) (n_add (a := (7 * j)) (b := 1) rfl (rfl : (1 : Int32) = nI 1)) (by omega) dL_law_232 ?_
  refine lv_aload_n hx hb dL_law_233 rfl (lv_at hl 4 rfl) ?_
  refine lv_iload hx hb dL_law_234 (lv_at hl 0 rfl) ?_
  refine lv_iconst (v := 2) hx hb dL_law_236 (by decide) ?_
  refine lv_iadd hx hb dL_law_237 ?_
  refine sld_n hx hb hX hbl hbA hS hL ((7 * j) + 2) (n_add (a := (7 * j)) (b := 2) rfl (rfl : (2 : Int32) = nI 2)) (by omega) dL_law_238 ?_
  have hP := P_perm hP pm_m
  have hD := D_perm pm_m hD
  have hP : va_P D vwCl (([(o, .inl (G 1, 1, .inr (.inl f)))] ++ z) ++ mW G mo ad σ τ) H := hP
  have hD : va_D (fun q => s.heap.size ≤ q) (([(o, .inl (G 1, 1, .inr (.inl f)))] ++ z) ++ mW G mo ad σ τ) := hD
  refine fr_Vm (wr := [(o, .inl (G 1, 1, .inr (.inl f)))] ++ z) (u := (σ, τ)) (v := (oBelow σ τ n (xs ((7 * j) + 1)) (xs ((7 * j) + 2))).2) (mo := mo) (ad := ad) (As := [.int (xs ((7 * j) + 1)), .int (xs ((7 * j) + 2))]) (rest := [.int ((oBelow σ τ n (xs ((7 * j) + 1)) (xs ((7 * j) + 2))).1)]) ⟨hx, hb, hml, hown, hts⟩ (m_below l D G mo ad σ τ _ n hV.1.1.1 hV.1.1.2  (xs ((7 * j) + 1)) (xs ((7 * j) + 2)) hV.2.1.1) gV_L_X8_below hdV_X8_below ⟨(Nat.le_of_ble_eq_true rfl), (Nat.le_of_ble_eq_true rfl)⟩ hK hP hD hS hA rfl hl.1 rfl (Nat.le_of_ble_eq_true rfl) dL_law_239 ⟨(show cells + 0 ≤ 603072 by omega), (show slots + 0 ≤ 7262314 by omega)⟩ (fun H locs hP hD hS => ?_)
  have hP := P_perm hP pm_r
  have hD := D_perm pm_r hD
  have hP : va_P D vwCl ((mW G mo ad (oBelow σ τ n (xs ((7 * j) + 1)) (xs ((7 * j) + 2))).2.1 (oBelow σ τ n (xs ((7 * j) + 1)) (xs ((7 * j) + 2))).2.2 ++ [(o, .inl (G 1, 1, .inr (.inl f)))]) ++ z) H := hP
  have hD : va_D (fun q => s.heap.size ≤ q) ((mW G mo ad (oBelow σ τ n (xs ((7 * j) + 1)) (xs ((7 * j) + 2))).2.1 (oBelow σ τ n (xs ((7 * j) + 1)) (xs ((7 * j) + 2))).2.2 ++ [(o, .inl (G 1, 1, .inr (.inl f)))]) ++ z) := hD
  refine W.eq (g2 := F0 m 242 ls [.int ((oBelow σ τ n (xs ((7 * j) + 1)) (xs ((7 * j) + 2))).1), .int ((oBelow σ τ n (xs ((7 * j) + 1)) (xs ((7 * j) + 2))).1)]) rfl ?_
  refine lv_icmp_eq (tgt := 1019) hx hb dL_law_242 (by decide) (fun hh => ?_) (fun hh => absurd rfl hh)
  refine W.widen (k := cells + 4) (n := slots + 22) (by omega) (by omega) ?_
  exact kk (oBelow σ τ n (xs ((7 * j) + 1)) (xs ((7 * j) + 2))).2 _ _ _ ⟨f, z, hN, hP, hD, hS⟩ (lv_sub hl [0, 1, 2, 3, 4] rfl)
set_option maxHeartbeats 1600000 in
set_option maxRecDepth 100000 in
theorem lc_field {p : Program} {l : Launch} {e : Env} {s : State} {m : MethodId} {below : List Frame} {meth : Method} {c : Code} {b L : Nat} {xs : Nat → Int32} {D : va_G} {G : Nat → ClassId} {sa : Nat → Nat} {ca : Nat → Nat} {mo : Nat} {ad : Nat → Nat} {o : Nat} {Q : State → Prop} (C0 : LCx p l s m c b L xs D G sa) {j : Nat} (hj : 7 * j + 6 < L) {u : MU} {H : Heap} {locs : List Loc} {ls : Array Slot} {cells slots : Nat} (hW : LW s D G ca mo ad o u H locs) (hl : lv_has ls 8 [(4, .int (nI (7 * j))), (3, .ref o), (2, .ref mo), (1, .ref (ca 0)), (0, .ref b)]) (hc : cells + 4 ≤ 603072 ∧ slots + 22 ≤ 7262314)
    (kk : ∀ (u : MU) (H : Heap) (locs : List Loc) (ls : Array Slot), LW s D G ca mo ad o u H locs → lv_has ls 8 [(4, .int (nI (7 * j))), (3, .ref o), (2, .ref mo), (1, .ref (ca 0)), (0, .ref b)] → W p l e room_1 s m #[Value.ref b] below meth c H locs (cells + 4) (slots + 22) Q (F0 m 1019 ls [])) : W p l e room_1 s m #[Value.ref b] below meth c H locs cells slots Q (F0 m 247 ls []) := by
  obtain ⟨hx, hb, hml, hown, hts, hX, hbl, hK, hXS, hXZ, hst, hL⟩ := id C0
  have hbA : ¬ (fun q : Nat => s.heap.size ≤ q) b := Nat.not_le.mpr hbl
  have hA : ∀ q : Nat, s.heap.size ≤ q → (fun q : Nat => s.heap.size ≤ q) q := fun _ h => h
  obtain ⟨σ, τ⟩ := u
  obtain ⟨f, z, ⟨n, k, w0, κ, x, hV, hC⟩, hP, hD, hS⟩ := hW
  have hP : va_P D vwCl ((mW G mo ad σ τ ++ [(o, .inl (G 1, 1, .inr (.inl f)))]) ++ z) H := hP
  have hD : va_D (fun q => s.heap.size ≤ q) ((mW G mo ad σ τ ++ [(o, .inl (G 1, 1, .inr (.inl f)))]) ++ z) := hD
  have hV : IV σ x τ κ n k w0 := hV
  have hC : CW G ca σ x κ k z := hC
  refine lv_aload_n hx hb dL_law_247 rfl (lv_at hl 3 rfl) ?_
  refine lv_aload_n hx hb dL_law_248 rfl (lv_at hl 4 rfl) ?_
  refine lv_iload hx hb dL_law_249 (lv_at hl 0 rfl) ?_
  refine lv_iconst (v := 1) hx hb dL_law_251 (by decide) ?_
  refine lv_iadd hx hb dL_law_252 ?_
  refine sld_n hx hb hX hbl hbA hS hL ((7 * j) + 1) (n_add (a := (7 * j)) (b := 1) rfl (rfl : (1 : Int32) = nI 1)) (by omega) dL_law_253 ?_
  refine lv_aload_n hx hb dL_law_254 rfl (lv_at hl 4 rfl) ?_
  refine lv_iload hx hb dL_law_255 (lv_at hl 0 rfl) ?_
  refine lv_iconst (v := 2) hx hb dL_law_257 (by decide) ?_
  refine lv_iadd hx hb dL_law_258 ?_
  refine sld_n hx hb hX hbl hbA hS hL ((7 * j) + 2) (n_add (a := (7 * j)) (b := 2) rfl (rfl : (2 : Int32) = nI 2)) (by omega) dL_law_259 ?_
  refine lv_aload_n hx hb dL_law_260 rfl (lv_at hl 4 rfl) ?_
  refine lv_iload hx hb dL_law_261 (lv_at hl 0 rfl) ?_
  refine lv_iconst (v := 3) hx hb dL_law_263 (by decide) ?_
  refine lv_iadd hx hb dL_law_264 ?_
  refine sld_n hx hb hX hbl hbA hS hL ((7 * j) + 3) (n_add (a := (7 * j)) (b := 3) rfl (rfl : (3 : Int32) = nI 3)) (by omega) dL_law_265 ?_
  refine lv_aload_n hx hb dL_law_266 rfl (lv_at hl 4 rfl) ?_
  refine lv_iload hx hb dL_law_267 (lv_at hl 0 rfl) ?_
  refine lv_iconst (v := 4) hx hb dL_law_269 (by decide) ?_
  refine lv_iadd hx hb dL_law_270 ?_
  refine sld_n hx hb hX hbl hbA hS hL ((7 * j) + 4) (n_add (a := (7 * j)) (b := 4) rfl (rfl : (4 : Int32) = nI 4)) (by omega) dL_law_271 ?_
  refine lv_aload_n hx hb dL_law_272 rfl (lv_at hl 4 rfl) ?_
  refine lv_iload hx hb dL_law_273 (lv_at hl 0 rfl) ?_
  refine lv_iconst (v := 5) hx hb dL_law_275 (by decide) ?_
  refine lv_iadd hx hb dL_law_276 ?_
  refine sld_n hx hb hX hbl hbA hS hL ((7 * j) + 5) (n_add (a := (7 * j)) (b := 5) rfl (rfl : (5 : Int32) = nI 5)) (by omega) dL_law_277 ?_
  refine fr_Vc (wr := mW G mo ad σ τ ++ [(o, .inl (G 1, 1, .inr (.inl f)))]) (wc := z) (As := [.int (xs ((7 * j) + 1)), .int (xs ((7 * j) + 2)), .int (xs ((7 * j) + 3)), .int (xs ((7 * j) + 4)), .int (xs ((7 * j) + 5))]) (rest := []) ⟨hx, hb, hml, hown, hts⟩ (u_field l D G ca n k w0 σ x τ κ z _ hV hC (xs ((7 * j) + 1)) (xs ((7 * j) + 2)) (xs ((7 * j) + 3)) (xs ((7 * j) + 4)) (xs ((7 * j) + 5))) gV_L_X7_field hdV_X7_field ⟨(Nat.le_of_ble_eq_true rfl), (Nat.le_of_ble_eq_true rfl)⟩ hK (hC.recv hK (fr_P hP)) hP hD hS hA rfl hl.1 rfl (Nat.le_of_ble_eq_true rfl) dL_law_278 ⟨(show cells + 1 ≤ 603072 by omega), (show slots + 7 ≤ 7262314 by omega)⟩ (fun z H locs hN hP hD hS => ?_)
  refine W.eq (g2 := F0 m 281 ls [.int ((oField σ τ n k (xs ((7 * j) + 1)) (xs ((7 * j) + 2)) (xs ((7 * j) + 3)) (xs ((7 * j) + 4)) (xs ((7 * j) + 5))).1)]) rfl ?_
  refine lv_aload_n hx hb dL_law_281 rfl (lv_at hl 2 rfl) ?_
  refine lv_aload_n hx hb dL_law_282 rfl (lv_at hl 4 rfl) ?_
  refine lv_iload hx hb dL_law_283 (lv_at hl 0 rfl) ?_
  refine lv_iconst (v := 1) hx hb dL_law_285 (by decide) ?_
  refine lv_iadd hx hb dL_law_286 ?_
  refine sld_n hx hb hX hbl hbA hS hL ((7 * j) + 1) (n_add (a := (7 * j)) (b := 1) rfl (rfl : (1 : Int32) = nI 1)) (by omega) dL_law_287 ?_
  refine lv_aload_n hx hb dL_law_288 rfl (lv_at hl 4 rfl) ?_
  refine lv_iload hx hb dL_law_289 (lv_at hl 0 rfl) ?_
  refine lv_iconst (v := 2) hx hb dL_law_291 (by decide) ?_
  refine lv_iadd hx hb dL_law_292 ?_
  refine sld_n hx hb hX hbl hbA hS hL ((7 * j) + 2) (n_add (a := (7 * j)) (b := 2) rfl (rfl : (2 : Int32) = nI 2)) (by omega) dL_law_293 ?_
  refine lv_aload_n hx hb dL_law_294 rfl (lv_at hl 4 rfl) ?_
  refine lv_iload hx hb dL_law_295 (lv_at hl 0 rfl) ?_
  refine lv_iconst (v := 3) hx hb dL_law_297 (by decide) ?_
  refine lv_iadd hx hb dL_law_298 ?_
  refine sld_n hx hb hX hbl hbA hS hL ((7 * j) + 3) (n_add (a := (7 * j)) (b := 3) rfl (rfl : (3 : Int32) = nI 3)) (by omega) dL_law_299 ?_
  refine lv_aload_n hx hb dL_law_300 rfl (lv_at hl 4 rfl) ?_
  refine lv_iload hx hb dL_law_301 (lv_at hl 0 rfl) ?_
  refine lv_iconst (v := 4) hx hb dL_law_303 (by decide) ?_
  refine lv_iadd hx hb dL_law_304 ?_
  refine sld_n hx hb hX hbl hbA hS hL ((7 * j) + 4) (n_add (a := (7 * j)) (b := 4) rfl (rfl : (4 : Int32) = nI 4)) (by omega) dL_law_305 ?_
  refine lv_aload_n hx hb dL_law_306 rfl (lv_at hl 4 rfl) ?_
  refine lv_iload hx hb dL_law_307 (lv_at hl 0 rfl) ?_
  refine lv_iconst (v := 5) hx hb dL_law_309 (by decide) ?_
  refine lv_iadd hx hb dL_law_310 ?_
  refine sld_n hx hb hX hbl hbA hS hL ((7 * j) + 5) (n_add (a := (7 * j)) (b := 5) rfl (rfl : (5 : Int32) = nI 5)) (by omega) dL_law_311 ?_
  have hP := P_perm hP pm_m
  have hD := D_perm pm_m hD
  have hP : va_P D vwCl (([(o, .inl (G 1, 1, .inr (.inl f)))] ++ z) ++ mW G mo ad σ τ) H := hP
  have hD : va_D (fun q => s.heap.size ≤ q) (([(o, .inl (G 1, 1, .inr (.inl f)))] ++ z) ++ mW G mo ad σ τ) := hD
  refine fr_Vm (wr := [(o, .inl (G 1, 1, .inr (.inl f)))] ++ z) (u := (σ, τ)) (v := (oField σ τ n k (xs ((7 * j) + 1)) (xs ((7 * j) + 2)) (xs ((7 * j) + 3)) (xs ((7 * j) + 4)) (xs ((7 * j) + 5))).2) (mo := mo) (ad := ad) (As := [.int (xs ((7 * j) + 1)), .int (xs ((7 * j) + 2)), .int (xs ((7 * j) + 3)), .int (xs ((7 * j) + 4)), .int (xs ((7 * j) + 5))]) (rest := [.int ((oField σ τ n k (xs ((7 * j) + 1)) (xs ((7 * j) + 2)) (xs ((7 * j) + 3)) (xs ((7 * j) + 4)) (xs ((7 * j) + 5))).1)]) ⟨hx, hb, hml, hown, hts⟩ (m_field l D G mo ad σ τ _ n hV.1.1.1 hV.1.1.2 k hV.1.2.1.1 hV.1.2.1.2  (xs ((7 * j) + 1)) (xs ((7 * j) + 2)) (xs ((7 * j) + 3)) (xs ((7 * j) + 4)) (xs ((7 * j) + 5)) ) gV_L_X8_field hdV_X8_field ⟨(Nat.le_of_ble_eq_true rfl), (Nat.le_of_ble_eq_true rfl)⟩ hK hP hD hS hA rfl hl.1 rfl (Nat.le_of_ble_eq_true rfl) dL_law_312 ⟨(show cells + 1 ≤ 603072 by omega), (show slots + 7 ≤ 7262314 by omega)⟩ (fun H locs hP hD hS => ?_)
  have hP := P_perm hP pm_r
  have hD := D_perm pm_r hD
  have hP : va_P D vwCl ((mW G mo ad (oField σ τ n k (xs ((7 * j) + 1)) (xs ((7 * j) + 2)) (xs ((7 * j) + 3)) (xs ((7 * j) + 4)) (xs ((7 * j) + 5))).2.1 (oField σ τ n k (xs ((7 * j) + 1)) (xs ((7 * j) + 2)) (xs ((7 * j) + 3)) (xs ((7 * j) + 4)) (xs ((7 * j) + 5))).2.2 ++ [(o, .inl (G 1, 1, .inr (.inl f)))]) ++ z) H := hP
  have hD : va_D (fun q => s.heap.size ≤ q) ((mW G mo ad (oField σ τ n k (xs ((7 * j) + 1)) (xs ((7 * j) + 2)) (xs ((7 * j) + 3)) (xs ((7 * j) + 4)) (xs ((7 * j) + 5))).2.1 (oField σ τ n k (xs ((7 * j) + 1)) (xs ((7 * j) + 2)) (xs ((7 * j) + 3)) (xs ((7 * j) + 4)) (xs ((7 * j) + 5))).2.2 ++ [(o, .inl (G 1, 1, .inr (.inl f)))]) ++ z) := hD
  refine W.eq (g2 := F0 m 315 ls [.int ((oField σ τ n k (xs ((7 * j) + 1)) (xs ((7 * j) + 2)) (xs ((7 * j) + 3)) (xs ((7 * j) + 4)) (xs ((7 * j) + 5))).1), .int ((oField σ τ n k (xs ((7 * j) + 1)) (xs ((7 * j) + 2)) (xs ((7 * j) + 3)) (xs ((7 * j) + 4)) (xs ((7 * j) + 5))).1)]) rfl ?_
  refine lv_icmp_eq (tgt := 1019) hx hb dL_law_315 (by decide) (fun hh => ?_) (fun hh => absurd rfl hh)
  refine W.widen (k := cells + 4) (n := slots + 22) (by omega) (by omega) ?_
  exact kk (oField σ τ n k (xs ((7 * j) + 1)) (xs ((7 * j) + 2)) (xs ((7 * j) + 3)) (xs ((7 * j) + 4)) (xs ((7 * j) + 5))).2 _ _ _ ⟨f, z, hN, hP, hD, hS⟩ (lv_sub hl [0, 1, 2, 3, 4] rfl)
set_option maxHeartbeats 1600000 in
set_option maxRecDepth 100000 in
theorem lc_constant {p : Program} {l : Launch} {e : Env} {s : State} {m : MethodId} {below : List Frame} {meth : Method} {c : Code} {b L : Nat} {xs : Nat → Int32} {D : va_G} {G : Nat → ClassId} {sa : Nat → Nat} {ca : Nat → Nat} {mo : Nat} {ad : Nat → Nat} {o : Nat} {Q : State → Prop} (C0 : LCx p l s m c b L xs D G sa) {j : Nat} (hj : 7 * j + 6 < L) {u : MU} {H : Heap} {locs : List Loc} {ls : Array Slot} {cells slots : Nat} (hW : LW s D G ca mo ad o u H locs) (hl : lv_has ls 8 [(4, .int (nI (7 * j))), (3, .ref o), (2, .ref mo), (1, .ref (ca 0)), (0, .ref b)]) (hc : cells + 4 ≤ 603072 ∧ slots + 22 ≤ 7262314)
    (kk : ∀ (u : MU) (H : Heap) (locs : List Loc) (ls : Array Slot), LW s D G ca mo ad o u H locs → lv_has ls 8 [(4, .int (nI (7 * j))), (3, .ref o), (2, .ref mo), (1, .ref (ca 0)), (0, .ref b)] → W p l e room_1 s m #[Value.ref b] below meth c H locs (cells + 4) (slots + 22) Q (F0 m 1019 ls [])) : W p l e room_1 s m #[Value.ref b] below meth c H locs cells slots Q (F0 m 320 ls []) := by
  obtain ⟨hx, hb, hml, hown, hts, hX, hbl, hK, hXS, hXZ, hst, hL⟩ := id C0
  have hbA : ¬ (fun q : Nat => s.heap.size ≤ q) b := Nat.not_le.mpr hbl
  have hA : ∀ q : Nat, s.heap.size ≤ q → (fun q : Nat => s.heap.size ≤ q) q := fun _ h => h
  obtain ⟨σ, τ⟩ := u
  obtain ⟨f, z, ⟨n, k, w0, κ, x, hV, hC⟩, hP, hD, hS⟩ := hW
  have hP : va_P D vwCl ((mW G mo ad σ τ ++ [(o, .inl (G 1, 1, .inr (.inl f)))]) ++ z) H := hP
  have hD : va_D (fun q => s.heap.size ≤ q) ((mW G mo ad σ τ ++ [(o, .inl (G 1, 1, .inr (.inl f)))]) ++ z) := hD
  have hV : IV σ x τ κ n k w0 := hV
  have hC : CW G ca σ x κ k z := hC
  refine lv_aload_n hx hb dL_law_320 rfl (lv_at hl 3 rfl) ?_
  refine lv_aload_n hx hb dL_law_321 rfl (lv_at hl 4 rfl) ?_
  refine lv_iload hx hb dL_law_322 (lv_at hl 0 rfl) ?_
  refine lv_iconst (v := 1) hx hb dL_law_324 (by decide) ?_
  refine lv_iadd hx hb dL_law_325 ?_
  refine sld_n hx hb hX hbl hbA hS hL ((7 * j) + 1) (n_add (a := (7 * j)) (b := 1) rfl (rfl : (1 : Int32) = nI 1)) (by omega) dL_law_326 ?_
  refine lv_aload_n hx hb dL_law_327 rfl (lv_at hl 4 rfl) ?_
  refine lv_iload hx hb dL_law_328 (lv_at hl 0 rfl) ?_
  refine lv_iconst (v := 2) hx hb dL_law_330 (by decide) ?_
  refine lv_iadd hx hb dL_law_331 ?_
  refine sld_n hx hb hX hbl hbA hS hL ((7 * j) + 2) (n_add (a := (7 * j)) (b := 2) rfl (rfl : (2 : Int32) = nI 2)) (by omega) dL_law_332 ?_
  refine lv_i2l hx hb dL_law_333 rfl ?_
  refine lv_bipush (v := 32) hx hb dL_law_334 (by decide) ?_
  refine lv_lshl hx hb dL_law_336 rfl ?_
  refine lv_aload_n hx hb dL_law_337 rfl (lv_at hl 4 rfl) ?_
  refine lv_iload hx hb dL_law_338 (lv_at hl 0 rfl) ?_
  refine lv_iconst (v := 3) hx hb dL_law_340 (by decide) ?_
  refine lv_iadd hx hb dL_law_341 ?_
  refine sld_n hx hb hX hbl hbA hS hL ((7 * j) + 3) (n_add (a := (7 * j)) (b := 3) rfl (rfl : (3 : Int32) = nI 3)) (by omega) dL_law_342 ?_
  refine lv_i2l hx hb dL_law_343 rfl ?_
  refine lv_ldc2 hx hb hown (hts _ q_1008) dL_law_344 ?_
  refine lv_land hx hb dL_law_347 ?_
  refine lv_lor hx hb dL_law_348 ?_
  refine fr_Vc (wr := mW G mo ad σ τ ++ [(o, .inl (G 1, 1, .inr (.inl f)))]) (wc := z) (As := [.int (xs ((7 * j) + 1)), .long ((((xs ((7 * j) + 2)).toInt64) <<< ((32).toInt64 &&& 63)) ||| (((xs ((7 * j) + 3)).toInt64) &&& 4294967295))]) (rest := []) ⟨hx, hb, hml, hown, hts⟩ (u_constant l D G ca n k w0 σ x τ κ z _ hV hC (xs ((7 * j) + 1)) ((((xs ((7 * j) + 2)).toInt64) <<< ((32).toInt64 &&& 63)) ||| (((xs ((7 * j) + 3)).toInt64) &&& 4294967295))) gV_L_X7_constant hdV_X7_constant ⟨(Nat.le_of_ble_eq_true rfl), (Nat.le_of_ble_eq_true rfl)⟩ hK (hC.recv hK (fr_P hP)) hP hD hS hA rfl hl.1 rfl (Nat.le_of_ble_eq_true rfl) dL_law_349 ⟨(show cells + 0 ≤ 603072 by omega), (show slots + 0 ≤ 7262314 by omega)⟩ (fun z H locs hN hP hD hS => ?_)
  refine W.eq (g2 := F0 m 352 ls [.int ((oConst σ τ k (xs ((7 * j) + 1)) ((((xs ((7 * j) + 2)).toInt64) <<< ((32).toInt64 &&& 63)) ||| (((xs ((7 * j) + 3)).toInt64) &&& 4294967295))).1)]) rfl ?_
  refine lv_aload_n hx hb dL_law_352 rfl (lv_at hl 2 rfl) ?_
  refine lv_aload_n hx hb dL_law_353 rfl (lv_at hl 4 rfl) ?_
  refine lv_iload hx hb dL_law_354 (lv_at hl 0 rfl) ?_
  refine lv_iconst (v := 1) hx hb dL_law_356 (by decide) ?_
  refine lv_iadd hx hb dL_law_357 ?_
  refine sld_n hx hb hX hbl hbA hS hL ((7 * j) + 1) (n_add (a := (7 * j)) (b := 1) rfl (rfl : (1 : Int32) = nI 1)) (by omega) dL_law_358 ?_
  refine lv_aload_n hx hb dL_law_359 rfl (lv_at hl 4 rfl) ?_
  refine lv_iload hx hb dL_law_360 (lv_at hl 0 rfl) ?_
  refine lv_iconst (v := 2) hx hb dL_law_362 (by decide) ?_
  refine lv_iadd hx hb dL_law_363 ?_
  refine sld_n hx hb hX hbl hbA hS hL ((7 * j) + 2) (n_add (a := (7 * j)) (b := 2) rfl (rfl : (2 : Int32) = nI 2)) (by omega) dL_law_364 ?_
  refine lv_i2l hx hb dL_law_365 rfl ?_
  refine lv_bipush (v := 32) hx hb dL_law_366 (by decide) ?_
  refine lv_lshl hx hb dL_law_368 rfl ?_
  refine lv_aload_n hx hb dL_law_369 rfl (lv_at hl 4 rfl) ?_
  refine lv_iload hx hb dL_law_370 (lv_at hl 0 rfl) ?_
  refine lv_iconst (v := 3) hx hb dL_law_372 (by decide) ?_
  refine lv_iadd hx hb dL_law_373 ?_
  refine sld_n hx hb hX hbl hbA hS hL ((7 * j) + 3) (n_add (a := (7 * j)) (b := 3) rfl (rfl : (3 : Int32) = nI 3)) (by omega) dL_law_374 ?_
  refine lv_i2l hx hb dL_law_375 rfl ?_
  refine lv_ldc2 hx hb hown (hts _ q_1008) dL_law_376 ?_
  refine lv_land hx hb dL_law_379 ?_
  refine lv_lor hx hb dL_law_380 ?_
  have hP := P_perm hP pm_m
  have hD := D_perm pm_m hD
  have hP : va_P D vwCl (([(o, .inl (G 1, 1, .inr (.inl f)))] ++ z) ++ mW G mo ad σ τ) H := hP
  have hD : va_D (fun q => s.heap.size ≤ q) (([(o, .inl (G 1, 1, .inr (.inl f)))] ++ z) ++ mW G mo ad σ τ) := hD
  refine fr_Vm (wr := [(o, .inl (G 1, 1, .inr (.inl f)))] ++ z) (u := (σ, τ)) (v := (oConst σ τ k (xs ((7 * j) + 1)) ((((xs ((7 * j) + 2)).toInt64) <<< ((32).toInt64 &&& 63)) ||| (((xs ((7 * j) + 3)).toInt64) &&& 4294967295))).2) (mo := mo) (ad := ad) (As := [.int (xs ((7 * j) + 1)), .long ((((xs ((7 * j) + 2)).toInt64) <<< ((32).toInt64 &&& 63)) ||| (((xs ((7 * j) + 3)).toInt64) &&& 4294967295))]) (rest := [.int ((oConst σ τ k (xs ((7 * j) + 1)) ((((xs ((7 * j) + 2)).toInt64) <<< ((32).toInt64 &&& 63)) ||| (((xs ((7 * j) + 3)).toInt64) &&& 4294967295))).1)]) ⟨hx, hb, hml, hown, hts⟩ (m_constant l D G mo ad σ τ _ k hV.1.2.1.1 hV.1.2.1.2  (xs ((7 * j) + 1)) ((((xs ((7 * j) + 2)).toInt64) <<< ((32).toInt64 &&& 63)) ||| (((xs ((7 * j) + 3)).toInt64) &&& 4294967295)) ) gV_L_X8_constant hdV_X8_constant ⟨(Nat.le_of_ble_eq_true rfl), (Nat.le_of_ble_eq_true rfl)⟩ hK hP hD hS hA rfl hl.1 rfl (Nat.le_of_ble_eq_true rfl) dL_law_381 ⟨(show cells + 0 ≤ 603072 by omega), (show slots + 0 ≤ 7262314 by omega)⟩ (fun H locs hP hD hS => ?_)
  have hP := P_perm hP pm_r
  have hD := D_perm pm_r hD
  have hP : va_P D vwCl ((mW G mo ad (oConst σ τ k (xs ((7 * j) + 1)) ((((xs ((7 * j) + 2)).toInt64) <<< ((32).toInt64 &&& 63)) ||| (((xs ((7 * j) + 3)).toInt64) &&& 4294967295))).2.1 (oConst σ τ k (xs ((7 * j) + 1)) ((((xs ((7 * j) + 2)).toInt64) <<< ((32).toInt64 &&& 63)) ||| (((xs ((7 * j) + 3)).toInt64) &&& 4294967295))).2.2 ++ [(o, .inl (G 1, 1, .inr (.inl f)))]) ++ z) H := hP
  have hD : va_D (fun q => s.heap.size ≤ q) ((mW G mo ad (oConst σ τ k (xs ((7 * j) + 1)) ((((xs ((7 * j) + 2)).toInt64) <<< ((32).toInt64 &&& 63)) ||| (((xs ((7 * j) + 3)).toInt64) &&& 4294967295))).2.1 (oConst σ τ k (xs ((7 * j) + 1)) ((((xs ((7 * j) + 2)).toInt64) <<< ((32).toInt64 &&& 63)) ||| (((xs ((7 * j) + 3)).toInt64) &&& 4294967295))).2.2 ++ [(o, .inl (G 1, 1, .inr (.inl f)))]) ++ z) := hD
  refine W.eq (g2 := F0 m 384 ls [.int ((oConst σ τ k (xs ((7 * j) + 1)) ((((xs ((7 * j) + 2)).toInt64) <<< ((32).toInt64 &&& 63)) ||| (((xs ((7 * j) + 3)).toInt64) &&& 4294967295))).1), .int ((oConst σ τ k (xs ((7 * j) + 1)) ((((xs ((7 * j) + 2)).toInt64) <<< ((32).toInt64 &&& 63)) ||| (((xs ((7 * j) + 3)).toInt64) &&& 4294967295))).1)]) rfl ?_
  refine lv_icmp_eq (tgt := 1019) hx hb dL_law_384 (by decide) (fun hh => ?_) (fun hh => absurd rfl hh)
  refine W.widen (k := cells + 4) (n := slots + 22) (by omega) (by omega) ?_
  exact kk (oConst σ τ k (xs ((7 * j) + 1)) ((((xs ((7 * j) + 2)).toInt64) <<< ((32).toInt64 &&& 63)) ||| (((xs ((7 * j) + 3)).toInt64) &&& 4294967295))).2 _ _ _ ⟨f, z, hN, hP, hD, hS⟩ (lv_sub hl [0, 1, 2, 3, 4] rfl)
set_option maxHeartbeats 1600000 in
set_option maxRecDepth 100000 in
theorem lc_value {p : Program} {l : Launch} {e : Env} {s : State} {m : MethodId} {below : List Frame} {meth : Method} {c : Code} {b L : Nat} {xs : Nat → Int32} {D : va_G} {G : Nat → ClassId} {sa : Nat → Nat} {ca : Nat → Nat} {mo : Nat} {ad : Nat → Nat} {o : Nat} {Q : State → Prop} (C0 : LCx p l s m c b L xs D G sa) {j : Nat} (hj : 7 * j + 6 < L) {u : MU} {H : Heap} {locs : List Loc} {ls : Array Slot} {cells slots : Nat} (hW : LW s D G ca mo ad o u H locs) (hl : lv_has ls 8 [(4, .int (nI (7 * j))), (3, .ref o), (2, .ref mo), (1, .ref (ca 0)), (0, .ref b)]) (hc : cells + 4 ≤ 603072 ∧ slots + 22 ≤ 7262314)
    (kk : ∀ (u : MU) (H : Heap) (locs : List Loc) (ls : Array Slot), LW s D G ca mo ad o u H locs → lv_has ls 8 [(4, .int (nI (7 * j))), (3, .ref o), (2, .ref mo), (1, .ref (ca 0)), (0, .ref b)] → W p l e room_1 s m #[Value.ref b] below meth c H locs (cells + 4) (slots + 22) Q (F0 m 1019 ls [])) : W p l e room_1 s m #[Value.ref b] below meth c H locs cells slots Q (F0 m 389 ls []) := by
  obtain ⟨hx, hb, hml, hown, hts, hX, hbl, hK, hXS, hXZ, hst, hL⟩ := id C0
  have hbA : ¬ (fun q : Nat => s.heap.size ≤ q) b := Nat.not_le.mpr hbl
  have hA : ∀ q : Nat, s.heap.size ≤ q → (fun q : Nat => s.heap.size ≤ q) q := fun _ h => h
  obtain ⟨σ, τ⟩ := u
  obtain ⟨f, z, ⟨n, k, w0, κ, x, hV, hC⟩, hP, hD, hS⟩ := hW
  have hP : va_P D vwCl ((mW G mo ad σ τ ++ [(o, .inl (G 1, 1, .inr (.inl f)))]) ++ z) H := hP
  have hD : va_D (fun q => s.heap.size ≤ q) ((mW G mo ad σ τ ++ [(o, .inl (G 1, 1, .inr (.inl f)))]) ++ z) := hD
  have hV : IV σ x τ κ n k w0 := hV
  have hC : CW G ca σ x κ k z := hC
  refine lv_aload_n hx hb dL_law_389 rfl (lv_at hl 3 rfl) ?_
  refine lv_aload_n hx hb dL_law_390 rfl (lv_at hl 4 rfl) ?_
  refine lv_iload hx hb dL_law_391 (lv_at hl 0 rfl) ?_
  refine lv_iconst (v := 1) hx hb dL_law_393 (by decide) ?_
  refine lv_iadd hx hb dL_law_394 ?_
  refine sld_n hx hb hX hbl hbA hS hL ((7 * j) + 1) (n_add (a := (7 * j)) (b := 1) rfl (rfl : (1 : Int32) = nI 1)) (by omega) dL_law_395 ?_
  refine lv_aload_n hx hb dL_law_396 rfl (lv_at hl 1 rfl) ?_
  have hXZ1 : XZ F0' s H := (hXZ.kept (fun a ha hA9 => hS.2.1 a ha hA9)).narrow (fun q h => h.elim)
  have hP := P_perm hP pm_o
  have hD := D_perm pm_o hD
  have hP : va_P D vwCl ((mW G mo ad σ τ ++ z) ++ [(o, .inl (G 1, 1, .inr (.inl f)))]) H := hP
  have hD : va_D (fun q => s.heap.size ≤ q) ((mW G mo ad σ τ ++ z) ++ [(o, .inl (G 1, 1, .inr (.inl f)))]) := hD
  refine fr_H (wr := mW G mo ad σ τ ++ z) (f := f) (n := 3) (As := [.ref ((ca 0)), .int (xs ((7 * j) + 1)), .ref o]) (rest := []) ⟨hx, hb, hml, hown, hts⟩ (?hM : vx_Met l yL_value (.codeWith yL_value cL_value 4 (some .int) [(0, 8, 11, 13), (0, 8, 14, 15)] :: TT) (rmC 9 1 6) _ (va_Qi (fun r (f' : Nat → Int64) => r = (oValue σ τ k (xs ((7 * j) + 1))).2.1 0 0 ∧ ((oValue σ τ k (xs ((7 * j) + 1))).2.1 0 0 = 0 → f' 0 = (oValue σ τ k (xs ((7 * j) + 1))).1)) _ _) _ 1 6 _) (tt_S q_548 q_549 q_0 q_550) (by decide +kernel) ⟨(Nat.le_of_ble_eq_true rfl), (Nat.le_of_ble_eq_true rfl)⟩ hK hXS hXZ1 hP hD hS hA rfl hl.1 rfl (Nat.le_of_ble_eq_true rfl) dL_law_397 ⟨(show cells + 1 ≤ 603072 by omega), (show slots + 6 ≤ 7262314 by omega)⟩ (fun r f H locs hp hP hD hS => ?_)
  case hM =>
    obtain ⟨ea, ba, bg, pool, hE, hJ, rfl, hb9⟩ := id hC
    exact c_lvalue l D G H ca bg ea n k w0 σ x κ (cF_of (fr_P (fr_Pl hP))) (plE_P (fr_P (fr_Pl hP)) hE) hV.cI hst sa (xs ((7 * j) + 1)) τ hV.2.2.2.2.1 o f (fr_P hP)
  obtain ⟨rfl, hpv⟩ := hp
  have hP := P_perm hP pm_o
  have hD := D_perm pm_o hD
  have hP : va_P D vwCl ((mW G mo ad σ τ ++ [(o, .inl (G 1, 1, .inr (.inl f)))]) ++ z) H := hP
  have hD : va_D (fun q => s.heap.size ≤ q) ((mW G mo ad σ τ ++ [(o, .inl (G 1, 1, .inr (.inl f)))]) ++ z) := hD
  refine W.eq (g2 := F0 m 400 ls [.int ((oValue σ τ k (xs ((7 * j) + 1))).2.1 0 0)]) rfl ?_
  have hN := nx_val hV hC (xs ((7 * j) + 1))
  refine lv_istore (lv' := [(5, .int ((oValue σ τ k (xs ((7 * j) + 1))).2.1 0 0)), (4, .int (nI (7 * j))), (3, .ref o), (2, .ref mo), (1, .ref ((ca 0))), (0, .ref b)]) hx hb dL_law_400 hl (by decide) rfl (fun ls hl => ?_)
  refine lv_aload_n hx hb dL_law_402 rfl (lv_at hl 3 rfl) ?_
  refine lv_aload_n hx hb dL_law_403 rfl (lv_at hl 5 rfl) ?_
  refine lv_iload hx hb dL_law_404 (lv_at hl 1 rfl) ?_
  refine lv_iconst (v := 1) hx hb dL_law_406 (by decide) ?_
  refine lv_iadd hx hb dL_law_407 ?_
  refine sld_n hx hb hX hbl hbA hS hL ((7 * j) + 1) (n_add (a := (7 * j)) (b := 1) rfl (rfl : (1 : Int32) = nI 1)) (by omega) dL_law_408 ?_
  have hP := P_perm hP pm_m
  have hD := D_perm pm_m hD
  have hP : va_P D vwCl (([(o, .inl (G 1, 1, .inr (.inl f)))] ++ z) ++ mW G mo ad σ τ) H := hP
  have hD : va_D (fun q => s.heap.size ≤ q) (([(o, .inl (G 1, 1, .inr (.inl f)))] ++ z) ++ mW G mo ad σ τ) := hD
  refine fr_Vml (wr := [(o, .inl (G 1, 1, .inr (.inl f)))] ++ z) (u := (σ, τ)) (v := (oValue σ τ k (xs ((7 * j) + 1))).2) (mo := mo) (ad := ad) (As := [.int (xs ((7 * j) + 1))]) (rest := []) ⟨hx, hb, hml, hown, hts⟩ (m_value l D G mo ad σ τ _ k hV.1.2.1.1 hV.1.2.1.2  (xs ((7 * j) + 1)) ) gV_L_X8_value hdV_X8_value ⟨(Nat.le_of_ble_eq_true rfl), (Nat.le_of_ble_eq_true rfl)⟩ hK hP hD hS hA rfl hl.1 rfl (Nat.le_of_ble_eq_true rfl) dL_law_409 ⟨(show cells + 1 ≤ 603072 by omega), (show slots + 6 ≤ 7262314 by omega)⟩ (fun H locs hP hD hS => ?_)
  have hP := P_perm hP pm_r
  have hD := D_perm pm_r hD
  have hP : va_P D vwCl ((mW G mo ad (oValue σ τ k (xs ((7 * j) + 1))).2.1 (oValue σ τ k (xs ((7 * j) + 1))).2.2 ++ [(o, .inl (G 1, 1, .inr (.inl f)))]) ++ z) H := hP
  have hD : va_D (fun q => s.heap.size ≤ q) ((mW G mo ad (oValue σ τ k (xs ((7 * j) + 1))).2.1 (oValue σ τ k (xs ((7 * j) + 1))).2.2 ++ [(o, .inl (G 1, 1, .inr (.inl f)))]) ++ z) := hD
  refine W.eq (g2 := F0 m 412 ls [.long ((oValue σ τ k (xs ((7 * j) + 1))).1)]) rfl ?_
  refine lv_lstore (lv' := [(6, .long ((oValue σ τ k (xs ((7 * j) + 1))).1)), (5, .int ((oValue σ τ k (xs ((7 * j) + 1))).2.1 0 0)), (4, .int (nI (7 * j))), (3, .ref o), (2, .ref mo), (1, .ref ((ca 0))), (0, .ref b)]) hx hb dL_law_412 hl (by decide) rfl (fun ls hl => ?_)
  refine lv_aload_n hx hb dL_law_414 rfl (lv_at hl 4 rfl) ?_
  refine ro_Vi (D := D) (G := G) (As := []) (rest := []) ⟨hx, hb, hml, hown, hts⟩ (m_thrown l D G H mo ad _ _ (fr_Pl (fr_Pl hP))) gV_L_X8_thrown hdV_X8_thrown ⟨(Nat.le_of_ble_eq_true rfl), (Nat.le_of_ble_eq_true rfl)⟩ hK (va_recv hK.1 hP (ci := 8) (q0 := 0) rfl rfl) rfl hl.1 rfl (Nat.le_of_ble_eq_true rfl) dL_law_415 ⟨(show cells + 1 ≤ 603072 by omega), (show slots + 6 ≤ 7262314 by omega)⟩ (fun r1 e_r1 => ?_)
  subst e_r1
  refine W.eq (g2 := F0 m 418 ls [.int ((oValue σ τ k (xs ((7 * j) + 1))).2.1 0 0)]) rfl ?_
  refine lv_iload hx hb dL_law_418 (lv_at hl 1 rfl) ?_
  refine lv_icmp_eq (tgt := 425) hx hb dL_law_420 (by decide) (fun hh => ?_) (fun hh => absurd rfl hh)
  refine lv_iload hx hb dL_law_425 (lv_at hl 1 rfl) ?_
  refine lv_if_ne (tgt := 441) hx hb dL_law_427 (by decide) (fun c2 => ?_) (fun c2 => ?_)
  · -- 427 taken
    refine lv_goto (tgt := 1019) hx hb dL_law_441 (by decide) ?_
    refine W.widen (k := cells + 4) (n := slots + 22) (by omega) (by omega) ?_
    exact kk (oValue σ τ k (xs ((7 * j) + 1))).2 _ _ _ ⟨f, z, hN, hP, hD, hS⟩ (lv_sub hl [2, 3, 4, 5, 6] rfl)
  · -- 427 not
    refine lv_aload_n hx hb dL_law_430 rfl (lv_at hl 3 rfl) ?_
    refine lv_iconst (v := 0) hx hb dL_law_431 (by decide) ?_
    refine lald_n (f := f) hx hb hK.1 hP 27 1 rfl rfl (0) rfl (by decide) (by decide) dL_law_432 ?_
    refine lv_lload hx hb dL_law_433 (lv_at hl 0 rfl) ?_
    refine W.lcmp hx hb dL_law_435 ?_
    refine lv_if_eq (tgt := 441) hx hb dL_law_436 (by decide) (fun hh => ?_) (fun hh => absurd ((lg_cmp_eq _ _).mpr (hpv c2)) hh)
    refine lv_goto (tgt := 1019) hx hb dL_law_441 (by decide) ?_
    refine W.widen (k := cells + 4) (n := slots + 22) (by omega) (by omega) ?_
    exact kk (oValue σ τ k (xs ((7 * j) + 1))).2 _ _ _ ⟨f, z, hN, hP, hD, hS⟩ (lv_sub hl [2, 3, 4, 5, 6] rfl)
set_option maxHeartbeats 1600000 in
set_option maxRecDepth 100000 in
theorem lc_member {p : Program} {l : Launch} {e : Env} {s : State} {m : MethodId} {below : List Frame} {meth : Method} {c : Code} {b L : Nat} {xs : Nat → Int32} {D : va_G} {G : Nat → ClassId} {sa : Nat → Nat} {ca : Nat → Nat} {mo : Nat} {ad : Nat → Nat} {o : Nat} {Q : State → Prop} (C0 : LCx p l s m c b L xs D G sa) {j : Nat} (hj : 7 * j + 6 < L) {u : MU} {H : Heap} {locs : List Loc} {ls : Array Slot} {cells slots : Nat} (hW : LW s D G ca mo ad o u H locs) (hl : lv_has ls 8 [(4, .int (nI (7 * j))), (3, .ref o), (2, .ref mo), (1, .ref (ca 0)), (0, .ref b)]) (hc : cells + 4 ≤ 603072 ∧ slots + 22 ≤ 7262314)
    (kk : ∀ (u : MU) (H : Heap) (locs : List Loc) (ls : Array Slot), LW s D G ca mo ad o u H locs → lv_has ls 8 [(4, .int (nI (7 * j))), (3, .ref o), (2, .ref mo), (1, .ref (ca 0)), (0, .ref b)] → W p l e room_1 s m #[Value.ref b] below meth c H locs (cells + 4) (slots + 22) Q (F0 m 1019 ls [])) : W p l e room_1 s m #[Value.ref b] below meth c H locs cells slots Q (F0 m 444 ls []) := by
  obtain ⟨hx, hb, hml, hown, hts, hX, hbl, hK, hXS, hXZ, hst, hL⟩ := id C0
  have hbA : ¬ (fun q : Nat => s.heap.size ≤ q) b := Nat.not_le.mpr hbl
  have hA : ∀ q : Nat, s.heap.size ≤ q → (fun q : Nat => s.heap.size ≤ q) q := fun _ h => h
  obtain ⟨σ, τ⟩ := u
  obtain ⟨f, z, ⟨n, k, w0, κ, x, hV, hC⟩, hP, hD, hS⟩ := hW
  have hP : va_P D vwCl ((mW G mo ad σ τ ++ [(o, .inl (G 1, 1, .inr (.inl f)))]) ++ z) H := hP
  have hD : va_D (fun q => s.heap.size ≤ q) ((mW G mo ad σ τ ++ [(o, .inl (G 1, 1, .inr (.inl f)))]) ++ z) := hD
  have hV : IV σ x τ κ n k w0 := hV
  have hC : CW G ca σ x κ k z := hC
  refine lv_aload_n hx hb dL_law_444 rfl (lv_at hl 3 rfl) ?_
  refine lv_aload_n hx hb dL_law_445 rfl (lv_at hl 4 rfl) ?_
  refine lv_iload hx hb dL_law_446 (lv_at hl 0 rfl) ?_
  refine lv_iconst (v := 1) hx hb dL_law_448 (by decide) ?_
  refine lv_iadd hx hb dL_law_449 ?_
  refine sld_n hx hb hX hbl hbA hS hL ((7 * j) + 1) (n_add (a := (7 * j)) (b := 1) rfl (rfl : (1 : Int32) = nI 1)) (by omega) dL_law_450 ?_
  refine lv_aload_n hx hb dL_law_451 rfl (lv_at hl 4 rfl) ?_
  refine lv_iload hx hb dL_law_452 (lv_at hl 0 rfl) ?_
  refine lv_iconst (v := 2) hx hb dL_law_454 (by decide) ?_
  refine lv_iadd hx hb dL_law_455 ?_
  refine sld_n hx hb hX hbl hbA hS hL ((7 * j) + 2) (n_add (a := (7 * j)) (b := 2) rfl (rfl : (2 : Int32) = nI 2)) (by omega) dL_law_456 ?_
  refine lv_aload_n hx hb dL_law_457 rfl (lv_at hl 4 rfl) ?_
  refine lv_iload hx hb dL_law_458 (lv_at hl 0 rfl) ?_
  refine lv_iconst (v := 3) hx hb dL_law_460 (by decide) ?_
  refine lv_iadd hx hb dL_law_461 ?_
  refine sld_n hx hb hX hbl hbA hS hL ((7 * j) + 3) (n_add (a := (7 * j)) (b := 3) rfl (rfl : (3 : Int32) = nI 3)) (by omega) dL_law_462 ?_
  refine lv_aload_n hx hb dL_law_463 rfl (lv_at hl 4 rfl) ?_
  refine lv_iload hx hb dL_law_464 (lv_at hl 0 rfl) ?_
  refine lv_iconst (v := 4) hx hb dL_law_466 (by decide) ?_
  refine lv_iadd hx hb dL_law_467 ?_
  refine sld_n hx hb hX hbl hbA hS hL ((7 * j) + 4) (n_add (a := (7 * j)) (b := 4) rfl (rfl : (4 : Int32) = nI 4)) (by omega) dL_law_468 ?_
  refine lv_aload_n hx hb dL_law_469 rfl (lv_at hl 4 rfl) ?_
  refine lv_iload hx hb dL_law_470 (lv_at hl 0 rfl) ?_
  refine lv_iconst (v := 5) hx hb dL_law_472 (by decide) ?_
  refine lv_iadd hx hb dL_law_473 ?_
  refine sld_n hx hb hX hbl hbA hS hL ((7 * j) + 5) (n_add (a := (7 * j)) (b := 5) rfl (rfl : (5 : Int32) = nI 5)) (by omega) dL_law_474 ?_
  refine lv_aload_n hx hb dL_law_475 rfl (lv_at hl 4 rfl) ?_
  refine lv_iload hx hb dL_law_476 (lv_at hl 0 rfl) ?_
  refine lv_bipush (v := 6) hx hb dL_law_478 (by decide) ?_
  refine lv_iadd hx hb dL_law_480 ?_
  refine sld_n hx hb hX hbl hbA hS hL ((7 * j) + 6) (n_add (a := (7 * j)) (b := 6) rfl (rfl : (6 : Int32) = nI 6)) (by omega) dL_law_481 ?_
  refine lv_if_eq (tgt := 489) hx hb dL_law_482 (by decide) (fun c1 => ?_) (fun c1 => ?_)
  · -- 482 taken
    refine lv_iconst (v := 0) hx hb dL_law_489 (by decide) ?_
    refine fr_Vc (wr := mW G mo ad σ τ ++ [(o, .inl (G 1, 1, .inr (.inl f)))]) (wc := z) (As := [.int (xs ((7 * j) + 1)), .int (xs ((7 * j) + 2)), .int (xs ((7 * j) + 3)), .int (xs ((7 * j) + 4)), .int (xs ((7 * j) + 5)), .int 0]) (rest := []) ⟨hx, hb, hml, hown, hts⟩ (u_member l D G ca n k w0 σ x τ κ z _ hV hC (xs ((7 * j) + 1)) (xs ((7 * j) + 2)) (xs ((7 * j) + 3)) (xs ((7 * j) + 4)) (xs ((7 * j) + 5)) 0 (Or.inl rfl)) gV_L_X7_member hdV_X7_member ⟨(Nat.le_of_ble_eq_true rfl), (Nat.le_of_ble_eq_true rfl)⟩ hK (hC.recv hK (fr_P hP)) hP hD hS hA rfl hl.1 rfl (Nat.le_of_ble_eq_true rfl) dL_law_490 ⟨(show cells + 4 ≤ 603072 by omega), (show slots + 22 ≤ 7262314 by omega)⟩ (fun z H locs hN hP hD hS => ?_)
    refine W.eq (g2 := F0 m 493 ls [.int ((oMember σ τ n k (xs ((7 * j) + 1)) (xs ((7 * j) + 2)) (xs ((7 * j) + 3)) (xs ((7 * j) + 4)) (xs ((7 * j) + 5)) 0).1)]) rfl ?_
    refine lv_aload_n hx hb dL_law_493 rfl (lv_at hl 2 rfl) ?_
    refine lv_aload_n hx hb dL_law_494 rfl (lv_at hl 4 rfl) ?_
    refine lv_iload hx hb dL_law_495 (lv_at hl 0 rfl) ?_
    refine lv_iconst (v := 1) hx hb dL_law_497 (by decide) ?_
    refine lv_iadd hx hb dL_law_498 ?_
    refine sld_n hx hb hX hbl hbA hS hL ((7 * j) + 1) (n_add (a := (7 * j)) (b := 1) rfl (rfl : (1 : Int32) = nI 1)) (by omega) dL_law_499 ?_
    refine lv_aload_n hx hb dL_law_500 rfl (lv_at hl 4 rfl) ?_
    refine lv_iload hx hb dL_law_501 (lv_at hl 0 rfl) ?_
    refine lv_iconst (v := 2) hx hb dL_law_503 (by decide) ?_
    refine lv_iadd hx hb dL_law_504 ?_
    refine sld_n hx hb hX hbl hbA hS hL ((7 * j) + 2) (n_add (a := (7 * j)) (b := 2) rfl (rfl : (2 : Int32) = nI 2)) (by omega) dL_law_505 ?_
    refine lv_aload_n hx hb dL_law_506 rfl (lv_at hl 4 rfl) ?_
    refine lv_iload hx hb dL_law_507 (lv_at hl 0 rfl) ?_
    refine lv_iconst (v := 3) hx hb dL_law_509 (by decide) ?_
    refine lv_iadd hx hb dL_law_510 ?_
    refine sld_n hx hb hX hbl hbA hS hL ((7 * j) + 3) (n_add (a := (7 * j)) (b := 3) rfl (rfl : (3 : Int32) = nI 3)) (by omega) dL_law_511 ?_
    refine lv_aload_n hx hb dL_law_512 rfl (lv_at hl 4 rfl) ?_
    refine lv_iload hx hb dL_law_513 (lv_at hl 0 rfl) ?_
    refine lv_iconst (v := 4) hx hb dL_law_515 (by decide) ?_
    refine lv_iadd hx hb dL_law_516 ?_
    refine sld_n hx hb hX hbl hbA hS hL ((7 * j) + 4) (n_add (a := (7 * j)) (b := 4) rfl (rfl : (4 : Int32) = nI 4)) (by omega) dL_law_517 ?_
    refine lv_aload_n hx hb dL_law_518 rfl (lv_at hl 4 rfl) ?_
    refine lv_iload hx hb dL_law_519 (lv_at hl 0 rfl) ?_
    refine lv_iconst (v := 5) hx hb dL_law_521 (by decide) ?_
    refine lv_iadd hx hb dL_law_522 ?_
    refine sld_n hx hb hX hbl hbA hS hL ((7 * j) + 5) (n_add (a := (7 * j)) (b := 5) rfl (rfl : (5 : Int32) = nI 5)) (by omega) dL_law_523 ?_
    refine lv_aload_n hx hb dL_law_524 rfl (lv_at hl 4 rfl) ?_
    refine lv_iload hx hb dL_law_525 (lv_at hl 0 rfl) ?_
    refine lv_bipush (v := 6) hx hb dL_law_527 (by decide) ?_
    refine lv_iadd hx hb dL_law_529 ?_
    refine sld_n hx hb hX hbl hbA hS hL ((7 * j) + 6) (n_add (a := (7 * j)) (b := 6) rfl (rfl : (6 : Int32) = nI 6)) (by omega) dL_law_530 ?_
    refine lv_if_eq (tgt := 538) hx hb dL_law_531 (by decide) (fun hh => ?_) (fun hh => absurd c1 hh)
    refine lv_iconst (v := 0) hx hb dL_law_538 (by decide) ?_
    have hP := P_perm hP pm_m
    have hD := D_perm pm_m hD
    have hP : va_P D vwCl (([(o, .inl (G 1, 1, .inr (.inl f)))] ++ z) ++ mW G mo ad σ τ) H := hP
    have hD : va_D (fun q => s.heap.size ≤ q) (([(o, .inl (G 1, 1, .inr (.inl f)))] ++ z) ++ mW G mo ad σ τ) := hD
    refine fr_Vm (wr := [(o, .inl (G 1, 1, .inr (.inl f)))] ++ z) (u := (σ, τ)) (v := (oMember σ τ n k (xs ((7 * j) + 1)) (xs ((7 * j) + 2)) (xs ((7 * j) + 3)) (xs ((7 * j) + 4)) (xs ((7 * j) + 5)) 0).2) (mo := mo) (ad := ad) (As := [.int (xs ((7 * j) + 1)), .int (xs ((7 * j) + 2)), .int (xs ((7 * j) + 3)), .int (xs ((7 * j) + 4)), .int (xs ((7 * j) + 5)), .int 0]) (rest := [.int ((oMember σ τ n k (xs ((7 * j) + 1)) (xs ((7 * j) + 2)) (xs ((7 * j) + 3)) (xs ((7 * j) + 4)) (xs ((7 * j) + 5)) 0).1)]) ⟨hx, hb, hml, hown, hts⟩ (m_member l D G mo ad σ τ _ n hV.1.1.1 hV.1.1.2 k hV.1.2.1.1 hV.1.2.1.2  (xs ((7 * j) + 1)) (xs ((7 * j) + 2)) (xs ((7 * j) + 3)) (xs ((7 * j) + 4)) (xs ((7 * j) + 5)) 0 (Or.inl rfl)) gV_L_X8_member hdV_X8_member ⟨(Nat.le_of_ble_eq_true rfl), (Nat.le_of_ble_eq_true rfl)⟩ hK hP hD hS hA rfl hl.1 rfl (Nat.le_of_ble_eq_true rfl) dL_law_539 ⟨(show cells + 4 ≤ 603072 by omega), (show slots + 22 ≤ 7262314 by omega)⟩ (fun H locs hP hD hS => ?_)
    have hP := P_perm hP pm_r
    have hD := D_perm pm_r hD
    have hP : va_P D vwCl ((mW G mo ad (oMember σ τ n k (xs ((7 * j) + 1)) (xs ((7 * j) + 2)) (xs ((7 * j) + 3)) (xs ((7 * j) + 4)) (xs ((7 * j) + 5)) 0).2.1 (oMember σ τ n k (xs ((7 * j) + 1)) (xs ((7 * j) + 2)) (xs ((7 * j) + 3)) (xs ((7 * j) + 4)) (xs ((7 * j) + 5)) 0).2.2 ++ [(o, .inl (G 1, 1, .inr (.inl f)))]) ++ z) H := hP
    have hD : va_D (fun q => s.heap.size ≤ q) ((mW G mo ad (oMember σ τ n k (xs ((7 * j) + 1)) (xs ((7 * j) + 2)) (xs ((7 * j) + 3)) (xs ((7 * j) + 4)) (xs ((7 * j) + 5)) 0).2.1 (oMember σ τ n k (xs ((7 * j) + 1)) (xs ((7 * j) + 2)) (xs ((7 * j) + 3)) (xs ((7 * j) + 4)) (xs ((7 * j) + 5)) 0).2.2 ++ [(o, .inl (G 1, 1, .inr (.inl f)))]) ++ z) := hD
    refine W.eq (g2 := F0 m 542 ls [.int ((oMember σ τ n k (xs ((7 * j) + 1)) (xs ((7 * j) + 2)) (xs ((7 * j) + 3)) (xs ((7 * j) + 4)) (xs ((7 * j) + 5)) 0).1), .int ((oMember σ τ n k (xs ((7 * j) + 1)) (xs ((7 * j) + 2)) (xs ((7 * j) + 3)) (xs ((7 * j) + 4)) (xs ((7 * j) + 5)) 0).1)]) rfl ?_
    refine lv_icmp_eq (tgt := 1019) hx hb dL_law_542 (by decide) (fun hh => ?_) (fun hh => absurd rfl hh)
    refine W.widen (k := cells + 4) (n := slots + 22) (by omega) (by omega) ?_
    exact kk (oMember σ τ n k (xs ((7 * j) + 1)) (xs ((7 * j) + 2)) (xs ((7 * j) + 3)) (xs ((7 * j) + 4)) (xs ((7 * j) + 5)) 0).2 _ _ _ ⟨f, z, hN, hP, hD, hS⟩ (lv_sub hl [0, 1, 2, 3, 4] rfl)
  · -- 482 not
    refine lv_iconst (v := 1) hx hb dL_law_485 (by decide) ?_
    refine lv_goto (tgt := 490) hx hb dL_law_486 (by decide) ?_
    refine fr_Vc (wr := mW G mo ad σ τ ++ [(o, .inl (G 1, 1, .inr (.inl f)))]) (wc := z) (As := [.int (xs ((7 * j) + 1)), .int (xs ((7 * j) + 2)), .int (xs ((7 * j) + 3)), .int (xs ((7 * j) + 4)), .int (xs ((7 * j) + 5)), .int 1]) (rest := []) ⟨hx, hb, hml, hown, hts⟩ (u_member l D G ca n k w0 σ x τ κ z _ hV hC (xs ((7 * j) + 1)) (xs ((7 * j) + 2)) (xs ((7 * j) + 3)) (xs ((7 * j) + 4)) (xs ((7 * j) + 5)) 1 (Or.inr rfl)) gV_L_X7_member hdV_X7_member ⟨(Nat.le_of_ble_eq_true rfl), (Nat.le_of_ble_eq_true rfl)⟩ hK (hC.recv hK (fr_P hP)) hP hD hS hA rfl hl.1 rfl (Nat.le_of_ble_eq_true rfl) dL_law_490 ⟨(show cells + 4 ≤ 603072 by omega), (show slots + 22 ≤ 7262314 by omega)⟩ (fun z H locs hN hP hD hS => ?_)
    refine W.eq (g2 := F0 m 493 ls [.int ((oMember σ τ n k (xs ((7 * j) + 1)) (xs ((7 * j) + 2)) (xs ((7 * j) + 3)) (xs ((7 * j) + 4)) (xs ((7 * j) + 5)) 1).1)]) rfl ?_
    refine lv_aload_n hx hb dL_law_493 rfl (lv_at hl 2 rfl) ?_
    refine lv_aload_n hx hb dL_law_494 rfl (lv_at hl 4 rfl) ?_
    refine lv_iload hx hb dL_law_495 (lv_at hl 0 rfl) ?_
    refine lv_iconst (v := 1) hx hb dL_law_497 (by decide) ?_
    refine lv_iadd hx hb dL_law_498 ?_
    refine sld_n hx hb hX hbl hbA hS hL ((7 * j) + 1) (n_add (a := (7 * j)) (b := 1) rfl (rfl : (1 : Int32) = nI 1)) (by omega) dL_law_499 ?_
    refine lv_aload_n hx hb dL_law_500 rfl (lv_at hl 4 rfl) ?_
    refine lv_iload hx hb dL_law_501 (lv_at hl 0 rfl) ?_
    refine lv_iconst (v := 2) hx hb dL_law_503 (by decide) ?_
    refine lv_iadd hx hb dL_law_504 ?_
    refine sld_n hx hb hX hbl hbA hS hL ((7 * j) + 2) (n_add (a := (7 * j)) (b := 2) rfl (rfl : (2 : Int32) = nI 2)) (by omega) dL_law_505 ?_
    refine lv_aload_n hx hb dL_law_506 rfl (lv_at hl 4 rfl) ?_
    refine lv_iload hx hb dL_law_507 (lv_at hl 0 rfl) ?_
    refine lv_iconst (v := 3) hx hb dL_law_509 (by decide) ?_
    refine lv_iadd hx hb dL_law_510 ?_
    refine sld_n hx hb hX hbl hbA hS hL ((7 * j) + 3) (n_add (a := (7 * j)) (b := 3) rfl (rfl : (3 : Int32) = nI 3)) (by omega) dL_law_511 ?_
    refine lv_aload_n hx hb dL_law_512 rfl (lv_at hl 4 rfl) ?_
    refine lv_iload hx hb dL_law_513 (lv_at hl 0 rfl) ?_
    refine lv_iconst (v := 4) hx hb dL_law_515 (by decide) ?_
    refine lv_iadd hx hb dL_law_516 ?_
    refine sld_n hx hb hX hbl hbA hS hL ((7 * j) + 4) (n_add (a := (7 * j)) (b := 4) rfl (rfl : (4 : Int32) = nI 4)) (by omega) dL_law_517 ?_
    refine lv_aload_n hx hb dL_law_518 rfl (lv_at hl 4 rfl) ?_
    refine lv_iload hx hb dL_law_519 (lv_at hl 0 rfl) ?_
    refine lv_iconst (v := 5) hx hb dL_law_521 (by decide) ?_
    refine lv_iadd hx hb dL_law_522 ?_
    refine sld_n hx hb hX hbl hbA hS hL ((7 * j) + 5) (n_add (a := (7 * j)) (b := 5) rfl (rfl : (5 : Int32) = nI 5)) (by omega) dL_law_523 ?_
    refine lv_aload_n hx hb dL_law_524 rfl (lv_at hl 4 rfl) ?_
    refine lv_iload hx hb dL_law_525 (lv_at hl 0 rfl) ?_
    refine lv_bipush (v := 6) hx hb dL_law_527 (by decide) ?_
    refine lv_iadd hx hb dL_law_529 ?_
    refine sld_n hx hb hX hbl hbA hS hL ((7 * j) + 6) (n_add (a := (7 * j)) (b := 6) rfl (rfl : (6 : Int32) = nI 6)) (by omega) dL_law_530 ?_
    refine lv_if_eq (tgt := 538) hx hb dL_law_531 (by decide) (fun hh => absurd hh c1) (fun hh => ?_)
    refine lv_iconst (v := 1) hx hb dL_law_534 (by decide) ?_
    refine lv_goto (tgt := 539) hx hb dL_law_535 (by decide) ?_
    have hP := P_perm hP pm_m
    have hD := D_perm pm_m hD
    have hP : va_P D vwCl (([(o, .inl (G 1, 1, .inr (.inl f)))] ++ z) ++ mW G mo ad σ τ) H := hP
    have hD : va_D (fun q => s.heap.size ≤ q) (([(o, .inl (G 1, 1, .inr (.inl f)))] ++ z) ++ mW G mo ad σ τ) := hD
    refine fr_Vm (wr := [(o, .inl (G 1, 1, .inr (.inl f)))] ++ z) (u := (σ, τ)) (v := (oMember σ τ n k (xs ((7 * j) + 1)) (xs ((7 * j) + 2)) (xs ((7 * j) + 3)) (xs ((7 * j) + 4)) (xs ((7 * j) + 5)) 1).2) (mo := mo) (ad := ad) (As := [.int (xs ((7 * j) + 1)), .int (xs ((7 * j) + 2)), .int (xs ((7 * j) + 3)), .int (xs ((7 * j) + 4)), .int (xs ((7 * j) + 5)), .int 1]) (rest := [.int ((oMember σ τ n k (xs ((7 * j) + 1)) (xs ((7 * j) + 2)) (xs ((7 * j) + 3)) (xs ((7 * j) + 4)) (xs ((7 * j) + 5)) 1).1)]) ⟨hx, hb, hml, hown, hts⟩ (m_member l D G mo ad σ τ _ n hV.1.1.1 hV.1.1.2 k hV.1.2.1.1 hV.1.2.1.2  (xs ((7 * j) + 1)) (xs ((7 * j) + 2)) (xs ((7 * j) + 3)) (xs ((7 * j) + 4)) (xs ((7 * j) + 5)) 1 (Or.inr rfl)) gV_L_X8_member hdV_X8_member ⟨(Nat.le_of_ble_eq_true rfl), (Nat.le_of_ble_eq_true rfl)⟩ hK hP hD hS hA rfl hl.1 rfl (Nat.le_of_ble_eq_true rfl) dL_law_539 ⟨(show cells + 4 ≤ 603072 by omega), (show slots + 22 ≤ 7262314 by omega)⟩ (fun H locs hP hD hS => ?_)
    have hP := P_perm hP pm_r
    have hD := D_perm pm_r hD
    have hP : va_P D vwCl ((mW G mo ad (oMember σ τ n k (xs ((7 * j) + 1)) (xs ((7 * j) + 2)) (xs ((7 * j) + 3)) (xs ((7 * j) + 4)) (xs ((7 * j) + 5)) 1).2.1 (oMember σ τ n k (xs ((7 * j) + 1)) (xs ((7 * j) + 2)) (xs ((7 * j) + 3)) (xs ((7 * j) + 4)) (xs ((7 * j) + 5)) 1).2.2 ++ [(o, .inl (G 1, 1, .inr (.inl f)))]) ++ z) H := hP
    have hD : va_D (fun q => s.heap.size ≤ q) ((mW G mo ad (oMember σ τ n k (xs ((7 * j) + 1)) (xs ((7 * j) + 2)) (xs ((7 * j) + 3)) (xs ((7 * j) + 4)) (xs ((7 * j) + 5)) 1).2.1 (oMember σ τ n k (xs ((7 * j) + 1)) (xs ((7 * j) + 2)) (xs ((7 * j) + 3)) (xs ((7 * j) + 4)) (xs ((7 * j) + 5)) 1).2.2 ++ [(o, .inl (G 1, 1, .inr (.inl f)))]) ++ z) := hD
    refine W.eq (g2 := F0 m 542 ls [.int ((oMember σ τ n k (xs ((7 * j) + 1)) (xs ((7 * j) + 2)) (xs ((7 * j) + 3)) (xs ((7 * j) + 4)) (xs ((7 * j) + 5)) 1).1), .int ((oMember σ τ n k (xs ((7 * j) + 1)) (xs ((7 * j) + 2)) (xs ((7 * j) + 3)) (xs ((7 * j) + 4)) (xs ((7 * j) + 5)) 1).1)]) rfl ?_
    refine lv_icmp_eq (tgt := 1019) hx hb dL_law_542 (by decide) (fun hh => ?_) (fun hh => absurd rfl hh)
    refine W.widen (k := cells + 4) (n := slots + 22) (by omega) (by omega) ?_
    exact kk (oMember σ τ n k (xs ((7 * j) + 1)) (xs ((7 * j) + 2)) (xs ((7 * j) + 3)) (xs ((7 * j) + 4)) (xs ((7 * j) + 5)) 1).2 _ _ _ ⟨f, z, hN, hP, hD, hS⟩ (lv_sub hl [0, 1, 2, 3, 4] rfl)
set_option maxHeartbeats 1600000 in
set_option maxRecDepth 100000 in
theorem lc_parameter {p : Program} {l : Launch} {e : Env} {s : State} {m : MethodId} {below : List Frame} {meth : Method} {c : Code} {b L : Nat} {xs : Nat → Int32} {D : va_G} {G : Nat → ClassId} {sa : Nat → Nat} {ca : Nat → Nat} {mo : Nat} {ad : Nat → Nat} {o : Nat} {Q : State → Prop} (C0 : LCx p l s m c b L xs D G sa) {j : Nat} (hj : 7 * j + 6 < L) {u : MU} {H : Heap} {locs : List Loc} {ls : Array Slot} {cells slots : Nat} (hW : LW s D G ca mo ad o u H locs) (hl : lv_has ls 8 [(4, .int (nI (7 * j))), (3, .ref o), (2, .ref mo), (1, .ref (ca 0)), (0, .ref b)]) (hc : cells + 4 ≤ 603072 ∧ slots + 22 ≤ 7262314)
    (kk : ∀ (u : MU) (H : Heap) (locs : List Loc) (ls : Array Slot), LW s D G ca mo ad o u H locs → lv_has ls 8 [(4, .int (nI (7 * j))), (3, .ref o), (2, .ref mo), (1, .ref (ca 0)), (0, .ref b)] → W p l e room_1 s m #[Value.ref b] below meth c H locs (cells + 4) (slots + 22) Q (F0 m 1019 ls [])) : W p l e room_1 s m #[Value.ref b] below meth c H locs cells slots Q (F0 m 547 ls []) := by
  obtain ⟨hx, hb, hml, hown, hts, hX, hbl, hK, hXS, hXZ, hst, hL⟩ := id C0
  have hbA : ¬ (fun q : Nat => s.heap.size ≤ q) b := Nat.not_le.mpr hbl
  have hA : ∀ q : Nat, s.heap.size ≤ q → (fun q : Nat => s.heap.size ≤ q) q := fun _ h => h
  obtain ⟨σ, τ⟩ := u
  obtain ⟨f, z, ⟨n, k, w0, κ, x, hV, hC⟩, hP, hD, hS⟩ := hW
  have hP : va_P D vwCl ((mW G mo ad σ τ ++ [(o, .inl (G 1, 1, .inr (.inl f)))]) ++ z) H := hP
  have hD : va_D (fun q => s.heap.size ≤ q) ((mW G mo ad σ τ ++ [(o, .inl (G 1, 1, .inr (.inl f)))]) ++ z) := hD
  have hV : IV σ x τ κ n k w0 := hV
  have hC : CW G ca σ x κ k z := hC
  refine lv_aload_n hx hb dL_law_547 rfl (lv_at hl 3 rfl) ?_
  refine lv_aload_n hx hb dL_law_548 rfl (lv_at hl 4 rfl) ?_
  refine lv_iload hx hb dL_law_549 (lv_at hl 0 rfl) ?_
  refine lv_iconst (v := 1) hx hb dL_law_551 (by decide) ?_
  refine lv_iadd hx hb dL_law_552 ?_
  refine sld_n hx hb hX hbl hbA hS hL ((7 * j) + 1) (n_add (a := (7 * j)) (b := 1) rfl (rfl : (1 : Int32) = nI 1)) (by omega) dL_law_553 ?_
  refine lv_aload_n hx hb dL_law_554 rfl (lv_at hl 4 rfl) ?_
  refine lv_iload hx hb dL_law_555 (lv_at hl 0 rfl) ?_
  refine lv_iconst (v := 2) hx hb dL_law_557 (by decide) ?_
  refine lv_iadd hx hb dL_law_558 ?_
  refine sld_n hx hb hX hbl hbA hS hL ((7 * j) + 2) (n_add (a := (7 * j)) (b := 2) rfl (rfl : (2 : Int32) = nI 2)) (by omega) dL_law_559 ?_
  refine lv_aload_n hx hb dL_law_560 rfl (lv_at hl 4 rfl) ?_
  refine lv_iload hx hb dL_law_561 (lv_at hl 0 rfl) ?_
  refine lv_iconst (v := 3) hx hb dL_law_563 (by decide) ?_
  refine lv_iadd hx hb dL_law_564 ?_
  refine sld_n hx hb hX hbl hbA hS hL ((7 * j) + 3) (n_add (a := (7 * j)) (b := 3) rfl (rfl : (3 : Int32) = nI 3)) (by omega) dL_law_565 ?_
  refine lv_if_eq (tgt := 573) hx hb dL_law_566 (by decide) (fun c1 => ?_) (fun c1 => ?_)
  · -- 566 taken
    refine lv_iconst (v := 0) hx hb dL_law_573 (by decide) ?_
    refine fr_Vc (wr := mW G mo ad σ τ ++ [(o, .inl (G 1, 1, .inr (.inl f)))]) (wc := z) (As := [.int (xs ((7 * j) + 1)), .int (xs ((7 * j) + 2)), .int 0]) (rest := []) ⟨hx, hb, hml, hown, hts⟩ (u_parameter l D G ca n k w0 σ x τ κ z _ hV hC (xs ((7 * j) + 1)) (xs ((7 * j) + 2)) 0 (Or.inl rfl)) gV_L_X7_parameter hdV_X7_parameter ⟨(Nat.le_of_ble_eq_true rfl), (Nat.le_of_ble_eq_true rfl)⟩ hK (hC.recv hK (fr_P hP)) hP hD hS hA rfl hl.1 rfl (Nat.le_of_ble_eq_true rfl) dL_law_574 ⟨(show cells + 0 ≤ 603072 by omega), (show slots + 0 ≤ 7262314 by omega)⟩ (fun z H locs hN hP hD hS => ?_)
    refine W.eq (g2 := F0 m 577 ls [.int ((oPar σ τ n k (xs ((7 * j) + 1)) (xs ((7 * j) + 2)) 0).1)]) rfl ?_
    refine lv_aload_n hx hb dL_law_577 rfl (lv_at hl 2 rfl) ?_
    refine lv_aload_n hx hb dL_law_578 rfl (lv_at hl 4 rfl) ?_
    refine lv_iload hx hb dL_law_579 (lv_at hl 0 rfl) ?_
    refine lv_iconst (v := 1) hx hb dL_law_581 (by decide) ?_
    refine lv_iadd hx hb dL_law_582 ?_
    refine sld_n hx hb hX hbl hbA hS hL ((7 * j) + 1) (n_add (a := (7 * j)) (b := 1) rfl (rfl : (1 : Int32) = nI 1)) (by omega) dL_law_583 ?_
    refine lv_aload_n hx hb dL_law_584 rfl (lv_at hl 4 rfl) ?_
    refine lv_iload hx hb dL_law_585 (lv_at hl 0 rfl) ?_
    refine lv_iconst (v := 2) hx hb dL_law_587 (by decide) ?_
    refine lv_iadd hx hb dL_law_588 ?_
    refine sld_n hx hb hX hbl hbA hS hL ((7 * j) + 2) (n_add (a := (7 * j)) (b := 2) rfl (rfl : (2 : Int32) = nI 2)) (by omega) dL_law_589 ?_
    refine lv_aload_n hx hb dL_law_590 rfl (lv_at hl 4 rfl) ?_
    refine lv_iload hx hb dL_law_591 (lv_at hl 0 rfl) ?_
    refine lv_iconst (v := 3) hx hb dL_law_593 (by decide) ?_
    refine lv_iadd hx hb dL_law_594 ?_
    refine sld_n hx hb hX hbl hbA hS hL ((7 * j) + 3) (n_add (a := (7 * j)) (b := 3) rfl (rfl : (3 : Int32) = nI 3)) (by omega) dL_law_595 ?_
    refine lv_if_eq (tgt := 603) hx hb dL_law_596 (by decide) (fun hh => ?_) (fun hh => absurd c1 hh)
    refine lv_iconst (v := 0) hx hb dL_law_603 (by decide) ?_
    have hP := P_perm hP pm_m
    have hD := D_perm pm_m hD
    have hP : va_P D vwCl (([(o, .inl (G 1, 1, .inr (.inl f)))] ++ z) ++ mW G mo ad σ τ) H := hP
    have hD : va_D (fun q => s.heap.size ≤ q) (([(o, .inl (G 1, 1, .inr (.inl f)))] ++ z) ++ mW G mo ad σ τ) := hD
    refine fr_Vm (wr := [(o, .inl (G 1, 1, .inr (.inl f)))] ++ z) (u := (σ, τ)) (v := (oPar σ τ n k (xs ((7 * j) + 1)) (xs ((7 * j) + 2)) 0).2) (mo := mo) (ad := ad) (As := [.int (xs ((7 * j) + 1)), .int (xs ((7 * j) + 2)), .int 0]) (rest := [.int ((oPar σ τ n k (xs ((7 * j) + 1)) (xs ((7 * j) + 2)) 0).1)]) ⟨hx, hb, hml, hown, hts⟩ (m_parameter l D G mo ad σ τ _ n hV.1.1.1 hV.1.1.2 k hV.1.2.1.1 hV.1.2.1.2 hV.h9 (hV.2.2.1.2.2.1 k).1 (xs ((7 * j) + 1)) (xs ((7 * j) + 2)) 0 (Or.inl rfl)) gV_L_X8_parameter hdV_X8_parameter ⟨(Nat.le_of_ble_eq_true rfl), (Nat.le_of_ble_eq_true rfl)⟩ hK hP hD hS hA rfl hl.1 rfl (Nat.le_of_ble_eq_true rfl) dL_law_604 ⟨(show cells + 0 ≤ 603072 by omega), (show slots + 0 ≤ 7262314 by omega)⟩ (fun H locs hP hD hS => ?_)
    have hP := P_perm hP pm_r
    have hD := D_perm pm_r hD
    have hP : va_P D vwCl ((mW G mo ad (oPar σ τ n k (xs ((7 * j) + 1)) (xs ((7 * j) + 2)) 0).2.1 (oPar σ τ n k (xs ((7 * j) + 1)) (xs ((7 * j) + 2)) 0).2.2 ++ [(o, .inl (G 1, 1, .inr (.inl f)))]) ++ z) H := hP
    have hD : va_D (fun q => s.heap.size ≤ q) ((mW G mo ad (oPar σ τ n k (xs ((7 * j) + 1)) (xs ((7 * j) + 2)) 0).2.1 (oPar σ τ n k (xs ((7 * j) + 1)) (xs ((7 * j) + 2)) 0).2.2 ++ [(o, .inl (G 1, 1, .inr (.inl f)))]) ++ z) := hD
    refine W.eq (g2 := F0 m 607 ls [.int ((oPar σ τ n k (xs ((7 * j) + 1)) (xs ((7 * j) + 2)) 0).1), .int ((oPar σ τ n k (xs ((7 * j) + 1)) (xs ((7 * j) + 2)) 0).1)]) rfl ?_
    refine lv_icmp_eq (tgt := 1019) hx hb dL_law_607 (by decide) (fun hh => ?_) (fun hh => absurd rfl hh)
    refine W.widen (k := cells + 4) (n := slots + 22) (by omega) (by omega) ?_
    exact kk (oPar σ τ n k (xs ((7 * j) + 1)) (xs ((7 * j) + 2)) 0).2 _ _ _ ⟨f, z, hN, hP, hD, hS⟩ (lv_sub hl [0, 1, 2, 3, 4] rfl)
  · -- 566 not
    refine lv_iconst (v := 1) hx hb dL_law_569 (by decide) ?_
    refine lv_goto (tgt := 574) hx hb dL_law_570 (by decide) ?_
    refine fr_Vc (wr := mW G mo ad σ τ ++ [(o, .inl (G 1, 1, .inr (.inl f)))]) (wc := z) (As := [.int (xs ((7 * j) + 1)), .int (xs ((7 * j) + 2)), .int 1]) (rest := []) ⟨hx, hb, hml, hown, hts⟩ (u_parameter l D G ca n k w0 σ x τ κ z _ hV hC (xs ((7 * j) + 1)) (xs ((7 * j) + 2)) 1 (Or.inr rfl)) gV_L_X7_parameter hdV_X7_parameter ⟨(Nat.le_of_ble_eq_true rfl), (Nat.le_of_ble_eq_true rfl)⟩ hK (hC.recv hK (fr_P hP)) hP hD hS hA rfl hl.1 rfl (Nat.le_of_ble_eq_true rfl) dL_law_574 ⟨(show cells + 0 ≤ 603072 by omega), (show slots + 0 ≤ 7262314 by omega)⟩ (fun z H locs hN hP hD hS => ?_)
    refine W.eq (g2 := F0 m 577 ls [.int ((oPar σ τ n k (xs ((7 * j) + 1)) (xs ((7 * j) + 2)) 1).1)]) rfl ?_
    refine lv_aload_n hx hb dL_law_577 rfl (lv_at hl 2 rfl) ?_
    refine lv_aload_n hx hb dL_law_578 rfl (lv_at hl 4 rfl) ?_
    refine lv_iload hx hb dL_law_579 (lv_at hl 0 rfl) ?_
    refine lv_iconst (v := 1) hx hb dL_law_581 (by decide) ?_
    refine lv_iadd hx hb dL_law_582 ?_
    refine sld_n hx hb hX hbl hbA hS hL ((7 * j) + 1) (n_add (a := (7 * j)) (b := 1) rfl (rfl : (1 : Int32) = nI 1)) (by omega) dL_law_583 ?_
    refine lv_aload_n hx hb dL_law_584 rfl (lv_at hl 4 rfl) ?_
    refine lv_iload hx hb dL_law_585 (lv_at hl 0 rfl) ?_
    refine lv_iconst (v := 2) hx hb dL_law_587 (by decide) ?_
    refine lv_iadd hx hb dL_law_588 ?_
    refine sld_n hx hb hX hbl hbA hS hL ((7 * j) + 2) (n_add (a := (7 * j)) (b := 2) rfl (rfl : (2 : Int32) = nI 2)) (by omega) dL_law_589 ?_
    refine lv_aload_n hx hb dL_law_590 rfl (lv_at hl 4 rfl) ?_
    refine lv_iload hx hb dL_law_591 (lv_at hl 0 rfl) ?_
    refine lv_iconst (v := 3) hx hb dL_law_593 (by decide) ?_
    refine lv_iadd hx hb dL_law_594 ?_
    refine sld_n hx hb hX hbl hbA hS hL ((7 * j) + 3) (n_add (a := (7 * j)) (b := 3) rfl (rfl : (3 : Int32) = nI 3)) (by omega) dL_law_595 ?_
    refine lv_if_eq (tgt := 603) hx hb dL_law_596 (by decide) (fun hh => absurd hh c1) (fun hh => ?_)
    refine lv_iconst (v := 1) hx hb dL_law_599 (by decide) ?_
    refine lv_goto (tgt := 604) hx hb dL_law_600 (by decide) ?_
    have hP := P_perm hP pm_m
    have hD := D_perm pm_m hD
    have hP : va_P D vwCl (([(o, .inl (G 1, 1, .inr (.inl f)))] ++ z) ++ mW G mo ad σ τ) H := hP
    have hD : va_D (fun q => s.heap.size ≤ q) (([(o, .inl (G 1, 1, .inr (.inl f)))] ++ z) ++ mW G mo ad σ τ) := hD
    refine fr_Vm (wr := [(o, .inl (G 1, 1, .inr (.inl f)))] ++ z) (u := (σ, τ)) (v := (oPar σ τ n k (xs ((7 * j) + 1)) (xs ((7 * j) + 2)) 1).2) (mo := mo) (ad := ad) (As := [.int (xs ((7 * j) + 1)), .int (xs ((7 * j) + 2)), .int 1]) (rest := [.int ((oPar σ τ n k (xs ((7 * j) + 1)) (xs ((7 * j) + 2)) 1).1)]) ⟨hx, hb, hml, hown, hts⟩ (m_parameter l D G mo ad σ τ _ n hV.1.1.1 hV.1.1.2 k hV.1.2.1.1 hV.1.2.1.2 hV.h9 (hV.2.2.1.2.2.1 k).1 (xs ((7 * j) + 1)) (xs ((7 * j) + 2)) 1 (Or.inr rfl)) gV_L_X8_parameter hdV_X8_parameter ⟨(Nat.le_of_ble_eq_true rfl), (Nat.le_of_ble_eq_true rfl)⟩ hK hP hD hS hA rfl hl.1 rfl (Nat.le_of_ble_eq_true rfl) dL_law_604 ⟨(show cells + 0 ≤ 603072 by omega), (show slots + 0 ≤ 7262314 by omega)⟩ (fun H locs hP hD hS => ?_)
    have hP := P_perm hP pm_r
    have hD := D_perm pm_r hD
    have hP : va_P D vwCl ((mW G mo ad (oPar σ τ n k (xs ((7 * j) + 1)) (xs ((7 * j) + 2)) 1).2.1 (oPar σ τ n k (xs ((7 * j) + 1)) (xs ((7 * j) + 2)) 1).2.2 ++ [(o, .inl (G 1, 1, .inr (.inl f)))]) ++ z) H := hP
    have hD : va_D (fun q => s.heap.size ≤ q) ((mW G mo ad (oPar σ τ n k (xs ((7 * j) + 1)) (xs ((7 * j) + 2)) 1).2.1 (oPar σ τ n k (xs ((7 * j) + 1)) (xs ((7 * j) + 2)) 1).2.2 ++ [(o, .inl (G 1, 1, .inr (.inl f)))]) ++ z) := hD
    refine W.eq (g2 := F0 m 607 ls [.int ((oPar σ τ n k (xs ((7 * j) + 1)) (xs ((7 * j) + 2)) 1).1), .int ((oPar σ τ n k (xs ((7 * j) + 1)) (xs ((7 * j) + 2)) 1).1)]) rfl ?_
    refine lv_icmp_eq (tgt := 1019) hx hb dL_law_607 (by decide) (fun hh => ?_) (fun hh => absurd rfl hh)
    refine W.widen (k := cells + 4) (n := slots + 22) (by omega) (by omega) ?_
    exact kk (oPar σ τ n k (xs ((7 * j) + 1)) (xs ((7 * j) + 2)) 1).2 _ _ _ ⟨f, z, hN, hP, hD, hS⟩ (lv_sub hl [0, 1, 2, 3, 4] rfl)
set_option maxHeartbeats 1600000 in
set_option maxRecDepth 100000 in
theorem lc_end {p : Program} {l : Launch} {e : Env} {s : State} {m : MethodId} {below : List Frame} {meth : Method} {c : Code} {b L : Nat} {xs : Nat → Int32} {D : va_G} {G : Nat → ClassId} {sa : Nat → Nat} {ca : Nat → Nat} {mo : Nat} {ad : Nat → Nat} {o : Nat} {Q : State → Prop} (C0 : LCx p l s m c b L xs D G sa) {j : Nat} (hj : 7 * j + 6 < L) {u : MU} {H : Heap} {locs : List Loc} {ls : Array Slot} {cells slots : Nat} (hW : LW s D G ca mo ad o u H locs) (hl : lv_has ls 8 [(4, .int (nI (7 * j))), (3, .ref o), (2, .ref mo), (1, .ref (ca 0)), (0, .ref b)]) (hc : cells + 4 ≤ 603072 ∧ slots + 22 ≤ 7262314)
    (kk : ∀ (u : MU) (H : Heap) (locs : List Loc) (ls : Array Slot), LW s D G ca mo ad o u H locs → lv_has ls 8 [(4, .int (nI (7 * j))), (3, .ref o), (2, .ref mo), (1, .ref (ca 0)), (0, .ref b)] → W p l e room_1 s m #[Value.ref b] below meth c H locs (cells + 4) (slots + 22) Q (F0 m 1019 ls [])) : W p l e room_1 s m #[Value.ref b] below meth c H locs cells slots Q (F0 m 612 ls []) := by
  obtain ⟨hx, hb, hml, hown, hts, hX, hbl, hK, hXS, hXZ, hst, hL⟩ := id C0
  have hbA : ¬ (fun q : Nat => s.heap.size ≤ q) b := Nat.not_le.mpr hbl
  have hA : ∀ q : Nat, s.heap.size ≤ q → (fun q : Nat => s.heap.size ≤ q) q := fun _ h => h
  obtain ⟨σ, τ⟩ := u
  obtain ⟨f, z, ⟨n, k, w0, κ, x, hV, hC⟩, hP, hD, hS⟩ := hW
  have hP : va_P D vwCl ((mW G mo ad σ τ ++ [(o, .inl (G 1, 1, .inr (.inl f)))]) ++ z) H := hP
  have hD : va_D (fun q => s.heap.size ≤ q) ((mW G mo ad σ τ ++ [(o, .inl (G 1, 1, .inr (.inl f)))]) ++ z) := hD
  have hV : IV σ x τ κ n k w0 := hV
  have hC : CW G ca σ x κ k z := hC
  refine lv_aload_n hx hb dL_law_612 rfl (lv_at hl 3 rfl) ?_
  refine fr_Vc (wr := mW G mo ad σ τ ++ [(o, .inl (G 1, 1, .inr (.inl f)))]) (wc := z) (As := []) (rest := []) ⟨hx, hb, hml, hown, hts⟩ (u_end l D G ca n k w0 σ x τ κ z _ hV hC ) gV_L_X7_end hdV_X7_end ⟨(Nat.le_of_ble_eq_true rfl), (Nat.le_of_ble_eq_true rfl)⟩ hK (hC.recv hK (fr_P hP)) hP hD hS hA rfl hl.1 rfl (Nat.le_of_ble_eq_true rfl) dL_law_613 ⟨(show cells + 0 ≤ 603072 by omega), (show slots + 0 ≤ 7262314 by omega)⟩ (fun z H locs hN hP hD hS => ?_)
  refine W.eq (g2 := F0 m 616 ls [.int ((oEnd σ τ k).1)]) rfl ?_
  refine lv_aload_n hx hb dL_law_616 rfl (lv_at hl 2 rfl) ?_
  have hP := P_perm hP pm_m
  have hD := D_perm pm_m hD
  have hP : va_P D vwCl (([(o, .inl (G 1, 1, .inr (.inl f)))] ++ z) ++ mW G mo ad σ τ) H := hP
  have hD : va_D (fun q => s.heap.size ≤ q) (([(o, .inl (G 1, 1, .inr (.inl f)))] ++ z) ++ mW G mo ad σ τ) := hD
  refine fr_Vm (wr := [(o, .inl (G 1, 1, .inr (.inl f)))] ++ z) (u := (σ, τ)) (v := (oEnd σ τ k).2) (mo := mo) (ad := ad) (As := []) (rest := [.int ((oEnd σ τ k).1)]) ⟨hx, hb, hml, hown, hts⟩ (m_end l D G mo ad σ τ _ k hV.1.2.1.1 hV.1.2.1.2 hV.h9 hV.hb hV.he hV.hm hV.hk hV.2.1.1  ) gV_L_X8_end hdV_X8_end ⟨(Nat.le_of_ble_eq_true rfl), (Nat.le_of_ble_eq_true rfl)⟩ hK hP hD hS hA rfl hl.1 rfl (Nat.le_of_ble_eq_true rfl) dL_law_617 ⟨(show cells + 0 ≤ 603072 by omega), (show slots + 0 ≤ 7262314 by omega)⟩ (fun H locs hP hD hS => ?_)
  have hP := P_perm hP pm_r
  have hD := D_perm pm_r hD
  have hP : va_P D vwCl ((mW G mo ad (oEnd σ τ k).2.1 (oEnd σ τ k).2.2 ++ [(o, .inl (G 1, 1, .inr (.inl f)))]) ++ z) H := hP
  have hD : va_D (fun q => s.heap.size ≤ q) ((mW G mo ad (oEnd σ τ k).2.1 (oEnd σ τ k).2.2 ++ [(o, .inl (G 1, 1, .inr (.inl f)))]) ++ z) := hD
  refine W.eq (g2 := F0 m 620 ls [.int ((oEnd σ τ k).1), .int ((oEnd σ τ k).1)]) rfl ?_
  refine lv_icmp_eq (tgt := 1019) hx hb dL_law_620 (by decide) (fun hh => ?_) (fun hh => absurd rfl hh)
  refine W.widen (k := cells + 4) (n := slots + 22) (by omega) (by omega) ?_
  exact kk (oEnd σ τ k).2 _ _ _ ⟨f, z, hN, hP, hD, hS⟩ (lv_sub hl [0, 1, 2, 3, 4] rfl)
set_option maxHeartbeats 1600000 in
set_option maxRecDepth 100000 in
theorem lc_entry {p : Program} {l : Launch} {e : Env} {s : State} {m : MethodId} {below : List Frame} {meth : Method} {c : Code} {b L : Nat} {xs : Nat → Int32} {D : va_G} {G : Nat → ClassId} {sa : Nat → Nat} {ca : Nat → Nat} {mo : Nat} {ad : Nat → Nat} {o : Nat} {Q : State → Prop} (C0 : LCx p l s m c b L xs D G sa) {j : Nat} (hj : 7 * j + 6 < L) {u : MU} {H : Heap} {locs : List Loc} {ls : Array Slot} {cells slots : Nat} (hW : LW s D G ca mo ad o u H locs) (hl : lv_has ls 8 [(4, .int (nI (7 * j))), (3, .ref o), (2, .ref mo), (1, .ref (ca 0)), (0, .ref b)]) (hc : cells + 4 ≤ 603072 ∧ slots + 22 ≤ 7262314)
    (kk : ∀ (u : MU) (H : Heap) (locs : List Loc) (ls : Array Slot), LW s D G ca mo ad o u H locs → lv_has ls 8 [(4, .int (nI (7 * j))), (3, .ref o), (2, .ref mo), (1, .ref (ca 0)), (0, .ref b)] → W p l e room_1 s m #[Value.ref b] below meth c H locs (cells + 4) (slots + 22) Q (F0 m 1019 ls [])) : W p l e room_1 s m #[Value.ref b] below meth c H locs cells slots Q (F0 m 625 ls []) := by
  obtain ⟨hx, hb, hml, hown, hts, hX, hbl, hK, hXS, hXZ, hst, hL⟩ := id C0
  have hbA : ¬ (fun q : Nat => s.heap.size ≤ q) b := Nat.not_le.mpr hbl
  have hA : ∀ q : Nat, s.heap.size ≤ q → (fun q : Nat => s.heap.size ≤ q) q := fun _ h => h
  obtain ⟨σ, τ⟩ := u
  obtain ⟨f, z, ⟨n, k, w0, κ, x, hV, hC⟩, hP, hD, hS⟩ := hW
  have hP : va_P D vwCl ((mW G mo ad σ τ ++ [(o, .inl (G 1, 1, .inr (.inl f)))]) ++ z) H := hP
  have hD : va_D (fun q => s.heap.size ≤ q) ((mW G mo ad σ τ ++ [(o, .inl (G 1, 1, .inr (.inl f)))]) ++ z) := hD
  have hV : IV σ x τ κ n k w0 := hV
  have hC : CW G ca σ x κ k z := hC
  refine lv_aload_n hx hb dL_law_625 rfl (lv_at hl 3 rfl) ?_
  refine lv_aload_n hx hb dL_law_626 rfl (lv_at hl 4 rfl) ?_
  refine lv_iload hx hb dL_law_627 (lv_at hl 0 rfl) ?_
  refine lv_iconst (v := 1) hx hb dL_law_629 (by decide) ?_
  refine lv_iadd hx hb dL_law_630 ?_
  refine sld_n hx hb hX hbl hbA hS hL ((7 * j) + 1) (n_add (a := (7 * j)) (b := 1) rfl (rfl : (1 : Int32) = nI 1)) (by omega) dL_law_631 ?_
  refine lv_aload_n hx hb dL_law_632 rfl (lv_at hl 4 rfl) ?_
  refine lv_iload hx hb dL_law_633 (lv_at hl 0 rfl) ?_
  refine lv_iconst (v := 2) hx hb dL_law_635 (by decide) ?_
  refine lv_iadd hx hb dL_law_636 ?_
  refine sld_n hx hb hX hbl hbA hS hL ((7 * j) + 2) (n_add (a := (7 * j)) (b := 2) rfl (rfl : (2 : Int32) = nI 2)) (by omega) dL_law_637 ?_
  refine fr_Vc (wr := mW G mo ad σ τ ++ [(o, .inl (G 1, 1, .inr (.inl f)))]) (wc := z) (As := [.int (xs ((7 * j) + 1)), .int (xs ((7 * j) + 2))]) (rest := []) ⟨hx, hb, hml, hown, hts⟩ (u_entry l D G ca n k w0 σ x τ κ z _ hV hC (xs ((7 * j) + 1)) (xs ((7 * j) + 2))) gV_L_X7_entry hdV_X7_entry ⟨(Nat.le_of_ble_eq_true rfl), (Nat.le_of_ble_eq_true rfl)⟩ hK (hC.recv hK (fr_P hP)) hP hD hS hA rfl hl.1 rfl (Nat.le_of_ble_eq_true rfl) dL_law_638 ⟨(show cells + 0 ≤ 603072 by omega), (show slots + 0 ≤ 7262314 by omega)⟩ (fun z H locs hN hP hD hS => ?_)
  refine W.eq (g2 := F0 m 641 ls [.int ((oEntry σ τ k (xs ((7 * j) + 1)) (xs ((7 * j) + 2))).1)]) rfl ?_
  refine lv_aload_n hx hb dL_law_641 rfl (lv_at hl 2 rfl) ?_
  refine lv_aload_n hx hb dL_law_642 rfl (lv_at hl 4 rfl) ?_
  refine lv_iload hx hb dL_law_643 (lv_at hl 0 rfl) ?_
  refine lv_iconst (v := 1) hx hb dL_law_645 (by decide) ?_
  refine lv_iadd hx hb dL_law_646 ?_
  refine sld_n hx hb hX hbl hbA hS hL ((7 * j) + 1) (n_add (a := (7 * j)) (b := 1) rfl (rfl : (1 : Int32) = nI 1)) (by omega) dL_law_647 ?_
  refine lv_aload_n hx hb dL_law_648 rfl (lv_at hl 4 rfl) ?_
  refine lv_iload hx hb dL_law_649 (lv_at hl 0 rfl) ?_
  refine lv_iconst (v := 2) hx hb dL_law_651 (by decide) ?_
  refine lv_iadd hx hb dL_law_652 ?_
  refine sld_n hx hb hX hbl hbA hS hL ((7 * j) + 2) (n_add (a := (7 * j)) (b := 2) rfl (rfl : (2 : Int32) = nI 2)) (by omega) dL_law_653 ?_
  have hP := P_perm hP pm_m
  have hD := D_perm pm_m hD
  have hP : va_P D vwCl (([(o, .inl (G 1, 1, .inr (.inl f)))] ++ z) ++ mW G mo ad σ τ) H := hP
  have hD : va_D (fun q => s.heap.size ≤ q) (([(o, .inl (G 1, 1, .inr (.inl f)))] ++ z) ++ mW G mo ad σ τ) := hD
  refine fr_Vm (wr := [(o, .inl (G 1, 1, .inr (.inl f)))] ++ z) (u := (σ, τ)) (v := (oEntry σ τ k (xs ((7 * j) + 1)) (xs ((7 * j) + 2))).2) (mo := mo) (ad := ad) (As := [.int (xs ((7 * j) + 1)), .int (xs ((7 * j) + 2))]) (rest := [.int ((oEntry σ τ k (xs ((7 * j) + 1)) (xs ((7 * j) + 2))).1)]) ⟨hx, hb, hml, hown, hts⟩ (m_entry l D G mo ad σ τ _ k hV.1.2.1.1 hV.1.2.1.2  (xs ((7 * j) + 1)) (xs ((7 * j) + 2)) ) gV_L_X8_entry hdV_X8_entry ⟨(Nat.le_of_ble_eq_true rfl), (Nat.le_of_ble_eq_true rfl)⟩ hK hP hD hS hA rfl hl.1 rfl (Nat.le_of_ble_eq_true rfl) dL_law_654 ⟨(show cells + 0 ≤ 603072 by omega), (show slots + 0 ≤ 7262314 by omega)⟩ (fun H locs hP hD hS => ?_)
  have hP := P_perm hP pm_r
  have hD := D_perm pm_r hD
  have hP : va_P D vwCl ((mW G mo ad (oEntry σ τ k (xs ((7 * j) + 1)) (xs ((7 * j) + 2))).2.1 (oEntry σ τ k (xs ((7 * j) + 1)) (xs ((7 * j) + 2))).2.2 ++ [(o, .inl (G 1, 1, .inr (.inl f)))]) ++ z) H := hP
  have hD : va_D (fun q => s.heap.size ≤ q) ((mW G mo ad (oEntry σ τ k (xs ((7 * j) + 1)) (xs ((7 * j) + 2))).2.1 (oEntry σ τ k (xs ((7 * j) + 1)) (xs ((7 * j) + 2))).2.2 ++ [(o, .inl (G 1, 1, .inr (.inl f)))]) ++ z) := hD
  refine W.eq (g2 := F0 m 657 ls [.int ((oEntry σ τ k (xs ((7 * j) + 1)) (xs ((7 * j) + 2))).1), .int ((oEntry σ τ k (xs ((7 * j) + 1)) (xs ((7 * j) + 2))).1)]) rfl ?_
  refine lv_icmp_eq (tgt := 1019) hx hb dL_law_657 (by decide) (fun hh => ?_) (fun hh => absurd rfl hh)
  refine W.widen (k := cells + 4) (n := slots + 22) (by omega) (by omega) ?_
  exact kk (oEntry σ τ k (xs ((7 * j) + 1)) (xs ((7 * j) + 2))).2 _ _ _ ⟨f, z, hN, hP, hD, hS⟩ (lv_sub hl [0, 1, 2, 3, 4] rfl)
set_option maxHeartbeats 1600000 in
set_option maxRecDepth 100000 in
theorem lc_shape {p : Program} {l : Launch} {e : Env} {s : State} {m : MethodId} {below : List Frame} {meth : Method} {c : Code} {b L : Nat} {xs : Nat → Int32} {D : va_G} {G : Nat → ClassId} {sa : Nat → Nat} {ca : Nat → Nat} {mo : Nat} {ad : Nat → Nat} {o : Nat} {Q : State → Prop} (C0 : LCx p l s m c b L xs D G sa) {j : Nat} (hj : 7 * j + 6 < L) {u : MU} {H : Heap} {locs : List Loc} {ls : Array Slot} {cells slots : Nat} (hW : LW s D G ca mo ad o u H locs) (hl : lv_has ls 8 [(4, .int (nI (7 * j))), (3, .ref o), (2, .ref mo), (1, .ref (ca 0)), (0, .ref b)]) (hc : cells + 4 ≤ 603072 ∧ slots + 22 ≤ 7262314)
    (kk : ∀ (u : MU) (H : Heap) (locs : List Loc) (ls : Array Slot), LW s D G ca mo ad o u H locs → lv_has ls 8 [(4, .int (nI (7 * j))), (3, .ref o), (2, .ref mo), (1, .ref (ca 0)), (0, .ref b)] → W p l e room_1 s m #[Value.ref b] below meth c H locs (cells + 4) (slots + 22) Q (F0 m 1019 ls [])) : W p l e room_1 s m #[Value.ref b] below meth c H locs cells slots Q (F0 m 662 ls []) := by
  obtain ⟨hx, hb, hml, hown, hts, hX, hbl, hK, hXS, hXZ, hst, hL⟩ := id C0
  have hbA : ¬ (fun q : Nat => s.heap.size ≤ q) b := Nat.not_le.mpr hbl
  have hA : ∀ q : Nat, s.heap.size ≤ q → (fun q : Nat => s.heap.size ≤ q) q := fun _ h => h
  obtain ⟨σ, τ⟩ := u
  obtain ⟨f, z, ⟨n, k, w0, κ, x, hV, hC⟩, hP, hD, hS⟩ := hW
  have hP : va_P D vwCl ((mW G mo ad σ τ ++ [(o, .inl (G 1, 1, .inr (.inl f)))]) ++ z) H := hP
  have hD : va_D (fun q => s.heap.size ≤ q) ((mW G mo ad σ τ ++ [(o, .inl (G 1, 1, .inr (.inl f)))]) ++ z) := hD
  have hV : IV σ x τ κ n k w0 := hV
  have hC : CW G ca σ x κ k z := hC
  refine lv_aload_n hx hb dL_law_662 rfl (lv_at hl 3 rfl) ?_
  refine lv_aload_n hx hb dL_law_663 rfl (lv_at hl 4 rfl) ?_
  refine lv_iload hx hb dL_law_664 (lv_at hl 0 rfl) ?_
  refine lv_iconst (v := 1) hx hb dL_law_666 (by decide) ?_
  refine lv_iadd hx hb dL_law_667 ?_
  refine sld_n hx hb hX hbl hbA hS hL ((7 * j) + 1) (n_add (a := (7 * j)) (b := 1) rfl (rfl : (1 : Int32) = nI 1)) (by omega) dL_law_668 ?_
  refine lv_aload_n hx hb dL_law_669 rfl (lv_at hl 4 rfl) ?_
  refine lv_iload hx hb dL_law_670 (lv_at hl 0 rfl) ?_
  refine lv_iconst (v := 2) hx hb dL_law_672 (by decide) ?_
  refine lv_iadd hx hb dL_law_673 ?_
  refine sld_n hx hb hX hbl hbA hS hL ((7 * j) + 2) (n_add (a := (7 * j)) (b := 2) rfl (rfl : (2 : Int32) = nI 2)) (by omega) dL_law_674 ?_
  refine fr_Vc (wr := mW G mo ad σ τ ++ [(o, .inl (G 1, 1, .inr (.inl f)))]) (wc := z) (As := [.int (xs ((7 * j) + 1)), .int (xs ((7 * j) + 2))]) (rest := []) ⟨hx, hb, hml, hown, hts⟩ (u_shape l D G ca n k w0 σ x τ κ z _ hV hC (xs ((7 * j) + 1)) (xs ((7 * j) + 2))) gV_L_X7_shape hdV_X7_shape ⟨(Nat.le_of_ble_eq_true rfl), (Nat.le_of_ble_eq_true rfl)⟩ hK (hC.recv hK (fr_P hP)) hP hD hS hA rfl hl.1 rfl (Nat.le_of_ble_eq_true rfl) dL_law_675 ⟨(show cells + 0 ≤ 603072 by omega), (show slots + 0 ≤ 7262314 by omega)⟩ (fun z H locs hN hP hD hS => ?_)
  refine W.eq (g2 := F0 m 678 ls [.int ((oShape σ τ k (xs ((7 * j) + 1)) (xs ((7 * j) + 2))).1)]) rfl ?_
  refine lv_aload_n hx hb dL_law_678 rfl (lv_at hl 2 rfl) ?_
  refine lv_aload_n hx hb dL_law_679 rfl (lv_at hl 4 rfl) ?_
  refine lv_iload hx hb dL_law_680 (lv_at hl 0 rfl) ?_
  refine lv_iconst (v := 1) hx hb dL_law_682 (by decide) ?_
  refine lv_iadd hx hb dL_law_683 ?_
  refine sld_n hx hb hX hbl hbA hS hL ((7 * j) + 1) (n_add (a := (7 * j)) (b := 1) rfl (rfl : (1 : Int32) = nI 1)) (by omega) dL_law_684 ?_
  refine lv_aload_n hx hb dL_law_685 rfl (lv_at hl 4 rfl) ?_
  refine lv_iload hx hb dL_law_686 (lv_at hl 0 rfl) ?_
  refine lv_iconst (v := 2) hx hb dL_law_688 (by decide) ?_
  refine lv_iadd hx hb dL_law_689 ?_
  refine sld_n hx hb hX hbl hbA hS hL ((7 * j) + 2) (n_add (a := (7 * j)) (b := 2) rfl (rfl : (2 : Int32) = nI 2)) (by omega) dL_law_690 ?_
  have hP := P_perm hP pm_m
  have hD := D_perm pm_m hD
  have hP : va_P D vwCl (([(o, .inl (G 1, 1, .inr (.inl f)))] ++ z) ++ mW G mo ad σ τ) H := hP
  have hD : va_D (fun q => s.heap.size ≤ q) (([(o, .inl (G 1, 1, .inr (.inl f)))] ++ z) ++ mW G mo ad σ τ) := hD
  refine fr_Vm (wr := [(o, .inl (G 1, 1, .inr (.inl f)))] ++ z) (u := (σ, τ)) (v := (oShape σ τ k (xs ((7 * j) + 1)) (xs ((7 * j) + 2))).2) (mo := mo) (ad := ad) (As := [.int (xs ((7 * j) + 1)), .int (xs ((7 * j) + 2))]) (rest := [.int ((oShape σ τ k (xs ((7 * j) + 1)) (xs ((7 * j) + 2))).1)]) ⟨hx, hb, hml, hown, hts⟩ (m_shape l D G mo ad σ τ _ k hV.1.2.1.1 hV.1.2.1.2  (xs ((7 * j) + 1)) (xs ((7 * j) + 2)) ) gV_L_X8_shape hdV_X8_shape ⟨(Nat.le_of_ble_eq_true rfl), (Nat.le_of_ble_eq_true rfl)⟩ hK hP hD hS hA rfl hl.1 rfl (Nat.le_of_ble_eq_true rfl) dL_law_691 ⟨(show cells + 0 ≤ 603072 by omega), (show slots + 0 ≤ 7262314 by omega)⟩ (fun H locs hP hD hS => ?_)
  have hP := P_perm hP pm_r
  have hD := D_perm pm_r hD
  have hP : va_P D vwCl ((mW G mo ad (oShape σ τ k (xs ((7 * j) + 1)) (xs ((7 * j) + 2))).2.1 (oShape σ τ k (xs ((7 * j) + 1)) (xs ((7 * j) + 2))).2.2 ++ [(o, .inl (G 1, 1, .inr (.inl f)))]) ++ z) H := hP
  have hD : va_D (fun q => s.heap.size ≤ q) ((mW G mo ad (oShape σ τ k (xs ((7 * j) + 1)) (xs ((7 * j) + 2))).2.1 (oShape σ τ k (xs ((7 * j) + 1)) (xs ((7 * j) + 2))).2.2 ++ [(o, .inl (G 1, 1, .inr (.inl f)))]) ++ z) := hD
  refine W.eq (g2 := F0 m 694 ls [.int ((oShape σ τ k (xs ((7 * j) + 1)) (xs ((7 * j) + 2))).1), .int ((oShape σ τ k (xs ((7 * j) + 1)) (xs ((7 * j) + 2))).1)]) rfl ?_
  refine lv_icmp_eq (tgt := 1019) hx hb dL_law_694 (by decide) (fun hh => ?_) (fun hh => absurd rfl hh)
  refine W.widen (k := cells + 4) (n := slots + 22) (by omega) (by omega) ?_
  exact kk (oShape σ τ k (xs ((7 * j) + 1)) (xs ((7 * j) + 2))).2 _ _ _ ⟨f, z, hN, hP, hD, hS⟩ (lv_sub hl [0, 1, 2, 3, 4] rfl)
set_option maxHeartbeats 1600000 in
set_option maxRecDepth 100000 in
theorem lc_parameterOf {p : Program} {l : Launch} {e : Env} {s : State} {m : MethodId} {below : List Frame} {meth : Method} {c : Code} {b L : Nat} {xs : Nat → Int32} {D : va_G} {G : Nat → ClassId} {sa : Nat → Nat} {ca : Nat → Nat} {mo : Nat} {ad : Nat → Nat} {o : Nat} {Q : State → Prop} (C0 : LCx p l s m c b L xs D G sa) {j : Nat} (hj : 7 * j + 6 < L) {u : MU} {H : Heap} {locs : List Loc} {ls : Array Slot} {cells slots : Nat} (hW : LW s D G ca mo ad o u H locs) (hl : lv_has ls 8 [(4, .int (nI (7 * j))), (3, .ref o), (2, .ref mo), (1, .ref (ca 0)), (0, .ref b)]) (hc : cells + 4 ≤ 603072 ∧ slots + 22 ≤ 7262314)
    (kk : ∀ (u : MU) (H : Heap) (locs : List Loc) (ls : Array Slot), LW s D G ca mo ad o u H locs → lv_has ls 8 [(4, .int (nI (7 * j))), (3, .ref o), (2, .ref mo), (1, .ref (ca 0)), (0, .ref b)] → W p l e room_1 s m #[Value.ref b] below meth c H locs (cells + 4) (slots + 22) Q (F0 m 1019 ls [])) : W p l e room_1 s m #[Value.ref b] below meth c H locs cells slots Q (F0 m 699 ls []) := by
  obtain ⟨hx, hb, hml, hown, hts, hX, hbl, hK, hXS, hXZ, hst, hL⟩ := id C0
  have hbA : ¬ (fun q : Nat => s.heap.size ≤ q) b := Nat.not_le.mpr hbl
  have hA : ∀ q : Nat, s.heap.size ≤ q → (fun q : Nat => s.heap.size ≤ q) q := fun _ h => h
  obtain ⟨σ, τ⟩ := u
  obtain ⟨f, z, ⟨n, k, w0, κ, x, hV, hC⟩, hP, hD, hS⟩ := hW
  have hP : va_P D vwCl ((mW G mo ad σ τ ++ [(o, .inl (G 1, 1, .inr (.inl f)))]) ++ z) H := hP
  have hD : va_D (fun q => s.heap.size ≤ q) ((mW G mo ad σ τ ++ [(o, .inl (G 1, 1, .inr (.inl f)))]) ++ z) := hD
  have hV : IV σ x τ κ n k w0 := hV
  have hC : CW G ca σ x κ k z := hC
  refine lv_aload_n hx hb dL_law_699 rfl (lv_at hl 3 rfl) ?_
  refine lv_aload_n hx hb dL_law_700 rfl (lv_at hl 4 rfl) ?_
  refine lv_iload hx hb dL_law_701 (lv_at hl 0 rfl) ?_
  refine lv_iconst (v := 1) hx hb dL_law_703 (by decide) ?_
  refine lv_iadd hx hb dL_law_704 ?_
  refine sld_n hx hb hX hbl hbA hS hL ((7 * j) + 1) (n_add (a := (7 * j)) (b := 1) rfl (rfl : (1 : Int32) = nI 1)) (by omega) dL_law_705 ?_
  refine lv_aload_n hx hb dL_law_706 rfl (lv_at hl 4 rfl) ?_
  refine lv_iload hx hb dL_law_707 (lv_at hl 0 rfl) ?_
  refine lv_iconst (v := 2) hx hb dL_law_709 (by decide) ?_
  refine lv_iadd hx hb dL_law_710 ?_
  refine sld_n hx hb hX hbl hbA hS hL ((7 * j) + 2) (n_add (a := (7 * j)) (b := 2) rfl (rfl : (2 : Int32) = nI 2)) (by omega) dL_law_711 ?_
  refine lv_aload_n hx hb dL_law_712 rfl (lv_at hl 4 rfl) ?_
  refine lv_iload hx hb dL_law_713 (lv_at hl 0 rfl) ?_
  refine lv_iconst (v := 3) hx hb dL_law_715 (by decide) ?_
  refine lv_iadd hx hb dL_law_716 ?_
  refine sld_n hx hb hX hbl hbA hS hL ((7 * j) + 3) (n_add (a := (7 * j)) (b := 3) rfl (rfl : (3 : Int32) = nI 3)) (by omega) dL_law_717 ?_
  refine lv_if_eq (tgt := 725) hx hb dL_law_718 (by decide) (fun c1 => ?_) (fun c1 => ?_)
  · -- 718 taken
    refine lv_iconst (v := 0) hx hb dL_law_725 (by decide) ?_
    refine lv_aload_n hx hb dL_law_726 rfl (lv_at hl 1 rfl) ?_
    have hXZ1 : XZ F0' s H := (hXZ.kept (fun a ha hA9 => hS.2.1 a ha hA9)).narrow (fun q h => h.elim)
    have hP := P_perm hP pm_o
    have hD := D_perm pm_o hD
    have hP : va_P D vwCl ((mW G mo ad σ τ ++ z) ++ [(o, .inl (G 1, 1, .inr (.inl f)))]) H := hP
    have hD : va_D (fun q => s.heap.size ≤ q) ((mW G mo ad σ τ ++ z) ++ [(o, .inl (G 1, 1, .inr (.inl f)))]) := hD
    refine fr_H (wr := mW G mo ad σ τ ++ z) (f := f) (n := 5) (As := [.ref ((ca 0)), .int (xs ((7 * j) + 1)), .int (xs ((7 * j) + 2)), .int 0, .ref o]) (rest := []) ⟨hx, hb, hml, hown, hts⟩ (?hM : vx_Met l yL_parameterOf (.codeWith yL_parameterOf cL_parameterOf 6 (some .int) [(0, 12, 15, 13), (0, 12, 19, 15)] :: TT) (rmC 9 1 6) _ (va_Qi (fun r (f' : Nat → Int64) => r = (oParOf σ τ k (xs ((7 * j) + 1)) (xs ((7 * j) + 2)) 0).2.1 0 0 ∧ ((oParOf σ τ k (xs ((7 * j) + 1)) (xs ((7 * j) + 2)) 0).2.1 0 0 = 0 → f' 0 = (oParOf σ τ k (xs ((7 * j) + 1)) (xs ((7 * j) + 2)) 0).1.toInt64)) _ _) _ 1 6 _) (tt_S q_664 q_665 q_0 q_666) (by decide +kernel) ⟨(Nat.le_of_ble_eq_true rfl), (Nat.le_of_ble_eq_true rfl)⟩ hK hXS hXZ1 hP hD hS hA rfl hl.1 rfl (Nat.le_of_ble_eq_true rfl) dL_law_727 ⟨(show cells + 1 ≤ 603072 by omega), (show slots + 6 ≤ 7262314 by omega)⟩ (fun r f H locs hp hP hD hS => ?_)
    case hM =>
      obtain ⟨ea, ba, bg, pool, hE, hJ, rfl, hb9⟩ := id hC
      exact c_lparameterOf l D G H ca bg ea n k w0 σ x κ (cF_of (fr_P (fr_Pl hP))) (plE_P (fr_P (fr_Pl hP)) hE) hV.cI hst sa (xs ((7 * j) + 1)) (xs ((7 * j) + 2)) 0 τ o f (fr_P hP)
    obtain ⟨rfl, hpv⟩ := hp
    have hP := P_perm hP pm_o
    have hD := D_perm pm_o hD
    have hP : va_P D vwCl ((mW G mo ad σ τ ++ [(o, .inl (G 1, 1, .inr (.inl f)))]) ++ z) H := hP
    have hD : va_D (fun q => s.heap.size ≤ q) ((mW G mo ad σ τ ++ [(o, .inl (G 1, 1, .inr (.inl f)))]) ++ z) := hD
    refine W.eq (g2 := F0 m 730 ls [.int ((oParOf σ τ k (xs ((7 * j) + 1)) (xs ((7 * j) + 2)) 0).2.1 0 0)]) rfl ?_
    have hN := nx_par hV hC (xs ((7 * j) + 1)) (xs ((7 * j) + 2)) 0
    refine lv_istore (lv' := [(5, .int ((oParOf σ τ k (xs ((7 * j) + 1)) (xs ((7 * j) + 2)) 0).2.1 0 0)), (4, .int (nI (7 * j))), (3, .ref o), (2, .ref mo), (1, .ref ((ca 0))), (0, .ref b)]) hx hb dL_law_730 hl (by decide) rfl (fun ls hl => ?_)
    refine lv_aload_n hx hb dL_law_732 rfl (lv_at hl 3 rfl) ?_
    refine lv_aload_n hx hb dL_law_733 rfl (lv_at hl 5 rfl) ?_
    refine lv_iload hx hb dL_law_734 (lv_at hl 1 rfl) ?_
    refine lv_iconst (v := 1) hx hb dL_law_736 (by decide) ?_
    refine lv_iadd hx hb dL_law_737 ?_
    refine sld_n hx hb hX hbl hbA hS hL ((7 * j) + 1) (n_add (a := (7 * j)) (b := 1) rfl (rfl : (1 : Int32) = nI 1)) (by omega) dL_law_738 ?_
    refine lv_aload_n hx hb dL_law_739 rfl (lv_at hl 5 rfl) ?_
    refine lv_iload hx hb dL_law_740 (lv_at hl 1 rfl) ?_
    refine lv_iconst (v := 2) hx hb dL_law_742 (by decide) ?_
    refine lv_iadd hx hb dL_law_743 ?_
    refine sld_n hx hb hX hbl hbA hS hL ((7 * j) + 2) (n_add (a := (7 * j)) (b := 2) rfl (rfl : (2 : Int32) = nI 2)) (by omega) dL_law_744 ?_
    refine lv_aload_n hx hb dL_law_745 rfl (lv_at hl 5 rfl) ?_
    refine lv_iload hx hb dL_law_746 (lv_at hl 1 rfl) ?_
    refine lv_iconst (v := 3) hx hb dL_law_748 (by decide) ?_
    refine lv_iadd hx hb dL_law_749 ?_
    refine sld_n hx hb hX hbl hbA hS hL ((7 * j) + 3) (n_add (a := (7 * j)) (b := 3) rfl (rfl : (3 : Int32) = nI 3)) (by omega) dL_law_750 ?_
    refine lv_if_eq (tgt := 758) hx hb dL_law_751 (by decide) (fun hh => ?_) (fun hh => absurd c1 hh)
    refine lv_iconst (v := 0) hx hb dL_law_758 (by decide) ?_
    have hP := P_perm hP pm_m
    have hD := D_perm pm_m hD
    have hP : va_P D vwCl (([(o, .inl (G 1, 1, .inr (.inl f)))] ++ z) ++ mW G mo ad σ τ) H := hP
    have hD : va_D (fun q => s.heap.size ≤ q) (([(o, .inl (G 1, 1, .inr (.inl f)))] ++ z) ++ mW G mo ad σ τ) := hD
    refine fr_Vm (wr := [(o, .inl (G 1, 1, .inr (.inl f)))] ++ z) (u := (σ, τ)) (v := (oParOf σ τ k (xs ((7 * j) + 1)) (xs ((7 * j) + 2)) 0).2) (mo := mo) (ad := ad) (As := [.int (xs ((7 * j) + 1)), .int (xs ((7 * j) + 2)), .int 0]) (rest := []) ⟨hx, hb, hml, hown, hts⟩ (m_parameterOf l D G mo ad σ τ _ k hV.1.2.1.1 hV.1.2.1.2 hV.hm (xs ((7 * j) + 1)) (xs ((7 * j) + 2)) 0 ) gV_L_X8_parameterOf hdV_X8_parameterOf ⟨(Nat.le_of_ble_eq_true rfl), (Nat.le_of_ble_eq_true rfl)⟩ hK hP hD hS hA rfl hl.1 rfl (Nat.le_of_ble_eq_true rfl) dL_law_759 ⟨(show cells + 1 ≤ 603072 by omega), (show slots + 6 ≤ 7262314 by omega)⟩ (fun H locs hP hD hS => ?_)
    have hP := P_perm hP pm_r
    have hD := D_perm pm_r hD
    have hP : va_P D vwCl ((mW G mo ad (oParOf σ τ k (xs ((7 * j) + 1)) (xs ((7 * j) + 2)) 0).2.1 (oParOf σ τ k (xs ((7 * j) + 1)) (xs ((7 * j) + 2)) 0).2.2 ++ [(o, .inl (G 1, 1, .inr (.inl f)))]) ++ z) H := hP
    have hD : va_D (fun q => s.heap.size ≤ q) ((mW G mo ad (oParOf σ τ k (xs ((7 * j) + 1)) (xs ((7 * j) + 2)) 0).2.1 (oParOf σ τ k (xs ((7 * j) + 1)) (xs ((7 * j) + 2)) 0).2.2 ++ [(o, .inl (G 1, 1, .inr (.inl f)))]) ++ z) := hD
    refine W.eq (g2 := F0 m 762 ls [.int ((oParOf σ τ k (xs ((7 * j) + 1)) (xs ((7 * j) + 2)) 0).1)]) rfl ?_
    refine lv_istore (lv' := [(6, .int ((oParOf σ τ k (xs ((7 * j) + 1)) (xs ((7 * j) + 2)) 0).1)), (5, .int ((oParOf σ τ k (xs ((7 * j) + 1)) (xs ((7 * j) + 2)) 0).2.1 0 0)), (4, .int (nI (7 * j))), (3, .ref o), (2, .ref mo), (1, .ref ((ca 0))), (0, .ref b)]) hx hb dL_law_762 hl (by decide) rfl (fun ls hl => ?_)
    refine lv_aload_n hx hb dL_law_764 rfl (lv_at hl 4 rfl) ?_
    refine ro_Vi (D := D) (G := G) (As := []) (rest := []) ⟨hx, hb, hml, hown, hts⟩ (m_thrown l D G H mo ad _ _ (fr_Pl (fr_Pl hP))) gV_L_X8_thrown hdV_X8_thrown ⟨(Nat.le_of_ble_eq_true rfl), (Nat.le_of_ble_eq_true rfl)⟩ hK (va_recv hK.1 hP (ci := 8) (q0 := 0) rfl rfl) rfl hl.1 rfl (Nat.le_of_ble_eq_true rfl) dL_law_765 ⟨(show cells + 1 ≤ 603072 by omega), (show slots + 6 ≤ 7262314 by omega)⟩ (fun r3 e_r3 => ?_)
    subst e_r3
    refine W.eq (g2 := F0 m 768 ls [.int ((oParOf σ τ k (xs ((7 * j) + 1)) (xs ((7 * j) + 2)) 0).2.1 0 0)]) rfl ?_
    refine lv_iload hx hb dL_law_768 (lv_at hl 1 rfl) ?_
    refine lv_icmp_eq (tgt := 775) hx hb dL_law_770 (by decide) (fun hh => ?_) (fun hh => absurd rfl hh)
    refine lv_iload hx hb dL_law_775 (lv_at hl 1 rfl) ?_
    refine lv_if_ne (tgt := 792) hx hb dL_law_777 (by decide) (fun c4 => ?_) (fun c4 => ?_)
    · -- 777 taken
      refine lv_goto (tgt := 1019) hx hb dL_law_792 (by decide) ?_
      refine W.widen (k := cells + 4) (n := slots + 22) (by omega) (by omega) ?_
      exact kk (oParOf σ τ k (xs ((7 * j) + 1)) (xs ((7 * j) + 2)) 0).2 _ _ _ ⟨f, z, hN, hP, hD, hS⟩ (lv_sub hl [2, 3, 4, 5, 6] rfl)
    · -- 777 not
      refine lv_aload_n hx hb dL_law_780 rfl (lv_at hl 3 rfl) ?_
      refine lv_iconst (v := 0) hx hb dL_law_781 (by decide) ?_
      refine lald_n (f := f) hx hb hK.1 hP 27 1 rfl rfl (0) rfl (by decide) (by decide) dL_law_782 ?_
      refine lv_iload hx hb dL_law_783 (lv_at hl 0 rfl) ?_
      refine lv_i2l hx hb dL_law_785 rfl ?_
      refine W.lcmp hx hb dL_law_786 ?_
      refine lv_if_eq (tgt := 792) hx hb dL_law_787 (by decide) (fun hh => ?_) (fun hh => absurd ((lg_cmp_eq _ _).mpr (hpv c4)) hh)
      refine lv_goto (tgt := 1019) hx hb dL_law_792 (by decide) ?_
      refine W.widen (k := cells + 4) (n := slots + 22) (by omega) (by omega) ?_
      exact kk (oParOf σ τ k (xs ((7 * j) + 1)) (xs ((7 * j) + 2)) 0).2 _ _ _ ⟨f, z, hN, hP, hD, hS⟩ (lv_sub hl [2, 3, 4, 5, 6] rfl)
  · -- 718 not
    refine lv_iconst (v := 1) hx hb dL_law_721 (by decide) ?_
    refine lv_goto (tgt := 726) hx hb dL_law_722 (by decide) ?_
    refine lv_aload_n hx hb dL_law_726 rfl (lv_at hl 1 rfl) ?_
    have hXZ1 : XZ F0' s H := (hXZ.kept (fun a ha hA9 => hS.2.1 a ha hA9)).narrow (fun q h => h.elim)
    have hP := P_perm hP pm_o
    have hD := D_perm pm_o hD
    have hP : va_P D vwCl ((mW G mo ad σ τ ++ z) ++ [(o, .inl (G 1, 1, .inr (.inl f)))]) H := hP
    have hD : va_D (fun q => s.heap.size ≤ q) ((mW G mo ad σ τ ++ z) ++ [(o, .inl (G 1, 1, .inr (.inl f)))]) := hD
    refine fr_H (wr := mW G mo ad σ τ ++ z) (f := f) (n := 5) (As := [.ref ((ca 0)), .int (xs ((7 * j) + 1)), .int (xs ((7 * j) + 2)), .int 1, .ref o]) (rest := []) ⟨hx, hb, hml, hown, hts⟩ (?hM : vx_Met l yL_parameterOf (.codeWith yL_parameterOf cL_parameterOf 6 (some .int) [(0, 12, 15, 13), (0, 12, 19, 15)] :: TT) (rmC 9 1 6) _ (va_Qi (fun r (f' : Nat → Int64) => r = (oParOf σ τ k (xs ((7 * j) + 1)) (xs ((7 * j) + 2)) 1).2.1 0 0 ∧ ((oParOf σ τ k (xs ((7 * j) + 1)) (xs ((7 * j) + 2)) 1).2.1 0 0 = 0 → f' 0 = (oParOf σ τ k (xs ((7 * j) + 1)) (xs ((7 * j) + 2)) 1).1.toInt64)) _ _) _ 1 6 _) (tt_S q_664 q_665 q_0 q_666) (by decide +kernel) ⟨(Nat.le_of_ble_eq_true rfl), (Nat.le_of_ble_eq_true rfl)⟩ hK hXS hXZ1 hP hD hS hA rfl hl.1 rfl (Nat.le_of_ble_eq_true rfl) dL_law_727 ⟨(show cells + 1 ≤ 603072 by omega), (show slots + 6 ≤ 7262314 by omega)⟩ (fun r f H locs hp hP hD hS => ?_)
    case hM =>
      obtain ⟨ea, ba, bg, pool, hE, hJ, rfl, hb9⟩ := id hC
      exact c_lparameterOf l D G H ca bg ea n k w0 σ x κ (cF_of (fr_P (fr_Pl hP))) (plE_P (fr_P (fr_Pl hP)) hE) hV.cI hst sa (xs ((7 * j) + 1)) (xs ((7 * j) + 2)) 1 τ o f (fr_P hP)
    obtain ⟨rfl, hpv⟩ := hp
    have hP := P_perm hP pm_o
    have hD := D_perm pm_o hD
    have hP : va_P D vwCl ((mW G mo ad σ τ ++ [(o, .inl (G 1, 1, .inr (.inl f)))]) ++ z) H := hP
    have hD : va_D (fun q => s.heap.size ≤ q) ((mW G mo ad σ τ ++ [(o, .inl (G 1, 1, .inr (.inl f)))]) ++ z) := hD
    refine W.eq (g2 := F0 m 730 ls [.int ((oParOf σ τ k (xs ((7 * j) + 1)) (xs ((7 * j) + 2)) 1).2.1 0 0)]) rfl ?_
    have hN := nx_par hV hC (xs ((7 * j) + 1)) (xs ((7 * j) + 2)) 1
    refine lv_istore (lv' := [(5, .int ((oParOf σ τ k (xs ((7 * j) + 1)) (xs ((7 * j) + 2)) 1).2.1 0 0)), (4, .int (nI (7 * j))), (3, .ref o), (2, .ref mo), (1, .ref ((ca 0))), (0, .ref b)]) hx hb dL_law_730 hl (by decide) rfl (fun ls hl => ?_)
    refine lv_aload_n hx hb dL_law_732 rfl (lv_at hl 3 rfl) ?_
    refine lv_aload_n hx hb dL_law_733 rfl (lv_at hl 5 rfl) ?_
    refine lv_iload hx hb dL_law_734 (lv_at hl 1 rfl) ?_
    refine lv_iconst (v := 1) hx hb dL_law_736 (by decide) ?_
    refine lv_iadd hx hb dL_law_737 ?_
    refine sld_n hx hb hX hbl hbA hS hL ((7 * j) + 1) (n_add (a := (7 * j)) (b := 1) rfl (rfl : (1 : Int32) = nI 1)) (by omega) dL_law_738 ?_
    refine lv_aload_n hx hb dL_law_739 rfl (lv_at hl 5 rfl) ?_
    refine lv_iload hx hb dL_law_740 (lv_at hl 1 rfl) ?_
    refine lv_iconst (v := 2) hx hb dL_law_742 (by decide) ?_
    refine lv_iadd hx hb dL_law_743 ?_
    refine sld_n hx hb hX hbl hbA hS hL ((7 * j) + 2) (n_add (a := (7 * j)) (b := 2) rfl (rfl : (2 : Int32) = nI 2)) (by omega) dL_law_744 ?_
    refine lv_aload_n hx hb dL_law_745 rfl (lv_at hl 5 rfl) ?_
    refine lv_iload hx hb dL_law_746 (lv_at hl 1 rfl) ?_
    refine lv_iconst (v := 3) hx hb dL_law_748 (by decide) ?_
    refine lv_iadd hx hb dL_law_749 ?_
    refine sld_n hx hb hX hbl hbA hS hL ((7 * j) + 3) (n_add (a := (7 * j)) (b := 3) rfl (rfl : (3 : Int32) = nI 3)) (by omega) dL_law_750 ?_
    refine lv_if_eq (tgt := 758) hx hb dL_law_751 (by decide) (fun hh => absurd hh c1) (fun hh => ?_)
    refine lv_iconst (v := 1) hx hb dL_law_754 (by decide) ?_
    refine lv_goto (tgt := 759) hx hb dL_law_755 (by decide) ?_
    have hP := P_perm hP pm_m
    have hD := D_perm pm_m hD
    have hP : va_P D vwCl (([(o, .inl (G 1, 1, .inr (.inl f)))] ++ z) ++ mW G mo ad σ τ) H := hP
    have hD : va_D (fun q => s.heap.size ≤ q) (([(o, .inl (G 1, 1, .inr (.inl f)))] ++ z) ++ mW G mo ad σ τ) := hD
    refine fr_Vm (wr := [(o, .inl (G 1, 1, .inr (.inl f)))] ++ z) (u := (σ, τ)) (v := (oParOf σ τ k (xs ((7 * j) + 1)) (xs ((7 * j) + 2)) 1).2) (mo := mo) (ad := ad) (As := [.int (xs ((7 * j) + 1)), .int (xs ((7 * j) + 2)), .int 1]) (rest := []) ⟨hx, hb, hml, hown, hts⟩ (m_parameterOf l D G mo ad σ τ _ k hV.1.2.1.1 hV.1.2.1.2 hV.hm (xs ((7 * j) + 1)) (xs ((7 * j) + 2)) 1 ) gV_L_X8_parameterOf hdV_X8_parameterOf ⟨(Nat.le_of_ble_eq_true rfl), (Nat.le_of_ble_eq_true rfl)⟩ hK hP hD hS hA rfl hl.1 rfl (Nat.le_of_ble_eq_true rfl) dL_law_759 ⟨(show cells + 1 ≤ 603072 by omega), (show slots + 6 ≤ 7262314 by omega)⟩ (fun H locs hP hD hS => ?_)
    have hP := P_perm hP pm_r
    have hD := D_perm pm_r hD
    have hP : va_P D vwCl ((mW G mo ad (oParOf σ τ k (xs ((7 * j) + 1)) (xs ((7 * j) + 2)) 1).2.1 (oParOf σ τ k (xs ((7 * j) + 1)) (xs ((7 * j) + 2)) 1).2.2 ++ [(o, .inl (G 1, 1, .inr (.inl f)))]) ++ z) H := hP
    have hD : va_D (fun q => s.heap.size ≤ q) ((mW G mo ad (oParOf σ τ k (xs ((7 * j) + 1)) (xs ((7 * j) + 2)) 1).2.1 (oParOf σ τ k (xs ((7 * j) + 1)) (xs ((7 * j) + 2)) 1).2.2 ++ [(o, .inl (G 1, 1, .inr (.inl f)))]) ++ z) := hD
    refine W.eq (g2 := F0 m 762 ls [.int ((oParOf σ τ k (xs ((7 * j) + 1)) (xs ((7 * j) + 2)) 1).1)]) rfl ?_
    refine lv_istore (lv' := [(6, .int ((oParOf σ τ k (xs ((7 * j) + 1)) (xs ((7 * j) + 2)) 1).1)), (5, .int ((oParOf σ τ k (xs ((7 * j) + 1)) (xs ((7 * j) + 2)) 1).2.1 0 0)), (4, .int (nI (7 * j))), (3, .ref o), (2, .ref mo), (1, .ref ((ca 0))), (0, .ref b)]) hx hb dL_law_762 hl (by decide) rfl (fun ls hl => ?_)
    refine lv_aload_n hx hb dL_law_764 rfl (lv_at hl 4 rfl) ?_
    refine ro_Vi (D := D) (G := G) (As := []) (rest := []) ⟨hx, hb, hml, hown, hts⟩ (m_thrown l D G H mo ad _ _ (fr_Pl (fr_Pl hP))) gV_L_X8_thrown hdV_X8_thrown ⟨(Nat.le_of_ble_eq_true rfl), (Nat.le_of_ble_eq_true rfl)⟩ hK (va_recv hK.1 hP (ci := 8) (q0 := 0) rfl rfl) rfl hl.1 rfl (Nat.le_of_ble_eq_true rfl) dL_law_765 ⟨(show cells + 1 ≤ 603072 by omega), (show slots + 6 ≤ 7262314 by omega)⟩ (fun r6 e_r6 => ?_)
    subst e_r6
    refine W.eq (g2 := F0 m 768 ls [.int ((oParOf σ τ k (xs ((7 * j) + 1)) (xs ((7 * j) + 2)) 1).2.1 0 0)]) rfl ?_
    refine lv_iload hx hb dL_law_768 (lv_at hl 1 rfl) ?_
    refine lv_icmp_eq (tgt := 775) hx hb dL_law_770 (by decide) (fun hh => ?_) (fun hh => absurd rfl hh)
    refine lv_iload hx hb dL_law_775 (lv_at hl 1 rfl) ?_
    refine lv_if_ne (tgt := 792) hx hb dL_law_777 (by decide) (fun c7 => ?_) (fun c7 => ?_)
    · -- 777 taken
      refine lv_goto (tgt := 1019) hx hb dL_law_792 (by decide) ?_
      refine W.widen (k := cells + 4) (n := slots + 22) (by omega) (by omega) ?_
      exact kk (oParOf σ τ k (xs ((7 * j) + 1)) (xs ((7 * j) + 2)) 1).2 _ _ _ ⟨f, z, hN, hP, hD, hS⟩ (lv_sub hl [2, 3, 4, 5, 6] rfl)
    · -- 777 not
      refine lv_aload_n hx hb dL_law_780 rfl (lv_at hl 3 rfl) ?_
      refine lv_iconst (v := 0) hx hb dL_law_781 (by decide) ?_
      refine lald_n (f := f) hx hb hK.1 hP 27 1 rfl rfl (0) rfl (by decide) (by decide) dL_law_782 ?_
      refine lv_iload hx hb dL_law_783 (lv_at hl 0 rfl) ?_
      refine lv_i2l hx hb dL_law_785 rfl ?_
      refine W.lcmp hx hb dL_law_786 ?_
      refine lv_if_eq (tgt := 792) hx hb dL_law_787 (by decide) (fun hh => ?_) (fun hh => absurd ((lg_cmp_eq _ _).mpr (hpv c7)) hh)
      refine lv_goto (tgt := 1019) hx hb dL_law_792 (by decide) ?_
      refine W.widen (k := cells + 4) (n := slots + 22) (by omega) (by omega) ?_
      exact kk (oParOf σ τ k (xs ((7 * j) + 1)) (xs ((7 * j) + 2)) 1).2 _ _ _ ⟨f, z, hN, hP, hD, hS⟩ (lv_sub hl [2, 3, 4, 5, 6] rfl)
set_option maxHeartbeats 1600000 in
set_option maxRecDepth 100000 in
theorem lc_sought {p : Program} {l : Launch} {e : Env} {s : State} {m : MethodId} {below : List Frame} {meth : Method} {c : Code} {b L : Nat} {xs : Nat → Int32} {D : va_G} {G : Nat → ClassId} {sa : Nat → Nat} {ca : Nat → Nat} {mo : Nat} {ad : Nat → Nat} {o : Nat} {Q : State → Prop} (C0 : LCx p l s m c b L xs D G sa) {j : Nat} (hj : 7 * j + 6 < L) {u : MU} {H : Heap} {locs : List Loc} {ls : Array Slot} {cells slots : Nat} (hW : LW s D G ca mo ad o u H locs) (hl : lv_has ls 8 [(4, .int (nI (7 * j))), (3, .ref o), (2, .ref mo), (1, .ref (ca 0)), (0, .ref b)]) (hc : cells + 4 ≤ 603072 ∧ slots + 22 ≤ 7262314)
    (kk : ∀ (u : MU) (H : Heap) (locs : List Loc) (ls : Array Slot), LW s D G ca mo ad o u H locs → lv_has ls 8 [(4, .int (nI (7 * j))), (3, .ref o), (2, .ref mo), (1, .ref (ca 0)), (0, .ref b)] → W p l e room_1 s m #[Value.ref b] below meth c H locs (cells + 4) (slots + 22) Q (F0 m 1019 ls [])) : W p l e room_1 s m #[Value.ref b] below meth c H locs cells slots Q (F0 m 795 ls []) := by
  obtain ⟨hx, hb, hml, hown, hts, hX, hbl, hK, hXS, hXZ, hst, hL⟩ := id C0
  have hbA : ¬ (fun q : Nat => s.heap.size ≤ q) b := Nat.not_le.mpr hbl
  have hA : ∀ q : Nat, s.heap.size ≤ q → (fun q : Nat => s.heap.size ≤ q) q := fun _ h => h
  obtain ⟨σ, τ⟩ := u
  obtain ⟨f, z, ⟨n, k, w0, κ, x, hV, hC⟩, hP, hD, hS⟩ := hW
  have hP : va_P D vwCl ((mW G mo ad σ τ ++ [(o, .inl (G 1, 1, .inr (.inl f)))]) ++ z) H := hP
  have hD : va_D (fun q => s.heap.size ≤ q) ((mW G mo ad σ τ ++ [(o, .inl (G 1, 1, .inr (.inl f)))]) ++ z) := hD
  have hV : IV σ x τ κ n k w0 := hV
  have hC : CW G ca σ x κ k z := hC
  refine lv_aload_n hx hb dL_law_795 rfl (lv_at hl 3 rfl) ?_
  refine lv_aload_n hx hb dL_law_796 rfl (lv_at hl 4 rfl) ?_
  refine lv_iload hx hb dL_law_797 (lv_at hl 0 rfl) ?_
  refine lv_iconst (v := 1) hx hb dL_law_799 (by decide) ?_
  refine lv_iadd hx hb dL_law_800 ?_
  refine sld_n hx hb hX hbl hbA hS hL ((7 * j) + 1) (n_add (a := (7 * j)) (b := 1) rfl (rfl : (1 : Int32) = nI 1)) (by omega) dL_law_801 ?_
  refine lv_aload_n hx hb dL_law_802 rfl (lv_at hl 4 rfl) ?_
  refine lv_iload hx hb dL_law_803 (lv_at hl 0 rfl) ?_
  refine lv_iconst (v := 2) hx hb dL_law_805 (by decide) ?_
  refine lv_iadd hx hb dL_law_806 ?_
  refine sld_n hx hb hX hbl hbA hS hL ((7 * j) + 2) (n_add (a := (7 * j)) (b := 2) rfl (rfl : (2 : Int32) = nI 2)) (by omega) dL_law_807 ?_
  refine fr_Vc (wr := mW G mo ad σ τ ++ [(o, .inl (G 1, 1, .inr (.inl f)))]) (wc := z) (As := [.int (xs ((7 * j) + 1)), .int (xs ((7 * j) + 2))]) (rest := []) ⟨hx, hb, hml, hown, hts⟩ (u_sought l D G ca n k w0 σ x τ κ z _ hV hC (xs ((7 * j) + 1)) (xs ((7 * j) + 2))) gV_L_X7_sought hdV_X7_sought ⟨(Nat.le_of_ble_eq_true rfl), (Nat.le_of_ble_eq_true rfl)⟩ hK (hC.recv hK (fr_P hP)) hP hD hS hA rfl hl.1 rfl (Nat.le_of_ble_eq_true rfl) dL_law_808 ⟨(show cells + 0 ≤ 603072 by omega), (show slots + 0 ≤ 7262314 by omega)⟩ (fun z H locs hN hP hD hS => ?_)
  refine W.eq (g2 := F0 m 811 ls [.int ((oSought σ τ n k (xs ((7 * j) + 1)) (xs ((7 * j) + 2))).1)]) rfl ?_
  refine lv_aload_n hx hb dL_law_811 rfl (lv_at hl 2 rfl) ?_
  refine lv_aload_n hx hb dL_law_812 rfl (lv_at hl 4 rfl) ?_
  refine lv_iload hx hb dL_law_813 (lv_at hl 0 rfl) ?_
  refine lv_iconst (v := 1) hx hb dL_law_815 (by decide) ?_
  refine lv_iadd hx hb dL_law_816 ?_
  refine sld_n hx hb hX hbl hbA hS hL ((7 * j) + 1) (n_add (a := (7 * j)) (b := 1) rfl (rfl : (1 : Int32) = nI 1)) (by omega) dL_law_817 ?_
  refine lv_aload_n hx hb dL_law_818 rfl (lv_at hl 4 rfl) ?_
  refine lv_iload hx hb dL_law_819 (lv_at hl 0 rfl) ?_
  refine lv_iconst (v := 2) hx hb dL_law_821 (by decide) ?_
  refine lv_iadd hx hb dL_law_822 ?_
  refine sld_n hx hb hX hbl hbA hS hL ((7 * j) + 2) (n_add (a := (7 * j)) (b := 2) rfl (rfl : (2 : Int32) = nI 2)) (by omega) dL_law_823 ?_
  have hP := P_perm hP pm_m
  have hD := D_perm pm_m hD
  have hP : va_P D vwCl (([(o, .inl (G 1, 1, .inr (.inl f)))] ++ z) ++ mW G mo ad σ τ) H := hP
  have hD : va_D (fun q => s.heap.size ≤ q) (([(o, .inl (G 1, 1, .inr (.inl f)))] ++ z) ++ mW G mo ad σ τ) := hD
  refine fr_Vm (wr := [(o, .inl (G 1, 1, .inr (.inl f)))] ++ z) (u := (σ, τ)) (v := (oSought σ τ n k (xs ((7 * j) + 1)) (xs ((7 * j) + 2))).2) (mo := mo) (ad := ad) (As := [.int (xs ((7 * j) + 1)), .int (xs ((7 * j) + 2))]) (rest := [.int ((oSought σ τ n k (xs ((7 * j) + 1)) (xs ((7 * j) + 2))).1)]) ⟨hx, hb, hml, hown, hts⟩ (m_sought l D G mo ad σ τ _ n hV.1.1.1 hV.1.1.2 k hV.1.2.1.1 hV.1.2.1.2 (by omega) (TI.pa hV.2.1) (TI.fc hV.2.1) (TI.ea hV.2.1) (xs ((7 * j) + 1)) (xs ((7 * j) + 2)) ) gV_L_X8_sought hdV_X8_sought ⟨(Nat.le_of_ble_eq_true rfl), (Nat.le_of_ble_eq_true rfl)⟩ hK hP hD hS hA rfl hl.1 rfl (Nat.le_of_ble_eq_true rfl) dL_law_824 ⟨(show cells + 0 ≤ 603072 by omega), (show slots + 0 ≤ 7262314 by omega)⟩ (fun H locs hP hD hS => ?_)
  have hP := P_perm hP pm_r
  have hD := D_perm pm_r hD
  have hP : va_P D vwCl ((mW G mo ad (oSought σ τ n k (xs ((7 * j) + 1)) (xs ((7 * j) + 2))).2.1 (oSought σ τ n k (xs ((7 * j) + 1)) (xs ((7 * j) + 2))).2.2 ++ [(o, .inl (G 1, 1, .inr (.inl f)))]) ++ z) H := hP
  have hD : va_D (fun q => s.heap.size ≤ q) ((mW G mo ad (oSought σ τ n k (xs ((7 * j) + 1)) (xs ((7 * j) + 2))).2.1 (oSought σ τ n k (xs ((7 * j) + 1)) (xs ((7 * j) + 2))).2.2 ++ [(o, .inl (G 1, 1, .inr (.inl f)))]) ++ z) := hD
  refine W.eq (g2 := F0 m 827 ls [.int ((oSought σ τ n k (xs ((7 * j) + 1)) (xs ((7 * j) + 2))).1), .int ((oSought σ τ n k (xs ((7 * j) + 1)) (xs ((7 * j) + 2))).1)]) rfl ?_
  refine lv_icmp_eq (tgt := 1019) hx hb dL_law_827 (by decide) (fun hh => ?_) (fun hh => absurd rfl hh)
  refine W.widen (k := cells + 4) (n := slots + 22) (by omega) (by omega) ?_
  exact kk (oSought σ τ n k (xs ((7 * j) + 1)) (xs ((7 * j) + 2))).2 _ _ _ ⟨f, z, hN, hP, hD, hS⟩ (lv_sub hl [0, 1, 2, 3, 4] rfl)
set_option maxHeartbeats 1600000 in
set_option maxRecDepth 100000 in
theorem lc_argument {p : Program} {l : Launch} {e : Env} {s : State} {m : MethodId} {below : List Frame} {meth : Method} {c : Code} {b L : Nat} {xs : Nat → Int32} {D : va_G} {G : Nat → ClassId} {sa : Nat → Nat} {ca : Nat → Nat} {mo : Nat} {ad : Nat → Nat} {o : Nat} {Q : State → Prop} (C0 : LCx p l s m c b L xs D G sa) {j : Nat} (hj : 7 * j + 6 < L) {u : MU} {H : Heap} {locs : List Loc} {ls : Array Slot} {cells slots : Nat} (hW : LW s D G ca mo ad o u H locs) (hl : lv_has ls 8 [(4, .int (nI (7 * j))), (3, .ref o), (2, .ref mo), (1, .ref (ca 0)), (0, .ref b)]) (hc : cells + 4 ≤ 603072 ∧ slots + 22 ≤ 7262314)
    (kk : ∀ (u : MU) (H : Heap) (locs : List Loc) (ls : Array Slot), LW s D G ca mo ad o u H locs → lv_has ls 8 [(4, .int (nI (7 * j))), (3, .ref o), (2, .ref mo), (1, .ref (ca 0)), (0, .ref b)] → W p l e room_1 s m #[Value.ref b] below meth c H locs (cells + 4) (slots + 22) Q (F0 m 1019 ls [])) : W p l e room_1 s m #[Value.ref b] below meth c H locs cells slots Q (F0 m 832 ls []) := by
  obtain ⟨hx, hb, hml, hown, hts, hX, hbl, hK, hXS, hXZ, hst, hL⟩ := id C0
  have hbA : ¬ (fun q : Nat => s.heap.size ≤ q) b := Nat.not_le.mpr hbl
  have hA : ∀ q : Nat, s.heap.size ≤ q → (fun q : Nat => s.heap.size ≤ q) q := fun _ h => h
  obtain ⟨σ, τ⟩ := u
  obtain ⟨f, z, ⟨n, k, w0, κ, x, hV, hC⟩, hP, hD, hS⟩ := hW
  have hP : va_P D vwCl ((mW G mo ad σ τ ++ [(o, .inl (G 1, 1, .inr (.inl f)))]) ++ z) H := hP
  have hD : va_D (fun q => s.heap.size ≤ q) ((mW G mo ad σ τ ++ [(o, .inl (G 1, 1, .inr (.inl f)))]) ++ z) := hD
  have hV : IV σ x τ κ n k w0 := hV
  have hC : CW G ca σ x κ k z := hC
  refine lv_aload_n hx hb dL_law_832 rfl (lv_at hl 3 rfl) ?_
  refine lv_aload_n hx hb dL_law_833 rfl (lv_at hl 4 rfl) ?_
  refine lv_iload hx hb dL_law_834 (lv_at hl 0 rfl) ?_
  refine lv_iconst (v := 1) hx hb dL_law_836 (by decide) ?_
  refine lv_iadd hx hb dL_law_837 ?_
  refine sld_n hx hb hX hbl hbA hS hL ((7 * j) + 1) (n_add (a := (7 * j)) (b := 1) rfl (rfl : (1 : Int32) = nI 1)) (by omega) dL_law_838 ?_
  refine lv_aload_n hx hb dL_law_839 rfl (lv_at hl 4 rfl) ?_
  refine lv_iload hx hb dL_law_840 (lv_at hl 0 rfl) ?_
  refine lv_iconst (v := 2) hx hb dL_law_842 (by decide) ?_
  refine lv_iadd hx hb dL_law_843 ?_
  refine sld_n hx hb hX hbl hbA hS hL ((7 * j) + 2) (n_add (a := (7 * j)) (b := 2) rfl (rfl : (2 : Int32) = nI 2)) (by omega) dL_law_844 ?_
  refine fr_Vc (wr := mW G mo ad σ τ ++ [(o, .inl (G 1, 1, .inr (.inl f)))]) (wc := z) (As := [.int (xs ((7 * j) + 1)), .int (xs ((7 * j) + 2))]) (rest := []) ⟨hx, hb, hml, hown, hts⟩ (u_argument l D G ca n k w0 σ x τ κ z _ hV hC (xs ((7 * j) + 1)) (xs ((7 * j) + 2))) gV_L_X7_argument hdV_X7_argument ⟨(Nat.le_of_ble_eq_true rfl), (Nat.le_of_ble_eq_true rfl)⟩ hK (hC.recv hK (fr_P hP)) hP hD hS hA rfl hl.1 rfl (Nat.le_of_ble_eq_true rfl) dL_law_845 ⟨(show cells + 0 ≤ 603072 by omega), (show slots + 0 ≤ 7262314 by omega)⟩ (fun z H locs hN hP hD hS => ?_)
  refine W.eq (g2 := F0 m 848 ls [.int ((oArg σ τ n w0 (xs ((7 * j) + 1)) (xs ((7 * j) + 2))).1)]) rfl ?_
  refine lv_aload_n hx hb dL_law_848 rfl (lv_at hl 2 rfl) ?_
  refine lv_aload_n hx hb dL_law_849 rfl (lv_at hl 4 rfl) ?_
  refine lv_iload hx hb dL_law_850 (lv_at hl 0 rfl) ?_
  refine lv_iconst (v := 1) hx hb dL_law_852 (by decide) ?_
  refine lv_iadd hx hb dL_law_853 ?_
  refine sld_n hx hb hX hbl hbA hS hL ((7 * j) + 1) (n_add (a := (7 * j)) (b := 1) rfl (rfl : (1 : Int32) = nI 1)) (by omega) dL_law_854 ?_
  refine lv_aload_n hx hb dL_law_855 rfl (lv_at hl 4 rfl) ?_
  refine lv_iload hx hb dL_law_856 (lv_at hl 0 rfl) ?_
  refine lv_iconst (v := 2) hx hb dL_law_858 (by decide) ?_
  refine lv_iadd hx hb dL_law_859 ?_
  refine sld_n hx hb hX hbl hbA hS hL ((7 * j) + 2) (n_add (a := (7 * j)) (b := 2) rfl (rfl : (2 : Int32) = nI 2)) (by omega) dL_law_860 ?_
  have hP := P_perm hP pm_m
  have hD := D_perm pm_m hD
  have hP : va_P D vwCl (([(o, .inl (G 1, 1, .inr (.inl f)))] ++ z) ++ mW G mo ad σ τ) H := hP
  have hD : va_D (fun q => s.heap.size ≤ q) (([(o, .inl (G 1, 1, .inr (.inl f)))] ++ z) ++ mW G mo ad σ τ) := hD
  refine fr_Vm (wr := [(o, .inl (G 1, 1, .inr (.inl f)))] ++ z) (u := (σ, τ)) (v := (oArg σ τ n w0 (xs ((7 * j) + 1)) (xs ((7 * j) + 2))).2) (mo := mo) (ad := ad) (As := [.int (xs ((7 * j) + 1)), .int (xs ((7 * j) + 2))]) (rest := [.int ((oArg σ τ n w0 (xs ((7 * j) + 1)) (xs ((7 * j) + 2))).1)]) ⟨hx, hb, hml, hown, hts⟩ (m_argument l D G mo ad σ τ _ n hV.1.1.1 hV.1.1.2 w0 hV.1.2.2.1 hV.1.2.2.2  (xs ((7 * j) + 1)) (xs ((7 * j) + 2)) ) gV_L_X8_argument hdV_X8_argument ⟨(Nat.le_of_ble_eq_true rfl), (Nat.le_of_ble_eq_true rfl)⟩ hK hP hD hS hA rfl hl.1 rfl (Nat.le_of_ble_eq_true rfl) dL_law_861 ⟨(show cells + 0 ≤ 603072 by omega), (show slots + 0 ≤ 7262314 by omega)⟩ (fun H locs hP hD hS => ?_)
  have hP := P_perm hP pm_r
  have hD := D_perm pm_r hD
  have hP : va_P D vwCl ((mW G mo ad (oArg σ τ n w0 (xs ((7 * j) + 1)) (xs ((7 * j) + 2))).2.1 (oArg σ τ n w0 (xs ((7 * j) + 1)) (xs ((7 * j) + 2))).2.2 ++ [(o, .inl (G 1, 1, .inr (.inl f)))]) ++ z) H := hP
  have hD : va_D (fun q => s.heap.size ≤ q) ((mW G mo ad (oArg σ τ n w0 (xs ((7 * j) + 1)) (xs ((7 * j) + 2))).2.1 (oArg σ τ n w0 (xs ((7 * j) + 1)) (xs ((7 * j) + 2))).2.2 ++ [(o, .inl (G 1, 1, .inr (.inl f)))]) ++ z) := hD
  refine W.eq (g2 := F0 m 864 ls [.int ((oArg σ τ n w0 (xs ((7 * j) + 1)) (xs ((7 * j) + 2))).1), .int ((oArg σ τ n w0 (xs ((7 * j) + 1)) (xs ((7 * j) + 2))).1)]) rfl ?_
  refine lv_icmp_eq (tgt := 1019) hx hb dL_law_864 (by decide) (fun hh => ?_) (fun hh => absurd rfl hh)
  refine W.widen (k := cells + 4) (n := slots + 22) (by omega) (by omega) ?_
  exact kk (oArg σ τ n w0 (xs ((7 * j) + 1)) (xs ((7 * j) + 2))).2 _ _ _ ⟨f, z, hN, hP, hD, hS⟩ (lv_sub hl [0, 1, 2, 3, 4] rfl)
set_option maxHeartbeats 1600000 in
set_option maxRecDepth 100000 in
theorem lc_call {p : Program} {l : Launch} {e : Env} {s : State} {m : MethodId} {below : List Frame} {meth : Method} {c : Code} {b L : Nat} {xs : Nat → Int32} {D : va_G} {G : Nat → ClassId} {sa : Nat → Nat} {ca : Nat → Nat} {mo : Nat} {ad : Nat → Nat} {o : Nat} {Q : State → Prop} (C0 : LCx p l s m c b L xs D G sa) {j : Nat} (hj : 7 * j + 6 < L) {u : MU} {H : Heap} {locs : List Loc} {ls : Array Slot} {cells slots : Nat} (hW : LW s D G ca mo ad o u H locs) (hl : lv_has ls 8 [(4, .int (nI (7 * j))), (3, .ref o), (2, .ref mo), (1, .ref (ca 0)), (0, .ref b)]) (hc : cells + 4 ≤ 603072 ∧ slots + 22 ≤ 7262314)
    (kk : ∀ (u : MU) (H : Heap) (locs : List Loc) (ls : Array Slot), LW s D G ca mo ad o u H locs → lv_has ls 8 [(4, .int (nI (7 * j))), (3, .ref o), (2, .ref mo), (1, .ref (ca 0)), (0, .ref b)] → W p l e room_1 s m #[Value.ref b] below meth c H locs (cells + 4) (slots + 22) Q (F0 m 1019 ls [])) : W p l e room_1 s m #[Value.ref b] below meth c H locs cells slots Q (F0 m 869 ls []) := by
  obtain ⟨hx, hb, hml, hown, hts, hX, hbl, hK, hXS, hXZ, hst, hL⟩ := id C0
  have hbA : ¬ (fun q : Nat => s.heap.size ≤ q) b := Nat.not_le.mpr hbl
  have hA : ∀ q : Nat, s.heap.size ≤ q → (fun q : Nat => s.heap.size ≤ q) q := fun _ h => h
  obtain ⟨σ, τ⟩ := u
  obtain ⟨f, z, ⟨n, k, w0, κ, x, hV, hC⟩, hP, hD, hS⟩ := hW
  have hP : va_P D vwCl ((mW G mo ad σ τ ++ [(o, .inl (G 1, 1, .inr (.inl f)))]) ++ z) H := hP
  have hD : va_D (fun q => s.heap.size ≤ q) ((mW G mo ad σ τ ++ [(o, .inl (G 1, 1, .inr (.inl f)))]) ++ z) := hD
  have hV : IV σ x τ κ n k w0 := hV
  have hC : CW G ca σ x κ k z := hC
  refine lv_aload_n hx hb dL_law_869 rfl (lv_at hl 3 rfl) ?_
  refine lv_aload_n hx hb dL_law_870 rfl (lv_at hl 4 rfl) ?_
  refine lv_iload hx hb dL_law_871 (lv_at hl 0 rfl) ?_
  refine lv_iconst (v := 1) hx hb dL_law_873 (by decide) ?_
  refine lv_iadd hx hb dL_law_874 ?_
  refine sld_n hx hb hX hbl hbA hS hL ((7 * j) + 1) (n_add (a := (7 * j)) (b := 1) rfl (rfl : (1 : Int32) = nI 1)) (by omega) dL_law_875 ?_
  refine lv_aload_n hx hb dL_law_876 rfl (lv_at hl 4 rfl) ?_
  refine lv_iload hx hb dL_law_877 (lv_at hl 0 rfl) ?_
  refine lv_iconst (v := 2) hx hb dL_law_879 (by decide) ?_
  refine lv_iadd hx hb dL_law_880 ?_
  refine sld_n hx hb hX hbl hbA hS hL ((7 * j) + 2) (n_add (a := (7 * j)) (b := 2) rfl (rfl : (2 : Int32) = nI 2)) (by omega) dL_law_881 ?_
  refine fr_Vc (wr := mW G mo ad σ τ ++ [(o, .inl (G 1, 1, .inr (.inl f)))]) (wc := z) (As := [.int (xs ((7 * j) + 1)), .int (xs ((7 * j) + 2))]) (rest := []) ⟨hx, hb, hml, hown, hts⟩ (u_call l D G ca n k w0 σ x τ κ z _ hV hC (xs ((7 * j) + 1)) (xs ((7 * j) + 2))) gV_L_X7_call hdV_X7_call ⟨(Nat.le_of_ble_eq_true rfl), (Nat.le_of_ble_eq_true rfl)⟩ hK (hC.recv hK (fr_P hP)) hP hD hS hA rfl hl.1 rfl (Nat.le_of_ble_eq_true rfl) dL_law_882 ⟨(show cells + 0 ≤ 603072 by omega), (show slots + 0 ≤ 7262314 by omega)⟩ (fun z H locs hN hP hD hS => ?_)
  refine W.eq (g2 := F0 m 885 ls [.int ((oCall σ τ n k w0 (xs ((7 * j) + 1)) (xs ((7 * j) + 2))).1)]) rfl ?_
  refine lv_aload_n hx hb dL_law_885 rfl (lv_at hl 2 rfl) ?_
  refine lv_aload_n hx hb dL_law_886 rfl (lv_at hl 4 rfl) ?_
  refine lv_iload hx hb dL_law_887 (lv_at hl 0 rfl) ?_
  refine lv_iconst (v := 1) hx hb dL_law_889 (by decide) ?_
  refine lv_iadd hx hb dL_law_890 ?_
  refine sld_n hx hb hX hbl hbA hS hL ((7 * j) + 1) (n_add (a := (7 * j)) (b := 1) rfl (rfl : (1 : Int32) = nI 1)) (by omega) dL_law_891 ?_
  refine lv_aload_n hx hb dL_law_892 rfl (lv_at hl 4 rfl) ?_
  refine lv_iload hx hb dL_law_893 (lv_at hl 0 rfl) ?_
  refine lv_iconst (v := 2) hx hb dL_law_895 (by decide) ?_
  refine lv_iadd hx hb dL_law_896 ?_
  refine sld_n hx hb hX hbl hbA hS hL ((7 * j) + 2) (n_add (a := (7 * j)) (b := 2) rfl (rfl : (2 : Int32) = nI 2)) (by omega) dL_law_897 ?_
  have hP := P_perm hP pm_m
  have hD := D_perm pm_m hD
  have hP : va_P D vwCl (([(o, .inl (G 1, 1, .inr (.inl f)))] ++ z) ++ mW G mo ad σ τ) H := hP
  have hD : va_D (fun q => s.heap.size ≤ q) (([(o, .inl (G 1, 1, .inr (.inl f)))] ++ z) ++ mW G mo ad σ τ) := hD
  refine fr_Vm (wr := [(o, .inl (G 1, 1, .inr (.inl f)))] ++ z) (u := (σ, τ)) (v := (oCall σ τ n k w0 (xs ((7 * j) + 1)) (xs ((7 * j) + 2))).2) (mo := mo) (ad := ad) (As := [.int (xs ((7 * j) + 1)), .int (xs ((7 * j) + 2))]) (rest := [.int ((oCall σ τ n k w0 (xs ((7 * j) + 1)) (xs ((7 * j) + 2))).1)]) ⟨hx, hb, hml, hown, hts⟩ (m_call l D G mo ad σ τ _ n hV.1.1.1 hV.1.1.2 k hV.1.2.1.1 hV.1.2.1.2 w0 hV.1.2.2.1 hV.1.2.2.2 hV.hm hV.hv hV.hp hV.hg hV.2.1.1 hV.he (xs ((7 * j) + 1)) (xs ((7 * j) + 2)) ) gV_L_X8_call hdV_X8_call ⟨(Nat.le_of_ble_eq_true rfl), (Nat.le_of_ble_eq_true rfl)⟩ hK hP hD hS hA rfl hl.1 rfl (Nat.le_of_ble_eq_true rfl) dL_law_898 ⟨(show cells + 0 ≤ 603072 by omega), (show slots + 0 ≤ 7262314 by omega)⟩ (fun H locs hP hD hS => ?_)
  have hP := P_perm hP pm_r
  have hD := D_perm pm_r hD
  have hP : va_P D vwCl ((mW G mo ad (oCall σ τ n k w0 (xs ((7 * j) + 1)) (xs ((7 * j) + 2))).2.1 (oCall σ τ n k w0 (xs ((7 * j) + 1)) (xs ((7 * j) + 2))).2.2 ++ [(o, .inl (G 1, 1, .inr (.inl f)))]) ++ z) H := hP
  have hD : va_D (fun q => s.heap.size ≤ q) ((mW G mo ad (oCall σ τ n k w0 (xs ((7 * j) + 1)) (xs ((7 * j) + 2))).2.1 (oCall σ τ n k w0 (xs ((7 * j) + 1)) (xs ((7 * j) + 2))).2.2 ++ [(o, .inl (G 1, 1, .inr (.inl f)))]) ++ z) := hD
  refine W.eq (g2 := F0 m 901 ls [.int ((oCall σ τ n k w0 (xs ((7 * j) + 1)) (xs ((7 * j) + 2))).1), .int ((oCall σ τ n k w0 (xs ((7 * j) + 1)) (xs ((7 * j) + 2))).1)]) rfl ?_
  refine lv_icmp_eq (tgt := 1019) hx hb dL_law_901 (by decide) (fun hh => ?_) (fun hh => absurd rfl hh)
  refine W.widen (k := cells + 4) (n := slots + 22) (by omega) (by omega) ?_
  exact kk (oCall σ τ n k w0 (xs ((7 * j) + 1)) (xs ((7 * j) + 2))).2 _ _ _ ⟨f, z, hN, hP, hD, hS⟩ (lv_sub hl [0, 1, 2, 3, 4] rfl)
set_option maxHeartbeats 1600000 in
set_option maxRecDepth 100000 in
theorem lc_way {p : Program} {l : Launch} {e : Env} {s : State} {m : MethodId} {below : List Frame} {meth : Method} {c : Code} {b L : Nat} {xs : Nat → Int32} {D : va_G} {G : Nat → ClassId} {sa : Nat → Nat} {ca : Nat → Nat} {mo : Nat} {ad : Nat → Nat} {o : Nat} {Q : State → Prop} (C0 : LCx p l s m c b L xs D G sa) {j : Nat} (hj : 7 * j + 6 < L) {u : MU} {H : Heap} {locs : List Loc} {ls : Array Slot} {cells slots : Nat} (hW : LW s D G ca mo ad o u H locs) (hl : lv_has ls 8 [(4, .int (nI (7 * j))), (3, .ref o), (2, .ref mo), (1, .ref (ca 0)), (0, .ref b)]) (hc : cells + 4 ≤ 603072 ∧ slots + 22 ≤ 7262314)
    (kk : ∀ (u : MU) (H : Heap) (locs : List Loc) (ls : Array Slot), LW s D G ca mo ad o u H locs → lv_has ls 8 [(4, .int (nI (7 * j))), (3, .ref o), (2, .ref mo), (1, .ref (ca 0)), (0, .ref b)] → W p l e room_1 s m #[Value.ref b] below meth c H locs (cells + 4) (slots + 22) Q (F0 m 1019 ls [])) : W p l e room_1 s m #[Value.ref b] below meth c H locs cells slots Q (F0 m 906 ls []) := by
  obtain ⟨hx, hb, hml, hown, hts, hX, hbl, hK, hXS, hXZ, hst, hL⟩ := id C0
  have hbA : ¬ (fun q : Nat => s.heap.size ≤ q) b := Nat.not_le.mpr hbl
  have hA : ∀ q : Nat, s.heap.size ≤ q → (fun q : Nat => s.heap.size ≤ q) q := fun _ h => h
  obtain ⟨σ, τ⟩ := u
  obtain ⟨f, z, ⟨n, k, w0, κ, x, hV, hC⟩, hP, hD, hS⟩ := hW
  have hP : va_P D vwCl ((mW G mo ad σ τ ++ [(o, .inl (G 1, 1, .inr (.inl f)))]) ++ z) H := hP
  have hD : va_D (fun q => s.heap.size ≤ q) ((mW G mo ad σ τ ++ [(o, .inl (G 1, 1, .inr (.inl f)))]) ++ z) := hD
  have hV : IV σ x τ κ n k w0 := hV
  have hC : CW G ca σ x κ k z := hC
  refine lv_aload_n hx hb dL_law_906 rfl (lv_at hl 3 rfl) ?_
  refine fr_Vc (wr := mW G mo ad σ τ ++ [(o, .inl (G 1, 1, .inr (.inl f)))]) (wc := z) (As := []) (rest := []) ⟨hx, hb, hml, hown, hts⟩ (u_way l D G ca n k w0 σ x τ κ z _ hV hC ) gV_L_X7_way hdV_X7_way ⟨(Nat.le_of_ble_eq_true rfl), (Nat.le_of_ble_eq_true rfl)⟩ hK (hC.recv hK (fr_P hP)) hP hD hS hA rfl hl.1 rfl (Nat.le_of_ble_eq_true rfl) dL_law_907 ⟨(show cells + 0 ≤ 603072 by omega), (show slots + 0 ≤ 7262314 by omega)⟩ (fun z H locs hN hP hD hS => ?_)
  refine W.eq (g2 := F0 m 910 ls [.int ((((σ 25 0, (su σ 0 0 0, τ)) : Int32 × MU)).1)]) rfl ?_
  refine lv_aload_n hx hb dL_law_910 rfl (lv_at hl 2 rfl) ?_
  have hP := P_perm hP pm_m
  have hD := D_perm pm_m hD
  have hP : va_P D vwCl (([(o, .inl (G 1, 1, .inr (.inl f)))] ++ z) ++ mW G mo ad σ τ) H := hP
  have hD : va_D (fun q => s.heap.size ≤ q) (([(o, .inl (G 1, 1, .inr (.inl f)))] ++ z) ++ mW G mo ad σ τ) := hD
  refine fr_Vm (wr := [(o, .inl (G 1, 1, .inr (.inl f)))] ++ z) (u := (σ, τ)) (v := (((σ 25 0, (su σ 0 0 0, τ)) : Int32 × MU)).2) (mo := mo) (ad := ad) (As := []) (rest := [.int ((((σ 25 0, (su σ 0 0 0, τ)) : Int32 × MU)).1)]) ⟨hx, hb, hml, hown, hts⟩ (m_way l D G mo ad σ τ _    ) gV_L_X8_way hdV_X8_way ⟨(Nat.le_of_ble_eq_true rfl), (Nat.le_of_ble_eq_true rfl)⟩ hK hP hD hS hA rfl hl.1 rfl (Nat.le_of_ble_eq_true rfl) dL_law_911 ⟨(show cells + 0 ≤ 603072 by omega), (show slots + 0 ≤ 7262314 by omega)⟩ (fun H locs hP hD hS => ?_)
  have hP := P_perm hP pm_r
  have hD := D_perm pm_r hD
  have hP : va_P D vwCl ((mW G mo ad (((σ 25 0, (su σ 0 0 0, τ)) : Int32 × MU)).2.1 (((σ 25 0, (su σ 0 0 0, τ)) : Int32 × MU)).2.2 ++ [(o, .inl (G 1, 1, .inr (.inl f)))]) ++ z) H := hP
  have hD : va_D (fun q => s.heap.size ≤ q) ((mW G mo ad (((σ 25 0, (su σ 0 0 0, τ)) : Int32 × MU)).2.1 (((σ 25 0, (su σ 0 0 0, τ)) : Int32 × MU)).2.2 ++ [(o, .inl (G 1, 1, .inr (.inl f)))]) ++ z) := hD
  refine W.eq (g2 := F0 m 914 ls [.int ((((σ 25 0, (su σ 0 0 0, τ)) : Int32 × MU)).1), .int ((((σ 25 0, (su σ 0 0 0, τ)) : Int32 × MU)).1)]) rfl ?_
  refine lv_icmp_eq (tgt := 1019) hx hb dL_law_914 (by decide) (fun hh => ?_) (fun hh => absurd rfl hh)
  refine W.widen (k := cells + 4) (n := slots + 22) (by omega) (by omega) ?_
  exact kk (((σ 25 0, (su σ 0 0 0, τ)) : Int32 × MU)).2 _ _ _ ⟨f, z, hN, hP, hD, hS⟩ (lv_sub hl [0, 1, 2, 3, 4] rfl)
set_option maxHeartbeats 1600000 in
set_option maxRecDepth 100000 in
theorem lc_lacks {p : Program} {l : Launch} {e : Env} {s : State} {m : MethodId} {below : List Frame} {meth : Method} {c : Code} {b L : Nat} {xs : Nat → Int32} {D : va_G} {G : Nat → ClassId} {sa : Nat → Nat} {ca : Nat → Nat} {mo : Nat} {ad : Nat → Nat} {o : Nat} {Q : State → Prop} (C0 : LCx p l s m c b L xs D G sa) {j : Nat} (hj : 7 * j + 6 < L) {u : MU} {H : Heap} {locs : List Loc} {ls : Array Slot} {cells slots : Nat} (hW : LW s D G ca mo ad o u H locs) (hl : lv_has ls 8 [(4, .int (nI (7 * j))), (3, .ref o), (2, .ref mo), (1, .ref (ca 0)), (0, .ref b)]) (hc : cells + 4 ≤ 603072 ∧ slots + 22 ≤ 7262314)
    (kk : ∀ (u : MU) (H : Heap) (locs : List Loc) (ls : Array Slot), LW s D G ca mo ad o u H locs → lv_has ls 8 [(4, .int (nI (7 * j))), (3, .ref o), (2, .ref mo), (1, .ref (ca 0)), (0, .ref b)] → W p l e room_1 s m #[Value.ref b] below meth c H locs (cells + 4) (slots + 22) Q (F0 m 1019 ls [])) : W p l e room_1 s m #[Value.ref b] below meth c H locs cells slots Q (F0 m 919 ls []) := by
  obtain ⟨hx, hb, hml, hown, hts, hX, hbl, hK, hXS, hXZ, hst, hL⟩ := id C0
  have hbA : ¬ (fun q : Nat => s.heap.size ≤ q) b := Nat.not_le.mpr hbl
  have hA : ∀ q : Nat, s.heap.size ≤ q → (fun q : Nat => s.heap.size ≤ q) q := fun _ h => h
  obtain ⟨σ, τ⟩ := u
  obtain ⟨f, z, ⟨n, k, w0, κ, x, hV, hC⟩, hP, hD, hS⟩ := hW
  have hP : va_P D vwCl ((mW G mo ad σ τ ++ [(o, .inl (G 1, 1, .inr (.inl f)))]) ++ z) H := hP
  have hD : va_D (fun q => s.heap.size ≤ q) ((mW G mo ad σ τ ++ [(o, .inl (G 1, 1, .inr (.inl f)))]) ++ z) := hD
  have hV : IV σ x τ κ n k w0 := hV
  have hC : CW G ca σ x κ k z := hC
  refine lv_aload_n hx hb dL_law_919 rfl (lv_at hl 3 rfl) ?_
  refine lv_aload_n hx hb dL_law_920 rfl (lv_at hl 4 rfl) ?_
  refine lv_iload hx hb dL_law_921 (lv_at hl 0 rfl) ?_
  refine lv_iconst (v := 1) hx hb dL_law_923 (by decide) ?_
  refine lv_iadd hx hb dL_law_924 ?_
  refine sld_n hx hb hX hbl hbA hS hL ((7 * j) + 1) (n_add (a := (7 * j)) (b := 1) rfl (rfl : (1 : Int32) = nI 1)) (by omega) dL_law_925 ?_
  refine lv_aload_n hx hb dL_law_926 rfl (lv_at hl 4 rfl) ?_
  refine lv_iload hx hb dL_law_927 (lv_at hl 0 rfl) ?_
  refine lv_iconst (v := 2) hx hb dL_law_929 (by decide) ?_
  refine lv_iadd hx hb dL_law_930 ?_
  refine sld_n hx hb hX hbl hbA hS hL ((7 * j) + 2) (n_add (a := (7 * j)) (b := 2) rfl (rfl : (2 : Int32) = nI 2)) (by omega) dL_law_931 ?_
  refine fr_Vc (wr := mW G mo ad σ τ ++ [(o, .inl (G 1, 1, .inr (.inl f)))]) (wc := z) (As := [.int (xs ((7 * j) + 1)), .int (xs ((7 * j) + 2))]) (rest := []) ⟨hx, hb, hml, hown, hts⟩ (u_lacks l D G ca n k w0 σ x τ κ z _ hV hC (xs ((7 * j) + 1)) (xs ((7 * j) + 2))) gV_L_X7_lacks hdV_X7_lacks ⟨(Nat.le_of_ble_eq_true rfl), (Nat.le_of_ble_eq_true rfl)⟩ hK (hC.recv hK (fr_P hP)) hP hD hS hA rfl hl.1 rfl (Nat.le_of_ble_eq_true rfl) dL_law_932 ⟨(show cells + 0 ≤ 603072 by omega), (show slots + 0 ≤ 7262314 by omega)⟩ (fun z H locs hN hP hD hS => ?_)
  refine W.eq (g2 := F0 m 935 ls [.int ((oLacks σ τ n k (xs ((7 * j) + 1)) (xs ((7 * j) + 2))).1)]) rfl ?_
  refine lv_aload_n hx hb dL_law_935 rfl (lv_at hl 2 rfl) ?_
  refine lv_aload_n hx hb dL_law_936 rfl (lv_at hl 4 rfl) ?_
  refine lv_iload hx hb dL_law_937 (lv_at hl 0 rfl) ?_
  refine lv_iconst (v := 1) hx hb dL_law_939 (by decide) ?_
  refine lv_iadd hx hb dL_law_940 ?_
  refine sld_n hx hb hX hbl hbA hS hL ((7 * j) + 1) (n_add (a := (7 * j)) (b := 1) rfl (rfl : (1 : Int32) = nI 1)) (by omega) dL_law_941 ?_
  refine lv_aload_n hx hb dL_law_942 rfl (lv_at hl 4 rfl) ?_
  refine lv_iload hx hb dL_law_943 (lv_at hl 0 rfl) ?_
  refine lv_iconst (v := 2) hx hb dL_law_945 (by decide) ?_
  refine lv_iadd hx hb dL_law_946 ?_
  refine sld_n hx hb hX hbl hbA hS hL ((7 * j) + 2) (n_add (a := (7 * j)) (b := 2) rfl (rfl : (2 : Int32) = nI 2)) (by omega) dL_law_947 ?_
  have hP := P_perm hP pm_m
  have hD := D_perm pm_m hD
  have hP : va_P D vwCl (([(o, .inl (G 1, 1, .inr (.inl f)))] ++ z) ++ mW G mo ad σ τ) H := hP
  have hD : va_D (fun q => s.heap.size ≤ q) (([(o, .inl (G 1, 1, .inr (.inl f)))] ++ z) ++ mW G mo ad σ τ) := hD
  refine fr_Vm (wr := [(o, .inl (G 1, 1, .inr (.inl f)))] ++ z) (u := (σ, τ)) (v := (oLacks σ τ n k (xs ((7 * j) + 1)) (xs ((7 * j) + 2))).2) (mo := mo) (ad := ad) (As := [.int (xs ((7 * j) + 1)), .int (xs ((7 * j) + 2))]) (rest := [.int ((oLacks σ τ n k (xs ((7 * j) + 1)) (xs ((7 * j) + 2))).1)]) ⟨hx, hb, hml, hown, hts⟩ (m_lacks l D G mo ad σ τ _ n hV.1.1.1 hV.1.1.2 k hV.1.2.1.1 hV.1.2.1.2 hV.he hV.hm (xs ((7 * j) + 1)) (xs ((7 * j) + 2)) hV.2.1.1) gV_L_X8_lacks hdV_X8_lacks ⟨(Nat.le_of_ble_eq_true rfl), (Nat.le_of_ble_eq_true rfl)⟩ hK hP hD hS hA rfl hl.1 rfl (Nat.le_of_ble_eq_true rfl) dL_law_948 ⟨(show cells + 0 ≤ 603072 by omega), (show slots + 0 ≤ 7262314 by omega)⟩ (fun H locs hP hD hS => ?_)
  have hP := P_perm hP pm_r
  have hD := D_perm pm_r hD
  have hP : va_P D vwCl ((mW G mo ad (oLacks σ τ n k (xs ((7 * j) + 1)) (xs ((7 * j) + 2))).2.1 (oLacks σ τ n k (xs ((7 * j) + 1)) (xs ((7 * j) + 2))).2.2 ++ [(o, .inl (G 1, 1, .inr (.inl f)))]) ++ z) H := hP
  have hD : va_D (fun q => s.heap.size ≤ q) ((mW G mo ad (oLacks σ τ n k (xs ((7 * j) + 1)) (xs ((7 * j) + 2))).2.1 (oLacks σ τ n k (xs ((7 * j) + 1)) (xs ((7 * j) + 2))).2.2 ++ [(o, .inl (G 1, 1, .inr (.inl f)))]) ++ z) := hD
  refine W.eq (g2 := F0 m 951 ls [.int ((oLacks σ τ n k (xs ((7 * j) + 1)) (xs ((7 * j) + 2))).1), .int ((oLacks σ τ n k (xs ((7 * j) + 1)) (xs ((7 * j) + 2))).1)]) rfl ?_
  refine lv_icmp_eq (tgt := 1019) hx hb dL_law_951 (by decide) (fun hh => ?_) (fun hh => absurd rfl hh)
  refine W.widen (k := cells + 4) (n := slots + 22) (by omega) (by omega) ?_
  exact kk (oLacks σ τ n k (xs ((7 * j) + 1)) (xs ((7 * j) + 2))).2 _ _ _ ⟨f, z, hN, hP, hD, hS⟩ (lv_sub hl [0, 1, 2, 3, 4] rfl)
set_option maxHeartbeats 1600000 in
set_option maxRecDepth 100000 in
theorem lc_count {p : Program} {l : Launch} {e : Env} {s : State} {m : MethodId} {below : List Frame} {meth : Method} {c : Code} {b L : Nat} {xs : Nat → Int32} {D : va_G} {G : Nat → ClassId} {sa : Nat → Nat} {ca : Nat → Nat} {mo : Nat} {ad : Nat → Nat} {o : Nat} {Q : State → Prop} (C0 : LCx p l s m c b L xs D G sa) {j : Nat} (hj : 7 * j + 6 < L) {u : MU} {H : Heap} {locs : List Loc} {ls : Array Slot} {cells slots : Nat} (hW : LW s D G ca mo ad o u H locs) (hl : lv_has ls 8 [(4, .int (nI (7 * j))), (3, .ref o), (2, .ref mo), (1, .ref (ca 0)), (0, .ref b)]) (hc : cells + 4 ≤ 603072 ∧ slots + 22 ≤ 7262314)
    (kk : ∀ (u : MU) (H : Heap) (locs : List Loc) (ls : Array Slot), LW s D G ca mo ad o u H locs → lv_has ls 8 [(4, .int (nI (7 * j))), (3, .ref o), (2, .ref mo), (1, .ref (ca 0)), (0, .ref b)] → W p l e room_1 s m #[Value.ref b] below meth c H locs (cells + 4) (slots + 22) Q (F0 m 1019 ls [])) : W p l e room_1 s m #[Value.ref b] below meth c H locs cells slots Q (F0 m 956 ls []) := by
  obtain ⟨hx, hb, hml, hown, hts, hX, hbl, hK, hXS, hXZ, hst, hL⟩ := id C0
  have hbA : ¬ (fun q : Nat => s.heap.size ≤ q) b := Nat.not_le.mpr hbl
  have hA : ∀ q : Nat, s.heap.size ≤ q → (fun q : Nat => s.heap.size ≤ q) q := fun _ h => h
  obtain ⟨σ, τ⟩ := u
  obtain ⟨f, z, ⟨n, k, w0, κ, x, hV, hC⟩, hP, hD, hS⟩ := hW
  have hP : va_P D vwCl ((mW G mo ad σ τ ++ [(o, .inl (G 1, 1, .inr (.inl f)))]) ++ z) H := hP
  have hD : va_D (fun q => s.heap.size ≤ q) ((mW G mo ad σ τ ++ [(o, .inl (G 1, 1, .inr (.inl f)))]) ++ z) := hD
  have hV : IV σ x τ κ n k w0 := hV
  have hC : CW G ca σ x κ k z := hC
  refine lv_aload_n hx hb dL_law_956 rfl (lv_at hl 3 rfl) ?_
  refine lv_aload_n hx hb dL_law_957 rfl (lv_at hl 4 rfl) ?_
  refine lv_iload hx hb dL_law_958 (lv_at hl 0 rfl) ?_
  refine lv_iconst (v := 1) hx hb dL_law_960 (by decide) ?_
  refine lv_iadd hx hb dL_law_961 ?_
  refine sld_n hx hb hX hbl hbA hS hL ((7 * j) + 1) (n_add (a := (7 * j)) (b := 1) rfl (rfl : (1 : Int32) = nI 1)) (by omega) dL_law_962 ?_
  refine fr_Vc (wr := mW G mo ad σ τ ++ [(o, .inl (G 1, 1, .inr (.inl f)))]) (wc := z) (As := [.int (xs ((7 * j) + 1))]) (rest := []) ⟨hx, hb, hml, hown, hts⟩ (u_count l D G ca n k w0 σ x τ κ z _ hV hC (xs ((7 * j) + 1))) gV_L_X7_count hdV_X7_count ⟨(Nat.le_of_ble_eq_true rfl), (Nat.le_of_ble_eq_true rfl)⟩ hK (hC.recv hK (fr_P hP)) hP hD hS hA rfl hl.1 rfl (Nat.le_of_ble_eq_true rfl) dL_law_963 ⟨(show cells + 0 ≤ 603072 by omega), (show slots + 0 ≤ 7262314 by omega)⟩ (fun z H locs hN hP hD hS => ?_)
  refine W.eq (g2 := F0 m 966 ls [.int ((oCount σ τ k (xs ((7 * j) + 1))).1)]) rfl ?_
  refine lv_aload_n hx hb dL_law_966 rfl (lv_at hl 2 rfl) ?_
  refine lv_aload_n hx hb dL_law_967 rfl (lv_at hl 4 rfl) ?_
  refine lv_iload hx hb dL_law_968 (lv_at hl 0 rfl) ?_
  refine lv_iconst (v := 1) hx hb dL_law_970 (by decide) ?_
  refine lv_iadd hx hb dL_law_971 ?_
  refine sld_n hx hb hX hbl hbA hS hL ((7 * j) + 1) (n_add (a := (7 * j)) (b := 1) rfl (rfl : (1 : Int32) = nI 1)) (by omega) dL_law_972 ?_
  have hP := P_perm hP pm_m
  have hD := D_perm pm_m hD
  have hP : va_P D vwCl (([(o, .inl (G 1, 1, .inr (.inl f)))] ++ z) ++ mW G mo ad σ τ) H := hP
  have hD : va_D (fun q => s.heap.size ≤ q) (([(o, .inl (G 1, 1, .inr (.inl f)))] ++ z) ++ mW G mo ad σ τ) := hD
  refine fr_Vm (wr := [(o, .inl (G 1, 1, .inr (.inl f)))] ++ z) (u := (σ, τ)) (v := (oCount σ τ k (xs ((7 * j) + 1))).2) (mo := mo) (ad := ad) (As := [.int (xs ((7 * j) + 1))]) (rest := [.int ((oCount σ τ k (xs ((7 * j) + 1))).1)]) ⟨hx, hb, hml, hown, hts⟩ (m_count l D G mo ad σ τ _ k hV.1.2.1.1 hV.1.2.1.2 hV.h9 (xs ((7 * j) + 1)) ) gV_L_X8_count hdV_X8_count ⟨(Nat.le_of_ble_eq_true rfl), (Nat.le_of_ble_eq_true rfl)⟩ hK hP hD hS hA rfl hl.1 rfl (Nat.le_of_ble_eq_true rfl) dL_law_973 ⟨(show cells + 0 ≤ 603072 by omega), (show slots + 0 ≤ 7262314 by omega)⟩ (fun H locs hP hD hS => ?_)
  have hP := P_perm hP pm_r
  have hD := D_perm pm_r hD
  have hP : va_P D vwCl ((mW G mo ad (oCount σ τ k (xs ((7 * j) + 1))).2.1 (oCount σ τ k (xs ((7 * j) + 1))).2.2 ++ [(o, .inl (G 1, 1, .inr (.inl f)))]) ++ z) H := hP
  have hD : va_D (fun q => s.heap.size ≤ q) ((mW G mo ad (oCount σ τ k (xs ((7 * j) + 1))).2.1 (oCount σ τ k (xs ((7 * j) + 1))).2.2 ++ [(o, .inl (G 1, 1, .inr (.inl f)))]) ++ z) := hD
  refine W.eq (g2 := F0 m 976 ls [.int ((oCount σ τ k (xs ((7 * j) + 1))).1), .int ((oCount σ τ k (xs ((7 * j) + 1))).1)]) rfl ?_
  refine lv_icmp_eq (tgt := 1019) hx hb dL_law_976 (by decide) (fun hh => ?_) (fun hh => absurd rfl hh)
  refine W.widen (k := cells + 4) (n := slots + 22) (by omega) (by omega) ?_
  exact kk (oCount σ τ k (xs ((7 * j) + 1))).2 _ _ _ ⟨f, z, hN, hP, hD, hS⟩ (lv_sub hl [0, 1, 2, 3, 4] rfl)
set_option maxHeartbeats 1600000 in
set_option maxRecDepth 100000 in
theorem lc_broken {p : Program} {l : Launch} {e : Env} {s : State} {m : MethodId} {below : List Frame} {meth : Method} {c : Code} {b L : Nat} {xs : Nat → Int32} {D : va_G} {G : Nat → ClassId} {sa : Nat → Nat} {ca : Nat → Nat} {mo : Nat} {ad : Nat → Nat} {o : Nat} {Q : State → Prop} (C0 : LCx p l s m c b L xs D G sa) {j : Nat} (hj : 7 * j + 6 < L) {u : MU} {H : Heap} {locs : List Loc} {ls : Array Slot} {cells slots : Nat} (hW : LW s D G ca mo ad o u H locs) (hl : lv_has ls 8 [(4, .int (nI (7 * j))), (3, .ref o), (2, .ref mo), (1, .ref (ca 0)), (0, .ref b)]) (hc : cells + 4 ≤ 603072 ∧ slots + 22 ≤ 7262314)
    (kk : ∀ (u : MU) (H : Heap) (locs : List Loc) (ls : Array Slot), LW s D G ca mo ad o u H locs → lv_has ls 8 [(4, .int (nI (7 * j))), (3, .ref o), (2, .ref mo), (1, .ref (ca 0)), (0, .ref b)] → W p l e room_1 s m #[Value.ref b] below meth c H locs (cells + 4) (slots + 22) Q (F0 m 1019 ls [])) : W p l e room_1 s m #[Value.ref b] below meth c H locs cells slots Q (F0 m 981 ls []) := by
  obtain ⟨hx, hb, hml, hown, hts, hX, hbl, hK, hXS, hXZ, hst, hL⟩ := id C0
  have hbA : ¬ (fun q : Nat => s.heap.size ≤ q) b := Nat.not_le.mpr hbl
  have hA : ∀ q : Nat, s.heap.size ≤ q → (fun q : Nat => s.heap.size ≤ q) q := fun _ h => h
  obtain ⟨σ, τ⟩ := u
  obtain ⟨f, z, ⟨n, k, w0, κ, x, hV, hC⟩, hP, hD, hS⟩ := hW
  have hP : va_P D vwCl ((mW G mo ad σ τ ++ [(o, .inl (G 1, 1, .inr (.inl f)))]) ++ z) H := hP
  have hD : va_D (fun q => s.heap.size ≤ q) ((mW G mo ad σ τ ++ [(o, .inl (G 1, 1, .inr (.inl f)))]) ++ z) := hD
  have hV : IV σ x τ κ n k w0 := hV
  have hC : CW G ca σ x κ k z := hC
  refine lv_aload_n hx hb dL_law_981 rfl (lv_at hl 3 rfl) ?_
  refine lv_aload_n hx hb dL_law_982 rfl (lv_at hl 4 rfl) ?_
  refine lv_iload hx hb dL_law_983 (lv_at hl 0 rfl) ?_
  refine lv_iconst (v := 1) hx hb dL_law_985 (by decide) ?_
  refine lv_iadd hx hb dL_law_986 ?_
  refine sld_n hx hb hX hbl hbA hS hL ((7 * j) + 1) (n_add (a := (7 * j)) (b := 1) rfl (rfl : (1 : Int32) = nI 1)) (by omega) dL_law_987 ?_
  refine fr_Vc (wr := mW G mo ad σ τ ++ [(o, .inl (G 1, 1, .inr (.inl f)))]) (wc := z) (As := [.int (xs ((7 * j) + 1))]) (rest := []) ⟨hx, hb, hml, hown, hts⟩ (u_broken l D G ca n k w0 σ x τ κ z _ hV hC (xs ((7 * j) + 1))) gV_L_X7_broken hdV_X7_broken ⟨(Nat.le_of_ble_eq_true rfl), (Nat.le_of_ble_eq_true rfl)⟩ hK (hC.recv hK (fr_P hP)) hP hD hS hA rfl hl.1 rfl (Nat.le_of_ble_eq_true rfl) dL_law_988 ⟨(show cells + 0 ≤ 603072 by omega), (show slots + 0 ≤ 7262314 by omega)⟩ (fun z H locs hN hP hD hS => ?_)
  refine W.eq (g2 := F0 m 991 ls [.int ((oBroken σ τ (xs ((7 * j) + 1))).1)]) rfl ?_
  refine lv_aload_n hx hb dL_law_991 rfl (lv_at hl 2 rfl) ?_
  refine lv_aload_n hx hb dL_law_992 rfl (lv_at hl 4 rfl) ?_
  refine lv_iload hx hb dL_law_993 (lv_at hl 0 rfl) ?_
  refine lv_iconst (v := 1) hx hb dL_law_995 (by decide) ?_
  refine lv_iadd hx hb dL_law_996 ?_
  refine sld_n hx hb hX hbl hbA hS hL ((7 * j) + 1) (n_add (a := (7 * j)) (b := 1) rfl (rfl : (1 : Int32) = nI 1)) (by omega) dL_law_997 ?_
  have hP := P_perm hP pm_m
  have hD := D_perm pm_m hD
  have hP : va_P D vwCl (([(o, .inl (G 1, 1, .inr (.inl f)))] ++ z) ++ mW G mo ad σ τ) H := hP
  have hD : va_D (fun q => s.heap.size ≤ q) (([(o, .inl (G 1, 1, .inr (.inl f)))] ++ z) ++ mW G mo ad σ τ) := hD
  refine fr_Vm (wr := [(o, .inl (G 1, 1, .inr (.inl f)))] ++ z) (u := (σ, τ)) (v := (oBroken σ τ (xs ((7 * j) + 1))).2) (mo := mo) (ad := ad) (As := [.int (xs ((7 * j) + 1))]) (rest := [.int ((oBroken σ τ (xs ((7 * j) + 1))).1)]) ⟨hx, hb, hml, hown, hts⟩ (m_broken l D G mo ad σ τ _   (xs ((7 * j) + 1)) ) gV_L_X8_broken hdV_X8_broken ⟨(Nat.le_of_ble_eq_true rfl), (Nat.le_of_ble_eq_true rfl)⟩ hK hP hD hS hA rfl hl.1 rfl (Nat.le_of_ble_eq_true rfl) dL_law_998 ⟨(show cells + 0 ≤ 603072 by omega), (show slots + 0 ≤ 7262314 by omega)⟩ (fun H locs hP hD hS => ?_)
  have hP := P_perm hP pm_r
  have hD := D_perm pm_r hD
  have hP : va_P D vwCl ((mW G mo ad (oBroken σ τ (xs ((7 * j) + 1))).2.1 (oBroken σ τ (xs ((7 * j) + 1))).2.2 ++ [(o, .inl (G 1, 1, .inr (.inl f)))]) ++ z) H := hP
  have hD : va_D (fun q => s.heap.size ≤ q) ((mW G mo ad (oBroken σ τ (xs ((7 * j) + 1))).2.1 (oBroken σ τ (xs ((7 * j) + 1))).2.2 ++ [(o, .inl (G 1, 1, .inr (.inl f)))]) ++ z) := hD
  refine W.eq (g2 := F0 m 1001 ls [.int ((oBroken σ τ (xs ((7 * j) + 1))).1), .int ((oBroken σ τ (xs ((7 * j) + 1))).1)]) rfl ?_
  refine lv_icmp_eq (tgt := 1019) hx hb dL_law_1001 (by decide) (fun hh => ?_) (fun hh => absurd rfl hh)
  refine W.widen (k := cells + 4) (n := slots + 22) (by omega) (by omega) ?_
  exact kk (oBroken σ τ (xs ((7 * j) + 1))).2 _ _ _ ⟨f, z, hN, hP, hD, hS⟩ (lv_sub hl [0, 1, 2, 3, 4] rfl)
set_option maxHeartbeats 1600000 in
set_option maxRecDepth 100000 in
theorem lc_clear {p : Program} {l : Launch} {e : Env} {s : State} {m : MethodId} {below : List Frame} {meth : Method} {c : Code} {b L : Nat} {xs : Nat → Int32} {D : va_G} {G : Nat → ClassId} {sa : Nat → Nat} {ca : Nat → Nat} {mo : Nat} {ad : Nat → Nat} {o : Nat} {Q : State → Prop} (C0 : LCx p l s m c b L xs D G sa) {j : Nat} (hj : 7 * j + 6 < L) {u : MU} {H : Heap} {locs : List Loc} {ls : Array Slot} {cells slots : Nat} (hW : LW s D G ca mo ad o u H locs) (hl : lv_has ls 8 [(4, .int (nI (7 * j))), (3, .ref o), (2, .ref mo), (1, .ref (ca 0)), (0, .ref b)]) (hc : cells + 4 ≤ 603072 ∧ slots + 22 ≤ 7262314)
    (kk : ∀ (u : MU) (H : Heap) (locs : List Loc) (ls : Array Slot), LW s D G ca mo ad o u H locs → lv_has ls 8 [(4, .int (nI (7 * j))), (3, .ref o), (2, .ref mo), (1, .ref (ca 0)), (0, .ref b)] → W p l e room_1 s m #[Value.ref b] below meth c H locs (cells + 4) (slots + 22) Q (F0 m 1019 ls [])) : W p l e room_1 s m #[Value.ref b] below meth c H locs cells slots Q (F0 m 1006 ls []) := by
  obtain ⟨hx, hb, hml, hown, hts, hX, hbl, hK, hXS, hXZ, hst, hL⟩ := id C0
  have hbA : ¬ (fun q : Nat => s.heap.size ≤ q) b := Nat.not_le.mpr hbl
  have hA : ∀ q : Nat, s.heap.size ≤ q → (fun q : Nat => s.heap.size ≤ q) q := fun _ h => h
  obtain ⟨σ, τ⟩ := u
  obtain ⟨f, z, ⟨n, k, w0, κ, x, hV, hC⟩, hP, hD, hS⟩ := hW
  have hP : va_P D vwCl ((mW G mo ad σ τ ++ [(o, .inl (G 1, 1, .inr (.inl f)))]) ++ z) H := hP
  have hD : va_D (fun q => s.heap.size ≤ q) ((mW G mo ad σ τ ++ [(o, .inl (G 1, 1, .inr (.inl f)))]) ++ z) := hD
  have hV : IV σ x τ κ n k w0 := hV
  have hC : CW G ca σ x κ k z := hC
  refine lv_aload_n hx hb dL_law_1006 rfl (lv_at hl 3 rfl) ?_
  refine fr_Vc (wr := mW G mo ad σ τ ++ [(o, .inl (G 1, 1, .inr (.inl f)))]) (wc := z) (As := []) (rest := []) ⟨hx, hb, hml, hown, hts⟩ (u_clear l D G ca n k w0 σ x τ κ z _ hV hC ) gV_L_X7_clear hdV_X7_clear ⟨(Nat.le_of_ble_eq_true rfl), (Nat.le_of_ble_eq_true rfl)⟩ hK (hC.recv hK (fr_P hP)) hP hD hS hA rfl hl.1 rfl (Nat.le_of_ble_eq_true rfl) dL_law_1007 ⟨(show cells + 0 ≤ 603072 by omega), (show slots + 0 ≤ 7262314 by omega)⟩ (fun z H locs hN hP hD hS => ?_)
  refine W.eq (g2 := F0 m 1010 ls [.int ((oClear σ τ k).1)]) rfl ?_
  refine lv_aload_n hx hb dL_law_1010 rfl (lv_at hl 2 rfl) ?_
  have hP := P_perm hP pm_m
  have hD := D_perm pm_m hD
  have hP : va_P D vwCl (([(o, .inl (G 1, 1, .inr (.inl f)))] ++ z) ++ mW G mo ad σ τ) H := hP
  have hD : va_D (fun q => s.heap.size ≤ q) (([(o, .inl (G 1, 1, .inr (.inl f)))] ++ z) ++ mW G mo ad σ τ) := hD
  refine fr_Vm (wr := [(o, .inl (G 1, 1, .inr (.inl f)))] ++ z) (u := (σ, τ)) (v := (oClear σ τ k).2) (mo := mo) (ad := ad) (As := []) (rest := [.int ((oClear σ τ k).1)]) ⟨hx, hb, hml, hown, hts⟩ (m_clear l D G mo ad σ τ _ k hV.1.2.1.1 hV.1.2.1.2   ) gV_L_X8_clear hdV_X8_clear ⟨(Nat.le_of_ble_eq_true rfl), (Nat.le_of_ble_eq_true rfl)⟩ hK hP hD hS hA rfl hl.1 rfl (Nat.le_of_ble_eq_true rfl) dL_law_1011 ⟨(show cells + 0 ≤ 603072 by omega), (show slots + 0 ≤ 7262314 by omega)⟩ (fun H locs hP hD hS => ?_)
  have hP := P_perm hP pm_r
  have hD := D_perm pm_r hD
  have hP : va_P D vwCl ((mW G mo ad (oClear σ τ k).2.1 (oClear σ τ k).2.2 ++ [(o, .inl (G 1, 1, .inr (.inl f)))]) ++ z) H := hP
  have hD : va_D (fun q => s.heap.size ≤ q) ((mW G mo ad (oClear σ τ k).2.1 (oClear σ τ k).2.2 ++ [(o, .inl (G 1, 1, .inr (.inl f)))]) ++ z) := hD
  refine W.eq (g2 := F0 m 1014 ls [.int ((oClear σ τ k).1), .int ((oClear σ τ k).1)]) rfl ?_
  refine lv_icmp_eq (tgt := 1019) hx hb dL_law_1014 (by decide) (fun hh => ?_) (fun hh => absurd rfl hh)
  refine W.widen (k := cells + 4) (n := slots + 22) (by omega) (by omega) ?_
  exact kk (oClear σ τ k).2 _ _ _ ⟨f, z, hN, hP, hD, hS⟩ (lv_sub hl [0, 1, 2, 3, 4] rfl)
