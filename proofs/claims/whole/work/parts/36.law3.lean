-- the law: calls that get a part of the world
section FV
variable {p : Program} {l : Launch} {e : Env} {R : Room} {s : State} {m : MethodId} {args : Array Value} {below : List Frame} {meth : Method} {c : Code} {H : Heap} {locs : List Loc} {cells slots mc ms : Nat} {Q : State → Prop}
variable {cc : ByteArray} {pc : Nat} {ls : Array Slot} {rest stk : List Value} {D : va_G} {G : Nat → ClassId} {y : MethodName} {bytes : ByteArray} {maxL nL n idx d : Nat} {ret : Option FieldType} {As : List Value} {own C : String} {A : Nat → Prop} {wr wc : va_W} {b mo : Nat} {ad : Nat → Nat} {u v : MU} {Wp : va_W → Prop}
theorem fr_Vc {ans : Int32} (S : CallFix p m c cc nL s args TT own) (hM : Met l y (.code y bytes maxL ret :: TT) (rmC d mc ms) (cmP D G H.size wc (.ref b :: As)) (cmQi D (va_A wc H.size) ans Wp) mc ms (va_A wc H.size)) (g : GoodIn TT (wsV own idx C y (.code y bytes maxL ret :: TT)))
    (hd : y.cls = C ∧ y.cls ≠ "java/lang/invoke/MethodHandle" ∧ y.cls ≠ "java/lang/invoke/VarHandle" ∧ (parseMethodDescriptor y.desc).map (fun d => d.parameters.length) = some n) (hR : d + 1 ≤ R.frames ∧ 8 + (maxL + 11) + 40 * d ≤ R.locals) (hK : KK D G s) (hrv : ∃ cellB : Cell, H[b]? = some cellB ∧ cellB.vm.isStatics = false ∧ s.vm.findClass C = some cellB.cls) (hP : va_P D vwCl (wr ++ wc) H) (hD : va_D A (wr ++ wc)) (hS : va_S A s.heap H locs) (hA : ∀ q, s.heap.size ≤ q → A q) (hn : As.length = n) (hsize : ls.size = nL) (hstack : stk = As.reverse ++ .ref b :: rest) (hW : (rest.map fun v => v.category).sum ≤ 8) (hdg : decode cc pc = .ok (.invokevirtual idx, 3)) (hc : cells + mc ≤ R.cells ∧ slots + ms ≤ R.slots)
    (kk : ∀ (w1 : va_W) (H : Heap) (locs : List Loc), Wp w1 → va_P D vwCl (wr ++ w1) H → va_D A (wr ++ w1) → va_S A s.heap H locs → W p l e R s m args below meth c H locs (cells + mc) (slots + ms) Q (F0 m (pc + 3) ls (.int ans :: rest))) : W p l e R s m args below meth c H locs cells slots Q (F0 m pc ls stk) := by
  have hF := fr_free hD hS hA
  have hp := cm_pre (As := .ref b :: As) hK (fr_P hP) (fr_D2 hD)
  refine va_calli (va_runV S hM (cwV n S.2.2.2.2 g rfl rfl rfl hd hR) ⟨hp.1, hrv, hp.2⟩ rfl hn hsize hstack (lv_room hW) hdg hc) hS (fun q _ h => hF q h) hF (fun r z t H1 locs1 ht hvm hw hB hz1 hk1 hS1 => ?_)
  obtain ⟨rfl, hw⟩ := hw
  obtain ⟨hP1, hD1⟩ := hB
  rw [ht] at hP1
  obtain ⟨hP2, hD2⟩ := fr_join hP hD hk1 hF hP1 hD1
  exact kk z H1 locs1 hw hP2 hD2 hS1
theorem fr_Vm {ans : Int32} (S : CallFix p m c cc nL s args TT own) (hM : Met l y (.code y bytes maxL ret :: TT) (rmD d) (muP D G H.size mo ad u (.ref mo :: As)) (muQi D G mo ad (muA G mo ad u H.size) ans v) 0 0 (muA G mo ad u H.size)) (g : GoodIn TT (wsV own idx RX8 y (.code y bytes maxL ret :: TT)))
    (hd : y.cls = RX8 ∧ y.cls ≠ "java/lang/invoke/MethodHandle" ∧ y.cls ≠ "java/lang/invoke/VarHandle" ∧ (parseMethodDescriptor y.desc).map (fun d => d.parameters.length) = some n) (hR : d + 1 ≤ R.frames ∧ 8 + (maxL + 11) + 40 * d ≤ R.locals) (hK : KK D G s) (hP : va_P D vwCl (wr ++ mW G mo ad u.1 u.2) H) (hD : va_D A (wr ++ mW G mo ad u.1 u.2)) (hS : va_S A s.heap H locs) (hA : ∀ q, s.heap.size ≤ q → A q) (hn : As.length = n) (hsize : ls.size = nL) (hstack : stk = As.reverse ++ .ref mo :: rest) (hW : (rest.map fun v => v.category).sum ≤ 8) (hdg : decode cc pc = .ok (.invokevirtual idx, 3)) (hc : cells ≤ R.cells ∧ slots ≤ R.slots)
    (kk : ∀ (H : Heap) (locs : List Loc), va_P D vwCl (wr ++ mW G mo ad v.1 v.2) H → va_D A (wr ++ mW G mo ad v.1 v.2) → va_S A s.heap H locs → W p l e R s m args below meth c H locs cells slots Q (F0 m (pc + 3) ls (.int ans :: rest))) : W p l e R s m args below meth c H locs cells slots Q (F0 m pc ls stk) := by
  have hF := fr_free hD hS hA
  have hp := mu_pre (As := .ref mo :: As) hK (fr_P hP) (fr_D2 hD)
  refine va_calli (va_runV S hM (cwV n S.2.2.2.2 g rfl rfl rfl hd hR) ⟨hp.1, va_recv hK.1 (fr_P hP) (ci := 8) (q0 := 0) rfl rfl, hp.2⟩ rfl hn hsize hstack (lv_room hW) hdg hc) hS (fun q _ h => hF q h) hF (fun r z t H1 locs1 ht hvm hw hB hz1 hk1 hS1 => ?_)
  obtain ⟨rfl, rfl⟩ := hw
  obtain ⟨hP1, hD1⟩ := hB
  rw [ht] at hP1
  obtain ⟨hP2, hD2⟩ := fr_join hP hD hk1 hF hP1 hD1
  exact kk H1 locs1 hP2 hD2 hS1
theorem fr_Vml {ans : Int64} (S : CallFix p m c cc nL s args TT own) (hM : Met l y (.code y bytes maxL ret :: TT) (rmD d) (muP D G H.size mo ad u (.ref mo :: As)) (muQl D G mo ad (muA G mo ad u H.size) ans v) 0 0 (muA G mo ad u H.size)) (g : GoodIn TT (wsV own idx RX8 y (.code y bytes maxL ret :: TT)))
    (hd : y.cls = RX8 ∧ y.cls ≠ "java/lang/invoke/MethodHandle" ∧ y.cls ≠ "java/lang/invoke/VarHandle" ∧ (parseMethodDescriptor y.desc).map (fun d => d.parameters.length) = some n) (hR : d + 1 ≤ R.frames ∧ 8 + (maxL + 11) + 40 * d ≤ R.locals) (hK : KK D G s) (hP : va_P D vwCl (wr ++ mW G mo ad u.1 u.2) H) (hD : va_D A (wr ++ mW G mo ad u.1 u.2)) (hS : va_S A s.heap H locs) (hA : ∀ q, s.heap.size ≤ q → A q) (hn : As.length = n) (hsize : ls.size = nL) (hstack : stk = As.reverse ++ .ref mo :: rest) (hW : (rest.map fun v => v.category).sum ≤ 8) (hdg : decode cc pc = .ok (.invokevirtual idx, 3)) (hc : cells ≤ R.cells ∧ slots ≤ R.slots)
    (kk : ∀ (H : Heap) (locs : List Loc), va_P D vwCl (wr ++ mW G mo ad v.1 v.2) H → va_D A (wr ++ mW G mo ad v.1 v.2) → va_S A s.heap H locs → W p l e R s m args below meth c H locs cells slots Q (F0 m (pc + 3) ls (.long ans :: rest))) : W p l e R s m args below meth c H locs cells slots Q (F0 m pc ls stk) := by
  have hF := fr_free hD hS hA
  have hp := mu_pre (As := .ref mo :: As) hK (fr_P hP) (fr_D2 hD)
  refine va_calll (va_runV S hM (cwV n S.2.2.2.2 g rfl rfl rfl hd hR) ⟨hp.1, va_recv hK.1 (fr_P hP) (ci := 8) (q0 := 0) rfl rfl, hp.2⟩ rfl hn hsize hstack (lv_room hW) hdg hc) hS (fun q _ h => hF q h) hF (fun r z t H1 locs1 ht hvm hw hB hz1 hk1 hS1 => ?_)
  obtain ⟨rfl, rfl⟩ := hw
  obtain ⟨hP1, hD1⟩ := hB
  rw [ht] at hP1
  obtain ⟨hP2, hD2⟩ := fr_join hP hD hk1 hF hP1 hD1
  exact kk H1 locs1 hP2 hD2 hS1
variable {o : Nat} {f : Nat → Int64} {sa : Nat → Nat} {hh : List (Nat × Nat × Nat × Nat)} {post : Int32 → (Nat → Int64) → Prop}
/-- a helper of the law that catches -/
theorem fr_H (S : CallFix p m c cc nL s args TT own) (hM : vx_Met l y (.codeWith y bytes maxL (some .int) hh :: TT) (rmC d 1 6) (xoP D G sa H As) (va_Qi post (fun f' t => va_P D vwCl [(o, .inl (G 1, 1, .inr (.inl f')))] t.heap) (fun q => q = o ∨ H.size ≤ q)) (vx_X (fun _ : Unit => False) (fun _ _ _ => True) F0') 1 6 (fun q => q = o ∨ H.size ≤ q)) (g : GoodIn TT (va_wsS own idx y (.codeWith y bytes maxL (some .int) hh :: TT)))
    (hd : y.cls ≠ "java/lang/invoke/MethodHandle" ∧ y.cls ≠ "java/lang/invoke/VarHandle" ∧ (parseMethodDescriptor y.desc).map (fun d => d.parameters.length) = some n) (hR : d + 1 ≤ R.frames ∧ 8 + (maxL + 11) + 40 * d ≤ R.locals) (hK : KK D G s) (hXS : XS sa s) (hXZ : XZ F0' s H) (hP : va_P D vwCl (wr ++ [(o, .inl (G 1, 1, .inr (.inl f)))]) H) (hD : va_D A (wr ++ [(o, .inl (G 1, 1, .inr (.inl f)))])) (hS : va_S A s.heap H locs) (hA : ∀ q, s.heap.size ≤ q → A q) (hn : As.length = n) (hsize : ls.size = nL) (hstack : stk = As.reverse ++ rest) (hW : (rest.map fun v => v.category).sum ≤ 8) (hdg : decode cc pc = .ok (.invokestatic idx, 3)) (hc : cells + 1 ≤ R.cells ∧ slots + 6 ≤ R.slots)
    (kk : ∀ (r : Int32) (f' : Nat → Int64) (H : Heap) (locs : List Loc), post r f' → va_P D vwCl (wr ++ [(o, .inl (G 1, 1, .inr (.inl f')))]) H → va_D A (wr ++ [(o, .inl (G 1, 1, .inr (.inl f')))]) → va_S A s.heap H locs → W p l e R s m args below meth c H locs (cells + 1) (slots + 6) Q (F0 m (pc + 3) ls (.int r :: rest))) : W p l e R s m args below meth c H locs cells slots Q (F0 m pc ls stk) := by
  have hF := fr_free hD hS hA
  have hAo : ∀ q, (q = o ∨ H.size ≤ q) → va_A [((o, .inl (G 1, 1, .inr (.inl f))) : Nat × va_E)] H.size q := fun q h => h.elim (fun e => by subst e; exact Or.inl ⟨0, _, rfl⟩) Or.inr
  have hA2 : ∀ q, (q = o ∨ H.size ≤ q) → A q := fun q h => hF q (hAo q h)
  refine vx_calli (vx_runSX S hM (vx_cwSW n S.2.2.2.2 g rfl rfl rfl hd hR) ⟨fun _ _ _ _ q => q, fun U hU hW => ⟨rfl, hU, hK.warm hW, hXS.warm hW, hXZ.moved hW.alike⟩⟩ rfl hn hsize hstack (lv_room hW) hdg hc) hS (fun q _ h => hA2 q h) hA2 (fun q _ h => h.elim) (fun E ce q9 u t H1 locs1 ht hvm hpx => hpx.elim) (fun r f' t H1 locs1 ht hvm hp hB hz hk hS1 => ?_)
  have hP1 : va_P D vwCl [(o, .inl (G 1, 1, .inr (.inl f')))] t.heap := hB
  rw [ht] at hP1
  obtain ⟨hP2, hD2⟩ := fr_join hP hD (fun q hq h => hk q hq (fun z => h (hAo q z))) hF hP1 (D_one (Or.inl ⟨0, _, rfl⟩))
  exact kk r f' H1 locs1 hp hP2 hD2 hS1
variable {L t : Nat} {xs : Nat → Int32} {H0 : Heap}
theorem sld_n (hx : p.tables.exec = Jvm.exec) (hb : c.code = cc) (hX : va_X b L xs s H0) (hbl : b < H0.size) (hbA : ¬ A b) (hS : va_S A H0 H locs) (hL : L ≤ 3584) {i : Int32} (t : Nat) (hi : i = nI t) (ht : t < L) (hdg : decode cc pc = .ok (.iaload, 1))
    (kk : W p l e R s m args below meth c H locs cells slots Q (F0 m (pc + 1) ls (.int (xs t) :: rest))) : W p l e R s m args below meth c H locs cells slots Q (F0 m pc ls (.int i :: .ref b :: rest)) := by
  have h := in_n (n := L) hi ht (by omega)
  refine va_sld hx hb hX hbl hbA hS h.1 hdg ?_
  rw [h.2]; exact kk
end FV
theorem pm_m {a b z : va_W} : ((a ++ b) ++ z).Perm ((b ++ z) ++ a) := by rw [List.append_assoc]; exact List.perm_append_comm
theorem pm_r {a b z : va_W} : ((b ++ z) ++ a).Perm ((a ++ b) ++ z) := pm_m.symm
theorem pm_o {a b z : va_W} : ((a ++ b) ++ z).Perm ((a ++ z) ++ b) := by rw [List.append_assoc, List.append_assoc]; exact List.perm_append_comm.append_left a
section LIV
variable {σ x : MS} {τ κ : Nat → Int64} {n k w : Nat}
theorem IV.he (h : IV σ x τ κ n k w) : ∀ i, i < k → okE σ i := fun i hi => ⟨(h.2.2.1.1 i hi).1.1.1, Nat.lt_of_lt_of_le (h.2.2.1.1 i hi).1.1.2 h.1.1.2⟩
theorem IV.hm (h : IV σ x τ κ n k w) : ∀ i, i < k → okM σ i := fun i _ => (h.2.2.1.2.2.1 i).1
theorem IV.hk (h : IV σ x τ κ n k w) : ∀ i, i < k → kdO (σ 11 i) := fun i hi => kdn_O h.1.1.2 (h.2.2.1.1 i hi).1.2.2.1
theorem IV.hb (h : IV σ x τ κ n k w) : ¬ σ 21 0 = 0 → okE σ k ∧ okM σ k ∧ kdO (σ 11 k) := fun q => by
  have g := (h.2.2.2.2.2 q).2.1
  exact ⟨⟨g.1.1, Nat.lt_of_lt_of_le g.1.2 h.1.1.2⟩, g.2.1, kdn_O h.1.1.2 g.2.2.1⟩
theorem IV.h9 (h : IV σ x τ κ n k w) : ¬ σ 21 0 = 0 → k < 60 := fun q => (h.2.2.2.2.2 q).1
theorem IV.hg (h : IV σ x τ κ n k w) : ∀ q, q < w → kdO (σ 23 q) := fun q hq => kdn_O h.1.1.2 (h.2.2.2.1 q hq)
theorem IV.hv (h : IV σ x τ κ n k w) : ∀ i, i < k → ¬ σ 17 i = 0 → 1 ≤ mnE σ i := fun i _ => (h.2.2.1.2.2.1 i).2
theorem IV.hp (h : IV σ x τ κ n k w) : ∀ i, i < k → ∀ q, q < mnE σ i → kdO (σ 19 (5 * i + q)) := fun i _ q _ => h.2.2.1.2.2.2 _
variable {G : Nat → ClassId} {ca : Nat → Nat} {z : va_W}
theorem CW.recv {D : va_G} {H : Heap} {s : State} (hC : CW G ca σ x κ k z) (hK : KK D G s) (hP : va_P D vwCl z H) : ∃ cellB : Cell, H[ca 0]? = some cellB ∧ cellB.vm.isStatics = false ∧ s.vm.findClass RX7 = some cellB.cls := by
  obtain ⟨ea, ba, bg, pool, -, -, rfl, -⟩ := hC
  exact va_recv hK.1 hP (ci := 7) (q0 := 0) rfl rfl
theorem nx_val (hV : IV σ x τ κ n k w) (hC : CW G ca σ x κ k z) (en : Int32) : NX G ca (oValue σ τ k en).2 z := by
  obtain ⟨ea, ba, bg, pool, hE, hJ, rfl, hb⟩ := hC
  have e : ∃ v, (oValue σ τ k en).2 = (su σ 0 0 v, τ) := by unfold oValue; (repeat' split) <;> exact ⟨_, rfl⟩
  obtain ⟨v, e⟩ := e
  rw [e]; exact NX_q hV hE hJ hb v
theorem nx_par (hV : IV σ x τ κ n k w) (hC : CW G ca σ x κ k z) (en ii dm : Int32) : NX G ca (oParOf σ τ k en ii dm).2 z := by
  obtain ⟨ea, ba, bg, pool, hE, hJ, rfl, hb⟩ := hC
  have e : ∃ v, (oParOf σ τ k en ii dm).2 = (su σ 0 0 v, τ) := by unfold oParOf; (repeat' split) <;> exact ⟨_, rfl⟩
  obtain ⟨v, e⟩ := e
  rw [e]; exact NX_q hV hE hJ hb v
end LIV
/-- what holds all through the law -/
def LCx (p : Program) (l : Launch) (s : State) (m : MethodId) (c : Code) (b L : Nat) (xs : Nat → Int32) (D : va_G) (G : Nat → ClassId) (sa : Nat → Nat) : Prop :=
  p.tables.exec = Jvm.exec ∧ c.code = cL_law ∧ c.maxLocals = 8 ∧ s.vm.findClass RL = some m.cls ∧ (∀ w ∈ TT, w.before #[Value.ref b] s = true) ∧ va_X b L xs s s.heap ∧ b < s.heap.size ∧ KK D G s ∧ XS sa s ∧ XZ (fun q => s.heap.size ≤ q) s s.heap ∧ l.stackTraces = false ∧ L ≤ 3584
/-- the law's world: the reference, the row for longs, the class -/
def LW (s : State) (D : va_G) (G : Nat → ClassId) (ca : Nat → Nat) (mo : Nat) (ad : Nat → Nat) (o : Nat) (u : MU) (H : Heap) (locs : List Loc) : Prop :=
  ∃ (f : Nat → Int64) (z : va_W), NX G ca u z ∧ va_P D vwCl ((mW G mo ad u.1 u.2 ++ [(o, .inl (G 1, 1, .inr (.inl f)))]) ++ z) H ∧ va_D (fun q => s.heap.size ≤ q) ((mW G mo ad u.1 u.2 ++ [(o, .inl (G 1, 1, .inr (.inl f)))]) ++ z) ∧ va_S (fun q => s.heap.size ≤ q) s.heap H locs

