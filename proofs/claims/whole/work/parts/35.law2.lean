-- the class's world as the law sees it
abbrev EJ (ea : Nat → Nat → Nat) (k : Nat) : Prop := ∀ e e', e < k → e' < k → ea e 0 = ea e' 0 → e = e'
abbrev BGd (G : Nat → ClassId) (ea : Nat → Nat → Nat) (ba : Nat → Nat) (σ : MS) (κ : Nat → Int64) (k : Nat) (bg : Value) (pool : va_W) : Prop := (bg = .null ∧ σ 21 0 = 0) ∨ (bg = .ref (ba 0) ∧ ¬ σ 21 0 = 0 ∧ ∃ pl : va_W, pool = mbW G ba σ k (-1) ++ pl ∧ plE G ea σ κ k pl)
def CW (G : Nat → ClassId) (ca : Nat → Nat) (σ x : MS) (κ : Nat → Int64) (k : Nat) (wc : va_W) : Prop := ∃ (ea : Nat → Nat → Nat) (ba : Nat → Nat) (bg : Value) (pool : va_W), plE G ea σ κ k pool ∧ EJ ea k ∧ wc = cF G ca bg (enF ea k) σ x ++ pool ∧ BGd G ea ba σ κ k bg pool
def NX (G : Nat → ClassId) (ca : Nat → Nat) (u : MU) (z : va_W) : Prop := ∃ (n k w : Nat) (κ : Nat → Int64) (x : MS), IV u.1 x u.2 κ n k w ∧ CW G ca u.1 x κ k z
theorem met_w {l : Launch} {y : MethodName} {ws : List Cond} {rm : Room} {Pc : Array Value → State → Prop} {D : va_G} {A : Nat → Prop} {ans ans' : Int32} {Wp Wp' : va_W → Prop} {mc ms : Nat} {free : Addr → Prop} (h : Met l y ws rm Pc (cmQi D A ans Wp) mc ms free) (ha : ans = ans') (hw : ∀ z, va_D A z → Wp z → Wp' z) : Met l y ws rm Pc (cmQi D A ans' Wp') mc ms free := by
  subst ha
  refine MetFree.mono h (fun _ _ q => q) (fun _ _ _ _ _ q => q) (fun a st o t _ q => ?_)
  obtain ⟨⟨⟨r, z, h1, ⟨h2, h3⟩, h4⟩, h5⟩, h6⟩ := q
  exact ⟨⟨⟨r, z, h1, ⟨h2, hw z h4.2 h3⟩, h4⟩, h5⟩, h6⟩
theorem met_ro {l : Launch} {y : MethodName} {ws : List Cond} {d : Nat} {D : va_G} {G : Nat → ClassId} {As : List Value} {ans : Int32} {wc : va_W} {sz : Nat} (h : ∀ H, va_P D vwCl wc H → Met l y ws (rmD d) (roP D G H As) (vp_Si (fun r => r = ans)) 0 0 (fun _ => False)) : Met l y ws (rmC d 0 0) (cmP D G sz wc As) (cmQi D (va_A wc sz) ans (fun z => z = wc)) 0 0 (va_A wc sz) := by
  intro p e ha hc hk s m args below hf happ hp hk'
  obtain ⟨rfl, hsz, hP, hK, hD⟩ := hp
  obtain ⟨n, o, h1, h2, h3, ⟨r, h4, h5, h6⟩, L, h7, h8⟩ := h s.heap hP p e ha hc hk s m _ below hf happ ⟨rfl, rfl, hK⟩ trivial
  refine ⟨n, o, h1, h2, h3, ⟨⟨r, wc, h4, ⟨h5, rfl⟩, ?_, hD.self⟩, ?_, ?_⟩, L, h7, fun q hq => (h8 q hq).elim⟩
  · rw [h6]; exact hP
  · rw [h6]; exact Nat.le_refl _
  · intro q _ _; rw [h6]
section U
variable {G : Nat → ClassId} {ca : Nat → Nat} {σ σ' x x' : MS} {κ : Nat → Int64} {τ : Nat → Int64} {n k w : Nat} {ea : Nat → Nat → Nat} {ba : Nat → Nat} {bg : Value} {pool z : va_W}
theorem CW_next (hE : plE G ea σ κ k pool) (hJ : EJ ea k) (hb : BGd G ea ba σ κ k bg pool) (hs : ∀ e, seW σ' σ e) (h21 : σ' 21 0 = σ 21 0) : CW G ca σ' x' κ k (cF G ca bg (enF ea k) σ' x' ++ pool) := by
  refine ⟨ea, ba, bg, pool, plE_se (fun e _ => hs e) (fun _ _ => rfl) hE, hJ, rfl, ?_⟩
  rcases hb with ⟨h1, h2⟩ | ⟨h1, h2, pl, h3, h4⟩
  · exact Or.inl ⟨h1, h21.trans h2⟩
  · exact Or.inr ⟨h1, fun q => h2 (h21.symm.trans q), pl, by rw [h3, (hs k).mb], plE_se (fun e _ => hs e) (fun _ _ => rfl) h4⟩
theorem cF_cg {en : Nat → Option Nat} (h : σ' 1 0 = σ 1 0 ∧ σ' 2 = σ 2 ∧ σ' 3 = σ 3 ∧ σ' 7 0 = σ 7 0 ∧ σ' 22 0 = σ 22 0 ∧ σ' 23 = σ 23 ∧ σ' 24 = σ 24 ∧ σ' 25 0 = σ 25 0 ∧ σ' 26 0 = σ 26 0 ∧ σ' 27 = σ 27) : cF G ca bg en σ x = cF G ca bg en σ' x := by
  obtain ⟨h1, h2, h3, h4, h5, h6, h7, h8, h9, h10⟩ := h
  unfold cF; rw [h1, h2, h3, h4, h5, h6, h7, h8, h9, h10]
theorem NX_q (hV : IV σ x τ κ n k w) (hE : plE G ea σ κ k pool) (hJ : EJ ea k) (hb : BGd G ea ba σ κ k bg pool) (v : Int32) : NX G ca (su σ 0 0 v, τ) (cF G ca bg (enF ea k) σ x ++ pool) := by
  refine ⟨n, k, w, κ, x, hV.q v, ?_⟩
  exact CW_next (σ' := su σ 0 0 v) hE hJ hb (fun e => ⟨rfl, rfl, rfl, rfl, rfl, rfl, rfl, rfl, rfl, rfl, rfl, fun _ _ => ⟨rfl, rfl⟩⟩) rfl
theorem NX_br (hV : IV σ x τ κ n k w) (hE : plE G ea σ κ k pool) (hJ : EJ ea k) (hb : BGd G ea ba σ κ k bg pool) (r : Nat) : NX G ca (brS (su σ 0 0 0) r, τ) (cF G ca bg (enF ea k) (brS (su σ 0 0 0) r) x ++ pool) := by
  refine ⟨n, k, w, κ, x, hV.br r, ?_⟩
  exact CW_next (σ' := brS (su σ 0 0 0) r) hE hJ hb (fun e => ⟨rfl, rfl, rfl, rfl, rfl, rfl, rfl, rfl, rfl, rfl, rfl, fun _ _ => ⟨rfl, rfl⟩⟩) rfl
/-- an entry more -/
abbrev ea_up (ea : Nat → Nat → Nat) (k : Nat) (a : Nat → Nat) : Nat → Nat → Nat := fun e => if e = k then a else ea e
theorem enF_up {a : Nat → Nat} : va_up (enF ea k) k (some (a 0)) = enF (ea_up ea k a) (k + 1) := by
  funext i
  unfold va_up enF ea_up
  by_cases h : i = k
  · subst h; simp
  · by_cases h2 : i < k
    · have h3 : i < k + 1 := by omega
      simp [h, h2, h3]
    · have h3 : ¬ i < k + 1 := by omega
      simp [h, h2, h3]
theorem EJ_up {a : Nat → Nat} (hJ : EJ ea k) (hE : plE G ea σ κ k pool) (ha : ∀ c ∈ pool, c.1 ≠ a 0) : EJ (ea_up ea k a) (k + 1) := by
  have hin : ∀ e, e < k → ea e 0 ≠ a 0 := fun e he => by
    by_cases c8 : σ 8 e = 0
    · have := hE e he (ea e 0, .inr (3, [.int (σ 9 e), .int (σ 10 e), .int (σ 11 e), .int (σ 12 e), .int (σ 13 e), .int (σ 14 e), .long (κ e)])) (by rw [show eW G (ea e) σ κ e = _ from if_pos c8]; exact List.mem_singleton_self _)
      exact ha _ this
    · have := hE e he (ea e 0, .inr (4, [.int (σ 9 e), .int (σ 10 e), .int (σ 11 e), .int (σ 12 e), .int (σ 13 e), .int (σ 16 e), .ref (ea e 1), .int (σ 17 e), .int (σ 28 e)])) (by rw [show eW G (ea e) σ κ e = _ from if_neg c8]; exact List.mem_cons_self)
      exact ha _ this
  intro e e' he he' h
  unfold ea_up at h
  by_cases c1 : e = k
  · by_cases c2 : e' = k
    · omega
    · rw [if_pos c1, if_neg c2] at h; exact absurd h.symm (hin e' (by omega))
  · by_cases c2 : e' = k
    · rw [if_neg c1, if_pos c2] at h; exact absurd h (hin e (by omega))
    · rw [if_neg c1, if_neg c2] at h; exact hJ e e' (by omega) (by omega) h
theorem plE_up {a : Nat → Nat} {κ' : Nat → Int64} {new : va_W} (hE : plE G ea σ κ k pool) (hs : ∀ e, e < k → seW σ' σ e) (hκ : ∀ e, e < k → κ' e = κ e) (hn : ∀ c ∈ eW G a σ' κ' k, c ∈ new) : plE G (ea_up ea k a) σ' κ' (k + 1) (new ++ pool) := by
  intro e he c hc
  unfold ea_up at hc
  by_cases q : e = k
  · rw [if_pos q, q] at hc; exact List.mem_append_left _ (hn c hc)
  · rw [if_neg q, (hs e (by omega)).eW (hκ e (by omega))] at hc
    exact List.mem_append_right _ (hE e (by omega) c hc)
theorem enC_0 : ∀ j, j ≤ k → ∀ i, enC (enF ea k) j i = if i < j then none else enF ea k i
  | 0, _, i => by rw [if_neg (Nat.not_lt_zero i)]; rfl
  | j + 1, hj, i => by
    show va_up (enC (enF ea k) j) j none i = _
    unfold va_up
    by_cases h : i = j
    · rw [if_pos h, if_pos (by omega)]
    · rw [if_neg h, enC_0 j (by omega) i]
      by_cases h2 : i < j
      · rw [if_pos h2, if_pos (by omega)]
      · rw [if_neg h2, if_neg (by omega)]
theorem enC_all : enC (enF ea k) k = enF ea 0 := by
  funext i
  rw [enC_0 k (Nat.le_refl _) i]
  unfold enF
  by_cases h : i < k
  · rw [if_pos h, if_neg (Nat.not_lt_zero i)]
  · rw [if_neg h, if_neg h, if_neg (Nat.not_lt_zero i)]
/-- a field's constant is told -/
theorem plE_const {j i : Nat} {v : Int64} (hE : plE G ea σ κ k pool) (hJ : EJ ea k) (hj : j < k) (h8 : σ 8 j = 0) (hi : pool[i]? = some (ea j 0, .inr (3, [.int (σ 9 j), .int (σ 10 j), .int (σ 11 j), .int (σ 12 j), .int (σ 13 j), .int (σ 14 j), .long (κ j)]))) :
    plE G ea (su (su σ 0 0 0) 14 j 1) (vp_updL κ j v) k (pool.set i (ea j 0, .inr (3, [.int (σ 9 j), .int (σ 10 j), .int (σ 11 j), .int (σ 12 j), .int (σ 13 j), .int 1, .long v]))) := by
  have hil := (List.getElem?_eq_some_iff.mp hi).1
  intro e he c hc
  by_cases q : e = j
  · subst q
    rw [show eW G (ea e) (su (su σ 0 0 0) 14 e 1) (vp_updL κ e v) e = fdW (ea e) (su (su σ 0 0 0) 14 e 1) (vp_updL κ e v) e from if_pos h8] at hc
    have e14 : (su (su σ 0 0 0) 14 e 1) 14 e = 1 := pk_us
    unfold fdW at hc
    rw [e14, show vp_updL κ e v e = v from if_pos rfl] at hc
    rw [List.mem_singleton.mp hc]
    exact List.mem_of_getElem? (List.getElem?_set_self hil)
  · have e14 : (su (su σ 0 0 0) 14 j 1) 14 e = σ 14 e := pk_un q
    have hs : seW (su (su σ 0 0 0) 14 j 1) σ e := ⟨rfl, rfl, rfl, rfl, rfl, rfl, e14, rfl, rfl, rfl, rfl, fun _ _ => ⟨rfl, rfl⟩⟩
    rw [hs.eW (show vp_updL κ j v e = κ e from if_neg q)] at hc
    obtain ⟨i2, hi2⟩ := List.getElem?_of_mem (hE e he c hc)
    have hne : i2 ≠ i := fun z => by
      rw [z, hi] at hi2
      have hcc := Option.some.inj hi2
      by_cases c8 : σ 8 e = 0
      · rw [show eW G (ea e) σ κ e = fdW (ea e) σ κ e from if_pos c8] at hc
        have := List.mem_singleton.mp hc
        rw [← hcc] at this
        exact q (hJ e j he hj (congrArg Prod.fst this).symm)
      · rw [show eW G (ea e) σ κ e = mbW G (ea e) σ e (σ 28 e) from if_neg c8, ← hcc] at hc
        simp [mbW] at hc
    have : (pool.set i (ea j 0, .inr (3, [.int (σ 9 j), .int (σ 10 j), .int (σ 11 j), .int (σ 12 j), .int (σ 13 j), .int 1, .long v])))[i2]? = some c := by rw [List.getElem?_set_ne (Ne.symm hne)]; exact hi2
    exact List.mem_of_getElem? this
theorem mb_set {i a0 : Nat} {vs : List Value} {c : Nat × va_E} {pl : va_W} (hi : (mbW G ba σ k (-1) ++ pl)[i]? = some (a0, .inr (3, vs))) : ∃ i', pl[i']? = some (a0, .inr (3, vs)) ∧ (mbW G ba σ k (-1) ++ pl).set i c = mbW G ba σ k (-1) ++ pl.set i' c := by
  by_cases h : i < 4
  · rw [List.getElem?_append_left (by exact h)] at hi
    rcases (show i = 0 ∨ i = 1 ∨ i = 2 ∨ i = 3 by omega) with rfl | rfl | rfl | rfl <;> simp [mbW] at hi
  · refine ⟨i - 4, ?_, ?_⟩
    · rw [List.getElem?_append_right (by show 4 ≤ i; omega)] at hi; exact hi
    · rw [List.set_append_right _ _ (by show 4 ≤ i; omega)]; rfl
end U

set_option maxHeartbeats 800000 in
theorem u_below (l : Launch) (D : va_G) (G : Nat → ClassId) (ca : Nat → Nat) (n k w0 : Nat) (σ x : MS) (τ κ : Nat → Int64) (wc : va_W) (sz : Nat) (hV : IV σ x τ κ n k w0) (hC : CW G ca σ x κ k wc) (t o : Int32) : Met l yX7_below (ww yX7_below cX7_below 3 (some .int)) (rmC 1 0 0) (cmP D G sz wc [.ref (ca 0), .int t, .int o]) (cmQi D (va_A wc sz) (oBelow σ τ n t o).1 (fun z => NX G ca (oBelow σ τ n t o).2 z)) 0 0 (va_A wc sz) := by
  obtain ⟨ea, ba, bg, pool, hE, hJ, rfl, hb⟩ := hC
  refine met_w (met_ro (fun H hP => c_below l D G H ca bg ea n k w0 σ x κ (cF_of hP) (plE_P hP hE) hV.cI t o τ)) rfl (fun z _ hz => ?_)
  subst hz
  have e9 : (oBelow σ τ n t o).2 = (su σ 0 0 0, τ) := by unfold oBelow; (repeat' split) <;> rfl
  rw [e9]; exact NX_q hV hE hJ hb 0
set_option maxHeartbeats 800000 in
theorem u_entry (l : Launch) (D : va_G) (G : Nat → ClassId) (ca : Nat → Nat) (n k w0 : Nat) (σ x : MS) (τ κ : Nat → Int64) (wc : va_W) (sz : Nat) (hV : IV σ x τ κ n k w0) (hC : CW G ca σ x κ k wc) (en what : Int32) : Met l yX7_entry (ww yX7_entry cX7_entry 4 (some .int)) (rmC 1 0 0) (cmP D G sz wc [.ref (ca 0), .int en, .int what]) (cmQi D (va_A wc sz) (oEntry σ τ k en what).1 (fun z => NX G ca (oEntry σ τ k en what).2 z)) 0 0 (va_A wc sz) := by
  obtain ⟨ea, ba, bg, pool, hE, hJ, rfl, hb⟩ := hC
  refine met_w (met_ro (fun H hP => c_entry l D G H ca bg ea n k w0 σ x κ (cF_of hP) (plE_P hP hE) hV.cI en what τ)) rfl (fun z _ hz => ?_)
  subst hz
  have e9 : (oEntry σ τ k en what).2 = (su σ 0 0 0, τ) := by unfold oEntry; (repeat' split) <;> rfl
  rw [e9]; exact NX_q hV hE hJ hb 0
set_option maxHeartbeats 800000 in
theorem u_shape (l : Launch) (D : va_G) (G : Nat → ClassId) (ca : Nat → Nat) (n k w0 : Nat) (σ x : MS) (τ κ : Nat → Int64) (wc : va_W) (sz : Nat) (hV : IV σ x τ κ n k w0) (hC : CW G ca σ x κ k wc) (en what : Int32) : Met l yX7_shape (ww yX7_shape cX7_shape 5 (some .int)) (rmC 1 0 0) (cmP D G sz wc [.ref (ca 0), .int en, .int what]) (cmQi D (va_A wc sz) (oShape σ τ k en what).1 (fun z => NX G ca (oShape σ τ k en what).2 z)) 0 0 (va_A wc sz) := by
  obtain ⟨ea, ba, bg, pool, hE, hJ, rfl, hb⟩ := hC
  refine met_w (met_ro (fun H hP => c_shape l D G H ca bg ea n k w0 σ x κ (cF_of hP) (plE_P hP hE) hV.cI en what τ)) rfl (fun z _ hz => ?_)
  subst hz
  have e9 : (oShape σ τ k en what).2 = (su σ 0 0 0, τ) := by unfold oShape; (repeat' split) <;> rfl
  rw [e9]; exact NX_q hV hE hJ hb 0
set_option maxHeartbeats 800000 in
theorem u_way (l : Launch) (D : va_G) (G : Nat → ClassId) (ca : Nat → Nat) (n k w0 : Nat) (σ x : MS) (τ κ : Nat → Int64) (wc : va_W) (sz : Nat) (hV : IV σ x τ κ n k w0) (hC : CW G ca σ x κ k wc)  : Met l yX7_way (ww yX7_way cX7_way 1 (some .int)) (rmC 0 0 0) (cmP D G sz wc [.ref (ca 0)]) (cmQi D (va_A wc sz) (((σ 25 0, (su σ 0 0 0, τ)) : Int32 × MU)).1 (fun z => NX G ca (((σ 25 0, (su σ 0 0 0, τ)) : Int32 × MU)).2 z)) 0 0 (va_A wc sz) := by
  obtain ⟨ea, ba, bg, pool, hE, hJ, rfl, hb⟩ := hC
  refine met_w (met_ro (fun H hP => c_way l D G H ca bg ea n k w0 σ x κ (cF_of hP) (plE_P hP hE) hV.cI )) rfl (fun z _ hz => ?_)
  subst hz
  have e9 : (((σ 25 0, (su σ 0 0 0, τ)) : Int32 × MU)).2 = (su σ 0 0 0, τ) := by rfl
  rw [e9]; exact NX_q hV hE hJ hb 0
set_option maxHeartbeats 800000 in
theorem u_lacks (l : Launch) (D : va_G) (G : Nat → ClassId) (ca : Nat → Nat) (n k w0 : Nat) (σ x : MS) (τ κ : Nat → Int64) (wc : va_W) (sz : Nat) (hV : IV σ x τ κ n k w0) (hC : CW G ca σ x κ k wc) (t ii : Int32) : Met l yX7_lacks (ww yX7_lacks cX7_lacks 7 (some .int)) (rmC 5 0 0) (cmP D G sz wc [.ref (ca 0), .int t, .int ii]) (cmQi D (va_A wc sz) (oLacks σ τ n k t ii).1 (fun z => NX G ca (oLacks σ τ n k t ii).2 z)) 0 0 (va_A wc sz) := by
  obtain ⟨ea, ba, bg, pool, hE, hJ, rfl, hb⟩ := hC
  refine met_w (met_ro (fun H hP => c_lacks l D G H ca bg ea n k w0 σ x κ (cF_of hP) (plE_P hP hE) hV.cI t ii τ)) rfl (fun z _ hz => ?_)
  subst hz
  have e9 : (oLacks σ τ n k t ii).2 = (su σ 0 0 0, τ) := by unfold oLacks; (repeat' split) <;> rfl
  rw [e9]; exact NX_q hV hE hJ hb 0
set_option maxHeartbeats 800000 in
theorem u_count (l : Launch) (D : va_G) (G : Nat → ClassId) (ca : Nat → Nat) (n k w0 : Nat) (σ x : MS) (τ κ : Nat → Int64) (wc : va_W) (sz : Nat) (hV : IV σ x τ κ n k w0) (hC : CW G ca σ x κ k wc) (what : Int32) : Met l yX7_count (ww yX7_count cX7_count 2 (some .int)) (rmC 1 0 0) (cmP D G sz wc [.ref (ca 0), .int what]) (cmQi D (va_A wc sz) (oCount σ τ k what).1 (fun z => NX G ca (oCount σ τ k what).2 z)) 0 0 (va_A wc sz) := by
  obtain ⟨ea, ba, bg, pool, hE, hJ, rfl, hb⟩ := hC
  refine met_w (met_ro (fun H hP => c_count l D G H ca bg ea n k w0 σ x κ (cF_of hP) (plE_P hP hE) hV.cI ba (hb.imp id (fun h => ⟨h.1, h.2.1, (by obtain ⟨-, -, pl, rfl, -⟩ := h; exact (fr_Pl (fr_P hP))), (hV.2.2.2.2.2 h.2.1).2.1⟩)) what τ)) rfl (fun z _ hz => ?_)
  subst hz
  have e9 : (oCount σ τ k what).2 = (su σ 0 0 0, τ) := by unfold oCount; (repeat' split) <;> rfl
  rw [e9]; exact NX_q hV hE hJ hb 0
set_option maxHeartbeats 800000 in
theorem u_broken (l : Launch) (D : va_G) (G : Nat → ClassId) (ca : Nat → Nat) (n k w0 : Nat) (σ x : MS) (τ κ : Nat → Int64) (wc : va_W) (sz : Nat) (hV : IV σ x τ κ n k w0) (hC : CW G ca σ x κ k wc) (rr : Int32) : Met l yX7_broken (ww yX7_broken cX7_broken 2 (some .int)) (rmC 1 0 0) (cmP D G sz wc [.ref (ca 0), .int rr]) (cmQi D (va_A wc sz) (oBroken σ τ rr).1 (fun z => NX G ca (oBroken σ τ rr).2 z)) 0 0 (va_A wc sz) := by
  obtain ⟨ea, ba, bg, pool, hE, hJ, rfl, hb⟩ := hC
  refine met_w (met_ro (fun H hP => c_broken l D G H ca bg ea n k w0 σ x κ (cF_of hP) (plE_P hP hE) hV.cI rr τ)) rfl (fun z _ hz => ?_)
  subst hz
  have e9 : (oBroken σ τ rr).2 = (su σ 0 0 0, τ) := by unfold oBroken; (repeat' split) <;> rfl
  rw [e9]; exact NX_q hV hE hJ hb 0
set_option maxHeartbeats 800000 in
theorem u_type (l : Launch) (D : va_G) (G : Nat → ClassId) (ca : Nat → Nat) (n k w0 : Nat) (σ x : MS) (τ κ : Nat → Int64) (wc : va_W) (sz : Nat) (hV : IV σ x τ κ n k w0) (hC : CW G ca σ x κ k wc) (sort parent : Int32) : Met l yX7_type (ww yX7_type cX7_type 3 (some .int)) (rmC 4 0 0) (cmP D G sz wc [.ref (ca 0), .int sort, .int parent]) (cmQi D (va_A wc sz) (oType σ τ n sort parent).1 (fun z => NX G ca (oType σ τ n sort parent).2 z)) 0 0 (va_A wc sz) := by
  obtain ⟨ea, ba, bg, pool, hE, hJ, rfl, hb⟩ := hC
  refine met_w (c_type l D G ca bg ea n k w0 σ x κ pool sz hE hV.cI sort parent (fun t ht => (hV.2.1.2.1 t ht).1.1) τ) rfl (fun z _ hz => ?_)
  subst hz
  obtain ⟨n', _, hI'⟩ := hV.type (sort := sort) (parent := parent)
  have et : (oType σ τ n sort parent).2.2 = τ := by unfold oType; (repeat' split) <;> rfl
  refine ⟨n', k, w0, κ, _, by rw [et]; exact hI', CW_next hE hJ hb (fun e => ?_) ?_⟩
  · unfold oType; (repeat' split) <;> exact ⟨rfl, rfl, rfl, rfl, rfl, rfl, rfl, rfl, rfl, rfl, rfl, fun _ _ => ⟨rfl, rfl⟩⟩
  · unfold oType; (repeat' split) <;> rfl
set_option maxHeartbeats 800000 in
theorem u_face (l : Launch) (D : va_G) (G : Nat → ClassId) (ca : Nat → Nat) (n k w0 : Nat) (σ x : MS) (τ κ : Nat → Int64) (wc : va_W) (sz : Nat) (hV : IV σ x τ κ n k w0) (hC : CW G ca σ x κ k wc) (t f : Int32) : Met l yX7_face (ww yX7_face cX7_face 3 (some .int)) (rmC 4 0 0) (cmP D G sz wc [.ref (ca 0), .int t, .int f]) (cmQi D (va_A wc sz) (oFace σ τ n k t f).1 (fun z => NX G ca (oFace σ τ n k t f).2 z)) 0 0 (va_A wc sz) := by
  obtain ⟨ea, ba, bg, pool, hE, hJ, rfl, hb⟩ := hC
  have hf := face_eq (τ := τ) (t := t) (f := f) hV.2.1 hV.1.1.2 hV.1.2.1.1 hV.1.2.1.2
  refine met_w (c_face l D G ca bg ea n k w0 σ x κ pool sz hE hV.cI t f ba (hb.imp id (fun h => ⟨h.1, h.2.1⟩))) hf.1 (fun z _ hz => ?_)
  subst hz
  have et : (oFace σ τ n k t f).2.2 = τ := by unfold oFace; (repeat' split) <;> rfl
  rw [cF_cg (σ := σ) (σ' := (oFace σ τ n k t f).2.1) (by unfold oFace; (repeat' split) <;> exact ⟨rfl, rfl, rfl, rfl, rfl, rfl, rfl, rfl, rfl, rfl⟩)]
  refine ⟨n, k, w0, κ, _, by rw [et]; exact hV.face, CW_next hE hJ hb (fun e => ?_) ?_⟩
  · unfold oFace; (repeat' split) <;> exact ⟨rfl, rfl, rfl, rfl, rfl, rfl, rfl, rfl, rfl, rfl, rfl, fun _ _ => ⟨rfl, rfl⟩⟩
  · unfold oFace; (repeat' split) <;> rfl
set_option maxHeartbeats 800000 in
theorem u_sought (l : Launch) (D : va_G) (G : Nat → ClassId) (ca : Nat → Nat) (n k w0 : Nat) (σ x : MS) (τ κ : Nat → Int64) (wc : va_W) (sz : Nat) (hV : IV σ x τ κ n k w0) (hC : CW G ca σ x κ k wc) (t name : Int32) : Met l yX7_sought (ww yX7_sought cX7_sought 4 (some .int)) (rmC 3 0 0) (cmP D G sz wc [.ref (ca 0), .int t, .int name]) (cmQi D (va_A wc sz) (oSought σ τ n k t name).1 (fun z => NX G ca (oSought σ τ n k t name).2 z)) 0 0 (va_A wc sz) := by
  obtain ⟨ea, ba, bg, pool, hE, hJ, rfl, hb⟩ := hC
  refine met_w (c_sought l D G ca bg ea n k w0 σ x κ pool sz hE hV.cI t name (TI.pt hV.2.1)) (sought_eq (τ := τ) hV.2.1 hV.1.1.2 hV.1.2.1.2) (fun z _ hz => ?_)
  subst hz
  have et : (oSought σ τ n k t name).2.2 = τ := by unfold oSought; (repeat' split) <;> rfl
  rw [cF_cg (σ := σ) (σ' := (oSought σ τ n k t name).2.1) (by unfold oSought; (repeat' split) <;> exact ⟨rfl, rfl, rfl, rfl, rfl, rfl, rfl, rfl, rfl, rfl⟩)]
  refine ⟨n, k, w0, κ, _, by rw [et]; exact hV.sought, CW_next hE hJ hb (fun e => ?_) ?_⟩
  · unfold oSought; (repeat' split) <;> exact ⟨rfl, rfl, rfl, rfl, rfl, rfl, rfl, rfl, rfl, rfl, rfl, fun _ _ => ⟨rfl, rfl⟩⟩
  · unfold oSought; (repeat' split) <;> rfl
set_option maxHeartbeats 800000 in
theorem u_argument (l : Launch) (D : va_G) (G : Nat → ClassId) (ca : Nat → Nat) (n k w0 : Nat) (σ x : MS) (τ κ : Nat → Int64) (wc : va_W) (sz : Nat) (hV : IV σ x τ κ n k w0) (hC : CW G ca σ x κ k wc) (kind dd : Int32) : Met l yX7_argument (ww yX7_argument cX7_argument 3 (some .int)) (rmC 2 0 0) (cmP D G sz wc [.ref (ca 0), .int kind, .int dd]) (cmQi D (va_A wc sz) (oArg σ τ n w0 kind dd).1 (fun z => NX G ca (oArg σ τ n w0 kind dd).2 z)) 0 0 (va_A wc sz) := by
  obtain ⟨ea, ba, bg, pool, hE, hJ, rfl, hb⟩ := hC
  refine met_w (c_argument l D G ca bg ea n k w0 σ x κ pool sz hE hV.cI kind dd τ) rfl (fun z _ hz => ?_)
  subst hz
  obtain ⟨w', hI'⟩ := hV.arg (kind := kind) (d := dd)
  have et : (oArg σ τ n w0 kind dd).2.2 = τ := by unfold oArg; (repeat' split) <;> rfl
  refine ⟨n, k, w', κ, _, by rw [et]; exact hI', CW_next hE hJ hb (fun e => ?_) ?_⟩
  · unfold oArg; (repeat' split) <;> exact ⟨rfl, rfl, rfl, rfl, rfl, rfl, rfl, rfl, rfl, rfl, rfl, fun _ _ => ⟨rfl, rfl⟩⟩
  · unfold oArg; (repeat' split) <;> rfl
set_option maxHeartbeats 800000 in
theorem u_call (l : Launch) (D : va_G) (G : Nat → ClassId) (ca : Nat → Nat) (n k w0 : Nat) (σ x : MS) (τ κ : Nat → Int64) (wc : va_W) (sz : Nat) (hV : IV σ x τ κ n k w0) (hC : CW G ca σ x κ k wc) (t name : Int32) : Met l yX7_call (ww yX7_call cX7_call 6 (some .int)) (rmC 6 0 0) (cmP D G sz wc [.ref (ca 0), .int t, .int name]) (cmQi D (va_A wc sz) (oCall σ τ n k w0 t name).1 (fun z => NX G ca (oCall σ τ n k w0 t name).2 z)) 0 0 (va_A wc sz) := by
  obtain ⟨ea, ba, bg, pool, hE, hJ, rfl, hb⟩ := hC
  have hc := call_eq (x := x) (τ := τ) (w := w0) (t := t) (name := name) hV.2.1 hV.1.1.2 hV.1.2.1.2 hV.2.2.1.2.1
  refine met_w (c_call l D G ca bg ea n k w0 σ x κ pool sz hE hV.cI t name) hc.1 (fun z _ hz => ?_)
  subst hz
  obtain ⟨w', hI'⟩ := hV.call (t := t) (name := name)
  have et : (oCall σ τ n k w0 t name).2.2 = τ := by unfold oCall; (repeat' split) <;> rfl
  have h25 := hc.2.symm
  rw [cF_cg (σ := (ccl σ x n k w0 t name).2.1) (σ' := (oCall σ τ n k w0 t name).2.1) (by revert h25; unfold ccl oCall; (repeat' split) <;> (intro h25; exact ⟨rfl, rfl, rfl, rfl, rfl, rfl, rfl, h25, rfl, rfl⟩))]
  refine ⟨n, k, w', κ, _, by rw [et]; exact hI', CW_next hE hJ hb (fun e => ?_) ?_⟩
  · unfold oCall; (repeat' split) <;> exact ⟨rfl, rfl, rfl, rfl, rfl, rfl, rfl, rfl, rfl, rfl, rfl, fun _ _ => ⟨rfl, rfl⟩⟩
  · unfold oCall; (repeat' split) <;> rfl
set_option maxHeartbeats 800000 in
theorem u_clear (l : Launch) (D : va_G) (G : Nat → ClassId) (ca : Nat → Nat) (n k w0 : Nat) (σ x : MS) (τ κ : Nat → Int64) (wc : va_W) (sz : Nat) (hV : IV σ x τ κ n k w0) (hC : CW G ca σ x κ k wc)  : Met l yX7_clear (ww yX7_clear cX7_clear 3 (some .int)) (rmC 1 0 0) (cmP D G sz wc [.ref (ca 0)]) (cmQi D (va_A wc sz) (oClear σ τ k).1 (fun z => NX G ca (oClear σ τ k).2 z)) 0 0 (va_A wc sz) := by
  obtain ⟨ea, ba, bg, pool, hE, hJ, rfl, hb⟩ := hC
  refine met_w (c_clear l D G ca bg ea n k w0 σ x κ pool sz hE hV.cI τ) rfl (fun z _ hz => ?_)
  subst hz
  rw [enC_all]
  exact ⟨0, 0, 0, κ, x, hV.clear, ea, ba, .null, pool, fun e he => absurd he (Nat.not_lt_zero e), fun e e' he => absurd he (Nat.not_lt_zero e), rfl, Or.inl ⟨rfl, rfl⟩⟩
theorem sw_par {σ : MS} {τ : Nat → Int64} {n k : Nat} {kind d v : Int32} (hm : ∀ e, okM σ e) {e : Nat} (he : e < k) : seW (oPar σ τ n k kind d v).2.1 σ e := by
  unfold oPar; (repeat' split) <;> try exact ⟨rfl, rfl, rfl, rfl, rfl, rfl, rfl, rfl, rfl, rfl, rfl, fun _ _ => ⟨rfl, rfl⟩⟩
  have := (hm e).2
  have := (hm k).2
  exact ⟨rfl, rfl, rfl, rfl, rfl, rfl, rfl, rfl, pk_un (by omega), pk_un (by omega), rfl, fun i hi => ⟨pk_un (by omega), pk_un (by omega)⟩⟩
set_option maxHeartbeats 800000 in
theorem u_parameter (l : Launch) (D : va_G) (G : Nat → ClassId) (ca : Nat → Nat) (n k w0 : Nat) (σ x : MS) (τ κ : Nat → Int64) (wc : va_W) (sz : Nat) (hV : IV σ x τ κ n k w0) (hC : CW G ca σ x κ k wc) (kind dd vr : Int32) (hvr : vr = 0 ∨ vr = 1) : Met l yX7_parameter (ww yX7_parameter cX7_parameter 5 (some .int)) (rmC 2 0 0) (cmP D G sz wc [.ref (ca 0), .int kind, .int dd, .int vr]) (cmQi D (va_A wc sz) (oPar σ τ n k kind dd vr).1 (fun z => NX G ca (oPar σ τ n k kind dd vr).2 z)) 0 0 (va_A wc sz) := by
  obtain ⟨ea, ba, bg, pool, hE, hJ, rfl, hb⟩ := hC
  rcases hb with ⟨rfl, h21⟩ | ⟨rfl, h21, pl, rfl, hE2⟩
  · refine met_w (c_parameterNo l D G ca ea n k w0 σ x κ pool sz hE hV.cI kind dd vr h21 τ) rfl (fun z _ hz => ?_)
    subst hz
    have e9 : (oPar σ τ n k kind dd vr).2 = (su σ 0 0 0, τ) := by unfold oPar; rw [if_pos h21]
    rw [e9]; exact NX_q (ba := ba) hV hE hJ (Or.inl ⟨rfl, h21⟩) 0
  · refine met_w (c_parameter l D G ca ea n k w0 σ x κ pl sz hE2 hV.cI ba (hV.2.2.2.2.2 h21).2.1 kind dd vr hvr h21 τ) rfl (fun z _ hz => ?_)
    subst hz
    have et : (oPar σ τ n k kind dd vr).2.2 = τ := by unfold oPar; (repeat' split) <;> rfl
    have hp := hV.par (kind := kind) (d := dd) (v := vr)
    have hs : ∀ e, e < k → seW (oPar σ τ n k kind dd vr).2.1 σ e := fun e he => sw_par (fun e => (hV.2.2.1.2.2.1 e).1) he
    exact ⟨n, k, w0, κ, x, by rw [et]; exact hp.1, ea, ba, _, _, plE_app (plE_se hs (fun _ _ => rfl) hE2) _, hJ, rfl, Or.inr ⟨rfl, fun q => h21 (hp.2.symm.trans q), pl, rfl, plE_se hs (fun _ _ => rfl) hE2⟩⟩
theorem sw_end {σ : MS} {τ : Nat → Int64} {k : Nat} {e : Nat} (he : e < k) : seW (oEnd σ τ k).2.1 σ e := by
  unfold oEnd; (repeat' split) <;> try exact ⟨rfl, rfl, rfl, rfl, rfl, rfl, rfl, rfl, rfl, rfl, rfl, fun _ _ => ⟨rfl, rfl⟩⟩
  exact ⟨pk_un (by omega), rfl, rfl, rfl, rfl, rfl, rfl, rfl, rfl, rfl, pk_un (by omega), fun i hi => ⟨rfl, rfl⟩⟩
set_option maxHeartbeats 800000 in
theorem u_end (l : Launch) (D : va_G) (G : Nat → ClassId) (ca : Nat → Nat) (n k w0 : Nat) (σ x : MS) (τ κ : Nat → Int64) (wc : va_W) (sz : Nat) (hV : IV σ x τ κ n k w0) (hC : CW G ca σ x κ k wc)  : Met l yX7_end (ww yX7_end cX7_end 3 (some .int)) (rmC 6 0 0) (cmP D G sz wc [.ref (ca 0)]) (cmQi D (va_A wc sz) (oEnd σ τ k).1 (fun z => NX G ca (oEnd σ τ k).2 z)) 0 0 (va_A wc sz) := by
  obtain ⟨ea, ba, bg, pool, hE, hJ, rfl, hb⟩ := hC
  rcases hb with ⟨rfl, h21⟩ | ⟨rfl, h21, pl, rfl, hE2⟩
  · refine met_w (c_endNo l D G ca ea n k w0 σ x κ pool sz hE hV.cI h21 τ) rfl (fun z _ hz => ?_)
    subst hz
    have e9 : (oEnd σ τ k).2 = (su σ 0 0 0, τ) := by unfold oEnd; rw [if_pos h21]
    rw [e9]; exact NX_q (ba := ba) hV hE hJ (Or.inl ⟨rfl, h21⟩) 0
  · refine met_w (c_end l D G ca ea n k w0 σ x κ pl sz hE2 hV.cI ba (hV.2.2.2.2.2 h21).2.1 h21 (hV.2.2.2.2.2 h21).1 τ) rfl (fun z hd hz => ?_)
    have et : (oEnd σ τ k).2.2 = τ := by unfold oEnd; (repeat' split) <;> rfl
    have hs : ∀ e, e < k → seW (oEnd σ τ k).2.1 σ e := fun e he => sw_end he
    rcases hV.end_ with ⟨a1, a2, a3⟩ | ⟨a1, a2, a3, a4⟩
    · rcases hz with ⟨b1, _⟩ | ⟨b1, rfl⟩
      · exact absurd b1 a1
      · exact ⟨n, k, w0, κ, x, by rw [et]; exact a2, ea, ba, _, _, plE_app (plE_se hs (fun _ _ => rfl) hE2) _, hJ, rfl, Or.inl ⟨rfl, a3⟩⟩
    · rcases hz with ⟨b1, rfl⟩ | ⟨b1, _⟩
      · refine ⟨n, k + 1, w0, κ, x, by rw [et]; exact a4, ea_up ea k ba, ba, .null, _, plE_up (new := mbW G ba σ k (fnd (fun b => meetP σ k b) k 0)) hE2 hs (fun _ _ => rfl) (fun c hc => ?_), EJ_up hJ hE2 (fun c hc => ?_), by rw [enF_up], Or.inl ⟨rfl, by rw [a3]; rfl⟩⟩
        · rw [a3] at hc
          have e8 : (su (su (su (su (su σ 0 0 0) 21 0 0) 28 k (fnd (fun b => meetP σ k b) k 0)) 8 k 1) 7 0 (nI (k + 1))) 8 k = 1 := pk_us
          have e28 : (su (su (su (su (su σ 0 0 0) 21 0 0) 28 k (fnd (fun b => meetP σ k b) k 0)) 8 k 1) 7 0 (nI (k + 1))) 28 k = fnd (fun b => meetP σ k b) k 0 := pk_us
          rw [show eW G ba (su (su (su (su (su σ 0 0 0) 21 0 0) 28 k (fnd (fun b => meetP σ k b) k 0)) 8 k 1) 7 0 (nI (k + 1))) κ k = _ from if_neg (by rw [e8]; decide), e28] at hc
          exact hc
        · exact fun q => fr_dis (fr_D2 hd) _ List.mem_cons_self c hc q.symm
      · exact absurd a1 b1
theorem sw_fieldF {σ : MS} {τ : Nat → Int64} {n k : Nat} {t name kind d m : Int32} (hk : k ≤ 60) (h : ¬ 0 ≤ (oField σ τ n k t name kind d m).1) (e : Nat) : seW (oField σ τ n k t name kind d m).2.1 σ e ∧ (oField σ τ n k t name kind d m).2.1 21 0 = σ 21 0 := by
  revert h
  unfold oField; (repeat' split) <;> intro h
  · exact ⟨⟨rfl, rfl, rfl, rfl, rfl, rfl, rfl, rfl, rfl, rfl, rfl, fun _ _ => ⟨rfl, rfl⟩⟩, rfl⟩
  · exact ⟨⟨rfl, rfl, rfl, rfl, rfl, rfl, rfl, rfl, rfl, rfl, rfl, fun _ _ => ⟨rfl, rfl⟩⟩, rfl⟩
  · exact absurd (nI_pos' (by omega)) h
  · exact absurd (nI_pos' (by omega)) h
set_option maxHeartbeats 800000 in
theorem u_field (l : Launch) (D : va_G) (G : Nat → ClassId) (ca : Nat → Nat) (n k w0 : Nat) (σ x : MS) (τ κ : Nat → Int64) (wc : va_W) (sz : Nat) (hV : IV σ x τ κ n k w0) (hC : CW G ca σ x κ k wc) (t name kind dd mm : Int32) : Met l yX7_field (ww yX7_field cX7_field 10 (some .int)) (rmC 3 1 7) (cmP D G sz wc [.ref (ca 0), .int t, .int name, .int kind, .int dd, .int mm]) (cmQi D (va_A wc sz) (oField σ τ n k t name kind dd mm).1 (fun z => NX G ca (oField σ τ n k t name kind dd mm).2 z)) 1 7 (va_A wc sz) := by
  obtain ⟨ea, ba, bg, pool, hE, hJ, rfl, hb⟩ := hC
  rcases hb with ⟨rfl, h21⟩ | ⟨rfl, h21, pl, rfl, hE2⟩
  · refine met_w (c_field l D G ca ea n k w0 σ x κ pool sz hE hV.cI t name kind dd mm h21 τ) rfl (fun z hd hz => ?_)
    have et : (oField σ τ n k t name kind dd mm).2.2 = τ := by unfold oField; (repeat' split) <;> rfl
    rcases hV.field (t := t) (name := name) (kind := kind) (d := dd) (m := mm) with ⟨a1, a2⟩ | ⟨a1, a2, a3, a4, a5⟩
    · rcases hz with ⟨b1, rfl⟩ | ⟨b1, _⟩
      · exact ⟨n, k, w0, κ, x, by rw [et]; exact a2, CW_next hE hJ (Or.inl ⟨rfl, h21⟩ : BGd G ea ba σ κ k .null pool) (fun e => (sw_fieldF hV.1.2.1.2 a1 e).1) (sw_fieldF hV.1.2.1.2 a1 0).2⟩
      · exact absurd b1 a1
    · rcases hz with ⟨b1, _⟩ | ⟨b1, q, rfl⟩
      · exact absurd a1 b1
      · have hs : ∀ e, e < k → seW (oField σ τ n k t name kind dd mm).2.1 σ e := fun e he => by rw [a4]; exact ⟨pk_un (by omega), pk_un (by omega), pk_un (by omega), pk_un (by omega), pk_un (by omega), pk_un (by omega), pk_un (by omega), rfl, rfl, rfl, rfl, fun _ _ => ⟨rfl, rfl⟩⟩
        refine ⟨n, k + 1, w0, vp_updL κ k 0, x, by rw [et]; exact a5 0, ea_up ea k (fun _ => q), ba, .null, _, plE_up hE hs (fun e he => if_neg (by omega)) (fun c hc => ?_), EJ_up (a := fun _ => q) hJ hE (fun c hc => ?_), by rw [← enF_up (a := fun _ => q)], Or.inl ⟨rfl, by rw [a4]; exact h21⟩⟩
        · have e8 : (oField σ τ n k t name kind dd mm).2.1 8 k = 0 := by rw [a4]; exact pk_us
          rw [show eW G (fun _ => q) (oField σ τ n k t name kind dd mm).2.1 (vp_updL κ k 0) k = _ from if_pos e8] at hc; exact hc
        · exact fun z => fr_dis (fr_D2 hd) _ List.mem_cons_self c hc z.symm
  · refine met_w (c_fieldBusy l D G ca ea n k w0 σ x κ pl sz hE2 hV.cI ba (hV.2.2.2.2.2 h21).2.1 t name kind dd mm h21 τ) rfl (fun z _ hz => ?_)
    subst hz
    have e9 : (oField σ τ n k t name kind dd mm).2 = (su σ 0 0 0, τ) := by unfold oField; rw [if_pos (aRef_z.resolve_left (aRef_b h21))]
    rw [e9]; exact NX_q hV hE hJ (Or.inr ⟨rfl, h21, pl, rfl, hE2⟩) 0
theorem sw_memF {σ : MS} {τ : Nat → Int64} {n k : Nat} {t name kind d m bd : Int32} (h : ¬ (oMember σ τ n k t name kind d m bd).1 = 1) (e : Nat) : seW (oMember σ τ n k t name kind d m bd).2.1 σ e := by
  revert h
  unfold oMember; (repeat' split) <;> intro h
  · exact ⟨rfl, rfl, rfl, rfl, rfl, rfl, rfl, rfl, rfl, rfl, rfl, fun _ _ => ⟨rfl, rfl⟩⟩
  · exact ⟨rfl, rfl, rfl, rfl, rfl, rfl, rfl, rfl, rfl, rfl, rfl, fun _ _ => ⟨rfl, rfl⟩⟩
  · exact absurd rfl h
set_option maxHeartbeats 800000 in
theorem u_member (l : Launch) (D : va_G) (G : Nat → ClassId) (ca : Nat → Nat) (n k w0 : Nat) (σ x : MS) (τ κ : Nat → Int64) (wc : va_W) (sz : Nat) (hV : IV σ x τ κ n k w0) (hC : CW G ca σ x κ k wc) (t name kind dd mm bd : Int32) (hbd : bd = 0 ∨ bd = 1) : Met l yX7_member (ww yX7_member cX7_member 11 (some .int)) (rmC 4 4 22) (cmP D G sz wc [.ref (ca 0), .int t, .int name, .int kind, .int dd, .int mm, .int bd]) (cmQi D (va_A wc sz) (oMember σ τ n k t name kind dd mm bd).1 (fun z => NX G ca (oMember σ τ n k t name kind dd mm bd).2 z)) 4 22 (va_A wc sz) := by
  obtain ⟨ea, ba, bg, pool, hE, hJ, rfl, hb⟩ := hC
  rcases hb with ⟨rfl, h21⟩ | ⟨rfl, h21, pl, rfl, hE2⟩
  · refine met_w (c_member l D G ca ea n k w0 σ x κ pool sz hE hV.cI t name kind dd mm bd hbd h21 τ) rfl (fun z hd hz => ?_)
    have et : (oMember σ τ n k t name kind dd mm bd).2.2 = τ := by unfold oMember; (repeat' split) <;> rfl
    rcases hV.member (t := t) (name := name) (kind := kind) (d := dd) (m := mm) (body := bd) with ⟨a1, a2, a3⟩ | ⟨a1, a2, a3, a4, a5, a6⟩
    · rcases hz with ⟨b1, rfl⟩ | ⟨b1, _⟩
      · exact ⟨n, k, w0, κ, x, by rw [et]; exact a2, CW_next hE hJ (Or.inl ⟨rfl, h21⟩ : BGd G ea ba σ κ k .null pool) (fun e => sw_memF a1 e) a3⟩
      · exact absurd b1 a1
    · rcases hz with ⟨b1, _⟩ | ⟨b1, b2, rfl⟩
      · exact absurd a1 b1
      · have hs : ∀ e, e < k → seW (oMember σ τ n k t name kind dd mm bd).2.1 σ e := fun e he => by rw [a5]; exact ⟨rfl, pk_un (by omega), pk_un (by omega), pk_un (by omega), pk_un (by omega), pk_un (by omega), rfl, pk_un (by omega), pk_un (by omega), pk_un (by omega), rfl, fun _ _ => ⟨rfl, rfl⟩⟩
        exact ⟨n, k, w0, κ, x, by rw [et]; exact a6, ea, b2, _, _, plE_app (plE_se hs (fun _ _ => rfl) hE) _, hJ, rfl, Or.inr ⟨rfl, by rw [a5]; exact (show ¬ (1 : Int32) = 0 by decide), pool, rfl, plE_se hs (fun _ _ => rfl) hE⟩⟩
  · refine met_w (c_memberBusy l D G ca ea n k w0 σ x κ pl sz hE2 hV.cI ba (hV.2.2.2.2.2 h21).2.1 t name kind dd mm bd h21 τ) rfl (fun z _ hz => ?_)
    subst hz
    have e9 : (oMember σ τ n k t name kind dd mm bd).2 = (su σ 0 0 0, τ) := by unfold oMember; rw [if_pos (aRef_z.resolve_left (aRef_b h21))]
    rw [e9]; exact NX_q hV hE hJ (Or.inr ⟨rfl, h21, pl, rfl, hE2⟩) 0
theorem sw_conF {σ : MS} {τ : Nat → Int64} {k : Nat} {en : Int32} {v : Int64} (h : ¬ (oConst σ τ k en v).1 = 1) (e : Nat) : seW (oConst σ τ k en v).2.1 σ e ∧ (oConst σ τ k en v).2.1 21 0 = σ 21 0 ∧ (oConst σ τ k en v).2.2 = τ := by
  revert h
  unfold oConst; (repeat' split) <;> intro h
  · exact ⟨⟨rfl, rfl, rfl, rfl, rfl, rfl, rfl, rfl, rfl, rfl, rfl, fun _ _ => ⟨rfl, rfl⟩⟩, rfl, rfl⟩
  · exact ⟨⟨rfl, rfl, rfl, rfl, rfl, rfl, rfl, rfl, rfl, rfl, rfl, fun _ _ => ⟨rfl, rfl⟩⟩, rfl, rfl⟩
  · exact ⟨⟨rfl, rfl, rfl, rfl, rfl, rfl, rfl, rfl, rfl, rfl, rfl, fun _ _ => ⟨rfl, rfl⟩⟩, rfl, rfl⟩
  · exact ⟨⟨rfl, rfl, rfl, rfl, rfl, rfl, rfl, rfl, rfl, rfl, rfl, fun _ _ => ⟨rfl, rfl⟩⟩, rfl, rfl⟩
  · exact absurd rfl h
set_option maxHeartbeats 800000 in
theorem u_constant (l : Launch) (D : va_G) (G : Nat → ClassId) (ca : Nat → Nat) (n k w0 : Nat) (σ x : MS) (τ κ : Nat → Int64) (wc : va_W) (sz : Nat) (hV : IV σ x τ κ n k w0) (hC : CW G ca σ x κ k wc) (en : Int32) (v : Int64) : Met l yX7_constant (ww yX7_constant cX7_constant 6 (some .int)) (rmC 2 0 0) (cmP D G sz wc [.ref (ca 0), .int en, .long v]) (cmQi D (va_A wc sz) (oConst σ τ k en v).1 (fun z => NX G ca (oConst σ τ k en v).2 z)) 0 0 (va_A wc sz) := by
  obtain ⟨ea, ba, bg, pool, hE, hJ, rfl, hb⟩ := hC
  refine met_w (c_constant l D G ca bg ea n k w0 σ x κ pool sz hE hV.cI en v (fun e he => (hV.2.2.1.1 e he).2) τ) rfl (fun z _ hz => ?_)
  rcases hV.const (en := en) (v := v) with ⟨a1, a2, -, -⟩ | ⟨a1, a2, a3, a4, a5⟩
  · rcases hz with ⟨b1, rfl⟩ | ⟨i, b0, b1, _⟩
    · exact ⟨n, k, w0, κ, x, a2, CW_next hE hJ hb (fun e => (sw_conF a1 e).1) (sw_conF a1 0).2.1⟩
    · exact absurd b1 a1
  · rcases hz with ⟨b1, _⟩ | ⟨i, b0, b1, rfl⟩
    · exact absurd a1 b1
    · obtain ⟨j, hj, rfl⟩ := okN_ex (by have := hV.1.2.1.2; omega) a2
      rw [nI_clamp (by have := hV.1.2.1.2; omega)] at a3 a4 a5 b0 ⊢
      refine ⟨n, k, w0, vp_updL κ j v, x, a5, ea, ba, bg, _, by rw [a4]; exact plE_const hE hJ hj a3 b0, hJ, rfl, ?_⟩
      rcases hb with ⟨h1, h2⟩ | ⟨h1, h2, pl, rfl, h4⟩
      · exact Or.inl ⟨h1, by rw [a4]; exact h2⟩
      · obtain ⟨i2, g1, g2⟩ := mb_set b0
        refine Or.inr ⟨h1, by rw [a4]; exact h2, _, ?_, by rw [a4]; exact plE_const h4 hJ hj a3 g1⟩
        rw [g2, a4]; exact congrArg (fun z9 => z9 ++ _) (seW.mb (σ' := su (su σ 0 0 0) 14 j 1) (σ := σ) ⟨rfl, rfl, rfl, rfl, rfl, rfl, pk_un (by omega), rfl, rfl, rfl, rfl, fun _ _ => ⟨rfl, rfl⟩⟩).symm
