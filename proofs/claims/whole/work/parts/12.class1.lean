-- the class's cells
/-- a row's cells -/
abbrev rwW (G : Nat → ClassId) (r a b : Nat) (f g : Nat → Int32) (z : Int32) : va_W := [(r, .inr (5, [.ref a, .ref b, .int z])), (a, .inl (G 0, 5, .inl f)), (b, .inl (G 0, 5, .inl g))]
/-- the parts of an entry, as a row keeps them -/
def pkF (σ : MS) (c e : Nat) : Nat → Int32 := fun i => if i < mnE σ e then σ c (5 * e + i) else 0
abbrev mbW (G : Nat → ClassId) (a : Nat → Nat) (σ : MS) (en : Nat) (me : Int32) : va_W := [(a 0, .inr (4, [.int (σ 9 en), .int (σ 10 en), .int (σ 11 en), .int (σ 12 en), .int (σ 13 en), .int (σ 16 en), .ref (a 1), .int (σ 17 en), .int me])), (a 1, .inr (5, [.ref (a 2), .ref (a 3), .int (σ 18 en)])), (a 2, .inl (G 0, 5, .inl (pkF σ 19 en))), (a 3, .inl (G 0, 5, .inl (pkF σ 20 en)))]
abbrev fdW (a : Nat → Nat) (σ : MS) (κ : Nat → Int64) (en : Nat) : va_W := [(a 0, .inr (3, [.int (σ 9 en), .int (σ 10 en), .int (σ 11 en), .int (σ 12 en), .int (σ 13 en), .int (σ 14 en), .long (κ en)]))]
def eW (G : Nat → ClassId) (a : Nat → Nat) (σ : MS) (κ : Nat → Int64) (en : Nat) : va_W := if σ 8 en = 0 then fdW a σ κ en else mbW G a σ en (σ 28 en)
abbrev tyW (G : Nat → ClassId) (ca : Nat → Nat) (σ : MS) (x : MS) : va_W := [(ca 1, .inr (6, [.ref (ca 2), .ref (ca 3), .ref (ca 4), .ref (ca 5), .int (σ 1 0)])), (ca 2, .inl (G 0, 12, .inl (σ 2))), (ca 3, .inl (G 0, 12, .inl (σ 3))), (ca 4, .inl (G 0, 12, .inl (x 0))), (ca 5, .inl (G 0, 12, .inl (x 1)))]
/-- the cells that are there from the first -/
abbrev cF (G : Nat → ClassId) (ca : Nat → Nat) (bg : Value) (en : Nat → Option Nat) (σ : MS) (x : MS) : va_W := [(ca 0, .inr (7, [.ref (ca 1), .ref (ca 6), .int (σ 7 0), bg, .ref (ca 7), .int (σ 25 0), .ref (ca 10), .int (σ 26 0), .ref (ca 11), .ref (ca 12), .ref (ca 13)])), (ca 1, .inr (6, [.ref (ca 2), .ref (ca 3), .ref (ca 4), .ref (ca 5), .int (σ 1 0)])), (ca 2, .inl (G 0, 12, .inl (σ 2))), (ca 3, .inl (G 0, 12, .inl (σ 3))), (ca 4, .inl (G 0, 12, .inl (x 0))), (ca 5, .inl (G 0, 12, .inl (x 1))), (ca 6, .inl (G 3, 60, .inr (.inr (.inr (.inr en))))), (ca 7, .inr (5, [.ref (ca 8), .ref (ca 9), .int (σ 22 0)])), (ca 8, .inl (G 0, 5, .inl (σ 23))), (ca 9, .inl (G 0, 5, .inl (σ 24))), (ca 10, .inl (G 0, 26, .inl (σ 27))), (ca 11, .inl (G 0, 12, .inl (x 2))), (ca 12, .inl (G 2, 60, .inl (x 3))), (ca 13, .inl (G 2, 60, .inl (x 4)))]
def enF (ea : Nat → Nat → Nat) (k : Nat) : Nat → Option Nat := fun i => if i < k then some (ea i 0) else none
section CB
variable {D : va_G} {cl : List vw_C} {G : Nat → ClassId} {H : Heap} {ca : Nat → Nat} {bg : Value} {en : Nat → Option Nat} {σ x : MS} {a : Nat → Nat} {e : Nat} {me : Int32} {κ : Nat → Int64} {pl : va_W}
theorem cF_ty (h : va_P D cl (cF G ca bg en σ x) H) : va_P D cl (tyW G ca σ x) H := h.sub [1, 2, 3, 4, 5] rfl
theorem cF_ar {w : Nat} (h : va_P D cl (cF G ca bg en σ x) H) (hw : σ 22 0 = nI w) : va_P D cl (rwW G (ca 7) (ca 8) (ca 9) (σ 23) (σ 24) (nI w)) H := by rw [← hw]; exact h.sub [7, 8, 9] rfl
theorem cF_of (h : va_P D cl (cF G ca bg en σ x ++ pl) H) : va_P D cl (cF G ca bg en σ x) H := fun k q hq => h k q (by rw [List.getElem?_append_left (List.getElem?_eq_some_iff.mp hq).1]; exact hq)
theorem mb_row (h : va_P D cl (mbW G a σ e me) H) (hm : okM σ e) : va_P D cl (rwW G (a 1) (a 2) (a 3) (pkF σ 19 e) (pkF σ 20 e) (nI (mnE σ e))) H := by rw [← hm.1]; exact h.sub [1, 2, 3] rfl
theorem eW_m (h : va_P D cl (eW G a σ κ e) H) (c : ¬ σ 8 e = 0) : va_P D cl (mbW G a σ e (σ 28 e)) H := by rw [show eW G a σ κ e = _ from if_neg c] at h; exact h
theorem eW_f (h : va_P D cl (eW G a σ κ e) H) (c : σ 8 e = 0) : va_P D cl (fdW a σ κ e) H := by rw [show eW G a σ κ e = _ from if_pos c] at h; exact h
end CB
/-- an entry's value in a row of n, or none -/
def rkF (f : Nat → Int32) (n : Nat) (i : Int32) : Int32 := if okN n i then f i.toNatClampNeg else -1
/-- the bit at a place -/
def bitb (v : Int32) (o : Nat) : Bool := decide ((v >>> (nI o &&& 31)) &&& 1 = 1)
abbrev bitP (v : Int32) (o : Nat) : Prop := bitb v o = true
theorem bitP_def {v : Int32} {o : Nat} : bitP v o ↔ ((v >>> (nI o &&& 31)) &&& 1 = 1) := decide_eq_true_iff
def bitNb (f : Nat → Int32) (n : Nat) (t o : Int32) : Bool := decide (okN n t ∧ okN n o ∧ bitP (f t.toNatClampNeg) o.toNatClampNeg)
abbrev bitN (f : Nat → Int32) (n : Nat) (t o : Int32) : Prop := bitNb f n t o = true
theorem bitN_def {f : Nat → Int32} {n : Nat} {t o : Int32} : bitN f n t o ↔ (okN n t ∧ okN n o ∧ bitP (f t.toNatClampNeg) o.toNatClampNeg) := decide_eq_true_iff
theorem okN_lt {n : Nat} {t : Int32} : okN n t ↔ (¬ t < 0 ∧ ¬ nI n ≤ t) := by
  rw [okN_def]; simp only [i_le, i_lt, Int32.reduceToInt]; omega
def decb (kind d : Int32) : Bool := decide (¬ kind < 0 ∧ ¬ kind = 9 ∧ (0 ≤ d ∧ d ≤ 3) ∧ (¬ kind = 0 ∨ d = 0))
abbrev decP (kind d : Int32) : Prop := decb kind d = true
theorem decP_def {kind d : Int32} : decP kind d ↔ (¬ kind < 0 ∧ ¬ kind = 9 ∧ (0 ≤ d ∧ d ≤ 3) ∧ (¬ kind = 0 ∨ d = 0)) := decide_eq_true_iff
def argb (kind d : Int32) : Bool := decide (¬ kind ≤ 0 ∧ (0 ≤ d ∧ d ≤ 3) ∧ (¬ kind = 9 ∨ d = 0))
abbrev argP (kind d : Int32) : Prop := argb kind d = true
theorem argP_def {kind d : Int32} : argP kind d ↔ (¬ kind ≤ 0 ∧ (0 ≤ d ∧ d ≤ 3) ∧ (¬ kind = 9 ∨ d = 0)) := decide_eq_true_iff
section CW
variable {p : Program} {l : Launch} {e : Env} {R : Room} {s : State} {m : MethodId} {args : Array Value} {below : List Frame} {meth : Method} {c : Code} {H : Heap} {locs : List Loc} {cells slots : Nat} {Q : State → Prop}
variable {cc : ByteArray} {pc : Nat} {ls : Array Slot} {rest : List Value} {D : va_G} {G : Nat → ClassId} {ws : va_W} {σ : MS} {κ : Nat → Int64} {a : Nat → Nat} {ea : Nat → Nat → Nat} {k j q : Nat}
/-- the entry at a place -/
theorem aald_e (hx : p.tables.exec = Jvm.exec) (hb : c.code = cc) (hK : va_K D vwCl (tyG G) s) (hP : va_P D vwCl ws H) (q0 : Nat) {a0 : Nat} (ha : ws[q0]? = some (a0, .inl (G 3, 60, .inr (.inr (.inr (.inr (enF ea k))))))) {i : Int32} (j : Nat) (hi : i = nI j) (hj : j < k) (hk : j < 60) (hdg : decode cc pc = .ok (.aaload, 1))
    (kk : W p l e R s m args below meth c H locs cells slots Q (F0 m (pc + 1) ls (.ref (ea j 0) :: rest))) : W p l e R s m args below meth c H locs cells slots Q (F0 m pc ls (.int i :: .ref a0 :: rest)) := by
  refine va_aldq hx hb hK hP q0 3 ha rfl (in_n hi hk (by decide)).1 hdg ?_
  rw [(in_n hi hk (by decide)).2, show enF ea k j = some (ea j 0) from if_pos hj]
  exact kk
theorem inst_m (hx : p.tables.exec = Jvm.exec) (hb : c.code = cc) {own : String} {index : Nat} (hown : s.vm.findClass own = some m.cls) (hlink : (Cond.classLink own index RX3).before args s = true) (hK : KK D G s) (hE : va_P D vwCl (eW G a σ κ j) H) (hdg : decode cc pc = .ok (.instanceof index, 3))
    (kk : W p l e R s m args below meth c H locs cells slots Q (F0 m (pc + 3) ls (.int (bI (¬ σ 8 j = 0)) :: rest))) : W p l e R s m args below meth c H locs cells slots Q (F0 m pc ls (.ref (a 0) :: rest)) := by
  by_cases h : σ 8 j = 0
  · rw [bI_f (fun q => q h)] at kk
    exact va_instNo (C := RX2) hx hb hown hlink hK.2.2.2.2.2.1 (va_recv hK.1 (eW_f hE h) (ci := 3) (q0 := 0) rfl rfl) hdg kk
  · rw [bI_t h] at kk
    exact va_instY (C := RX3) hx hb hown hlink hK.2.2.1 (va_recv hK.1 (eW_m hE h) (ci := 4) (q0 := 0) rfl rfl) hdg kk
theorem inst_f (hx : p.tables.exec = Jvm.exec) (hb : c.code = cc) {own : String} {index : Nat} (hown : s.vm.findClass own = some m.cls) (hlink : (Cond.classLink own index RX2).before args s = true) (hK : KK D G s) (hE : va_P D vwCl (eW G a σ κ j) H) (hdg : decode cc pc = .ok (.instanceof index, 3))
    (kk : W p l e R s m args below meth c H locs cells slots Q (F0 m (pc + 3) ls (.int (bI (σ 8 j = 0)) :: rest))) : W p l e R s m args below meth c H locs cells slots Q (F0 m pc ls (.ref (a 0) :: rest)) := by
  by_cases h : σ 8 j = 0
  · rw [bI_t h] at kk
    exact va_instY (C := RX2) hx hb hown hlink hK.2.1 (va_recv hK.1 (eW_f hE h) (ci := 3) (q0 := 0) rfl rfl) hdg kk
  · rw [bI_f h] at kk
    exact va_instNo (C := RX3) hx hb hown hlink hK.2.2.2.2.2.2.1 (va_recv hK.1 (eW_m hE h) (ci := 4) (q0 := 0) rfl rfl) hdg kk
end CW
theorem both_1 {x y : Int32} (h : x = -1) : y = bothF x y := by unfold bothF; rw [if_pos h]
theorem both_2 {x y : Int32} (h : ¬ x = -1) (q : x = y) : y = bothF x y := by unfold bothF; rw [if_neg h, if_pos (Or.inr q), q]
theorem both_3 {x y : Int32} (h : ¬ x = -1) (q : y = -1) : x = bothF x y := by unfold bothF; rw [if_neg h, if_pos (Or.inl q)]
theorem both_4 {x y : Int32} (h : ¬ x = -1) (h2 : ¬ x = y) (q : ¬ y = -1) : -2 = bothF x y := by unfold bothF; rw [if_neg h, if_neg (fun r => r.elim q h2)]
theorem wd_iff {x y : Int32} : wdP x y ↔ (¬ x < 2 ∧ ¬ y ≤ x ∧ ¬ 8 < y ∧ ¬ y = 4) := by
  rw [wdP_def]
  split
  · rename_i h; subst h; simp only [i_le, i_lt, i_eq, Int32.reduceToInt]; omega
  · rename_i h; simp only [i_le, i_lt, i_eq, Int32.reduceToInt] at h ⊢; omega
/-- how many bits are set, as the library reckons it -/
def ru (x n : Int32) : Int32 := (x.toUInt32 >>> (n.toUInt32 &&& Int32.toUInt32 31)).toInt32
def bc1 (x : Int32) : Int32 := x - (ru x 1 &&& 1431655765)
def bc2 (x : Int32) : Int32 := (x &&& 858993459) + (ru x 2 &&& 858993459)
def bc3 (x : Int32) : Int32 := (x + ru x 4) &&& 252645135
def bc4 (x : Int32) : Int32 := x + ru x 8
def bc5 (x : Int32) : Int32 := x + ru x 16
def bcF (x : Int32) : Int32 := bc5 (bc4 (bc3 (bc2 (bc1 x)))) &&& 63
def rfF (kind m f : Int32) : Int32 := if ¬ m &&& (127 ^^^ (-1)) = 0 then 1 else if ¬ bcF (m &&& 7) ≤ 1 then 2 else if ¬ bcF (m &&& 48) ≤ 1 then 3 else if ¬ f = 0 ∧ ¬ m &&& (-26) = 0 then 4 else if kind = 0 then 5 else 0
def raF (m : Int32) : Int32 := if ¬ m &&& 96 = 0 then 11 else if ¬ bcF (m &&& 7) ≤ 1 then 12 else 0
def rbF (body wo : Int32) : Int32 := if body = wo then (if body = 0 then 17 else 16) else 0
def barb (m : Int32) : Bool := decide (¬ m &&& 786 = 0 ∨ ¬ bcF (m &&& 1160) ≤ 1 ∨ (¬ m &&& 4 = 0 ∧ ¬ m &&& 1152 = 0))
abbrev barP (m : Int32) : Prop := barb m = true
theorem barP_def {m : Int32} : barP m ↔ (¬ m &&& 786 = 0 ∨ ¬ bcF (m &&& 1160) ≤ 1 ∨ (¬ m &&& 4 = 0 ∧ ¬ m &&& 1152 = 0)) := decide_eq_true_iff
def rmfF (m body : Int32) : Int32 := if ¬ raF m = 0 then raF m else if barP m then 13 else rbF body (bI (¬ ¬ m &&& 1036 = 0))
def rmcF (m body ab : Int32) : Int32 := if ¬ raF m = 0 then raF m else if ¬ m &&& 1024 = 0 then 13 else if ¬ m &&& 128 = 0 ∧ ¬ m &&& 796 = 0 then 14 else if ¬ m &&& 128 = 0 ∧ ab = 0 then 15 else rbF body (bI (¬ m &&& 384 = 0))
def rpF (kind d v al : Int32) : Int32 := if kind = 0 then 18 else if ¬ al = 0 then 19 else if ¬ v = 0 ∧ d = 0 then 20 else 0
def fmkF (m : Int32) : Int32 := if ¬ m &&& 1036 = 0 then (if ¬ m &&& 4 = 0 then 0 else 1) else (if ¬ m &&& 4 = 0 then 0 else 1) ||| 128
def soF (f : Nat → Int32) (n : Nat) (t : Int32) : Int32 := if okN n t then f t.toNatClampNeg else -1
theorem n_max {x y : Int32} {a b : Nat} (hx : x = nI a) (hy : y = nI b) (ha : a < 2 ^ 31) (hb : b < 2 ^ 31) : (if x < y then y else x) = nI (max a b) := by
  subst hx; subst hy
  by_cases h : a < b
  · rw [if_pos ((nI_ltI ha hb).mpr h), Nat.max_eq_right (by omega)]
  · rw [if_neg (fun q => h ((nI_ltI ha hb).mp q)), Nat.max_eq_left (by omega)]

theorem q_248 : Cond.laysFinal "FieldMember$Field" "FieldMember$Entry" "type" "I" ∈ TT := tt_t (i := 248) (by decide +kernel) (by decide +kernel)
theorem q_250 : Cond.laysFinal "FieldMember$Field" "FieldMember$Entry" "name" "I" ∈ TT := tt_t (i := 250) (by decide +kernel) (by decide +kernel)
theorem q_252 : Cond.laysFinal "FieldMember$Field" "FieldMember$Entry" "kind" "I" ∈ TT := tt_t (i := 252) (by decide +kernel) (by decide +kernel)
theorem q_254 : Cond.laysFinal "FieldMember$Field" "FieldMember$Entry" "dims" "I" ∈ TT := tt_t (i := 254) (by decide +kernel) (by decide +kernel)
theorem q_256 : Cond.laysFinal "FieldMember$Field" "FieldMember$Entry" "marks" "I" ∈ TT := tt_t (i := 256) (by decide +kernel) (by decide +kernel)
theorem q_244 : Cond.lays "FieldMember$Field" "FieldMember$Field" "told" "Z" ∈ TT := tt_t (i := 244) (by decide +kernel) (by decide +kernel)
theorem q_246 : Cond.lays "FieldMember$Field" "FieldMember$Field" "constant" "J" ∈ TT := tt_t (i := 246) (by decide +kernel) (by decide +kernel)
theorem iX2 : ∀ w ∈ wsX20, w ∈ TT := by
  have h : wsX20 = [Cond.laysFinal "FieldMember$Field" "FieldMember$Entry" "type" "I", Cond.laysFinal "FieldMember$Field" "FieldMember$Entry" "name" "I", Cond.laysFinal "FieldMember$Field" "FieldMember$Entry" "kind" "I", Cond.laysFinal "FieldMember$Field" "FieldMember$Entry" "dims" "I", Cond.laysFinal "FieldMember$Field" "FieldMember$Entry" "marks" "I", Cond.lays "FieldMember$Field" "FieldMember$Field" "told" "Z", Cond.lays "FieldMember$Field" "FieldMember$Field" "constant" "J"] := by decide +kernel
  rw [h]
  exact tt_c q_248 (tt_c q_250 (tt_c q_252 (tt_c q_254 (tt_c q_256 (tt_c q_244 (tt_c q_246 (fun _ h => nomatch h)))))))
theorem q_330 : Cond.laysFinal "FieldMember$Member" "FieldMember$Entry" "type" "I" ∈ TT := tt_t (i := 330) (by decide +kernel) (by decide +kernel)
theorem q_331 : Cond.laysFinal "FieldMember$Member" "FieldMember$Entry" "name" "I" ∈ TT := tt_t (i := 331) (by decide +kernel) (by decide +kernel)
theorem q_332 : Cond.laysFinal "FieldMember$Member" "FieldMember$Entry" "kind" "I" ∈ TT := tt_t (i := 332) (by decide +kernel) (by decide +kernel)
theorem q_333 : Cond.laysFinal "FieldMember$Member" "FieldMember$Entry" "dims" "I" ∈ TT := tt_t (i := 333) (by decide +kernel) (by decide +kernel)
theorem q_334 : Cond.laysFinal "FieldMember$Member" "FieldMember$Entry" "marks" "I" ∈ TT := tt_t (i := 334) (by decide +kernel) (by decide +kernel)
theorem q_322 : Cond.laysFinal "FieldMember$Member" "FieldMember$Member" "body" "Z" ∈ TT := tt_t (i := 322) (by decide +kernel) (by decide +kernel)
theorem q_324 : Cond.laysFinal "FieldMember$Member" "FieldMember$Member" "parameters" "LFieldMember$Row;" ∈ TT := tt_t (i := 324) (by decide +kernel) (by decide +kernel)
theorem q_326 : Cond.lays "FieldMember$Member" "FieldMember$Member" "varied" "Z" ∈ TT := tt_t (i := 326) (by decide +kernel) (by decide +kernel)
theorem q_328 : Cond.lays "FieldMember$Member" "FieldMember$Member" "met" "I" ∈ TT := tt_t (i := 328) (by decide +kernel) (by decide +kernel)
theorem iX3 : ∀ w ∈ wsX30, w ∈ TT := by
  have h : wsX30 = [Cond.laysFinal "FieldMember$Member" "FieldMember$Entry" "type" "I", Cond.laysFinal "FieldMember$Member" "FieldMember$Entry" "name" "I", Cond.laysFinal "FieldMember$Member" "FieldMember$Entry" "kind" "I", Cond.laysFinal "FieldMember$Member" "FieldMember$Entry" "dims" "I", Cond.laysFinal "FieldMember$Member" "FieldMember$Entry" "marks" "I", Cond.laysFinal "FieldMember$Member" "FieldMember$Member" "body" "Z", Cond.laysFinal "FieldMember$Member" "FieldMember$Member" "parameters" "LFieldMember$Row;", Cond.lays "FieldMember$Member" "FieldMember$Member" "varied" "Z", Cond.lays "FieldMember$Member" "FieldMember$Member" "met" "I"] := by decide +kernel
  rw [h]
  exact tt_c q_330 (tt_c q_331 (tt_c q_332 (tt_c q_333 (tt_c q_334 (tt_c q_322 (tt_c q_324 (tt_c q_326 (tt_c q_328 (fun _ h => nomatch h)))))))))
theorem q_66 : Cond.laysFinal "FieldMember$Row" "FieldMember$Row" "kinds" "[I" ∈ TT := tt_t (i := 66) (by decide +kernel) (by decide +kernel)
theorem q_68 : Cond.laysFinal "FieldMember$Row" "FieldMember$Row" "dims" "[I" ∈ TT := tt_t (i := 68) (by decide +kernel) (by decide +kernel)
theorem q_70 : Cond.lays "FieldMember$Row" "FieldMember$Row" "size" "I" ∈ TT := tt_t (i := 70) (by decide +kernel) (by decide +kernel)
theorem iX4 : ∀ w ∈ wsX40, w ∈ TT := by
  have h : wsX40 = [Cond.laysFinal "FieldMember$Row" "FieldMember$Row" "kinds" "[I", Cond.laysFinal "FieldMember$Row" "FieldMember$Row" "dims" "[I", Cond.lays "FieldMember$Row" "FieldMember$Row" "size" "I"] := by decide +kernel
  rw [h]
  exact tt_c q_66 (tt_c q_68 (tt_c q_70 (fun _ h => nomatch h)))
theorem q_41 : Cond.laysFinal "FieldMember$Types" "FieldMember$Types" "sorts" "[I" ∈ TT := tt_t (i := 41) (by decide +kernel) (by decide +kernel)
theorem q_43 : Cond.laysFinal "FieldMember$Types" "FieldMember$Types" "parents" "[I" ∈ TT := tt_t (i := 43) (by decide +kernel) (by decide +kernel)
theorem q_45 : Cond.laysFinal "FieldMember$Types" "FieldMember$Types" "faces" "[I" ∈ TT := tt_t (i := 45) (by decide +kernel) (by decide +kernel)
theorem q_47 : Cond.laysFinal "FieldMember$Types" "FieldMember$Types" "above" "[I" ∈ TT := tt_t (i := 47) (by decide +kernel) (by decide +kernel)
theorem q_49 : Cond.lays "FieldMember$Types" "FieldMember$Types" "size" "I" ∈ TT := tt_t (i := 49) (by decide +kernel) (by decide +kernel)
theorem iX6 : ∀ w ∈ wsX60, w ∈ TT := by
  have h : wsX60 = [Cond.laysFinal "FieldMember$Types" "FieldMember$Types" "sorts" "[I", Cond.laysFinal "FieldMember$Types" "FieldMember$Types" "parents" "[I", Cond.laysFinal "FieldMember$Types" "FieldMember$Types" "faces" "[I", Cond.laysFinal "FieldMember$Types" "FieldMember$Types" "above" "[I", Cond.lays "FieldMember$Types" "FieldMember$Types" "size" "I"] := by decide +kernel
  rw [h]
  exact tt_c q_41 (tt_c q_43 (tt_c q_45 (tt_c q_47 (tt_c q_49 (fun _ h => nomatch h)))))
theorem q_84 : Cond.laysFinal "FieldMember" "FieldMember" "types" "LFieldMember$Types;" ∈ TT := tt_t (i := 84) (by decide +kernel) (by decide +kernel)
theorem q_86 : Cond.laysFinal "FieldMember" "FieldMember" "entries" "[LFieldMember$Entry;" ∈ TT := tt_t (i := 86) (by decide +kernel) (by decide +kernel)
theorem q_88 : Cond.lays "FieldMember" "FieldMember" "entryCount" "I" ∈ TT := tt_t (i := 88) (by decide +kernel) (by decide +kernel)
theorem q_90 : Cond.lays "FieldMember" "FieldMember" "begun" "LFieldMember$Member;" ∈ TT := tt_t (i := 90) (by decide +kernel) (by decide +kernel)
theorem q_92 : Cond.laysFinal "FieldMember" "FieldMember" "arguments" "LFieldMember$Row;" ∈ TT := tt_t (i := 92) (by decide +kernel) (by decide +kernel)
theorem q_94 : Cond.lays "FieldMember" "FieldMember" "latestWay" "I" ∈ TT := tt_t (i := 94) (by decide +kernel) (by decide +kernel)
theorem q_96 : Cond.laysFinal "FieldMember" "FieldMember" "brokenTimes" "[I" ∈ TT := tt_t (i := 96) (by decide +kernel) (by decide +kernel)
theorem q_98 : Cond.lays "FieldMember" "FieldMember" "brokenInAll" "I" ∈ TT := tt_t (i := 98) (by decide +kernel) (by decide +kernel)
theorem q_100 : Cond.laysFinal "FieldMember" "FieldMember" "foundFields" "[I" ∈ TT := tt_t (i := 100) (by decide +kernel) (by decide +kernel)
theorem q_102 : Cond.laysFinal "FieldMember" "FieldMember" "candidates" "[Z" ∈ TT := tt_t (i := 102) (by decide +kernel) (by decide +kernel)
theorem q_104 : Cond.laysFinal "FieldMember" "FieldMember" "fitting" "[Z" ∈ TT := tt_t (i := 104) (by decide +kernel) (by decide +kernel)
theorem iX7 : ∀ w ∈ wsX70, w ∈ TT := by
  have h : wsX70 = [Cond.laysFinal "FieldMember" "FieldMember" "types" "LFieldMember$Types;", Cond.laysFinal "FieldMember" "FieldMember" "entries" "[LFieldMember$Entry;", Cond.lays "FieldMember" "FieldMember" "entryCount" "I", Cond.lays "FieldMember" "FieldMember" "begun" "LFieldMember$Member;", Cond.laysFinal "FieldMember" "FieldMember" "arguments" "LFieldMember$Row;", Cond.lays "FieldMember" "FieldMember" "latestWay" "I", Cond.laysFinal "FieldMember" "FieldMember" "brokenTimes" "[I", Cond.lays "FieldMember" "FieldMember" "brokenInAll" "I", Cond.laysFinal "FieldMember" "FieldMember" "foundFields" "[I", Cond.laysFinal "FieldMember" "FieldMember" "candidates" "[Z", Cond.laysFinal "FieldMember" "FieldMember" "fitting" "[Z"] := by decide +kernel
  rw [h]
  exact tt_c q_84 (tt_c q_86 (tt_c q_88 (tt_c q_90 (tt_c q_92 (tt_c q_94 (tt_c q_96 (tt_c q_98 (tt_c q_100 (tt_c q_102 (tt_c q_104 (fun _ h => nomatch h)))))))))))
theorem dX7_isName_0 : decode cX7_isName 0 = .ok (.iload_n 0, 1) := by decide +kernel
theorem dX7_isName_1 : decode cX7_isName 1 = .ok (.ifCond .lt 13, 3) := by decide +kernel
theorem dX7_isName_14 : decode cX7_isName 14 = .ok (.iconst 0, 1) := by decide +kernel
theorem dX7_isName_15 : decode cX7_isName 15 = .ok (.ireturn, 1) := by decide +kernel
theorem dX7_isName_4 : decode cX7_isName 4 = .ok (.iload_n 0, 1) := by decide +kernel
theorem dX7_isName_5 : decode cX7_isName 5 = .ok (.bipush 49, 2) := by decide +kernel
theorem dX7_isName_7 : decode cX7_isName 7 = .ok (.if_icmp .gt 7, 3) := by decide +kernel
theorem dX7_isName_10 : decode cX7_isName 10 = .ok (.iconst 1, 1) := by decide +kernel
theorem dX7_isName_11 : decode cX7_isName 11 = .ok (.goto 4, 3) := by decide +kernel
theorem dX7_areDims_0 : decode cX7_areDims 0 = .ok (.iload_n 0, 1) := by decide +kernel
theorem dX7_areDims_1 : decode cX7_areDims 1 = .ok (.ifCond .lt 12, 3) := by decide +kernel
theorem dX7_areDims_13 : decode cX7_areDims 13 = .ok (.iconst 0, 1) := by decide +kernel
theorem dX7_areDims_14 : decode cX7_areDims 14 = .ok (.ireturn, 1) := by decide +kernel
theorem dX7_areDims_4 : decode cX7_areDims 4 = .ok (.iload_n 0, 1) := by decide +kernel
theorem dX7_areDims_5 : decode cX7_areDims 5 = .ok (.iconst 3, 1) := by decide +kernel
theorem dX7_areDims_6 : decode cX7_areDims 6 = .ok (.if_icmp .gt 7, 3) := by decide +kernel
theorem dX7_areDims_9 : decode cX7_areDims 9 = .ok (.iconst 1, 1) := by decide +kernel
theorem dX7_areDims_10 : decode cX7_areDims 10 = .ok (.goto 4, 3) := by decide +kernel
theorem dX7_mayBeDeclared_0 : decode cX7_mayBeDeclared 0 = .ok (.iload_n 0, 1) := by decide +kernel
theorem dX7_mayBeDeclared_1 : decode cX7_mayBeDeclared 1 = .ok (.ifCond .lt 28, 3) := by decide +kernel
theorem dX7_mayBeDeclared_29 : decode cX7_mayBeDeclared 29 = .ok (.iconst 0, 1) := by decide +kernel
theorem dX7_mayBeDeclared_30 : decode cX7_mayBeDeclared 30 = .ok (.ireturn, 1) := by decide +kernel
theorem dX7_mayBeDeclared_4 : decode cX7_mayBeDeclared 4 = .ok (.iload_n 0, 1) := by decide +kernel
theorem dX7_mayBeDeclared_5 : decode cX7_mayBeDeclared 5 = .ok (.bipush 9, 2) := by decide +kernel
theorem dX7_mayBeDeclared_7 : decode cX7_mayBeDeclared 7 = .ok (.if_icmp .eq 22, 3) := by decide +kernel
theorem dX7_mayBeDeclared_10 : decode cX7_mayBeDeclared 10 = .ok (.iload_n 1, 1) := by decide +kernel
theorem q_189 : Cond.methodLink "FieldMember" 266 ⟨"FieldMember", "areDims", "(I)Z"⟩ ∈ TT := tt_t (i := 189) (by decide +kernel) (by decide +kernel)
theorem q_191 : Cond.code ⟨"FieldMember", "areDims", "(I)Z"⟩ prog_1_method_25_code 1 (some .boolean) ∈ TT := tt_t (i := 191) (by decide +kernel) (by decide +kernel)
theorem q_1 : Cond.initialized "FieldMember" ∈ TT := tt_t (i := 1) (by decide +kernel) (by decide +kernel)
theorem q_190 : Cond.static ⟨"FieldMember", "areDims", "(I)Z"⟩ ∈ TT := tt_t (i := 190) (by decide +kernel) (by decide +kernel)
theorem gS_X7_X7_areDims : GoodIn TT (va_wsS RX7 266 yX7_areDims (ww yX7_areDims cX7_areDims 1 (some .boolean))) := tt_S q_189 q_190 q_1 q_191
theorem hdS_X7_areDims : yX7_areDims.cls ≠ "java/lang/invoke/MethodHandle" ∧ yX7_areDims.cls ≠ "java/lang/invoke/VarHandle" ∧ (parseMethodDescriptor yX7_areDims.desc).map (fun d => d.parameters.length) = some 1 := by decide +kernel
theorem dX7_mayBeDeclared_11 : decode cX7_mayBeDeclared 11 = .ok (.invokestatic 266, 3) := by decide +kernel
theorem dX7_mayBeDeclared_14 : decode cX7_mayBeDeclared 14 = .ok (.ifCond .eq 15, 3) := by decide +kernel
theorem dX7_mayBeDeclared_17 : decode cX7_mayBeDeclared 17 = .ok (.iload_n 0, 1) := by decide +kernel
theorem dX7_mayBeDeclared_18 : decode cX7_mayBeDeclared 18 = .ok (.ifCond .ne 7, 3) := by decide +kernel
theorem dX7_mayBeDeclared_25 : decode cX7_mayBeDeclared 25 = .ok (.iconst 1, 1) := by decide +kernel
theorem dX7_mayBeDeclared_26 : decode cX7_mayBeDeclared 26 = .ok (.goto 4, 3) := by decide +kernel
theorem dX7_mayBeDeclared_21 : decode cX7_mayBeDeclared 21 = .ok (.iload_n 1, 1) := by decide +kernel
theorem dX7_mayBeDeclared_22 : decode cX7_mayBeDeclared 22 = .ok (.ifCond .ne 7, 3) := by decide +kernel
theorem dX7_mayBeArgument_0 : decode cX7_mayBeArgument 0 = .ok (.iload_n 0, 1) := by decide +kernel
theorem dX7_mayBeArgument_1 : decode cX7_mayBeArgument 1 = .ok (.ifCond .le 24, 3) := by decide +kernel
theorem dX7_mayBeArgument_25 : decode cX7_mayBeArgument 25 = .ok (.iconst 0, 1) := by decide +kernel
theorem dX7_mayBeArgument_26 : decode cX7_mayBeArgument 26 = .ok (.ireturn, 1) := by decide +kernel
theorem dX7_mayBeArgument_4 : decode cX7_mayBeArgument 4 = .ok (.iload_n 1, 1) := by decide +kernel
theorem dX7_mayBeArgument_5 : decode cX7_mayBeArgument 5 = .ok (.invokestatic 266, 3) := by decide +kernel
theorem dX7_mayBeArgument_8 : decode cX7_mayBeArgument 8 = .ok (.ifCond .eq 17, 3) := by decide +kernel
theorem dX7_mayBeArgument_11 : decode cX7_mayBeArgument 11 = .ok (.iload_n 0, 1) := by decide +kernel
theorem dX7_mayBeArgument_12 : decode cX7_mayBeArgument 12 = .ok (.bipush 9, 2) := by decide +kernel
theorem dX7_mayBeArgument_14 : decode cX7_mayBeArgument 14 = .ok (.if_icmp .ne 7, 3) := by decide +kernel
theorem dX7_mayBeArgument_21 : decode cX7_mayBeArgument 21 = .ok (.iconst 1, 1) := by decide +kernel
theorem dX7_mayBeArgument_22 : decode cX7_mayBeArgument 22 = .ok (.goto 4, 3) := by decide +kernel
theorem dX7_mayBeArgument_17 : decode cX7_mayBeArgument 17 = .ok (.iload_n 1, 1) := by decide +kernel
theorem dX7_mayBeArgument_18 : decode cX7_mayBeArgument 18 = .ok (.ifCond .ne 7, 3) := by decide +kernel
theorem dX7_asNumber_0 : decode cX7_asNumber 0 = .ok (.iload_n 0, 1) := by decide +kernel
theorem dX7_asNumber_1 : decode cX7_asNumber 1 = .ok (.ifCond .eq 7, 3) := by decide +kernel
theorem dX7_asNumber_8 : decode cX7_asNumber 8 = .ok (.iconst 0, 1) := by decide +kernel
theorem dX7_asNumber_9 : decode cX7_asNumber 9 = .ok (.ireturn, 1) := by decide +kernel
theorem dX7_asNumber_4 : decode cX7_asNumber 4 = .ok (.iconst 1, 1) := by decide +kernel
theorem dX7_asNumber_5 : decode cX7_asNumber 5 = .ok (.goto 4, 3) := by decide +kernel
theorem dX7_oneOfBoth_0 : decode cX7_oneOfBoth 0 = .ok (.iload_n 0, 1) := by decide +kernel
theorem dX7_oneOfBoth_1 : decode cX7_oneOfBoth 1 = .ok (.iconst (-1), 1) := by decide +kernel
theorem dX7_oneOfBoth_2 : decode cX7_oneOfBoth 2 = .ok (.if_icmp .eq 8, 3) := by decide +kernel
theorem dX7_oneOfBoth_10 : decode cX7_oneOfBoth 10 = .ok (.iload_n 1, 1) := by decide +kernel
theorem dX7_oneOfBoth_11 : decode cX7_oneOfBoth 11 = .ok (.ireturn, 1) := by decide +kernel
theorem dX7_oneOfBoth_5 : decode cX7_oneOfBoth 5 = .ok (.iload_n 0, 1) := by decide +kernel
theorem dX7_oneOfBoth_6 : decode cX7_oneOfBoth 6 = .ok (.iload_n 1, 1) := by decide +kernel
theorem dX7_oneOfBoth_7 : decode cX7_oneOfBoth 7 = .ok (.if_icmp .ne 5, 3) := by decide +kernel
theorem dX7_oneOfBoth_12 : decode cX7_oneOfBoth 12 = .ok (.iload_n 1, 1) := by decide +kernel
theorem dX7_oneOfBoth_13 : decode cX7_oneOfBoth 13 = .ok (.iconst (-1), 1) := by decide +kernel
theorem dX7_oneOfBoth_14 : decode cX7_oneOfBoth 14 = .ok (.if_icmp .ne 7, 3) := by decide +kernel
theorem dX7_oneOfBoth_21 : decode cX7_oneOfBoth 21 = .ok (.bipush (-2), 2) := by decide +kernel
theorem dX7_oneOfBoth_23 : decode cX7_oneOfBoth 23 = .ok (.ireturn, 1) := by decide +kernel
theorem dX7_oneOfBoth_17 : decode cX7_oneOfBoth 17 = .ok (.iload_n 0, 1) := by decide +kernel
theorem dX7_oneOfBoth_18 : decode cX7_oneOfBoth 18 = .ok (.goto 5, 3) := by decide +kernel
theorem dX7_widens_0 : decode cX7_widens 0 = .ok (.iload_n 0, 1) := by decide +kernel
theorem dX7_widens_1 : decode cX7_widens 1 = .ok (.iconst 2, 1) := by decide +kernel
theorem dX7_widens_2 : decode cX7_widens 2 = .ok (.if_icmp .lt 23, 3) := by decide +kernel
theorem dX7_widens_25 : decode cX7_widens 25 = .ok (.iconst 0, 1) := by decide +kernel
theorem dX7_widens_26 : decode cX7_widens 26 = .ok (.ireturn, 1) := by decide +kernel
theorem dX7_widens_5 : decode cX7_widens 5 = .ok (.iload_n 0, 1) := by decide +kernel
theorem dX7_widens_6 : decode cX7_widens 6 = .ok (.iload_n 1, 1) := by decide +kernel
theorem dX7_widens_7 : decode cX7_widens 7 = .ok (.if_icmp .ge 18, 3) := by decide +kernel
theorem dX7_widens_10 : decode cX7_widens 10 = .ok (.iload_n 1, 1) := by decide +kernel
theorem dX7_widens_11 : decode cX7_widens 11 = .ok (.bipush 8, 2) := by decide +kernel
theorem dX7_widens_13 : decode cX7_widens 13 = .ok (.if_icmp .gt 12, 3) := by decide +kernel
theorem dX7_widens_16 : decode cX7_widens 16 = .ok (.iload_n 1, 1) := by decide +kernel
theorem dX7_widens_17 : decode cX7_widens 17 = .ok (.iconst 4, 1) := by decide +kernel
theorem dX7_widens_18 : decode cX7_widens 18 = .ok (.if_icmp .eq 7, 3) := by decide +kernel
theorem dX7_widens_21 : decode cX7_widens 21 = .ok (.iconst 1, 1) := by decide +kernel
theorem dX7_widens_22 : decode cX7_widens 22 = .ok (.goto 4, 3) := by decide +kernel
theorem dX5_hasAny_0 : decode cX5_hasAny 0 = .ok (.iload_n 0, 1) := by decide +kernel
theorem dX5_hasAny_1 : decode cX5_hasAny 1 = .ok (.iload_n 1, 1) := by decide +kernel
theorem dX5_hasAny_2 : decode cX5_hasAny 2 = .ok (.iand, 1) := by decide +kernel
theorem dX5_hasAny_3 : decode cX5_hasAny 3 = .ok (.ifCond .eq 7, 3) := by decide +kernel
theorem dX5_hasAny_10 : decode cX5_hasAny 10 = .ok (.iconst 0, 1) := by decide +kernel
theorem dX5_hasAny_11 : decode cX5_hasAny 11 = .ok (.ireturn, 1) := by decide +kernel
theorem dX5_hasAny_6 : decode cX5_hasAny 6 = .ok (.iconst 1, 1) := by decide +kernel
theorem dX5_hasAny_7 : decode cX5_hasAny 7 = .ok (.goto 4, 3) := by decide +kernel
theorem dJ6_bitCount_0f7a4_0 : decode cJ6_bitCount_0f7a4 0 = .ok (.iload_n 0, 1) := by decide +kernel
theorem dJ6_bitCount_0f7a4_1 : decode cJ6_bitCount_0f7a4 1 = .ok (.iload_n 0, 1) := by decide +kernel
theorem dJ6_bitCount_0f7a4_2 : decode cJ6_bitCount_0f7a4 2 = .ok (.iconst 1, 1) := by decide +kernel
theorem dJ6_bitCount_0f7a4_3 : decode cJ6_bitCount_0f7a4 3 = .ok (.iushr, 1) := by decide +kernel
theorem q_157 : Cond.constant "java/lang/Integer" 265 (1431655765 : Int32) ∈ TT := tt_t (i := 157) (by decide +kernel) (by decide +kernel)
theorem dJ6_bitCount_0f7a4_4 : decode cJ6_bitCount_0f7a4 4 = .ok (.ldc_w 265, 3) := by decide +kernel
theorem dJ6_bitCount_0f7a4_7 : decode cJ6_bitCount_0f7a4 7 = .ok (.iand, 1) := by decide +kernel
theorem dJ6_bitCount_0f7a4_8 : decode cJ6_bitCount_0f7a4 8 = .ok (.isub, 1) := by decide +kernel
theorem dJ6_bitCount_0f7a4_9 : decode cJ6_bitCount_0f7a4 9 = .ok (.istore_n 0, 1) := by decide +kernel
theorem dJ6_bitCount_0f7a4_10 : decode cJ6_bitCount_0f7a4 10 = .ok (.iload_n 0, 1) := by decide +kernel
theorem q_158 : Cond.constant "java/lang/Integer" 266 (858993459 : Int32) ∈ TT := tt_t (i := 158) (by decide +kernel) (by decide +kernel)
theorem dJ6_bitCount_0f7a4_11 : decode cJ6_bitCount_0f7a4 11 = .ok (.ldc_w 266, 3) := by decide +kernel
theorem dJ6_bitCount_0f7a4_14 : decode cJ6_bitCount_0f7a4 14 = .ok (.iand, 1) := by decide +kernel
theorem dJ6_bitCount_0f7a4_15 : decode cJ6_bitCount_0f7a4 15 = .ok (.iload_n 0, 1) := by decide +kernel
theorem dJ6_bitCount_0f7a4_16 : decode cJ6_bitCount_0f7a4 16 = .ok (.iconst 2, 1) := by decide +kernel
theorem dJ6_bitCount_0f7a4_17 : decode cJ6_bitCount_0f7a4 17 = .ok (.iushr, 1) := by decide +kernel
theorem dJ6_bitCount_0f7a4_18 : decode cJ6_bitCount_0f7a4 18 = .ok (.ldc_w 266, 3) := by decide +kernel
theorem dJ6_bitCount_0f7a4_21 : decode cJ6_bitCount_0f7a4 21 = .ok (.iand, 1) := by decide +kernel
theorem dJ6_bitCount_0f7a4_22 : decode cJ6_bitCount_0f7a4 22 = .ok (.iadd, 1) := by decide +kernel
theorem dJ6_bitCount_0f7a4_23 : decode cJ6_bitCount_0f7a4 23 = .ok (.istore_n 0, 1) := by decide +kernel
theorem dJ6_bitCount_0f7a4_24 : decode cJ6_bitCount_0f7a4 24 = .ok (.iload_n 0, 1) := by decide +kernel
theorem dJ6_bitCount_0f7a4_25 : decode cJ6_bitCount_0f7a4 25 = .ok (.iload_n 0, 1) := by decide +kernel
theorem dJ6_bitCount_0f7a4_26 : decode cJ6_bitCount_0f7a4 26 = .ok (.iconst 4, 1) := by decide +kernel
theorem dJ6_bitCount_0f7a4_27 : decode cJ6_bitCount_0f7a4 27 = .ok (.iushr, 1) := by decide +kernel
theorem dJ6_bitCount_0f7a4_28 : decode cJ6_bitCount_0f7a4 28 = .ok (.iadd, 1) := by decide +kernel
theorem q_159 : Cond.constant "java/lang/Integer" 267 (252645135 : Int32) ∈ TT := tt_t (i := 159) (by decide +kernel) (by decide +kernel)
theorem dJ6_bitCount_0f7a4_29 : decode cJ6_bitCount_0f7a4 29 = .ok (.ldc_w 267, 3) := by decide +kernel
theorem dJ6_bitCount_0f7a4_32 : decode cJ6_bitCount_0f7a4 32 = .ok (.iand, 1) := by decide +kernel
theorem dJ6_bitCount_0f7a4_33 : decode cJ6_bitCount_0f7a4 33 = .ok (.istore_n 0, 1) := by decide +kernel
theorem dJ6_bitCount_0f7a4_34 : decode cJ6_bitCount_0f7a4 34 = .ok (.iload_n 0, 1) := by decide +kernel
theorem dJ6_bitCount_0f7a4_35 : decode cJ6_bitCount_0f7a4 35 = .ok (.iload_n 0, 1) := by decide +kernel
theorem dJ6_bitCount_0f7a4_36 : decode cJ6_bitCount_0f7a4 36 = .ok (.bipush 8, 2) := by decide +kernel
theorem dJ6_bitCount_0f7a4_38 : decode cJ6_bitCount_0f7a4 38 = .ok (.iushr, 1) := by decide +kernel
theorem dJ6_bitCount_0f7a4_39 : decode cJ6_bitCount_0f7a4 39 = .ok (.iadd, 1) := by decide +kernel
theorem dJ6_bitCount_0f7a4_40 : decode cJ6_bitCount_0f7a4 40 = .ok (.istore_n 0, 1) := by decide +kernel
theorem dJ6_bitCount_0f7a4_41 : decode cJ6_bitCount_0f7a4 41 = .ok (.iload_n 0, 1) := by decide +kernel
theorem dJ6_bitCount_0f7a4_42 : decode cJ6_bitCount_0f7a4 42 = .ok (.iload_n 0, 1) := by decide +kernel
theorem dJ6_bitCount_0f7a4_43 : decode cJ6_bitCount_0f7a4 43 = .ok (.bipush 16, 2) := by decide +kernel
theorem dJ6_bitCount_0f7a4_45 : decode cJ6_bitCount_0f7a4 45 = .ok (.iushr, 1) := by decide +kernel
theorem dJ6_bitCount_0f7a4_46 : decode cJ6_bitCount_0f7a4 46 = .ok (.iadd, 1) := by decide +kernel
theorem dJ6_bitCount_0f7a4_47 : decode cJ6_bitCount_0f7a4 47 = .ok (.istore_n 0, 1) := by decide +kernel
theorem dJ6_bitCount_0f7a4_48 : decode cJ6_bitCount_0f7a4 48 = .ok (.iload_n 0, 1) := by decide +kernel
theorem dJ6_bitCount_0f7a4_49 : decode cJ6_bitCount_0f7a4 49 = .ok (.bipush 63, 2) := by decide +kernel
theorem dJ6_bitCount_0f7a4_51 : decode cJ6_bitCount_0f7a4 51 = .ok (.iand, 1) := by decide +kernel
theorem dJ6_bitCount_0f7a4_52 : decode cJ6_bitCount_0f7a4 52 = .ok (.ireturn, 1) := by decide +kernel
theorem dX5_hasSeveral_0 : decode cX5_hasSeveral 0 = .ok (.iload_n 0, 1) := by decide +kernel
theorem dX5_hasSeveral_1 : decode cX5_hasSeveral 1 = .ok (.iload_n 1, 1) := by decide +kernel
theorem dX5_hasSeveral_2 : decode cX5_hasSeveral 2 = .ok (.iand, 1) := by decide +kernel
theorem q_198 : Cond.methodLink "FieldMember$Rules" 26 ⟨"java/lang/Integer", "bitCount", "(I)I"⟩ ∈ TT := tt_t (i := 198) (by decide +kernel) (by decide +kernel)
theorem q_156 : Cond.code ⟨"java/lang/Integer", "bitCount", "(I)I"⟩ prog_17_method_49_code 1 (some .int) ∈ TT := tt_t (i := 156) (by decide +kernel) (by decide +kernel)
theorem q_5 : Cond.initialized "java/lang/Integer" ∈ TT := tt_t (i := 5) (by decide +kernel) (by decide +kernel)
theorem q_155 : Cond.static ⟨"java/lang/Integer", "bitCount", "(I)I"⟩ ∈ TT := tt_t (i := 155) (by decide +kernel) (by decide +kernel)
theorem gS_X5_J6_bitCount_0f7a4 : GoodIn TT (va_wsS RX5 26 yJ6_bitCount_0f7a4 (ww yJ6_bitCount_0f7a4 cJ6_bitCount_0f7a4 1 (some .int))) := tt_S q_198 q_155 q_5 q_156
theorem hdS_J6_bitCount_0f7a4 : yJ6_bitCount_0f7a4.cls ≠ "java/lang/invoke/MethodHandle" ∧ yJ6_bitCount_0f7a4.cls ≠ "java/lang/invoke/VarHandle" ∧ (parseMethodDescriptor yJ6_bitCount_0f7a4.desc).map (fun d => d.parameters.length) = some 1 := by decide +kernel
theorem dX5_hasSeveral_3 : decode cX5_hasSeveral 3 = .ok (.invokestatic 26, 3) := by decide +kernel
theorem dX5_hasSeveral_6 : decode cX5_hasSeveral 6 = .ok (.iconst 1, 1) := by decide +kernel
theorem dX5_hasSeveral_7 : decode cX5_hasSeveral 7 = .ok (.if_icmp .le 7, 3) := by decide +kernel
theorem dX5_hasSeveral_14 : decode cX5_hasSeveral 14 = .ok (.iconst 0, 1) := by decide +kernel
theorem dX5_hasSeveral_15 : decode cX5_hasSeveral 15 = .ok (.ireturn, 1) := by decide +kernel
theorem dX5_hasSeveral_10 : decode cX5_hasSeveral 10 = .ok (.iconst 1, 1) := by decide +kernel
theorem dX5_hasSeveral_11 : decode cX5_hasSeveral 11 = .ok (.goto 4, 3) := by decide +kernel
theorem dX5_ofField_0 : decode cX5_ofField 0 = .ok (.bipush 127, 2) := by decide +kernel
theorem dX5_ofField_2 : decode cX5_ofField 2 = .ok (.istore_n 3, 1) := by decide +kernel
theorem dX5_ofField_3 : decode cX5_ofField 3 = .ok (.iload_n 1, 1) := by decide +kernel
theorem dX5_ofField_4 : decode cX5_ofField 4 = .ok (.iload_n 3, 1) := by decide +kernel
theorem dX5_ofField_5 : decode cX5_ofField 5 = .ok (.iconst (-1), 1) := by decide +kernel
theorem dX5_ofField_6 : decode cX5_ofField 6 = .ok (.ixor, 1) := by decide +kernel
theorem dX5_ofField_7 : decode cX5_ofField 7 = .ok (.iand, 1) := by decide +kernel
theorem dX5_ofField_8 : decode cX5_ofField 8 = .ok (.ifCond .eq 5, 3) := by decide +kernel
theorem dX5_ofField_13 : decode cX5_ofField 13 = .ok (.iload_n 1, 1) := by decide +kernel
theorem dX5_ofField_14 : decode cX5_ofField 14 = .ok (.bipush 7, 2) := by decide +kernel
theorem q_195 : Cond.methodLink "FieldMember$Rules" 9 ⟨"FieldMember$Rules", "hasSeveral", "(II)Z"⟩ ∈ TT := tt_t (i := 195) (by decide +kernel) (by decide +kernel)
theorem q_197 : Cond.code ⟨"FieldMember$Rules", "hasSeveral", "(II)Z"⟩ prog_7_method_11_code 2 (some .boolean) ∈ TT := tt_t (i := 197) (by decide +kernel) (by decide +kernel)
theorem q_6 : Cond.initialized "FieldMember$Rules" ∈ TT := tt_t (i := 6) (by decide +kernel) (by decide +kernel)
theorem q_196 : Cond.static ⟨"FieldMember$Rules", "hasSeveral", "(II)Z"⟩ ∈ TT := tt_t (i := 196) (by decide +kernel) (by decide +kernel)
theorem gS_X5_X5_hasSeveral : GoodIn TT (va_wsS RX5 9 yX5_hasSeveral (ww yX5_hasSeveral cX5_hasSeveral 2 (some .boolean))) := tt_S q_195 q_196 q_6 q_197
theorem hdS_X5_hasSeveral : yX5_hasSeveral.cls ≠ "java/lang/invoke/MethodHandle" ∧ yX5_hasSeveral.cls ≠ "java/lang/invoke/VarHandle" ∧ (parseMethodDescriptor yX5_hasSeveral.desc).map (fun d => d.parameters.length) = some 2 := by decide +kernel
theorem dX5_ofField_16 : decode cX5_ofField 16 = .ok (.invokestatic 9, 3) := by decide +kernel
theorem dX5_ofField_19 : decode cX5_ofField 19 = .ok (.ifCond .eq 5, 3) := by decide +kernel
theorem dX5_ofField_24 : decode cX5_ofField 24 = .ok (.iload_n 1, 1) := by decide +kernel
theorem dX5_ofField_25 : decode cX5_ofField 25 = .ok (.bipush 48, 2) := by decide +kernel
theorem dX5_ofField_27 : decode cX5_ofField 27 = .ok (.invokestatic 9, 3) := by decide +kernel
theorem dX5_ofField_30 : decode cX5_ofField 30 = .ok (.ifCond .eq 5, 3) := by decide +kernel
theorem dX5_ofField_35 : decode cX5_ofField 35 = .ok (.iload_n 2, 1) := by decide +kernel
theorem dX5_ofField_36 : decode cX5_ofField 36 = .ok (.ifCond .eq 12, 3) := by decide +kernel
theorem dX5_ofField_48 : decode cX5_ofField 48 = .ok (.iload_n 0, 1) := by decide +kernel
theorem dX5_ofField_49 : decode cX5_ofField 49 = .ok (.ifCond .ne 7, 3) := by decide +kernel
theorem dX5_ofField_56 : decode cX5_ofField 56 = .ok (.iconst 0, 1) := by decide +kernel
theorem dX5_ofField_57 : decode cX5_ofField 57 = .ok (.ireturn, 1) := by decide +kernel
theorem dX5_ofField_52 : decode cX5_ofField 52 = .ok (.iconst 5, 1) := by decide +kernel
theorem dX5_ofField_53 : decode cX5_ofField 53 = .ok (.goto 4, 3) := by decide +kernel
theorem dX5_ofField_39 : decode cX5_ofField 39 = .ok (.iload_n 1, 1) := by decide +kernel
theorem dX5_ofField_40 : decode cX5_ofField 40 = .ok (.bipush (-26), 2) := by decide +kernel
theorem dX5_ofField_42 : decode cX5_ofField 42 = .ok (.iand, 1) := by decide +kernel
theorem dX5_ofField_43 : decode cX5_ofField 43 = .ok (.ifCond .eq 5, 3) := by decide +kernel
theorem dX5_ofField_46 : decode cX5_ofField 46 = .ok (.iconst 4, 1) := by decide +kernel
theorem dX5_ofField_47 : decode cX5_ofField 47 = .ok (.ireturn, 1) := by decide +kernel
theorem dX5_ofField_33 : decode cX5_ofField 33 = .ok (.iconst 3, 1) := by decide +kernel
theorem dX5_ofField_34 : decode cX5_ofField 34 = .ok (.ireturn, 1) := by decide +kernel
theorem dX5_ofField_22 : decode cX5_ofField 22 = .ok (.iconst 2, 1) := by decide +kernel
theorem dX5_ofField_23 : decode cX5_ofField 23 = .ok (.ireturn, 1) := by decide +kernel
theorem dX5_ofField_11 : decode cX5_ofField 11 = .ok (.iconst 1, 1) := by decide +kernel
theorem dX5_ofField_12 : decode cX5_ofField 12 = .ok (.ireturn, 1) := by decide +kernel
theorem dX5_ofAnyMember_0 : decode cX5_ofAnyMember 0 = .ok (.iload_n 0, 1) := by decide +kernel
theorem dX5_ofAnyMember_1 : decode cX5_ofAnyMember 1 = .ok (.bipush 96, 2) := by decide +kernel
theorem q_294 : Cond.methodLink "FieldMember$Rules" 19 ⟨"FieldMember$Rules", "hasAny", "(II)Z"⟩ ∈ TT := tt_t (i := 294) (by decide +kernel) (by decide +kernel)
theorem q_296 : Cond.code ⟨"FieldMember$Rules", "hasAny", "(II)Z"⟩ prog_7_method_10_code 2 (some .boolean) ∈ TT := tt_t (i := 296) (by decide +kernel) (by decide +kernel)
theorem q_295 : Cond.static ⟨"FieldMember$Rules", "hasAny", "(II)Z"⟩ ∈ TT := tt_t (i := 295) (by decide +kernel) (by decide +kernel)
theorem gS_X5_X5_hasAny : GoodIn TT (va_wsS RX5 19 yX5_hasAny (ww yX5_hasAny cX5_hasAny 2 (some .boolean))) := tt_S q_294 q_295 q_6 q_296
theorem hdS_X5_hasAny : yX5_hasAny.cls ≠ "java/lang/invoke/MethodHandle" ∧ yX5_hasAny.cls ≠ "java/lang/invoke/VarHandle" ∧ (parseMethodDescriptor yX5_hasAny.desc).map (fun d => d.parameters.length) = some 2 := by decide +kernel
theorem dX5_ofAnyMember_3 : decode cX5_ofAnyMember 3 = .ok (.invokestatic 19, 3) := by decide +kernel
theorem dX5_ofAnyMember_6 : decode cX5_ofAnyMember 6 = .ok (.ifCond .eq 6, 3) := by decide +kernel
theorem dX5_ofAnyMember_12 : decode cX5_ofAnyMember 12 = .ok (.iload_n 0, 1) := by decide +kernel
theorem dX5_ofAnyMember_13 : decode cX5_ofAnyMember 13 = .ok (.bipush 7, 2) := by decide +kernel
theorem dX5_ofAnyMember_15 : decode cX5_ofAnyMember 15 = .ok (.invokestatic 9, 3) := by decide +kernel
theorem dX5_ofAnyMember_18 : decode cX5_ofAnyMember 18 = .ok (.ifCond .eq 8, 3) := by decide +kernel
theorem dX5_ofAnyMember_26 : decode cX5_ofAnyMember 26 = .ok (.iconst 0, 1) := by decide +kernel
theorem dX5_ofAnyMember_27 : decode cX5_ofAnyMember 27 = .ok (.ireturn, 1) := by decide +kernel
theorem dX5_ofAnyMember_21 : decode cX5_ofAnyMember 21 = .ok (.bipush 12, 2) := by decide +kernel
theorem dX5_ofAnyMember_23 : decode cX5_ofAnyMember 23 = .ok (.goto 4, 3) := by decide +kernel
theorem dX5_ofAnyMember_9 : decode cX5_ofAnyMember 9 = .ok (.bipush 11, 2) := by decide +kernel
theorem dX5_ofAnyMember_11 : decode cX5_ofAnyMember 11 = .ok (.ireturn, 1) := by decide +kernel
theorem dX5_ofBody_0 : decode cX5_ofBody 0 = .ok (.iload_n 0, 1) := by decide +kernel
theorem dX5_ofBody_1 : decode cX5_ofBody 1 = .ok (.iload_n 1, 1) := by decide +kernel
theorem dX5_ofBody_2 : decode cX5_ofBody 2 = .ok (.if_icmp .ne 15, 3) := by decide +kernel
theorem dX5_ofBody_17 : decode cX5_ofBody 17 = .ok (.iconst 0, 1) := by decide +kernel
theorem dX5_ofBody_18 : decode cX5_ofBody 18 = .ok (.ireturn, 1) := by decide +kernel
theorem dX5_ofBody_5 : decode cX5_ofBody 5 = .ok (.iload_n 0, 1) := by decide +kernel
theorem dX5_ofBody_6 : decode cX5_ofBody 6 = .ok (.ifCond .eq 8, 3) := by decide +kernel
theorem dX5_ofBody_14 : decode cX5_ofBody 14 = .ok (.bipush 17, 2) := by decide +kernel
theorem dX5_ofBody_16 : decode cX5_ofBody 16 = .ok (.ireturn, 1) := by decide +kernel
theorem dX5_ofBody_9 : decode cX5_ofBody 9 = .ok (.bipush 16, 2) := by decide +kernel
theorem dX5_ofBody_11 : decode cX5_ofBody 11 = .ok (.goto 5, 3) := by decide +kernel
theorem dX5_ofFaceMember_0 : decode cX5_ofFaceMember 0 = .ok (.iload_n 0, 1) := by decide +kernel
theorem q_291 : Cond.methodLink "FieldMember$Rules" 15 ⟨"FieldMember$Rules", "ofAnyMember", "(I)I"⟩ ∈ TT := tt_t (i := 291) (by decide +kernel) (by decide +kernel)
theorem q_293 : Cond.code ⟨"FieldMember$Rules", "ofAnyMember", "(I)I"⟩ prog_7_method_8_code 1 (some .int) ∈ TT := tt_t (i := 293) (by decide +kernel) (by decide +kernel)
theorem q_292 : Cond.static ⟨"FieldMember$Rules", "ofAnyMember", "(I)I"⟩ ∈ TT := tt_t (i := 292) (by decide +kernel) (by decide +kernel)
theorem gS_X5_X5_ofAnyMember : GoodIn TT (va_wsS RX5 15 yX5_ofAnyMember (ww yX5_ofAnyMember cX5_ofAnyMember 1 (some .int))) := tt_S q_291 q_292 q_6 q_293
theorem hdS_X5_ofAnyMember : yX5_ofAnyMember.cls ≠ "java/lang/invoke/MethodHandle" ∧ yX5_ofAnyMember.cls ≠ "java/lang/invoke/VarHandle" ∧ (parseMethodDescriptor yX5_ofAnyMember.desc).map (fun d => d.parameters.length) = some 1 := by decide +kernel
theorem dX5_ofFaceMember_1 : decode cX5_ofFaceMember 1 = .ok (.invokestatic 15, 3) := by decide +kernel
theorem dX5_ofFaceMember_4 : decode cX5_ofFaceMember 4 = .ok (.istore_n 2, 1) := by decide +kernel
theorem dX5_ofFaceMember_5 : decode cX5_ofFaceMember 5 = .ok (.iload_n 2, 1) := by decide +kernel
theorem dX5_ofFaceMember_6 : decode cX5_ofFaceMember 6 = .ok (.ifCond .eq 5, 3) := by decide +kernel
theorem dX5_ofFaceMember_54 : decode cX5_ofFaceMember 54 = .ok (.istore_n 3, 1) := by decide +kernel
theorem dX5_ofFaceMember_55 : decode cX5_ofFaceMember 55 = .ok (.iload_n 3, 1) := by decide +kernel
theorem dX5_ofFaceMember_56 : decode cX5_ofFaceMember 56 = .ok (.ifCond .eq 8, 3) := by decide +kernel
theorem dX5_ofFaceMember_64 : decode cX5_ofFaceMember 64 = .ok (.iload_n 1, 1) := by decide +kernel
theorem q_297 : Cond.methodLink "FieldMember$Rules" 22 ⟨"FieldMember$Rules", "ofBody", "(ZZ)I"⟩ ∈ TT := tt_t (i := 297) (by decide +kernel) (by decide +kernel)
theorem q_299 : Cond.code ⟨"FieldMember$Rules", "ofBody", "(ZZ)I"⟩ prog_7_method_9_code 2 (some .int) ∈ TT := tt_t (i := 299) (by decide +kernel) (by decide +kernel)
theorem q_298 : Cond.static ⟨"FieldMember$Rules", "ofBody", "(ZZ)I"⟩ ∈ TT := tt_t (i := 298) (by decide +kernel) (by decide +kernel)
theorem gS_X5_X5_ofBody : GoodIn TT (va_wsS RX5 22 yX5_ofBody (ww yX5_ofBody cX5_ofBody 2 (some .int))) := tt_S q_297 q_298 q_6 q_299
theorem hdS_X5_ofBody : yX5_ofBody.cls ≠ "java/lang/invoke/MethodHandle" ∧ yX5_ofBody.cls ≠ "java/lang/invoke/VarHandle" ∧ (parseMethodDescriptor yX5_ofBody.desc).map (fun d => d.parameters.length) = some 2 := by decide +kernel
theorem dX5_ofFaceMember_80 : decode cX5_ofFaceMember 80 = .ok (.invokestatic 22, 3) := by decide +kernel
theorem dX5_ofFaceMember_83 : decode cX5_ofFaceMember 83 = .ok (.ireturn, 1) := by decide +kernel
theorem dX5_ofFaceMember_65 : decode cX5_ofFaceMember 65 = .ok (.iload_n 0, 1) := by decide +kernel
theorem dX5_ofFaceMember_66 : decode cX5_ofFaceMember 66 = .ok (.sipush 1036, 3) := by decide +kernel
theorem dX5_ofFaceMember_69 : decode cX5_ofFaceMember 69 = .ok (.invokestatic 19, 3) := by decide +kernel
theorem dX5_ofFaceMember_72 : decode cX5_ofFaceMember 72 = .ok (.ifCond .ne 7, 3) := by decide +kernel
theorem dX5_ofFaceMember_79 : decode cX5_ofFaceMember 79 = .ok (.iconst 0, 1) := by decide +kernel
theorem dX5_ofFaceMember_75 : decode cX5_ofFaceMember 75 = .ok (.iconst 1, 1) := by decide +kernel
theorem dX5_ofFaceMember_76 : decode cX5_ofFaceMember 76 = .ok (.goto 4, 3) := by decide +kernel
theorem dX5_ofFaceMember_59 : decode cX5_ofFaceMember 59 = .ok (.bipush 13, 2) := by decide +kernel
theorem dX5_ofFaceMember_61 : decode cX5_ofFaceMember 61 = .ok (.goto 22, 3) := by decide +kernel
theorem dX5_ofFaceMember_11 : decode cX5_ofFaceMember 11 = .ok (.iload_n 0, 1) := by decide +kernel
theorem dX5_ofFaceMember_12 : decode cX5_ofFaceMember 12 = .ok (.sipush 786, 3) := by decide +kernel
theorem dX5_ofFaceMember_15 : decode cX5_ofFaceMember 15 = .ok (.invokestatic 19, 3) := by decide +kernel
theorem dX5_ofFaceMember_18 : decode cX5_ofFaceMember 18 = .ok (.ifCond .ne 31, 3) := by decide +kernel
theorem dX5_ofFaceMember_49 : decode cX5_ofFaceMember 49 = .ok (.iconst 1, 1) := by decide +kernel
theorem dX5_ofFaceMember_50 : decode cX5_ofFaceMember 50 = .ok (.goto 4, 3) := by decide +kernel
theorem dX5_ofFaceMember_21 : decode cX5_ofFaceMember 21 = .ok (.iload_n 0, 1) := by decide +kernel
theorem dX5_ofFaceMember_22 : decode cX5_ofFaceMember 22 = .ok (.sipush 1160, 3) := by decide +kernel
theorem dX5_ofFaceMember_25 : decode cX5_ofFaceMember 25 = .ok (.invokestatic 9, 3) := by decide +kernel
theorem dX5_ofFaceMember_28 : decode cX5_ofFaceMember 28 = .ok (.ifCond .ne 21, 3) := by decide +kernel
theorem dX5_ofFaceMember_31 : decode cX5_ofFaceMember 31 = .ok (.iload_n 0, 1) := by decide +kernel
theorem dX5_ofFaceMember_32 : decode cX5_ofFaceMember 32 = .ok (.iconst 4, 1) := by decide +kernel
theorem dX5_ofFaceMember_33 : decode cX5_ofFaceMember 33 = .ok (.invokestatic 19, 3) := by decide +kernel
theorem dX5_ofFaceMember_36 : decode cX5_ofFaceMember 36 = .ok (.ifCond .eq 17, 3) := by decide +kernel
theorem dX5_ofFaceMember_53 : decode cX5_ofFaceMember 53 = .ok (.iconst 0, 1) := by decide +kernel
theorem dX5_ofFaceMember_39 : decode cX5_ofFaceMember 39 = .ok (.iload_n 0, 1) := by decide +kernel
theorem dX5_ofFaceMember_40 : decode cX5_ofFaceMember 40 = .ok (.sipush 1152, 3) := by decide +kernel
theorem dX5_ofFaceMember_43 : decode cX5_ofFaceMember 43 = .ok (.invokestatic 19, 3) := by decide +kernel
theorem dX5_ofFaceMember_46 : decode cX5_ofFaceMember 46 = .ok (.ifCond .eq 7, 3) := by decide +kernel
theorem dX5_ofFaceMember_9 : decode cX5_ofFaceMember 9 = .ok (.iload_n 2, 1) := by decide +kernel
theorem dX5_ofFaceMember_10 : decode cX5_ofFaceMember 10 = .ok (.ireturn, 1) := by decide +kernel
theorem dX5_ofClassMember_0 : decode cX5_ofClassMember 0 = .ok (.iload_n 0, 1) := by decide +kernel
theorem dX5_ofClassMember_1 : decode cX5_ofClassMember 1 = .ok (.invokestatic 15, 3) := by decide +kernel
theorem dX5_ofClassMember_4 : decode cX5_ofClassMember 4 = .ok (.istore_n 3, 1) := by decide +kernel
theorem dX5_ofClassMember_5 : decode cX5_ofClassMember 5 = .ok (.iload_n 3, 1) := by decide +kernel
theorem dX5_ofClassMember_6 : decode cX5_ofClassMember 6 = .ok (.ifCond .eq 5, 3) := by decide +kernel
theorem dX5_ofClassMember_11 : decode cX5_ofClassMember 11 = .ok (.iload_n 0, 1) := by decide +kernel
theorem dX5_ofClassMember_12 : decode cX5_ofClassMember 12 = .ok (.sipush 1024, 3) := by decide +kernel
theorem dX5_ofClassMember_15 : decode cX5_ofClassMember 15 = .ok (.invokestatic 19, 3) := by decide +kernel
theorem dX5_ofClassMember_18 : decode cX5_ofClassMember 18 = .ok (.ifCond .eq 6, 3) := by decide +kernel
theorem dX5_ofClassMember_24 : decode cX5_ofClassMember 24 = .ok (.iload_n 0, 1) := by decide +kernel
theorem dX5_ofClassMember_25 : decode cX5_ofClassMember 25 = .ok (.sipush 128, 3) := by decide +kernel
theorem dX5_ofClassMember_28 : decode cX5_ofClassMember 28 = .ok (.invokestatic 19, 3) := by decide +kernel
theorem dX5_ofClassMember_31 : decode cX5_ofClassMember 31 = .ok (.ifCond .eq 16, 3) := by decide +kernel
theorem dX5_ofClassMember_47 : decode cX5_ofClassMember 47 = .ok (.iload_n 0, 1) := by decide +kernel
theorem dX5_ofClassMember_48 : decode cX5_ofClassMember 48 = .ok (.sipush 128, 3) := by decide +kernel
theorem dX5_ofClassMember_51 : decode cX5_ofClassMember 51 = .ok (.invokestatic 19, 3) := by decide +kernel
theorem dX5_ofClassMember_54 : decode cX5_ofClassMember 54 = .ok (.ifCond .eq 10, 3) := by decide +kernel
theorem dX5_ofClassMember_64 : decode cX5_ofClassMember 64 = .ok (.iload_n 1, 1) := by decide +kernel
theorem dX5_ofClassMember_65 : decode cX5_ofClassMember 65 = .ok (.iload_n 0, 1) := by decide +kernel
theorem dX5_ofClassMember_66 : decode cX5_ofClassMember 66 = .ok (.sipush 384, 3) := by decide +kernel
theorem dX5_ofClassMember_69 : decode cX5_ofClassMember 69 = .ok (.invokestatic 19, 3) := by decide +kernel
theorem dX5_ofClassMember_72 : decode cX5_ofClassMember 72 = .ok (.invokestatic 22, 3) := by decide +kernel
theorem dX5_ofClassMember_75 : decode cX5_ofClassMember 75 = .ok (.ireturn, 1) := by decide +kernel
theorem dX5_ofClassMember_34 : decode cX5_ofClassMember 34 = .ok (.iload_n 0, 1) := by decide +kernel
theorem dX5_ofClassMember_35 : decode cX5_ofClassMember 35 = .ok (.sipush 796, 3) := by decide +kernel
theorem dX5_ofClassMember_38 : decode cX5_ofClassMember 38 = .ok (.invokestatic 19, 3) := by decide +kernel
theorem dX5_ofClassMember_41 : decode cX5_ofClassMember 41 = .ok (.ifCond .eq 6, 3) := by decide +kernel
theorem dX5_ofClassMember_57 : decode cX5_ofClassMember 57 = .ok (.iload_n 2, 1) := by decide +kernel
theorem dX5_ofClassMember_58 : decode cX5_ofClassMember 58 = .ok (.ifCond .ne 6, 3) := by decide +kernel
theorem dX5_ofClassMember_61 : decode cX5_ofClassMember 61 = .ok (.bipush 15, 2) := by decide +kernel
theorem dX5_ofClassMember_63 : decode cX5_ofClassMember 63 = .ok (.ireturn, 1) := by decide +kernel
theorem dX5_ofClassMember_44 : decode cX5_ofClassMember 44 = .ok (.bipush 14, 2) := by decide +kernel
theorem dX5_ofClassMember_46 : decode cX5_ofClassMember 46 = .ok (.ireturn, 1) := by decide +kernel
theorem dX5_ofClassMember_21 : decode cX5_ofClassMember 21 = .ok (.bipush 13, 2) := by decide +kernel
theorem dX5_ofClassMember_23 : decode cX5_ofClassMember 23 = .ok (.ireturn, 1) := by decide +kernel
theorem dX5_ofClassMember_9 : decode cX5_ofClassMember 9 = .ok (.iload_n 3, 1) := by decide +kernel
theorem dX5_ofClassMember_10 : decode cX5_ofClassMember 10 = .ok (.ireturn, 1) := by decide +kernel
theorem dX5_ofParameter_0 : decode cX5_ofParameter 0 = .ok (.iload_n 0, 1) := by decide +kernel
theorem dX5_ofParameter_1 : decode cX5_ofParameter 1 = .ok (.ifCond .ne 6, 3) := by decide +kernel
theorem dX5_ofParameter_7 : decode cX5_ofParameter 7 = .ok (.iload_n 3, 1) := by decide +kernel
theorem dX5_ofParameter_8 : decode cX5_ofParameter 8 = .ok (.ifCond .eq 6, 3) := by decide +kernel
theorem dX5_ofParameter_14 : decode cX5_ofParameter 14 = .ok (.iload_n 2, 1) := by decide +kernel
theorem dX5_ofParameter_15 : decode cX5_ofParameter 15 = .ok (.ifCond .eq 12, 3) := by decide +kernel
theorem dX5_ofParameter_27 : decode cX5_ofParameter 27 = .ok (.iconst 0, 1) := by decide +kernel
theorem dX5_ofParameter_28 : decode cX5_ofParameter 28 = .ok (.ireturn, 1) := by decide +kernel
theorem dX5_ofParameter_18 : decode cX5_ofParameter 18 = .ok (.iload_n 1, 1) := by decide +kernel
theorem dX5_ofParameter_19 : decode cX5_ofParameter 19 = .ok (.ifCond .ne 8, 3) := by decide +kernel
theorem dX5_ofParameter_22 : decode cX5_ofParameter 22 = .ok (.bipush 20, 2) := by decide +kernel
theorem dX5_ofParameter_24 : decode cX5_ofParameter 24 = .ok (.goto 4, 3) := by decide +kernel
theorem dX5_ofParameter_11 : decode cX5_ofParameter 11 = .ok (.bipush 19, 2) := by decide +kernel
theorem dX5_ofParameter_13 : decode cX5_ofParameter 13 = .ok (.ireturn, 1) := by decide +kernel
theorem dX5_ofParameter_4 : decode cX5_ofParameter 4 = .ok (.bipush 18, 2) := by decide +kernel
theorem dX5_ofParameter_6 : decode cX5_ofParameter 6 = .ok (.ireturn, 1) := by decide +kernel
theorem dX5_faceMarks_0 : decode cX5_faceMarks 0 = .ok (.iload_n 0, 1) := by decide +kernel
theorem dX5_faceMarks_1 : decode cX5_faceMarks 1 = .ok (.iconst 4, 1) := by decide +kernel
theorem dX5_faceMarks_2 : decode cX5_faceMarks 2 = .ok (.invokestatic 19, 3) := by decide +kernel
theorem dX5_faceMarks_5 : decode cX5_faceMarks 5 = .ok (.ifCond .eq 7, 3) := by decide +kernel
theorem dX5_faceMarks_12 : decode cX5_faceMarks 12 = .ok (.iconst 1, 1) := by decide +kernel
theorem dX5_faceMarks_13 : decode cX5_faceMarks 13 = .ok (.istore_n 1, 1) := by decide +kernel
theorem dX5_faceMarks_14 : decode cX5_faceMarks 14 = .ok (.iload_n 0, 1) := by decide +kernel
theorem dX5_faceMarks_15 : decode cX5_faceMarks 15 = .ok (.sipush 1036, 3) := by decide +kernel
theorem dX5_faceMarks_18 : decode cX5_faceMarks 18 = .ok (.invokestatic 19, 3) := by decide +kernel
theorem dX5_faceMarks_21 : decode cX5_faceMarks 21 = .ok (.ifCond .eq 7, 3) := by decide +kernel
theorem dX5_faceMarks_28 : decode cX5_faceMarks 28 = .ok (.iload_n 1, 1) := by decide +kernel
theorem dX5_faceMarks_29 : decode cX5_faceMarks 29 = .ok (.sipush 128, 3) := by decide +kernel
theorem dX5_faceMarks_32 : decode cX5_faceMarks 32 = .ok (.ior, 1) := by decide +kernel
theorem dX5_faceMarks_33 : decode cX5_faceMarks 33 = .ok (.ireturn, 1) := by decide +kernel
theorem dX5_faceMarks_24 : decode cX5_faceMarks 24 = .ok (.iload_n 1, 1) := by decide +kernel
theorem dX5_faceMarks_25 : decode cX5_faceMarks 25 = .ok (.goto 8, 3) := by decide +kernel
theorem dX5_faceMarks_8 : decode cX5_faceMarks 8 = .ok (.iconst 0, 1) := by decide +kernel
theorem dX5_faceMarks_9 : decode cX5_faceMarks 9 = .ok (.goto 4, 3) := by decide +kernel
theorem dX5_sightOf_0 : decode cX5_sightOf 0 = .ok (.iload_n 0, 1) := by decide +kernel
theorem dX5_sightOf_1 : decode cX5_sightOf 1 = .ok (.iconst 1, 1) := by decide +kernel
theorem dX5_sightOf_2 : decode cX5_sightOf 2 = .ok (.invokestatic 19, 3) := by decide +kernel
theorem dX5_sightOf_5 : decode cX5_sightOf 5 = .ok (.ifCond .eq 5, 3) := by decide +kernel
theorem dX5_sightOf_10 : decode cX5_sightOf 10 = .ok (.iload_n 0, 1) := by decide +kernel
theorem dX5_sightOf_11 : decode cX5_sightOf 11 = .ok (.iconst 2, 1) := by decide +kernel
theorem dX5_sightOf_12 : decode cX5_sightOf 12 = .ok (.invokestatic 19, 3) := by decide +kernel
theorem dX5_sightOf_15 : decode cX5_sightOf 15 = .ok (.ifCond .eq 5, 3) := by decide +kernel
theorem dX5_sightOf_20 : decode cX5_sightOf 20 = .ok (.iload_n 0, 1) := by decide +kernel
theorem dX5_sightOf_21 : decode cX5_sightOf 21 = .ok (.iconst 4, 1) := by decide +kernel
theorem dX5_sightOf_22 : decode cX5_sightOf 22 = .ok (.invokestatic 19, 3) := by decide +kernel
theorem dX5_sightOf_25 : decode cX5_sightOf 25 = .ok (.ifCond .eq 7, 3) := by decide +kernel
theorem dX5_sightOf_32 : decode cX5_sightOf 32 = .ok (.iconst 1, 1) := by decide +kernel
theorem dX5_sightOf_33 : decode cX5_sightOf 33 = .ok (.ireturn, 1) := by decide +kernel
theorem dX5_sightOf_28 : decode cX5_sightOf 28 = .ok (.iconst 0, 1) := by decide +kernel
theorem dX5_sightOf_29 : decode cX5_sightOf 29 = .ok (.goto 4, 3) := by decide +kernel
theorem dX5_sightOf_18 : decode cX5_sightOf 18 = .ok (.iconst 2, 1) := by decide +kernel
theorem dX5_sightOf_19 : decode cX5_sightOf 19 = .ok (.ireturn, 1) := by decide +kernel
theorem dX5_sightOf_8 : decode cX5_sightOf 8 = .ok (.iconst 3, 1) := by decide +kernel
theorem dX5_sightOf_9 : decode cX5_sightOf 9 = .ok (.ireturn, 1) := by decide +kernel
set_option maxHeartbeats 4000000 in
set_option maxRecDepth 100000 in
theorem c_isName (l : Launch) (D : va_G) (G : Nat → ClassId) (H : Heap) (name : Int32) : Met l yX7_isName (ww yX7_isName cX7_isName 1 (some .boolean)) (rmD 0) (roP D G H [.int name]) (vp_Si (fun r => r = bI (0 ≤ name ∧ name ≤ 49))) 0 0 (fun _ => False) := by
  refine Met.ofW (cc := cX7_isName) (maxL := 1) (ret := (some .boolean)) (by decide) rfl ?_
  intro p e s m args below meth c s₁ B hml hv
  obtain ⟨rfl, hH, hK⟩ := hv
  have hx := B.exec
  have hb := B.bytes
  have hr := B.returns
  have hts : ∀ w ∈ TT, w.before _ s = true := fun w h => atoms_spec (ws := ww yX7_isName cX7_isName 1 (some .boolean)) B.pre w (List.mem_cons_of_mem _ h)
  have hown : s.vm.findClass RX7 = some m.cls := findClass_of_methodNamed B.named
  have hlocks := B.notSynchronized
  rw [hH]
  have hl := lv_entry ([.int name]) (n := 1) (Nat.le_of_ble_eq_true rfl)
  rw [lg_entry_eq]
  generalize (lg_sl ([.int name]) ++ List.replicate (1 - (lg_sl ([.int name])).length) Slot.unset).toArray = ls at hl ⊢
  have hl : lv_has ls 1 [(0, .int name)] := hl
  refine lv_iload_n hx hb dX7_isName_0 rfl (lv_at hl 0 rfl) ?_
  refine lv_if_lt (tgt := 14) hx hb dX7_isName_1 (by decide) (fun c1 => ?_) (fun c1 => ?_)
  · -- 1 taken
    refine lv_iconst (v := 0) hx hb dX7_isName_14 (by decide) ?_
    exact ro_zret (v := 0) hx hb hr hH hlocks dX7_isName_15 (Or.inl rfl) ((bI_f (by simp only [i_le, i_lt, i_eq, Int32.reduceToInt] at c1 ⊢; omega)).symm)
  · -- 1 not
    refine lv_iload_n hx hb dX7_isName_4 rfl (lv_at hl 0 rfl) ?_
    refine lv_bipush (v := 49) hx hb dX7_isName_5 (by decide) ?_
    refine lv_icmp_gt (tgt := 14) hx hb dX7_isName_7 (by decide) (fun c2 => ?_) (fun c2 => ?_)
    · -- 7 taken
      refine lv_iconst (v := 0) hx hb dX7_isName_14 (by decide) ?_
      exact ro_zret (v := 0) hx hb hr hH hlocks dX7_isName_15 (Or.inl rfl) ((bI_f (by simp only [i_le, i_lt, i_eq, Int32.reduceToInt] at c1 c2 ⊢; omega)).symm)
    · -- 7 not
      refine lv_iconst (v := 1) hx hb dX7_isName_10 (by decide) ?_
      refine lv_goto (tgt := 15) hx hb dX7_isName_11 (by decide) ?_
      exact ro_zret (v := 1) hx hb hr hH hlocks dX7_isName_15 (Or.inr rfl) ((bI_t (by simp only [i_le, i_lt, i_eq, Int32.reduceToInt] at c1 c2 ⊢; omega)).symm)
set_option maxHeartbeats 4000000 in
set_option maxRecDepth 100000 in
theorem c_areDims (l : Launch) (D : va_G) (G : Nat → ClassId) (H : Heap) (dd : Int32) : Met l yX7_areDims (ww yX7_areDims cX7_areDims 1 (some .boolean)) (rmD 0) (roP D G H [.int dd]) (vp_Si (fun r => r = bI (0 ≤ dd ∧ dd ≤ 3))) 0 0 (fun _ => False) := by
  refine Met.ofW (cc := cX7_areDims) (maxL := 1) (ret := (some .boolean)) (by decide) rfl ?_
  intro p e s m args below meth c s₁ B hml hv
  obtain ⟨rfl, hH, hK⟩ := hv
  have hx := B.exec
  have hb := B.bytes
  have hr := B.returns
  have hts : ∀ w ∈ TT, w.before _ s = true := fun w h => atoms_spec (ws := ww yX7_areDims cX7_areDims 1 (some .boolean)) B.pre w (List.mem_cons_of_mem _ h)
  have hown : s.vm.findClass RX7 = some m.cls := findClass_of_methodNamed B.named
  have hlocks := B.notSynchronized
  rw [hH]
  have hl := lv_entry ([.int dd]) (n := 1) (Nat.le_of_ble_eq_true rfl)
  rw [lg_entry_eq]
  generalize (lg_sl ([.int dd]) ++ List.replicate (1 - (lg_sl ([.int dd])).length) Slot.unset).toArray = ls at hl ⊢
  have hl : lv_has ls 1 [(0, .int dd)] := hl
  refine lv_iload_n hx hb dX7_areDims_0 rfl (lv_at hl 0 rfl) ?_
  refine lv_if_lt (tgt := 13) hx hb dX7_areDims_1 (by decide) (fun c1 => ?_) (fun c1 => ?_)
  · -- 1 taken
    refine lv_iconst (v := 0) hx hb dX7_areDims_13 (by decide) ?_
    exact ro_zret (v := 0) hx hb hr hH hlocks dX7_areDims_14 (Or.inl rfl) ((bI_f (by simp only [i_le, i_lt, i_eq, Int32.reduceToInt] at c1 ⊢; omega)).symm)
  · -- 1 not
    refine lv_iload_n hx hb dX7_areDims_4 rfl (lv_at hl 0 rfl) ?_
    refine lv_iconst (v := 3) hx hb dX7_areDims_5 (by decide) ?_
    refine lv_icmp_gt (tgt := 13) hx hb dX7_areDims_6 (by decide) (fun c2 => ?_) (fun c2 => ?_)
    · -- 6 taken
      refine lv_iconst (v := 0) hx hb dX7_areDims_13 (by decide) ?_
      exact ro_zret (v := 0) hx hb hr hH hlocks dX7_areDims_14 (Or.inl rfl) ((bI_f (by simp only [i_le, i_lt, i_eq, Int32.reduceToInt] at c1 c2 ⊢; omega)).symm)
    · -- 6 not
      refine lv_iconst (v := 1) hx hb dX7_areDims_9 (by decide) ?_
      refine lv_goto (tgt := 14) hx hb dX7_areDims_10 (by decide) ?_
      exact ro_zret (v := 1) hx hb hr hH hlocks dX7_areDims_14 (Or.inr rfl) ((bI_t (by simp only [i_le, i_lt, i_eq, Int32.reduceToInt] at c1 c2 ⊢; omega)).symm)
set_option maxHeartbeats 4000000 in
set_option maxRecDepth 100000 in
theorem c_mayBeDeclared (l : Launch) (D : va_G) (G : Nat → ClassId) (H : Heap) (kind : Int32) (dd : Int32) : Met l yX7_mayBeDeclared (ww yX7_mayBeDeclared cX7_mayBeDeclared 2 (some .boolean)) (rmD 1) (roP D G H [.int kind, .int dd]) (vp_Si (fun r => r = bI (decP kind dd))) 0 0 (fun _ => False) := by
  refine Met.ofW (cc := cX7_mayBeDeclared) (maxL := 2) (ret := (some .boolean)) (by decide) rfl ?_
  intro p e s m args below meth c s₁ B hml hv
  obtain ⟨rfl, hH, hK⟩ := hv
  have hx := B.exec
  have hb := B.bytes
  have hr := B.returns
  have hts : ∀ w ∈ TT, w.before _ s = true := fun w h => atoms_spec (ws := ww yX7_mayBeDeclared cX7_mayBeDeclared 2 (some .boolean)) B.pre w (List.mem_cons_of_mem _ h)
  have hown : s.vm.findClass RX7 = some m.cls := findClass_of_methodNamed B.named
  have hlocks := B.notSynchronized
  rw [hH]
  have hl := lv_entry ([.int kind, .int dd]) (n := 2) (Nat.le_of_ble_eq_true rfl)
  rw [lg_entry_eq]
  generalize (lg_sl ([.int kind, .int dd]) ++ List.replicate (2 - (lg_sl ([.int kind, .int dd])).length) Slot.unset).toArray = ls at hl ⊢
  have hl : lv_has ls 2 [(0, .int kind), (1, .int dd)] := hl
  refine lv_iload_n hx hb dX7_mayBeDeclared_0 rfl (lv_at hl 0 rfl) ?_
  refine lv_if_lt (tgt := 29) hx hb dX7_mayBeDeclared_1 (by decide) (fun c1 => ?_) (fun c1 => ?_)
  · -- 1 taken
    refine lv_iconst (v := 0) hx hb dX7_mayBeDeclared_29 (by decide) ?_
    exact ro_zret (v := 0) hx hb hr hH hlocks dX7_mayBeDeclared_30 (Or.inl rfl) ((bI_f (by rw [decP_def]; simp only [eq_true c1, not_true, not_false_iff, not_true_eq_false, not_false_eq_true, true_or, or_true, false_or, or_false, or_self, and_self, true_and, and_true, false_and, and_false, if_true, if_false])).symm)
  · -- 1 not
    refine lv_iload_n hx hb dX7_mayBeDeclared_4 rfl (lv_at hl 0 rfl) ?_
    refine lv_bipush (v := 9) hx hb dX7_mayBeDeclared_5 (by decide) ?_
    refine lv_icmp_eq (tgt := 29) hx hb dX7_mayBeDeclared_7 (by decide) (fun c2 => ?_) (fun c2 => ?_)
    · -- 7 taken
      refine lv_iconst (v := 0) hx hb dX7_mayBeDeclared_29 (by decide) ?_
      exact ro_zret (v := 0) hx hb hr hH hlocks dX7_mayBeDeclared_30 (Or.inl rfl) ((bI_f (by rw [decP_def]; simp only [eq_false c1, eq_true c2, not_true, not_false_iff, not_true_eq_false, not_false_eq_true, true_or, or_true, false_or, or_false, or_self, and_self, true_and, and_true, false_and, and_false, if_true, if_false])).symm)
    · -- 7 not
      refine lv_iload_n hx hb dX7_mayBeDeclared_10 rfl (lv_at hl 1 rfl) ?_
      refine ro_Si (D := D) (G := G) (As := [.int dd]) (rest := []) ⟨hx, hb, hml, hown, hts⟩ (c_areDims l D G _ dd) gS_X7_X7_areDims hdS_X7_areDims ⟨Nat.le_of_ble_eq_true rfl, Nat.le_of_ble_eq_true rfl⟩ hK rfl hl.1 rfl (Nat.le_of_ble_eq_true rfl) dX7_mayBeDeclared_11 ⟨Nat.le_of_ble_eq_true rfl, Nat.le_of_ble_eq_true rfl⟩ (fun r3 e_r3 => ?_)
      subst e_r3
      refine lv_if_eq (tgt := 29) hx hb dX7_mayBeDeclared_14 (by decide) (fun c4 => ?_) (fun c4 => ?_)
      · -- 14 taken
        have c4 := bI_0 c4
        refine lv_iconst (v := 0) hx hb dX7_mayBeDeclared_29 (by decide) ?_
        exact ro_zret (v := 0) hx hb hr hH hlocks dX7_mayBeDeclared_30 (Or.inl rfl) ((bI_f (by rw [decP_def]; simp only [eq_false c1, eq_false c2, eq_false c4, not_true, not_false_iff, not_true_eq_false, not_false_eq_true, true_or, or_true, false_or, or_false, or_self, and_self, true_and, and_true, false_and, and_false, if_true, if_false])).symm)
      · -- 14 not
        have c4 := bI_1 c4
        refine lv_iload_n hx hb dX7_mayBeDeclared_17 rfl (lv_at hl 0 rfl) ?_
        refine lv_if_ne (tgt := 25) hx hb dX7_mayBeDeclared_18 (by decide) (fun c5 => ?_) (fun c5 => ?_)
        · -- 18 taken
          refine lv_iconst (v := 1) hx hb dX7_mayBeDeclared_25 (by decide) ?_
          refine lv_goto (tgt := 30) hx hb dX7_mayBeDeclared_26 (by decide) ?_
          exact ro_zret (v := 1) hx hb hr hH hlocks dX7_mayBeDeclared_30 (Or.inr rfl) ((bI_t (by rw [decP_def]; simp only [eq_false c1, eq_false c2, eq_true c4, eq_false c5, not_true, not_false_iff, not_true_eq_false, not_false_eq_true, true_or, or_true, false_or, or_false, or_self, and_self, true_and, and_true, false_and, and_false, if_true, if_false])).symm)
        · -- 18 not
          refine lv_iload_n hx hb dX7_mayBeDeclared_21 rfl (lv_at hl 1 rfl) ?_
          refine lv_if_ne (tgt := 29) hx hb dX7_mayBeDeclared_22 (by decide) (fun c6 => ?_) (fun c6 => ?_)
          · -- 22 taken
            refine lv_iconst (v := 0) hx hb dX7_mayBeDeclared_29 (by decide) ?_
            exact ro_zret (v := 0) hx hb hr hH hlocks dX7_mayBeDeclared_30 (Or.inl rfl) ((bI_f (by rw [decP_def]; simp only [eq_false c1, eq_false c2, eq_true c4, eq_true c5, eq_false c6, not_true, not_false_iff, not_true_eq_false, not_false_eq_true, true_or, or_true, false_or, or_false, or_self, and_self, true_and, and_true, false_and, and_false, if_true, if_false])).symm)
          · -- 22 not
            refine lv_iconst (v := 1) hx hb dX7_mayBeDeclared_25 (by decide) ?_
            refine lv_goto (tgt := 30) hx hb dX7_mayBeDeclared_26 (by decide) ?_
            exact ro_zret (v := 1) hx hb hr hH hlocks dX7_mayBeDeclared_30 (Or.inr rfl) ((bI_t (by rw [decP_def]; simp only [eq_false c1, eq_false c2, eq_true c4, eq_true c5, eq_true c6, not_true, not_false_iff, not_true_eq_false, not_false_eq_true, true_or, or_true, false_or, or_false, or_self, and_self, true_and, and_true, false_and, and_false, if_true, if_false])).symm)
set_option maxHeartbeats 4000000 in
set_option maxRecDepth 100000 in
theorem c_mayBeArgument (l : Launch) (D : va_G) (G : Nat → ClassId) (H : Heap) (kind : Int32) (dd : Int32) : Met l yX7_mayBeArgument (ww yX7_mayBeArgument cX7_mayBeArgument 2 (some .boolean)) (rmD 1) (roP D G H [.int kind, .int dd]) (vp_Si (fun r => r = bI (argP kind dd))) 0 0 (fun _ => False) := by
  refine Met.ofW (cc := cX7_mayBeArgument) (maxL := 2) (ret := (some .boolean)) (by decide) rfl ?_
  intro p e s m args below meth c s₁ B hml hv
  obtain ⟨rfl, hH, hK⟩ := hv
  have hx := B.exec
  have hb := B.bytes
  have hr := B.returns
  have hts : ∀ w ∈ TT, w.before _ s = true := fun w h => atoms_spec (ws := ww yX7_mayBeArgument cX7_mayBeArgument 2 (some .boolean)) B.pre w (List.mem_cons_of_mem _ h)
  have hown : s.vm.findClass RX7 = some m.cls := findClass_of_methodNamed B.named
  have hlocks := B.notSynchronized
  rw [hH]
  have hl := lv_entry ([.int kind, .int dd]) (n := 2) (Nat.le_of_ble_eq_true rfl)
  rw [lg_entry_eq]
  generalize (lg_sl ([.int kind, .int dd]) ++ List.replicate (2 - (lg_sl ([.int kind, .int dd])).length) Slot.unset).toArray = ls at hl ⊢
  have hl : lv_has ls 2 [(0, .int kind), (1, .int dd)] := hl
  refine lv_iload_n hx hb dX7_mayBeArgument_0 rfl (lv_at hl 0 rfl) ?_
  refine lv_if_le (tgt := 25) hx hb dX7_mayBeArgument_1 (by decide) (fun c1 => ?_) (fun c1 => ?_)
  · -- 1 taken
    refine lv_iconst (v := 0) hx hb dX7_mayBeArgument_25 (by decide) ?_
    exact ro_zret (v := 0) hx hb hr hH hlocks dX7_mayBeArgument_26 (Or.inl rfl) ((bI_f (by rw [argP_def]; simp only [eq_true c1, not_true, not_false_iff, not_true_eq_false, not_false_eq_true, true_or, or_true, false_or, or_false, or_self, and_self, true_and, and_true, false_and, and_false, if_true, if_false])).symm)
  · -- 1 not
    refine lv_iload_n hx hb dX7_mayBeArgument_4 rfl (lv_at hl 1 rfl) ?_
    refine ro_Si (D := D) (G := G) (As := [.int dd]) (rest := []) ⟨hx, hb, hml, hown, hts⟩ (c_areDims l D G _ dd) gS_X7_X7_areDims hdS_X7_areDims ⟨Nat.le_of_ble_eq_true rfl, Nat.le_of_ble_eq_true rfl⟩ hK rfl hl.1 rfl (Nat.le_of_ble_eq_true rfl) dX7_mayBeArgument_5 ⟨Nat.le_of_ble_eq_true rfl, Nat.le_of_ble_eq_true rfl⟩ (fun r2 e_r2 => ?_)
    subst e_r2
    refine lv_if_eq (tgt := 25) hx hb dX7_mayBeArgument_8 (by decide) (fun c3 => ?_) (fun c3 => ?_)
    · -- 8 taken
      have c3 := bI_0 c3
      refine lv_iconst (v := 0) hx hb dX7_mayBeArgument_25 (by decide) ?_
      exact ro_zret (v := 0) hx hb hr hH hlocks dX7_mayBeArgument_26 (Or.inl rfl) ((bI_f (by rw [argP_def]; simp only [eq_false c1, eq_false c3, not_true, not_false_iff, not_true_eq_false, not_false_eq_true, true_or, or_true, false_or, or_false, or_self, and_self, true_and, and_true, false_and, and_false, if_true, if_false])).symm)
    · -- 8 not
      have c3 := bI_1 c3
      refine lv_iload_n hx hb dX7_mayBeArgument_11 rfl (lv_at hl 0 rfl) ?_
      refine lv_bipush (v := 9) hx hb dX7_mayBeArgument_12 (by decide) ?_
      refine lv_icmp_ne (tgt := 21) hx hb dX7_mayBeArgument_14 (by decide) (fun c4 => ?_) (fun c4 => ?_)
      · -- 14 taken
        refine lv_iconst (v := 1) hx hb dX7_mayBeArgument_21 (by decide) ?_
        refine lv_goto (tgt := 26) hx hb dX7_mayBeArgument_22 (by decide) ?_
        exact ro_zret (v := 1) hx hb hr hH hlocks dX7_mayBeArgument_26 (Or.inr rfl) ((bI_t (by rw [argP_def]; simp only [eq_false c1, eq_true c3, eq_false c4, not_true, not_false_iff, not_true_eq_false, not_false_eq_true, true_or, or_true, false_or, or_false, or_self, and_self, true_and, and_true, false_and, and_false, if_true, if_false])).symm)
      · -- 14 not
        refine lv_iload_n hx hb dX7_mayBeArgument_17 rfl (lv_at hl 1 rfl) ?_
        refine lv_if_ne (tgt := 25) hx hb dX7_mayBeArgument_18 (by decide) (fun c5 => ?_) (fun c5 => ?_)
        · -- 18 taken
          refine lv_iconst (v := 0) hx hb dX7_mayBeArgument_25 (by decide) ?_
          exact ro_zret (v := 0) hx hb hr hH hlocks dX7_mayBeArgument_26 (Or.inl rfl) ((bI_f (by rw [argP_def]; simp only [eq_false c1, eq_true c3, eq_true c4, eq_false c5, not_true, not_false_iff, not_true_eq_false, not_false_eq_true, true_or, or_true, false_or, or_false, or_self, and_self, true_and, and_true, false_and, and_false, if_true, if_false])).symm)
        · -- 18 not
          refine lv_iconst (v := 1) hx hb dX7_mayBeArgument_21 (by decide) ?_
          refine lv_goto (tgt := 26) hx hb dX7_mayBeArgument_22 (by decide) ?_
          exact ro_zret (v := 1) hx hb hr hH hlocks dX7_mayBeArgument_26 (Or.inr rfl) ((bI_t (by rw [argP_def]; simp only [eq_false c1, eq_true c3, eq_true c4, eq_true c5, not_true, not_false_iff, not_true_eq_false, not_false_eq_true, true_or, or_true, false_or, or_false, or_self, and_self, true_and, and_true, false_and, and_false, if_true, if_false])).symm)
set_option maxHeartbeats 4000000 in
set_option maxRecDepth 100000 in
theorem c_asNumber (l : Launch) (D : va_G) (G : Nat → ClassId) (H : Heap) (bb : Int32) : Met l yX7_asNumber (ww yX7_asNumber cX7_asNumber 1 (some .int)) (rmD 0) (roP D G H [.int bb]) (vp_Si (fun r => r = (if bb = 0 then 0 else 1 : Int32))) 0 0 (fun _ => False) := by
  refine Met.ofW (cc := cX7_asNumber) (maxL := 1) (ret := (some .int)) (by decide) rfl ?_
  intro p e s m args below meth c s₁ B hml hv
  obtain ⟨rfl, hH, hK⟩ := hv
  have hx := B.exec
  have hb := B.bytes
  have hr := B.returns
  have hts : ∀ w ∈ TT, w.before _ s = true := fun w h => atoms_spec (ws := ww yX7_asNumber cX7_asNumber 1 (some .int)) B.pre w (List.mem_cons_of_mem _ h)
  have hown : s.vm.findClass RX7 = some m.cls := findClass_of_methodNamed B.named
  have hlocks := B.notSynchronized
  rw [hH]
  have hl := lv_entry ([.int bb]) (n := 1) (Nat.le_of_ble_eq_true rfl)
  rw [lg_entry_eq]
  generalize (lg_sl ([.int bb]) ++ List.replicate (1 - (lg_sl ([.int bb])).length) Slot.unset).toArray = ls at hl ⊢
  have hl : lv_has ls 1 [(0, .int bb)] := hl
  refine lv_iload_n hx hb dX7_asNumber_0 rfl (lv_at hl 0 rfl) ?_
  refine lv_if_eq (tgt := 8) hx hb dX7_asNumber_1 (by decide) (fun c1 => ?_) (fun c1 => ?_)
  · -- 1 taken
    refine lv_iconst (v := 0) hx hb dX7_asNumber_8 (by decide) ?_
    exact ro_iret (v := 0) hx hb hr hH hlocks dX7_asNumber_9 (by simp only [eq_true c1, not_true, not_false_iff, not_true_eq_false, not_false_eq_true, true_or, or_true, false_or, or_false, or_self, and_self, true_and, and_true, false_and, and_false, if_true, if_false])
  · -- 1 not
    refine lv_iconst (v := 1) hx hb dX7_asNumber_4 (by decide) ?_
    refine lv_goto (tgt := 9) hx hb dX7_asNumber_5 (by decide) ?_
    exact ro_iret (v := 1) hx hb hr hH hlocks dX7_asNumber_9 (by simp only [eq_false c1, not_true, not_false_iff, not_true_eq_false, not_false_eq_true, true_or, or_true, false_or, or_false, or_self, and_self, true_and, and_true, false_and, and_false, if_true, if_false])
set_option maxHeartbeats 4000000 in
set_option maxRecDepth 100000 in
theorem c_oneOfBoth (l : Launch) (D : va_G) (G : Nat → ClassId) (H : Heap) (x : Int32) (y : Int32) : Met l yX7_oneOfBoth (ww yX7_oneOfBoth cX7_oneOfBoth 2 (some .int)) (rmD 0) (roP D G H [.int x, .int y]) (vp_Si (fun r => r = bothF x y)) 0 0 (fun _ => False) := by
  refine Met.ofW (cc := cX7_oneOfBoth) (maxL := 2) (ret := (some .int)) (by decide) rfl ?_
  intro p e s m args below meth c s₁ B hml hv
  obtain ⟨rfl, hH, hK⟩ := hv
  have hx := B.exec
  have hb := B.bytes
  have hr := B.returns
  have hts : ∀ w ∈ TT, w.before _ s = true := fun w h => atoms_spec (ws := ww yX7_oneOfBoth cX7_oneOfBoth 2 (some .int)) B.pre w (List.mem_cons_of_mem _ h)
  have hown : s.vm.findClass RX7 = some m.cls := findClass_of_methodNamed B.named
  have hlocks := B.notSynchronized
  rw [hH]
  have hl := lv_entry ([.int x, .int y]) (n := 2) (Nat.le_of_ble_eq_true rfl)
  rw [lg_entry_eq]
  generalize (lg_sl ([.int x, .int y]) ++ List.replicate (2 - (lg_sl ([.int x, .int y])).length) Slot.unset).toArray = ls at hl ⊢
  have hl : lv_has ls 2 [(0, .int x), (1, .int y)] := hl
  refine lv_iload_n hx hb dX7_oneOfBoth_0 rfl (lv_at hl 0 rfl) ?_
  refine lv_iconst (v := -1) hx hb dX7_oneOfBoth_1 (by decide) ?_
  refine lv_icmp_eq (tgt := 10) hx hb dX7_oneOfBoth_2 (by decide) (fun c1 => ?_) (fun c1 => ?_)
  · -- 2 taken
    refine lv_iload_n hx hb dX7_oneOfBoth_10 rfl (lv_at hl 1 rfl) ?_
    exact ro_iret (v := y) hx hb hr hH hlocks dX7_oneOfBoth_11 (both_1 c1)
  · -- 2 not
    refine lv_iload_n hx hb dX7_oneOfBoth_5 rfl (lv_at hl 0 rfl) ?_
    refine lv_iload_n hx hb dX7_oneOfBoth_6 rfl (lv_at hl 1 rfl) ?_
    refine lv_icmp_ne (tgt := 12) hx hb dX7_oneOfBoth_7 (by decide) (fun c2 => ?_) (fun c2 => ?_)
    · -- 7 taken
      refine lv_iload_n hx hb dX7_oneOfBoth_12 rfl (lv_at hl 1 rfl) ?_
      refine lv_iconst (v := -1) hx hb dX7_oneOfBoth_13 (by decide) ?_
      refine lv_icmp_ne (tgt := 21) hx hb dX7_oneOfBoth_14 (by decide) (fun c3 => ?_) (fun c3 => ?_)
      · -- 14 taken
        refine lv_bipush (v := -2) hx hb dX7_oneOfBoth_21 (by decide) ?_
        exact ro_iret (v := (-2)) hx hb hr hH hlocks dX7_oneOfBoth_23 (both_4 c1 c2 c3)
      · -- 14 not
        refine lv_iload_n hx hb dX7_oneOfBoth_17 rfl (lv_at hl 0 rfl) ?_
        refine lv_goto (tgt := 23) hx hb dX7_oneOfBoth_18 (by decide) ?_
        exact ro_iret (v := x) hx hb hr hH hlocks dX7_oneOfBoth_23 (both_3 c1 c3)
    · -- 7 not
      refine lv_iload_n hx hb dX7_oneOfBoth_10 rfl (lv_at hl 1 rfl) ?_
      exact ro_iret (v := y) hx hb hr hH hlocks dX7_oneOfBoth_11 (both_2 c1 c2)
set_option maxHeartbeats 4000000 in
set_option maxRecDepth 100000 in
theorem c_widens (l : Launch) (D : va_G) (G : Nat → ClassId) (H : Heap) (x : Int32) (y : Int32) : Met l yX7_widens (ww yX7_widens cX7_widens 2 (some .boolean)) (rmD 0) (roP D G H [.int x, .int y]) (vp_Si (fun r => r = bI (wdP x y))) 0 0 (fun _ => False) := by
  refine Met.ofW (cc := cX7_widens) (maxL := 2) (ret := (some .boolean)) (by decide) rfl ?_
  intro p e s m args below meth c s₁ B hml hv
  obtain ⟨rfl, hH, hK⟩ := hv
  have hx := B.exec
  have hb := B.bytes
  have hr := B.returns
  have hts : ∀ w ∈ TT, w.before _ s = true := fun w h => atoms_spec (ws := ww yX7_widens cX7_widens 2 (some .boolean)) B.pre w (List.mem_cons_of_mem _ h)
  have hown : s.vm.findClass RX7 = some m.cls := findClass_of_methodNamed B.named
  have hlocks := B.notSynchronized
  rw [hH]
  have hl := lv_entry ([.int x, .int y]) (n := 2) (Nat.le_of_ble_eq_true rfl)
  rw [lg_entry_eq]
  generalize (lg_sl ([.int x, .int y]) ++ List.replicate (2 - (lg_sl ([.int x, .int y])).length) Slot.unset).toArray = ls at hl ⊢
  have hl : lv_has ls 2 [(0, .int x), (1, .int y)] := hl
  refine lv_iload_n hx hb dX7_widens_0 rfl (lv_at hl 0 rfl) ?_
  refine lv_iconst (v := 2) hx hb dX7_widens_1 (by decide) ?_
  refine lv_icmp_lt (tgt := 25) hx hb dX7_widens_2 (by decide) (fun c1 => ?_) (fun c1 => ?_)
  · -- 2 taken
    refine lv_iconst (v := 0) hx hb dX7_widens_25 (by decide) ?_
    exact ro_zret (v := 0) hx hb hr hH hlocks dX7_widens_26 (Or.inl rfl) ((bI_f (by rw [wd_iff]; simp only [eq_true c1, not_true, not_false_iff, not_true_eq_false, not_false_eq_true, true_or, or_true, false_or, or_false, or_self, and_self, true_and, and_true, false_and, and_false, if_true, if_false])).symm)
  · -- 2 not
    refine lv_iload_n hx hb dX7_widens_5 rfl (lv_at hl 0 rfl) ?_
    refine lv_iload_n hx hb dX7_widens_6 rfl (lv_at hl 1 rfl) ?_
    refine lv_icmp_ge (tgt := 25) hx hb dX7_widens_7 (by decide) (fun c2 => ?_) (fun c2 => ?_)
    · -- 7 taken
      refine lv_iconst (v := 0) hx hb dX7_widens_25 (by decide) ?_
      exact ro_zret (v := 0) hx hb hr hH hlocks dX7_widens_26 (Or.inl rfl) ((bI_f (by rw [wd_iff]; simp only [eq_false c1, eq_true c2, not_true, not_false_iff, not_true_eq_false, not_false_eq_true, true_or, or_true, false_or, or_false, or_self, and_self, true_and, and_true, false_and, and_false, if_true, if_false])).symm)
    · -- 7 not
      refine lv_iload_n hx hb dX7_widens_10 rfl (lv_at hl 1 rfl) ?_
      refine lv_bipush (v := 8) hx hb dX7_widens_11 (by decide) ?_
      refine lv_icmp_gt (tgt := 25) hx hb dX7_widens_13 (by decide) (fun c3 => ?_) (fun c3 => ?_)
      · -- 13 taken
        refine lv_iconst (v := 0) hx hb dX7_widens_25 (by decide) ?_
        exact ro_zret (v := 0) hx hb hr hH hlocks dX7_widens_26 (Or.inl rfl) ((bI_f (by rw [wd_iff]; simp only [eq_false c1, eq_false c2, eq_true c3, not_true, not_false_iff, not_true_eq_false, not_false_eq_true, true_or, or_true, false_or, or_false, or_self, and_self, true_and, and_true, false_and, and_false, if_true, if_false])).symm)
      · -- 13 not
        refine lv_iload_n hx hb dX7_widens_16 rfl (lv_at hl 1 rfl) ?_
        refine lv_iconst (v := 4) hx hb dX7_widens_17 (by decide) ?_
        refine lv_icmp_eq (tgt := 25) hx hb dX7_widens_18 (by decide) (fun c4 => ?_) (fun c4 => ?_)
        · -- 18 taken
          refine lv_iconst (v := 0) hx hb dX7_widens_25 (by decide) ?_
          exact ro_zret (v := 0) hx hb hr hH hlocks dX7_widens_26 (Or.inl rfl) ((bI_f (by rw [wd_iff]; simp only [eq_false c1, eq_false c2, eq_false c3, eq_true c4, not_true, not_false_iff, not_true_eq_false, not_false_eq_true, true_or, or_true, false_or, or_false, or_self, and_self, true_and, and_true, false_and, and_false, if_true, if_false])).symm)
        · -- 18 not
          refine lv_iconst (v := 1) hx hb dX7_widens_21 (by decide) ?_
          refine lv_goto (tgt := 26) hx hb dX7_widens_22 (by decide) ?_
          exact ro_zret (v := 1) hx hb hr hH hlocks dX7_widens_26 (Or.inr rfl) ((bI_t (by rw [wd_iff]; simp only [eq_false c1, eq_false c2, eq_false c3, eq_false c4, not_true, not_false_iff, not_true_eq_false, not_false_eq_true, true_or, or_true, false_or, or_false, or_self, and_self, true_and, and_true, false_and, and_false, if_true, if_false])).symm)
set_option maxHeartbeats 4000000 in
set_option maxRecDepth 100000 in
theorem c_rHasAny (l : Launch) (D : va_G) (G : Nat → ClassId) (H : Heap) (mm : Int32) (of : Int32) : Met l yX5_hasAny (ww yX5_hasAny cX5_hasAny 2 (some .boolean)) (rmD 0) (roP D G H [.int mm, .int of]) (vp_Si (fun r => r = bI (¬ mm &&& of = 0))) 0 0 (fun _ => False) := by
  refine Met.ofW (cc := cX5_hasAny) (maxL := 2) (ret := (some .boolean)) (by decide) rfl ?_
  intro p e s m args below meth c s₁ B hml hv
  obtain ⟨rfl, hH, hK⟩ := hv
  have hx := B.exec
  have hb := B.bytes
  have hr := B.returns
  have hts : ∀ w ∈ TT, w.before _ s = true := fun w h => atoms_spec (ws := ww yX5_hasAny cX5_hasAny 2 (some .boolean)) B.pre w (List.mem_cons_of_mem _ h)
  have hown : s.vm.findClass RX5 = some m.cls := findClass_of_methodNamed B.named
  have hlocks := B.notSynchronized
  rw [hH]
  have hl := lv_entry ([.int mm, .int of]) (n := 2) (Nat.le_of_ble_eq_true rfl)
  rw [lg_entry_eq]
  generalize (lg_sl ([.int mm, .int of]) ++ List.replicate (2 - (lg_sl ([.int mm, .int of])).length) Slot.unset).toArray = ls at hl ⊢
  have hl : lv_has ls 2 [(0, .int mm), (1, .int of)] := hl
  refine lv_iload_n hx hb dX5_hasAny_0 rfl (lv_at hl 0 rfl) ?_
  refine lv_iload_n hx hb dX5_hasAny_1 rfl (lv_at hl 1 rfl) ?_
  refine lv_iand hx hb dX5_hasAny_2 ?_
  refine lv_if_eq (tgt := 10) hx hb dX5_hasAny_3 (by decide) (fun c1 => ?_) (fun c1 => ?_)
  · -- 3 taken
    refine lv_iconst (v := 0) hx hb dX5_hasAny_10 (by decide) ?_
    exact ro_zret (v := 0) hx hb hr hH hlocks dX5_hasAny_11 (Or.inl rfl) ((bI_f (by simp only [eq_true c1, not_true, not_false_iff, not_true_eq_false, not_false_eq_true, true_or, or_true, false_or, or_false, or_self, and_self, true_and, and_true, false_and, and_false, if_true, if_false])).symm)
  · -- 3 not
    refine lv_iconst (v := 1) hx hb dX5_hasAny_6 (by decide) ?_
    refine lv_goto (tgt := 11) hx hb dX5_hasAny_7 (by decide) ?_
    exact ro_zret (v := 1) hx hb hr hH hlocks dX5_hasAny_11 (Or.inr rfl) ((bI_t (by simp only [eq_false c1, not_true, not_false_iff, not_true_eq_false, not_false_eq_true, true_or, or_true, false_or, or_false, or_self, and_self, true_and, and_true, false_and, and_false, if_true, if_false])).symm)
set_option maxHeartbeats 4000000 in
set_option maxRecDepth 100000 in
theorem c_bitCount (l : Launch) (D : va_G) (G : Nat → ClassId) (H : Heap) (x : Int32) : Met l yJ6_bitCount_0f7a4 (ww yJ6_bitCount_0f7a4 cJ6_bitCount_0f7a4 1 (some .int)) (rmD 0) (roP D G H [.int x]) (vp_Si (fun r => r = bcF x)) 0 0 (fun _ => False) := by
  refine Met.ofW (cc := cJ6_bitCount_0f7a4) (maxL := 1) (ret := (some .int)) (by decide) rfl ?_
  intro p e s m args below meth c s₁ B hml hv
  obtain ⟨rfl, hH, hK⟩ := hv
  have hx := B.exec
  have hb := B.bytes
  have hr := B.returns
  have hts : ∀ w ∈ TT, w.before _ s = true := fun w h => atoms_spec (ws := ww yJ6_bitCount_0f7a4 cJ6_bitCount_0f7a4 1 (some .int)) B.pre w (List.mem_cons_of_mem _ h)
  have hown : s.vm.findClass RJ6 = some m.cls := findClass_of_methodNamed B.named
  have hlocks := B.notSynchronized
  rw [hH]
  have hl := lv_entry ([.int x]) (n := 1) (Nat.le_of_ble_eq_true rfl)
  rw [lg_entry_eq]
  generalize (lg_sl ([.int x]) ++ List.replicate (1 - (lg_sl ([.int x])).length) Slot.unset).toArray = ls at hl ⊢
  have hl : lv_has ls 1 [(0, .int x)] := hl
  refine lv_iload_n hx hb dJ6_bitCount_0f7a4_0 rfl (lv_at hl 0 rfl) ?_
  refine lv_iload_n hx hb dJ6_bitCount_0f7a4_1 rfl (lv_at hl 0 rfl) ?_
  refine lv_iconst (v := 1) hx hb dJ6_bitCount_0f7a4_2 (by decide) ?_
  refine lv_iushr hx hb dJ6_bitCount_0f7a4_3 rfl ?_
  refine lv_ldcw hx hb hown (hts _ q_157) dJ6_bitCount_0f7a4_4 ?_
  refine lv_iand hx hb dJ6_bitCount_0f7a4_7 ?_
  refine lv_isub hx hb dJ6_bitCount_0f7a4_8 ?_
  refine W.eq (g2 := F0 m 9 ls [.int (bc1 x)]) rfl ?_
  refine lv_istore_n (lv' := [(0, .int (bc1 x))]) hx hb dJ6_bitCount_0f7a4_9 rfl hl (by decide) rfl (fun ls hl => ?_)
  refine lv_iload_n hx hb dJ6_bitCount_0f7a4_10 rfl (lv_at hl 0 rfl) ?_
  refine lv_ldcw hx hb hown (hts _ q_158) dJ6_bitCount_0f7a4_11 ?_
  refine lv_iand hx hb dJ6_bitCount_0f7a4_14 ?_
  refine lv_iload_n hx hb dJ6_bitCount_0f7a4_15 rfl (lv_at hl 0 rfl) ?_
  refine lv_iconst (v := 2) hx hb dJ6_bitCount_0f7a4_16 (by decide) ?_
  refine lv_iushr hx hb dJ6_bitCount_0f7a4_17 rfl ?_
  refine lv_ldcw hx hb hown (hts _ q_158) dJ6_bitCount_0f7a4_18 ?_
  refine lv_iand hx hb dJ6_bitCount_0f7a4_21 ?_
  refine lv_iadd hx hb dJ6_bitCount_0f7a4_22 ?_
  refine W.eq (g2 := F0 m 23 ls [.int (bc2 (bc1 x))]) rfl ?_
  refine lv_istore_n (lv' := [(0, .int (bc2 (bc1 x)))]) hx hb dJ6_bitCount_0f7a4_23 rfl hl (by decide) rfl (fun ls hl => ?_)
  refine lv_iload_n hx hb dJ6_bitCount_0f7a4_24 rfl (lv_at hl 0 rfl) ?_
  refine lv_iload_n hx hb dJ6_bitCount_0f7a4_25 rfl (lv_at hl 0 rfl) ?_
  refine lv_iconst (v := 4) hx hb dJ6_bitCount_0f7a4_26 (by decide) ?_
  refine lv_iushr hx hb dJ6_bitCount_0f7a4_27 rfl ?_
  refine lv_iadd hx hb dJ6_bitCount_0f7a4_28 ?_
  refine lv_ldcw hx hb hown (hts _ q_159) dJ6_bitCount_0f7a4_29 ?_
  refine lv_iand hx hb dJ6_bitCount_0f7a4_32 ?_
  refine W.eq (g2 := F0 m 33 ls [.int (bc3 (bc2 (bc1 x)))]) rfl ?_
  refine lv_istore_n (lv' := [(0, .int (bc3 (bc2 (bc1 x))))]) hx hb dJ6_bitCount_0f7a4_33 rfl hl (by decide) rfl (fun ls hl => ?_)
  refine lv_iload_n hx hb dJ6_bitCount_0f7a4_34 rfl (lv_at hl 0 rfl) ?_
  refine lv_iload_n hx hb dJ6_bitCount_0f7a4_35 rfl (lv_at hl 0 rfl) ?_
  refine lv_bipush (v := 8) hx hb dJ6_bitCount_0f7a4_36 (by decide) ?_
  refine lv_iushr hx hb dJ6_bitCount_0f7a4_38 rfl ?_
  refine lv_iadd hx hb dJ6_bitCount_0f7a4_39 ?_
  refine W.eq (g2 := F0 m 40 ls [.int (bc4 (bc3 (bc2 (bc1 x))))]) rfl ?_
  refine lv_istore_n (lv' := [(0, .int (bc4 (bc3 (bc2 (bc1 x)))))]) hx hb dJ6_bitCount_0f7a4_40 rfl hl (by decide) rfl (fun ls hl => ?_)
  refine lv_iload_n hx hb dJ6_bitCount_0f7a4_41 rfl (lv_at hl 0 rfl) ?_
  refine lv_iload_n hx hb dJ6_bitCount_0f7a4_42 rfl (lv_at hl 0 rfl) ?_
  refine lv_bipush (v := 16) hx hb dJ6_bitCount_0f7a4_43 (by decide) ?_
  refine lv_iushr hx hb dJ6_bitCount_0f7a4_45 rfl ?_
  refine lv_iadd hx hb dJ6_bitCount_0f7a4_46 ?_
  refine W.eq (g2 := F0 m 47 ls [.int (bc5 (bc4 (bc3 (bc2 (bc1 x)))))]) rfl ?_
  refine lv_istore_n (lv' := [(0, .int (bc5 (bc4 (bc3 (bc2 (bc1 x))))))]) hx hb dJ6_bitCount_0f7a4_47 rfl hl (by decide) rfl (fun ls hl => ?_)
  refine lv_iload_n hx hb dJ6_bitCount_0f7a4_48 rfl (lv_at hl 0 rfl) ?_
  refine lv_bipush (v := 63) hx hb dJ6_bitCount_0f7a4_49 (by decide) ?_
  refine lv_iand hx hb dJ6_bitCount_0f7a4_51 ?_
  exact ro_iret (v := (bc5 (bc4 (bc3 (bc2 (bc1 x))))) &&& 63) hx hb hr hH hlocks dJ6_bitCount_0f7a4_52 (rfl)
set_option maxHeartbeats 4000000 in
set_option maxRecDepth 100000 in
theorem c_hasSeveral (l : Launch) (D : va_G) (G : Nat → ClassId) (H : Heap) (mm : Int32) (of : Int32) : Met l yX5_hasSeveral (ww yX5_hasSeveral cX5_hasSeveral 2 (some .boolean)) (rmD 1) (roP D G H [.int mm, .int of]) (vp_Si (fun r => r = bI (¬ bcF (mm &&& of) ≤ 1))) 0 0 (fun _ => False) := by
  refine Met.ofW (cc := cX5_hasSeveral) (maxL := 2) (ret := (some .boolean)) (by decide) rfl ?_
  intro p e s m args below meth c s₁ B hml hv
  obtain ⟨rfl, hH, hK⟩ := hv
  have hx := B.exec
  have hb := B.bytes
  have hr := B.returns
  have hts : ∀ w ∈ TT, w.before _ s = true := fun w h => atoms_spec (ws := ww yX5_hasSeveral cX5_hasSeveral 2 (some .boolean)) B.pre w (List.mem_cons_of_mem _ h)
  have hown : s.vm.findClass RX5 = some m.cls := findClass_of_methodNamed B.named
  have hlocks := B.notSynchronized
  rw [hH]
  have hl := lv_entry ([.int mm, .int of]) (n := 2) (Nat.le_of_ble_eq_true rfl)
  rw [lg_entry_eq]
  generalize (lg_sl ([.int mm, .int of]) ++ List.replicate (2 - (lg_sl ([.int mm, .int of])).length) Slot.unset).toArray = ls at hl ⊢
  have hl : lv_has ls 2 [(0, .int mm), (1, .int of)] := hl
  refine lv_iload_n hx hb dX5_hasSeveral_0 rfl (lv_at hl 0 rfl) ?_
  refine lv_iload_n hx hb dX5_hasSeveral_1 rfl (lv_at hl 1 rfl) ?_
  refine lv_iand hx hb dX5_hasSeveral_2 ?_
  refine ro_Si (D := D) (G := G) (As := [.int (mm &&& of)]) (rest := []) ⟨hx, hb, hml, hown, hts⟩ (c_bitCount l D G _ (mm &&& of)) gS_X5_J6_bitCount_0f7a4 hdS_J6_bitCount_0f7a4 ⟨Nat.le_of_ble_eq_true rfl, Nat.le_of_ble_eq_true rfl⟩ hK rfl hl.1 rfl (Nat.le_of_ble_eq_true rfl) dX5_hasSeveral_3 ⟨Nat.le_of_ble_eq_true rfl, Nat.le_of_ble_eq_true rfl⟩ (fun r1 e_r1 => ?_)
  subst e_r1
  refine lv_iconst (v := 1) hx hb dX5_hasSeveral_6 (by decide) ?_
  refine lv_icmp_le (tgt := 14) hx hb dX5_hasSeveral_7 (by decide) (fun c2 => ?_) (fun c2 => ?_)
  · -- 7 taken
    refine lv_iconst (v := 0) hx hb dX5_hasSeveral_14 (by decide) ?_
    exact ro_zret (v := 0) hx hb hr hH hlocks dX5_hasSeveral_15 (Or.inl rfl) ((bI_f (by simp only [eq_true c2, not_true, not_false_iff, not_true_eq_false, not_false_eq_true, true_or, or_true, false_or, or_false, or_self, and_self, true_and, and_true, false_and, and_false, if_true, if_false])).symm)
  · -- 7 not
    refine lv_iconst (v := 1) hx hb dX5_hasSeveral_10 (by decide) ?_
    refine lv_goto (tgt := 15) hx hb dX5_hasSeveral_11 (by decide) ?_
    exact ro_zret (v := 1) hx hb hr hH hlocks dX5_hasSeveral_15 (Or.inr rfl) ((bI_t (by simp only [eq_false c2, not_true, not_false_iff, not_true_eq_false, not_false_eq_true, true_or, or_true, false_or, or_false, or_self, and_self, true_and, and_true, false_and, and_false, if_true, if_false])).symm)
set_option maxHeartbeats 4000000 in
set_option maxRecDepth 100000 in
theorem c_ofField (l : Launch) (D : va_G) (G : Nat → ClassId) (H : Heap) (kind : Int32) (mm : Int32) (ff : Int32) : Met l yX5_ofField (ww yX5_ofField cX5_ofField 4 (some .int)) (rmD 2) (roP D G H [.int kind, .int mm, .int ff]) (vp_Si (fun r => r = rfF kind mm ff)) 0 0 (fun _ => False) := by
  refine Met.ofW (cc := cX5_ofField) (maxL := 4) (ret := (some .int)) (by decide) rfl ?_
  intro p e s m args below meth c s₁ B hml hv
  obtain ⟨rfl, hH, hK⟩ := hv
  have hx := B.exec
  have hb := B.bytes
  have hr := B.returns
  have hts : ∀ w ∈ TT, w.before _ s = true := fun w h => atoms_spec (ws := ww yX5_ofField cX5_ofField 4 (some .int)) B.pre w (List.mem_cons_of_mem _ h)
  have hown : s.vm.findClass RX5 = some m.cls := findClass_of_methodNamed B.named
  have hlocks := B.notSynchronized
  rw [hH]
  have hl := lv_entry ([.int kind, .int mm, .int ff]) (n := 4) (Nat.le_of_ble_eq_true rfl)
  rw [lg_entry_eq]
  generalize (lg_sl ([.int kind, .int mm, .int ff]) ++ List.replicate (4 - (lg_sl ([.int kind, .int mm, .int ff])).length) Slot.unset).toArray = ls at hl ⊢
  have hl : lv_has ls 4 [(0, .int kind), (1, .int mm), (2, .int ff)] := hl
  refine lv_bipush (v := 127) hx hb dX5_ofField_0 (by decide) ?_
  refine lv_istore_n (lv' := [(3, .int 127), (0, .int kind), (1, .int mm), (2, .int ff)]) hx hb dX5_ofField_2 rfl hl (by decide) rfl (fun ls hl => ?_)
  refine lv_iload_n hx hb dX5_ofField_3 rfl (lv_at hl 2 rfl) ?_
  refine lv_iload_n hx hb dX5_ofField_4 rfl (lv_at hl 0 rfl) ?_
  refine lv_iconst (v := -1) hx hb dX5_ofField_5 (by decide) ?_
  refine lv_ixor hx hb dX5_ofField_6 ?_
  refine lv_iand hx hb dX5_ofField_7 ?_
  refine lv_if_eq (tgt := 13) hx hb dX5_ofField_8 (by decide) (fun c1 => ?_) (fun c1 => ?_)
  · -- 8 taken
    refine lv_iload_n hx hb dX5_ofField_13 rfl (lv_at hl 2 rfl) ?_
    refine lv_bipush (v := 7) hx hb dX5_ofField_14 (by decide) ?_
    refine ro_Si (D := D) (G := G) (As := [.int mm, .int 7]) (rest := []) ⟨hx, hb, hml, hown, hts⟩ (c_hasSeveral l D G _ mm 7) gS_X5_X5_hasSeveral hdS_X5_hasSeveral ⟨Nat.le_of_ble_eq_true rfl, Nat.le_of_ble_eq_true rfl⟩ hK rfl hl.1 rfl (Nat.le_of_ble_eq_true rfl) dX5_ofField_16 ⟨Nat.le_of_ble_eq_true rfl, Nat.le_of_ble_eq_true rfl⟩ (fun r2 e_r2 => ?_)
    subst e_r2
    refine lv_if_eq (tgt := 24) hx hb dX5_ofField_19 (by decide) (fun c3 => ?_) (fun c3 => ?_)
    · -- 19 taken
      have c3 := bI_0 c3
      refine lv_iload_n hx hb dX5_ofField_24 rfl (lv_at hl 2 rfl) ?_
      refine lv_bipush (v := 48) hx hb dX5_ofField_25 (by decide) ?_
      refine ro_Si (D := D) (G := G) (As := [.int mm, .int 48]) (rest := []) ⟨hx, hb, hml, hown, hts⟩ (c_hasSeveral l D G _ mm 48) gS_X5_X5_hasSeveral hdS_X5_hasSeveral ⟨Nat.le_of_ble_eq_true rfl, Nat.le_of_ble_eq_true rfl⟩ hK rfl hl.1 rfl (Nat.le_of_ble_eq_true rfl) dX5_ofField_27 ⟨Nat.le_of_ble_eq_true rfl, Nat.le_of_ble_eq_true rfl⟩ (fun r4 e_r4 => ?_)
      subst e_r4
      refine lv_if_eq (tgt := 35) hx hb dX5_ofField_30 (by decide) (fun c5 => ?_) (fun c5 => ?_)
      · -- 30 taken
        have c5 := bI_0 c5
        refine lv_iload_n hx hb dX5_ofField_35 rfl (lv_at hl 3 rfl) ?_
        refine lv_if_eq (tgt := 48) hx hb dX5_ofField_36 (by decide) (fun c6 => ?_) (fun c6 => ?_)
        · -- 36 taken
          refine lv_iload_n hx hb dX5_ofField_48 rfl (lv_at hl 1 rfl) ?_
          refine lv_if_ne (tgt := 56) hx hb dX5_ofField_49 (by decide) (fun c7 => ?_) (fun c7 => ?_)
          · -- 49 taken
            refine lv_iconst (v := 0) hx hb dX5_ofField_56 (by decide) ?_
            exact ro_iret (v := 0) hx hb hr hH hlocks dX5_ofField_57 (by unfold rfF; simp only [eq_true c1, eq_true (Decidable.of_not_not c3), eq_true (Decidable.of_not_not c5), eq_true c6, eq_false c7, not_true, not_false_iff, not_true_eq_false, not_false_eq_true, true_or, or_true, false_or, or_false, or_self, and_self, true_and, and_true, false_and, and_false, if_true, if_false])
          · -- 49 not
            refine lv_iconst (v := 5) hx hb dX5_ofField_52 (by decide) ?_
            refine lv_goto (tgt := 57) hx hb dX5_ofField_53 (by decide) ?_
            exact ro_iret (v := 5) hx hb hr hH hlocks dX5_ofField_57 (by unfold rfF; simp only [eq_true c1, eq_true (Decidable.of_not_not c3), eq_true (Decidable.of_not_not c5), eq_true c6, eq_true c7, not_true, not_false_iff, not_true_eq_false, not_false_eq_true, true_or, or_true, false_or, or_false, or_self, and_self, true_and, and_true, false_and, and_false, if_true, if_false])
        · -- 36 not
          refine lv_iload_n hx hb dX5_ofField_39 rfl (lv_at hl 2 rfl) ?_
          refine lv_bipush (v := -26) hx hb dX5_ofField_40 (by decide) ?_
          refine lv_iand hx hb dX5_ofField_42 ?_
          refine lv_if_eq (tgt := 48) hx hb dX5_ofField_43 (by decide) (fun c8 => ?_) (fun c8 => ?_)
          · -- 43 taken
            refine lv_iload_n hx hb dX5_ofField_48 rfl (lv_at hl 1 rfl) ?_
            refine lv_if_ne (tgt := 56) hx hb dX5_ofField_49 (by decide) (fun c9 => ?_) (fun c9 => ?_)
            · -- 49 taken
              refine lv_iconst (v := 0) hx hb dX5_ofField_56 (by decide) ?_
              exact ro_iret (v := 0) hx hb hr hH hlocks dX5_ofField_57 (by unfold rfF; simp only [eq_true c1, eq_true (Decidable.of_not_not c3), eq_true (Decidable.of_not_not c5), eq_false c6, eq_true c8, eq_false c9, not_true, not_false_iff, not_true_eq_false, not_false_eq_true, true_or, or_true, false_or, or_false, or_self, and_self, true_and, and_true, false_and, and_false, if_true, if_false])
            · -- 49 not
              refine lv_iconst (v := 5) hx hb dX5_ofField_52 (by decide) ?_
              refine lv_goto (tgt := 57) hx hb dX5_ofField_53 (by decide) ?_
              exact ro_iret (v := 5) hx hb hr hH hlocks dX5_ofField_57 (by unfold rfF; simp only [eq_true c1, eq_true (Decidable.of_not_not c3), eq_true (Decidable.of_not_not c5), eq_false c6, eq_true c8, eq_true c9, not_true, not_false_iff, not_true_eq_false, not_false_eq_true, true_or, or_true, false_or, or_false, or_self, and_self, true_and, and_true, false_and, and_false, if_true, if_false])
          · -- 43 not
            refine lv_iconst (v := 4) hx hb dX5_ofField_46 (by decide) ?_
            exact ro_iret (v := 4) hx hb hr hH hlocks dX5_ofField_47 (by unfold rfF; simp only [eq_true c1, eq_true (Decidable.of_not_not c3), eq_true (Decidable.of_not_not c5), eq_false c6, eq_false c8, not_true, not_false_iff, not_true_eq_false, not_false_eq_true, true_or, or_true, false_or, or_false, or_self, and_self, true_and, and_true, false_and, and_false, if_true, if_false])
      · -- 30 not
        have c5 := bI_1 c5
        refine lv_iconst (v := 3) hx hb dX5_ofField_33 (by decide) ?_
        exact ro_iret (v := 3) hx hb hr hH hlocks dX5_ofField_34 (by unfold rfF; simp only [eq_true c1, eq_true (Decidable.of_not_not c3), eq_false c5, not_true, not_false_iff, not_true_eq_false, not_false_eq_true, true_or, or_true, false_or, or_false, or_self, and_self, true_and, and_true, false_and, and_false, if_true, if_false])
    · -- 19 not
      have c3 := bI_1 c3
      refine lv_iconst (v := 2) hx hb dX5_ofField_22 (by decide) ?_
      exact ro_iret (v := 2) hx hb hr hH hlocks dX5_ofField_23 (by unfold rfF; simp only [eq_true c1, eq_false c3, not_true, not_false_iff, not_true_eq_false, not_false_eq_true, true_or, or_true, false_or, or_false, or_self, and_self, true_and, and_true, false_and, and_false, if_true, if_false])
  · -- 8 not
    refine lv_iconst (v := 1) hx hb dX5_ofField_11 (by decide) ?_
    exact ro_iret (v := 1) hx hb hr hH hlocks dX5_ofField_12 (by unfold rfF; simp only [eq_false c1, not_true, not_false_iff, not_true_eq_false, not_false_eq_true, true_or, or_true, false_or, or_false, or_self, and_self, true_and, and_true, false_and, and_false, if_true, if_false])
set_option maxHeartbeats 4000000 in
set_option maxRecDepth 100000 in
theorem c_ofAnyMember (l : Launch) (D : va_G) (G : Nat → ClassId) (H : Heap) (mm : Int32) : Met l yX5_ofAnyMember (ww yX5_ofAnyMember cX5_ofAnyMember 1 (some .int)) (rmD 2) (roP D G H [.int mm]) (vp_Si (fun r => r = raF mm)) 0 0 (fun _ => False) := by
  refine Met.ofW (cc := cX5_ofAnyMember) (maxL := 1) (ret := (some .int)) (by decide) rfl ?_
  intro p e s m args below meth c s₁ B hml hv
  obtain ⟨rfl, hH, hK⟩ := hv
  have hx := B.exec
  have hb := B.bytes
  have hr := B.returns
  have hts : ∀ w ∈ TT, w.before _ s = true := fun w h => atoms_spec (ws := ww yX5_ofAnyMember cX5_ofAnyMember 1 (some .int)) B.pre w (List.mem_cons_of_mem _ h)
  have hown : s.vm.findClass RX5 = some m.cls := findClass_of_methodNamed B.named
  have hlocks := B.notSynchronized
  rw [hH]
  have hl := lv_entry ([.int mm]) (n := 1) (Nat.le_of_ble_eq_true rfl)
  rw [lg_entry_eq]
  generalize (lg_sl ([.int mm]) ++ List.replicate (1 - (lg_sl ([.int mm])).length) Slot.unset).toArray = ls at hl ⊢
  have hl : lv_has ls 1 [(0, .int mm)] := hl
  refine lv_iload_n hx hb dX5_ofAnyMember_0 rfl (lv_at hl 0 rfl) ?_
  refine lv_bipush (v := 96) hx hb dX5_ofAnyMember_1 (by decide) ?_
  refine ro_Si (D := D) (G := G) (As := [.int mm, .int 96]) (rest := []) ⟨hx, hb, hml, hown, hts⟩ (c_rHasAny l D G _ mm 96) gS_X5_X5_hasAny hdS_X5_hasAny ⟨Nat.le_of_ble_eq_true rfl, Nat.le_of_ble_eq_true rfl⟩ hK rfl hl.1 rfl (Nat.le_of_ble_eq_true rfl) dX5_ofAnyMember_3 ⟨Nat.le_of_ble_eq_true rfl, Nat.le_of_ble_eq_true rfl⟩ (fun r1 e_r1 => ?_)
  subst e_r1
  refine lv_if_eq (tgt := 12) hx hb dX5_ofAnyMember_6 (by decide) (fun c2 => ?_) (fun c2 => ?_)
  · -- 6 taken
    have c2 := bI_0 c2
    refine lv_iload_n hx hb dX5_ofAnyMember_12 rfl (lv_at hl 0 rfl) ?_
    refine lv_bipush (v := 7) hx hb dX5_ofAnyMember_13 (by decide) ?_
    refine ro_Si (D := D) (G := G) (As := [.int mm, .int 7]) (rest := []) ⟨hx, hb, hml, hown, hts⟩ (c_hasSeveral l D G _ mm 7) gS_X5_X5_hasSeveral hdS_X5_hasSeveral ⟨Nat.le_of_ble_eq_true rfl, Nat.le_of_ble_eq_true rfl⟩ hK rfl hl.1 rfl (Nat.le_of_ble_eq_true rfl) dX5_ofAnyMember_15 ⟨Nat.le_of_ble_eq_true rfl, Nat.le_of_ble_eq_true rfl⟩ (fun r3 e_r3 => ?_)
    subst e_r3
    refine lv_if_eq (tgt := 26) hx hb dX5_ofAnyMember_18 (by decide) (fun c4 => ?_) (fun c4 => ?_)
    · -- 18 taken
      have c4 := bI_0 c4
      refine lv_iconst (v := 0) hx hb dX5_ofAnyMember_26 (by decide) ?_
      exact ro_iret (v := 0) hx hb hr hH hlocks dX5_ofAnyMember_27 (by unfold raF; simp only [eq_true (Decidable.of_not_not c2), eq_true (Decidable.of_not_not c4), not_true, not_false_iff, not_true_eq_false, not_false_eq_true, true_or, or_true, false_or, or_false, or_self, and_self, true_and, and_true, false_and, and_false, if_true, if_false])
    · -- 18 not
      have c4 := bI_1 c4
      refine lv_bipush (v := 12) hx hb dX5_ofAnyMember_21 (by decide) ?_
      refine lv_goto (tgt := 27) hx hb dX5_ofAnyMember_23 (by decide) ?_
      exact ro_iret (v := 12) hx hb hr hH hlocks dX5_ofAnyMember_27 (by unfold raF; simp only [eq_true (Decidable.of_not_not c2), eq_false c4, not_true, not_false_iff, not_true_eq_false, not_false_eq_true, true_or, or_true, false_or, or_false, or_self, and_self, true_and, and_true, false_and, and_false, if_true, if_false])
  · -- 6 not
    have c2 := bI_1 c2
    refine lv_bipush (v := 11) hx hb dX5_ofAnyMember_9 (by decide) ?_
    exact ro_iret (v := 11) hx hb hr hH hlocks dX5_ofAnyMember_11 (by unfold raF; simp only [eq_false c2, not_true, not_false_iff, not_true_eq_false, not_false_eq_true, true_or, or_true, false_or, or_false, or_self, and_self, true_and, and_true, false_and, and_false, if_true, if_false])
set_option maxHeartbeats 4000000 in
set_option maxRecDepth 100000 in
theorem c_ofBody (l : Launch) (D : va_G) (G : Nat → ClassId) (H : Heap) (bd : Int32) (wo : Int32) : Met l yX5_ofBody (ww yX5_ofBody cX5_ofBody 2 (some .int)) (rmD 0) (roP D G H [.int bd, .int wo]) (vp_Si (fun r => r = rbF bd wo)) 0 0 (fun _ => False) := by
  refine Met.ofW (cc := cX5_ofBody) (maxL := 2) (ret := (some .int)) (by decide) rfl ?_
  intro p e s m args below meth c s₁ B hml hv
  obtain ⟨rfl, hH, hK⟩ := hv
  have hx := B.exec
  have hb := B.bytes
  have hr := B.returns
  have hts : ∀ w ∈ TT, w.before _ s = true := fun w h => atoms_spec (ws := ww yX5_ofBody cX5_ofBody 2 (some .int)) B.pre w (List.mem_cons_of_mem _ h)
  have hown : s.vm.findClass RX5 = some m.cls := findClass_of_methodNamed B.named
  have hlocks := B.notSynchronized
  rw [hH]
  have hl := lv_entry ([.int bd, .int wo]) (n := 2) (Nat.le_of_ble_eq_true rfl)
  rw [lg_entry_eq]
  generalize (lg_sl ([.int bd, .int wo]) ++ List.replicate (2 - (lg_sl ([.int bd, .int wo])).length) Slot.unset).toArray = ls at hl ⊢
  have hl : lv_has ls 2 [(0, .int bd), (1, .int wo)] := hl
  refine lv_iload_n hx hb dX5_ofBody_0 rfl (lv_at hl 0 rfl) ?_
  refine lv_iload_n hx hb dX5_ofBody_1 rfl (lv_at hl 1 rfl) ?_
  refine lv_icmp_ne (tgt := 17) hx hb dX5_ofBody_2 (by decide) (fun c1 => ?_) (fun c1 => ?_)
  · -- 2 taken
    refine lv_iconst (v := 0) hx hb dX5_ofBody_17 (by decide) ?_
    exact ro_iret (v := 0) hx hb hr hH hlocks dX5_ofBody_18 (by unfold rbF; simp only [eq_false c1, not_true, not_false_iff, not_true_eq_false, not_false_eq_true, true_or, or_true, false_or, or_false, or_self, and_self, true_and, and_true, false_and, and_false, if_true, if_false])
  · -- 2 not
    refine lv_iload_n hx hb dX5_ofBody_5 rfl (lv_at hl 0 rfl) ?_
    refine lv_if_eq (tgt := 14) hx hb dX5_ofBody_6 (by decide) (fun c2 => ?_) (fun c2 => ?_)
    · -- 6 taken
      refine lv_bipush (v := 17) hx hb dX5_ofBody_14 (by decide) ?_
      exact ro_iret (v := 17) hx hb hr hH hlocks dX5_ofBody_16 (by unfold rbF; simp only [eq_true c1, eq_true c2, not_true, not_false_iff, not_true_eq_false, not_false_eq_true, true_or, or_true, false_or, or_false, or_self, and_self, true_and, and_true, false_and, and_false, if_true, if_false])
    · -- 6 not
      refine lv_bipush (v := 16) hx hb dX5_ofBody_9 (by decide) ?_
      refine lv_goto (tgt := 16) hx hb dX5_ofBody_11 (by decide) ?_
      exact ro_iret (v := 16) hx hb hr hH hlocks dX5_ofBody_16 (by unfold rbF; simp only [eq_true c1, eq_false c2, not_true, not_false_iff, not_true_eq_false, not_false_eq_true, true_or, or_true, false_or, or_false, or_self, and_self, true_and, and_true, false_and, and_false, if_true, if_false])
set_option maxHeartbeats 4000000 in
set_option maxRecDepth 100000 in
theorem c_ofFaceMember (l : Launch) (D : va_G) (G : Nat → ClassId) (H : Heap) (mm : Int32) (bd : Int32) : Met l yX5_ofFaceMember (ww yX5_ofFaceMember cX5_ofFaceMember 4 (some .int)) (rmD 3) (roP D G H [.int mm, .int bd]) (vp_Si (fun r => r = rmfF mm bd)) 0 0 (fun _ => False) := by
  refine Met.ofW (cc := cX5_ofFaceMember) (maxL := 4) (ret := (some .int)) (by decide) rfl ?_
  intro p e s m args below meth c s₁ B hml hv
  obtain ⟨rfl, hH, hK⟩ := hv
  have hx := B.exec
  have hb := B.bytes
  have hr := B.returns
  have hts : ∀ w ∈ TT, w.before _ s = true := fun w h => atoms_spec (ws := ww yX5_ofFaceMember cX5_ofFaceMember 4 (some .int)) B.pre w (List.mem_cons_of_mem _ h)
  have hown : s.vm.findClass RX5 = some m.cls := findClass_of_methodNamed B.named
  have hlocks := B.notSynchronized
  rw [hH]
  have hl := lv_entry ([.int mm, .int bd]) (n := 4) (Nat.le_of_ble_eq_true rfl)
  rw [lg_entry_eq]
  generalize (lg_sl ([.int mm, .int bd]) ++ List.replicate (4 - (lg_sl ([.int mm, .int bd])).length) Slot.unset).toArray = ls at hl ⊢
  have hl : lv_has ls 4 [(0, .int mm), (1, .int bd)] := hl
  refine lv_iload_n hx hb dX5_ofFaceMember_0 rfl (lv_at hl 0 rfl) ?_
  refine ro_Si (D := D) (G := G) (As := [.int mm]) (rest := []) ⟨hx, hb, hml, hown, hts⟩ (c_ofAnyMember l D G _ mm) gS_X5_X5_ofAnyMember hdS_X5_ofAnyMember ⟨Nat.le_of_ble_eq_true rfl, Nat.le_of_ble_eq_true rfl⟩ hK rfl hl.1 rfl (Nat.le_of_ble_eq_true rfl) dX5_ofFaceMember_1 ⟨Nat.le_of_ble_eq_true rfl, Nat.le_of_ble_eq_true rfl⟩ (fun r1 e_r1 => ?_)
  subst e_r1
  refine lv_istore_n (lv' := [(2, .int (raF mm)), (0, .int mm), (1, .int bd)]) hx hb dX5_ofFaceMember_4 rfl hl (by decide) rfl (fun ls hl => ?_)
  refine lv_iload_n hx hb dX5_ofFaceMember_5 rfl (lv_at hl 0 rfl) ?_
  refine lv_if_eq (tgt := 11) hx hb dX5_ofFaceMember_6 (by decide) (fun c2 => ?_) (fun c2 => ?_)
  · -- 6 taken
    refine w_join (P := fun b9 => b9 = bI (barP mm)) 54 (ls := ls) (rest := []) (fun b4 e_b4 => ?_) (fun J3 => ?_)
    · -- behind the meeting at 54
      subst e_b4
      refine lv_istore_n (lv' := [(3, .int (bI (barP mm))), (2, .int (raF mm)), (0, .int mm), (1, .int bd)]) hx hb dX5_ofFaceMember_54 rfl hl (by decide) rfl (fun ls hl => ?_)
      refine lv_iload_n hx hb dX5_ofFaceMember_55 rfl (lv_at hl 0 rfl) ?_
      refine lv_if_eq (tgt := 64) hx hb dX5_ofFaceMember_56 (by decide) (fun c5 => ?_) (fun c5 => ?_)
      · -- 56 taken
        have c5 := bI_0 c5
        refine lv_iload_n hx hb dX5_ofFaceMember_64 rfl (lv_at hl 3 rfl) ?_
        refine w_join (P := fun b9 => b9 = bI (¬ ¬ mm &&& 1036 = 0)) 80 (ls := ls) (rest := [.int bd]) (fun b7 e_b7 => ?_) (fun J6 => ?_)
        · -- behind the meeting at 80
          subst e_b7
          refine ro_Si (D := D) (G := G) (As := [.int bd, .int (bI (¬ ¬ mm &&& 1036 = 0))]) (rest := []) ⟨hx, hb, hml, hown, hts⟩ (c_ofBody l D G _ bd (bI (¬ ¬ mm &&& 1036 = 0))) gS_X5_X5_ofBody hdS_X5_ofBody ⟨Nat.le_of_ble_eq_true rfl, Nat.le_of_ble_eq_true rfl⟩ hK rfl hl.1 rfl (Nat.le_of_ble_eq_true rfl) dX5_ofFaceMember_80 ⟨Nat.le_of_ble_eq_true rfl, Nat.le_of_ble_eq_true rfl⟩ (fun r8 e_r8 => ?_)
          subst e_r8
          exact ro_iret (v := rbF bd (bI (¬ ¬ mm &&& 1036 = 0))) hx hb hr hH hlocks dX5_ofFaceMember_83 (by unfold rmfF; simp only [eq_true c2, eq_false c5, not_true, not_false_iff, not_true_eq_false, not_false_eq_true, true_or, or_true, false_or, or_false, or_self, and_self, true_and, and_true, false_and, and_false, if_true, if_false])
        · -- up to the meeting at 80
          refine lv_iload_n hx hb dX5_ofFaceMember_65 rfl (lv_at hl 2 rfl) ?_
          refine lv_sipush (v := 1036) hx hb dX5_ofFaceMember_66 (by decide) ?_
          refine ro_Si (D := D) (G := G) (As := [.int mm, .int 1036]) (rest := [.int bd]) ⟨hx, hb, hml, hown, hts⟩ (c_rHasAny l D G _ mm 1036) gS_X5_X5_hasAny hdS_X5_hasAny ⟨Nat.le_of_ble_eq_true rfl, Nat.le_of_ble_eq_true rfl⟩ hK rfl hl.1 rfl (Nat.le_of_ble_eq_true rfl) dX5_ofFaceMember_69 ⟨Nat.le_of_ble_eq_true rfl, Nat.le_of_ble_eq_true rfl⟩ (fun r9 e_r9 => ?_)
          subst e_r9
          refine lv_if_ne (tgt := 79) hx hb dX5_ofFaceMember_72 (by decide) (fun c10 => ?_) (fun c10 => ?_)
          · -- 72 taken
            have c10 := bI_1 c10
            refine lv_iconst (v := 0) hx hb dX5_ofFaceMember_79 (by decide) ?_
            exact J6 0 ((bI_f (by simp only [eq_true c2, eq_false c5, eq_false c10, not_true, not_false_iff, not_true_eq_false, not_false_eq_true, true_or, or_true, false_or, or_false, or_self, and_self, true_and, and_true, false_and, and_false, if_true, if_false])).symm)
          · -- 72 not
            have c10 := bI_0 c10
            refine lv_iconst (v := 1) hx hb dX5_ofFaceMember_75 (by decide) ?_
            refine lv_goto (tgt := 80) hx hb dX5_ofFaceMember_76 (by decide) ?_
            exact J6 1 ((bI_t (by simp only [eq_true c2, eq_false c5, eq_true (Decidable.of_not_not c10), not_true, not_false_iff, not_true_eq_false, not_false_eq_true, true_or, or_true, false_or, or_false, or_self, and_self, true_and, and_true, false_and, and_false, if_true, if_false])).symm)
      · -- 56 not
        have c5 := bI_1 c5
        refine lv_bipush (v := 13) hx hb dX5_ofFaceMember_59 (by decide) ?_
        refine lv_goto (tgt := 83) hx hb dX5_ofFaceMember_61 (by decide) ?_
        exact ro_iret (v := 13) hx hb hr hH hlocks dX5_ofFaceMember_83 (by unfold rmfF; simp only [eq_true c2, eq_true c5, not_true, not_false_iff, not_true_eq_false, not_false_eq_true, true_or, or_true, false_or, or_false, or_self, and_self, true_and, and_true, false_and, and_false, if_true, if_false])
    · -- up to the meeting at 54
      refine lv_iload_n hx hb dX5_ofFaceMember_11 rfl (lv_at hl 1 rfl) ?_
      refine lv_sipush (v := 786) hx hb dX5_ofFaceMember_12 (by decide) ?_
      refine ro_Si (D := D) (G := G) (As := [.int mm, .int 786]) (rest := []) ⟨hx, hb, hml, hown, hts⟩ (c_rHasAny l D G _ mm 786) gS_X5_X5_hasAny hdS_X5_hasAny ⟨Nat.le_of_ble_eq_true rfl, Nat.le_of_ble_eq_true rfl⟩ hK rfl hl.1 rfl (Nat.le_of_ble_eq_true rfl) dX5_ofFaceMember_15 ⟨Nat.le_of_ble_eq_true rfl, Nat.le_of_ble_eq_true rfl⟩ (fun r11 e_r11 => ?_)
      subst e_r11
      refine lv_if_ne (tgt := 49) hx hb dX5_ofFaceMember_18 (by decide) (fun c12 => ?_) (fun c12 => ?_)
      · -- 18 taken
        have c12 := bI_1 c12
        refine lv_iconst (v := 1) hx hb dX5_ofFaceMember_49 (by decide) ?_
        refine lv_goto (tgt := 54) hx hb dX5_ofFaceMember_50 (by decide) ?_
        exact J3 1 ((bI_t (by rw [barP_def]; simp only [eq_true c2, eq_false c12, not_true, not_false_iff, not_true_eq_false, not_false_eq_true, true_or, or_true, false_or, or_false, or_self, and_self, true_and, and_true, false_and, and_false, if_true, if_false])).symm)
      · -- 18 not
        have c12 := bI_0 c12
        refine lv_iload_n hx hb dX5_ofFaceMember_21 rfl (lv_at hl 1 rfl) ?_
        refine lv_sipush (v := 1160) hx hb dX5_ofFaceMember_22 (by decide) ?_
        refine ro_Si (D := D) (G := G) (As := [.int mm, .int 1160]) (rest := []) ⟨hx, hb, hml, hown, hts⟩ (c_hasSeveral l D G _ mm 1160) gS_X5_X5_hasSeveral hdS_X5_hasSeveral ⟨Nat.le_of_ble_eq_true rfl, Nat.le_of_ble_eq_true rfl⟩ hK rfl hl.1 rfl (Nat.le_of_ble_eq_true rfl) dX5_ofFaceMember_25 ⟨Nat.le_of_ble_eq_true rfl, Nat.le_of_ble_eq_true rfl⟩ (fun r13 e_r13 => ?_)
        subst e_r13
        refine lv_if_ne (tgt := 49) hx hb dX5_ofFaceMember_28 (by decide) (fun c14 => ?_) (fun c14 => ?_)
        · -- 28 taken
          have c14 := bI_1 c14
          refine lv_iconst (v := 1) hx hb dX5_ofFaceMember_49 (by decide) ?_
          refine lv_goto (tgt := 54) hx hb dX5_ofFaceMember_50 (by decide) ?_
          exact J3 1 ((bI_t (by rw [barP_def]; simp only [eq_true c2, eq_true (Decidable.of_not_not c12), eq_false c14, not_true, not_false_iff, not_true_eq_false, not_false_eq_true, true_or, or_true, false_or, or_false, or_self, and_self, true_and, and_true, false_and, and_false, if_true, if_false])).symm)
        · -- 28 not
          have c14 := bI_0 c14
          refine lv_iload_n hx hb dX5_ofFaceMember_31 rfl (lv_at hl 1 rfl) ?_
          refine lv_iconst (v := 4) hx hb dX5_ofFaceMember_32 (by decide) ?_
          refine ro_Si (D := D) (G := G) (As := [.int mm, .int 4]) (rest := []) ⟨hx, hb, hml, hown, hts⟩ (c_rHasAny l D G _ mm 4) gS_X5_X5_hasAny hdS_X5_hasAny ⟨Nat.le_of_ble_eq_true rfl, Nat.le_of_ble_eq_true rfl⟩ hK rfl hl.1 rfl (Nat.le_of_ble_eq_true rfl) dX5_ofFaceMember_33 ⟨Nat.le_of_ble_eq_true rfl, Nat.le_of_ble_eq_true rfl⟩ (fun r15 e_r15 => ?_)
          subst e_r15
          refine lv_if_eq (tgt := 53) hx hb dX5_ofFaceMember_36 (by decide) (fun c16 => ?_) (fun c16 => ?_)
          · -- 36 taken
            have c16 := bI_0 c16
            refine lv_iconst (v := 0) hx hb dX5_ofFaceMember_53 (by decide) ?_
            exact J3 0 ((bI_f (by rw [barP_def]; simp only [eq_true c2, eq_true (Decidable.of_not_not c12), eq_true (Decidable.of_not_not c14), eq_true (Decidable.of_not_not c16), not_true, not_false_iff, not_true_eq_false, not_false_eq_true, true_or, or_true, false_or, or_false, or_self, and_self, true_and, and_true, false_and, and_false, if_true, if_false])).symm)
          · -- 36 not
            have c16 := bI_1 c16
            refine lv_iload_n hx hb dX5_ofFaceMember_39 rfl (lv_at hl 1 rfl) ?_
            refine lv_sipush (v := 1152) hx hb dX5_ofFaceMember_40 (by decide) ?_
            refine ro_Si (D := D) (G := G) (As := [.int mm, .int 1152]) (rest := []) ⟨hx, hb, hml, hown, hts⟩ (c_rHasAny l D G _ mm 1152) gS_X5_X5_hasAny hdS_X5_hasAny ⟨Nat.le_of_ble_eq_true rfl, Nat.le_of_ble_eq_true rfl⟩ hK rfl hl.1 rfl (Nat.le_of_ble_eq_true rfl) dX5_ofFaceMember_43 ⟨Nat.le_of_ble_eq_true rfl, Nat.le_of_ble_eq_true rfl⟩ (fun r17 e_r17 => ?_)
            subst e_r17
            refine lv_if_eq (tgt := 53) hx hb dX5_ofFaceMember_46 (by decide) (fun c18 => ?_) (fun c18 => ?_)
            · -- 46 taken
              have c18 := bI_0 c18
              refine lv_iconst (v := 0) hx hb dX5_ofFaceMember_53 (by decide) ?_
              exact J3 0 ((bI_f (by rw [barP_def]; simp only [eq_true c2, eq_true (Decidable.of_not_not c12), eq_true (Decidable.of_not_not c14), eq_false c16, eq_true (Decidable.of_not_not c18), not_true, not_false_iff, not_true_eq_false, not_false_eq_true, true_or, or_true, false_or, or_false, or_self, and_self, true_and, and_true, false_and, and_false, if_true, if_false])).symm)
            · -- 46 not
              have c18 := bI_1 c18
              refine lv_iconst (v := 1) hx hb dX5_ofFaceMember_49 (by decide) ?_
              refine lv_goto (tgt := 54) hx hb dX5_ofFaceMember_50 (by decide) ?_
              exact J3 1 ((bI_t (by rw [barP_def]; simp only [eq_true c2, eq_true (Decidable.of_not_not c12), eq_true (Decidable.of_not_not c14), eq_false c16, eq_false c18, not_true, not_false_iff, not_true_eq_false, not_false_eq_true, true_or, or_true, false_or, or_false, or_self, and_self, true_and, and_true, false_and, and_false, if_true, if_false])).symm)
  · -- 6 not
    refine lv_iload_n hx hb dX5_ofFaceMember_9 rfl (lv_at hl 0 rfl) ?_
    exact ro_iret (v := raF mm) hx hb hr hH hlocks dX5_ofFaceMember_10 (by unfold rmfF; simp only [eq_false c2, not_true, not_false_iff, not_true_eq_false, not_false_eq_true, true_or, or_true, false_or, or_false, or_self, and_self, true_and, and_true, false_and, and_false, if_true, if_false])
set_option maxHeartbeats 4000000 in
set_option maxRecDepth 100000 in
theorem c_ofClassMember (l : Launch) (D : va_G) (G : Nat → ClassId) (H : Heap) (mm : Int32) (bd : Int32) (ab : Int32) : Met l yX5_ofClassMember (ww yX5_ofClassMember cX5_ofClassMember 4 (some .int)) (rmD 3) (roP D G H [.int mm, .int bd, .int ab]) (vp_Si (fun r => r = rmcF mm bd ab)) 0 0 (fun _ => False) := by
  refine Met.ofW (cc := cX5_ofClassMember) (maxL := 4) (ret := (some .int)) (by decide) rfl ?_
  intro p e s m args below meth c s₁ B hml hv
  obtain ⟨rfl, hH, hK⟩ := hv
  have hx := B.exec
  have hb := B.bytes
  have hr := B.returns
  have hts : ∀ w ∈ TT, w.before _ s = true := fun w h => atoms_spec (ws := ww yX5_ofClassMember cX5_ofClassMember 4 (some .int)) B.pre w (List.mem_cons_of_mem _ h)
  have hown : s.vm.findClass RX5 = some m.cls := findClass_of_methodNamed B.named
  have hlocks := B.notSynchronized
  rw [hH]
  have hl := lv_entry ([.int mm, .int bd, .int ab]) (n := 4) (Nat.le_of_ble_eq_true rfl)
  rw [lg_entry_eq]
  generalize (lg_sl ([.int mm, .int bd, .int ab]) ++ List.replicate (4 - (lg_sl ([.int mm, .int bd, .int ab])).length) Slot.unset).toArray = ls at hl ⊢
  have hl : lv_has ls 4 [(0, .int mm), (1, .int bd), (2, .int ab)] := hl
  refine lv_iload_n hx hb dX5_ofClassMember_0 rfl (lv_at hl 0 rfl) ?_
  refine ro_Si (D := D) (G := G) (As := [.int mm]) (rest := []) ⟨hx, hb, hml, hown, hts⟩ (c_ofAnyMember l D G _ mm) gS_X5_X5_ofAnyMember hdS_X5_ofAnyMember ⟨Nat.le_of_ble_eq_true rfl, Nat.le_of_ble_eq_true rfl⟩ hK rfl hl.1 rfl (Nat.le_of_ble_eq_true rfl) dX5_ofClassMember_1 ⟨Nat.le_of_ble_eq_true rfl, Nat.le_of_ble_eq_true rfl⟩ (fun r1 e_r1 => ?_)
  subst e_r1
  refine lv_istore_n (lv' := [(3, .int (raF mm)), (0, .int mm), (1, .int bd), (2, .int ab)]) hx hb dX5_ofClassMember_4 rfl hl (by decide) rfl (fun ls hl => ?_)
  refine lv_iload_n hx hb dX5_ofClassMember_5 rfl (lv_at hl 0 rfl) ?_
  refine lv_if_eq (tgt := 11) hx hb dX5_ofClassMember_6 (by decide) (fun c2 => ?_) (fun c2 => ?_)
  · -- 6 taken
    refine lv_iload_n hx hb dX5_ofClassMember_11 rfl (lv_at hl 1 rfl) ?_
    refine lv_sipush (v := 1024) hx hb dX5_ofClassMember_12 (by decide) ?_
    refine ro_Si (D := D) (G := G) (As := [.int mm, .int 1024]) (rest := []) ⟨hx, hb, hml, hown, hts⟩ (c_rHasAny l D G _ mm 1024) gS_X5_X5_hasAny hdS_X5_hasAny ⟨Nat.le_of_ble_eq_true rfl, Nat.le_of_ble_eq_true rfl⟩ hK rfl hl.1 rfl (Nat.le_of_ble_eq_true rfl) dX5_ofClassMember_15 ⟨Nat.le_of_ble_eq_true rfl, Nat.le_of_ble_eq_true rfl⟩ (fun r3 e_r3 => ?_)
    subst e_r3
    refine lv_if_eq (tgt := 24) hx hb dX5_ofClassMember_18 (by decide) (fun c4 => ?_) (fun c4 => ?_)
    · -- 18 taken
      have c4 := bI_0 c4
      refine lv_iload_n hx hb dX5_ofClassMember_24 rfl (lv_at hl 1 rfl) ?_
      refine lv_sipush (v := 128) hx hb dX5_ofClassMember_25 (by decide) ?_
      refine ro_Si (D := D) (G := G) (As := [.int mm, .int 128]) (rest := []) ⟨hx, hb, hml, hown, hts⟩ (c_rHasAny l D G _ mm 128) gS_X5_X5_hasAny hdS_X5_hasAny ⟨Nat.le_of_ble_eq_true rfl, Nat.le_of_ble_eq_true rfl⟩ hK rfl hl.1 rfl (Nat.le_of_ble_eq_true rfl) dX5_ofClassMember_28 ⟨Nat.le_of_ble_eq_true rfl, Nat.le_of_ble_eq_true rfl⟩ (fun r5 e_r5 => ?_)
      subst e_r5
      refine lv_if_eq (tgt := 47) hx hb dX5_ofClassMember_31 (by decide) (fun c6 => ?_) (fun c6 => ?_)
      · -- 31 taken
        have c6 := bI_0 c6
        refine lv_iload_n hx hb dX5_ofClassMember_47 rfl (lv_at hl 1 rfl) ?_
        refine lv_sipush (v := 128) hx hb dX5_ofClassMember_48 (by decide) ?_
        refine ro_Si (D := D) (G := G) (As := [.int mm, .int 128]) (rest := []) ⟨hx, hb, hml, hown, hts⟩ (c_rHasAny l D G _ mm 128) gS_X5_X5_hasAny hdS_X5_hasAny ⟨Nat.le_of_ble_eq_true rfl, Nat.le_of_ble_eq_true rfl⟩ hK rfl hl.1 rfl (Nat.le_of_ble_eq_true rfl) dX5_ofClassMember_51 ⟨Nat.le_of_ble_eq_true rfl, Nat.le_of_ble_eq_true rfl⟩ (fun r7 e_r7 => ?_)
        subst e_r7
        refine lv_if_eq (tgt := 64) hx hb dX5_ofClassMember_54 (by decide) (fun hh => ?_) (fun hh => absurd (bI_1 hh) c6)
        refine lv_iload_n hx hb dX5_ofClassMember_64 rfl (lv_at hl 2 rfl) ?_
        refine lv_iload_n hx hb dX5_ofClassMember_65 rfl (lv_at hl 1 rfl) ?_
        refine lv_sipush (v := 384) hx hb dX5_ofClassMember_66 (by decide) ?_
        refine ro_Si (D := D) (G := G) (As := [.int mm, .int 384]) (rest := [.int bd]) ⟨hx, hb, hml, hown, hts⟩ (c_rHasAny l D G _ mm 384) gS_X5_X5_hasAny hdS_X5_hasAny ⟨Nat.le_of_ble_eq_true rfl, Nat.le_of_ble_eq_true rfl⟩ hK rfl hl.1 rfl (Nat.le_of_ble_eq_true rfl) dX5_ofClassMember_69 ⟨Nat.le_of_ble_eq_true rfl, Nat.le_of_ble_eq_true rfl⟩ (fun r9 e_r9 => ?_)
        subst e_r9
        refine ro_Si (D := D) (G := G) (As := [.int bd, .int (bI (¬ mm &&& 384 = 0))]) (rest := []) ⟨hx, hb, hml, hown, hts⟩ (c_ofBody l D G _ bd (bI (¬ mm &&& 384 = 0))) gS_X5_X5_ofBody hdS_X5_ofBody ⟨Nat.le_of_ble_eq_true rfl, Nat.le_of_ble_eq_true rfl⟩ hK rfl hl.1 rfl (Nat.le_of_ble_eq_true rfl) dX5_ofClassMember_72 ⟨Nat.le_of_ble_eq_true rfl, Nat.le_of_ble_eq_true rfl⟩ (fun r10 e_r10 => ?_)
        subst e_r10
        exact ro_iret (v := rbF bd (bI (¬ mm &&& 384 = 0))) hx hb hr hH hlocks dX5_ofClassMember_75 (by unfold rmcF; simp only [eq_true c2, eq_true (Decidable.of_not_not c4), eq_true (Decidable.of_not_not c6), not_true, not_false_iff, not_true_eq_false, not_false_eq_true, true_or, or_true, false_or, or_false, or_self, and_self, true_and, and_true, false_and, and_false, if_true, if_false])
      · -- 31 not
        have c6 := bI_1 c6
        refine lv_iload_n hx hb dX5_ofClassMember_34 rfl (lv_at hl 1 rfl) ?_
        refine lv_sipush (v := 796) hx hb dX5_ofClassMember_35 (by decide) ?_
        refine ro_Si (D := D) (G := G) (As := [.int mm, .int 796]) (rest := []) ⟨hx, hb, hml, hown, hts⟩ (c_rHasAny l D G _ mm 796) gS_X5_X5_hasAny hdS_X5_hasAny ⟨Nat.le_of_ble_eq_true rfl, Nat.le_of_ble_eq_true rfl⟩ hK rfl hl.1 rfl (Nat.le_of_ble_eq_true rfl) dX5_ofClassMember_38 ⟨Nat.le_of_ble_eq_true rfl, Nat.le_of_ble_eq_true rfl⟩ (fun r11 e_r11 => ?_)
        subst e_r11
        refine lv_if_eq (tgt := 47) hx hb dX5_ofClassMember_41 (by decide) (fun c12 => ?_) (fun c12 => ?_)
        · -- 41 taken
          have c12 := bI_0 c12
          refine lv_iload_n hx hb dX5_ofClassMember_47 rfl (lv_at hl 1 rfl) ?_
          refine lv_sipush (v := 128) hx hb dX5_ofClassMember_48 (by decide) ?_
          refine ro_Si (D := D) (G := G) (As := [.int mm, .int 128]) (rest := []) ⟨hx, hb, hml, hown, hts⟩ (c_rHasAny l D G _ mm 128) gS_X5_X5_hasAny hdS_X5_hasAny ⟨Nat.le_of_ble_eq_true rfl, Nat.le_of_ble_eq_true rfl⟩ hK rfl hl.1 rfl (Nat.le_of_ble_eq_true rfl) dX5_ofClassMember_51 ⟨Nat.le_of_ble_eq_true rfl, Nat.le_of_ble_eq_true rfl⟩ (fun r13 e_r13 => ?_)
          subst e_r13
          refine lv_if_eq (tgt := 64) hx hb dX5_ofClassMember_54 (by decide) (fun hh => absurd c6 (bI_0 hh)) (fun hh => ?_)
          refine lv_iload_n hx hb dX5_ofClassMember_57 rfl (lv_at hl 3 rfl) ?_
          refine lv_if_ne (tgt := 64) hx hb dX5_ofClassMember_58 (by decide) (fun c15 => ?_) (fun c15 => ?_)
          · -- 58 taken
            refine lv_iload_n hx hb dX5_ofClassMember_64 rfl (lv_at hl 2 rfl) ?_
            refine lv_iload_n hx hb dX5_ofClassMember_65 rfl (lv_at hl 1 rfl) ?_
            refine lv_sipush (v := 384) hx hb dX5_ofClassMember_66 (by decide) ?_
            refine ro_Si (D := D) (G := G) (As := [.int mm, .int 384]) (rest := [.int bd]) ⟨hx, hb, hml, hown, hts⟩ (c_rHasAny l D G _ mm 384) gS_X5_X5_hasAny hdS_X5_hasAny ⟨Nat.le_of_ble_eq_true rfl, Nat.le_of_ble_eq_true rfl⟩ hK rfl hl.1 rfl (Nat.le_of_ble_eq_true rfl) dX5_ofClassMember_69 ⟨Nat.le_of_ble_eq_true rfl, Nat.le_of_ble_eq_true rfl⟩ (fun r16 e_r16 => ?_)
            subst e_r16
            refine ro_Si (D := D) (G := G) (As := [.int bd, .int (bI (¬ mm &&& 384 = 0))]) (rest := []) ⟨hx, hb, hml, hown, hts⟩ (c_ofBody l D G _ bd (bI (¬ mm &&& 384 = 0))) gS_X5_X5_ofBody hdS_X5_ofBody ⟨Nat.le_of_ble_eq_true rfl, Nat.le_of_ble_eq_true rfl⟩ hK rfl hl.1 rfl (Nat.le_of_ble_eq_true rfl) dX5_ofClassMember_72 ⟨Nat.le_of_ble_eq_true rfl, Nat.le_of_ble_eq_true rfl⟩ (fun r17 e_r17 => ?_)
            subst e_r17
            exact ro_iret (v := rbF bd (bI (¬ mm &&& 384 = 0))) hx hb hr hH hlocks dX5_ofClassMember_75 (by unfold rmcF; simp only [eq_true c2, eq_true (Decidable.of_not_not c4), eq_false c6, eq_true (Decidable.of_not_not c12), eq_false c15, not_true, not_false_iff, not_true_eq_false, not_false_eq_true, true_or, or_true, false_or, or_false, or_self, and_self, true_and, and_true, false_and, and_false, if_true, if_false])
          · -- 58 not
            refine lv_bipush (v := 15) hx hb dX5_ofClassMember_61 (by decide) ?_
            exact ro_iret (v := 15) hx hb hr hH hlocks dX5_ofClassMember_63 (by unfold rmcF; simp only [eq_true c2, eq_true (Decidable.of_not_not c4), eq_false c6, eq_true (Decidable.of_not_not c12), eq_true c15, not_true, not_false_iff, not_true_eq_false, not_false_eq_true, true_or, or_true, false_or, or_false, or_self, and_self, true_and, and_true, false_and, and_false, if_true, if_false])
        · -- 41 not
          have c12 := bI_1 c12
          refine lv_bipush (v := 14) hx hb dX5_ofClassMember_44 (by decide) ?_
          exact ro_iret (v := 14) hx hb hr hH hlocks dX5_ofClassMember_46 (by unfold rmcF; simp only [eq_true c2, eq_true (Decidable.of_not_not c4), eq_false c6, eq_false c12, not_true, not_false_iff, not_true_eq_false, not_false_eq_true, true_or, or_true, false_or, or_false, or_self, and_self, true_and, and_true, false_and, and_false, if_true, if_false])
    · -- 18 not
      have c4 := bI_1 c4
      refine lv_bipush (v := 13) hx hb dX5_ofClassMember_21 (by decide) ?_
      exact ro_iret (v := 13) hx hb hr hH hlocks dX5_ofClassMember_23 (by unfold rmcF; simp only [eq_true c2, eq_false c4, not_true, not_false_iff, not_true_eq_false, not_false_eq_true, true_or, or_true, false_or, or_false, or_self, and_self, true_and, and_true, false_and, and_false, if_true, if_false])
  · -- 6 not
    refine lv_iload_n hx hb dX5_ofClassMember_9 rfl (lv_at hl 0 rfl) ?_
    exact ro_iret (v := raF mm) hx hb hr hH hlocks dX5_ofClassMember_10 (by unfold rmcF; simp only [eq_false c2, not_true, not_false_iff, not_true_eq_false, not_false_eq_true, true_or, or_true, false_or, or_false, or_self, and_self, true_and, and_true, false_and, and_false, if_true, if_false])
set_option maxHeartbeats 4000000 in
set_option maxRecDepth 100000 in
theorem c_ofParameter (l : Launch) (D : va_G) (G : Nat → ClassId) (H : Heap) (kind : Int32) (dd : Int32) (vr : Int32) (al : Int32) : Met l yX5_ofParameter (ww yX5_ofParameter cX5_ofParameter 4 (some .int)) (rmD 0) (roP D G H [.int kind, .int dd, .int vr, .int al]) (vp_Si (fun r => r = rpF kind dd vr al)) 0 0 (fun _ => False) := by
  refine Met.ofW (cc := cX5_ofParameter) (maxL := 4) (ret := (some .int)) (by decide) rfl ?_
  intro p e s m args below meth c s₁ B hml hv
  obtain ⟨rfl, hH, hK⟩ := hv
  have hx := B.exec
  have hb := B.bytes
  have hr := B.returns
  have hts : ∀ w ∈ TT, w.before _ s = true := fun w h => atoms_spec (ws := ww yX5_ofParameter cX5_ofParameter 4 (some .int)) B.pre w (List.mem_cons_of_mem _ h)
  have hown : s.vm.findClass RX5 = some m.cls := findClass_of_methodNamed B.named
  have hlocks := B.notSynchronized
  rw [hH]
  have hl := lv_entry ([.int kind, .int dd, .int vr, .int al]) (n := 4) (Nat.le_of_ble_eq_true rfl)
  rw [lg_entry_eq]
  generalize (lg_sl ([.int kind, .int dd, .int vr, .int al]) ++ List.replicate (4 - (lg_sl ([.int kind, .int dd, .int vr, .int al])).length) Slot.unset).toArray = ls at hl ⊢
  have hl : lv_has ls 4 [(0, .int kind), (1, .int dd), (2, .int vr), (3, .int al)] := hl
  refine lv_iload_n hx hb dX5_ofParameter_0 rfl (lv_at hl 0 rfl) ?_
  refine lv_if_ne (tgt := 7) hx hb dX5_ofParameter_1 (by decide) (fun c1 => ?_) (fun c1 => ?_)
  · -- 1 taken
    refine lv_iload_n hx hb dX5_ofParameter_7 rfl (lv_at hl 3 rfl) ?_
    refine lv_if_eq (tgt := 14) hx hb dX5_ofParameter_8 (by decide) (fun c2 => ?_) (fun c2 => ?_)
    · -- 8 taken
      refine lv_iload_n hx hb dX5_ofParameter_14 rfl (lv_at hl 2 rfl) ?_
      refine lv_if_eq (tgt := 27) hx hb dX5_ofParameter_15 (by decide) (fun c3 => ?_) (fun c3 => ?_)
      · -- 15 taken
        refine lv_iconst (v := 0) hx hb dX5_ofParameter_27 (by decide) ?_
        exact ro_iret (v := 0) hx hb hr hH hlocks dX5_ofParameter_28 (by unfold rpF; simp only [eq_false c1, eq_true c2, eq_true c3, not_true, not_false_iff, not_true_eq_false, not_false_eq_true, true_or, or_true, false_or, or_false, or_self, and_self, true_and, and_true, false_and, and_false, if_true, if_false])
      · -- 15 not
        refine lv_iload_n hx hb dX5_ofParameter_18 rfl (lv_at hl 1 rfl) ?_
        refine lv_if_ne (tgt := 27) hx hb dX5_ofParameter_19 (by decide) (fun c4 => ?_) (fun c4 => ?_)
        · -- 19 taken
          refine lv_iconst (v := 0) hx hb dX5_ofParameter_27 (by decide) ?_
          exact ro_iret (v := 0) hx hb hr hH hlocks dX5_ofParameter_28 (by unfold rpF; simp only [eq_false c1, eq_true c2, eq_false c3, eq_false c4, not_true, not_false_iff, not_true_eq_false, not_false_eq_true, true_or, or_true, false_or, or_false, or_self, and_self, true_and, and_true, false_and, and_false, if_true, if_false])
        · -- 19 not
          refine lv_bipush (v := 20) hx hb dX5_ofParameter_22 (by decide) ?_
          refine lv_goto (tgt := 28) hx hb dX5_ofParameter_24 (by decide) ?_
          exact ro_iret (v := 20) hx hb hr hH hlocks dX5_ofParameter_28 (by unfold rpF; simp only [eq_false c1, eq_true c2, eq_false c3, eq_true c4, not_true, not_false_iff, not_true_eq_false, not_false_eq_true, true_or, or_true, false_or, or_false, or_self, and_self, true_and, and_true, false_and, and_false, if_true, if_false])
    · -- 8 not
      refine lv_bipush (v := 19) hx hb dX5_ofParameter_11 (by decide) ?_
      exact ro_iret (v := 19) hx hb hr hH hlocks dX5_ofParameter_13 (by unfold rpF; simp only [eq_false c1, eq_false c2, not_true, not_false_iff, not_true_eq_false, not_false_eq_true, true_or, or_true, false_or, or_false, or_self, and_self, true_and, and_true, false_and, and_false, if_true, if_false])
  · -- 1 not
    refine lv_bipush (v := 18) hx hb dX5_ofParameter_4 (by decide) ?_
    exact ro_iret (v := 18) hx hb hr hH hlocks dX5_ofParameter_6 (by unfold rpF; simp only [eq_true c1, not_true, not_false_iff, not_true_eq_false, not_false_eq_true, true_or, or_true, false_or, or_false, or_self, and_self, true_and, and_true, false_and, and_false, if_true, if_false])
set_option maxHeartbeats 4000000 in
set_option maxRecDepth 100000 in
theorem c_faceMarks (l : Launch) (D : va_G) (G : Nat → ClassId) (H : Heap) (mm : Int32) : Met l yX5_faceMarks (ww yX5_faceMarks cX5_faceMarks 2 (some .int)) (rmD 1) (roP D G H [.int mm]) (vp_Si (fun r => r = fmkF mm)) 0 0 (fun _ => False) := by
  refine Met.ofW (cc := cX5_faceMarks) (maxL := 2) (ret := (some .int)) (by decide) rfl ?_
  intro p e s m args below meth c s₁ B hml hv
  obtain ⟨rfl, hH, hK⟩ := hv
  have hx := B.exec
  have hb := B.bytes
  have hr := B.returns
  have hts : ∀ w ∈ TT, w.before _ s = true := fun w h => atoms_spec (ws := ww yX5_faceMarks cX5_faceMarks 2 (some .int)) B.pre w (List.mem_cons_of_mem _ h)
  have hown : s.vm.findClass RX5 = some m.cls := findClass_of_methodNamed B.named
  have hlocks := B.notSynchronized
  rw [hH]
  have hl := lv_entry ([.int mm]) (n := 2) (Nat.le_of_ble_eq_true rfl)
  rw [lg_entry_eq]
  generalize (lg_sl ([.int mm]) ++ List.replicate (2 - (lg_sl ([.int mm])).length) Slot.unset).toArray = ls at hl ⊢
  have hl : lv_has ls 2 [(0, .int mm)] := hl
  refine lv_iload_n hx hb dX5_faceMarks_0 rfl (lv_at hl 0 rfl) ?_
  refine lv_iconst (v := 4) hx hb dX5_faceMarks_1 (by decide) ?_
  refine ro_Si (D := D) (G := G) (As := [.int mm, .int 4]) (rest := []) ⟨hx, hb, hml, hown, hts⟩ (c_rHasAny l D G _ mm 4) gS_X5_X5_hasAny hdS_X5_hasAny ⟨Nat.le_of_ble_eq_true rfl, Nat.le_of_ble_eq_true rfl⟩ hK rfl hl.1 rfl (Nat.le_of_ble_eq_true rfl) dX5_faceMarks_2 ⟨Nat.le_of_ble_eq_true rfl, Nat.le_of_ble_eq_true rfl⟩ (fun r1 e_r1 => ?_)
  subst e_r1
  refine lv_if_eq (tgt := 12) hx hb dX5_faceMarks_5 (by decide) (fun c2 => ?_) (fun c2 => ?_)
  · -- 5 taken
    have c2 := bI_0 c2
    refine lv_iconst (v := 1) hx hb dX5_faceMarks_12 (by decide) ?_
    refine lv_istore_n (lv' := [(1, .int 1), (0, .int mm)]) hx hb dX5_faceMarks_13 rfl hl (by decide) rfl (fun ls hl => ?_)
    refine lv_iload_n hx hb dX5_faceMarks_14 rfl (lv_at hl 1 rfl) ?_
    refine lv_sipush (v := 1036) hx hb dX5_faceMarks_15 (by decide) ?_
    refine ro_Si (D := D) (G := G) (As := [.int mm, .int 1036]) (rest := []) ⟨hx, hb, hml, hown, hts⟩ (c_rHasAny l D G _ mm 1036) gS_X5_X5_hasAny hdS_X5_hasAny ⟨Nat.le_of_ble_eq_true rfl, Nat.le_of_ble_eq_true rfl⟩ hK rfl hl.1 rfl (Nat.le_of_ble_eq_true rfl) dX5_faceMarks_18 ⟨Nat.le_of_ble_eq_true rfl, Nat.le_of_ble_eq_true rfl⟩ (fun r3 e_r3 => ?_)
    subst e_r3
    refine lv_if_eq (tgt := 28) hx hb dX5_faceMarks_21 (by decide) (fun c4 => ?_) (fun c4 => ?_)
    · -- 21 taken
      have c4 := bI_0 c4
      refine lv_iload_n hx hb dX5_faceMarks_28 rfl (lv_at hl 0 rfl) ?_
      refine lv_sipush (v := 128) hx hb dX5_faceMarks_29 (by decide) ?_
      refine lv_ior hx hb dX5_faceMarks_32 ?_
      exact ro_iret (v := 1 ||| 128) hx hb hr hH hlocks dX5_faceMarks_33 (by unfold fmkF; simp only [eq_true (Decidable.of_not_not c2), eq_true (Decidable.of_not_not c4), not_true, not_false_iff, not_true_eq_false, not_false_eq_true, true_or, or_true, false_or, or_false, or_self, and_self, true_and, and_true, false_and, and_false, if_true, if_false])
    · -- 21 not
      have c4 := bI_1 c4
      refine lv_iload_n hx hb dX5_faceMarks_24 rfl (lv_at hl 0 rfl) ?_
      refine lv_goto (tgt := 33) hx hb dX5_faceMarks_25 (by decide) ?_
      exact ro_iret (v := 1) hx hb hr hH hlocks dX5_faceMarks_33 (by unfold fmkF; simp only [eq_true (Decidable.of_not_not c2), eq_false c4, not_true, not_false_iff, not_true_eq_false, not_false_eq_true, true_or, or_true, false_or, or_false, or_self, and_self, true_and, and_true, false_and, and_false, if_true, if_false])
  · -- 5 not
    have c2 := bI_1 c2
    refine lv_iconst (v := 0) hx hb dX5_faceMarks_8 (by decide) ?_
    refine lv_goto (tgt := 13) hx hb dX5_faceMarks_9 (by decide) ?_
    refine lv_istore_n (lv' := [(1, .int 0), (0, .int mm)]) hx hb dX5_faceMarks_13 rfl hl (by decide) rfl (fun ls hl => ?_)
    refine lv_iload_n hx hb dX5_faceMarks_14 rfl (lv_at hl 1 rfl) ?_
    refine lv_sipush (v := 1036) hx hb dX5_faceMarks_15 (by decide) ?_
    refine ro_Si (D := D) (G := G) (As := [.int mm, .int 1036]) (rest := []) ⟨hx, hb, hml, hown, hts⟩ (c_rHasAny l D G _ mm 1036) gS_X5_X5_hasAny hdS_X5_hasAny ⟨Nat.le_of_ble_eq_true rfl, Nat.le_of_ble_eq_true rfl⟩ hK rfl hl.1 rfl (Nat.le_of_ble_eq_true rfl) dX5_faceMarks_18 ⟨Nat.le_of_ble_eq_true rfl, Nat.le_of_ble_eq_true rfl⟩ (fun r5 e_r5 => ?_)
    subst e_r5
    refine lv_if_eq (tgt := 28) hx hb dX5_faceMarks_21 (by decide) (fun c6 => ?_) (fun c6 => ?_)
    · -- 21 taken
      have c6 := bI_0 c6
      refine lv_iload_n hx hb dX5_faceMarks_28 rfl (lv_at hl 0 rfl) ?_
      refine lv_sipush (v := 128) hx hb dX5_faceMarks_29 (by decide) ?_
      refine lv_ior hx hb dX5_faceMarks_32 ?_
      exact ro_iret (v := 0 ||| 128) hx hb hr hH hlocks dX5_faceMarks_33 (by unfold fmkF; simp only [eq_false c2, eq_true (Decidable.of_not_not c6), not_true, not_false_iff, not_true_eq_false, not_false_eq_true, true_or, or_true, false_or, or_false, or_self, and_self, true_and, and_true, false_and, and_false, if_true, if_false])
    · -- 21 not
      have c6 := bI_1 c6
      refine lv_iload_n hx hb dX5_faceMarks_24 rfl (lv_at hl 0 rfl) ?_
      refine lv_goto (tgt := 33) hx hb dX5_faceMarks_25 (by decide) ?_
      exact ro_iret (v := 0) hx hb hr hH hlocks dX5_faceMarks_33 (by unfold fmkF; simp only [eq_false c2, eq_false c6, not_true, not_false_iff, not_true_eq_false, not_false_eq_true, true_or, or_true, false_or, or_false, or_self, and_self, true_and, and_true, false_and, and_false, if_true, if_false])
set_option maxHeartbeats 4000000 in
set_option maxRecDepth 100000 in
theorem c_sightOf (l : Launch) (D : va_G) (G : Nat → ClassId) (H : Heap) (mm : Int32) : Met l yX5_sightOf (ww yX5_sightOf cX5_sightOf 1 (some .int)) (rmD 1) (roP D G H [.int mm]) (vp_Si (fun r => r = seenF mm)) 0 0 (fun _ => False) := by
  refine Met.ofW (cc := cX5_sightOf) (maxL := 1) (ret := (some .int)) (by decide) rfl ?_
  intro p e s m args below meth c s₁ B hml hv
  obtain ⟨rfl, hH, hK⟩ := hv
  have hx := B.exec
  have hb := B.bytes
  have hr := B.returns
  have hts : ∀ w ∈ TT, w.before _ s = true := fun w h => atoms_spec (ws := ww yX5_sightOf cX5_sightOf 1 (some .int)) B.pre w (List.mem_cons_of_mem _ h)
  have hown : s.vm.findClass RX5 = some m.cls := findClass_of_methodNamed B.named
  have hlocks := B.notSynchronized
  rw [hH]
  have hl := lv_entry ([.int mm]) (n := 1) (Nat.le_of_ble_eq_true rfl)
  rw [lg_entry_eq]
  generalize (lg_sl ([.int mm]) ++ List.replicate (1 - (lg_sl ([.int mm])).length) Slot.unset).toArray = ls at hl ⊢
  have hl : lv_has ls 1 [(0, .int mm)] := hl
  refine lv_iload_n hx hb dX5_sightOf_0 rfl (lv_at hl 0 rfl) ?_
  refine lv_iconst (v := 1) hx hb dX5_sightOf_1 (by decide) ?_
  refine ro_Si (D := D) (G := G) (As := [.int mm, .int 1]) (rest := []) ⟨hx, hb, hml, hown, hts⟩ (c_rHasAny l D G _ mm 1) gS_X5_X5_hasAny hdS_X5_hasAny ⟨Nat.le_of_ble_eq_true rfl, Nat.le_of_ble_eq_true rfl⟩ hK rfl hl.1 rfl (Nat.le_of_ble_eq_true rfl) dX5_sightOf_2 ⟨Nat.le_of_ble_eq_true rfl, Nat.le_of_ble_eq_true rfl⟩ (fun r1 e_r1 => ?_)
  subst e_r1
  refine lv_if_eq (tgt := 10) hx hb dX5_sightOf_5 (by decide) (fun c2 => ?_) (fun c2 => ?_)
  · -- 5 taken
    have c2 := bI_0 c2
    refine lv_iload_n hx hb dX5_sightOf_10 rfl (lv_at hl 0 rfl) ?_
    refine lv_iconst (v := 2) hx hb dX5_sightOf_11 (by decide) ?_
    refine ro_Si (D := D) (G := G) (As := [.int mm, .int 2]) (rest := []) ⟨hx, hb, hml, hown, hts⟩ (c_rHasAny l D G _ mm 2) gS_X5_X5_hasAny hdS_X5_hasAny ⟨Nat.le_of_ble_eq_true rfl, Nat.le_of_ble_eq_true rfl⟩ hK rfl hl.1 rfl (Nat.le_of_ble_eq_true rfl) dX5_sightOf_12 ⟨Nat.le_of_ble_eq_true rfl, Nat.le_of_ble_eq_true rfl⟩ (fun r3 e_r3 => ?_)
    subst e_r3
    refine lv_if_eq (tgt := 20) hx hb dX5_sightOf_15 (by decide) (fun c4 => ?_) (fun c4 => ?_)
    · -- 15 taken
      have c4 := bI_0 c4
      refine lv_iload_n hx hb dX5_sightOf_20 rfl (lv_at hl 0 rfl) ?_
      refine lv_iconst (v := 4) hx hb dX5_sightOf_21 (by decide) ?_
      refine ro_Si (D := D) (G := G) (As := [.int mm, .int 4]) (rest := []) ⟨hx, hb, hml, hown, hts⟩ (c_rHasAny l D G _ mm 4) gS_X5_X5_hasAny hdS_X5_hasAny ⟨Nat.le_of_ble_eq_true rfl, Nat.le_of_ble_eq_true rfl⟩ hK rfl hl.1 rfl (Nat.le_of_ble_eq_true rfl) dX5_sightOf_22 ⟨Nat.le_of_ble_eq_true rfl, Nat.le_of_ble_eq_true rfl⟩ (fun r5 e_r5 => ?_)
      subst e_r5
      refine lv_if_eq (tgt := 32) hx hb dX5_sightOf_25 (by decide) (fun c6 => ?_) (fun c6 => ?_)
      · -- 25 taken
        have c6 := bI_0 c6
        refine lv_iconst (v := 1) hx hb dX5_sightOf_32 (by decide) ?_
        exact ro_iret (v := 1) hx hb hr hH hlocks dX5_sightOf_33 (by unfold seenF; simp only [eq_true (Decidable.of_not_not c2), eq_true (Decidable.of_not_not c4), eq_true (Decidable.of_not_not c6), not_true, not_false_iff, not_true_eq_false, not_false_eq_true, true_or, or_true, false_or, or_false, or_self, and_self, true_and, and_true, false_and, and_false, if_true, if_false])
      · -- 25 not
        have c6 := bI_1 c6
        refine lv_iconst (v := 0) hx hb dX5_sightOf_28 (by decide) ?_
        refine lv_goto (tgt := 33) hx hb dX5_sightOf_29 (by decide) ?_
        exact ro_iret (v := 0) hx hb hr hH hlocks dX5_sightOf_33 (by unfold seenF; simp only [eq_true (Decidable.of_not_not c2), eq_true (Decidable.of_not_not c4), eq_false c6, not_true, not_false_iff, not_true_eq_false, not_false_eq_true, true_or, or_true, false_or, or_false, or_self, and_self, true_and, and_true, false_and, and_false, if_true, if_false])
    · -- 15 not
      have c4 := bI_1 c4
      refine lv_iconst (v := 2) hx hb dX5_sightOf_18 (by decide) ?_
      exact ro_iret (v := 2) hx hb hr hH hlocks dX5_sightOf_19 (by unfold seenF; simp only [eq_true (Decidable.of_not_not c2), eq_false c4, not_true, not_false_iff, not_true_eq_false, not_false_eq_true, true_or, or_true, false_or, or_false, or_self, and_self, true_and, and_true, false_and, and_false, if_true, if_false])
  · -- 5 not
    have c2 := bI_1 c2
    refine lv_iconst (v := 3) hx hb dX5_sightOf_8 (by decide) ?_
    exact ro_iret (v := 3) hx hb hr hH hlocks dX5_sightOf_9 (by unfold seenF; simp only [eq_false c2, not_true, not_false_iff, not_true_eq_false, not_false_eq_true, true_or, or_true, false_or, or_false, or_self, and_self, true_and, and_true, false_and, and_false, if_true, if_false])
