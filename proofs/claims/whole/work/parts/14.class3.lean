-- what holds of the tables where the class reads them
abbrev okEn (σ : MS) (n e : Nat) : Prop := σ 9 e = nI (tyE σ e) ∧ tyE σ e < n
abbrev kdn (n : Nat) (x : Int32) : Prop := ¬ x ≤ 9 → x - 10 = nI (tyK x) ∧ tyK x < n
abbrev ptO (σ : MS) (n e : Nat) : Prop := (¬ σ 17 e = 0 → 1 ≤ mnE σ e) ∧ ∀ i, i < mnE σ e → kdn n (σ 19 (5 * e + i)) ∧ ¬ σ 19 (5 * e + i) = 9
/-- an entry's numbers are in order -/
def mI (σ : MS) (n e : Nat) : Prop := okEn σ n e ∧ okM σ e ∧ kdn n (σ 11 e) ∧ ptO σ n e
def mJ (σ : MS) (n e : Nat) : Prop := okEn σ n e ∧ okM σ e ∧ kdn n (σ 11 e) ∧ (¬ σ 8 e = 0 → ptO σ n e)
theorem mJ_m {σ : MS} {n e : Nat} (h : mJ σ n e) (c : ¬ σ 8 e = 0) : mI σ n e := ⟨h.1, h.2.1, h.2.2.1, h.2.2.2 c⟩
def cI (σ x : MS) (n k w0 : Nat) : Prop := σ 1 0 = nI n ∧ n ≤ 12 ∧ σ 7 0 = nI k ∧ k ≤ 60 ∧ σ 22 0 = nI w0 ∧ w0 ≤ 5 ∧ abO σ x n ∧ faO σ x n ∧ (∀ e, e < k → mJ σ n e) ∧ (∀ i, i < w0 → kdn n (σ 23 i)) ∧ (∀ t, t < n → lyP σ t t)
theorem bit8 (x : Int32) : x &&& 8 = 0 ∨ x &&& 8 = 8 := by
  have h : ∀ b : BitVec 32, b &&& 8#32 = 0#32 ∨ b &&& 8#32 = 8#32 := by
    intro b
    have e : ∀ i : Nat, i < 32 → (8#32 : BitVec 32).getLsbD i = decide (i = 3) := by decide
    by_cases h3 : b.getLsbD 3 = true
    · right
      apply BitVec.eq_of_getLsbD_eq
      intro i hi
      rw [BitVec.getLsbD_and, e i hi]
      by_cases q : i = 3
      · subst q; rw [h3]; rfl
      · simp [q]
    · left
      apply BitVec.eq_of_getLsbD_eq
      intro i hi
      rw [BitVec.getLsbD_and, e i hi]
      by_cases q : i = 3
      · subst q; rw [Bool.eq_false_iff.mpr h3, Bool.false_and]; simp
      · simp [q]
  rcases h x.toBitVec with h | h
  · left; exact Int32.toBitVec_inj.mp h
  · right; exact Int32.toBitVec_inj.mp h
theorem bit8_iff {x y : Int32} : (bI (¬ y &&& 8 = 0) = bI (¬ x &&& 8 = 0)) ↔ (x &&& 8 = y &&& 8) := by
  rcases bit8 x with hx | hx <;> rcases bit8 y with hy | hy <;> rw [hx, hy] <;> decide
def srb (σ : MS) (a b : Nat) : Bool := decide (eqR σ a b ∨ unR σ a b)
abbrev srP (σ : MS) (a b : Nat) : Prop := srb σ a b = true
theorem srP_def {σ : MS} {a b : Nat} : srP σ a b ↔ (eqR σ a b ∨ unR σ a b) := decide_eq_true_iff
def tdb (σ : MS) (e n : Nat) : Bool := decide (∃ b, b < n ∧ twP σ e b)
abbrev tdP (σ : MS) (e n : Nat) : Prop := tdb σ e n = true
theorem tdP_def {σ : MS} {e n : Nat} : tdP σ e n ↔ ∃ b, b < n ∧ twP σ e b := decide_eq_true_iff
def mfb (σ : MS) (e : Nat) : Bool := decide (if σ 2 (tyE σ e) = 3 then ¬ σ 13 e &&& 1024 = 0 else (¬ σ 16 e = 0 ∨ ¬ σ 13 e &&& 256 = 0) ∧ ¬ ¬ σ 13 e &&& 12 = 0)
abbrev mfP (σ : MS) (e : Nat) : Prop := mfb σ e = true
theorem mfP_def {σ : MS} {e : Nat} : mfP σ e ↔ (if σ 2 (tyE σ e) = 3 then ¬ σ 13 e &&& 1024 = 0 else (¬ σ 16 e = 0 ∨ ¬ σ 13 e &&& 256 = 0) ∧ ¬ ¬ σ 13 e &&& 12 = 0) := decide_eq_true_iff
theorem mk_iff {σ : MS} {t o e : Nat} : mkP σ t o e ↔ (¬ σ 8 o = 0 ∧ (σ 10 o = σ 10 e ∧ sameP σ o e) ∧ lyP σ t (tyE σ o) ∧ mfP σ o) := by
  rw [mkP_def, mfP_def, Decidable.not_not]
  exact ⟨fun h => ⟨h.1, ⟨h.2.2.1, h.2.2.2.1⟩, h.2.1, h.2.2.2.2⟩, fun h => ⟨h.1, h.2.2.1, h.2.1.1, h.2.1.2, h.2.2.2⟩⟩
def rcb (σ : MS) (t e : Nat) : Bool := decide (σ 9 e = nI t ∨ (lyP σ t (tyE σ e) ∧ ¬ ¬ σ 13 e &&& 4 = 0 ∧ ¬ stP σ e))
abbrev rcP (σ : MS) (t e : Nat) : Prop := rcb σ t e = true
theorem rcP_def {σ : MS} {t e : Nat} : rcP σ t e ↔ (σ 9 e = nI t ∨ (lyP σ t (tyE σ e) ∧ ¬ ¬ σ 13 e &&& 4 = 0 ∧ ¬ stP σ e)) := decide_eq_true_iff
abbrev s1P (σ : MS) (cd : Nat → Int32) (e o : Nat) : Prop := ¬ cd o = 0 ∧ ¬ σ 8 o = 0 ∧ ¬ σ 9 o = σ 9 e ∧ lyP σ (tyE σ o) (tyE σ e) ∧ σ 10 o = σ 10 e ∧ sameP σ o e
def sfb (σ : MS) (cd : Nat → Int32) (e n : Nat) : Bool := decide (∃ o, o < n ∧ s1P σ cd e o)
abbrev sfP (σ : MS) (cd : Nat → Int32) (e n : Nat) : Prop := sfb σ cd e n = true
theorem sfP_def {σ : MS} {cd : Nat → Int32} {e n : Nat} : sfP σ cd e n ↔ ∃ o, o < n ∧ s1P σ cd e o := decide_eq_true_iff
/-- the class's words for what fits; nothing has the link's kind but an argument -/
theorem fit_c {σ : MS} {k d kind dim : Int32} (h9 : ¬ kind = 9) : fitP σ k d kind dim ↔ (if k = 9 then 0 < dim ∨ ¬ kind < 10 else d = dim ∧ (k = kind ∨ undP σ k kind ∨ (d = 0 ∧ wdP k kind))) := by
  rw [fitP_def]
  have hw : wdP k kind → ¬ k = kind ∧ ¬ 9 ≤ k := fun h => by
    have := wd_iff.mp h; simp only [i_le, i_lt, i_eq, Int32.reduceToInt] at this ⊢; omega
  have hu : undP σ k kind → 9 ≤ k := fun h => by
    have := (undP_def.mp h).1; simp only [i_le, i_lt, i_eq, Int32.reduceToInt] at this ⊢; omega
  by_cases e9 : k = 9
  · rw [if_pos e9, if_pos e9, lt10]
    constructor
    · rintro (h | h)
      · exact absurd (h.1.symm.trans e9) h9
      · exact h.2
    · exact fun h => Or.inr ⟨fun q => h9 (q.1.symm.trans e9), h⟩
  · rw [if_neg e9, if_neg e9]
    by_cases hc : d = 0 ∧ dim = 0 ∧ ¬ 9 ≤ k
    · rw [if_pos hc]
      constructor
      · rintro (h | h)
        · exact ⟨h.2, Or.inl h.1⟩
        · exact ⟨hc.1.trans hc.2.1.symm, Or.inr (Or.inr ⟨hc.1, h.2⟩)⟩
      · rintro ⟨h1, h | h | h⟩
        · exact Or.inl ⟨h, h1⟩
        · exact absurd (hu h) hc.2.2
        · exact Or.inr ⟨fun q => (hw h.2).1 q.1, h.2⟩
    · rw [if_neg hc]
      constructor
      · rintro (h | h)
        · exact ⟨h.2, Or.inl h.1⟩
        · exact ⟨h.2.1, Or.inr (Or.inl h.2.2)⟩
      · rintro ⟨h1, h | h | h⟩
        · exact Or.inl ⟨h, h1⟩
        · by_cases q : k = kind
          · exact Or.inl ⟨q, h1⟩
          · exact Or.inr ⟨fun r => q r.1, h1, h⟩
        · exact absurd ⟨h.1, h1 ▸ h.1, (hw h.2).2⟩ hc
abbrev mtb (σ : MS) (w e : Nat) (v : Int32) : Prop := if ¬ v = 0 then ¬ σ 17 e = 0 ∧ ¬ w < mnE σ e - 1 else w = mnE σ e
theorem tk_iff {σ : MS} {w e : Nat} {v : Int32} {n : Nat} : tkN σ w e v n ↔ (mtb σ w e v ∧ ∀ p, p < n → fitP σ (σ 23 p) (σ 24 p) (kindF σ e p v) (dimF σ e p v)) := tkN_def
/-- the parts that are asked for are there -/
theorem kdh_of {σ : MS} {w e p : Nat} {v : Int32} {n : Nat} (ho : ptO σ n e) (h : mtb σ w e v) (hp : p < w) : kdH σ e p v := by
  refine ⟨fun q => ?_, fun q => ?_⟩
  · rw [mtb, if_neg (fun r => r q)] at h; omega
  · rw [mtb, if_pos q] at h; exact ho.1 h.1
theorem kindF_ok {σ : MS} {e p n : Nat} {v : Int32} (ho : ptO σ n e) (h : kdH σ e p v) : kdn n (kindF σ e p v) ∧ ¬ kindF σ e p v = 9 := by
  unfold kindF
  by_cases q : v = 0
  · rw [if_neg (fun r => r.1 q)]; exact ho.2 p (h.1 q)
  · by_cases r : p < mnE σ e
    · rw [if_neg (fun z => z.2 r)]; exact ho.2 p r
    · rw [if_pos ⟨q, r⟩]; have := h.2 q; exact ho.2 _ (by omega)
def inb (σ : MS) (ft : Nat → Int32) (w e : Nat) (v : Int32) (n : Nat) : Bool := decide (∀ o, o < n → ¬ ft o = 0 → nrN σ e o v (max w (max (mnE σ e) (mnE σ o))))
abbrev inP (σ : MS) (ft : Nat → Int32) (w e : Nat) (v : Int32) (n : Nat) : Prop := inb σ ft w e v n = true
theorem inP_def {σ : MS} {ft : Nat → Int32} {w e : Nat} {v : Int32} {n : Nat} : inP σ ft w e v n ↔ (∀ o, o < n → ¬ ft o = 0 → nrN σ e o v (max w (max (mnE σ e) (mnE σ o)))) := decide_eq_true_iff
/-- the nearest, from place i on, of f places; a is what was found before -/
def nfF (σ : MS) (ft : Nat → Int32) (w : Nat) (v : Int32) (K : Nat) : Nat → Nat → Int32 → Int32
  | 0, _, a => a
  | f + 1, i, a => if ¬ ft i = 0 ∧ inP σ ft w i v K then (if a = -2 then nfF σ ft w v K f (i + 1) (nI i) else -2) else nfF σ ft w v K f (i + 1) a
theorem nfF_u {σ : MS} {ft : Nat → Int32} {w : Nat} {v : Int32} {K i : Nat} {a : Int32} (h : i < K) : nfF σ ft w v K (K - i) i a = if ¬ ft i = 0 ∧ inP σ ft w i v K then (if a = -2 then nfF σ ft w v K (K - (i + 1)) (i + 1) (nI i) else -2) else nfF σ ft w v K (K - (i + 1)) (i + 1) a := by
  obtain ⟨z, hz⟩ : ∃ z, K - i = z + 1 := ⟨K - i - 1, by omega⟩
  rw [hz, show K - (i + 1) = z by omega]; rfl
def eaF (ea : Nat → Nat → Nat) (k : Nat) (t : Int32) : Option Nat := if okN k t then some (ea t.toNatClampNeg 0) else none
theorem eaF_t {ea : Nat → Nat → Nat} {k j : Nat} (h : j < k) (hk : k ≤ 60) : eaF ea k (nI j) = some (ea j 0) := by
  unfold eaF; rw [if_pos (okN_nI (by omega) h), nI_clamp (by omega)]
theorem eaF_f {ea : Nat → Nat → Nat} {k : Nat} {t : Int32} (h : ¬ okN k t) : eaF ea k t = none := if_neg h
section RQ
variable {p : Program} {l : Launch} {e : Env} {R : Room} {s : State} {m : MethodId} {args : Array Value} {below : List Frame} {meth : Method} {c : Code} {H : Heap} {locs : List Loc} {cells slots : Nat}
theorem ro_qret {cc : ByteArray} {pc : Nat} {ls : Array Slot} {r : Option Nat} {post : Option Nat → Prop} {free : Addr → Prop} {nm : String} (hx : p.tables.exec = Jvm.exec) (hb : c.code = cc) (hr : meth.sig.returnType = some (.object nm)) (hH : s.heap = H) (hlocks : meth.locks = false) (hdg : decode cc pc = .ok (.areturn, 1)) (hp : post r) : W p l e R s m args below meth c H [] cells slots (MQ below (va_Sq post) args s cells slots free) (F0 m pc ls [va_rf r]) :=
  W.aret hx hb hr (Or.inl ⟨nm, rfl⟩) (va_rf_or r) (fun t ht _ => ⟨r, rfl, hp, ht.trans hH.symm⟩) (fun _ h => nomatch h) hdg hlocks
end RQ

theorem dX7_entryAt_0 : decode cX7_entryAt 0 = .ok (.iload_n 1, 1) := by decide +kernel
theorem dX7_entryAt_1 : decode cX7_entryAt 1 = .ok (.ifCond .lt 20, 3) := by decide +kernel
theorem dX7_entryAt_21 : decode cX7_entryAt 21 = .ok (.aconst_null, 1) := by decide +kernel
theorem dX7_entryAt_22 : decode cX7_entryAt 22 = .ok (.areturn, 1) := by decide +kernel
theorem dX7_entryAt_4 : decode cX7_entryAt 4 = .ok (.iload_n 1, 1) := by decide +kernel
theorem dX7_entryAt_5 : decode cX7_entryAt 5 = .ok (.aload_n 0, 1) := by decide +kernel
theorem q_75 : Cond.fieldLink "FieldMember" 61 "FieldMember" "entryCount" "I" ∈ TT := tt_t (i := 75) (by decide +kernel) (by decide +kernel)
theorem dX7_entryAt_6 : decode cX7_entryAt 6 = .ok (.getfield 61, 3) := by decide +kernel
theorem dX7_entryAt_9 : decode cX7_entryAt 9 = .ok (.if_icmp .ge 12, 3) := by decide +kernel
theorem dX7_entryAt_12 : decode cX7_entryAt 12 = .ok (.aload_n 0, 1) := by decide +kernel
theorem q_74 : Cond.fieldLink "FieldMember" 18 "FieldMember" "entries" "[LFieldMember$Entry;" ∈ TT := tt_t (i := 74) (by decide +kernel) (by decide +kernel)
theorem dX7_entryAt_13 : decode cX7_entryAt 13 = .ok (.getfield 18, 3) := by decide +kernel
theorem dX7_entryAt_16 : decode cX7_entryAt 16 = .ok (.iload_n 1, 1) := by decide +kernel
theorem dX7_entryAt_17 : decode cX7_entryAt 17 = .ok (.aaload, 1) := by decide +kernel
theorem dX7_entryAt_18 : decode cX7_entryAt 18 = .ok (.goto 4, 3) := by decide +kernel
theorem dX7_ownField_0 : decode cX7_ownField 0 = .ok (.iconst 0, 1) := by decide +kernel
theorem dX7_ownField_1 : decode cX7_ownField 1 = .ok (.istore_n 3, 1) := by decide +kernel
theorem dX7_ownField_2 : decode cX7_ownField 2 = .ok (.iload_n 3, 1) := by decide +kernel
theorem dX7_ownField_3 : decode cX7_ownField 3 = .ok (.aload_n 0, 1) := by decide +kernel
theorem dX7_ownField_4 : decode cX7_ownField 4 = .ok (.getfield 61, 3) := by decide +kernel
theorem dX7_ownField_7 : decode cX7_ownField 7 = .ok (.if_icmp .ge 45, 3) := by decide +kernel
theorem dX7_ownField_52 : decode cX7_ownField 52 = .ok (.iconst (-1), 1) := by decide +kernel
theorem dX7_ownField_53 : decode cX7_ownField 53 = .ok (.ireturn, 1) := by decide +kernel
theorem dX7_ownField_10 : decode cX7_ownField 10 = .ok (.aload_n 0, 1) := by decide +kernel
theorem dX7_ownField_11 : decode cX7_ownField 11 = .ok (.getfield 18, 3) := by decide +kernel
theorem dX7_ownField_14 : decode cX7_ownField 14 = .ok (.iload_n 3, 1) := by decide +kernel
theorem dX7_ownField_15 : decode cX7_ownField 15 = .ok (.aaload, 1) := by decide +kernel
theorem dX7_ownField_16 : decode cX7_ownField 16 = .ok (.astore 4, 2) := by decide +kernel
theorem dX7_ownField_18 : decode cX7_ownField 18 = .ok (.aload 4, 2) := by decide +kernel
theorem q_203 : Cond.classLink "FieldMember" 96 "FieldMember$Field" ∈ TT := tt_t (i := 203) (by decide +kernel) (by decide +kernel)
theorem dX7_ownField_20 : decode cX7_ownField 20 = .ok (.instanceof 96, 3) := by decide +kernel
theorem dX7_ownField_23 : decode cX7_ownField 23 = .ok (.ifCond .eq 23, 3) := by decide +kernel
theorem dX7_ownField_46 : decode cX7_ownField 46 = .ok (.iinc 3 1, 3) := by decide +kernel
theorem dX7_ownField_49 : decode cX7_ownField 49 = .ok (.goto (-47), 3) := by decide +kernel
theorem dX7_ownField_26 : decode cX7_ownField 26 = .ok (.aload 4, 2) := by decide +kernel
theorem q_219 : Cond.fieldLink "FieldMember" 199 "FieldMember$Entry" "type" "I" ∈ TT := tt_t (i := 219) (by decide +kernel) (by decide +kernel)
theorem dX7_ownField_28 : decode cX7_ownField 28 = .ok (.getfield 199, 3) := by decide +kernel
theorem dX7_ownField_31 : decode cX7_ownField 31 = .ok (.iload_n 1, 1) := by decide +kernel
theorem dX7_ownField_32 : decode cX7_ownField 32 = .ok (.if_icmp .ne 14, 3) := by decide +kernel
theorem dX7_ownField_35 : decode cX7_ownField 35 = .ok (.aload 4, 2) := by decide +kernel
theorem q_225 : Cond.fieldLink "FieldMember" 202 "FieldMember$Entry" "name" "I" ∈ TT := tt_t (i := 225) (by decide +kernel) (by decide +kernel)
theorem dX7_ownField_37 : decode cX7_ownField 37 = .ok (.getfield 202, 3) := by decide +kernel
theorem dX7_ownField_40 : decode cX7_ownField 40 = .ok (.iload_n 2, 1) := by decide +kernel
theorem dX7_ownField_41 : decode cX7_ownField 41 = .ok (.if_icmp .ne 5, 3) := by decide +kernel
theorem dX7_ownField_44 : decode cX7_ownField 44 = .ok (.iload_n 3, 1) := by decide +kernel
theorem dX7_ownField_45 : decode cX7_ownField 45 = .ok (.ireturn, 1) := by decide +kernel
theorem dX7_isUnknownKind_0 : decode cX7_isUnknownKind 0 = .ok (.iload_n 1, 1) := by decide +kernel
theorem dX7_isUnknownKind_1 : decode cX7_isUnknownKind 1 = .ok (.bipush 10, 2) := by decide +kernel
theorem dX7_isUnknownKind_3 : decode cX7_isUnknownKind 3 = .ok (.if_icmp .lt 21, 3) := by decide +kernel
theorem dX7_isUnknownKind_24 : decode cX7_isUnknownKind 24 = .ok (.iconst 0, 1) := by decide +kernel
theorem dX7_isUnknownKind_25 : decode cX7_isUnknownKind 25 = .ok (.ireturn, 1) := by decide +kernel
theorem dX7_isUnknownKind_6 : decode cX7_isUnknownKind 6 = .ok (.aload_n 0, 1) := by decide +kernel
theorem q_73 : Cond.fieldLink "FieldMember" 12 "FieldMember" "types" "LFieldMember$Types;" ∈ TT := tt_t (i := 73) (by decide +kernel) (by decide +kernel)
theorem dX7_isUnknownKind_7 : decode cX7_isUnknownKind 7 = .ok (.getfield 12, 3) := by decide +kernel
theorem dX7_isUnknownKind_10 : decode cX7_isUnknownKind 10 = .ok (.iload_n 1, 1) := by decide +kernel
theorem dX7_isUnknownKind_11 : decode cX7_isUnknownKind 11 = .ok (.bipush 10, 2) := by decide +kernel
theorem dX7_isUnknownKind_13 : decode cX7_isUnknownKind 13 = .ok (.isub, 1) := by decide +kernel
theorem q_144 : Cond.methodLink "FieldMember" 51 ⟨"FieldMember$Types", "has", "(I)Z"⟩ ∈ TT := tt_t (i := 144) (by decide +kernel) (by decide +kernel)
theorem gV_X7_X6_has : GoodIn TT (wsV RX7 51 RX6 yX6_has (ww yX6_has cX6_has 2 (some .boolean))) := tt_V q_144 q_121 q_122 q_2 q_123
theorem dX7_isUnknownKind_14 : decode cX7_isUnknownKind 14 = .ok (.invokevirtual 51, 3) := by decide +kernel
theorem dX7_isUnknownKind_17 : decode cX7_isUnknownKind 17 = .ok (.ifCond .ne 7, 3) := by decide +kernel
theorem dX7_isUnknownKind_20 : decode cX7_isUnknownKind 20 = .ok (.iconst 1, 1) := by decide +kernel
theorem dX7_isUnknownKind_21 : decode cX7_isUnknownKind 21 = .ok (.goto 4, 3) := by decide +kernel
theorem dX7_refusalOfNew_0 : decode cX7_refusalOfNew 0 = .ok (.aload_n 0, 1) := by decide +kernel
theorem dX7_refusalOfNew_1 : decode cX7_refusalOfNew 1 = .ok (.getfield 12, 3) := by decide +kernel
theorem dX7_refusalOfNew_4 : decode cX7_refusalOfNew 4 = .ok (.iload_n 1, 1) := by decide +kernel
theorem dX7_refusalOfNew_5 : decode cX7_refusalOfNew 5 = .ok (.invokevirtual 51, 3) := by decide +kernel
theorem dX7_refusalOfNew_8 : decode cX7_refusalOfNew 8 = .ok (.ifCond .eq 11, 3) := by decide +kernel
theorem dX7_refusalOfNew_19 : decode cX7_refusalOfNew 19 = .ok (.bipush (-11), 2) := by decide +kernel
theorem dX7_refusalOfNew_21 : decode cX7_refusalOfNew 21 = .ok (.ireturn, 1) := by decide +kernel
theorem dX7_refusalOfNew_11 : decode cX7_refusalOfNew 11 = .ok (.aload_n 0, 1) := by decide +kernel
theorem dX7_refusalOfNew_12 : decode cX7_refusalOfNew 12 = .ok (.iload_n 3, 1) := by decide +kernel
theorem q_179 : Cond.methodLink "FieldMember" 165 ⟨"FieldMember", "isUnknownKind", "(I)Z"⟩ ∈ TT := tt_t (i := 179) (by decide +kernel) (by decide +kernel)
theorem q_182 : Cond.code ⟨"FieldMember", "isUnknownKind", "(I)Z"⟩ prog_1_method_24_code 2 (some .boolean) ∈ TT := tt_t (i := 182) (by decide +kernel) (by decide +kernel)
theorem q_181 : Cond.instanceMethod ⟨"FieldMember", "isUnknownKind", "(I)Z"⟩ ∈ TT := tt_t (i := 181) (by decide +kernel) (by decide +kernel)
theorem qs_2 : Cond.selects "FieldMember" ⟨"FieldMember", "isUnknownKind", "(I)Z"⟩ ⟨"FieldMember", "isUnknownKind", "(I)Z"⟩ ∈ TT := tt_s (i := 2) (by decide +kernel) (by decide +kernel)
theorem gV_X7_X7_isUnknownKind : GoodIn TT (wsV RX7 165 RX7 yX7_isUnknownKind (ww yX7_isUnknownKind cX7_isUnknownKind 2 (some .boolean))) := tt_V q_179 q_181 qs_2 q_1 q_182
theorem hdV_X7_isUnknownKind : yX7_isUnknownKind.cls = RX7 ∧ yX7_isUnknownKind.cls ≠ "java/lang/invoke/MethodHandle" ∧ yX7_isUnknownKind.cls ≠ "java/lang/invoke/VarHandle" ∧ (parseMethodDescriptor yX7_isUnknownKind.desc).map (fun d => d.parameters.length) = some 1 := by decide +kernel
theorem dX7_refusalOfNew_13 : decode cX7_refusalOfNew 13 = .ok (.invokevirtual 165, 3) := by decide +kernel
theorem dX7_refusalOfNew_16 : decode cX7_refusalOfNew 16 = .ok (.ifCond .eq 6, 3) := by decide +kernel
theorem dX7_refusalOfNew_22 : decode cX7_refusalOfNew 22 = .ok (.iload_n 2, 1) := by decide +kernel
theorem q_183 : Cond.methodLink "FieldMember" 228 ⟨"FieldMember", "isName", "(I)Z"⟩ ∈ TT := tt_t (i := 183) (by decide +kernel) (by decide +kernel)
theorem q_185 : Cond.code ⟨"FieldMember", "isName", "(I)Z"⟩ prog_1_method_23_code 1 (some .boolean) ∈ TT := tt_t (i := 185) (by decide +kernel) (by decide +kernel)
theorem q_184 : Cond.static ⟨"FieldMember", "isName", "(I)Z"⟩ ∈ TT := tt_t (i := 184) (by decide +kernel) (by decide +kernel)
theorem gS_X7_X7_isName : GoodIn TT (va_wsS RX7 228 yX7_isName (ww yX7_isName cX7_isName 1 (some .boolean))) := tt_S q_183 q_184 q_1 q_185
theorem hdS_X7_isName : yX7_isName.cls ≠ "java/lang/invoke/MethodHandle" ∧ yX7_isName.cls ≠ "java/lang/invoke/VarHandle" ∧ (parseMethodDescriptor yX7_isName.desc).map (fun d => d.parameters.length) = some 1 := by decide +kernel
theorem dX7_refusalOfNew_23 : decode cX7_refusalOfNew 23 = .ok (.invokestatic 228, 3) := by decide +kernel
theorem dX7_refusalOfNew_26 : decode cX7_refusalOfNew 26 = .ok (.ifCond .eq 25, 3) := by decide +kernel
theorem dX7_refusalOfNew_51 : decode cX7_refusalOfNew 51 = .ok (.bipush (-13), 2) := by decide +kernel
theorem dX7_refusalOfNew_53 : decode cX7_refusalOfNew 53 = .ok (.ireturn, 1) := by decide +kernel
theorem dX7_refusalOfNew_29 : decode cX7_refusalOfNew 29 = .ok (.iload_n 3, 1) := by decide +kernel
theorem dX7_refusalOfNew_30 : decode cX7_refusalOfNew 30 = .ok (.iload 4, 2) := by decide +kernel
theorem q_186 : Cond.methodLink "FieldMember" 168 ⟨"FieldMember", "mayBeDeclared", "(II)Z"⟩ ∈ TT := tt_t (i := 186) (by decide +kernel) (by decide +kernel)
theorem q_188 : Cond.code ⟨"FieldMember", "mayBeDeclared", "(II)Z"⟩ prog_1_method_26_code 2 (some .boolean) ∈ TT := tt_t (i := 188) (by decide +kernel) (by decide +kernel)
theorem q_187 : Cond.static ⟨"FieldMember", "mayBeDeclared", "(II)Z"⟩ ∈ TT := tt_t (i := 187) (by decide +kernel) (by decide +kernel)
theorem gS_X7_X7_mayBeDeclared : GoodIn TT (va_wsS RX7 168 yX7_mayBeDeclared (ww yX7_mayBeDeclared cX7_mayBeDeclared 2 (some .boolean))) := tt_S q_186 q_187 q_1 q_188
theorem hdS_X7_mayBeDeclared : yX7_mayBeDeclared.cls ≠ "java/lang/invoke/MethodHandle" ∧ yX7_mayBeDeclared.cls ≠ "java/lang/invoke/VarHandle" ∧ (parseMethodDescriptor yX7_mayBeDeclared.desc).map (fun d => d.parameters.length) = some 2 := by decide +kernel
theorem dX7_refusalOfNew_32 : decode cX7_refusalOfNew 32 = .ok (.invokestatic 168, 3) := by decide +kernel
theorem dX7_refusalOfNew_35 : decode cX7_refusalOfNew 35 = .ok (.ifCond .eq 16, 3) := by decide +kernel
theorem dX7_refusalOfNew_38 : decode cX7_refusalOfNew 38 = .ok (.iload 5, 2) := by decide +kernel
theorem dX7_refusalOfNew_40 : decode cX7_refusalOfNew 40 = .ok (.ifCond .lt 11, 3) := by decide +kernel
theorem dX7_refusalOfNew_43 : decode cX7_refusalOfNew 43 = .ok (.iload 5, 2) := by decide +kernel
theorem dX7_refusalOfNew_45 : decode cX7_refusalOfNew 45 = .ok (.sipush 2047, 3) := by decide +kernel
theorem dX7_refusalOfNew_48 : decode cX7_refusalOfNew 48 = .ok (.if_icmp .le 6, 3) := by decide +kernel
theorem dX7_refusalOfNew_54 : decode cX7_refusalOfNew 54 = .ok (.aload_n 0, 1) := by decide +kernel
theorem q_76 : Cond.fieldLink "FieldMember" 65 "FieldMember" "begun" "LFieldMember$Member;" ∈ TT := tt_t (i := 76) (by decide +kernel) (by decide +kernel)
theorem dX7_refusalOfNew_55 : decode cX7_refusalOfNew 55 = .ok (.getfield 65, 3) := by decide +kernel
theorem dX7_refusalOfNew_58 : decode cX7_refusalOfNew 58 = .ok (.ifnull 6, 3) := by decide +kernel
theorem dX7_refusalOfNew_64 : decode cX7_refusalOfNew 64 = .ok (.aload_n 0, 1) := by decide +kernel
theorem dX7_refusalOfNew_65 : decode cX7_refusalOfNew 65 = .ok (.getfield 61, 3) := by decide +kernel
theorem dX7_refusalOfNew_68 : decode cX7_refusalOfNew 68 = .ok (.bipush 60, 2) := by decide +kernel
theorem dX7_refusalOfNew_70 : decode cX7_refusalOfNew 70 = .ok (.if_icmp .lt 8, 3) := by decide +kernel
theorem dX7_refusalOfNew_78 : decode cX7_refusalOfNew 78 = .ok (.iconst 0, 1) := by decide +kernel
theorem dX7_refusalOfNew_79 : decode cX7_refusalOfNew 79 = .ok (.ireturn, 1) := by decide +kernel
theorem dX7_refusalOfNew_73 : decode cX7_refusalOfNew 73 = .ok (.bipush (-15), 2) := by decide +kernel
theorem dX7_refusalOfNew_75 : decode cX7_refusalOfNew 75 = .ok (.goto 4, 3) := by decide +kernel
theorem dX7_refusalOfNew_61 : decode cX7_refusalOfNew 61 = .ok (.bipush (-14), 2) := by decide +kernel
theorem dX7_refusalOfNew_63 : decode cX7_refusalOfNew 63 = .ok (.ireturn, 1) := by decide +kernel
theorem dX7_areBelow_0 : decode cX7_areBelow 0 = .ok (.iload_n 1, 1) := by decide +kernel
theorem dX7_areBelow_1 : decode cX7_areBelow 1 = .ok (.bipush 10, 2) := by decide +kernel
theorem dX7_areBelow_3 : decode cX7_areBelow 3 = .ok (.if_icmp .lt 31, 3) := by decide +kernel
theorem dX7_areBelow_34 : decode cX7_areBelow 34 = .ok (.iconst 0, 1) := by decide +kernel
theorem dX7_areBelow_35 : decode cX7_areBelow 35 = .ok (.ireturn, 1) := by decide +kernel
theorem dX7_areBelow_6 : decode cX7_areBelow 6 = .ok (.iload_n 2, 1) := by decide +kernel
theorem dX7_areBelow_7 : decode cX7_areBelow 7 = .ok (.bipush 10, 2) := by decide +kernel
theorem dX7_areBelow_9 : decode cX7_areBelow 9 = .ok (.if_icmp .lt 25, 3) := by decide +kernel
theorem dX7_areBelow_12 : decode cX7_areBelow 12 = .ok (.aload_n 0, 1) := by decide +kernel
theorem dX7_areBelow_13 : decode cX7_areBelow 13 = .ok (.getfield 12, 3) := by decide +kernel
theorem dX7_areBelow_16 : decode cX7_areBelow 16 = .ok (.iload_n 1, 1) := by decide +kernel
theorem dX7_areBelow_17 : decode cX7_areBelow 17 = .ok (.bipush 10, 2) := by decide +kernel
theorem dX7_areBelow_19 : decode cX7_areBelow 19 = .ok (.isub, 1) := by decide +kernel
theorem dX7_areBelow_20 : decode cX7_areBelow 20 = .ok (.iload_n 2, 1) := by decide +kernel
theorem dX7_areBelow_21 : decode cX7_areBelow 21 = .ok (.bipush 10, 2) := by decide +kernel
theorem dX7_areBelow_23 : decode cX7_areBelow 23 = .ok (.isub, 1) := by decide +kernel
theorem q_164 : Cond.methodLink "FieldMember" 72 ⟨"FieldMember$Types", "isBelow", "(II)Z"⟩ ∈ TT := tt_t (i := 164) (by decide +kernel) (by decide +kernel)
theorem q_167 : Cond.code ⟨"FieldMember$Types", "isBelow", "(II)Z"⟩ prog_8_method_9_code 3 (some .boolean) ∈ TT := tt_t (i := 167) (by decide +kernel) (by decide +kernel)
theorem q_165 : Cond.instanceMethod ⟨"FieldMember$Types", "isBelow", "(II)Z"⟩ ∈ TT := tt_t (i := 165) (by decide +kernel) (by decide +kernel)
theorem q_166 : Cond.selects "FieldMember$Types" ⟨"FieldMember$Types", "isBelow", "(II)Z"⟩ ⟨"FieldMember$Types", "isBelow", "(II)Z"⟩ ∈ TT := tt_t (i := 166) (by decide +kernel) (by decide +kernel)
theorem gV_X7_X6_isBelow : GoodIn TT (wsV RX7 72 RX6 yX6_isBelow (ww yX6_isBelow cX6_isBelow 3 (some .boolean))) := tt_V q_164 q_165 q_166 q_2 q_167
theorem hdV_X6_isBelow : yX6_isBelow.cls = RX6 ∧ yX6_isBelow.cls ≠ "java/lang/invoke/MethodHandle" ∧ yX6_isBelow.cls ≠ "java/lang/invoke/VarHandle" ∧ (parseMethodDescriptor yX6_isBelow.desc).map (fun d => d.parameters.length) = some 2 := by decide +kernel
theorem dX7_areBelow_24 : decode cX7_areBelow 24 = .ok (.invokevirtual 72, 3) := by decide +kernel
theorem dX7_areBelow_27 : decode cX7_areBelow 27 = .ok (.ifCond .eq 7, 3) := by decide +kernel
theorem dX7_areBelow_30 : decode cX7_areBelow 30 = .ok (.iconst 1, 1) := by decide +kernel
theorem dX7_areBelow_31 : decode cX7_areBelow 31 = .ok (.goto 4, 3) := by decide +kernel
theorem dX7_fits_0 : decode cX7_fits 0 = .ok (.iload_n 1, 1) := by decide +kernel
theorem dX7_fits_1 : decode cX7_fits 1 = .ok (.bipush 9, 2) := by decide +kernel
theorem dX7_fits_3 : decode cX7_fits 3 = .ok (.if_icmp .ne 20, 3) := by decide +kernel
theorem dX7_fits_23 : decode cX7_fits 23 = .ok (.iload_n 2, 1) := by decide +kernel
theorem dX7_fits_24 : decode cX7_fits 24 = .ok (.iload 4, 2) := by decide +kernel
theorem dX7_fits_26 : decode cX7_fits 26 = .ok (.if_icmp .eq 5, 3) := by decide +kernel
theorem dX7_fits_31 : decode cX7_fits 31 = .ok (.iload_n 1, 1) := by decide +kernel
theorem dX7_fits_32 : decode cX7_fits 32 = .ok (.iload_n 3, 1) := by decide +kernel
theorem dX7_fits_33 : decode cX7_fits 33 = .ok (.if_icmp .eq 24, 3) := by decide +kernel
theorem dX7_fits_57 : decode cX7_fits 57 = .ok (.iconst 1, 1) := by decide +kernel
theorem dX7_fits_58 : decode cX7_fits 58 = .ok (.goto 4, 3) := by decide +kernel
theorem dX7_fits_62 : decode cX7_fits 62 = .ok (.ireturn, 1) := by decide +kernel
theorem dX7_fits_36 : decode cX7_fits 36 = .ok (.aload_n 0, 1) := by decide +kernel
theorem dX7_fits_37 : decode cX7_fits 37 = .ok (.iload_n 1, 1) := by decide +kernel
theorem dX7_fits_38 : decode cX7_fits 38 = .ok (.iload_n 3, 1) := by decide +kernel
theorem q_399 : Cond.methodLink "FieldMember" 296 ⟨"FieldMember", "areBelow", "(II)Z"⟩ ∈ TT := tt_t (i := 399) (by decide +kernel) (by decide +kernel)
theorem q_402 : Cond.code ⟨"FieldMember", "areBelow", "(II)Z"⟩ prog_1_method_40_code 3 (some .boolean) ∈ TT := tt_t (i := 402) (by decide +kernel) (by decide +kernel)
theorem q_401 : Cond.instanceMethod ⟨"FieldMember", "areBelow", "(II)Z"⟩ ∈ TT := tt_t (i := 401) (by decide +kernel) (by decide +kernel)
theorem qs_13 : Cond.selects "FieldMember" ⟨"FieldMember", "areBelow", "(II)Z"⟩ ⟨"FieldMember", "areBelow", "(II)Z"⟩ ∈ TT := tt_s (i := 13) (by decide +kernel) (by decide +kernel)
theorem gV_X7_X7_areBelow : GoodIn TT (wsV RX7 296 RX7 yX7_areBelow (ww yX7_areBelow cX7_areBelow 3 (some .boolean))) := tt_V q_399 q_401 qs_13 q_1 q_402
theorem hdV_X7_areBelow : yX7_areBelow.cls = RX7 ∧ yX7_areBelow.cls ≠ "java/lang/invoke/MethodHandle" ∧ yX7_areBelow.cls ≠ "java/lang/invoke/VarHandle" ∧ (parseMethodDescriptor yX7_areBelow.desc).map (fun d => d.parameters.length) = some 2 := by decide +kernel
theorem dX7_fits_39 : decode cX7_fits 39 = .ok (.invokevirtual 296, 3) := by decide +kernel
theorem dX7_fits_42 : decode cX7_fits 42 = .ok (.ifCond .ne 15, 3) := by decide +kernel
theorem dX7_fits_45 : decode cX7_fits 45 = .ok (.iload_n 2, 1) := by decide +kernel
theorem dX7_fits_46 : decode cX7_fits 46 = .ok (.ifCond .ne 15, 3) := by decide +kernel
theorem dX7_fits_61 : decode cX7_fits 61 = .ok (.iconst 0, 1) := by decide +kernel
theorem dX7_fits_49 : decode cX7_fits 49 = .ok (.iload_n 1, 1) := by decide +kernel
theorem dX7_fits_50 : decode cX7_fits 50 = .ok (.iload_n 3, 1) := by decide +kernel
theorem q_486 : Cond.methodLink "FieldMember" 343 ⟨"FieldMember", "widens", "(II)Z"⟩ ∈ TT := tt_t (i := 486) (by decide +kernel) (by decide +kernel)
theorem q_488 : Cond.code ⟨"FieldMember", "widens", "(II)Z"⟩ prog_1_method_54_code 2 (some .boolean) ∈ TT := tt_t (i := 488) (by decide +kernel) (by decide +kernel)
theorem q_487 : Cond.static ⟨"FieldMember", "widens", "(II)Z"⟩ ∈ TT := tt_t (i := 487) (by decide +kernel) (by decide +kernel)
theorem gS_X7_X7_widens : GoodIn TT (va_wsS RX7 343 yX7_widens (ww yX7_widens cX7_widens 2 (some .boolean))) := tt_S q_486 q_487 q_1 q_488
theorem hdS_X7_widens : yX7_widens.cls ≠ "java/lang/invoke/MethodHandle" ∧ yX7_widens.cls ≠ "java/lang/invoke/VarHandle" ∧ (parseMethodDescriptor yX7_widens.desc).map (fun d => d.parameters.length) = some 2 := by decide +kernel
theorem dX7_fits_51 : decode cX7_fits 51 = .ok (.invokestatic 343, 3) := by decide +kernel
theorem dX7_fits_54 : decode cX7_fits 54 = .ok (.ifCond .eq 7, 3) := by decide +kernel
theorem dX7_fits_29 : decode cX7_fits 29 = .ok (.iconst 0, 1) := by decide +kernel
theorem dX7_fits_30 : decode cX7_fits 30 = .ok (.ireturn, 1) := by decide +kernel
theorem dX7_fits_6 : decode cX7_fits 6 = .ok (.iload 4, 2) := by decide +kernel
theorem dX7_fits_8 : decode cX7_fits 8 = .ok (.ifCond .gt 9, 3) := by decide +kernel
theorem dX7_fits_17 : decode cX7_fits 17 = .ok (.iconst 1, 1) := by decide +kernel
theorem dX7_fits_18 : decode cX7_fits 18 = .ok (.goto 4, 3) := by decide +kernel
theorem dX7_fits_22 : decode cX7_fits 22 = .ok (.ireturn, 1) := by decide +kernel
theorem dX7_fits_11 : decode cX7_fits 11 = .ok (.iload_n 3, 1) := by decide +kernel
theorem dX7_fits_12 : decode cX7_fits 12 = .ok (.bipush 10, 2) := by decide +kernel
theorem dX7_fits_14 : decode cX7_fits 14 = .ok (.if_icmp .lt 7, 3) := by decide +kernel
theorem dX7_fits_21 : decode cX7_fits 21 = .ok (.iconst 0, 1) := by decide +kernel
theorem dX7_isStaticOfFace_0 : decode cX7_isStaticOfFace 0 = .ok (.aload_n 1, 1) := by decide +kernel
theorem dX7_isStaticOfFace_1 : decode cX7_isStaticOfFace 1 = .ok (.bipush 8, 2) := by decide +kernel
theorem q_384 : Cond.methodLink "FieldMember" 281 ⟨"FieldMember$Member", "hasAny", "(I)Z"⟩ ∈ TT := tt_t (i := 384) (by decide +kernel) (by decide +kernel)
theorem q_385 : Cond.sameMethod "FieldMember$Member" "FieldMember$Entry" "hasAny" "(I)Z" ∈ TT := tt_t (i := 385) (by decide +kernel) (by decide +kernel)
theorem q_386 : Cond.selects "FieldMember$Member" ⟨"FieldMember$Member", "hasAny", "(I)Z"⟩ ⟨"FieldMember$Entry", "hasAny", "(I)Z"⟩ ∈ TT := tt_t (i := 386) (by decide +kernel) (by decide +kernel)
theorem gU_X7_281_X3 : GoodIn TT (va_wsU RX7 281 RX3 "FieldMember$Entry" ⟨"FieldMember$Member", "hasAny", "(I)Z"⟩ yX1_hasAny (ww yX1_hasAny cX1_hasAny 2 (some .boolean))) := tt_U q_384 q_385 q_386 q_279 q_7 q_280
theorem dX7_isStaticOfFace_3 : decode cX7_isStaticOfFace 3 = .ok (.invokevirtual 281, 3) := by decide +kernel
theorem dX7_isStaticOfFace_6 : decode cX7_isStaticOfFace 6 = .ok (.ifCond .eq 21, 3) := by decide +kernel
theorem dX7_isStaticOfFace_27 : decode cX7_isStaticOfFace 27 = .ok (.iconst 0, 1) := by decide +kernel
theorem dX7_isStaticOfFace_28 : decode cX7_isStaticOfFace 28 = .ok (.ireturn, 1) := by decide +kernel
theorem dX7_isStaticOfFace_9 : decode cX7_isStaticOfFace 9 = .ok (.aload_n 0, 1) := by decide +kernel
theorem dX7_isStaticOfFace_10 : decode cX7_isStaticOfFace 10 = .ok (.getfield 12, 3) := by decide +kernel
theorem dX7_isStaticOfFace_13 : decode cX7_isStaticOfFace 13 = .ok (.aload_n 1, 1) := by decide +kernel
theorem q_221 : Cond.sameField "FieldMember$Member" "FieldMember$Entry" "type" "I" ∈ TT := tt_t (i := 221) (by decide +kernel) (by decide +kernel)
theorem q_220 : Cond.fieldLink "FieldMember" 269 "FieldMember$Member" "type" "I" ∈ TT := tt_t (i := 220) (by decide +kernel) (by decide +kernel)
theorem dX7_isStaticOfFace_14 : decode cX7_isStaticOfFace 14 = .ok (.getfield 269, 3) := by decide +kernel
theorem q_145 : Cond.methodLink "FieldMember" 54 ⟨"FieldMember$Types", "isFace", "(I)Z"⟩ ∈ TT := tt_t (i := 145) (by decide +kernel) (by decide +kernel)
theorem q_148 : Cond.code ⟨"FieldMember$Types", "isFace", "(I)Z"⟩ prog_8_method_5_code 2 (some .boolean) ∈ TT := tt_t (i := 148) (by decide +kernel) (by decide +kernel)
theorem q_146 : Cond.instanceMethod ⟨"FieldMember$Types", "isFace", "(I)Z"⟩ ∈ TT := tt_t (i := 146) (by decide +kernel) (by decide +kernel)
theorem q_147 : Cond.selects "FieldMember$Types" ⟨"FieldMember$Types", "isFace", "(I)Z"⟩ ⟨"FieldMember$Types", "isFace", "(I)Z"⟩ ∈ TT := tt_t (i := 147) (by decide +kernel) (by decide +kernel)
theorem gV_X7_X6_isFace : GoodIn TT (wsV RX7 54 RX6 yX6_isFace (ww yX6_isFace cX6_isFace 2 (some .boolean))) := tt_V q_145 q_146 q_147 q_2 q_148
theorem hdV_X6_isFace : yX6_isFace.cls = RX6 ∧ yX6_isFace.cls ≠ "java/lang/invoke/MethodHandle" ∧ yX6_isFace.cls ≠ "java/lang/invoke/VarHandle" ∧ (parseMethodDescriptor yX6_isFace.desc).map (fun d => d.parameters.length) = some 1 := by decide +kernel
theorem dX7_isStaticOfFace_17 : decode cX7_isStaticOfFace 17 = .ok (.invokevirtual 54, 3) := by decide +kernel
theorem dX7_isStaticOfFace_20 : decode cX7_isStaticOfFace 20 = .ok (.ifCond .eq 7, 3) := by decide +kernel
theorem dX7_isStaticOfFace_23 : decode cX7_isStaticOfFace 23 = .ok (.iconst 1, 1) := by decide +kernel
theorem dX7_isStaticOfFace_24 : decode cX7_isStaticOfFace 24 = .ok (.goto 4, 3) := by decide +kernel
theorem dX7_meets_0 : decode cX7_meets 0 = .ok (.aload_n 2, 1) := by decide +kernel
theorem dX7_meets_1 : decode cX7_meets 1 = .ok (.getfield 269, 3) := by decide +kernel
theorem dX7_meets_4 : decode cX7_meets 4 = .ok (.aload_n 1, 1) := by decide +kernel
theorem dX7_meets_5 : decode cX7_meets 5 = .ok (.getfield 269, 3) := by decide +kernel
theorem dX7_meets_8 : decode cX7_meets 8 = .ok (.if_icmp .eq 65, 3) := by decide +kernel
theorem dX7_meets_73 : decode cX7_meets 73 = .ok (.iconst 0, 1) := by decide +kernel
theorem dX7_meets_74 : decode cX7_meets 74 = .ok (.ireturn, 1) := by decide +kernel
theorem dX7_meets_11 : decode cX7_meets 11 = .ok (.aload_n 0, 1) := by decide +kernel
theorem dX7_meets_12 : decode cX7_meets 12 = .ok (.getfield 12, 3) := by decide +kernel
theorem dX7_meets_15 : decode cX7_meets 15 = .ok (.aload_n 1, 1) := by decide +kernel
theorem dX7_meets_16 : decode cX7_meets 16 = .ok (.getfield 269, 3) := by decide +kernel
theorem dX7_meets_19 : decode cX7_meets 19 = .ok (.aload_n 2, 1) := by decide +kernel
theorem dX7_meets_20 : decode cX7_meets 20 = .ok (.getfield 269, 3) := by decide +kernel
theorem dX7_meets_23 : decode cX7_meets 23 = .ok (.invokevirtual 72, 3) := by decide +kernel
theorem dX7_meets_26 : decode cX7_meets 26 = .ok (.ifCond .eq 47, 3) := by decide +kernel
theorem dX7_meets_29 : decode cX7_meets 29 = .ok (.aload_n 2, 1) := by decide +kernel
theorem dX7_meets_30 : decode cX7_meets 30 = .ok (.aload_n 1, 1) := by decide +kernel
theorem q_360 : Cond.methodLink "FieldMember" 270 ⟨"FieldMember$Member", "isLike", "(LFieldMember$Member;)Z"⟩ ∈ TT := tt_t (i := 360) (by decide +kernel) (by decide +kernel)
theorem q_363 : Cond.code ⟨"FieldMember$Member", "isLike", "(LFieldMember$Member;)Z"⟩ prog_5_method_2_code 2 (some .boolean) ∈ TT := tt_t (i := 363) (by decide +kernel) (by decide +kernel)
theorem q_361 : Cond.instanceMethod ⟨"FieldMember$Member", "isLike", "(LFieldMember$Member;)Z"⟩ ∈ TT := tt_t (i := 361) (by decide +kernel) (by decide +kernel)
theorem q_362 : Cond.selects "FieldMember$Member" ⟨"FieldMember$Member", "isLike", "(LFieldMember$Member;)Z"⟩ ⟨"FieldMember$Member", "isLike", "(LFieldMember$Member;)Z"⟩ ∈ TT := tt_t (i := 362) (by decide +kernel) (by decide +kernel)
theorem gV_X7_X3_isLike : GoodIn TT (wsV RX7 270 RX3 yX3_isLike (ww yX3_isLike cX3_isLike 2 (some .boolean))) := tt_V q_360 q_361 q_362 q_19 q_363
theorem hdV_X3_isLike : yX3_isLike.cls = RX3 ∧ yX3_isLike.cls ≠ "java/lang/invoke/MethodHandle" ∧ yX3_isLike.cls ≠ "java/lang/invoke/VarHandle" ∧ (parseMethodDescriptor yX3_isLike.desc).map (fun d => d.parameters.length) = some 1 := by decide +kernel
theorem dX7_meets_31 : decode cX7_meets 31 = .ok (.invokevirtual 270, 3) := by decide +kernel
theorem dX7_meets_34 : decode cX7_meets 34 = .ok (.ifCond .eq 39, 3) := by decide +kernel
theorem dX7_meets_37 : decode cX7_meets 37 = .ok (.aload_n 1, 1) := by decide +kernel
theorem dX7_meets_38 : decode cX7_meets 38 = .ok (.iconst 4, 1) := by decide +kernel
theorem dX7_meets_39 : decode cX7_meets 39 = .ok (.invokevirtual 281, 3) := by decide +kernel
theorem dX7_meets_42 : decode cX7_meets 42 = .ok (.ifCond .ne 31, 3) := by decide +kernel
theorem dX7_meets_45 : decode cX7_meets 45 = .ok (.aload_n 2, 1) := by decide +kernel
theorem dX7_meets_46 : decode cX7_meets 46 = .ok (.iconst 4, 1) := by decide +kernel
theorem dX7_meets_47 : decode cX7_meets 47 = .ok (.invokevirtual 281, 3) := by decide +kernel
theorem dX7_meets_50 : decode cX7_meets 50 = .ok (.ifCond .ne 23, 3) := by decide +kernel
theorem dX7_meets_53 : decode cX7_meets 53 = .ok (.aload_n 0, 1) := by decide +kernel
theorem dX7_meets_54 : decode cX7_meets 54 = .ok (.aload_n 1, 1) := by decide +kernel
theorem q_387 : Cond.methodLink "FieldMember" 284 ⟨"FieldMember", "isStaticOfFace", "(LFieldMember$Member;)Z"⟩ ∈ TT := tt_t (i := 387) (by decide +kernel) (by decide +kernel)
theorem q_390 : Cond.code ⟨"FieldMember", "isStaticOfFace", "(LFieldMember$Member;)Z"⟩ prog_1_method_37_code 2 (some .boolean) ∈ TT := tt_t (i := 390) (by decide +kernel) (by decide +kernel)
theorem q_389 : Cond.instanceMethod ⟨"FieldMember", "isStaticOfFace", "(LFieldMember$Member;)Z"⟩ ∈ TT := tt_t (i := 389) (by decide +kernel) (by decide +kernel)
theorem qs_10 : Cond.selects "FieldMember" ⟨"FieldMember", "isStaticOfFace", "(LFieldMember$Member;)Z"⟩ ⟨"FieldMember", "isStaticOfFace", "(LFieldMember$Member;)Z"⟩ ∈ TT := tt_s (i := 10) (by decide +kernel) (by decide +kernel)
theorem gV_X7_X7_isStaticOfFace : GoodIn TT (wsV RX7 284 RX7 yX7_isStaticOfFace (ww yX7_isStaticOfFace cX7_isStaticOfFace 2 (some .boolean))) := tt_V q_387 q_389 qs_10 q_1 q_390
theorem hdV_X7_isStaticOfFace : yX7_isStaticOfFace.cls = RX7 ∧ yX7_isStaticOfFace.cls ≠ "java/lang/invoke/MethodHandle" ∧ yX7_isStaticOfFace.cls ≠ "java/lang/invoke/VarHandle" ∧ (parseMethodDescriptor yX7_isStaticOfFace.desc).map (fun d => d.parameters.length) = some 1 := by decide +kernel
theorem dX7_meets_55 : decode cX7_meets 55 = .ok (.invokevirtual 284, 3) := by decide +kernel
theorem dX7_meets_58 : decode cX7_meets 58 = .ok (.ifCond .ne 15, 3) := by decide +kernel
theorem dX7_meets_61 : decode cX7_meets 61 = .ok (.aload_n 0, 1) := by decide +kernel
theorem dX7_meets_62 : decode cX7_meets 62 = .ok (.aload_n 2, 1) := by decide +kernel
theorem dX7_meets_63 : decode cX7_meets 63 = .ok (.invokevirtual 284, 3) := by decide +kernel
theorem dX7_meets_66 : decode cX7_meets 66 = .ok (.ifCond .ne 7, 3) := by decide +kernel
theorem dX7_meets_69 : decode cX7_meets 69 = .ok (.iconst 1, 1) := by decide +kernel
theorem dX7_meets_70 : decode cX7_meets 70 = .ok (.goto 4, 3) := by decide +kernel
theorem dX7_mayStandForResult_0 : decode cX7_mayStandForResult 0 = .ok (.aload_n 1, 1) := by decide +kernel
theorem q_233 : Cond.sameField "FieldMember$Member" "FieldMember$Entry" "kind" "I" ∈ TT := tt_t (i := 233) (by decide +kernel) (by decide +kernel)
theorem q_232 : Cond.fieldLink "FieldMember" 294 "FieldMember$Member" "kind" "I" ∈ TT := tt_t (i := 232) (by decide +kernel) (by decide +kernel)
theorem dX7_mayStandForResult_1 : decode cX7_mayStandForResult 1 = .ok (.getfield 294, 3) := by decide +kernel
theorem dX7_mayStandForResult_4 : decode cX7_mayStandForResult 4 = .ok (.aload_n 2, 1) := by decide +kernel
theorem dX7_mayStandForResult_5 : decode cX7_mayStandForResult 5 = .ok (.getfield 294, 3) := by decide +kernel
theorem dX7_mayStandForResult_8 : decode cX7_mayStandForResult 8 = .ok (.if_icmp .ne 16, 3) := by decide +kernel
theorem dX7_mayStandForResult_24 : decode cX7_mayStandForResult 24 = .ok (.aload_n 1, 1) := by decide +kernel
theorem q_239 : Cond.sameField "FieldMember$Member" "FieldMember$Entry" "dims" "I" ∈ TT := tt_t (i := 239) (by decide +kernel) (by decide +kernel)
theorem q_238 : Cond.fieldLink "FieldMember" 295 "FieldMember$Member" "dims" "I" ∈ TT := tt_t (i := 238) (by decide +kernel) (by decide +kernel)
theorem dX7_mayStandForResult_25 : decode cX7_mayStandForResult 25 = .ok (.getfield 295, 3) := by decide +kernel
theorem dX7_mayStandForResult_28 : decode cX7_mayStandForResult 28 = .ok (.ifCond .ne 29, 3) := by decide +kernel
theorem dX7_mayStandForResult_57 : decode cX7_mayStandForResult 57 = .ok (.iconst 0, 1) := by decide +kernel
theorem dX7_mayStandForResult_58 : decode cX7_mayStandForResult 58 = .ok (.ireturn, 1) := by decide +kernel
theorem dX7_mayStandForResult_31 : decode cX7_mayStandForResult 31 = .ok (.aload_n 2, 1) := by decide +kernel
theorem dX7_mayStandForResult_32 : decode cX7_mayStandForResult 32 = .ok (.getfield 295, 3) := by decide +kernel
theorem dX7_mayStandForResult_35 : decode cX7_mayStandForResult 35 = .ok (.ifCond .ne 22, 3) := by decide +kernel
theorem dX7_mayStandForResult_38 : decode cX7_mayStandForResult 38 = .ok (.aload_n 0, 1) := by decide +kernel
theorem dX7_mayStandForResult_39 : decode cX7_mayStandForResult 39 = .ok (.aload_n 1, 1) := by decide +kernel
theorem dX7_mayStandForResult_40 : decode cX7_mayStandForResult 40 = .ok (.getfield 294, 3) := by decide +kernel
theorem dX7_mayStandForResult_43 : decode cX7_mayStandForResult 43 = .ok (.aload_n 2, 1) := by decide +kernel
theorem dX7_mayStandForResult_44 : decode cX7_mayStandForResult 44 = .ok (.getfield 294, 3) := by decide +kernel
theorem dX7_mayStandForResult_47 : decode cX7_mayStandForResult 47 = .ok (.invokevirtual 296, 3) := by decide +kernel
theorem dX7_mayStandForResult_50 : decode cX7_mayStandForResult 50 = .ok (.ifCond .eq 7, 3) := by decide +kernel
theorem dX7_mayStandForResult_53 : decode cX7_mayStandForResult 53 = .ok (.iconst 1, 1) := by decide +kernel
theorem dX7_mayStandForResult_54 : decode cX7_mayStandForResult 54 = .ok (.goto 4, 3) := by decide +kernel
theorem dX7_mayStandForResult_11 : decode cX7_mayStandForResult 11 = .ok (.aload_n 1, 1) := by decide +kernel
theorem dX7_mayStandForResult_12 : decode cX7_mayStandForResult 12 = .ok (.getfield 295, 3) := by decide +kernel
theorem dX7_mayStandForResult_15 : decode cX7_mayStandForResult 15 = .ok (.aload_n 2, 1) := by decide +kernel
theorem dX7_mayStandForResult_16 : decode cX7_mayStandForResult 16 = .ok (.getfield 295, 3) := by decide +kernel
theorem dX7_mayStandForResult_19 : decode cX7_mayStandForResult 19 = .ok (.if_icmp .ne 5, 3) := by decide +kernel
theorem dX7_mayStandForResult_22 : decode cX7_mayStandForResult 22 = .ok (.iconst 1, 1) := by decide +kernel
theorem dX7_mayStandForResult_23 : decode cX7_mayStandForResult 23 = .ok (.ireturn, 1) := by decide +kernel
theorem dX7_ruleOfMeeting_0 : decode cX7_ruleOfMeeting 0 = .ok (.aload_n 2, 1) := by decide +kernel
theorem dX7_ruleOfMeeting_1 : decode cX7_ruleOfMeeting 1 = .ok (.bipush 16, 2) := by decide +kernel
theorem dX7_ruleOfMeeting_3 : decode cX7_ruleOfMeeting 3 = .ok (.invokevirtual 281, 3) := by decide +kernel
theorem dX7_ruleOfMeeting_6 : decode cX7_ruleOfMeeting 6 = .ok (.ifCond .eq 6, 3) := by decide +kernel
theorem dX7_ruleOfMeeting_12 : decode cX7_ruleOfMeeting 12 = .ok (.aload_n 2, 1) := by decide +kernel
theorem dX7_ruleOfMeeting_13 : decode cX7_ruleOfMeeting 13 = .ok (.bipush 8, 2) := by decide +kernel
theorem dX7_ruleOfMeeting_15 : decode cX7_ruleOfMeeting 15 = .ok (.invokevirtual 281, 3) := by decide +kernel
theorem dX7_ruleOfMeeting_18 : decode cX7_ruleOfMeeting 18 = .ok (.aload_n 1, 1) := by decide +kernel
theorem dX7_ruleOfMeeting_19 : decode cX7_ruleOfMeeting 19 = .ok (.bipush 8, 2) := by decide +kernel
theorem dX7_ruleOfMeeting_21 : decode cX7_ruleOfMeeting 21 = .ok (.invokevirtual 281, 3) := by decide +kernel
theorem dX7_ruleOfMeeting_24 : decode cX7_ruleOfMeeting 24 = .ok (.if_icmp .eq 6, 3) := by decide +kernel
theorem dX7_ruleOfMeeting_30 : decode cX7_ruleOfMeeting 30 = .ok (.aload_n 0, 1) := by decide +kernel
theorem dX7_ruleOfMeeting_31 : decode cX7_ruleOfMeeting 31 = .ok (.aload_n 1, 1) := by decide +kernel
theorem dX7_ruleOfMeeting_32 : decode cX7_ruleOfMeeting 32 = .ok (.aload_n 2, 1) := by decide +kernel
theorem q_395 : Cond.methodLink "FieldMember" 287 ⟨"FieldMember", "mayStandForResult", "(LFieldMember$Member;LFieldMember$Member;)Z"⟩ ∈ TT := tt_t (i := 395) (by decide +kernel) (by decide +kernel)
theorem q_398 : Cond.code ⟨"FieldMember", "mayStandForResult", "(LFieldMember$Member;LFieldMember$Member;)Z"⟩ prog_1_method_39_code 3 (some .boolean) ∈ TT := tt_t (i := 398) (by decide +kernel) (by decide +kernel)
theorem q_397 : Cond.instanceMethod ⟨"FieldMember", "mayStandForResult", "(LFieldMember$Member;LFieldMember$Member;)Z"⟩ ∈ TT := tt_t (i := 397) (by decide +kernel) (by decide +kernel)
theorem qs_12 : Cond.selects "FieldMember" ⟨"FieldMember", "mayStandForResult", "(LFieldMember$Member;LFieldMember$Member;)Z"⟩ ⟨"FieldMember", "mayStandForResult", "(LFieldMember$Member;LFieldMember$Member;)Z"⟩ ∈ TT := tt_s (i := 12) (by decide +kernel) (by decide +kernel)
theorem gV_X7_X7_mayStandForResult : GoodIn TT (wsV RX7 287 RX7 yX7_mayStandForResult (ww yX7_mayStandForResult cX7_mayStandForResult 3 (some .boolean))) := tt_V q_395 q_397 qs_12 q_1 q_398
theorem hdV_X7_mayStandForResult : yX7_mayStandForResult.cls = RX7 ∧ yX7_mayStandForResult.cls ≠ "java/lang/invoke/MethodHandle" ∧ yX7_mayStandForResult.cls ≠ "java/lang/invoke/VarHandle" ∧ (parseMethodDescriptor yX7_mayStandForResult.desc).map (fun d => d.parameters.length) = some 2 := by decide +kernel
theorem dX7_ruleOfMeeting_33 : decode cX7_ruleOfMeeting 33 = .ok (.invokevirtual 287, 3) := by decide +kernel
theorem dX7_ruleOfMeeting_36 : decode cX7_ruleOfMeeting 36 = .ok (.ifCond .ne 6, 3) := by decide +kernel
theorem dX7_ruleOfMeeting_42 : decode cX7_ruleOfMeeting 42 = .ok (.aload_n 1, 1) := by decide +kernel
theorem q_243 : Cond.sameField "FieldMember$Member" "FieldMember$Entry" "marks" "I" ∈ TT := tt_t (i := 243) (by decide +kernel) (by decide +kernel)
theorem q_242 : Cond.fieldLink "FieldMember" 290 "FieldMember$Member" "marks" "I" ∈ TT := tt_t (i := 242) (by decide +kernel) (by decide +kernel)
theorem dX7_ruleOfMeeting_43 : decode cX7_ruleOfMeeting 43 = .ok (.getfield 290, 3) := by decide +kernel
theorem q_403 : Cond.methodLink "FieldMember" 291 ⟨"FieldMember$Rules", "sightOf", "(I)I"⟩ ∈ TT := tt_t (i := 403) (by decide +kernel) (by decide +kernel)
theorem q_405 : Cond.code ⟨"FieldMember$Rules", "sightOf", "(I)I"⟩ prog_7_method_7_code 1 (some .int) ∈ TT := tt_t (i := 405) (by decide +kernel) (by decide +kernel)
theorem q_404 : Cond.static ⟨"FieldMember$Rules", "sightOf", "(I)I"⟩ ∈ TT := tt_t (i := 404) (by decide +kernel) (by decide +kernel)
theorem gS_X7_X5_sightOf : GoodIn TT (va_wsS RX7 291 yX5_sightOf (ww yX5_sightOf cX5_sightOf 1 (some .int))) := tt_S q_403 q_404 q_6 q_405
theorem hdS_X5_sightOf : yX5_sightOf.cls ≠ "java/lang/invoke/MethodHandle" ∧ yX5_sightOf.cls ≠ "java/lang/invoke/VarHandle" ∧ (parseMethodDescriptor yX5_sightOf.desc).map (fun d => d.parameters.length) = some 1 := by decide +kernel
theorem dX7_ruleOfMeeting_46 : decode cX7_ruleOfMeeting 46 = .ok (.invokestatic 291, 3) := by decide +kernel
theorem dX7_ruleOfMeeting_49 : decode cX7_ruleOfMeeting 49 = .ok (.aload_n 2, 1) := by decide +kernel
theorem dX7_ruleOfMeeting_50 : decode cX7_ruleOfMeeting 50 = .ok (.getfield 290, 3) := by decide +kernel
theorem dX7_ruleOfMeeting_53 : decode cX7_ruleOfMeeting 53 = .ok (.invokestatic 291, 3) := by decide +kernel
theorem dX7_ruleOfMeeting_56 : decode cX7_ruleOfMeeting 56 = .ok (.if_icmp .ge 8, 3) := by decide +kernel
theorem dX7_ruleOfMeeting_64 : decode cX7_ruleOfMeeting 64 = .ok (.iconst 0, 1) := by decide +kernel
theorem dX7_ruleOfMeeting_65 : decode cX7_ruleOfMeeting 65 = .ok (.ireturn, 1) := by decide +kernel
theorem dX7_ruleOfMeeting_59 : decode cX7_ruleOfMeeting 59 = .ok (.bipush 25, 2) := by decide +kernel
theorem dX7_ruleOfMeeting_61 : decode cX7_ruleOfMeeting 61 = .ok (.goto 4, 3) := by decide +kernel
theorem dX7_ruleOfMeeting_39 : decode cX7_ruleOfMeeting 39 = .ok (.bipush 24, 2) := by decide +kernel
theorem dX7_ruleOfMeeting_41 : decode cX7_ruleOfMeeting 41 = .ok (.ireturn, 1) := by decide +kernel
theorem dX7_ruleOfMeeting_27 : decode cX7_ruleOfMeeting 27 = .ok (.bipush 23, 2) := by decide +kernel
theorem dX7_ruleOfMeeting_29 : decode cX7_ruleOfMeeting 29 = .ok (.ireturn, 1) := by decide +kernel
theorem dX7_ruleOfMeeting_9 : decode cX7_ruleOfMeeting 9 = .ok (.bipush 22, 2) := by decide +kernel
theorem dX7_ruleOfMeeting_11 : decode cX7_ruleOfMeeting 11 = .ok (.ireturn, 1) := by decide +kernel
theorem dX7_leastMet_0 : decode cX7_leastMet 0 = .ok (.iconst 0, 1) := by decide +kernel
theorem dX7_leastMet_1 : decode cX7_leastMet 1 = .ok (.istore_n 2, 1) := by decide +kernel
theorem dX7_leastMet_2 : decode cX7_leastMet 2 = .ok (.iload_n 2, 1) := by decide +kernel
theorem dX7_leastMet_3 : decode cX7_leastMet 3 = .ok (.aload_n 0, 1) := by decide +kernel
theorem dX7_leastMet_4 : decode cX7_leastMet 4 = .ok (.getfield 61, 3) := by decide +kernel
theorem dX7_leastMet_7 : decode cX7_leastMet 7 = .ok (.if_icmp .ge 42, 3) := by decide +kernel
theorem dX7_leastMet_49 : decode cX7_leastMet 49 = .ok (.iconst (-1), 1) := by decide +kernel
theorem dX7_leastMet_50 : decode cX7_leastMet 50 = .ok (.ireturn, 1) := by decide +kernel
theorem dX7_leastMet_10 : decode cX7_leastMet 10 = .ok (.aload_n 0, 1) := by decide +kernel
theorem dX7_leastMet_11 : decode cX7_leastMet 11 = .ok (.getfield 18, 3) := by decide +kernel
theorem dX7_leastMet_14 : decode cX7_leastMet 14 = .ok (.iload_n 2, 1) := by decide +kernel
theorem dX7_leastMet_15 : decode cX7_leastMet 15 = .ok (.aaload, 1) := by decide +kernel
theorem dX7_leastMet_16 : decode cX7_leastMet 16 = .ok (.astore 4, 2) := by decide +kernel
theorem dX7_leastMet_18 : decode cX7_leastMet 18 = .ok (.aload 4, 2) := by decide +kernel
theorem q_307 : Cond.classLink "FieldMember" 160 "FieldMember$Member" ∈ TT := tt_t (i := 307) (by decide +kernel) (by decide +kernel)
theorem dX7_leastMet_20 : decode cX7_leastMet 20 = .ok (.instanceof 160, 3) := by decide +kernel
theorem dX7_leastMet_23 : decode cX7_leastMet 23 = .ok (.ifCond .eq 20, 3) := by decide +kernel
theorem dX7_leastMet_43 : decode cX7_leastMet 43 = .ok (.iinc 2 1, 3) := by decide +kernel
theorem dX7_leastMet_46 : decode cX7_leastMet 46 = .ok (.goto (-44), 3) := by decide +kernel
theorem dX7_leastMet_26 : decode cX7_leastMet 26 = .ok (.aload 4, 2) := by decide +kernel
theorem dX7_leastMet_28 : decode cX7_leastMet 28 = .ok (.checkcast 160, 3) := by decide +kernel
theorem dX7_leastMet_31 : decode cX7_leastMet 31 = .ok (.astore_n 3, 1) := by decide +kernel
theorem dX7_leastMet_32 : decode cX7_leastMet 32 = .ok (.aload_n 0, 1) := by decide +kernel
theorem dX7_leastMet_33 : decode cX7_leastMet 33 = .ok (.aload_n 1, 1) := by decide +kernel
theorem dX7_leastMet_34 : decode cX7_leastMet 34 = .ok (.aload_n 3, 1) := by decide +kernel
theorem q_380 : Cond.methodLink "FieldMember" 273 ⟨"FieldMember", "meets", "(LFieldMember$Member;LFieldMember$Member;)Z"⟩ ∈ TT := tt_t (i := 380) (by decide +kernel) (by decide +kernel)
theorem q_383 : Cond.code ⟨"FieldMember", "meets", "(LFieldMember$Member;LFieldMember$Member;)Z"⟩ prog_1_method_36_code 3 (some .boolean) ∈ TT := tt_t (i := 383) (by decide +kernel) (by decide +kernel)
theorem q_382 : Cond.instanceMethod ⟨"FieldMember", "meets", "(LFieldMember$Member;LFieldMember$Member;)Z"⟩ ∈ TT := tt_t (i := 382) (by decide +kernel) (by decide +kernel)
theorem qs_9 : Cond.selects "FieldMember" ⟨"FieldMember", "meets", "(LFieldMember$Member;LFieldMember$Member;)Z"⟩ ⟨"FieldMember", "meets", "(LFieldMember$Member;LFieldMember$Member;)Z"⟩ ∈ TT := tt_s (i := 9) (by decide +kernel) (by decide +kernel)
theorem gV_X7_X7_meets : GoodIn TT (wsV RX7 273 RX7 yX7_meets (ww yX7_meets cX7_meets 3 (some .boolean))) := tt_V q_380 q_382 qs_9 q_1 q_383
theorem hdV_X7_meets : yX7_meets.cls = RX7 ∧ yX7_meets.cls ≠ "java/lang/invoke/MethodHandle" ∧ yX7_meets.cls ≠ "java/lang/invoke/VarHandle" ∧ (parseMethodDescriptor yX7_meets.desc).map (fun d => d.parameters.length) = some 2 := by decide +kernel
theorem dX7_leastMet_35 : decode cX7_leastMet 35 = .ok (.invokevirtual 273, 3) := by decide +kernel
theorem dX7_leastMet_38 : decode cX7_leastMet 38 = .ok (.ifCond .eq 5, 3) := by decide +kernel
theorem dX7_leastMet_41 : decode cX7_leastMet 41 = .ok (.iload_n 2, 1) := by decide +kernel
theorem dX7_leastMet_42 : decode cX7_leastMet 42 = .ok (.ireturn, 1) := by decide +kernel
theorem dX7_isDeclaredTwice_0 : decode cX7_isDeclaredTwice 0 = .ok (.iconst 0, 1) := by decide +kernel
theorem dX7_isDeclaredTwice_1 : decode cX7_isDeclaredTwice 1 = .ok (.istore_n 2, 1) := by decide +kernel
theorem dX7_isDeclaredTwice_2 : decode cX7_isDeclaredTwice 2 = .ok (.iload_n 2, 1) := by decide +kernel
theorem dX7_isDeclaredTwice_3 : decode cX7_isDeclaredTwice 3 = .ok (.aload_n 0, 1) := by decide +kernel
theorem dX7_isDeclaredTwice_4 : decode cX7_isDeclaredTwice 4 = .ok (.getfield 61, 3) := by decide +kernel
theorem dX7_isDeclaredTwice_7 : decode cX7_isDeclaredTwice 7 = .ok (.if_icmp .ge 52, 3) := by decide +kernel
theorem dX7_isDeclaredTwice_59 : decode cX7_isDeclaredTwice 59 = .ok (.iconst 0, 1) := by decide +kernel
theorem dX7_isDeclaredTwice_60 : decode cX7_isDeclaredTwice 60 = .ok (.ireturn, 1) := by decide +kernel
theorem dX7_isDeclaredTwice_10 : decode cX7_isDeclaredTwice 10 = .ok (.aload_n 0, 1) := by decide +kernel
theorem dX7_isDeclaredTwice_11 : decode cX7_isDeclaredTwice 11 = .ok (.getfield 18, 3) := by decide +kernel
theorem dX7_isDeclaredTwice_14 : decode cX7_isDeclaredTwice 14 = .ok (.iload_n 2, 1) := by decide +kernel
theorem dX7_isDeclaredTwice_15 : decode cX7_isDeclaredTwice 15 = .ok (.aaload, 1) := by decide +kernel
theorem dX7_isDeclaredTwice_16 : decode cX7_isDeclaredTwice 16 = .ok (.astore 4, 2) := by decide +kernel
theorem dX7_isDeclaredTwice_18 : decode cX7_isDeclaredTwice 18 = .ok (.aload 4, 2) := by decide +kernel
theorem dX7_isDeclaredTwice_20 : decode cX7_isDeclaredTwice 20 = .ok (.instanceof 160, 3) := by decide +kernel
theorem dX7_isDeclaredTwice_23 : decode cX7_isDeclaredTwice 23 = .ok (.ifCond .eq 30, 3) := by decide +kernel
theorem dX7_isDeclaredTwice_53 : decode cX7_isDeclaredTwice 53 = .ok (.iinc 2 1, 3) := by decide +kernel
theorem dX7_isDeclaredTwice_56 : decode cX7_isDeclaredTwice 56 = .ok (.goto (-54), 3) := by decide +kernel
theorem dX7_isDeclaredTwice_26 : decode cX7_isDeclaredTwice 26 = .ok (.aload 4, 2) := by decide +kernel
theorem dX7_isDeclaredTwice_28 : decode cX7_isDeclaredTwice 28 = .ok (.checkcast 160, 3) := by decide +kernel
theorem dX7_isDeclaredTwice_31 : decode cX7_isDeclaredTwice 31 = .ok (.astore_n 3, 1) := by decide +kernel
theorem dX7_isDeclaredTwice_32 : decode cX7_isDeclaredTwice 32 = .ok (.aload_n 3, 1) := by decide +kernel
theorem dX7_isDeclaredTwice_33 : decode cX7_isDeclaredTwice 33 = .ok (.getfield 269, 3) := by decide +kernel
theorem dX7_isDeclaredTwice_36 : decode cX7_isDeclaredTwice 36 = .ok (.aload_n 1, 1) := by decide +kernel
theorem dX7_isDeclaredTwice_37 : decode cX7_isDeclaredTwice 37 = .ok (.getfield 269, 3) := by decide +kernel
theorem dX7_isDeclaredTwice_40 : decode cX7_isDeclaredTwice 40 = .ok (.if_icmp .ne 13, 3) := by decide +kernel
theorem dX7_isDeclaredTwice_43 : decode cX7_isDeclaredTwice 43 = .ok (.aload_n 3, 1) := by decide +kernel
theorem dX7_isDeclaredTwice_44 : decode cX7_isDeclaredTwice 44 = .ok (.aload_n 1, 1) := by decide +kernel
theorem dX7_isDeclaredTwice_45 : decode cX7_isDeclaredTwice 45 = .ok (.invokevirtual 270, 3) := by decide +kernel
theorem dX7_isDeclaredTwice_48 : decode cX7_isDeclaredTwice 48 = .ok (.ifCond .eq 5, 3) := by decide +kernel
theorem dX7_isDeclaredTwice_51 : decode cX7_isDeclaredTwice 51 = .ok (.iconst 1, 1) := by decide +kernel
theorem dX7_isDeclaredTwice_52 : decode cX7_isDeclaredTwice 52 = .ok (.ireturn, 1) := by decide +kernel
theorem dX7_ruleOfMeetings_0 : decode cX7_ruleOfMeetings 0 = .ok (.iconst 0, 1) := by decide +kernel
theorem dX7_ruleOfMeetings_1 : decode cX7_ruleOfMeetings 1 = .ok (.istore_n 2, 1) := by decide +kernel
theorem dX7_ruleOfMeetings_2 : decode cX7_ruleOfMeetings 2 = .ok (.iload_n 2, 1) := by decide +kernel
theorem dX7_ruleOfMeetings_3 : decode cX7_ruleOfMeetings 3 = .ok (.aload_n 0, 1) := by decide +kernel
theorem dX7_ruleOfMeetings_4 : decode cX7_ruleOfMeetings 4 = .ok (.getfield 61, 3) := by decide +kernel
theorem dX7_ruleOfMeetings_7 : decode cX7_ruleOfMeetings 7 = .ok (.if_icmp .ge 56, 3) := by decide +kernel
theorem dX7_ruleOfMeetings_63 : decode cX7_ruleOfMeetings 63 = .ok (.iconst 0, 1) := by decide +kernel
theorem dX7_ruleOfMeetings_64 : decode cX7_ruleOfMeetings 64 = .ok (.ireturn, 1) := by decide +kernel
theorem dX7_ruleOfMeetings_10 : decode cX7_ruleOfMeetings 10 = .ok (.aload_n 0, 1) := by decide +kernel
theorem dX7_ruleOfMeetings_11 : decode cX7_ruleOfMeetings 11 = .ok (.getfield 18, 3) := by decide +kernel
theorem dX7_ruleOfMeetings_14 : decode cX7_ruleOfMeetings 14 = .ok (.iload_n 2, 1) := by decide +kernel
theorem dX7_ruleOfMeetings_15 : decode cX7_ruleOfMeetings 15 = .ok (.aaload, 1) := by decide +kernel
theorem dX7_ruleOfMeetings_16 : decode cX7_ruleOfMeetings 16 = .ok (.astore 4, 2) := by decide +kernel
theorem dX7_ruleOfMeetings_18 : decode cX7_ruleOfMeetings 18 = .ok (.aload 4, 2) := by decide +kernel
theorem dX7_ruleOfMeetings_20 : decode cX7_ruleOfMeetings 20 = .ok (.instanceof 160, 3) := by decide +kernel
theorem dX7_ruleOfMeetings_23 : decode cX7_ruleOfMeetings 23 = .ok (.ifCond .eq 34, 3) := by decide +kernel
theorem dX7_ruleOfMeetings_57 : decode cX7_ruleOfMeetings 57 = .ok (.iinc 2 1, 3) := by decide +kernel
theorem dX7_ruleOfMeetings_60 : decode cX7_ruleOfMeetings 60 = .ok (.goto (-58), 3) := by decide +kernel
theorem dX7_ruleOfMeetings_26 : decode cX7_ruleOfMeetings 26 = .ok (.aload 4, 2) := by decide +kernel
theorem dX7_ruleOfMeetings_28 : decode cX7_ruleOfMeetings 28 = .ok (.checkcast 160, 3) := by decide +kernel
theorem dX7_ruleOfMeetings_31 : decode cX7_ruleOfMeetings 31 = .ok (.astore_n 3, 1) := by decide +kernel
theorem dX7_ruleOfMeetings_32 : decode cX7_ruleOfMeetings 32 = .ok (.aload_n 0, 1) := by decide +kernel
theorem dX7_ruleOfMeetings_33 : decode cX7_ruleOfMeetings 33 = .ok (.aload_n 1, 1) := by decide +kernel
theorem dX7_ruleOfMeetings_34 : decode cX7_ruleOfMeetings 34 = .ok (.aload_n 3, 1) := by decide +kernel
theorem dX7_ruleOfMeetings_35 : decode cX7_ruleOfMeetings 35 = .ok (.invokevirtual 273, 3) := by decide +kernel
theorem dX7_ruleOfMeetings_38 : decode cX7_ruleOfMeetings 38 = .ok (.ifCond .eq 19, 3) := by decide +kernel
theorem dX7_ruleOfMeetings_41 : decode cX7_ruleOfMeetings 41 = .ok (.aload_n 0, 1) := by decide +kernel
theorem dX7_ruleOfMeetings_42 : decode cX7_ruleOfMeetings 42 = .ok (.aload_n 1, 1) := by decide +kernel
theorem dX7_ruleOfMeetings_43 : decode cX7_ruleOfMeetings 43 = .ok (.aload_n 3, 1) := by decide +kernel
theorem q_391 : Cond.methodLink "FieldMember" 277 ⟨"FieldMember", "ruleOfMeeting", "(LFieldMember$Member;LFieldMember$Member;)I"⟩ ∈ TT := tt_t (i := 391) (by decide +kernel) (by decide +kernel)
theorem q_394 : Cond.code ⟨"FieldMember", "ruleOfMeeting", "(LFieldMember$Member;LFieldMember$Member;)I"⟩ prog_1_method_38_code 3 (some .int) ∈ TT := tt_t (i := 394) (by decide +kernel) (by decide +kernel)
theorem q_393 : Cond.instanceMethod ⟨"FieldMember", "ruleOfMeeting", "(LFieldMember$Member;LFieldMember$Member;)I"⟩ ∈ TT := tt_t (i := 393) (by decide +kernel) (by decide +kernel)
theorem qs_11 : Cond.selects "FieldMember" ⟨"FieldMember", "ruleOfMeeting", "(LFieldMember$Member;LFieldMember$Member;)I"⟩ ⟨"FieldMember", "ruleOfMeeting", "(LFieldMember$Member;LFieldMember$Member;)I"⟩ ∈ TT := tt_s (i := 11) (by decide +kernel) (by decide +kernel)
theorem gV_X7_X7_ruleOfMeeting : GoodIn TT (wsV RX7 277 RX7 yX7_ruleOfMeeting (ww yX7_ruleOfMeeting cX7_ruleOfMeeting 3 (some .int))) := tt_V q_391 q_393 qs_11 q_1 q_394
theorem hdV_X7_ruleOfMeeting : yX7_ruleOfMeeting.cls = RX7 ∧ yX7_ruleOfMeeting.cls ≠ "java/lang/invoke/MethodHandle" ∧ yX7_ruleOfMeeting.cls ≠ "java/lang/invoke/VarHandle" ∧ (parseMethodDescriptor yX7_ruleOfMeeting.desc).map (fun d => d.parameters.length) = some 2 := by decide +kernel
theorem dX7_ruleOfMeetings_44 : decode cX7_ruleOfMeetings 44 = .ok (.invokevirtual 277, 3) := by decide +kernel
theorem dX7_ruleOfMeetings_47 : decode cX7_ruleOfMeetings 47 = .ok (.istore 4, 2) := by decide +kernel
theorem dX7_ruleOfMeetings_49 : decode cX7_ruleOfMeetings 49 = .ok (.iload 4, 2) := by decide +kernel
theorem dX7_ruleOfMeetings_51 : decode cX7_ruleOfMeetings 51 = .ok (.ifCond .eq 6, 3) := by decide +kernel
theorem dX7_ruleOfMeetings_54 : decode cX7_ruleOfMeetings 54 = .ok (.iload 4, 2) := by decide +kernel
theorem dX7_ruleOfMeetings_56 : decode cX7_ruleOfMeetings 56 = .ok (.ireturn, 1) := by decide +kernel
set_option maxHeartbeats 4000000 in
set_option maxRecDepth 100000 in
theorem c_entryAt (l : Launch) (D : va_G) (G : Nat → ClassId) (H : Heap) (ca : Nat → Nat) (bg : Value) (ea : Nat → Nat → Nat) (n k w0 : Nat) (σ x : MS) (κ : Nat → Int64) (hP : va_P D vwCl (cF G ca bg (enF ea k) σ x) H) (hE : ∀ e, e < k → va_P D vwCl (eW G (ea e) σ κ e) H) (hI : cI σ x n k w0) (en : Int32) : Met l yX7_entryAt (ww yX7_entryAt cX7_entryAt 2 (some (.object "FieldMember$Entry"))) (rmD 0) (roP D G H [.ref (ca 0), .int en]) (va_Sq (fun r => r = eaF ea k en)) 0 0 (fun _ => False) := by
  refine Met.ofW (cc := cX7_entryAt) (maxL := 2) (ret := (some (.object "FieldMember$Entry"))) (by decide) rfl ?_
  intro p e s m args below meth c s₁ B hml hv
  obtain ⟨rfl, hH, hK⟩ := hv
  have hx := B.exec
  have hb := B.bytes
  have hr := B.returns
  have hts : ∀ w ∈ TT, w.before _ s = true := fun w h => atoms_spec (ws := ww yX7_entryAt cX7_entryAt 2 (some (.object "FieldMember$Entry"))) B.pre w (List.mem_cons_of_mem _ h)
  have hown : s.vm.findClass RX7 = some m.cls := findClass_of_methodNamed B.named
  have hlocks := B.notSynchronized
  rw [hH]
  have hI0 := hI
  obtain ⟨h1, hn, h7, hk60, h22, hw, hab, hfa, hmi, hak, hrf⟩ := hI
  have hl := lv_entry ([.ref ((ca 0)), .int en]) (n := 2) (Nat.le_of_ble_eq_true rfl)
  rw [lg_entry_eq]
  generalize (lg_sl ([.ref ((ca 0)), .int en]) ++ List.replicate (2 - (lg_sl ([.ref ((ca 0)), .int en])).length) Slot.unset).toArray = ls at hl ⊢
  have hl : lv_has ls 2 [(0, .ref ((ca 0))), (1, .int en)] := hl
  refine lv_iload_n hx hb dX7_entryAt_0 rfl (lv_at hl 1 rfl) ?_
  refine lv_if_lt (tgt := 21) hx hb dX7_entryAt_1 (by decide) (fun c1 => ?_) (fun c1 => ?_)
  · -- 1 taken
    refine lv_null hx hb dX7_entryAt_21 ?_
    exact ro_qret (r := none) hx hb hr hH hlocks dX7_entryAt_22 (by rw [eaF_f (by rw [okN_lt, ← h7]; simp only [eq_true c1, not_true, not_false_iff, not_true_eq_false, not_false_eq_true, true_or, or_true, false_or, or_false, or_self, and_self, true_and, and_true, false_and, and_false, if_true, if_false])])
  · -- 1 not
    refine lv_iload_n hx hb dX7_entryAt_4 rfl (lv_at hl 1 rfl) ?_
    refine lv_aload_n hx hb dX7_entryAt_5 rfl (lv_at hl 0 rfl) ?_
    refine va_get (D := D) (ci := 7) (v := .int (σ 7 0)) (C := RX7) (T := TX7) (N := 11) hx hb hts iX7 hown hK.1 hP 0 rfl rfl 2 (by decide) (hts _ q_75) (fun _ h9 => h9) rfl dX7_entryAt_6 ?_
    refine lv_icmp_ge (tgt := 21) hx hb dX7_entryAt_9 (by decide) (fun c2 => ?_) (fun c2 => ?_)
    · -- 9 taken
      refine lv_null hx hb dX7_entryAt_21 ?_
      exact ro_qret (r := none) hx hb hr hH hlocks dX7_entryAt_22 (by rw [eaF_f (by rw [okN_lt, ← h7]; simp only [eq_false c1, eq_true c2, not_true, not_false_iff, not_true_eq_false, not_false_eq_true, true_or, or_true, false_or, or_false, or_self, and_self, true_and, and_true, false_and, and_false, if_true, if_false])])
    · -- 9 not
      have hok := okN_lt.mpr ⟨c1, by rw [← h7]; exact c2⟩
      obtain ⟨j1, h_j1, rfl⟩ := okN_ex (n := k) (by omega) hok
      refine lv_aload_n hx hb dX7_entryAt_12 rfl (lv_at hl 0 rfl) ?_
      refine va_get (D := D) (ci := 7) (v := .ref ((ca 6))) (C := RX7) (T := TX7) (N := 11) hx hb hts iX7 hown hK.1 hP 0 rfl rfl 1 (by decide) (hts _ q_74) (fun _ h9 => h9) rfl dX7_entryAt_13 ?_
      refine lv_iload_n hx hb dX7_entryAt_16 rfl (lv_at hl 1 rfl) ?_
      refine aald_e hx hb hK.1 hP 6 rfl (j1) rfl (by omega) (by omega) dX7_entryAt_17 ?_
      refine lv_goto (tgt := 22) hx hb dX7_entryAt_18 (by decide) ?_
      exact ro_qret (r := some (ea j1 0)) hx hb hr hH hlocks dX7_entryAt_22 (by rw [eaF_t h_j1 hk60])
set_option maxHeartbeats 4000000 in
set_option maxRecDepth 100000 in
theorem c_ownField (l : Launch) (D : va_G) (G : Nat → ClassId) (H : Heap) (ca : Nat → Nat) (bg : Value) (ea : Nat → Nat → Nat) (n k w0 : Nat) (σ x : MS) (κ : Nat → Int64) (hP : va_P D vwCl (cF G ca bg (enF ea k) σ x) H) (hE : ∀ e, e < k → va_P D vwCl (eW G (ea e) σ κ e) H) (hI : cI σ x n k w0) (t : Int32) (name : Int32) : Met l yX7_ownField (ww yX7_ownField cX7_ownField 5 (some .int)) (rmD 0) (roP D G H [.ref ((ca 0)), .int t, .int name]) (vp_Si (fun r => r = fld σ k t name)) 0 0 (fun _ => False) := by
  refine Met.ofW (cc := cX7_ownField) (maxL := 5) (ret := (some .int)) (by decide) rfl ?_
  intro p e s m args below meth c s₁ B hml hv
  obtain ⟨rfl, hH, hK⟩ := hv
  have hx := B.exec
  have hb := B.bytes
  have hr := B.returns
  have hts : ∀ w ∈ TT, w.before _ s = true := fun w h => atoms_spec (ws := ww yX7_ownField cX7_ownField 5 (some .int)) B.pre w (List.mem_cons_of_mem _ h)
  have hown : s.vm.findClass RX7 = some m.cls := findClass_of_methodNamed B.named
  have hlocks := B.notSynchronized
  rw [hH]
  have hI0 := hI
  obtain ⟨h1, hn, h7, hk60, h22, hw, hab, hfa, hmi, hak, hrf⟩ := hI
  have hl := lv_entry ([.ref ((ca 0)), .int t, .int name]) (n := 5) (Nat.le_of_ble_eq_true rfl)
  rw [lg_entry_eq]
  generalize (lg_sl ([.ref ((ca 0)), .int t, .int name]) ++ List.replicate (5 - (lg_sl ([.ref ((ca 0)), .int t, .int name])).length) Slot.unset).toArray = ls at hl ⊢
  have hl : lv_has ls 5 [(0, .ref ((ca 0))), (1, .int t), (2, .int name)] := hl
  refine lv_iconst (v := 0) hx hb dX7_ownField_0 (by decide) ?_
  refine lv_istore_n (lv' := [(3, .int 0), (0, .ref ((ca 0))), (1, .int t), (2, .int name)]) hx hb dX7_ownField_1 rfl hl (by decide) rfl (fun ls hl => ?_)
  refine w_for (N := k) 2 (L := fun q9 ls => lv_has ls 5 [(3, .int (nI q9)), (0, .ref ((ca 0))), (1, .int t), (2, .int name)] ∧ fnd (fldP σ t name) k 0 = fnd (fldP σ t name) (k - q9) q9) (fun k9 ls hk hL ih => ?_) 0 ls (Nat.zero_le _) ⟨hl, by rw [Nat.sub_zero]⟩
  obtain ⟨hl, hi⟩ := hL
  have hl : lv_has ls 5 [(3, .int (nI k9)), (0, .ref ((ca 0))), (1, .int t), (2, .int name)] := hl
  refine lv_iload_n hx hb dX7_ownField_2 rfl (lv_at hl 0 rfl) ?_
  refine lv_aload_n hx hb dX7_ownField_3 rfl (lv_at hl 1 rfl) ?_
  refine va_get (D := D) (ci := 7) (v := .int (σ 7 0)) (C := RX7) (T := TX7) (N := 11) hx hb hts iX7 hown hK.1 hP 0 rfl rfl 2 (by decide) (hts _ q_75) (fun _ h9 => h9) rfl dX7_ownField_4 ?_
  refine lv_icmp_ge (tgt := 52) hx hb dX7_ownField_7 (by decide) (fun c1 => ?_) (fun c1 => ?_)
  · -- 7 taken
    have c1 : k ≤ k9 := (nI_leI (a := k) (b := k9) (by omega) (by omega)).mp (by have h8 := c1; rw [h7] at h8; exact h8)
    refine lv_iconst (v := -1) hx hb dX7_ownField_52 (by decide) ?_
    exact ro_iret (v := (-1)) hx hb hr hH hlocks dX7_ownField_53 (by unfold fld; rw [hi, show k9 = k by omega, Nat.sub_self]; rfl)
  · -- 7 not
    have c1 : ¬ k ≤ k9 := fun h9 => c1 (by rw [h7]; exact (nI_leI (a := k) (b := k9) (by omega) (by omega)).mpr h9)
    refine lv_aload_n hx hb dX7_ownField_10 rfl (lv_at hl 1 rfl) ?_
    refine va_get (D := D) (ci := 7) (v := .ref ((ca 6))) (C := RX7) (T := TX7) (N := 11) hx hb hts iX7 hown hK.1 hP 0 rfl rfl 1 (by decide) (hts _ q_74) (fun _ h9 => h9) rfl dX7_ownField_11 ?_
    refine lv_iload_n hx hb dX7_ownField_14 rfl (lv_at hl 0 rfl) ?_
    refine aald_e hx hb hK.1 hP 6 rfl (k9) rfl (by omega) (by omega) dX7_ownField_15 ?_
    refine lv_astore (lv' := [(4, .ref ((ea k9 0))), (3, .int (nI k9)), (0, .ref ((ca 0))), (1, .int t), (2, .int name)]) hx hb dX7_ownField_16 hl (by decide) rfl (fun ls hl => ?_)
    refine lv_aload hx hb dX7_ownField_18 (lv_at hl 0 rfl) ?_
    refine inst_f hx hb hown (hts _ q_203) hK (hE k9 (by omega)) dX7_ownField_20 ?_
    refine lv_if_eq (tgt := 46) hx hb dX7_ownField_23 (by decide) (fun c2 => ?_) (fun c2 => ?_)
    · -- 23 taken
      have c2 := bI_0 c2
      refine lv_iinc (v := nI (k9 + 1)) (lv' := [(3, .int (nI (k9 + 1))), (4, .ref ((ea k9 0))), (0, .ref ((ca 0))), (1, .int t), (2, .int name)]) hx hb dX7_ownField_46 hl (k := 1) rfl (nI_1 _) (by decide) rfl (fun ls hl => ?_)
      refine lv_goto (tgt := 2) hx hb dX7_ownField_49 (by decide) ?_
      have hi := hi.trans (fnd_f (by omega) (fun h9 => absurd h9.1 c2))
      exact ih _ (by omega) ⟨lv_sub hl [0, 2, 3, 4] rfl, hi⟩
    · -- 23 not
      have c2 := bI_1 c2
      refine lv_aload hx hb dX7_ownField_26 (lv_at hl 0 rfl) ?_
      have hF_k9 := eW_f (hE k9 (by omega)) c2
      have hmi_k9 := hmi k9 (by omega)
      have ht_k9 := hmi_k9.1.2
      have hz_k9 := hmi_k9.2.1.2
      refine va_get (D := D) (ci := 3) (v := .int (σ 9 k9)) (C := RX2) (T := TX2) (N := 7) hx hb hts iX2 hown hK.1 hF_k9 0 rfl rfl 0 (by decide) (hts _ q_219) (fun _ h9 => h9) rfl dX7_ownField_28 ?_
      refine lv_iload_n hx hb dX7_ownField_31 rfl (lv_at hl 3 rfl) ?_
      refine lv_icmp_ne (tgt := 46) hx hb dX7_ownField_32 (by decide) (fun c3 => ?_) (fun c3 => ?_)
      · -- 32 taken
        refine lv_iinc (v := nI (k9 + 1)) (lv' := [(3, .int (nI (k9 + 1))), (4, .ref ((ea k9 0))), (0, .ref ((ca 0))), (1, .int t), (2, .int name)]) hx hb dX7_ownField_46 hl (k := 1) rfl (nI_1 _) (by decide) rfl (fun ls hl => ?_)
        refine lv_goto (tgt := 2) hx hb dX7_ownField_49 (by decide) ?_
        have hi := hi.trans (fnd_f (by omega) (fun h9 => absurd h9.2.1 c3))
        exact ih _ (by omega) ⟨lv_sub hl [0, 2, 3, 4] rfl, hi⟩
      · -- 32 not
        refine lv_aload hx hb dX7_ownField_35 (lv_at hl 0 rfl) ?_
        refine va_get (D := D) (ci := 3) (v := .int (σ 10 k9)) (C := RX2) (T := TX2) (N := 7) hx hb hts iX2 hown hK.1 hF_k9 0 rfl rfl 1 (by decide) (hts _ q_225) (fun _ h9 => h9) rfl dX7_ownField_37 ?_
        refine lv_iload_n hx hb dX7_ownField_40 rfl (lv_at hl 4 rfl) ?_
        refine lv_icmp_ne (tgt := 46) hx hb dX7_ownField_41 (by decide) (fun c4 => ?_) (fun c4 => ?_)
        · -- 41 taken
          refine lv_iinc (v := nI (k9 + 1)) (lv' := [(3, .int (nI (k9 + 1))), (4, .ref ((ea k9 0))), (0, .ref ((ca 0))), (1, .int t), (2, .int name)]) hx hb dX7_ownField_46 hl (k := 1) rfl (nI_1 _) (by decide) rfl (fun ls hl => ?_)
          refine lv_goto (tgt := 2) hx hb dX7_ownField_49 (by decide) ?_
          have hi := hi.trans (fnd_f (by omega) (fun h9 => absurd h9.2.2 c4))
          exact ih _ (by omega) ⟨lv_sub hl [0, 2, 3, 4] rfl, hi⟩
        · -- 41 not
          refine lv_iload_n hx hb dX7_ownField_44 rfl (lv_at hl 1 rfl) ?_
          exact ro_iret (v := nI k9) hx hb hr hH hlocks dX7_ownField_45 (by unfold fld; rw [hi]; exact (fnd_t (by omega) ⟨c2, c3, c4⟩ rfl).symm)
set_option maxHeartbeats 4000000 in
set_option maxRecDepth 100000 in
theorem c_isUnknownKind (l : Launch) (D : va_G) (G : Nat → ClassId) (H : Heap) (ca : Nat → Nat) (bg : Value) (ea : Nat → Nat → Nat) (n k w0 : Nat) (σ x : MS) (κ : Nat → Int64) (hP : va_P D vwCl (cF G ca bg (enF ea k) σ x) H) (hE : ∀ e, e < k → va_P D vwCl (eW G (ea e) σ κ e) H) (hI : cI σ x n k w0) (kind : Int32) : Met l yX7_isUnknownKind (ww yX7_isUnknownKind cX7_isUnknownKind 2 (some .boolean)) (rmD 1) (roP D G H [.ref ((ca 0)), .int kind]) (vp_Si (fun r => r = bI (noK n kind))) 0 0 (fun _ => False) := by
  refine Met.ofW (cc := cX7_isUnknownKind) (maxL := 2) (ret := (some .boolean)) (by decide) rfl ?_
  intro p e s m args below meth c s₁ B hml hv
  obtain ⟨rfl, hH, hK⟩ := hv
  have hx := B.exec
  have hb := B.bytes
  have hr := B.returns
  have hts : ∀ w ∈ TT, w.before _ s = true := fun w h => atoms_spec (ws := ww yX7_isUnknownKind cX7_isUnknownKind 2 (some .boolean)) B.pre w (List.mem_cons_of_mem _ h)
  have hown : s.vm.findClass RX7 = some m.cls := findClass_of_methodNamed B.named
  have hlocks := B.notSynchronized
  rw [hH]
  have hI0 := hI
  obtain ⟨h1, hn, h7, hk60, h22, hw, hab, hfa, hmi, hak, hrf⟩ := hI
  have hl := lv_entry ([.ref ((ca 0)), .int kind]) (n := 2) (Nat.le_of_ble_eq_true rfl)
  rw [lg_entry_eq]
  generalize (lg_sl ([.ref ((ca 0)), .int kind]) ++ List.replicate (2 - (lg_sl ([.ref ((ca 0)), .int kind])).length) Slot.unset).toArray = ls at hl ⊢
  have hl : lv_has ls 2 [(0, .ref ((ca 0))), (1, .int kind)] := hl
  refine lv_iload_n hx hb dX7_isUnknownKind_0 rfl (lv_at hl 1 rfl) ?_
  refine lv_bipush (v := 10) hx hb dX7_isUnknownKind_1 (by decide) ?_
  refine lv_icmp_lt (tgt := 24) hx hb dX7_isUnknownKind_3 (by decide) (fun c1 => ?_) (fun c1 => ?_)
  · -- 3 taken
    refine lv_iconst (v := 0) hx hb dX7_isUnknownKind_24 (by decide) ?_
    exact ro_zret (v := 0) hx hb hr hH hlocks dX7_isUnknownKind_25 (Or.inl rfl) ((bI_f (by simp only [noK_def, ← lt10, eq_true c1, not_true, not_false_iff, not_true_eq_false, not_false_eq_true, true_or, or_true, false_or, or_false, or_self, and_self, true_and, and_true, false_and, and_false, if_true, if_false])).symm)
  · -- 3 not
    refine lv_aload_n hx hb dX7_isUnknownKind_6 rfl (lv_at hl 0 rfl) ?_
    refine va_get (D := D) (ci := 7) (v := .ref ((ca 1))) (C := RX7) (T := TX7) (N := 11) hx hb hts iX7 hown hK.1 hP 0 rfl rfl 0 (by decide) (hts _ q_73) (fun _ h9 => h9) rfl dX7_isUnknownKind_7 ?_
    refine lv_iload_n hx hb dX7_isUnknownKind_10 rfl (lv_at hl 1 rfl) ?_
    refine lv_bipush (v := 10) hx hb dX7_isUnknownKind_11 (by decide) ?_
    refine lv_isub hx hb dX7_isUnknownKind_13 ?_
    refine ro_Vi (D := D) (G := G) (As := [.int (kind - 10)]) (rest := []) ⟨hx, hb, hml, hown, hts⟩ (c_has l D G _ ca σ x (cF_ty hP) n h1 hn (kind - 10)) gV_X7_X6_has hdV_X6_has ⟨Nat.le_of_ble_eq_true rfl, Nat.le_of_ble_eq_true rfl⟩ hK (va_recv hK.1 hP (ci := 6) (q0 := 1) rfl rfl) rfl hl.1 rfl (Nat.le_of_ble_eq_true rfl) dX7_isUnknownKind_14 ⟨Nat.le_of_ble_eq_true rfl, Nat.le_of_ble_eq_true rfl⟩ (fun r2 e_r2 => ?_)
    subst e_r2
    refine lv_if_ne (tgt := 24) hx hb dX7_isUnknownKind_17 (by decide) (fun c3 => ?_) (fun c3 => ?_)
    · -- 17 taken
      have c3 := bI_1 c3
      refine lv_iconst (v := 0) hx hb dX7_isUnknownKind_24 (by decide) ?_
      exact ro_zret (v := 0) hx hb hr hH hlocks dX7_isUnknownKind_25 (Or.inl rfl) ((bI_f (by simp only [noK_def, ← lt10, eq_false c1, eq_true c3, not_true, not_false_iff, not_true_eq_false, not_false_eq_true, true_or, or_true, false_or, or_false, or_self, and_self, true_and, and_true, false_and, and_false, if_true, if_false])).symm)
    · -- 17 not
      have c3 := bI_0 c3
      refine lv_iconst (v := 1) hx hb dX7_isUnknownKind_20 (by decide) ?_
      refine lv_goto (tgt := 25) hx hb dX7_isUnknownKind_21 (by decide) ?_
      exact ro_zret (v := 1) hx hb hr hH hlocks dX7_isUnknownKind_25 (Or.inr rfl) ((bI_t (by simp only [noK_def, ← lt10, eq_false c1, eq_false c3, not_true, not_false_iff, not_true_eq_false, not_false_eq_true, true_or, or_true, false_or, or_false, or_self, and_self, true_and, and_true, false_and, and_false, if_true, if_false])).symm)
def crF (σ : MS) (n : Nat) (t name kind d m : Int32) : Int32 :=
  if ¬ okN n t ∨ noK n kind then -11 else if ¬ (0 ≤ name ∧ name ≤ 49) ∨ ¬ decP kind d ∨ m < 0 ∨ ¬ m ≤ 2047 then -13 else if ¬ σ 21 0 = 0 then -14 else if ¬ σ 7 0 < 60 then -15 else 0
theorem crF_eq {σ : MS} {n k : Nat} {t name kind d m : Int32} (h7 : σ 7 0 = nI k) (hk : k ≤ 60) : crF σ n t name kind d m = aRef σ n t name kind d m := by
  unfold crF aRef
  have h1 : (¬ (0 ≤ name ∧ name ≤ 49) ∨ ¬ decP kind d ∨ m < 0 ∨ ¬ m ≤ 2047) ↔ (¬ (0 ≤ name ∧ name ≤ 49) ∨ kind < 0 ∨ kind = 9 ∨ ¬ (0 ≤ d ∧ d ≤ 3) ∨ (kind = 0 ∧ 0 < d) ∨ ¬ (0 ≤ m ∧ m ≤ 2047)) := by
    rw [decP_def]; simp only [i_le, i_lt, i_eq, Int32.reduceToInt]; omega
  have h2 : (¬ σ 7 0 < 60) ↔ σ 7 0 = 60 := by
    rw [h7]; simp only [i_lt, i_eq, n_ti (show k < 2 ^ 31 by omega), Int32.reduceToInt]; omega
  simp only [h1, h2]
set_option maxHeartbeats 4000000 in
set_option maxRecDepth 100000 in
theorem c_refusalOfNew (l : Launch) (D : va_G) (G : Nat → ClassId) (H : Heap) (ca : Nat → Nat) (bg : Value) (ea : Nat → Nat → Nat) (n k w0 : Nat) (σ x : MS) (κ : Nat → Int64) (hP : va_P D vwCl (cF G ca bg (enF ea k) σ x) H) (hE : ∀ e, e < k → va_P D vwCl (eW G (ea e) σ κ e) H) (hI : cI σ x n k w0) (ba : Nat → Nat) (hbg : (bg = .null ∧ σ 21 0 = 0) ∨ (bg = .ref (ba 0) ∧ ¬ σ 21 0 = 0 ∧ va_P D vwCl (mbW G ba σ k (-1)) H ∧ mI σ n k)) (t : Int32) (name : Int32) (kind : Int32) (dd : Int32) (mm : Int32) : Met l yX7_refusalOfNew (ww yX7_refusalOfNew cX7_refusalOfNew 6 (some .int)) (rmD 2) (roP D G H [.ref ((ca 0)), .int t, .int name, .int kind, .int dd, .int mm]) (vp_Si (fun r => r = aRef σ n t name kind dd mm)) 0 0 (fun _ => False) := by
  refine Met.ofW (cc := cX7_refusalOfNew) (maxL := 6) (ret := (some .int)) (by decide) rfl ?_
  intro p e s m args below meth c s₁ B hml hv
  obtain ⟨rfl, hH, hK⟩ := hv
  have hx := B.exec
  have hb := B.bytes
  have hr := B.returns
  have hts : ∀ w ∈ TT, w.before _ s = true := fun w h => atoms_spec (ws := ww yX7_refusalOfNew cX7_refusalOfNew 6 (some .int)) B.pre w (List.mem_cons_of_mem _ h)
  have hown : s.vm.findClass RX7 = some m.cls := findClass_of_methodNamed B.named
  have hlocks := B.notSynchronized
  rw [hH]
  have hI0 := hI
  obtain ⟨h1, hn, h7, hk60, h22, hw, hab, hfa, hmi, hak, hrf⟩ := hI
  have hl := lv_entry ([.ref ((ca 0)), .int t, .int name, .int kind, .int dd, .int mm]) (n := 6) (Nat.le_of_ble_eq_true rfl)
  rw [lg_entry_eq]
  generalize (lg_sl ([.ref ((ca 0)), .int t, .int name, .int kind, .int dd, .int mm]) ++ List.replicate (6 - (lg_sl ([.ref ((ca 0)), .int t, .int name, .int kind, .int dd, .int mm])).length) Slot.unset).toArray = ls at hl ⊢
  have hl : lv_has ls 6 [(0, .ref ((ca 0))), (1, .int t), (2, .int name), (3, .int kind), (4, .int dd), (5, .int mm)] := hl
  refine lv_aload_n hx hb dX7_refusalOfNew_0 rfl (lv_at hl 0 rfl) ?_
  refine va_get (D := D) (ci := 7) (v := .ref ((ca 1))) (C := RX7) (T := TX7) (N := 11) hx hb hts iX7 hown hK.1 hP 0 rfl rfl 0 (by decide) (hts _ q_73) (fun _ h9 => h9) rfl dX7_refusalOfNew_1 ?_
  refine lv_iload_n hx hb dX7_refusalOfNew_4 rfl (lv_at hl 1 rfl) ?_
  refine ro_Vi (D := D) (G := G) (As := [.int t]) (rest := []) ⟨hx, hb, hml, hown, hts⟩ (c_has l D G _ ca σ x (cF_ty hP) n h1 hn t) gV_X7_X6_has hdV_X6_has ⟨Nat.le_of_ble_eq_true rfl, Nat.le_of_ble_eq_true rfl⟩ hK (va_recv hK.1 hP (ci := 6) (q0 := 1) rfl rfl) rfl hl.1 rfl (Nat.le_of_ble_eq_true rfl) dX7_refusalOfNew_5 ⟨Nat.le_of_ble_eq_true rfl, Nat.le_of_ble_eq_true rfl⟩ (fun r1 e_r1 => ?_)
  subst e_r1
  refine lv_if_eq (tgt := 19) hx hb dX7_refusalOfNew_8 (by decide) (fun c2 => ?_) (fun c2 => ?_)
  · -- 8 taken
    have c2 := bI_0 c2
    refine lv_bipush (v := -11) hx hb dX7_refusalOfNew_19 (by decide) ?_
    exact ro_iret (v := (-11)) hx hb hr hH hlocks dX7_refusalOfNew_21 (by rw [← crF_eq h7 hk60]; unfold crF; simp only [eq_false c2, not_true, not_false_iff, not_true_eq_false, not_false_eq_true, true_or, or_true, false_or, or_false, or_self, and_self, true_and, and_true, false_and, and_false, if_true, if_false])
  · -- 8 not
    have c2 := bI_1 c2
    refine lv_aload_n hx hb dX7_refusalOfNew_11 rfl (lv_at hl 0 rfl) ?_
    refine lv_iload_n hx hb dX7_refusalOfNew_12 rfl (lv_at hl 3 rfl) ?_
    refine ro_Vi (D := D) (G := G) (As := [.int kind]) (rest := []) ⟨hx, hb, hml, hown, hts⟩ (c_isUnknownKind l D G _ ca _ ea n k w0 σ x κ hP hE hI0 kind) gV_X7_X7_isUnknownKind hdV_X7_isUnknownKind ⟨Nat.le_of_ble_eq_true rfl, Nat.le_of_ble_eq_true rfl⟩ hK (va_recv hK.1 hP (ci := 7) (q0 := 0) rfl rfl) rfl hl.1 rfl (Nat.le_of_ble_eq_true rfl) dX7_refusalOfNew_13 ⟨Nat.le_of_ble_eq_true rfl, Nat.le_of_ble_eq_true rfl⟩ (fun r3 e_r3 => ?_)
    subst e_r3
    refine lv_if_eq (tgt := 22) hx hb dX7_refusalOfNew_16 (by decide) (fun c4 => ?_) (fun c4 => ?_)
    · -- 16 taken
      have c4 := bI_0 c4
      refine lv_iload_n hx hb dX7_refusalOfNew_22 rfl (lv_at hl 2 rfl) ?_
      refine ro_Si (D := D) (G := G) (As := [.int name]) (rest := []) ⟨hx, hb, hml, hown, hts⟩ (c_isName l D G _ name) gS_X7_X7_isName hdS_X7_isName ⟨Nat.le_of_ble_eq_true rfl, Nat.le_of_ble_eq_true rfl⟩ hK rfl hl.1 rfl (Nat.le_of_ble_eq_true rfl) dX7_refusalOfNew_23 ⟨Nat.le_of_ble_eq_true rfl, Nat.le_of_ble_eq_true rfl⟩ (fun r5 e_r5 => ?_)
      subst e_r5
      refine lv_if_eq (tgt := 51) hx hb dX7_refusalOfNew_26 (by decide) (fun c6 => ?_) (fun c6 => ?_)
      · -- 26 taken
        have c6 := bI_0 c6
        refine lv_bipush (v := -13) hx hb dX7_refusalOfNew_51 (by decide) ?_
        exact ro_iret (v := (-13)) hx hb hr hH hlocks dX7_refusalOfNew_53 (by rw [← crF_eq h7 hk60]; unfold crF; simp only [eq_true c2, eq_false c4, eq_false c6, not_true, not_false_iff, not_true_eq_false, not_false_eq_true, true_or, or_true, false_or, or_false, or_self, and_self, true_and, and_true, false_and, and_false, if_true, if_false])
      · -- 26 not
        have c6 := bI_1 c6
        refine lv_iload_n hx hb dX7_refusalOfNew_29 rfl (lv_at hl 3 rfl) ?_
        refine lv_iload hx hb dX7_refusalOfNew_30 (lv_at hl 4 rfl) ?_
        refine ro_Si (D := D) (G := G) (As := [.int kind, .int dd]) (rest := []) ⟨hx, hb, hml, hown, hts⟩ (c_mayBeDeclared l D G _ kind dd) gS_X7_X7_mayBeDeclared hdS_X7_mayBeDeclared ⟨Nat.le_of_ble_eq_true rfl, Nat.le_of_ble_eq_true rfl⟩ hK rfl hl.1 rfl (Nat.le_of_ble_eq_true rfl) dX7_refusalOfNew_32 ⟨Nat.le_of_ble_eq_true rfl, Nat.le_of_ble_eq_true rfl⟩ (fun r7 e_r7 => ?_)
        subst e_r7
        refine lv_if_eq (tgt := 51) hx hb dX7_refusalOfNew_35 (by decide) (fun c8 => ?_) (fun c8 => ?_)
        · -- 35 taken
          have c8 := bI_0 c8
          refine lv_bipush (v := -13) hx hb dX7_refusalOfNew_51 (by decide) ?_
          exact ro_iret (v := (-13)) hx hb hr hH hlocks dX7_refusalOfNew_53 (by rw [← crF_eq h7 hk60]; unfold crF; simp only [eq_true c2, eq_false c4, eq_true c6, eq_false c8, not_true, not_false_iff, not_true_eq_false, not_false_eq_true, true_or, or_true, false_or, or_false, or_self, and_self, true_and, and_true, false_and, and_false, if_true, if_false])
        · -- 35 not
          have c8 := bI_1 c8
          refine lv_iload hx hb dX7_refusalOfNew_38 (lv_at hl 5 rfl) ?_
          refine lv_if_lt (tgt := 51) hx hb dX7_refusalOfNew_40 (by decide) (fun c9 => ?_) (fun c9 => ?_)
          · -- 40 taken
            refine lv_bipush (v := -13) hx hb dX7_refusalOfNew_51 (by decide) ?_
            exact ro_iret (v := (-13)) hx hb hr hH hlocks dX7_refusalOfNew_53 (by rw [← crF_eq h7 hk60]; unfold crF; simp only [eq_true c2, eq_false c4, eq_true c6, eq_true c8, eq_true c9, not_true, not_false_iff, not_true_eq_false, not_false_eq_true, true_or, or_true, false_or, or_false, or_self, and_self, true_and, and_true, false_and, and_false, if_true, if_false])
          · -- 40 not
            refine lv_iload hx hb dX7_refusalOfNew_43 (lv_at hl 5 rfl) ?_
            refine lv_sipush (v := 2047) hx hb dX7_refusalOfNew_45 (by decide) ?_
            refine lv_icmp_le (tgt := 54) hx hb dX7_refusalOfNew_48 (by decide) (fun c10 => ?_) (fun c10 => ?_)
            · -- 48 taken
              refine lv_aload_n hx hb dX7_refusalOfNew_54 rfl (lv_at hl 0 rfl) ?_
              refine va_get (D := D) (ci := 7) (v := bg) (C := RX7) (T := TX7) (N := 11) hx hb hts iX7 hown hK.1 hP 0 rfl rfl 3 (by decide) (hts _ q_76) (fun _ h9 => h9) rfl dX7_refusalOfNew_55 ?_
              rcases hbg with ⟨hbn, c21⟩ | ⟨hbn, c21, hB, hoB⟩
              · -- begun: n
                subst hbn
                refine lv_ifnullN (tgt := 64) hx hb dX7_refusalOfNew_58 (by decide) ?_
                refine lv_aload_n hx hb dX7_refusalOfNew_64 rfl (lv_at hl 0 rfl) ?_
                refine va_get (D := D) (ci := 7) (v := .int (σ 7 0)) (C := RX7) (T := TX7) (N := 11) hx hb hts iX7 hown hK.1 hP 0 rfl rfl 2 (by decide) (hts _ q_75) (fun _ h9 => h9) rfl dX7_refusalOfNew_65 ?_
                refine lv_bipush (v := 60) hx hb dX7_refusalOfNew_68 (by decide) ?_
                refine lv_icmp_lt (tgt := 78) hx hb dX7_refusalOfNew_70 (by decide) (fun c11 => ?_) (fun c11 => ?_)
                · -- 70 taken
                  refine lv_iconst (v := 0) hx hb dX7_refusalOfNew_78 (by decide) ?_
                  exact ro_iret (v := 0) hx hb hr hH hlocks dX7_refusalOfNew_79 (by rw [← crF_eq h7 hk60]; unfold crF; simp only [eq_true c2, eq_false c4, eq_true c6, eq_true c8, eq_false c9, eq_true c10, eq_true c21, eq_true c11, not_true, not_false_iff, not_true_eq_false, not_false_eq_true, true_or, or_true, false_or, or_false, or_self, and_self, true_and, and_true, false_and, and_false, if_true, if_false])
                · -- 70 not
                  refine lv_bipush (v := -15) hx hb dX7_refusalOfNew_73 (by decide) ?_
                  refine lv_goto (tgt := 79) hx hb dX7_refusalOfNew_75 (by decide) ?_
                  exact ro_iret (v := (-15)) hx hb hr hH hlocks dX7_refusalOfNew_79 (by rw [← crF_eq h7 hk60]; unfold crF; simp only [eq_true c2, eq_false c4, eq_true c6, eq_true c8, eq_false c9, eq_true c10, eq_true c21, eq_false c11, not_true, not_false_iff, not_true_eq_false, not_false_eq_true, true_or, or_true, false_or, or_false, or_self, and_self, true_and, and_true, false_and, and_false, if_true, if_false])
              · -- begun: a
                subst hbn
                have hoo := hoB
                obtain ⟨heB, hmB, hkB, hpB⟩ := hoB
                have htB := heB.2
                have hzB := hmB.2
                refine lv_ifnull hx hb dX7_refusalOfNew_58 ?_
                refine lv_bipush (v := -14) hx hb dX7_refusalOfNew_61 (by decide) ?_
                exact ro_iret (v := (-14)) hx hb hr hH hlocks dX7_refusalOfNew_63 (by rw [← crF_eq h7 hk60]; unfold crF; simp only [eq_true c2, eq_false c4, eq_true c6, eq_true c8, eq_false c9, eq_true c10, eq_false c21, not_true, not_false_iff, not_true_eq_false, not_false_eq_true, true_or, or_true, false_or, or_false, or_self, and_self, true_and, and_true, false_and, and_false, if_true, if_false])
            · -- 48 not
              refine lv_bipush (v := -13) hx hb dX7_refusalOfNew_51 (by decide) ?_
              exact ro_iret (v := (-13)) hx hb hr hH hlocks dX7_refusalOfNew_53 (by rw [← crF_eq h7 hk60]; unfold crF; simp only [eq_true c2, eq_false c4, eq_true c6, eq_true c8, eq_false c9, eq_false c10, not_true, not_false_iff, not_true_eq_false, not_false_eq_true, true_or, or_true, false_or, or_false, or_self, and_self, true_and, and_true, false_and, and_false, if_true, if_false])
    · -- 16 not
      have c4 := bI_1 c4
      refine lv_bipush (v := -11) hx hb dX7_refusalOfNew_19 (by decide) ?_
      exact ro_iret (v := (-11)) hx hb hr hH hlocks dX7_refusalOfNew_21 (by rw [← crF_eq h7 hk60]; unfold crF; simp only [eq_true c2, eq_true c4, not_true, not_false_iff, not_true_eq_false, not_false_eq_true, true_or, or_true, false_or, or_false, or_self, and_self, true_and, and_true, false_and, and_false, if_true, if_false])
set_option maxHeartbeats 4000000 in
set_option maxRecDepth 100000 in
theorem c_areBelow (l : Launch) (D : va_G) (G : Nat → ClassId) (H : Heap) (ca : Nat → Nat) (bg : Value) (ea : Nat → Nat → Nat) (n k w0 : Nat) (σ x : MS) (κ : Nat → Int64) (hP : va_P D vwCl (cF G ca bg (enF ea k) σ x) H) (hE : ∀ e, e < k → va_P D vwCl (eW G (ea e) σ κ e) H) (hI : cI σ x n k w0) (u : Int32) (v : Int32) (hu : kdn n u) (hv : kdn n v) : Met l yX7_areBelow (ww yX7_areBelow cX7_areBelow 3 (some .boolean)) (rmD 1) (roP D G H [.ref ((ca 0)), .int u, .int v]) (vp_Si (fun r => r = bI (undP σ u v))) 0 0 (fun _ => False) := by
  refine Met.ofW (cc := cX7_areBelow) (maxL := 3) (ret := (some .boolean)) (by decide) rfl ?_
  intro p e s m args below meth c s₁ B hml hv
  obtain ⟨rfl, hH, hK⟩ := hv
  have hx := B.exec
  have hb := B.bytes
  have hr := B.returns
  have hts : ∀ w ∈ TT, w.before _ s = true := fun w h => atoms_spec (ws := ww yX7_areBelow cX7_areBelow 3 (some .boolean)) B.pre w (List.mem_cons_of_mem _ h)
  have hown : s.vm.findClass RX7 = some m.cls := findClass_of_methodNamed B.named
  have hlocks := B.notSynchronized
  rw [hH]
  have hI0 := hI
  obtain ⟨h1, hn, h7, hk60, h22, hw, hab, hfa, hmi, hak, hrf⟩ := hI
  have hl := lv_entry ([.ref ((ca 0)), .int u, .int v]) (n := 3) (Nat.le_of_ble_eq_true rfl)
  rw [lg_entry_eq]
  generalize (lg_sl ([.ref ((ca 0)), .int u, .int v]) ++ List.replicate (3 - (lg_sl ([.ref ((ca 0)), .int u, .int v])).length) Slot.unset).toArray = ls at hl ⊢
  have hl : lv_has ls 3 [(0, .ref ((ca 0))), (1, .int u), (2, .int v)] := hl
  refine lv_iload_n hx hb dX7_areBelow_0 rfl (lv_at hl 1 rfl) ?_
  refine lv_bipush (v := 10) hx hb dX7_areBelow_1 (by decide) ?_
  refine lv_icmp_lt (tgt := 34) hx hb dX7_areBelow_3 (by decide) (fun c1 => ?_) (fun c1 => ?_)
  · -- 3 taken
    refine lv_iconst (v := 0) hx hb dX7_areBelow_34 (by decide) ?_
    exact ro_zret (v := 0) hx hb hr hH hlocks dX7_areBelow_35 (Or.inl rfl) ((bI_f (by simp only [undP_def, ← lt10, eq_true c1, not_true, not_false_iff, not_true_eq_false, not_false_eq_true, true_or, or_true, false_or, or_false, or_self, and_self, true_and, and_true, false_and, and_false, if_true, if_false])).symm)
  · -- 3 not
    refine lv_iload_n hx hb dX7_areBelow_6 rfl (lv_at hl 2 rfl) ?_
    refine lv_bipush (v := 10) hx hb dX7_areBelow_7 (by decide) ?_
    refine lv_icmp_lt (tgt := 34) hx hb dX7_areBelow_9 (by decide) (fun c2 => ?_) (fun c2 => ?_)
    · -- 9 taken
      refine lv_iconst (v := 0) hx hb dX7_areBelow_34 (by decide) ?_
      exact ro_zret (v := 0) hx hb hr hH hlocks dX7_areBelow_35 (Or.inl rfl) ((bI_f (by simp only [undP_def, ← lt10, eq_false c1, eq_true c2, not_true, not_false_iff, not_true_eq_false, not_false_eq_true, true_or, or_true, false_or, or_false, or_self, and_self, true_and, and_true, false_and, and_false, if_true, if_false])).symm)
    · -- 9 not
      refine lv_aload_n hx hb dX7_areBelow_12 rfl (lv_at hl 0 rfl) ?_
      refine va_get (D := D) (ci := 7) (v := .ref ((ca 1))) (C := RX7) (T := TX7) (N := 11) hx hb hts iX7 hown hK.1 hP 0 rfl rfl 0 (by decide) (hts _ q_73) (fun _ h9 => h9) rfl dX7_areBelow_13 ?_
      refine lv_iload_n hx hb dX7_areBelow_16 rfl (lv_at hl 1 rfl) ?_
      refine lv_bipush (v := 10) hx hb dX7_areBelow_17 (by decide) ?_
      refine lv_isub hx hb dX7_areBelow_19 ?_
      refine lv_iload_n hx hb dX7_areBelow_20 rfl (lv_at hl 2 rfl) ?_
      refine lv_bipush (v := 10) hx hb dX7_areBelow_21 (by decide) ?_
      refine lv_isub hx hb dX7_areBelow_23 ?_
      have hu1 := hu (fun h9 => c1 (lt10.mpr h9))
      have hv1 := hv (fun h9 => c2 (lt10.mpr h9))
      refine W.eq (g2 := F0 m 24 ls [.int (v - 10), .int (nI (tyK u)), .ref ((ca 1))]) (congrArg (fun z9 => F0 m 24 ls [.int (v - 10), .int z9, .ref ((ca 1))]) hu1.1) ?_
      refine W.eq (g2 := F0 m 24 ls [.int (nI (tyK v)), .int (nI (tyK u)), .ref ((ca 1))]) (congrArg (fun z9 => F0 m 24 ls [.int z9, .int (nI (tyK u)), .ref ((ca 1))]) hv1.1) ?_
      refine ro_Vi (D := D) (G := G) (As := [.int (nI (tyK u)), .int (nI (tyK v))]) (rest := []) ⟨hx, hb, hml, hown, hts⟩ (c_isBelowN l D G _ ca σ x (cF_ty hP) n h1 hn hab ((tyK u)) ((tyK v)) (by omega) (by omega)) gV_X7_X6_isBelow hdV_X6_isBelow ⟨Nat.le_of_ble_eq_true rfl, Nat.le_of_ble_eq_true rfl⟩ hK (va_recv hK.1 hP (ci := 6) (q0 := 1) rfl rfl) rfl hl.1 rfl (Nat.le_of_ble_eq_true rfl) dX7_areBelow_24 ⟨Nat.le_of_ble_eq_true rfl, Nat.le_of_ble_eq_true rfl⟩ (fun r3 e_r3 => ?_)
      subst e_r3
      refine lv_if_eq (tgt := 34) hx hb dX7_areBelow_27 (by decide) (fun c4 => ?_) (fun c4 => ?_)
      · -- 27 taken
        have c4 := bI_0 c4
        refine lv_iconst (v := 0) hx hb dX7_areBelow_34 (by decide) ?_
        exact ro_zret (v := 0) hx hb hr hH hlocks dX7_areBelow_35 (Or.inl rfl) ((bI_f (by simp only [undP_def, ← lt10, eq_false c1, eq_false c2, eq_false c4, not_true, not_false_iff, not_true_eq_false, not_false_eq_true, true_or, or_true, false_or, or_false, or_self, and_self, true_and, and_true, false_and, and_false, if_true, if_false])).symm)
      · -- 27 not
        have c4 := bI_1 c4
        refine lv_iconst (v := 1) hx hb dX7_areBelow_30 (by decide) ?_
        refine lv_goto (tgt := 35) hx hb dX7_areBelow_31 (by decide) ?_
        exact ro_zret (v := 1) hx hb hr hH hlocks dX7_areBelow_35 (Or.inr rfl) ((bI_t (by simp only [undP_def, ← lt10, eq_false c1, eq_false c2, eq_true c4, not_true, not_false_iff, not_true_eq_false, not_false_eq_true, true_or, or_true, false_or, or_false, or_self, and_self, true_and, and_true, false_and, and_false, if_true, if_false])).symm)
set_option maxHeartbeats 4000000 in
set_option maxRecDepth 100000 in
theorem c_fits (l : Launch) (D : va_G) (G : Nat → ClassId) (H : Heap) (ca : Nat → Nat) (bg : Value) (ea : Nat → Nat → Nat) (n k w0 : Nat) (σ x : MS) (κ : Nat → Int64) (hP : va_P D vwCl (cF G ca bg (enF ea k) σ x) H) (hE : ∀ e, e < k → va_P D vwCl (eW G (ea e) σ κ e) H) (hI : cI σ x n k w0) (u : Int32) (d1 : Int32) (v : Int32) (d2 : Int32) (hu : kdn n u) (hv : kdn n v) (hv9 : ¬ v = 9) : Met l yX7_fits (ww yX7_fits cX7_fits 5 (some .boolean)) (rmD 2) (roP D G H [.ref ((ca 0)), .int u, .int d1, .int v, .int d2]) (vp_Si (fun r => r = bI (fitP σ u d1 v d2))) 0 0 (fun _ => False) := by
  refine Met.ofW (cc := cX7_fits) (maxL := 5) (ret := (some .boolean)) (by decide) rfl ?_
  intro p e s m args below meth c s₁ B hml hv
  obtain ⟨rfl, hH, hK⟩ := hv
  have hx := B.exec
  have hb := B.bytes
  have hr := B.returns
  have hts : ∀ w ∈ TT, w.before _ s = true := fun w h => atoms_spec (ws := ww yX7_fits cX7_fits 5 (some .boolean)) B.pre w (List.mem_cons_of_mem _ h)
  have hown : s.vm.findClass RX7 = some m.cls := findClass_of_methodNamed B.named
  have hlocks := B.notSynchronized
  rw [hH]
  have hI0 := hI
  obtain ⟨h1, hn, h7, hk60, h22, hw, hab, hfa, hmi, hak, hrf⟩ := hI
  have hl := lv_entry ([.ref ((ca 0)), .int u, .int d1, .int v, .int d2]) (n := 5) (Nat.le_of_ble_eq_true rfl)
  rw [lg_entry_eq]
  generalize (lg_sl ([.ref ((ca 0)), .int u, .int d1, .int v, .int d2]) ++ List.replicate (5 - (lg_sl ([.ref ((ca 0)), .int u, .int d1, .int v, .int d2])).length) Slot.unset).toArray = ls at hl ⊢
  have hl : lv_has ls 5 [(0, .ref ((ca 0))), (1, .int u), (2, .int d1), (3, .int v), (4, .int d2)] := hl
  refine lv_iload_n hx hb dX7_fits_0 rfl (lv_at hl 1 rfl) ?_
  refine lv_bipush (v := 9) hx hb dX7_fits_1 (by decide) ?_
  refine lv_icmp_ne (tgt := 23) hx hb dX7_fits_3 (by decide) (fun c1 => ?_) (fun c1 => ?_)
  · -- 3 taken
    refine lv_iload_n hx hb dX7_fits_23 rfl (lv_at hl 2 rfl) ?_
    refine lv_iload hx hb dX7_fits_24 (lv_at hl 4 rfl) ?_
    refine lv_icmp_eq (tgt := 31) hx hb dX7_fits_26 (by decide) (fun c2 => ?_) (fun c2 => ?_)
    · -- 26 taken
      refine lv_iload_n hx hb dX7_fits_31 rfl (lv_at hl 1 rfl) ?_
      refine lv_iload_n hx hb dX7_fits_32 rfl (lv_at hl 3 rfl) ?_
      refine lv_icmp_eq (tgt := 57) hx hb dX7_fits_33 (by decide) (fun c3 => ?_) (fun c3 => ?_)
      · -- 33 taken
        refine lv_iconst (v := 1) hx hb dX7_fits_57 (by decide) ?_
        refine lv_goto (tgt := 62) hx hb dX7_fits_58 (by decide) ?_
        exact ro_zret (v := 1) hx hb hr hH hlocks dX7_fits_62 (Or.inr rfl) ((bI_t (by simp only [fit_c hv9, eq_false c1, eq_true c2, eq_true c3, not_true, not_false_iff, not_true_eq_false, not_false_eq_true, true_or, or_true, false_or, or_false, or_self, and_self, true_and, and_true, false_and, and_false, if_true, if_false])).symm)
      · -- 33 not
        refine lv_aload_n hx hb dX7_fits_36 rfl (lv_at hl 0 rfl) ?_
        refine lv_iload_n hx hb dX7_fits_37 rfl (lv_at hl 1 rfl) ?_
        refine lv_iload_n hx hb dX7_fits_38 rfl (lv_at hl 3 rfl) ?_
        refine ro_Vi (D := D) (G := G) (As := [.int u, .int v]) (rest := []) ⟨hx, hb, hml, hown, hts⟩ (c_areBelow l D G _ ca _ ea n k w0 σ x κ hP hE hI0 u v hu hv) gV_X7_X7_areBelow hdV_X7_areBelow ⟨Nat.le_of_ble_eq_true rfl, Nat.le_of_ble_eq_true rfl⟩ hK (va_recv hK.1 hP (ci := 7) (q0 := 0) rfl rfl) rfl hl.1 rfl (Nat.le_of_ble_eq_true rfl) dX7_fits_39 ⟨Nat.le_of_ble_eq_true rfl, Nat.le_of_ble_eq_true rfl⟩ (fun r4 e_r4 => ?_)
        subst e_r4
        refine lv_if_ne (tgt := 57) hx hb dX7_fits_42 (by decide) (fun c5 => ?_) (fun c5 => ?_)
        · -- 42 taken
          have c5 := bI_1 c5
          refine lv_iconst (v := 1) hx hb dX7_fits_57 (by decide) ?_
          refine lv_goto (tgt := 62) hx hb dX7_fits_58 (by decide) ?_
          exact ro_zret (v := 1) hx hb hr hH hlocks dX7_fits_62 (Or.inr rfl) ((bI_t (by simp only [fit_c hv9, eq_false c1, eq_true c2, eq_false c3, eq_true c5, not_true, not_false_iff, not_true_eq_false, not_false_eq_true, true_or, or_true, false_or, or_false, or_self, and_self, true_and, and_true, false_and, and_false, if_true, if_false])).symm)
        · -- 42 not
          have c5 := bI_0 c5
          refine lv_iload_n hx hb dX7_fits_45 rfl (lv_at hl 2 rfl) ?_
          refine lv_if_ne (tgt := 61) hx hb dX7_fits_46 (by decide) (fun c6 => ?_) (fun c6 => ?_)
          · -- 46 taken
            refine lv_iconst (v := 0) hx hb dX7_fits_61 (by decide) ?_
            exact ro_zret (v := 0) hx hb hr hH hlocks dX7_fits_62 (Or.inl rfl) ((bI_f (by simp only [fit_c hv9, eq_false c1, eq_true c2, eq_false c3, eq_false c5, eq_false c6, not_true, not_false_iff, not_true_eq_false, not_false_eq_true, true_or, or_true, false_or, or_false, or_self, and_self, true_and, and_true, false_and, and_false, if_true, if_false])).symm)
          · -- 46 not
            refine lv_iload_n hx hb dX7_fits_49 rfl (lv_at hl 1 rfl) ?_
            refine lv_iload_n hx hb dX7_fits_50 rfl (lv_at hl 3 rfl) ?_
            refine ro_Si (D := D) (G := G) (As := [.int u, .int v]) (rest := []) ⟨hx, hb, hml, hown, hts⟩ (c_widens l D G _ u v) gS_X7_X7_widens hdS_X7_widens ⟨Nat.le_of_ble_eq_true rfl, Nat.le_of_ble_eq_true rfl⟩ hK rfl hl.1 rfl (Nat.le_of_ble_eq_true rfl) dX7_fits_51 ⟨Nat.le_of_ble_eq_true rfl, Nat.le_of_ble_eq_true rfl⟩ (fun r7 e_r7 => ?_)
            subst e_r7
            refine lv_if_eq (tgt := 61) hx hb dX7_fits_54 (by decide) (fun c8 => ?_) (fun c8 => ?_)
            · -- 54 taken
              have c8 := bI_0 c8
              refine lv_iconst (v := 0) hx hb dX7_fits_61 (by decide) ?_
              exact ro_zret (v := 0) hx hb hr hH hlocks dX7_fits_62 (Or.inl rfl) ((bI_f (by simp only [fit_c hv9, eq_false c1, eq_true c2, eq_false c3, eq_false c5, eq_true c6, eq_false c8, not_true, not_false_iff, not_true_eq_false, not_false_eq_true, true_or, or_true, false_or, or_false, or_self, and_self, true_and, and_true, false_and, and_false, if_true, if_false])).symm)
            · -- 54 not
              have c8 := bI_1 c8
              refine lv_iconst (v := 1) hx hb dX7_fits_57 (by decide) ?_
              refine lv_goto (tgt := 62) hx hb dX7_fits_58 (by decide) ?_
              exact ro_zret (v := 1) hx hb hr hH hlocks dX7_fits_62 (Or.inr rfl) ((bI_t (by simp only [fit_c hv9, eq_false c1, eq_true c2, eq_false c3, eq_false c5, eq_true c6, eq_true c8, not_true, not_false_iff, not_true_eq_false, not_false_eq_true, true_or, or_true, false_or, or_false, or_self, and_self, true_and, and_true, false_and, and_false, if_true, if_false])).symm)
    · -- 26 not
      refine lv_iconst (v := 0) hx hb dX7_fits_29 (by decide) ?_
      exact ro_zret (v := 0) hx hb hr hH hlocks dX7_fits_30 (Or.inl rfl) ((bI_f (by simp only [fit_c hv9, eq_false c1, eq_false c2, not_true, not_false_iff, not_true_eq_false, not_false_eq_true, true_or, or_true, false_or, or_false, or_self, and_self, true_and, and_true, false_and, and_false, if_true, if_false])).symm)
  · -- 3 not
    refine lv_iload hx hb dX7_fits_6 (lv_at hl 4 rfl) ?_
    refine lv_if_gt (tgt := 17) hx hb dX7_fits_8 (by decide) (fun c9 => ?_) (fun c9 => ?_)
    · -- 8 taken
      refine lv_iconst (v := 1) hx hb dX7_fits_17 (by decide) ?_
      refine lv_goto (tgt := 22) hx hb dX7_fits_18 (by decide) ?_
      exact ro_zret (v := 1) hx hb hr hH hlocks dX7_fits_22 (Or.inr rfl) ((bI_t (by simp only [fit_c hv9, eq_true c1, eq_true c9, not_true, not_false_iff, not_true_eq_false, not_false_eq_true, true_or, or_true, false_or, or_false, or_self, and_self, true_and, and_true, false_and, and_false, if_true, if_false])).symm)
    · -- 8 not
      refine lv_iload_n hx hb dX7_fits_11 rfl (lv_at hl 3 rfl) ?_
      refine lv_bipush (v := 10) hx hb dX7_fits_12 (by decide) ?_
      refine lv_icmp_lt (tgt := 21) hx hb dX7_fits_14 (by decide) (fun c10 => ?_) (fun c10 => ?_)
      · -- 14 taken
        refine lv_iconst (v := 0) hx hb dX7_fits_21 (by decide) ?_
        exact ro_zret (v := 0) hx hb hr hH hlocks dX7_fits_22 (Or.inl rfl) ((bI_f (by simp only [fit_c hv9, eq_true c1, eq_false c9, eq_true c10, not_true, not_false_iff, not_true_eq_false, not_false_eq_true, true_or, or_true, false_or, or_false, or_self, and_self, true_and, and_true, false_and, and_false, if_true, if_false])).symm)
      · -- 14 not
        refine lv_iconst (v := 1) hx hb dX7_fits_17 (by decide) ?_
        refine lv_goto (tgt := 22) hx hb dX7_fits_18 (by decide) ?_
        exact ro_zret (v := 1) hx hb hr hH hlocks dX7_fits_22 (Or.inr rfl) ((bI_t (by simp only [fit_c hv9, eq_true c1, eq_false c9, eq_false c10, not_true, not_false_iff, not_true_eq_false, not_false_eq_true, true_or, or_true, false_or, or_false, or_self, and_self, true_and, and_true, false_and, and_false, if_true, if_false])).symm)
set_option maxHeartbeats 4000000 in
set_option maxRecDepth 100000 in
theorem c_isStaticOfFace (l : Launch) (D : va_G) (G : Nat → ClassId) (H : Heap) (ca : Nat → Nat) (bg : Value) (ea : Nat → Nat → Nat) (n k w0 : Nat) (σ x : MS) (κ : Nat → Int64) (hP : va_P D vwCl (cF G ca bg (enF ea k) σ x) H) (hE : ∀ e, e < k → va_P D vwCl (eW G (ea e) σ κ e) H) (hI : cI σ x n k w0) (a1 : Nat → Nat) (en1 : Nat) (me1 : Int32) (hQ1 : va_P D vwCl (mbW G a1 σ en1 me1) H) (ho1 : mI σ n en1) : Met l yX7_isStaticOfFace (ww yX7_isStaticOfFace cX7_isStaticOfFace 2 (some .boolean)) (rmD 3) (roP D G H [.ref ((ca 0)), .ref ((a1 0))]) (vp_Si (fun r => r = bI (stP σ en1))) 0 0 (fun _ => False) := by
  refine Met.ofW (cc := cX7_isStaticOfFace) (maxL := 2) (ret := (some .boolean)) (by decide) rfl ?_
  intro p e s m args below meth c s₁ B hml hv
  obtain ⟨rfl, hH, hK⟩ := hv
  have hx := B.exec
  have hb := B.bytes
  have hr := B.returns
  have hts : ∀ w ∈ TT, w.before _ s = true := fun w h => atoms_spec (ws := ww yX7_isStaticOfFace cX7_isStaticOfFace 2 (some .boolean)) B.pre w (List.mem_cons_of_mem _ h)
  have hown : s.vm.findClass RX7 = some m.cls := findClass_of_methodNamed B.named
  have hlocks := B.notSynchronized
  rw [hH]
  have hI0 := hI
  obtain ⟨h1, hn, h7, hk60, h22, hw, hab, hfa, hmi, hak, hrf⟩ := hI
  have hoo1 := ho1
  obtain ⟨he1, hm1, hk1, hp1⟩ := ho1
  have ht1 := he1.2
  have hz1 := hm1.2
  have hl := lv_entry ([.ref ((ca 0)), .ref ((a1 0))]) (n := 2) (Nat.le_of_ble_eq_true rfl)
  rw [lg_entry_eq]
  generalize (lg_sl ([.ref ((ca 0)), .ref ((a1 0))]) ++ List.replicate (2 - (lg_sl ([.ref ((ca 0)), .ref ((a1 0))])).length) Slot.unset).toArray = ls at hl ⊢
  have hl : lv_has ls 2 [(0, .ref ((ca 0))), (1, .ref ((a1 0)))] := hl
  refine lv_aload_n hx hb dX7_isStaticOfFace_0 rfl (lv_at hl 1 rfl) ?_
  refine lv_bipush (v := 8) hx hb dX7_isStaticOfFace_1 (by decide) ?_
  refine ro_Ui (D := D) (G := G) (As := [.int 8]) (rest := []) ⟨hx, hb, hml, hown, hts⟩ (c_hasAnyM l D G _ _ σ (en1) _ hQ1 8) gU_X7_281_X3 rfl (by decide +kernel) ⟨Nat.le_of_ble_eq_true rfl, Nat.le_of_ble_eq_true rfl⟩ hK (va_recv hK.1 hQ1 (ci := 4) (q0 := 0) rfl rfl) rfl hl.1 rfl (Nat.le_of_ble_eq_true rfl) dX7_isStaticOfFace_3 ⟨Nat.le_of_ble_eq_true rfl, Nat.le_of_ble_eq_true rfl⟩ (fun r1 e_r1 => ?_)
  subst e_r1
  refine lv_if_eq (tgt := 27) hx hb dX7_isStaticOfFace_6 (by decide) (fun c2 => ?_) (fun c2 => ?_)
  · -- 6 taken
    have c2 := bI_0 c2
    refine lv_iconst (v := 0) hx hb dX7_isStaticOfFace_27 (by decide) ?_
    exact ro_zret (v := 0) hx hb hr hH hlocks dX7_isStaticOfFace_28 (Or.inl rfl) ((bI_f (by simp only [stP_def, eq_true (Decidable.of_not_not c2), not_true, not_false_iff, not_true_eq_false, not_false_eq_true, true_or, or_true, false_or, or_false, or_self, and_self, true_and, and_true, false_and, and_false, if_true, if_false])).symm)
  · -- 6 not
    have c2 := bI_1 c2
    refine lv_aload_n hx hb dX7_isStaticOfFace_9 rfl (lv_at hl 0 rfl) ?_
    refine va_get (D := D) (ci := 7) (v := .ref ((ca 1))) (C := RX7) (T := TX7) (N := 11) hx hb hts iX7 hown hK.1 hP 0 rfl rfl 0 (by decide) (hts _ q_73) (fun _ h9 => h9) rfl dX7_isStaticOfFace_10 ?_
    refine lv_aload_n hx hb dX7_isStaticOfFace_13 rfl (lv_at hl 1 rfl) ?_
    refine va_get (D := D) (ci := 4) (v := .int (σ 9 en1)) (C := RX3) (T := TX3) (N := 9) hx hb hts iX3 hown hK.1 hQ1 0 rfl rfl 0 (by decide) (hts _ q_220) (fun x9 h9 => u_same (hts _ q_221) x9 h9) rfl dX7_isStaticOfFace_14 ?_
    refine W.eq (g2 := F0 m 17 ls [.int (nI (tyE σ en1)), .ref ((ca 1))]) (congrArg (fun z9 => F0 m 17 ls [.int z9, .ref ((ca 1))]) he1.1) ?_
    refine ro_Vi (D := D) (G := G) (As := [.int (nI (tyE σ en1))]) (rest := []) ⟨hx, hb, hml, hown, hts⟩ (c_isFaceN l D G _ ca σ x (cF_ty hP) n h1 hn ((tyE σ en1)) (by omega)) gV_X7_X6_isFace hdV_X6_isFace ⟨Nat.le_of_ble_eq_true rfl, Nat.le_of_ble_eq_true rfl⟩ hK (va_recv hK.1 hP (ci := 6) (q0 := 1) rfl rfl) rfl hl.1 rfl (Nat.le_of_ble_eq_true rfl) dX7_isStaticOfFace_17 ⟨Nat.le_of_ble_eq_true rfl, Nat.le_of_ble_eq_true rfl⟩ (fun r3 e_r3 => ?_)
    subst e_r3
    refine lv_if_eq (tgt := 27) hx hb dX7_isStaticOfFace_20 (by decide) (fun c4 => ?_) (fun c4 => ?_)
    · -- 20 taken
      have c4 := bI_0 c4
      refine lv_iconst (v := 0) hx hb dX7_isStaticOfFace_27 (by decide) ?_
      exact ro_zret (v := 0) hx hb hr hH hlocks dX7_isStaticOfFace_28 (Or.inl rfl) ((bI_f (by simp only [stP_def, eq_false c2, eq_false c4, not_true, not_false_iff, not_true_eq_false, not_false_eq_true, true_or, or_true, false_or, or_false, or_self, and_self, true_and, and_true, false_and, and_false, if_true, if_false])).symm)
    · -- 20 not
      have c4 := bI_1 c4
      refine lv_iconst (v := 1) hx hb dX7_isStaticOfFace_23 (by decide) ?_
      refine lv_goto (tgt := 28) hx hb dX7_isStaticOfFace_24 (by decide) ?_
      exact ro_zret (v := 1) hx hb hr hH hlocks dX7_isStaticOfFace_28 (Or.inr rfl) ((bI_t (by simp only [stP_def, eq_false c2, eq_true c4, not_true, not_false_iff, not_true_eq_false, not_false_eq_true, true_or, or_true, false_or, or_false, or_self, and_self, true_and, and_true, false_and, and_false, if_true, if_false])).symm)
set_option maxHeartbeats 4000000 in
set_option maxRecDepth 100000 in
theorem c_meets (l : Launch) (D : va_G) (G : Nat → ClassId) (H : Heap) (ca : Nat → Nat) (bg : Value) (ea : Nat → Nat → Nat) (n k w0 : Nat) (σ x : MS) (κ : Nat → Int64) (hP : va_P D vwCl (cF G ca bg (enF ea k) σ x) H) (hE : ∀ e, e < k → va_P D vwCl (eW G (ea e) σ κ e) H) (hI : cI σ x n k w0) (a1 : Nat → Nat) (en1 : Nat) (me1 : Int32) (hQ1 : va_P D vwCl (mbW G a1 σ en1 me1) H) (ho1 : mI σ n en1) (a2 : Nat → Nat) (en2 : Nat) (me2 : Int32) (hQ2 : va_P D vwCl (mbW G a2 σ en2 me2) H) (ho2 : mI σ n en2) (h8 : ¬ σ 8 en2 = 0) (hne : ¬ en1 = en2) : Met l yX7_meets (ww yX7_meets cX7_meets 3 (some .boolean)) (rmD 4) (roP D G H [.ref ((ca 0)), .ref ((a1 0)), .ref ((a2 0))]) (vp_Si (fun r => r = bI (meetP σ en1 en2))) 0 0 (fun _ => False) := by
  refine Met.ofW (cc := cX7_meets) (maxL := 3) (ret := (some .boolean)) (by decide) rfl ?_
  intro p e s m args below meth c s₁ B hml hv
  obtain ⟨rfl, hH, hK⟩ := hv
  have hx := B.exec
  have hb := B.bytes
  have hr := B.returns
  have hts : ∀ w ∈ TT, w.before _ s = true := fun w h => atoms_spec (ws := ww yX7_meets cX7_meets 3 (some .boolean)) B.pre w (List.mem_cons_of_mem _ h)
  have hown : s.vm.findClass RX7 = some m.cls := findClass_of_methodNamed B.named
  have hlocks := B.notSynchronized
  rw [hH]
  have hI0 := hI
  have q9 : (σ 9 en1 = σ 9 en2) = (σ 9 en2 = σ 9 en1) := propext eq_comm
  have q10 : (σ 10 en1 = σ 10 en2) = (σ 10 en2 = σ 10 en1) := propext eq_comm
  have qs : sameP σ en1 en2 = sameP σ en2 en1 := propext same_comm
  obtain ⟨h1, hn, h7, hk60, h22, hw, hab, hfa, hmi, hak, hrf⟩ := hI
  have hoo1 := ho1
  obtain ⟨he1, hm1, hk1, hp1⟩ := ho1
  have ht1 := he1.2
  have hz1 := hm1.2
  have hoo2 := ho2
  obtain ⟨he2, hm2, hk2, hp2⟩ := ho2
  have ht2 := he2.2
  have hz2 := hm2.2
  have hl := lv_entry ([.ref ((ca 0)), .ref ((a1 0)), .ref ((a2 0))]) (n := 3) (Nat.le_of_ble_eq_true rfl)
  rw [lg_entry_eq]
  generalize (lg_sl ([.ref ((ca 0)), .ref ((a1 0)), .ref ((a2 0))]) ++ List.replicate (3 - (lg_sl ([.ref ((ca 0)), .ref ((a1 0)), .ref ((a2 0))])).length) Slot.unset).toArray = ls at hl ⊢
  have hl : lv_has ls 3 [(0, .ref ((ca 0))), (1, .ref ((a1 0))), (2, .ref ((a2 0)))] := hl
  refine lv_aload_n hx hb dX7_meets_0 rfl (lv_at hl 2 rfl) ?_
  refine va_get (D := D) (ci := 4) (v := .int (σ 9 en2)) (C := RX3) (T := TX3) (N := 9) hx hb hts iX3 hown hK.1 hQ2 0 rfl rfl 0 (by decide) (hts _ q_220) (fun x9 h9 => u_same (hts _ q_221) x9 h9) rfl dX7_meets_1 ?_
  refine lv_aload_n hx hb dX7_meets_4 rfl (lv_at hl 1 rfl) ?_
  refine va_get (D := D) (ci := 4) (v := .int (σ 9 en1)) (C := RX3) (T := TX3) (N := 9) hx hb hts iX3 hown hK.1 hQ1 0 rfl rfl 0 (by decide) (hts _ q_220) (fun x9 h9 => u_same (hts _ q_221) x9 h9) rfl dX7_meets_5 ?_
  refine lv_icmp_eq (tgt := 73) hx hb dX7_meets_8 (by decide) (fun c1 => ?_) (fun c1 => ?_)
  · -- 8 taken
    refine lv_iconst (v := 0) hx hb dX7_meets_73 (by decide) ?_
    exact ro_zret (v := 0) hx hb hr hH hlocks dX7_meets_74 (Or.inl rfl) ((bI_f (by simp only [meetP_def, eq_true h8, eq_false hne, q9, q10, qs, Decidable.not_not, eq_true c1, not_true, not_false_iff, not_true_eq_false, not_false_eq_true, true_or, or_true, false_or, or_false, or_self, and_self, true_and, and_true, false_and, and_false, if_true, if_false])).symm)
  · -- 8 not
    refine lv_aload_n hx hb dX7_meets_11 rfl (lv_at hl 0 rfl) ?_
    refine va_get (D := D) (ci := 7) (v := .ref ((ca 1))) (C := RX7) (T := TX7) (N := 11) hx hb hts iX7 hown hK.1 hP 0 rfl rfl 0 (by decide) (hts _ q_73) (fun _ h9 => h9) rfl dX7_meets_12 ?_
    refine lv_aload_n hx hb dX7_meets_15 rfl (lv_at hl 1 rfl) ?_
    refine va_get (D := D) (ci := 4) (v := .int (σ 9 en1)) (C := RX3) (T := TX3) (N := 9) hx hb hts iX3 hown hK.1 hQ1 0 rfl rfl 0 (by decide) (hts _ q_220) (fun x9 h9 => u_same (hts _ q_221) x9 h9) rfl dX7_meets_16 ?_
    refine lv_aload_n hx hb dX7_meets_19 rfl (lv_at hl 2 rfl) ?_
    refine va_get (D := D) (ci := 4) (v := .int (σ 9 en2)) (C := RX3) (T := TX3) (N := 9) hx hb hts iX3 hown hK.1 hQ2 0 rfl rfl 0 (by decide) (hts _ q_220) (fun x9 h9 => u_same (hts _ q_221) x9 h9) rfl dX7_meets_20 ?_
    refine W.eq (g2 := F0 m 23 ls [.int (σ 9 en2), .int (nI (tyE σ en1)), .ref ((ca 1))]) (congrArg (fun z9 => F0 m 23 ls [.int (σ 9 en2), .int z9, .ref ((ca 1))]) he1.1) ?_
    refine W.eq (g2 := F0 m 23 ls [.int (nI (tyE σ en2)), .int (nI (tyE σ en1)), .ref ((ca 1))]) (congrArg (fun z9 => F0 m 23 ls [.int z9, .int (nI (tyE σ en1)), .ref ((ca 1))]) he2.1) ?_
    refine ro_Vi (D := D) (G := G) (As := [.int (nI (tyE σ en1)), .int (nI (tyE σ en2))]) (rest := []) ⟨hx, hb, hml, hown, hts⟩ (c_isBelowN l D G _ ca σ x (cF_ty hP) n h1 hn hab ((tyE σ en1)) ((tyE σ en2)) (by omega) (by omega)) gV_X7_X6_isBelow hdV_X6_isBelow ⟨Nat.le_of_ble_eq_true rfl, Nat.le_of_ble_eq_true rfl⟩ hK (va_recv hK.1 hP (ci := 6) (q0 := 1) rfl rfl) rfl hl.1 rfl (Nat.le_of_ble_eq_true rfl) dX7_meets_23 ⟨Nat.le_of_ble_eq_true rfl, Nat.le_of_ble_eq_true rfl⟩ (fun r2 e_r2 => ?_)
    subst e_r2
    refine lv_if_eq (tgt := 73) hx hb dX7_meets_26 (by decide) (fun c3 => ?_) (fun c3 => ?_)
    · -- 26 taken
      have c3 := bI_0 c3
      refine lv_iconst (v := 0) hx hb dX7_meets_73 (by decide) ?_
      exact ro_zret (v := 0) hx hb hr hH hlocks dX7_meets_74 (Or.inl rfl) ((bI_f (by simp only [meetP_def, eq_true h8, eq_false hne, q9, q10, qs, Decidable.not_not, eq_false c1, eq_false c3, not_true, not_false_iff, not_true_eq_false, not_false_eq_true, true_or, or_true, false_or, or_false, or_self, and_self, true_and, and_true, false_and, and_false, if_true, if_false])).symm)
    · -- 26 not
      have c3 := bI_1 c3
      refine lv_aload_n hx hb dX7_meets_29 rfl (lv_at hl 2 rfl) ?_
      refine lv_aload_n hx hb dX7_meets_30 rfl (lv_at hl 1 rfl) ?_
      refine ro_Vi (D := D) (G := G) (As := [.ref ((a1 0))]) (rest := []) ⟨hx, hb, hml, hown, hts⟩ (c_isLike l D G _ _ σ (en2) _ hQ2 hm2 a1 en1 _ hQ1 hm1) gV_X7_X3_isLike hdV_X3_isLike ⟨Nat.le_of_ble_eq_true rfl, Nat.le_of_ble_eq_true rfl⟩ hK (va_recv hK.1 hQ2 (ci := 4) (q0 := 0) rfl rfl) rfl hl.1 rfl (Nat.le_of_ble_eq_true rfl) dX7_meets_31 ⟨Nat.le_of_ble_eq_true rfl, Nat.le_of_ble_eq_true rfl⟩ (fun r4 e_r4 => ?_)
      subst e_r4
      refine lv_if_eq (tgt := 73) hx hb dX7_meets_34 (by decide) (fun c5 => ?_) (fun c5 => ?_)
      · -- 34 taken
        have c5 := bI_0 c5
        refine lv_iconst (v := 0) hx hb dX7_meets_73 (by decide) ?_
        exact ro_zret (v := 0) hx hb hr hH hlocks dX7_meets_74 (Or.inl rfl) ((bI_f (by simp only [meetP_def, eq_true h8, eq_false hne, q9, q10, qs, Decidable.not_not, eq_false c1, eq_true c3, eq_false c5, not_true, not_false_iff, not_true_eq_false, not_false_eq_true, true_or, or_true, false_or, or_false, or_self, and_self, true_and, and_true, false_and, and_false, if_true, if_false])).symm)
      · -- 34 not
        have c5 := bI_1 c5
        refine lv_aload_n hx hb dX7_meets_37 rfl (lv_at hl 1 rfl) ?_
        refine lv_iconst (v := 4) hx hb dX7_meets_38 (by decide) ?_
        refine ro_Ui (D := D) (G := G) (As := [.int 4]) (rest := []) ⟨hx, hb, hml, hown, hts⟩ (c_hasAnyM l D G _ _ σ (en1) _ hQ1 4) gU_X7_281_X3 rfl (by decide +kernel) ⟨Nat.le_of_ble_eq_true rfl, Nat.le_of_ble_eq_true rfl⟩ hK (va_recv hK.1 hQ1 (ci := 4) (q0 := 0) rfl rfl) rfl hl.1 rfl (Nat.le_of_ble_eq_true rfl) dX7_meets_39 ⟨Nat.le_of_ble_eq_true rfl, Nat.le_of_ble_eq_true rfl⟩ (fun r6 e_r6 => ?_)
        subst e_r6
        refine lv_if_ne (tgt := 73) hx hb dX7_meets_42 (by decide) (fun c7 => ?_) (fun c7 => ?_)
        · -- 42 taken
          have c7 := bI_1 c7
          refine lv_iconst (v := 0) hx hb dX7_meets_73 (by decide) ?_
          exact ro_zret (v := 0) hx hb hr hH hlocks dX7_meets_74 (Or.inl rfl) ((bI_f (by simp only [meetP_def, eq_true h8, eq_false hne, q9, q10, qs, Decidable.not_not, eq_false c1, eq_true c3, eq_true c5, eq_false c7, not_true, not_false_iff, not_true_eq_false, not_false_eq_true, true_or, or_true, false_or, or_false, or_self, and_self, true_and, and_true, false_and, and_false, if_true, if_false])).symm)
        · -- 42 not
          have c7 := bI_0 c7
          refine lv_aload_n hx hb dX7_meets_45 rfl (lv_at hl 2 rfl) ?_
          refine lv_iconst (v := 4) hx hb dX7_meets_46 (by decide) ?_
          refine ro_Ui (D := D) (G := G) (As := [.int 4]) (rest := []) ⟨hx, hb, hml, hown, hts⟩ (c_hasAnyM l D G _ _ σ (en2) _ hQ2 4) gU_X7_281_X3 rfl (by decide +kernel) ⟨Nat.le_of_ble_eq_true rfl, Nat.le_of_ble_eq_true rfl⟩ hK (va_recv hK.1 hQ2 (ci := 4) (q0 := 0) rfl rfl) rfl hl.1 rfl (Nat.le_of_ble_eq_true rfl) dX7_meets_47 ⟨Nat.le_of_ble_eq_true rfl, Nat.le_of_ble_eq_true rfl⟩ (fun r8 e_r8 => ?_)
          subst e_r8
          refine lv_if_ne (tgt := 73) hx hb dX7_meets_50 (by decide) (fun c9 => ?_) (fun c9 => ?_)
          · -- 50 taken
            have c9 := bI_1 c9
            refine lv_iconst (v := 0) hx hb dX7_meets_73 (by decide) ?_
            exact ro_zret (v := 0) hx hb hr hH hlocks dX7_meets_74 (Or.inl rfl) ((bI_f (by simp only [meetP_def, eq_true h8, eq_false hne, q9, q10, qs, Decidable.not_not, eq_false c1, eq_true c3, eq_true c5, eq_true (Decidable.of_not_not c7), eq_false c9, not_true, not_false_iff, not_true_eq_false, not_false_eq_true, true_or, or_true, false_or, or_false, or_self, and_self, true_and, and_true, false_and, and_false, if_true, if_false])).symm)
          · -- 50 not
            have c9 := bI_0 c9
            refine lv_aload_n hx hb dX7_meets_53 rfl (lv_at hl 0 rfl) ?_
            refine lv_aload_n hx hb dX7_meets_54 rfl (lv_at hl 1 rfl) ?_
            refine ro_Vi (D := D) (G := G) (As := [.ref ((a1 0))]) (rest := []) ⟨hx, hb, hml, hown, hts⟩ (c_isStaticOfFace l D G _ ca _ ea n k w0 σ x κ hP hE hI0 a1 en1 _ hQ1 hoo1) gV_X7_X7_isStaticOfFace hdV_X7_isStaticOfFace ⟨Nat.le_of_ble_eq_true rfl, Nat.le_of_ble_eq_true rfl⟩ hK (va_recv hK.1 hP (ci := 7) (q0 := 0) rfl rfl) rfl hl.1 rfl (Nat.le_of_ble_eq_true rfl) dX7_meets_55 ⟨Nat.le_of_ble_eq_true rfl, Nat.le_of_ble_eq_true rfl⟩ (fun r10 e_r10 => ?_)
            subst e_r10
            refine lv_if_ne (tgt := 73) hx hb dX7_meets_58 (by decide) (fun c11 => ?_) (fun c11 => ?_)
            · -- 58 taken
              have c11 := bI_1 c11
              refine lv_iconst (v := 0) hx hb dX7_meets_73 (by decide) ?_
              exact ro_zret (v := 0) hx hb hr hH hlocks dX7_meets_74 (Or.inl rfl) ((bI_f (by simp only [meetP_def, eq_true h8, eq_false hne, q9, q10, qs, Decidable.not_not, eq_false c1, eq_true c3, eq_true c5, eq_true (Decidable.of_not_not c7), eq_true (Decidable.of_not_not c9), eq_true c11, not_true, not_false_iff, not_true_eq_false, not_false_eq_true, true_or, or_true, false_or, or_false, or_self, and_self, true_and, and_true, false_and, and_false, if_true, if_false])).symm)
            · -- 58 not
              have c11 := bI_0 c11
              refine lv_aload_n hx hb dX7_meets_61 rfl (lv_at hl 0 rfl) ?_
              refine lv_aload_n hx hb dX7_meets_62 rfl (lv_at hl 2 rfl) ?_
              refine ro_Vi (D := D) (G := G) (As := [.ref ((a2 0))]) (rest := []) ⟨hx, hb, hml, hown, hts⟩ (c_isStaticOfFace l D G _ ca _ ea n k w0 σ x κ hP hE hI0 a2 en2 _ hQ2 hoo2) gV_X7_X7_isStaticOfFace hdV_X7_isStaticOfFace ⟨Nat.le_of_ble_eq_true rfl, Nat.le_of_ble_eq_true rfl⟩ hK (va_recv hK.1 hP (ci := 7) (q0 := 0) rfl rfl) rfl hl.1 rfl (Nat.le_of_ble_eq_true rfl) dX7_meets_63 ⟨Nat.le_of_ble_eq_true rfl, Nat.le_of_ble_eq_true rfl⟩ (fun r12 e_r12 => ?_)
              subst e_r12
              refine lv_if_ne (tgt := 73) hx hb dX7_meets_66 (by decide) (fun c13 => ?_) (fun c13 => ?_)
              · -- 66 taken
                have c13 := bI_1 c13
                refine lv_iconst (v := 0) hx hb dX7_meets_73 (by decide) ?_
                exact ro_zret (v := 0) hx hb hr hH hlocks dX7_meets_74 (Or.inl rfl) ((bI_f (by simp only [meetP_def, eq_true h8, eq_false hne, q9, q10, qs, Decidable.not_not, eq_false c1, eq_true c3, eq_true c5, eq_true (Decidable.of_not_not c7), eq_true (Decidable.of_not_not c9), eq_false c11, eq_true c13, not_true, not_false_iff, not_true_eq_false, not_false_eq_true, true_or, or_true, false_or, or_false, or_self, and_self, true_and, and_true, false_and, and_false, if_true, if_false])).symm)
              · -- 66 not
                have c13 := bI_0 c13
                refine lv_iconst (v := 1) hx hb dX7_meets_69 (by decide) ?_
                refine lv_goto (tgt := 74) hx hb dX7_meets_70 (by decide) ?_
                exact ro_zret (v := 1) hx hb hr hH hlocks dX7_meets_74 (Or.inr rfl) ((bI_t (by simp only [meetP_def, eq_true h8, eq_false hne, q9, q10, qs, Decidable.not_not, eq_false c1, eq_true c3, eq_true c5, eq_true (Decidable.of_not_not c7), eq_true (Decidable.of_not_not c9), eq_false c11, eq_false c13, not_true, not_false_iff, not_true_eq_false, not_false_eq_true, true_or, or_true, false_or, or_false, or_self, and_self, true_and, and_true, false_and, and_false, if_true, if_false])).symm)
set_option maxHeartbeats 4000000 in
set_option maxRecDepth 100000 in
theorem c_mayStandForResult (l : Launch) (D : va_G) (G : Nat → ClassId) (H : Heap) (ca : Nat → Nat) (bg : Value) (ea : Nat → Nat → Nat) (n k w0 : Nat) (σ x : MS) (κ : Nat → Int64) (hP : va_P D vwCl (cF G ca bg (enF ea k) σ x) H) (hE : ∀ e, e < k → va_P D vwCl (eW G (ea e) σ κ e) H) (hI : cI σ x n k w0) (a1 : Nat → Nat) (en1 : Nat) (me1 : Int32) (hQ1 : va_P D vwCl (mbW G a1 σ en1 me1) H) (ho1 : mI σ n en1) (a2 : Nat → Nat) (en2 : Nat) (me2 : Int32) (hQ2 : va_P D vwCl (mbW G a2 σ en2 me2) H) (ho2 : mI σ n en2) : Met l yX7_mayStandForResult (ww yX7_mayStandForResult cX7_mayStandForResult 3 (some .boolean)) (rmD 2) (roP D G H [.ref ((ca 0)), .ref ((a1 0)), .ref ((a2 0))]) (vp_Si (fun r => r = bI (srP σ en1 en2))) 0 0 (fun _ => False) := by
  refine Met.ofW (cc := cX7_mayStandForResult) (maxL := 3) (ret := (some .boolean)) (by decide) rfl ?_
  intro p e s m args below meth c s₁ B hml hv
  obtain ⟨rfl, hH, hK⟩ := hv
  have hx := B.exec
  have hb := B.bytes
  have hr := B.returns
  have hts : ∀ w ∈ TT, w.before _ s = true := fun w h => atoms_spec (ws := ww yX7_mayStandForResult cX7_mayStandForResult 3 (some .boolean)) B.pre w (List.mem_cons_of_mem _ h)
  have hown : s.vm.findClass RX7 = some m.cls := findClass_of_methodNamed B.named
  have hlocks := B.notSynchronized
  rw [hH]
  have hI0 := hI
  obtain ⟨h1, hn, h7, hk60, h22, hw, hab, hfa, hmi, hak, hrf⟩ := hI
  have hoo1 := ho1
  obtain ⟨he1, hm1, hk1, hp1⟩ := ho1
  have ht1 := he1.2
  have hz1 := hm1.2
  have hoo2 := ho2
  obtain ⟨he2, hm2, hk2, hp2⟩ := ho2
  have ht2 := he2.2
  have hz2 := hm2.2
  have hl := lv_entry ([.ref ((ca 0)), .ref ((a1 0)), .ref ((a2 0))]) (n := 3) (Nat.le_of_ble_eq_true rfl)
  rw [lg_entry_eq]
  generalize (lg_sl ([.ref ((ca 0)), .ref ((a1 0)), .ref ((a2 0))]) ++ List.replicate (3 - (lg_sl ([.ref ((ca 0)), .ref ((a1 0)), .ref ((a2 0))])).length) Slot.unset).toArray = ls at hl ⊢
  have hl : lv_has ls 3 [(0, .ref ((ca 0))), (1, .ref ((a1 0))), (2, .ref ((a2 0)))] := hl
  refine lv_aload_n hx hb dX7_mayStandForResult_0 rfl (lv_at hl 1 rfl) ?_
  refine va_get (D := D) (ci := 4) (v := .int (σ 11 en1)) (C := RX3) (T := TX3) (N := 9) hx hb hts iX3 hown hK.1 hQ1 0 rfl rfl 2 (by decide) (hts _ q_232) (fun x9 h9 => u_same (hts _ q_233) x9 h9) rfl dX7_mayStandForResult_1 ?_
  refine lv_aload_n hx hb dX7_mayStandForResult_4 rfl (lv_at hl 2 rfl) ?_
  refine va_get (D := D) (ci := 4) (v := .int (σ 11 en2)) (C := RX3) (T := TX3) (N := 9) hx hb hts iX3 hown hK.1 hQ2 0 rfl rfl 2 (by decide) (hts _ q_232) (fun x9 h9 => u_same (hts _ q_233) x9 h9) rfl dX7_mayStandForResult_5 ?_
  refine lv_icmp_ne (tgt := 24) hx hb dX7_mayStandForResult_8 (by decide) (fun c1 => ?_) (fun c1 => ?_)
  · -- 8 taken
    refine lv_aload_n hx hb dX7_mayStandForResult_24 rfl (lv_at hl 1 rfl) ?_
    refine va_get (D := D) (ci := 4) (v := .int (σ 12 en1)) (C := RX3) (T := TX3) (N := 9) hx hb hts iX3 hown hK.1 hQ1 0 rfl rfl 3 (by decide) (hts _ q_238) (fun x9 h9 => u_same (hts _ q_239) x9 h9) rfl dX7_mayStandForResult_25 ?_
    refine lv_if_ne (tgt := 57) hx hb dX7_mayStandForResult_28 (by decide) (fun c2 => ?_) (fun c2 => ?_)
    · -- 28 taken
      refine lv_iconst (v := 0) hx hb dX7_mayStandForResult_57 (by decide) ?_
      exact ro_zret (v := 0) hx hb hr hH hlocks dX7_mayStandForResult_58 (Or.inl rfl) ((bI_f (by simp only [srP_def, eqR, unR, eq_false c1, eq_false c2, not_true, not_false_iff, not_true_eq_false, not_false_eq_true, true_or, or_true, false_or, or_false, or_self, and_self, true_and, and_true, false_and, and_false, if_true, if_false])).symm)
    · -- 28 not
      refine lv_aload_n hx hb dX7_mayStandForResult_31 rfl (lv_at hl 2 rfl) ?_
      refine va_get (D := D) (ci := 4) (v := .int (σ 12 en2)) (C := RX3) (T := TX3) (N := 9) hx hb hts iX3 hown hK.1 hQ2 0 rfl rfl 3 (by decide) (hts _ q_238) (fun x9 h9 => u_same (hts _ q_239) x9 h9) rfl dX7_mayStandForResult_32 ?_
      refine lv_if_ne (tgt := 57) hx hb dX7_mayStandForResult_35 (by decide) (fun c3 => ?_) (fun c3 => ?_)
      · -- 35 taken
        refine lv_iconst (v := 0) hx hb dX7_mayStandForResult_57 (by decide) ?_
        exact ro_zret (v := 0) hx hb hr hH hlocks dX7_mayStandForResult_58 (Or.inl rfl) ((bI_f (by simp only [srP_def, eqR, unR, eq_false c1, eq_true c2, eq_false c3, not_true, not_false_iff, not_true_eq_false, not_false_eq_true, true_or, or_true, false_or, or_false, or_self, and_self, true_and, and_true, false_and, and_false, if_true, if_false])).symm)
      · -- 35 not
        refine lv_aload_n hx hb dX7_mayStandForResult_38 rfl (lv_at hl 0 rfl) ?_
        refine lv_aload_n hx hb dX7_mayStandForResult_39 rfl (lv_at hl 1 rfl) ?_
        refine va_get (D := D) (ci := 4) (v := .int (σ 11 en1)) (C := RX3) (T := TX3) (N := 9) hx hb hts iX3 hown hK.1 hQ1 0 rfl rfl 2 (by decide) (hts _ q_232) (fun x9 h9 => u_same (hts _ q_233) x9 h9) rfl dX7_mayStandForResult_40 ?_
        refine lv_aload_n hx hb dX7_mayStandForResult_43 rfl (lv_at hl 2 rfl) ?_
        refine va_get (D := D) (ci := 4) (v := .int (σ 11 en2)) (C := RX3) (T := TX3) (N := 9) hx hb hts iX3 hown hK.1 hQ2 0 rfl rfl 2 (by decide) (hts _ q_232) (fun x9 h9 => u_same (hts _ q_233) x9 h9) rfl dX7_mayStandForResult_44 ?_
        refine ro_Vi (D := D) (G := G) (As := [.int (σ 11 en1), .int (σ 11 en2)]) (rest := []) ⟨hx, hb, hml, hown, hts⟩ (c_areBelow l D G _ ca _ ea n k w0 σ x κ hP hE hI0 (σ 11 en1) (σ 11 en2) hk1 hk2) gV_X7_X7_areBelow hdV_X7_areBelow ⟨Nat.le_of_ble_eq_true rfl, Nat.le_of_ble_eq_true rfl⟩ hK (va_recv hK.1 hP (ci := 7) (q0 := 0) rfl rfl) rfl hl.1 rfl (Nat.le_of_ble_eq_true rfl) dX7_mayStandForResult_47 ⟨Nat.le_of_ble_eq_true rfl, Nat.le_of_ble_eq_true rfl⟩ (fun r4 e_r4 => ?_)
        subst e_r4
        refine lv_if_eq (tgt := 57) hx hb dX7_mayStandForResult_50 (by decide) (fun c5 => ?_) (fun c5 => ?_)
        · -- 50 taken
          have c5 := bI_0 c5
          refine lv_iconst (v := 0) hx hb dX7_mayStandForResult_57 (by decide) ?_
          exact ro_zret (v := 0) hx hb hr hH hlocks dX7_mayStandForResult_58 (Or.inl rfl) ((bI_f (by simp only [srP_def, eqR, unR, eq_false c1, eq_true c2, eq_true c3, eq_false c5, not_true, not_false_iff, not_true_eq_false, not_false_eq_true, true_or, or_true, false_or, or_false, or_self, and_self, true_and, and_true, false_and, and_false, if_true, if_false])).symm)
        · -- 50 not
          have c5 := bI_1 c5
          refine lv_iconst (v := 1) hx hb dX7_mayStandForResult_53 (by decide) ?_
          refine lv_goto (tgt := 58) hx hb dX7_mayStandForResult_54 (by decide) ?_
          exact ro_zret (v := 1) hx hb hr hH hlocks dX7_mayStandForResult_58 (Or.inr rfl) ((bI_t (by simp only [srP_def, eqR, unR, eq_false c1, eq_true c2, eq_true c3, eq_true c5, not_true, not_false_iff, not_true_eq_false, not_false_eq_true, true_or, or_true, false_or, or_false, or_self, and_self, true_and, and_true, false_and, and_false, if_true, if_false])).symm)
  · -- 8 not
    refine lv_aload_n hx hb dX7_mayStandForResult_11 rfl (lv_at hl 1 rfl) ?_
    refine va_get (D := D) (ci := 4) (v := .int (σ 12 en1)) (C := RX3) (T := TX3) (N := 9) hx hb hts iX3 hown hK.1 hQ1 0 rfl rfl 3 (by decide) (hts _ q_238) (fun x9 h9 => u_same (hts _ q_239) x9 h9) rfl dX7_mayStandForResult_12 ?_
    refine lv_aload_n hx hb dX7_mayStandForResult_15 rfl (lv_at hl 2 rfl) ?_
    refine va_get (D := D) (ci := 4) (v := .int (σ 12 en2)) (C := RX3) (T := TX3) (N := 9) hx hb hts iX3 hown hK.1 hQ2 0 rfl rfl 3 (by decide) (hts _ q_238) (fun x9 h9 => u_same (hts _ q_239) x9 h9) rfl dX7_mayStandForResult_16 ?_
    refine lv_icmp_ne (tgt := 24) hx hb dX7_mayStandForResult_19 (by decide) (fun c6 => ?_) (fun c6 => ?_)
    · -- 19 taken
      refine lv_aload_n hx hb dX7_mayStandForResult_24 rfl (lv_at hl 1 rfl) ?_
      refine va_get (D := D) (ci := 4) (v := .int (σ 12 en1)) (C := RX3) (T := TX3) (N := 9) hx hb hts iX3 hown hK.1 hQ1 0 rfl rfl 3 (by decide) (hts _ q_238) (fun x9 h9 => u_same (hts _ q_239) x9 h9) rfl dX7_mayStandForResult_25 ?_
      refine lv_if_ne (tgt := 57) hx hb dX7_mayStandForResult_28 (by decide) (fun c7 => ?_) (fun c7 => ?_)
      · -- 28 taken
        refine lv_iconst (v := 0) hx hb dX7_mayStandForResult_57 (by decide) ?_
        exact ro_zret (v := 0) hx hb hr hH hlocks dX7_mayStandForResult_58 (Or.inl rfl) ((bI_f (by simp only [srP_def, eqR, unR, eq_true c1, eq_false c6, eq_false c7, not_true, not_false_iff, not_true_eq_false, not_false_eq_true, true_or, or_true, false_or, or_false, or_self, and_self, true_and, and_true, false_and, and_false, if_true, if_false])).symm)
      · -- 28 not
        refine lv_aload_n hx hb dX7_mayStandForResult_31 rfl (lv_at hl 2 rfl) ?_
        refine va_get (D := D) (ci := 4) (v := .int (σ 12 en2)) (C := RX3) (T := TX3) (N := 9) hx hb hts iX3 hown hK.1 hQ2 0 rfl rfl 3 (by decide) (hts _ q_238) (fun x9 h9 => u_same (hts _ q_239) x9 h9) rfl dX7_mayStandForResult_32 ?_
        refine lv_if_ne (tgt := 57) hx hb dX7_mayStandForResult_35 (by decide) (fun c8 => ?_) (fun c8 => ?_)
        · -- 35 taken
          refine lv_iconst (v := 0) hx hb dX7_mayStandForResult_57 (by decide) ?_
          exact ro_zret (v := 0) hx hb hr hH hlocks dX7_mayStandForResult_58 (Or.inl rfl) ((bI_f (by simp only [srP_def, eqR, unR, eq_true c1, eq_false c6, eq_true c7, eq_false c8, not_true, not_false_iff, not_true_eq_false, not_false_eq_true, true_or, or_true, false_or, or_false, or_self, and_self, true_and, and_true, false_and, and_false, if_true, if_false])).symm)
        · -- 35 not
          refine lv_aload_n hx hb dX7_mayStandForResult_38 rfl (lv_at hl 0 rfl) ?_
          refine lv_aload_n hx hb dX7_mayStandForResult_39 rfl (lv_at hl 1 rfl) ?_
          refine va_get (D := D) (ci := 4) (v := .int (σ 11 en1)) (C := RX3) (T := TX3) (N := 9) hx hb hts iX3 hown hK.1 hQ1 0 rfl rfl 2 (by decide) (hts _ q_232) (fun x9 h9 => u_same (hts _ q_233) x9 h9) rfl dX7_mayStandForResult_40 ?_
          refine lv_aload_n hx hb dX7_mayStandForResult_43 rfl (lv_at hl 2 rfl) ?_
          refine va_get (D := D) (ci := 4) (v := .int (σ 11 en2)) (C := RX3) (T := TX3) (N := 9) hx hb hts iX3 hown hK.1 hQ2 0 rfl rfl 2 (by decide) (hts _ q_232) (fun x9 h9 => u_same (hts _ q_233) x9 h9) rfl dX7_mayStandForResult_44 ?_
          refine ro_Vi (D := D) (G := G) (As := [.int (σ 11 en1), .int (σ 11 en2)]) (rest := []) ⟨hx, hb, hml, hown, hts⟩ (c_areBelow l D G _ ca _ ea n k w0 σ x κ hP hE hI0 (σ 11 en1) (σ 11 en2) hk1 hk2) gV_X7_X7_areBelow hdV_X7_areBelow ⟨Nat.le_of_ble_eq_true rfl, Nat.le_of_ble_eq_true rfl⟩ hK (va_recv hK.1 hP (ci := 7) (q0 := 0) rfl rfl) rfl hl.1 rfl (Nat.le_of_ble_eq_true rfl) dX7_mayStandForResult_47 ⟨Nat.le_of_ble_eq_true rfl, Nat.le_of_ble_eq_true rfl⟩ (fun r9 e_r9 => ?_)
          subst e_r9
          refine lv_if_eq (tgt := 57) hx hb dX7_mayStandForResult_50 (by decide) (fun c10 => ?_) (fun c10 => ?_)
          · -- 50 taken
            have c10 := bI_0 c10
            refine lv_iconst (v := 0) hx hb dX7_mayStandForResult_57 (by decide) ?_
            exact ro_zret (v := 0) hx hb hr hH hlocks dX7_mayStandForResult_58 (Or.inl rfl) ((bI_f (by simp only [srP_def, eqR, unR, eq_true c1, eq_false c6, eq_true c7, eq_true c8, eq_false c10, not_true, not_false_iff, not_true_eq_false, not_false_eq_true, true_or, or_true, false_or, or_false, or_self, and_self, true_and, and_true, false_and, and_false, if_true, if_false])).symm)
          · -- 50 not
            have c10 := bI_1 c10
            refine lv_iconst (v := 1) hx hb dX7_mayStandForResult_53 (by decide) ?_
            refine lv_goto (tgt := 58) hx hb dX7_mayStandForResult_54 (by decide) ?_
            exact ro_zret (v := 1) hx hb hr hH hlocks dX7_mayStandForResult_58 (Or.inr rfl) ((bI_t (by simp only [srP_def, eqR, unR, eq_true c1, eq_false c6, eq_true c7, eq_true c8, eq_true c10, not_true, not_false_iff, not_true_eq_false, not_false_eq_true, true_or, or_true, false_or, or_false, or_self, and_self, true_and, and_true, false_and, and_false, if_true, if_false])).symm)
    · -- 19 not
      refine lv_iconst (v := 1) hx hb dX7_mayStandForResult_22 (by decide) ?_
      exact ro_zret (v := 1) hx hb hr hH hlocks dX7_mayStandForResult_23 (Or.inr rfl) ((bI_t (by simp only [srP_def, eqR, unR, eq_true c1, eq_true c6, not_true, not_false_iff, not_true_eq_false, not_false_eq_true, true_or, or_true, false_or, or_false, or_self, and_self, true_and, and_true, false_and, and_false, if_true, if_false])).symm)
set_option maxHeartbeats 4000000 in
set_option maxRecDepth 100000 in
theorem c_ruleOfMeeting (l : Launch) (D : va_G) (G : Nat → ClassId) (H : Heap) (ca : Nat → Nat) (bg : Value) (ea : Nat → Nat → Nat) (n k w0 : Nat) (σ x : MS) (κ : Nat → Int64) (hP : va_P D vwCl (cF G ca bg (enF ea k) σ x) H) (hE : ∀ e, e < k → va_P D vwCl (eW G (ea e) σ κ e) H) (hI : cI σ x n k w0) (a1 : Nat → Nat) (en1 : Nat) (me1 : Int32) (hQ1 : va_P D vwCl (mbW G a1 σ en1 me1) H) (ho1 : mI σ n en1) (a2 : Nat → Nat) (en2 : Nat) (me2 : Int32) (hQ2 : va_P D vwCl (mbW G a2 σ en2 me2) H) (ho2 : mI σ n en2) : Met l yX7_ruleOfMeeting (ww yX7_ruleOfMeeting cX7_ruleOfMeeting 3 (some .int)) (rmD 3) (roP D G H [.ref ((ca 0)), .ref ((a1 0)), .ref ((a2 0))]) (vp_Si (fun r => r = aRA σ en1 en2)) 0 0 (fun _ => False) := by
  refine Met.ofW (cc := cX7_ruleOfMeeting) (maxL := 3) (ret := (some .int)) (by decide) rfl ?_
  intro p e s m args below meth c s₁ B hml hv
  obtain ⟨rfl, hH, hK⟩ := hv
  have hx := B.exec
  have hb := B.bytes
  have hr := B.returns
  have hts : ∀ w ∈ TT, w.before _ s = true := fun w h => atoms_spec (ws := ww yX7_ruleOfMeeting cX7_ruleOfMeeting 3 (some .int)) B.pre w (List.mem_cons_of_mem _ h)
  have hown : s.vm.findClass RX7 = some m.cls := findClass_of_methodNamed B.named
  have hlocks := B.notSynchronized
  rw [hH]
  have hI0 := hI
  obtain ⟨h1, hn, h7, hk60, h22, hw, hab, hfa, hmi, hak, hrf⟩ := hI
  have hoo1 := ho1
  obtain ⟨he1, hm1, hk1, hp1⟩ := ho1
  have ht1 := he1.2
  have hz1 := hm1.2
  have hoo2 := ho2
  obtain ⟨he2, hm2, hk2, hp2⟩ := ho2
  have ht2 := he2.2
  have hz2 := hm2.2
  have hl := lv_entry ([.ref ((ca 0)), .ref ((a1 0)), .ref ((a2 0))]) (n := 3) (Nat.le_of_ble_eq_true rfl)
  rw [lg_entry_eq]
  generalize (lg_sl ([.ref ((ca 0)), .ref ((a1 0)), .ref ((a2 0))]) ++ List.replicate (3 - (lg_sl ([.ref ((ca 0)), .ref ((a1 0)), .ref ((a2 0))])).length) Slot.unset).toArray = ls at hl ⊢
  have hl : lv_has ls 3 [(0, .ref ((ca 0))), (1, .ref ((a1 0))), (2, .ref ((a2 0)))] := hl
  refine lv_aload_n hx hb dX7_ruleOfMeeting_0 rfl (lv_at hl 2 rfl) ?_
  refine lv_bipush (v := 16) hx hb dX7_ruleOfMeeting_1 (by decide) ?_
  refine ro_Ui (D := D) (G := G) (As := [.int 16]) (rest := []) ⟨hx, hb, hml, hown, hts⟩ (c_hasAnyM l D G _ _ σ (en2) _ hQ2 16) gU_X7_281_X3 rfl (by decide +kernel) ⟨Nat.le_of_ble_eq_true rfl, Nat.le_of_ble_eq_true rfl⟩ hK (va_recv hK.1 hQ2 (ci := 4) (q0 := 0) rfl rfl) rfl hl.1 rfl (Nat.le_of_ble_eq_true rfl) dX7_ruleOfMeeting_3 ⟨Nat.le_of_ble_eq_true rfl, Nat.le_of_ble_eq_true rfl⟩ (fun r1 e_r1 => ?_)
  subst e_r1
  refine lv_if_eq (tgt := 12) hx hb dX7_ruleOfMeeting_6 (by decide) (fun c2 => ?_) (fun c2 => ?_)
  · -- 6 taken
    have c2 := bI_0 c2
    refine lv_aload_n hx hb dX7_ruleOfMeeting_12 rfl (lv_at hl 2 rfl) ?_
    refine lv_bipush (v := 8) hx hb dX7_ruleOfMeeting_13 (by decide) ?_
    refine ro_Ui (D := D) (G := G) (As := [.int 8]) (rest := []) ⟨hx, hb, hml, hown, hts⟩ (c_hasAnyM l D G _ _ σ (en2) _ hQ2 8) gU_X7_281_X3 rfl (by decide +kernel) ⟨Nat.le_of_ble_eq_true rfl, Nat.le_of_ble_eq_true rfl⟩ hK (va_recv hK.1 hQ2 (ci := 4) (q0 := 0) rfl rfl) rfl hl.1 rfl (Nat.le_of_ble_eq_true rfl) dX7_ruleOfMeeting_15 ⟨Nat.le_of_ble_eq_true rfl, Nat.le_of_ble_eq_true rfl⟩ (fun r3 e_r3 => ?_)
    subst e_r3
    refine lv_aload_n hx hb dX7_ruleOfMeeting_18 rfl (lv_at hl 1 rfl) ?_
    refine lv_bipush (v := 8) hx hb dX7_ruleOfMeeting_19 (by decide) ?_
    refine ro_Ui (D := D) (G := G) (As := [.int 8]) (rest := [.int (bI (¬ σ 13 en2 &&& 8 = 0))]) ⟨hx, hb, hml, hown, hts⟩ (c_hasAnyM l D G _ _ σ (en1) _ hQ1 8) gU_X7_281_X3 rfl (by decide +kernel) ⟨Nat.le_of_ble_eq_true rfl, Nat.le_of_ble_eq_true rfl⟩ hK (va_recv hK.1 hQ1 (ci := 4) (q0 := 0) rfl rfl) rfl hl.1 rfl (Nat.le_of_ble_eq_true rfl) dX7_ruleOfMeeting_21 ⟨Nat.le_of_ble_eq_true rfl, Nat.le_of_ble_eq_true rfl⟩ (fun r4 e_r4 => ?_)
    subst e_r4
    refine lv_icmp_eq (tgt := 30) hx hb dX7_ruleOfMeeting_24 (by decide) (fun c5 => ?_) (fun c5 => ?_)
    · -- 24 taken
      refine lv_aload_n hx hb dX7_ruleOfMeeting_30 rfl (lv_at hl 0 rfl) ?_
      refine lv_aload_n hx hb dX7_ruleOfMeeting_31 rfl (lv_at hl 1 rfl) ?_
      refine lv_aload_n hx hb dX7_ruleOfMeeting_32 rfl (lv_at hl 2 rfl) ?_
      refine ro_Vi (D := D) (G := G) (As := [.ref ((a1 0)), .ref ((a2 0))]) (rest := []) ⟨hx, hb, hml, hown, hts⟩ (c_mayStandForResult l D G _ ca _ ea n k w0 σ x κ hP hE hI0 a1 en1 _ hQ1 hoo1 a2 en2 _ hQ2 hoo2) gV_X7_X7_mayStandForResult hdV_X7_mayStandForResult ⟨Nat.le_of_ble_eq_true rfl, Nat.le_of_ble_eq_true rfl⟩ hK (va_recv hK.1 hP (ci := 7) (q0 := 0) rfl rfl) rfl hl.1 rfl (Nat.le_of_ble_eq_true rfl) dX7_ruleOfMeeting_33 ⟨Nat.le_of_ble_eq_true rfl, Nat.le_of_ble_eq_true rfl⟩ (fun r6 e_r6 => ?_)
      subst e_r6
      refine lv_if_ne (tgt := 42) hx hb dX7_ruleOfMeeting_36 (by decide) (fun c7 => ?_) (fun c7 => ?_)
      · -- 36 taken
        have c7 := bI_1 c7
        refine lv_aload_n hx hb dX7_ruleOfMeeting_42 rfl (lv_at hl 1 rfl) ?_
        refine va_get (D := D) (ci := 4) (v := .int (σ 13 en1)) (C := RX3) (T := TX3) (N := 9) hx hb hts iX3 hown hK.1 hQ1 0 rfl rfl 4 (by decide) (hts _ q_242) (fun x9 h9 => u_same (hts _ q_243) x9 h9) rfl dX7_ruleOfMeeting_43 ?_
        refine ro_Si (D := D) (G := G) (As := [.int (σ 13 en1)]) (rest := []) ⟨hx, hb, hml, hown, hts⟩ (c_sightOf l D G _ (σ 13 en1)) gS_X7_X5_sightOf hdS_X5_sightOf ⟨Nat.le_of_ble_eq_true rfl, Nat.le_of_ble_eq_true rfl⟩ hK rfl hl.1 rfl (Nat.le_of_ble_eq_true rfl) dX7_ruleOfMeeting_46 ⟨Nat.le_of_ble_eq_true rfl, Nat.le_of_ble_eq_true rfl⟩ (fun r8 e_r8 => ?_)
        subst e_r8
        refine lv_aload_n hx hb dX7_ruleOfMeeting_49 rfl (lv_at hl 2 rfl) ?_
        refine va_get (D := D) (ci := 4) (v := .int (σ 13 en2)) (C := RX3) (T := TX3) (N := 9) hx hb hts iX3 hown hK.1 hQ2 0 rfl rfl 4 (by decide) (hts _ q_242) (fun x9 h9 => u_same (hts _ q_243) x9 h9) rfl dX7_ruleOfMeeting_50 ?_
        refine ro_Si (D := D) (G := G) (As := [.int (σ 13 en2)]) (rest := [.int (seenF (σ 13 en1))]) ⟨hx, hb, hml, hown, hts⟩ (c_sightOf l D G _ (σ 13 en2)) gS_X7_X5_sightOf hdS_X5_sightOf ⟨Nat.le_of_ble_eq_true rfl, Nat.le_of_ble_eq_true rfl⟩ hK rfl hl.1 rfl (Nat.le_of_ble_eq_true rfl) dX7_ruleOfMeeting_53 ⟨Nat.le_of_ble_eq_true rfl, Nat.le_of_ble_eq_true rfl⟩ (fun r9 e_r9 => ?_)
        subst e_r9
        refine lv_icmp_ge (tgt := 64) hx hb dX7_ruleOfMeeting_56 (by decide) (fun c10 => ?_) (fun c10 => ?_)
        · -- 56 taken
          refine lv_iconst (v := 0) hx hb dX7_ruleOfMeeting_64 (by decide) ?_
          exact ro_iret (v := 0) hx hb hr hH hlocks dX7_ruleOfMeeting_65 (by unfold aRA; simp only [eq_true (Decidable.of_not_not c2), eq_true (show σ 13 en1 &&& 8 = σ 13 en2 &&& 8 from bit8_iff.mp c5), eq_false (show ¬ (¬ eqR σ en1 en2 ∧ ¬ unR σ en1 en2) from fun h9 => (srP_def.mp c7).elim h9.1 h9.2), eq_true c10, not_true, not_false_iff, not_true_eq_false, not_false_eq_true, true_or, or_true, false_or, or_false, or_self, and_self, true_and, and_true, false_and, and_false, if_true, if_false])
        · -- 56 not
          refine lv_bipush (v := 25) hx hb dX7_ruleOfMeeting_59 (by decide) ?_
          refine lv_goto (tgt := 65) hx hb dX7_ruleOfMeeting_61 (by decide) ?_
          exact ro_iret (v := 25) hx hb hr hH hlocks dX7_ruleOfMeeting_65 (by unfold aRA; simp only [eq_true (Decidable.of_not_not c2), eq_true (show σ 13 en1 &&& 8 = σ 13 en2 &&& 8 from bit8_iff.mp c5), eq_false (show ¬ (¬ eqR σ en1 en2 ∧ ¬ unR σ en1 en2) from fun h9 => (srP_def.mp c7).elim h9.1 h9.2), eq_false c10, not_true, not_false_iff, not_true_eq_false, not_false_eq_true, true_or, or_true, false_or, or_false, or_self, and_self, true_and, and_true, false_and, and_false, if_true, if_false])
      · -- 36 not
        have c7 := bI_0 c7
        refine lv_bipush (v := 24) hx hb dX7_ruleOfMeeting_39 (by decide) ?_
        exact ro_iret (v := 24) hx hb hr hH hlocks dX7_ruleOfMeeting_41 (by unfold aRA; simp only [eq_true (Decidable.of_not_not c2), eq_true (show σ 13 en1 &&& 8 = σ 13 en2 &&& 8 from bit8_iff.mp c5), eq_true (show (¬ eqR σ en1 en2 ∧ ¬ unR σ en1 en2) from not_or.mp (fun h9 => c7 (srP_def.mpr h9))), not_true, not_false_iff, not_true_eq_false, not_false_eq_true, true_or, or_true, false_or, or_false, or_self, and_self, true_and, and_true, false_and, and_false, if_true, if_false])
    · -- 24 not
      refine lv_bipush (v := 23) hx hb dX7_ruleOfMeeting_27 (by decide) ?_
      exact ro_iret (v := 23) hx hb hr hH hlocks dX7_ruleOfMeeting_29 (by unfold aRA; simp only [eq_true (Decidable.of_not_not c2), eq_false (show ¬ σ 13 en1 &&& 8 = σ 13 en2 &&& 8 from fun h9 => c5 (bit8_iff.mpr h9)), not_true, not_false_iff, not_true_eq_false, not_false_eq_true, true_or, or_true, false_or, or_false, or_self, and_self, true_and, and_true, false_and, and_false, if_true, if_false])
  · -- 6 not
    have c2 := bI_1 c2
    refine lv_bipush (v := 22) hx hb dX7_ruleOfMeeting_9 (by decide) ?_
    exact ro_iret (v := 22) hx hb hr hH hlocks dX7_ruleOfMeeting_11 (by unfold aRA; simp only [eq_false c2, not_true, not_false_iff, not_true_eq_false, not_false_eq_true, true_or, or_true, false_or, or_false, or_self, and_self, true_and, and_true, false_and, and_false, if_true, if_false])
set_option maxHeartbeats 4000000 in
set_option maxRecDepth 100000 in
theorem c_leastMet (l : Launch) (D : va_G) (G : Nat → ClassId) (H : Heap) (ca : Nat → Nat) (bg : Value) (ea : Nat → Nat → Nat) (n k w0 : Nat) (σ x : MS) (κ : Nat → Int64) (hP : va_P D vwCl (cF G ca bg (enF ea k) σ x) H) (hE : ∀ e, e < k → va_P D vwCl (eW G (ea e) σ κ e) H) (hI : cI σ x n k w0) (a1 : Nat → Nat) (en1 : Nat) (me1 : Int32) (hQ1 : va_P D vwCl (mbW G a1 σ en1 me1) H) (ho1 : mI σ n en1) (hke : k ≤ en1) : Met l yX7_leastMet (ww yX7_leastMet cX7_leastMet 5 (some .int)) (rmD 5) (roP D G H [.ref ((ca 0)), .ref ((a1 0))]) (vp_Si (fun r => r = fnd (fun b => meetP σ en1 b) k 0)) 0 0 (fun _ => False) := by
  refine Met.ofW (cc := cX7_leastMet) (maxL := 5) (ret := (some .int)) (by decide) rfl ?_
  intro p e s m args below meth c s₁ B hml hv
  obtain ⟨rfl, hH, hK⟩ := hv
  have hx := B.exec
  have hb := B.bytes
  have hr := B.returns
  have hts : ∀ w ∈ TT, w.before _ s = true := fun w h => atoms_spec (ws := ww yX7_leastMet cX7_leastMet 5 (some .int)) B.pre w (List.mem_cons_of_mem _ h)
  have hown : s.vm.findClass RX7 = some m.cls := findClass_of_methodNamed B.named
  have hlocks := B.notSynchronized
  rw [hH]
  have hI0 := hI
  obtain ⟨h1, hn, h7, hk60, h22, hw, hab, hfa, hmi, hak, hrf⟩ := hI
  have hoo1 := ho1
  obtain ⟨he1, hm1, hk1, hp1⟩ := ho1
  have ht1 := he1.2
  have hz1 := hm1.2
  have hl := lv_entry ([.ref ((ca 0)), .ref ((a1 0))]) (n := 5) (Nat.le_of_ble_eq_true rfl)
  rw [lg_entry_eq]
  generalize (lg_sl ([.ref ((ca 0)), .ref ((a1 0))]) ++ List.replicate (5 - (lg_sl ([.ref ((ca 0)), .ref ((a1 0))])).length) Slot.unset).toArray = ls at hl ⊢
  have hl : lv_has ls 5 [(0, .ref ((ca 0))), (1, .ref ((a1 0)))] := hl
  refine lv_iconst (v := 0) hx hb dX7_leastMet_0 (by decide) ?_
  refine lv_istore_n (lv' := [(2, .int 0), (0, .ref ((ca 0))), (1, .ref ((a1 0)))]) hx hb dX7_leastMet_1 rfl hl (by decide) rfl (fun ls hl => ?_)
  refine w_for (N := k) 2 (L := fun q9 ls => lv_has ls 5 [(2, .int (nI q9)), (0, .ref ((ca 0))), (1, .ref ((a1 0)))] ∧ fnd (fun b => meetP σ en1 b) k 0 = fnd (fun b => meetP σ en1 b) (k - q9) q9) (fun k9 ls hk hL ih => ?_) 0 ls (Nat.zero_le _) ⟨hl, by rw [Nat.sub_zero]⟩
  obtain ⟨hl, hi⟩ := hL
  have hl : lv_has ls 5 [(2, .int (nI k9)), (0, .ref ((ca 0))), (1, .ref ((a1 0)))] := hl
  refine lv_iload_n hx hb dX7_leastMet_2 rfl (lv_at hl 0 rfl) ?_
  refine lv_aload_n hx hb dX7_leastMet_3 rfl (lv_at hl 1 rfl) ?_
  refine va_get (D := D) (ci := 7) (v := .int (σ 7 0)) (C := RX7) (T := TX7) (N := 11) hx hb hts iX7 hown hK.1 hP 0 rfl rfl 2 (by decide) (hts _ q_75) (fun _ h9 => h9) rfl dX7_leastMet_4 ?_
  refine lv_icmp_ge (tgt := 49) hx hb dX7_leastMet_7 (by decide) (fun c1 => ?_) (fun c1 => ?_)
  · -- 7 taken
    have c1 : k ≤ k9 := (nI_leI (a := k) (b := k9) (by omega) (by omega)).mp (by have h8 := c1; rw [h7] at h8; exact h8)
    refine lv_iconst (v := -1) hx hb dX7_leastMet_49 (by decide) ?_
    exact ro_iret (v := (-1)) hx hb hr hH hlocks dX7_leastMet_50 (by rw [hi, show k9 = k by omega, Nat.sub_self]; rfl)
  · -- 7 not
    have c1 : ¬ k ≤ k9 := fun h9 => c1 (by rw [h7]; exact (nI_leI (a := k) (b := k9) (by omega) (by omega)).mpr h9)
    refine lv_aload_n hx hb dX7_leastMet_10 rfl (lv_at hl 1 rfl) ?_
    refine va_get (D := D) (ci := 7) (v := .ref ((ca 6))) (C := RX7) (T := TX7) (N := 11) hx hb hts iX7 hown hK.1 hP 0 rfl rfl 1 (by decide) (hts _ q_74) (fun _ h9 => h9) rfl dX7_leastMet_11 ?_
    refine lv_iload_n hx hb dX7_leastMet_14 rfl (lv_at hl 0 rfl) ?_
    refine aald_e hx hb hK.1 hP 6 rfl (k9) rfl (by omega) (by omega) dX7_leastMet_15 ?_
    refine lv_astore (lv' := [(4, .ref ((ea k9 0))), (2, .int (nI k9)), (0, .ref ((ca 0))), (1, .ref ((a1 0)))]) hx hb dX7_leastMet_16 hl (by decide) rfl (fun ls hl => ?_)
    refine lv_aload hx hb dX7_leastMet_18 (lv_at hl 0 rfl) ?_
    refine inst_m hx hb hown (hts _ q_307) hK (hE k9 (by omega)) dX7_leastMet_20 ?_
    refine lv_if_eq (tgt := 43) hx hb dX7_leastMet_23 (by decide) (fun c2 => ?_) (fun c2 => ?_)
    · -- 23 taken
      have c2 := bI_0 c2
      refine lv_iinc (v := nI (k9 + 1)) (lv' := [(2, .int (nI (k9 + 1))), (4, .ref ((ea k9 0))), (0, .ref ((ca 0))), (1, .ref ((a1 0)))]) hx hb dX7_leastMet_43 hl (k := 1) rfl (nI_1 _) (by decide) rfl (fun ls hl => ?_)
      refine lv_goto (tgt := 2) hx hb dX7_leastMet_46 (by decide) ?_
      have hi := hi.trans (fnd_f (by omega) (fun h9 => c2 (meetP_def.mp h9).1))
      exact ih _ (by omega) ⟨lv_sub hl [0, 2, 3] rfl, hi⟩
    · -- 23 not
      have c2 := bI_1 c2
      refine lv_aload hx hb dX7_leastMet_26 (lv_at hl 0 rfl) ?_
      have hM_k9 := eW_m (hE k9 (by omega)) c2
      have hmi_k9 := mJ_m (hmi k9 (by omega)) c2
      have ht_k9 := hmi_k9.1.2
      have hz_k9 := hmi_k9.2.1.2
      refine va_castY (C := RX3) hx hb hown (hts _ q_307) hK.2.2.1 (va_recv hK.1 hM_k9 (ci := 4) (q0 := 0) rfl rfl) dX7_leastMet_28 ?_
      refine lv_astore_n (lv' := [(3, .ref ((ea k9 0))), (4, .ref ((ea k9 0))), (2, .int (nI k9)), (0, .ref ((ca 0))), (1, .ref ((a1 0)))]) hx hb dX7_leastMet_31 rfl hl (by decide) rfl (fun ls hl => ?_)
      refine lv_aload_n hx hb dX7_leastMet_32 rfl (lv_at hl 3 rfl) ?_
      refine lv_aload_n hx hb dX7_leastMet_33 rfl (lv_at hl 4 rfl) ?_
      refine lv_aload_n hx hb dX7_leastMet_34 rfl (lv_at hl 0 rfl) ?_
      refine ro_Vi (D := D) (G := G) (As := [.ref ((a1 0)), .ref ((ea k9 0))]) (rest := []) ⟨hx, hb, hml, hown, hts⟩ (c_meets l D G _ ca _ ea n k w0 σ x κ hP hE hI0 a1 en1 _ hQ1 hoo1 (ea k9) k9 _ hM_k9 hmi_k9 c2 (by omega)) gV_X7_X7_meets hdV_X7_meets ⟨Nat.le_of_ble_eq_true rfl, Nat.le_of_ble_eq_true rfl⟩ hK (va_recv hK.1 hP (ci := 7) (q0 := 0) rfl rfl) rfl hl.1 rfl (Nat.le_of_ble_eq_true rfl) dX7_leastMet_35 ⟨Nat.le_of_ble_eq_true rfl, Nat.le_of_ble_eq_true rfl⟩ (fun r3 e_r3 => ?_)
      subst e_r3
      refine lv_if_eq (tgt := 43) hx hb dX7_leastMet_38 (by decide) (fun c4 => ?_) (fun c4 => ?_)
      · -- 38 taken
        have c4 := bI_0 c4
        refine lv_iinc (v := nI (k9 + 1)) (lv' := [(2, .int (nI (k9 + 1))), (3, .ref ((ea k9 0))), (4, .ref ((ea k9 0))), (0, .ref ((ca 0))), (1, .ref ((a1 0)))]) hx hb dX7_leastMet_43 hl (k := 2) rfl (nI_1 _) (by decide) rfl (fun ls hl => ?_)
        refine lv_goto (tgt := 2) hx hb dX7_leastMet_46 (by decide) ?_
        have hi := hi.trans (fnd_f (by omega) (fun h9 => c4 h9))
        exact ih _ (by omega) ⟨lv_sub hl [0, 3, 4] rfl, hi⟩
      · -- 38 not
        have c4 := bI_1 c4
        refine lv_iload_n hx hb dX7_leastMet_41 rfl (lv_at hl 2 rfl) ?_
        exact ro_iret (v := nI k9) hx hb hr hH hlocks dX7_leastMet_42 (by rw [hi]; exact (fnd_t (by omega) c4 rfl).symm)
set_option maxHeartbeats 4000000 in
set_option maxRecDepth 100000 in
theorem c_isDeclaredTwice (l : Launch) (D : va_G) (G : Nat → ClassId) (H : Heap) (ca : Nat → Nat) (bg : Value) (ea : Nat → Nat → Nat) (n k w0 : Nat) (σ x : MS) (κ : Nat → Int64) (hP : va_P D vwCl (cF G ca bg (enF ea k) σ x) H) (hE : ∀ e, e < k → va_P D vwCl (eW G (ea e) σ κ e) H) (hI : cI σ x n k w0) (a1 : Nat → Nat) (en1 : Nat) (me1 : Int32) (hQ1 : va_P D vwCl (mbW G a1 σ en1 me1) H) (ho1 : mI σ n en1) : Met l yX7_isDeclaredTwice (ww yX7_isDeclaredTwice cX7_isDeclaredTwice 5 (some .boolean)) (rmD 3) (roP D G H [.ref ((ca 0)), .ref ((a1 0))]) (vp_Si (fun r => r = bI (tdP σ en1 k))) 0 0 (fun _ => False) := by
  refine Met.ofW (cc := cX7_isDeclaredTwice) (maxL := 5) (ret := (some .boolean)) (by decide) rfl ?_
  intro p e s m args below meth c s₁ B hml hv
  obtain ⟨rfl, hH, hK⟩ := hv
  have hx := B.exec
  have hb := B.bytes
  have hr := B.returns
  have hts : ∀ w ∈ TT, w.before _ s = true := fun w h => atoms_spec (ws := ww yX7_isDeclaredTwice cX7_isDeclaredTwice 5 (some .boolean)) B.pre w (List.mem_cons_of_mem _ h)
  have hown : s.vm.findClass RX7 = some m.cls := findClass_of_methodNamed B.named
  have hlocks := B.notSynchronized
  rw [hH]
  have hI0 := hI
  obtain ⟨h1, hn, h7, hk60, h22, hw, hab, hfa, hmi, hak, hrf⟩ := hI
  have hoo1 := ho1
  obtain ⟨he1, hm1, hk1, hp1⟩ := ho1
  have ht1 := he1.2
  have hz1 := hm1.2
  have hl := lv_entry ([.ref ((ca 0)), .ref ((a1 0))]) (n := 5) (Nat.le_of_ble_eq_true rfl)
  rw [lg_entry_eq]
  generalize (lg_sl ([.ref ((ca 0)), .ref ((a1 0))]) ++ List.replicate (5 - (lg_sl ([.ref ((ca 0)), .ref ((a1 0))])).length) Slot.unset).toArray = ls at hl ⊢
  have hl : lv_has ls 5 [(0, .ref ((ca 0))), (1, .ref ((a1 0)))] := hl
  refine lv_iconst (v := 0) hx hb dX7_isDeclaredTwice_0 (by decide) ?_
  refine lv_istore_n (lv' := [(2, .int 0), (0, .ref ((ca 0))), (1, .ref ((a1 0)))]) hx hb dX7_isDeclaredTwice_1 rfl hl (by decide) rfl (fun ls hl => ?_)
  refine w_for (N := k) 2 (L := fun q9 ls => lv_has ls 5 [(2, .int (nI q9)), (0, .ref ((ca 0))), (1, .ref ((a1 0)))] ∧ ∀ i, i < q9 → ¬ twP σ en1 i) (fun k9 ls hk hL ih => ?_) 0 ls (Nat.zero_le _) ⟨hl, fun i h8 => absurd h8 (Nat.not_lt_zero i)⟩
  obtain ⟨hl, hi⟩ := hL
  have hl : lv_has ls 5 [(2, .int (nI k9)), (0, .ref ((ca 0))), (1, .ref ((a1 0)))] := hl
  refine lv_iload_n hx hb dX7_isDeclaredTwice_2 rfl (lv_at hl 0 rfl) ?_
  refine lv_aload_n hx hb dX7_isDeclaredTwice_3 rfl (lv_at hl 1 rfl) ?_
  refine va_get (D := D) (ci := 7) (v := .int (σ 7 0)) (C := RX7) (T := TX7) (N := 11) hx hb hts iX7 hown hK.1 hP 0 rfl rfl 2 (by decide) (hts _ q_75) (fun _ h9 => h9) rfl dX7_isDeclaredTwice_4 ?_
  refine lv_icmp_ge (tgt := 59) hx hb dX7_isDeclaredTwice_7 (by decide) (fun c1 => ?_) (fun c1 => ?_)
  · -- 7 taken
    have c1 : k ≤ k9 := (nI_leI (a := k) (b := k9) (by omega) (by omega)).mp (by have h8 := c1; rw [h7] at h8; exact h8)
    refine lv_iconst (v := 0) hx hb dX7_isDeclaredTwice_59 (by decide) ?_
    exact ro_zret (v := 0) hx hb hr hH hlocks dX7_isDeclaredTwice_60 (Or.inl rfl) ((bI_f (by rw [tdP_def]; exact fun ⟨i, h8, h9⟩ => hi i (by omega) h9)).symm)
  · -- 7 not
    have c1 : ¬ k ≤ k9 := fun h9 => c1 (by rw [h7]; exact (nI_leI (a := k) (b := k9) (by omega) (by omega)).mpr h9)
    refine lv_aload_n hx hb dX7_isDeclaredTwice_10 rfl (lv_at hl 1 rfl) ?_
    refine va_get (D := D) (ci := 7) (v := .ref ((ca 6))) (C := RX7) (T := TX7) (N := 11) hx hb hts iX7 hown hK.1 hP 0 rfl rfl 1 (by decide) (hts _ q_74) (fun _ h9 => h9) rfl dX7_isDeclaredTwice_11 ?_
    refine lv_iload_n hx hb dX7_isDeclaredTwice_14 rfl (lv_at hl 0 rfl) ?_
    refine aald_e hx hb hK.1 hP 6 rfl (k9) rfl (by omega) (by omega) dX7_isDeclaredTwice_15 ?_
    refine lv_astore (lv' := [(4, .ref ((ea k9 0))), (2, .int (nI k9)), (0, .ref ((ca 0))), (1, .ref ((a1 0)))]) hx hb dX7_isDeclaredTwice_16 hl (by decide) rfl (fun ls hl => ?_)
    refine lv_aload hx hb dX7_isDeclaredTwice_18 (lv_at hl 0 rfl) ?_
    refine inst_m hx hb hown (hts _ q_307) hK (hE k9 (by omega)) dX7_isDeclaredTwice_20 ?_
    refine lv_if_eq (tgt := 53) hx hb dX7_isDeclaredTwice_23 (by decide) (fun c2 => ?_) (fun c2 => ?_)
    · -- 23 taken
      have c2 := bI_0 c2
      refine lv_iinc (v := nI (k9 + 1)) (lv' := [(2, .int (nI (k9 + 1))), (4, .ref ((ea k9 0))), (0, .ref ((ca 0))), (1, .ref ((a1 0)))]) hx hb dX7_isDeclaredTwice_53 hl (k := 1) rfl (nI_1 _) (by decide) rfl (fun ls hl => ?_)
      refine lv_goto (tgt := 2) hx hb dX7_isDeclaredTwice_56 (by decide) ?_
      exact ih _ (by omega) ⟨lv_sub hl [0, 2, 3] rfl, fun i h8 => by rcases Nat.lt_or_ge i k9 with h9 | h9; exact hi i h9; rw [show i = k9 by omega]; exact fun h7 => absurd h7.1 c2⟩
    · -- 23 not
      have c2 := bI_1 c2
      refine lv_aload hx hb dX7_isDeclaredTwice_26 (lv_at hl 0 rfl) ?_
      have hM_k9 := eW_m (hE k9 (by omega)) c2
      have hmi_k9 := mJ_m (hmi k9 (by omega)) c2
      have ht_k9 := hmi_k9.1.2
      have hz_k9 := hmi_k9.2.1.2
      refine va_castY (C := RX3) hx hb hown (hts _ q_307) hK.2.2.1 (va_recv hK.1 hM_k9 (ci := 4) (q0 := 0) rfl rfl) dX7_isDeclaredTwice_28 ?_
      refine lv_astore_n (lv' := [(3, .ref ((ea k9 0))), (4, .ref ((ea k9 0))), (2, .int (nI k9)), (0, .ref ((ca 0))), (1, .ref ((a1 0)))]) hx hb dX7_isDeclaredTwice_31 rfl hl (by decide) rfl (fun ls hl => ?_)
      refine lv_aload_n hx hb dX7_isDeclaredTwice_32 rfl (lv_at hl 0 rfl) ?_
      refine va_get (D := D) (ci := 4) (v := .int (σ 9 k9)) (C := RX3) (T := TX3) (N := 9) hx hb hts iX3 hown hK.1 hM_k9 0 rfl rfl 0 (by decide) (hts _ q_220) (fun x9 h9 => u_same (hts _ q_221) x9 h9) rfl dX7_isDeclaredTwice_33 ?_
      refine lv_aload_n hx hb dX7_isDeclaredTwice_36 rfl (lv_at hl 4 rfl) ?_
      refine va_get (D := D) (ci := 4) (v := .int (σ 9 en1)) (C := RX3) (T := TX3) (N := 9) hx hb hts iX3 hown hK.1 hQ1 0 rfl rfl 0 (by decide) (hts _ q_220) (fun x9 h9 => u_same (hts _ q_221) x9 h9) rfl dX7_isDeclaredTwice_37 ?_
      refine lv_icmp_ne (tgt := 53) hx hb dX7_isDeclaredTwice_40 (by decide) (fun c3 => ?_) (fun c3 => ?_)
      · -- 40 taken
        refine lv_iinc (v := nI (k9 + 1)) (lv' := [(2, .int (nI (k9 + 1))), (3, .ref ((ea k9 0))), (4, .ref ((ea k9 0))), (0, .ref ((ca 0))), (1, .ref ((a1 0)))]) hx hb dX7_isDeclaredTwice_53 hl (k := 2) rfl (nI_1 _) (by decide) rfl (fun ls hl => ?_)
        refine lv_goto (tgt := 2) hx hb dX7_isDeclaredTwice_56 (by decide) ?_
        exact ih _ (by omega) ⟨lv_sub hl [0, 3, 4] rfl, fun i h8 => by rcases Nat.lt_or_ge i k9 with h9 | h9; exact hi i h9; rw [show i = k9 by omega]; exact fun h7 => absurd h7.2.1 c3⟩
      · -- 40 not
        refine lv_aload_n hx hb dX7_isDeclaredTwice_43 rfl (lv_at hl 0 rfl) ?_
        refine lv_aload_n hx hb dX7_isDeclaredTwice_44 rfl (lv_at hl 4 rfl) ?_
        refine ro_Vi (D := D) (G := G) (As := [.ref ((a1 0))]) (rest := []) ⟨hx, hb, hml, hown, hts⟩ (c_isLike l D G _ _ σ (k9) _ hM_k9 hmi_k9.2.1 a1 en1 _ hQ1 hm1) gV_X7_X3_isLike hdV_X3_isLike ⟨Nat.le_of_ble_eq_true rfl, Nat.le_of_ble_eq_true rfl⟩ hK (va_recv hK.1 hM_k9 (ci := 4) (q0 := 0) rfl rfl) rfl hl.1 rfl (Nat.le_of_ble_eq_true rfl) dX7_isDeclaredTwice_45 ⟨Nat.le_of_ble_eq_true rfl, Nat.le_of_ble_eq_true rfl⟩ (fun r4 e_r4 => ?_)
        subst e_r4
        refine lv_if_eq (tgt := 53) hx hb dX7_isDeclaredTwice_48 (by decide) (fun c5 => ?_) (fun c5 => ?_)
        · -- 48 taken
          have c5 := bI_0 c5
          refine lv_iinc (v := nI (k9 + 1)) (lv' := [(2, .int (nI (k9 + 1))), (3, .ref ((ea k9 0))), (4, .ref ((ea k9 0))), (0, .ref ((ca 0))), (1, .ref ((a1 0)))]) hx hb dX7_isDeclaredTwice_53 hl (k := 2) rfl (nI_1 _) (by decide) rfl (fun ls hl => ?_)
          refine lv_goto (tgt := 2) hx hb dX7_isDeclaredTwice_56 (by decide) ?_
          exact ih _ (by omega) ⟨lv_sub hl [0, 3, 4] rfl, fun i h8 => by rcases Nat.lt_or_ge i k9 with h9 | h9; exact hi i h9; rw [show i = k9 by omega]; exact fun h7 => absurd h7.2.2 c5⟩
        · -- 48 not
          have c5 := bI_1 c5
          refine lv_iconst (v := 1) hx hb dX7_isDeclaredTwice_51 (by decide) ?_
          exact ro_zret (v := 1) hx hb hr hH hlocks dX7_isDeclaredTwice_52 (Or.inr rfl) ((bI_t (tdP_def.mpr ⟨k9, by omega, c2, c3, c5⟩)).symm)
theorem aRA_pos {σ : MS} {a b : Nat} (h : ¬ aRA σ a b = 0) : ¬ aRA σ a b ≤ 0 := by
  unfold aRA at h ⊢; repeat' split
  all_goals first | decide | (rename_i h1 h2 h3 h4; rw [if_neg h1, if_neg h2, if_neg h3, if_neg h4] at h; exact absurd rfl h)
set_option maxHeartbeats 4000000 in
set_option maxRecDepth 100000 in
theorem c_ruleOfMeetings (l : Launch) (D : va_G) (G : Nat → ClassId) (H : Heap) (ca : Nat → Nat) (bg : Value) (ea : Nat → Nat → Nat) (n k w0 : Nat) (σ x : MS) (κ : Nat → Int64) (hP : va_P D vwCl (cF G ca bg (enF ea k) σ x) H) (hE : ∀ e, e < k → va_P D vwCl (eW G (ea e) σ κ e) H) (hI : cI σ x n k w0) (a1 : Nat → Nat) (en1 : Nat) (me1 : Int32) (hQ1 : va_P D vwCl (mbW G a1 σ en1 me1) H) (ho1 : mI σ n en1) (hke : k ≤ en1) : Met l yX7_ruleOfMeetings (ww yX7_ruleOfMeetings cX7_ruleOfMeetings 5 (some .int)) (rmD 5) (roP D G H [.ref ((ca 0)), .ref ((a1 0))]) (vp_Si (fun r => r = rmF σ en1 k 0)) 0 0 (fun _ => False) := by
  refine Met.ofW (cc := cX7_ruleOfMeetings) (maxL := 5) (ret := (some .int)) (by decide) rfl ?_
  intro p e s m args below meth c s₁ B hml hv
  obtain ⟨rfl, hH, hK⟩ := hv
  have hx := B.exec
  have hb := B.bytes
  have hr := B.returns
  have hts : ∀ w ∈ TT, w.before _ s = true := fun w h => atoms_spec (ws := ww yX7_ruleOfMeetings cX7_ruleOfMeetings 5 (some .int)) B.pre w (List.mem_cons_of_mem _ h)
  have hown : s.vm.findClass RX7 = some m.cls := findClass_of_methodNamed B.named
  have hlocks := B.notSynchronized
  rw [hH]
  have hI0 := hI
  obtain ⟨h1, hn, h7, hk60, h22, hw, hab, hfa, hmi, hak, hrf⟩ := hI
  have hoo1 := ho1
  obtain ⟨he1, hm1, hk1, hp1⟩ := ho1
  have ht1 := he1.2
  have hz1 := hm1.2
  have hl := lv_entry ([.ref ((ca 0)), .ref ((a1 0))]) (n := 5) (Nat.le_of_ble_eq_true rfl)
  rw [lg_entry_eq]
  generalize (lg_sl ([.ref ((ca 0)), .ref ((a1 0))]) ++ List.replicate (5 - (lg_sl ([.ref ((ca 0)), .ref ((a1 0))])).length) Slot.unset).toArray = ls at hl ⊢
  have hl : lv_has ls 5 [(0, .ref ((ca 0))), (1, .ref ((a1 0)))] := hl
  refine lv_iconst (v := 0) hx hb dX7_ruleOfMeetings_0 (by decide) ?_
  refine lv_istore_n (lv' := [(2, .int 0), (0, .ref ((ca 0))), (1, .ref ((a1 0)))]) hx hb dX7_ruleOfMeetings_1 rfl hl (by decide) rfl (fun ls hl => ?_)
  refine w_for (N := k) 2 (L := fun q9 ls => lv_has ls 5 [(2, .int (nI q9)), (0, .ref ((ca 0))), (1, .ref ((a1 0)))] ∧ rmF σ en1 k 0 = rmF σ en1 (k - q9) q9) (fun k9 ls hk hL ih => ?_) 0 ls (Nat.zero_le _) ⟨hl, by rw [Nat.sub_zero]⟩
  obtain ⟨hl, hi⟩ := hL
  have hl : lv_has ls 5 [(2, .int (nI k9)), (0, .ref ((ca 0))), (1, .ref ((a1 0)))] := hl
  refine lv_iload_n hx hb dX7_ruleOfMeetings_2 rfl (lv_at hl 0 rfl) ?_
  refine lv_aload_n hx hb dX7_ruleOfMeetings_3 rfl (lv_at hl 1 rfl) ?_
  refine va_get (D := D) (ci := 7) (v := .int (σ 7 0)) (C := RX7) (T := TX7) (N := 11) hx hb hts iX7 hown hK.1 hP 0 rfl rfl 2 (by decide) (hts _ q_75) (fun _ h9 => h9) rfl dX7_ruleOfMeetings_4 ?_
  refine lv_icmp_ge (tgt := 63) hx hb dX7_ruleOfMeetings_7 (by decide) (fun c1 => ?_) (fun c1 => ?_)
  · -- 7 taken
    have c1 : k ≤ k9 := (nI_leI (a := k) (b := k9) (by omega) (by omega)).mp (by have h8 := c1; rw [h7] at h8; exact h8)
    refine lv_iconst (v := 0) hx hb dX7_ruleOfMeetings_63 (by decide) ?_
    exact ro_iret (v := 0) hx hb hr hH hlocks dX7_ruleOfMeetings_64 (by rw [hi, show k - k9 = 0 by omega]; rfl)
  · -- 7 not
    have c1 : ¬ k ≤ k9 := fun h9 => c1 (by rw [h7]; exact (nI_leI (a := k) (b := k9) (by omega) (by omega)).mpr h9)
    refine lv_aload_n hx hb dX7_ruleOfMeetings_10 rfl (lv_at hl 1 rfl) ?_
    refine va_get (D := D) (ci := 7) (v := .ref ((ca 6))) (C := RX7) (T := TX7) (N := 11) hx hb hts iX7 hown hK.1 hP 0 rfl rfl 1 (by decide) (hts _ q_74) (fun _ h9 => h9) rfl dX7_ruleOfMeetings_11 ?_
    refine lv_iload_n hx hb dX7_ruleOfMeetings_14 rfl (lv_at hl 0 rfl) ?_
    refine aald_e hx hb hK.1 hP 6 rfl (k9) rfl (by omega) (by omega) dX7_ruleOfMeetings_15 ?_
    refine lv_astore (lv' := [(4, .ref ((ea k9 0))), (2, .int (nI k9)), (0, .ref ((ca 0))), (1, .ref ((a1 0)))]) hx hb dX7_ruleOfMeetings_16 hl (by decide) rfl (fun ls hl => ?_)
    refine lv_aload hx hb dX7_ruleOfMeetings_18 (lv_at hl 0 rfl) ?_
    refine inst_m hx hb hown (hts _ q_307) hK (hE k9 (by omega)) dX7_ruleOfMeetings_20 ?_
    refine lv_if_eq (tgt := 57) hx hb dX7_ruleOfMeetings_23 (by decide) (fun c2 => ?_) (fun c2 => ?_)
    · -- 23 taken
      have c2 := bI_0 c2
      refine lv_iinc (v := nI (k9 + 1)) (lv' := [(2, .int (nI (k9 + 1))), (4, .ref ((ea k9 0))), (0, .ref ((ca 0))), (1, .ref ((a1 0)))]) hx hb dX7_ruleOfMeetings_57 hl (k := 1) rfl (nI_1 _) (by decide) rfl (fun ls hl => ?_)
      refine lv_goto (tgt := 2) hx hb dX7_ruleOfMeetings_60 (by decide) ?_
      rw [rmF_u (by omega)] at hi
      simp only [eq_false (show ¬ meetP σ en1 k9 from (fun h9 => c2 (meetP_def.mp h9).1)), if_false] at hi
      rw [if_neg (fun h9 => h9 (by decide))] at hi
      exact ih _ (by omega) ⟨lv_sub hl [0, 2, 3] rfl, hi⟩
    · -- 23 not
      have c2 := bI_1 c2
      refine lv_aload hx hb dX7_ruleOfMeetings_26 (lv_at hl 0 rfl) ?_
      have hM_k9 := eW_m (hE k9 (by omega)) c2
      have hmi_k9 := mJ_m (hmi k9 (by omega)) c2
      have ht_k9 := hmi_k9.1.2
      have hz_k9 := hmi_k9.2.1.2
      refine va_castY (C := RX3) hx hb hown (hts _ q_307) hK.2.2.1 (va_recv hK.1 hM_k9 (ci := 4) (q0 := 0) rfl rfl) dX7_ruleOfMeetings_28 ?_
      refine lv_astore_n (lv' := [(3, .ref ((ea k9 0))), (4, .ref ((ea k9 0))), (2, .int (nI k9)), (0, .ref ((ca 0))), (1, .ref ((a1 0)))]) hx hb dX7_ruleOfMeetings_31 rfl hl (by decide) rfl (fun ls hl => ?_)
      refine lv_aload_n hx hb dX7_ruleOfMeetings_32 rfl (lv_at hl 3 rfl) ?_
      refine lv_aload_n hx hb dX7_ruleOfMeetings_33 rfl (lv_at hl 4 rfl) ?_
      refine lv_aload_n hx hb dX7_ruleOfMeetings_34 rfl (lv_at hl 0 rfl) ?_
      refine ro_Vi (D := D) (G := G) (As := [.ref ((a1 0)), .ref ((ea k9 0))]) (rest := []) ⟨hx, hb, hml, hown, hts⟩ (c_meets l D G _ ca _ ea n k w0 σ x κ hP hE hI0 a1 en1 _ hQ1 hoo1 (ea k9) k9 _ hM_k9 hmi_k9 c2 (by omega)) gV_X7_X7_meets hdV_X7_meets ⟨Nat.le_of_ble_eq_true rfl, Nat.le_of_ble_eq_true rfl⟩ hK (va_recv hK.1 hP (ci := 7) (q0 := 0) rfl rfl) rfl hl.1 rfl (Nat.le_of_ble_eq_true rfl) dX7_ruleOfMeetings_35 ⟨Nat.le_of_ble_eq_true rfl, Nat.le_of_ble_eq_true rfl⟩ (fun r3 e_r3 => ?_)
      subst e_r3
      refine lv_if_eq (tgt := 57) hx hb dX7_ruleOfMeetings_38 (by decide) (fun c4 => ?_) (fun c4 => ?_)
      · -- 38 taken
        have c4 := bI_0 c4
        refine lv_iinc (v := nI (k9 + 1)) (lv' := [(2, .int (nI (k9 + 1))), (3, .ref ((ea k9 0))), (4, .ref ((ea k9 0))), (0, .ref ((ca 0))), (1, .ref ((a1 0)))]) hx hb dX7_ruleOfMeetings_57 hl (k := 2) rfl (nI_1 _) (by decide) rfl (fun ls hl => ?_)
        refine lv_goto (tgt := 2) hx hb dX7_ruleOfMeetings_60 (by decide) ?_
        rw [rmF_u (by omega)] at hi
        simp only [eq_false (show ¬ meetP σ en1 k9 from c4), if_false] at hi
        rw [if_neg (fun h9 => h9 (by decide))] at hi
        exact ih _ (by omega) ⟨lv_sub hl [0, 3, 4] rfl, hi⟩
      · -- 38 not
        have c4 := bI_1 c4
        refine lv_aload_n hx hb dX7_ruleOfMeetings_41 rfl (lv_at hl 3 rfl) ?_
        refine lv_aload_n hx hb dX7_ruleOfMeetings_42 rfl (lv_at hl 4 rfl) ?_
        refine lv_aload_n hx hb dX7_ruleOfMeetings_43 rfl (lv_at hl 0 rfl) ?_
        refine ro_Vi (D := D) (G := G) (As := [.ref ((a1 0)), .ref ((ea k9 0))]) (rest := []) ⟨hx, hb, hml, hown, hts⟩ (c_ruleOfMeeting l D G _ ca _ ea n k w0 σ x κ hP hE hI0 a1 en1 _ hQ1 hoo1 (ea k9) k9 _ hM_k9 hmi_k9) gV_X7_X7_ruleOfMeeting hdV_X7_ruleOfMeeting ⟨Nat.le_of_ble_eq_true rfl, Nat.le_of_ble_eq_true rfl⟩ hK (va_recv hK.1 hP (ci := 7) (q0 := 0) rfl rfl) rfl hl.1 rfl (Nat.le_of_ble_eq_true rfl) dX7_ruleOfMeetings_44 ⟨Nat.le_of_ble_eq_true rfl, Nat.le_of_ble_eq_true rfl⟩ (fun r5 e_r5 => ?_)
        subst e_r5
        refine lv_istore (lv' := [(4, .int (aRA σ en1 k9)), (3, .ref ((ea k9 0))), (2, .int (nI k9)), (0, .ref ((ca 0))), (1, .ref ((a1 0)))]) hx hb dX7_ruleOfMeetings_47 hl (by decide) rfl (fun ls hl => ?_)
        refine lv_iload hx hb dX7_ruleOfMeetings_49 (lv_at hl 0 rfl) ?_
        refine lv_if_eq (tgt := 57) hx hb dX7_ruleOfMeetings_51 (by decide) (fun c6 => ?_) (fun c6 => ?_)
        · -- 51 taken
          refine lv_iinc (v := nI (k9 + 1)) (lv' := [(2, .int (nI (k9 + 1))), (4, .int (aRA σ en1 k9)), (3, .ref ((ea k9 0))), (0, .ref ((ca 0))), (1, .ref ((a1 0)))]) hx hb dX7_ruleOfMeetings_57 hl (k := 2) rfl (nI_1 _) (by decide) rfl (fun ls hl => ?_)
          refine lv_goto (tgt := 2) hx hb dX7_ruleOfMeetings_60 (by decide) ?_
          rw [rmF_u (by omega)] at hi
          simp only [eq_true c4, if_true] at hi
          rw [c6, if_neg (fun h9 => h9 (by decide))] at hi
          exact ih _ (by omega) ⟨lv_sub hl [0, 3, 4] rfl, hi⟩
        · -- 51 not
          refine lv_iload hx hb dX7_ruleOfMeetings_54 (lv_at hl 0 rfl) ?_
          exact ro_iret (v := aRA σ en1 k9) hx hb hr hH hlocks dX7_ruleOfMeetings_56 (by rw [hi, rmF_u (by omega)]; simp only [eq_true c4, if_true]; rw [if_pos (aRA_pos c6)])
