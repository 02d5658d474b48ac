theorem asN {p : Prop} [Decidable p] : (if bI p = 0 then (0 : Int32) else 1) = if p then 1 else 0 := by
  by_cases h : p
  · rw [bI_t h, if_pos h]; rfl
  · rw [bI_f h, if_neg h]; rfl
theorem lk_iff {σ : MS} {t e n : Nat} (h8 : ¬ σ 8 e = 0) : lkN σ t e n ↔ (¬ σ 13 e &&& 128 = 0 ∧ lyP σ t (tyE σ e) ∧ ∀ o, o < n → ¬ mkP σ t o e) := by
  rw [lkN_def]; exact ⟨fun h => h.2, fun h => ⟨h8, h⟩⟩
/-- the i-th that a type lacks, as the class counts it -/
def lcF (σ : MS) (t K : Nat) (i : Int32) : Nat → Nat → Int32 → Int32
  | 0, _, _ => -1
  | f + 1, e, pa => if lkN σ t e K then (if pa = i then nI e else lcF σ t K i f (e + 1) (pa + 1)) else lcF σ t K i f (e + 1) pa
theorem lcF_u {σ : MS} {t K e : Nat} {i pa : Int32} (h : e < K) : lcF σ t K i (K - e) e pa = if lkN σ t e K then (if pa = i then nI e else lcF σ t K i (K - (e + 1)) (e + 1) (pa + 1)) else lcF σ t K i (K - (e + 1)) (e + 1) pa := by
  obtain ⟨z, hz⟩ : ∃ z, K - e = z + 1 := ⟨K - e - 1, by omega⟩
  rw [hz, show K - (e + 1) = z by omega]; rfl
theorem lc_neg {σ : MS} {t K : Nat} {i : Int32} (hi : i < 0) : ∀ (f e : Nat) (pa : Nat), pa + f < 2 ^ 31 → lcF σ t K i f e (nI pa) = -1
  | 0, _, _, _ => rfl
  | f + 1, e, pa, h => by
    have hn : ¬ nI pa = i := fun q => by rw [← q, i_lt, n_ti (by omega)] at hi; simp only [Int32.reduceToInt] at hi; omega
    unfold lcF; rw [if_neg hn, nI_1, lc_neg hi f (e + 1) (pa + 1) (by omega), lc_neg hi f (e + 1) pa (by omega)]
    split <;> rfl
theorem lk_neg {σ : MS} {t K : Nat} {i : Int32} (hi : i < 0) : ∀ (f e : Nat) (lf : Int32), lkG σ t K i f e lf = -1
  | 0, _, _ => rfl
  | f + 1, e, lf => by unfold lkG; rw [if_pos hi]
theorem lc_eq {σ : MS} {t K : Nat} {i : Int32} (hi : ¬ i < 0) (h2 : σ 2 t = 0 ∨ σ 2 t = 2) : ∀ (f e : Nat) (pa : Int32), lcF σ t K i f e pa = lkG σ t K i f e (i - pa)
  | 0, _, _ => rfl
  | f + 1, e, pa => by
    have h0 : (i - pa = 0) ↔ (pa = i) := ⟨fun q => by have := Int32.sub_eq_iff_eq_add.mp q; rw [Int32.zero_add] at this; exact this.symm, fun q => by rw [q, Int32.sub_self]⟩
    have h1 : i - pa + (-1) = i - (pa + 1) := by
      apply Int32.toBitVec_inj.mp
      rw [Int32.toBitVec_add, Int32.toBitVec_sub, Int32.toBitVec_sub, Int32.toBitVec_add]
      generalize i.toBitVec = a; generalize pa.toBitVec = b
      show a - b + 4294967295#32 = a - (b + 1#32)
      bv_omega
    unfold lcF lkG
    rw [if_neg hi, if_neg (show ¬ (¬ σ 2 t = 0 ∧ ¬ σ 2 t = 2) from fun q => h2.elim q.1 q.2), h1, lc_eq hi h2 f (e + 1) (pa + 1), lc_eq hi h2 f (e + 1) pa]
    simp only [h0]
theorem lk_other {σ : MS} {t K : Nat} {i : Int32} (h2 : ¬ (σ 2 t = 0 ∨ σ 2 t = 2)) : ∀ (f e : Nat) (lf : Int32), lkG σ t K i f e lf = -1
  | 0, _, _ => rfl
  | f + 1, e, lf => by
    unfold lkG; split
    · rfl
    · rw [if_pos (not_or.mp h2)]
/-- both ways of counting find the same -/
theorem lacks_eq {σ : MS} {τ : Nat → Int64} {n k : Nat} {t : Nat} {i : Int32} (hn : n ≤ 12) (ht : t < n) (hk : k ≤ 60) : (oLacks σ τ n k (nI t) i).1 = if σ 2 t = 0 ∨ σ 2 t = 2 then lcF σ t k i k 0 0 else -1 := by
  unfold oLacks; rw [if_neg (fun q => q (okN_nI (by omega) ht)), nI_clamp (by omega)]
  show lkG σ t k i k 0 i = _
  by_cases h2 : σ 2 t = 0 ∨ σ 2 t = 2
  · rw [if_pos h2]
    by_cases hi : i < 0
    · rw [lk_neg hi]; exact (lc_neg hi k 0 0 (by omega)).symm
    · rw [lc_eq hi h2, Int32.sub_zero]
  · rw [if_neg h2, lk_other h2]
-- a name that is looked for, as the class does it
def cpV (σ : MS) (K : Nat) (T : Nat → Int32) (p : Int32) : Int32 := if p < 0 ∨ ¬ p < 12 then -1 else if okN K (T p.toNatClampNeg) ∧ ¬ σ 13 (T p.toNatClampNeg).toNatClampNeg &&& 4 = 0 then -1 else T p.toNatClampNeg
def cbF (m : Int32) (T : Nat → Int32) (a : Int32) : Nat → Int32
  | 0 => a
  | f + 1 => if bitP m f then bothF (cbF m T a f) (T f) else cbF m T a f
def cfV (σ : MS) (K : Nat) (name : Int32) (m : Int32) (T : Nat → Int32) (t : Nat) : Int32 := if ¬ fld σ K (nI t) name = -1 then fld σ K (nI t) name else cbF m T (cpV σ K T (σ 3 t)) t
theorem lt12 {t : Int32} (h : ¬ t < 0) (q : t < 12) : okN 12 t := okN_lt.mpr ⟨h, fun r => by rw [show nI 12 = 12 from rfl] at r; simp only [i_lt, i_le, Int32.reduceToInt] at q r; omega⟩

theorem dX7_isReachedFrom_0 : decode cX7_isReachedFrom 0 = .ok (.aload_n 2, 1) := by decide +kernel
theorem dX7_isReachedFrom_1 : decode cX7_isReachedFrom 1 = .ok (.getfield 269, 3) := by decide +kernel
theorem dX7_isReachedFrom_4 : decode cX7_isReachedFrom 4 = .ok (.iload_n 1, 1) := by decide +kernel
theorem dX7_isReachedFrom_5 : decode cX7_isReachedFrom 5 = .ok (.if_icmp .ne 5, 3) := by decide +kernel
theorem dX7_isReachedFrom_10 : decode cX7_isReachedFrom 10 = .ok (.aload_n 0, 1) := by decide +kernel
theorem dX7_isReachedFrom_11 : decode cX7_isReachedFrom 11 = .ok (.getfield 12, 3) := by decide +kernel
theorem dX7_isReachedFrom_14 : decode cX7_isReachedFrom 14 = .ok (.iload_n 1, 1) := by decide +kernel
theorem dX7_isReachedFrom_15 : decode cX7_isReachedFrom 15 = .ok (.aload_n 2, 1) := by decide +kernel
theorem dX7_isReachedFrom_16 : decode cX7_isReachedFrom 16 = .ok (.getfield 269, 3) := by decide +kernel
theorem dX7_isReachedFrom_19 : decode cX7_isReachedFrom 19 = .ok (.invokevirtual 72, 3) := by decide +kernel
theorem dX7_isReachedFrom_22 : decode cX7_isReachedFrom 22 = .ok (.ifCond .eq 23, 3) := by decide +kernel
theorem dX7_isReachedFrom_45 : decode cX7_isReachedFrom 45 = .ok (.iconst 0, 1) := by decide +kernel
theorem dX7_isReachedFrom_46 : decode cX7_isReachedFrom 46 = .ok (.ireturn, 1) := by decide +kernel
theorem dX7_isReachedFrom_25 : decode cX7_isReachedFrom 25 = .ok (.aload_n 2, 1) := by decide +kernel
theorem dX7_isReachedFrom_26 : decode cX7_isReachedFrom 26 = .ok (.iconst 4, 1) := by decide +kernel
theorem dX7_isReachedFrom_27 : decode cX7_isReachedFrom 27 = .ok (.invokevirtual 281, 3) := by decide +kernel
theorem dX7_isReachedFrom_30 : decode cX7_isReachedFrom 30 = .ok (.ifCond .ne 15, 3) := by decide +kernel
theorem dX7_isReachedFrom_33 : decode cX7_isReachedFrom 33 = .ok (.aload_n 0, 1) := by decide +kernel
theorem dX7_isReachedFrom_34 : decode cX7_isReachedFrom 34 = .ok (.aload_n 2, 1) := by decide +kernel
theorem dX7_isReachedFrom_35 : decode cX7_isReachedFrom 35 = .ok (.invokevirtual 284, 3) := by decide +kernel
theorem dX7_isReachedFrom_38 : decode cX7_isReachedFrom 38 = .ok (.ifCond .ne 7, 3) := by decide +kernel
theorem dX7_isReachedFrom_41 : decode cX7_isReachedFrom 41 = .ok (.iconst 1, 1) := by decide +kernel
theorem dX7_isReachedFrom_42 : decode cX7_isReachedFrom 42 = .ok (.goto 4, 3) := by decide +kernel
theorem dX7_isReachedFrom_8 : decode cX7_isReachedFrom 8 = .ok (.iconst 1, 1) := by decide +kernel
theorem dX7_isReachedFrom_9 : decode cX7_isReachedFrom 9 = .ok (.ireturn, 1) := by decide +kernel
theorem dX7_isStoodFor_0 : decode cX7_isStoodFor 0 = .ok (.iconst 0, 1) := by decide +kernel
theorem dX7_isStoodFor_1 : decode cX7_isStoodFor 1 = .ok (.istore_n 2, 1) := by decide +kernel
theorem dX7_isStoodFor_2 : decode cX7_isStoodFor 2 = .ok (.iload_n 2, 1) := by decide +kernel
theorem dX7_isStoodFor_3 : decode cX7_isStoodFor 3 = .ok (.aload_n 0, 1) := by decide +kernel
theorem dX7_isStoodFor_4 : decode cX7_isStoodFor 4 = .ok (.getfield 61, 3) := by decide +kernel
theorem dX7_isStoodFor_7 : decode cX7_isStoodFor 7 = .ok (.if_icmp .ge 79, 3) := by decide +kernel
theorem dX7_isStoodFor_86 : decode cX7_isStoodFor 86 = .ok (.iconst 0, 1) := by decide +kernel
theorem dX7_isStoodFor_87 : decode cX7_isStoodFor 87 = .ok (.ireturn, 1) := by decide +kernel
theorem dX7_isStoodFor_10 : decode cX7_isStoodFor 10 = .ok (.aload_n 0, 1) := by decide +kernel
theorem q_82 : Cond.fieldLink "FieldMember" 36 "FieldMember" "candidates" "[Z" ∈ TT := tt_t (i := 82) (by decide +kernel) (by decide +kernel)
theorem dX7_isStoodFor_11 : decode cX7_isStoodFor 11 = .ok (.getfield 36, 3) := by decide +kernel
theorem dX7_isStoodFor_14 : decode cX7_isStoodFor 14 = .ok (.iload_n 2, 1) := by decide +kernel
theorem dX7_isStoodFor_15 : decode cX7_isStoodFor 15 = .ok (.baload, 1) := by decide +kernel
theorem dX7_isStoodFor_16 : decode cX7_isStoodFor 16 = .ok (.ifCond .eq 64, 3) := by decide +kernel
theorem dX7_isStoodFor_80 : decode cX7_isStoodFor 80 = .ok (.iinc 2 1, 3) := by decide +kernel
theorem dX7_isStoodFor_83 : decode cX7_isStoodFor 83 = .ok (.goto (-81), 3) := by decide +kernel
theorem dX7_isStoodFor_19 : decode cX7_isStoodFor 19 = .ok (.aload_n 0, 1) := by decide +kernel
theorem dX7_isStoodFor_20 : decode cX7_isStoodFor 20 = .ok (.getfield 18, 3) := by decide +kernel
theorem dX7_isStoodFor_23 : decode cX7_isStoodFor 23 = .ok (.iload_n 2, 1) := by decide +kernel
theorem dX7_isStoodFor_24 : decode cX7_isStoodFor 24 = .ok (.aaload, 1) := by decide +kernel
theorem dX7_isStoodFor_25 : decode cX7_isStoodFor 25 = .ok (.astore 4, 2) := by decide +kernel
theorem dX7_isStoodFor_27 : decode cX7_isStoodFor 27 = .ok (.aload 4, 2) := by decide +kernel
theorem dX7_isStoodFor_29 : decode cX7_isStoodFor 29 = .ok (.instanceof 160, 3) := by decide +kernel
theorem dX7_isStoodFor_32 : decode cX7_isStoodFor 32 = .ok (.ifCond .eq 48, 3) := by decide +kernel
theorem dX7_isStoodFor_35 : decode cX7_isStoodFor 35 = .ok (.aload 4, 2) := by decide +kernel
theorem dX7_isStoodFor_37 : decode cX7_isStoodFor 37 = .ok (.checkcast 160, 3) := by decide +kernel
theorem dX7_isStoodFor_40 : decode cX7_isStoodFor 40 = .ok (.astore_n 3, 1) := by decide +kernel
theorem dX7_isStoodFor_41 : decode cX7_isStoodFor 41 = .ok (.aload_n 3, 1) := by decide +kernel
theorem dX7_isStoodFor_42 : decode cX7_isStoodFor 42 = .ok (.getfield 269, 3) := by decide +kernel
theorem dX7_isStoodFor_45 : decode cX7_isStoodFor 45 = .ok (.aload_n 1, 1) := by decide +kernel
theorem dX7_isStoodFor_46 : decode cX7_isStoodFor 46 = .ok (.getfield 269, 3) := by decide +kernel
theorem dX7_isStoodFor_49 : decode cX7_isStoodFor 49 = .ok (.if_icmp .eq 31, 3) := by decide +kernel
theorem dX7_isStoodFor_52 : decode cX7_isStoodFor 52 = .ok (.aload_n 0, 1) := by decide +kernel
theorem dX7_isStoodFor_53 : decode cX7_isStoodFor 53 = .ok (.getfield 12, 3) := by decide +kernel
theorem dX7_isStoodFor_56 : decode cX7_isStoodFor 56 = .ok (.aload_n 3, 1) := by decide +kernel
theorem dX7_isStoodFor_57 : decode cX7_isStoodFor 57 = .ok (.getfield 269, 3) := by decide +kernel
theorem dX7_isStoodFor_60 : decode cX7_isStoodFor 60 = .ok (.aload_n 1, 1) := by decide +kernel
theorem dX7_isStoodFor_61 : decode cX7_isStoodFor 61 = .ok (.getfield 269, 3) := by decide +kernel
theorem dX7_isStoodFor_64 : decode cX7_isStoodFor 64 = .ok (.invokevirtual 72, 3) := by decide +kernel
theorem dX7_isStoodFor_67 : decode cX7_isStoodFor 67 = .ok (.ifCond .eq 13, 3) := by decide +kernel
theorem dX7_isStoodFor_70 : decode cX7_isStoodFor 70 = .ok (.aload_n 3, 1) := by decide +kernel
theorem dX7_isStoodFor_71 : decode cX7_isStoodFor 71 = .ok (.aload_n 1, 1) := by decide +kernel
theorem dX7_isStoodFor_72 : decode cX7_isStoodFor 72 = .ok (.invokevirtual 270, 3) := by decide +kernel
theorem dX7_isStoodFor_75 : decode cX7_isStoodFor 75 = .ok (.ifCond .eq 5, 3) := by decide +kernel
theorem dX7_isStoodFor_78 : decode cX7_isStoodFor 78 = .ok (.iconst 1, 1) := by decide +kernel
theorem dX7_isStoodFor_79 : decode cX7_isStoodFor 79 = .ok (.ireturn, 1) := by decide +kernel
theorem dX7_mayTakeAsMany_0 : decode cX7_mayTakeAsMany 0 = .ok (.aload_n 1, 1) := by decide +kernel
theorem q_318 : Cond.fieldLink "FieldMember" 171 "FieldMember$Member" "parameters" "LFieldMember$Row;" ∈ TT := tt_t (i := 318) (by decide +kernel) (by decide +kernel)
theorem dX7_mayTakeAsMany_1 : decode cX7_mayTakeAsMany 1 = .ok (.getfield 171, 3) := by decide +kernel
theorem q_65 : Cond.fieldLink "FieldMember" 212 "FieldMember$Row" "size" "I" ∈ TT := tt_t (i := 65) (by decide +kernel) (by decide +kernel)
theorem dX7_mayTakeAsMany_4 : decode cX7_mayTakeAsMany 4 = .ok (.getfield 212, 3) := by decide +kernel
theorem dX7_mayTakeAsMany_7 : decode cX7_mayTakeAsMany 7 = .ok (.istore_n 3, 1) := by decide +kernel
theorem dX7_mayTakeAsMany_8 : decode cX7_mayTakeAsMany 8 = .ok (.iload_n 2, 1) := by decide +kernel
theorem dX7_mayTakeAsMany_9 : decode cX7_mayTakeAsMany 9 = .ok (.ifCond .eq 31, 3) := by decide +kernel
theorem dX7_mayTakeAsMany_40 : decode cX7_mayTakeAsMany 40 = .ok (.aload_n 0, 1) := by decide +kernel
theorem q_77 : Cond.fieldLink "FieldMember" 25 "FieldMember" "arguments" "LFieldMember$Row;" ∈ TT := tt_t (i := 77) (by decide +kernel) (by decide +kernel)
theorem dX7_mayTakeAsMany_41 : decode cX7_mayTakeAsMany 41 = .ok (.getfield 25, 3) := by decide +kernel
theorem dX7_mayTakeAsMany_44 : decode cX7_mayTakeAsMany 44 = .ok (.getfield 212, 3) := by decide +kernel
theorem dX7_mayTakeAsMany_47 : decode cX7_mayTakeAsMany 47 = .ok (.iload_n 3, 1) := by decide +kernel
theorem dX7_mayTakeAsMany_48 : decode cX7_mayTakeAsMany 48 = .ok (.if_icmp .ne 7, 3) := by decide +kernel
theorem dX7_mayTakeAsMany_55 : decode cX7_mayTakeAsMany 55 = .ok (.iconst 0, 1) := by decide +kernel
theorem dX7_mayTakeAsMany_56 : decode cX7_mayTakeAsMany 56 = .ok (.ireturn, 1) := by decide +kernel
theorem dX7_mayTakeAsMany_51 : decode cX7_mayTakeAsMany 51 = .ok (.iconst 1, 1) := by decide +kernel
theorem dX7_mayTakeAsMany_52 : decode cX7_mayTakeAsMany 52 = .ok (.goto 4, 3) := by decide +kernel
theorem dX7_mayTakeAsMany_12 : decode cX7_mayTakeAsMany 12 = .ok (.aload_n 1, 1) := by decide +kernel
theorem q_319 : Cond.fieldLink "FieldMember" 177 "FieldMember$Member" "varied" "Z" ∈ TT := tt_t (i := 319) (by decide +kernel) (by decide +kernel)
theorem dX7_mayTakeAsMany_13 : decode cX7_mayTakeAsMany 13 = .ok (.getfield 177, 3) := by decide +kernel
theorem dX7_mayTakeAsMany_16 : decode cX7_mayTakeAsMany 16 = .ok (.ifCond .eq 20, 3) := by decide +kernel
theorem dX7_mayTakeAsMany_36 : decode cX7_mayTakeAsMany 36 = .ok (.iconst 0, 1) := by decide +kernel
theorem dX7_mayTakeAsMany_37 : decode cX7_mayTakeAsMany 37 = .ok (.goto 19, 3) := by decide +kernel
theorem dX7_mayTakeAsMany_19 : decode cX7_mayTakeAsMany 19 = .ok (.aload_n 0, 1) := by decide +kernel
theorem dX7_mayTakeAsMany_20 : decode cX7_mayTakeAsMany 20 = .ok (.getfield 25, 3) := by decide +kernel
theorem dX7_mayTakeAsMany_23 : decode cX7_mayTakeAsMany 23 = .ok (.getfield 212, 3) := by decide +kernel
theorem dX7_mayTakeAsMany_26 : decode cX7_mayTakeAsMany 26 = .ok (.iload_n 3, 1) := by decide +kernel
theorem dX7_mayTakeAsMany_27 : decode cX7_mayTakeAsMany 27 = .ok (.iconst 1, 1) := by decide +kernel
theorem dX7_mayTakeAsMany_28 : decode cX7_mayTakeAsMany 28 = .ok (.isub, 1) := by decide +kernel
theorem dX7_mayTakeAsMany_29 : decode cX7_mayTakeAsMany 29 = .ok (.if_icmp .lt 7, 3) := by decide +kernel
theorem dX7_mayTakeAsMany_32 : decode cX7_mayTakeAsMany 32 = .ok (.iconst 1, 1) := by decide +kernel
theorem dX7_mayTakeAsMany_33 : decode cX7_mayTakeAsMany 33 = .ok (.goto 23, 3) := by decide +kernel
theorem dX7_takesArguments_0 : decode cX7_takesArguments 0 = .ok (.aload_n 0, 1) := by decide +kernel
theorem dX7_takesArguments_1 : decode cX7_takesArguments 1 = .ok (.aload_n 1, 1) := by decide +kernel
theorem dX7_takesArguments_2 : decode cX7_takesArguments 2 = .ok (.iload_n 2, 1) := by decide +kernel
theorem q_462 : Cond.methodLink "FieldMember" 320 ⟨"FieldMember", "mayTakeAsMany", "(LFieldMember$Member;Z)Z"⟩ ∈ TT := tt_t (i := 462) (by decide +kernel) (by decide +kernel)
theorem q_465 : Cond.code ⟨"FieldMember", "mayTakeAsMany", "(LFieldMember$Member;Z)Z"⟩ prog_1_method_49_code 4 (some .boolean) ∈ TT := tt_t (i := 465) (by decide +kernel) (by decide +kernel)
theorem q_464 : Cond.instanceMethod ⟨"FieldMember", "mayTakeAsMany", "(LFieldMember$Member;Z)Z"⟩ ∈ TT := tt_t (i := 464) (by decide +kernel) (by decide +kernel)
theorem qs_21 : Cond.selects "FieldMember" ⟨"FieldMember", "mayTakeAsMany", "(LFieldMember$Member;Z)Z"⟩ ⟨"FieldMember", "mayTakeAsMany", "(LFieldMember$Member;Z)Z"⟩ ∈ TT := tt_s (i := 21) (by decide +kernel) (by decide +kernel)
theorem gV_X7_X7_mayTakeAsMany : GoodIn TT (wsV RX7 320 RX7 yX7_mayTakeAsMany (ww yX7_mayTakeAsMany cX7_mayTakeAsMany 4 (some .boolean))) := tt_V q_462 q_464 qs_21 q_1 q_465
theorem hdV_X7_mayTakeAsMany : yX7_mayTakeAsMany.cls = RX7 ∧ yX7_mayTakeAsMany.cls ≠ "java/lang/invoke/MethodHandle" ∧ yX7_mayTakeAsMany.cls ≠ "java/lang/invoke/VarHandle" ∧ (parseMethodDescriptor yX7_mayTakeAsMany.desc).map (fun d => d.parameters.length) = some 2 := by decide +kernel
theorem dX7_takesArguments_3 : decode cX7_takesArguments 3 = .ok (.invokevirtual 320, 3) := by decide +kernel
theorem dX7_takesArguments_6 : decode cX7_takesArguments 6 = .ok (.ifCond .ne 5, 3) := by decide +kernel
theorem dX7_takesArguments_11 : decode cX7_takesArguments 11 = .ok (.iconst 0, 1) := by decide +kernel
theorem dX7_takesArguments_12 : decode cX7_takesArguments 12 = .ok (.istore_n 3, 1) := by decide +kernel
theorem dX7_takesArguments_13 : decode cX7_takesArguments 13 = .ok (.iload_n 3, 1) := by decide +kernel
theorem dX7_takesArguments_14 : decode cX7_takesArguments 14 = .ok (.aload_n 0, 1) := by decide +kernel
theorem dX7_takesArguments_15 : decode cX7_takesArguments 15 = .ok (.getfield 25, 3) := by decide +kernel
theorem dX7_takesArguments_18 : decode cX7_takesArguments 18 = .ok (.getfield 212, 3) := by decide +kernel
theorem dX7_takesArguments_21 : decode cX7_takesArguments 21 = .ok (.if_icmp .ge 46, 3) := by decide +kernel
theorem dX7_takesArguments_67 : decode cX7_takesArguments 67 = .ok (.iconst 1, 1) := by decide +kernel
theorem dX7_takesArguments_68 : decode cX7_takesArguments 68 = .ok (.ireturn, 1) := by decide +kernel
theorem dX7_takesArguments_24 : decode cX7_takesArguments 24 = .ok (.aload_n 0, 1) := by decide +kernel
theorem dX7_takesArguments_25 : decode cX7_takesArguments 25 = .ok (.aload_n 0, 1) := by decide +kernel
theorem dX7_takesArguments_26 : decode cX7_takesArguments 26 = .ok (.getfield 25, 3) := by decide +kernel
theorem dX7_takesArguments_29 : decode cX7_takesArguments 29 = .ok (.iload_n 3, 1) := by decide +kernel
theorem q_466 : Cond.methodLink "FieldMember" 225 ⟨"FieldMember$Row", "kindAt", "(I)I"⟩ ∈ TT := tt_t (i := 466) (by decide +kernel) (by decide +kernel)
theorem gV_X7_X4_kindAt : GoodIn TT (wsV RX7 225 RX4 yX4_kindAt (ww yX4_kindAt cX4_kindAt 2 (some .int))) := tt_V q_466 q_369 q_370 q_3 q_371
theorem dX7_takesArguments_30 : decode cX7_takesArguments 30 = .ok (.invokevirtual 225, 3) := by decide +kernel
theorem dX7_takesArguments_33 : decode cX7_takesArguments 33 = .ok (.aload_n 0, 1) := by decide +kernel
theorem dX7_takesArguments_34 : decode cX7_takesArguments 34 = .ok (.getfield 25, 3) := by decide +kernel
theorem dX7_takesArguments_37 : decode cX7_takesArguments 37 = .ok (.iload_n 3, 1) := by decide +kernel
theorem q_467 : Cond.methodLink "FieldMember" 222 ⟨"FieldMember$Row", "dimsAt", "(I)I"⟩ ∈ TT := tt_t (i := 467) (by decide +kernel) (by decide +kernel)
theorem gV_X7_X4_dimsAt : GoodIn TT (wsV RX7 222 RX4 yX4_dimsAt (ww yX4_dimsAt cX4_dimsAt 2 (some .int))) := tt_V q_467 q_373 q_374 q_3 q_375
theorem dX7_takesArguments_38 : decode cX7_takesArguments 38 = .ok (.invokevirtual 222, 3) := by decide +kernel
theorem dX7_takesArguments_41 : decode cX7_takesArguments 41 = .ok (.aload_n 1, 1) := by decide +kernel
theorem dX7_takesArguments_42 : decode cX7_takesArguments 42 = .ok (.iload_n 3, 1) := by decide +kernel
theorem dX7_takesArguments_43 : decode cX7_takesArguments 43 = .ok (.iload_n 2, 1) := by decide +kernel
theorem q_468 : Cond.methodLink "FieldMember" 323 ⟨"FieldMember$Member", "kindAt", "(IZ)I"⟩ ∈ TT := tt_t (i := 468) (by decide +kernel) (by decide +kernel)
theorem q_471 : Cond.code ⟨"FieldMember$Member", "kindAt", "(IZ)I"⟩ prog_5_method_3_code 3 (some .int) ∈ TT := tt_t (i := 471) (by decide +kernel) (by decide +kernel)
theorem q_469 : Cond.instanceMethod ⟨"FieldMember$Member", "kindAt", "(IZ)I"⟩ ∈ TT := tt_t (i := 469) (by decide +kernel) (by decide +kernel)
theorem q_470 : Cond.selects "FieldMember$Member" ⟨"FieldMember$Member", "kindAt", "(IZ)I"⟩ ⟨"FieldMember$Member", "kindAt", "(IZ)I"⟩ ∈ TT := tt_t (i := 470) (by decide +kernel) (by decide +kernel)
theorem gV_X7_X3_kindAt : GoodIn TT (wsV RX7 323 RX3 yX3_kindAt (ww yX3_kindAt cX3_kindAt 3 (some .int))) := tt_V q_468 q_469 q_470 q_19 q_471
theorem hdV_X3_kindAt : yX3_kindAt.cls = RX3 ∧ yX3_kindAt.cls ≠ "java/lang/invoke/MethodHandle" ∧ yX3_kindAt.cls ≠ "java/lang/invoke/VarHandle" ∧ (parseMethodDescriptor yX3_kindAt.desc).map (fun d => d.parameters.length) = some 2 := by decide +kernel
theorem dX7_takesArguments_44 : decode cX7_takesArguments 44 = .ok (.invokevirtual 323, 3) := by decide +kernel
theorem dX7_takesArguments_47 : decode cX7_takesArguments 47 = .ok (.aload_n 1, 1) := by decide +kernel
theorem dX7_takesArguments_48 : decode cX7_takesArguments 48 = .ok (.iload_n 3, 1) := by decide +kernel
theorem dX7_takesArguments_49 : decode cX7_takesArguments 49 = .ok (.iload_n 2, 1) := by decide +kernel
theorem q_477 : Cond.methodLink "FieldMember" 325 ⟨"FieldMember$Member", "dimsAt", "(IZ)I"⟩ ∈ TT := tt_t (i := 477) (by decide +kernel) (by decide +kernel)
theorem q_480 : Cond.code ⟨"FieldMember$Member", "dimsAt", "(IZ)I"⟩ prog_5_method_4_code 3 (some .int) ∈ TT := tt_t (i := 480) (by decide +kernel) (by decide +kernel)
theorem q_478 : Cond.instanceMethod ⟨"FieldMember$Member", "dimsAt", "(IZ)I"⟩ ∈ TT := tt_t (i := 478) (by decide +kernel) (by decide +kernel)
theorem q_479 : Cond.selects "FieldMember$Member" ⟨"FieldMember$Member", "dimsAt", "(IZ)I"⟩ ⟨"FieldMember$Member", "dimsAt", "(IZ)I"⟩ ∈ TT := tt_t (i := 479) (by decide +kernel) (by decide +kernel)
theorem gV_X7_X3_dimsAt : GoodIn TT (wsV RX7 325 RX3 yX3_dimsAt (ww yX3_dimsAt cX3_dimsAt 3 (some .int))) := tt_V q_477 q_478 q_479 q_19 q_480
theorem hdV_X3_dimsAt : yX3_dimsAt.cls = RX3 ∧ yX3_dimsAt.cls ≠ "java/lang/invoke/MethodHandle" ∧ yX3_dimsAt.cls ≠ "java/lang/invoke/VarHandle" ∧ (parseMethodDescriptor yX3_dimsAt.desc).map (fun d => d.parameters.length) = some 2 := by decide +kernel
theorem dX7_takesArguments_50 : decode cX7_takesArguments 50 = .ok (.invokevirtual 325, 3) := by decide +kernel
theorem q_482 : Cond.methodLink "FieldMember" 327 ⟨"FieldMember", "fits", "(IIII)Z"⟩ ∈ TT := tt_t (i := 482) (by decide +kernel) (by decide +kernel)
theorem q_485 : Cond.code ⟨"FieldMember", "fits", "(IIII)Z"⟩ prog_1_method_53_code 5 (some .boolean) ∈ TT := tt_t (i := 485) (by decide +kernel) (by decide +kernel)
theorem q_484 : Cond.instanceMethod ⟨"FieldMember", "fits", "(IIII)Z"⟩ ∈ TT := tt_t (i := 484) (by decide +kernel) (by decide +kernel)
theorem qs_23 : Cond.selects "FieldMember" ⟨"FieldMember", "fits", "(IIII)Z"⟩ ⟨"FieldMember", "fits", "(IIII)Z"⟩ ∈ TT := tt_s (i := 23) (by decide +kernel) (by decide +kernel)
theorem gV_X7_X7_fits : GoodIn TT (wsV RX7 327 RX7 yX7_fits (ww yX7_fits cX7_fits 5 (some .boolean))) := tt_V q_482 q_484 qs_23 q_1 q_485
theorem hdV_X7_fits : yX7_fits.cls = RX7 ∧ yX7_fits.cls ≠ "java/lang/invoke/MethodHandle" ∧ yX7_fits.cls ≠ "java/lang/invoke/VarHandle" ∧ (parseMethodDescriptor yX7_fits.desc).map (fun d => d.parameters.length) = some 4 := by decide +kernel
theorem dX7_takesArguments_53 : decode cX7_takesArguments 53 = .ok (.invokevirtual 327, 3) := by decide +kernel
theorem dX7_takesArguments_56 : decode cX7_takesArguments 56 = .ok (.ifCond .ne 5, 3) := by decide +kernel
theorem dX7_takesArguments_61 : decode cX7_takesArguments 61 = .ok (.iinc 3 1, 3) := by decide +kernel
theorem dX7_takesArguments_64 : decode cX7_takesArguments 64 = .ok (.goto (-51), 3) := by decide +kernel
theorem dX7_takesArguments_59 : decode cX7_takesArguments 59 = .ok (.iconst 0, 1) := by decide +kernel
theorem dX7_takesArguments_60 : decode cX7_takesArguments 60 = .ok (.ireturn, 1) := by decide +kernel
theorem dX7_takesArguments_9 : decode cX7_takesArguments 9 = .ok (.iconst 0, 1) := by decide +kernel
theorem dX7_takesArguments_10 : decode cX7_takesArguments 10 = .ok (.ireturn, 1) := by decide +kernel
theorem dX7_fitsPlaceByPlace_0 : decode cX7_fitsPlaceByPlace 0 = .ok (.aload_n 0, 1) := by decide +kernel
theorem dX7_fitsPlaceByPlace_1 : decode cX7_fitsPlaceByPlace 1 = .ok (.getfield 25, 3) := by decide +kernel
theorem dX7_fitsPlaceByPlace_4 : decode cX7_fitsPlaceByPlace 4 = .ok (.getfield 212, 3) := by decide +kernel
theorem dX7_fitsPlaceByPlace_7 : decode cX7_fitsPlaceByPlace 7 = .ok (.aload_n 1, 1) := by decide +kernel
theorem dX7_fitsPlaceByPlace_8 : decode cX7_fitsPlaceByPlace 8 = .ok (.getfield 171, 3) := by decide +kernel
theorem dX7_fitsPlaceByPlace_11 : decode cX7_fitsPlaceByPlace 11 = .ok (.getfield 212, 3) := by decide +kernel
theorem dX7_fitsPlaceByPlace_14 : decode cX7_fitsPlaceByPlace 14 = .ok (.aload_n 2, 1) := by decide +kernel
theorem dX7_fitsPlaceByPlace_15 : decode cX7_fitsPlaceByPlace 15 = .ok (.getfield 171, 3) := by decide +kernel
theorem dX7_fitsPlaceByPlace_18 : decode cX7_fitsPlaceByPlace 18 = .ok (.getfield 212, 3) := by decide +kernel
theorem q_505 : Cond.methodLink "FieldMember" 338 ⟨"java/lang/Math", "max", "(II)I"⟩ ∈ TT := tt_t (i := 505) (by decide +kernel) (by decide +kernel)
theorem q_506 : Cond.static ⟨"java/lang/Math", "max", "(II)I"⟩ ∈ TT := tt_t (i := 506) (by decide +kernel) (by decide +kernel)
theorem q_20 : Cond.initialized "java/lang/Math" ∈ TT := tt_t (i := 20) (by decide +kernel) (by decide +kernel)
theorem q_507 : Cond.code ⟨"java/lang/Math", "max", "(II)I"⟩ prog_18_method_65_code 2 (some .int) ∈ TT := tt_t (i := 507) (by decide +kernel) (by decide +kernel)
theorem dX7_fitsPlaceByPlace_21 : decode cX7_fitsPlaceByPlace 21 = .ok (.invokestatic 338, 3) := by decide +kernel
theorem dX7_fitsPlaceByPlace_24 : decode cX7_fitsPlaceByPlace 24 = .ok (.invokestatic 338, 3) := by decide +kernel
theorem dX7_fitsPlaceByPlace_27 : decode cX7_fitsPlaceByPlace 27 = .ok (.istore 4, 2) := by decide +kernel
theorem dX7_fitsPlaceByPlace_29 : decode cX7_fitsPlaceByPlace 29 = .ok (.iconst 0, 1) := by decide +kernel
theorem dX7_fitsPlaceByPlace_30 : decode cX7_fitsPlaceByPlace 30 = .ok (.istore 5, 2) := by decide +kernel
theorem dX7_fitsPlaceByPlace_32 : decode cX7_fitsPlaceByPlace 32 = .ok (.iload 5, 2) := by decide +kernel
theorem dX7_fitsPlaceByPlace_34 : decode cX7_fitsPlaceByPlace 34 = .ok (.iload 4, 2) := by decide +kernel
theorem dX7_fitsPlaceByPlace_36 : decode cX7_fitsPlaceByPlace 36 = .ok (.if_icmp .ge 46, 3) := by decide +kernel
theorem dX7_fitsPlaceByPlace_82 : decode cX7_fitsPlaceByPlace 82 = .ok (.iconst 1, 1) := by decide +kernel
theorem dX7_fitsPlaceByPlace_83 : decode cX7_fitsPlaceByPlace 83 = .ok (.ireturn, 1) := by decide +kernel
theorem dX7_fitsPlaceByPlace_39 : decode cX7_fitsPlaceByPlace 39 = .ok (.aload_n 0, 1) := by decide +kernel
theorem dX7_fitsPlaceByPlace_40 : decode cX7_fitsPlaceByPlace 40 = .ok (.aload_n 1, 1) := by decide +kernel
theorem dX7_fitsPlaceByPlace_41 : decode cX7_fitsPlaceByPlace 41 = .ok (.iload 5, 2) := by decide +kernel
theorem dX7_fitsPlaceByPlace_43 : decode cX7_fitsPlaceByPlace 43 = .ok (.iload_n 3, 1) := by decide +kernel
theorem dX7_fitsPlaceByPlace_44 : decode cX7_fitsPlaceByPlace 44 = .ok (.invokevirtual 323, 3) := by decide +kernel
theorem dX7_fitsPlaceByPlace_47 : decode cX7_fitsPlaceByPlace 47 = .ok (.aload_n 1, 1) := by decide +kernel
theorem dX7_fitsPlaceByPlace_48 : decode cX7_fitsPlaceByPlace 48 = .ok (.iload 5, 2) := by decide +kernel
theorem dX7_fitsPlaceByPlace_50 : decode cX7_fitsPlaceByPlace 50 = .ok (.iload_n 3, 1) := by decide +kernel
theorem dX7_fitsPlaceByPlace_51 : decode cX7_fitsPlaceByPlace 51 = .ok (.invokevirtual 325, 3) := by decide +kernel
theorem dX7_fitsPlaceByPlace_54 : decode cX7_fitsPlaceByPlace 54 = .ok (.aload_n 2, 1) := by decide +kernel
theorem dX7_fitsPlaceByPlace_55 : decode cX7_fitsPlaceByPlace 55 = .ok (.iload 5, 2) := by decide +kernel
theorem dX7_fitsPlaceByPlace_57 : decode cX7_fitsPlaceByPlace 57 = .ok (.iload_n 3, 1) := by decide +kernel
theorem dX7_fitsPlaceByPlace_58 : decode cX7_fitsPlaceByPlace 58 = .ok (.invokevirtual 323, 3) := by decide +kernel
theorem dX7_fitsPlaceByPlace_61 : decode cX7_fitsPlaceByPlace 61 = .ok (.aload_n 2, 1) := by decide +kernel
theorem dX7_fitsPlaceByPlace_62 : decode cX7_fitsPlaceByPlace 62 = .ok (.iload 5, 2) := by decide +kernel
theorem dX7_fitsPlaceByPlace_64 : decode cX7_fitsPlaceByPlace 64 = .ok (.iload_n 3, 1) := by decide +kernel
theorem dX7_fitsPlaceByPlace_65 : decode cX7_fitsPlaceByPlace 65 = .ok (.invokevirtual 325, 3) := by decide +kernel
theorem dX7_fitsPlaceByPlace_68 : decode cX7_fitsPlaceByPlace 68 = .ok (.invokevirtual 327, 3) := by decide +kernel
theorem dX7_fitsPlaceByPlace_71 : decode cX7_fitsPlaceByPlace 71 = .ok (.ifCond .ne 5, 3) := by decide +kernel
theorem dX7_fitsPlaceByPlace_76 : decode cX7_fitsPlaceByPlace 76 = .ok (.iinc 5 1, 3) := by decide +kernel
theorem dX7_fitsPlaceByPlace_79 : decode cX7_fitsPlaceByPlace 79 = .ok (.goto (-47), 3) := by decide +kernel
theorem dX7_fitsPlaceByPlace_74 : decode cX7_fitsPlaceByPlace 74 = .ok (.iconst 0, 1) := by decide +kernel
theorem dX7_fitsPlaceByPlace_75 : decode cX7_fitsPlaceByPlace 75 = .ok (.ireturn, 1) := by decide +kernel
theorem dX7_isNearest_0 : decode cX7_isNearest 0 = .ok (.iconst 0, 1) := by decide +kernel
theorem dX7_isNearest_1 : decode cX7_isNearest 1 = .ok (.istore_n 3, 1) := by decide +kernel
theorem dX7_isNearest_2 : decode cX7_isNearest 2 = .ok (.iload_n 3, 1) := by decide +kernel
theorem dX7_isNearest_3 : decode cX7_isNearest 3 = .ok (.aload_n 0, 1) := by decide +kernel
theorem dX7_isNearest_4 : decode cX7_isNearest 4 = .ok (.getfield 61, 3) := by decide +kernel
theorem dX7_isNearest_7 : decode cX7_isNearest 7 = .ok (.if_icmp .ge 54, 3) := by decide +kernel
theorem dX7_isNearest_61 : decode cX7_isNearest 61 = .ok (.iconst 1, 1) := by decide +kernel
theorem dX7_isNearest_62 : decode cX7_isNearest 62 = .ok (.ireturn, 1) := by decide +kernel
theorem dX7_isNearest_10 : decode cX7_isNearest 10 = .ok (.aload_n 0, 1) := by decide +kernel
theorem q_83 : Cond.fieldLink "FieldMember" 40 "FieldMember" "fitting" "[Z" ∈ TT := tt_t (i := 83) (by decide +kernel) (by decide +kernel)
theorem dX7_isNearest_11 : decode cX7_isNearest 11 = .ok (.getfield 40, 3) := by decide +kernel
theorem dX7_isNearest_14 : decode cX7_isNearest 14 = .ok (.iload_n 3, 1) := by decide +kernel
theorem dX7_isNearest_15 : decode cX7_isNearest 15 = .ok (.baload, 1) := by decide +kernel
theorem dX7_isNearest_16 : decode cX7_isNearest 16 = .ok (.ifCond .eq 39, 3) := by decide +kernel
theorem dX7_isNearest_55 : decode cX7_isNearest 55 = .ok (.iinc 3 1, 3) := by decide +kernel
theorem dX7_isNearest_58 : decode cX7_isNearest 58 = .ok (.goto (-56), 3) := by decide +kernel
theorem dX7_isNearest_19 : decode cX7_isNearest 19 = .ok (.aload_n 0, 1) := by decide +kernel
theorem dX7_isNearest_20 : decode cX7_isNearest 20 = .ok (.getfield 18, 3) := by decide +kernel
theorem dX7_isNearest_23 : decode cX7_isNearest 23 = .ok (.iload_n 3, 1) := by decide +kernel
theorem dX7_isNearest_24 : decode cX7_isNearest 24 = .ok (.aaload, 1) := by decide +kernel
theorem dX7_isNearest_25 : decode cX7_isNearest 25 = .ok (.astore 5, 2) := by decide +kernel
theorem dX7_isNearest_27 : decode cX7_isNearest 27 = .ok (.aload 5, 2) := by decide +kernel
theorem dX7_isNearest_29 : decode cX7_isNearest 29 = .ok (.instanceof 160, 3) := by decide +kernel
theorem dX7_isNearest_32 : decode cX7_isNearest 32 = .ok (.ifCond .eq 23, 3) := by decide +kernel
theorem dX7_isNearest_35 : decode cX7_isNearest 35 = .ok (.aload 5, 2) := by decide +kernel
theorem dX7_isNearest_37 : decode cX7_isNearest 37 = .ok (.checkcast 160, 3) := by decide +kernel
theorem dX7_isNearest_40 : decode cX7_isNearest 40 = .ok (.astore 4, 2) := by decide +kernel
theorem dX7_isNearest_42 : decode cX7_isNearest 42 = .ok (.aload_n 0, 1) := by decide +kernel
theorem dX7_isNearest_43 : decode cX7_isNearest 43 = .ok (.aload_n 1, 1) := by decide +kernel
theorem dX7_isNearest_44 : decode cX7_isNearest 44 = .ok (.aload 4, 2) := by decide +kernel
theorem dX7_isNearest_46 : decode cX7_isNearest 46 = .ok (.iload_n 2, 1) := by decide +kernel
theorem q_501 : Cond.methodLink "FieldMember" 334 ⟨"FieldMember", "fitsPlaceByPlace", "(LFieldMember$Member;LFieldMember$Member;Z)Z"⟩ ∈ TT := tt_t (i := 501) (by decide +kernel) (by decide +kernel)
theorem q_504 : Cond.code ⟨"FieldMember", "fitsPlaceByPlace", "(LFieldMember$Member;LFieldMember$Member;Z)Z"⟩ prog_1_method_52_code 6 (some .boolean) ∈ TT := tt_t (i := 504) (by decide +kernel) (by decide +kernel)
theorem q_503 : Cond.instanceMethod ⟨"FieldMember", "fitsPlaceByPlace", "(LFieldMember$Member;LFieldMember$Member;Z)Z"⟩ ∈ TT := tt_t (i := 503) (by decide +kernel) (by decide +kernel)
theorem qs_27 : Cond.selects "FieldMember" ⟨"FieldMember", "fitsPlaceByPlace", "(LFieldMember$Member;LFieldMember$Member;Z)Z"⟩ ⟨"FieldMember", "fitsPlaceByPlace", "(LFieldMember$Member;LFieldMember$Member;Z)Z"⟩ ∈ TT := tt_s (i := 27) (by decide +kernel) (by decide +kernel)
theorem gV_X7_X7_fitsPlaceByPlace : GoodIn TT (wsV RX7 334 RX7 yX7_fitsPlaceByPlace (ww yX7_fitsPlaceByPlace cX7_fitsPlaceByPlace 6 (some .boolean))) := tt_V q_501 q_503 qs_27 q_1 q_504
theorem hdV_X7_fitsPlaceByPlace : yX7_fitsPlaceByPlace.cls = RX7 ∧ yX7_fitsPlaceByPlace.cls ≠ "java/lang/invoke/MethodHandle" ∧ yX7_fitsPlaceByPlace.cls ≠ "java/lang/invoke/VarHandle" ∧ (parseMethodDescriptor yX7_fitsPlaceByPlace.desc).map (fun d => d.parameters.length) = some 3 := by decide +kernel
theorem dX7_isNearest_47 : decode cX7_isNearest 47 = .ok (.invokevirtual 334, 3) := by decide +kernel
theorem dX7_isNearest_50 : decode cX7_isNearest 50 = .ok (.ifCond .ne 5, 3) := by decide +kernel
theorem dX7_isNearest_53 : decode cX7_isNearest 53 = .ok (.iconst 0, 1) := by decide +kernel
theorem dX7_isNearest_54 : decode cX7_isNearest 54 = .ok (.ireturn, 1) := by decide +kernel
theorem dX7_nearestFitting_0 : decode cX7_nearestFitting 0 = .ok (.bipush (-2), 2) := by decide +kernel
theorem dX7_nearestFitting_2 : decode cX7_nearestFitting 2 = .ok (.istore_n 2, 1) := by decide +kernel
theorem dX7_nearestFitting_3 : decode cX7_nearestFitting 3 = .ok (.iconst 0, 1) := by decide +kernel
theorem dX7_nearestFitting_4 : decode cX7_nearestFitting 4 = .ok (.istore_n 3, 1) := by decide +kernel
theorem dX7_nearestFitting_5 : decode cX7_nearestFitting 5 = .ok (.iload_n 3, 1) := by decide +kernel
theorem dX7_nearestFitting_6 : decode cX7_nearestFitting 6 = .ok (.aload_n 0, 1) := by decide +kernel
theorem dX7_nearestFitting_7 : decode cX7_nearestFitting 7 = .ok (.getfield 61, 3) := by decide +kernel
theorem dX7_nearestFitting_10 : decode cX7_nearestFitting 10 = .ok (.if_icmp .ge 62, 3) := by decide +kernel
theorem dX7_nearestFitting_72 : decode cX7_nearestFitting 72 = .ok (.iload_n 2, 1) := by decide +kernel
theorem dX7_nearestFitting_73 : decode cX7_nearestFitting 73 = .ok (.ireturn, 1) := by decide +kernel
theorem dX7_nearestFitting_13 : decode cX7_nearestFitting 13 = .ok (.aload_n 0, 1) := by decide +kernel
theorem dX7_nearestFitting_14 : decode cX7_nearestFitting 14 = .ok (.getfield 40, 3) := by decide +kernel
theorem dX7_nearestFitting_17 : decode cX7_nearestFitting 17 = .ok (.iload_n 3, 1) := by decide +kernel
theorem dX7_nearestFitting_18 : decode cX7_nearestFitting 18 = .ok (.baload, 1) := by decide +kernel
theorem dX7_nearestFitting_19 : decode cX7_nearestFitting 19 = .ok (.ifCond .eq 47, 3) := by decide +kernel
theorem dX7_nearestFitting_66 : decode cX7_nearestFitting 66 = .ok (.iinc 3 1, 3) := by decide +kernel
theorem dX7_nearestFitting_69 : decode cX7_nearestFitting 69 = .ok (.goto (-64), 3) := by decide +kernel
theorem dX7_nearestFitting_22 : decode cX7_nearestFitting 22 = .ok (.aload_n 0, 1) := by decide +kernel
theorem dX7_nearestFitting_23 : decode cX7_nearestFitting 23 = .ok (.getfield 18, 3) := by decide +kernel
theorem dX7_nearestFitting_26 : decode cX7_nearestFitting 26 = .ok (.iload_n 3, 1) := by decide +kernel
theorem dX7_nearestFitting_27 : decode cX7_nearestFitting 27 = .ok (.aaload, 1) := by decide +kernel
theorem dX7_nearestFitting_28 : decode cX7_nearestFitting 28 = .ok (.astore 5, 2) := by decide +kernel
theorem dX7_nearestFitting_30 : decode cX7_nearestFitting 30 = .ok (.aload 5, 2) := by decide +kernel
theorem dX7_nearestFitting_32 : decode cX7_nearestFitting 32 = .ok (.instanceof 160, 3) := by decide +kernel
theorem dX7_nearestFitting_35 : decode cX7_nearestFitting 35 = .ok (.ifCond .eq 31, 3) := by decide +kernel
theorem dX7_nearestFitting_38 : decode cX7_nearestFitting 38 = .ok (.aload 5, 2) := by decide +kernel
theorem dX7_nearestFitting_40 : decode cX7_nearestFitting 40 = .ok (.checkcast 160, 3) := by decide +kernel
theorem dX7_nearestFitting_43 : decode cX7_nearestFitting 43 = .ok (.astore 4, 2) := by decide +kernel
theorem dX7_nearestFitting_45 : decode cX7_nearestFitting 45 = .ok (.aload_n 0, 1) := by decide +kernel
theorem dX7_nearestFitting_46 : decode cX7_nearestFitting 46 = .ok (.aload 4, 2) := by decide +kernel
theorem dX7_nearestFitting_48 : decode cX7_nearestFitting 48 = .ok (.iload_n 1, 1) := by decide +kernel
theorem q_497 : Cond.methodLink "FieldMember" 331 ⟨"FieldMember", "isNearest", "(LFieldMember$Member;Z)Z"⟩ ∈ TT := tt_t (i := 497) (by decide +kernel) (by decide +kernel)
theorem q_500 : Cond.code ⟨"FieldMember", "isNearest", "(LFieldMember$Member;Z)Z"⟩ prog_1_method_51_code 6 (some .boolean) ∈ TT := tt_t (i := 500) (by decide +kernel) (by decide +kernel)
theorem q_499 : Cond.instanceMethod ⟨"FieldMember", "isNearest", "(LFieldMember$Member;Z)Z"⟩ ∈ TT := tt_t (i := 499) (by decide +kernel) (by decide +kernel)
theorem qs_26 : Cond.selects "FieldMember" ⟨"FieldMember", "isNearest", "(LFieldMember$Member;Z)Z"⟩ ⟨"FieldMember", "isNearest", "(LFieldMember$Member;Z)Z"⟩ ∈ TT := tt_s (i := 26) (by decide +kernel) (by decide +kernel)
theorem gV_X7_X7_isNearest : GoodIn TT (wsV RX7 331 RX7 yX7_isNearest (ww yX7_isNearest cX7_isNearest 6 (some .boolean))) := tt_V q_497 q_499 qs_26 q_1 q_500
theorem hdV_X7_isNearest : yX7_isNearest.cls = RX7 ∧ yX7_isNearest.cls ≠ "java/lang/invoke/MethodHandle" ∧ yX7_isNearest.cls ≠ "java/lang/invoke/VarHandle" ∧ (parseMethodDescriptor yX7_isNearest.desc).map (fun d => d.parameters.length) = some 2 := by decide +kernel
theorem dX7_nearestFitting_49 : decode cX7_nearestFitting 49 = .ok (.invokevirtual 331, 3) := by decide +kernel
theorem dX7_nearestFitting_52 : decode cX7_nearestFitting 52 = .ok (.ifCond .eq 14, 3) := by decide +kernel
theorem dX7_nearestFitting_55 : decode cX7_nearestFitting 55 = .ok (.iload_n 2, 1) := by decide +kernel
theorem dX7_nearestFitting_56 : decode cX7_nearestFitting 56 = .ok (.bipush (-2), 2) := by decide +kernel
theorem dX7_nearestFitting_58 : decode cX7_nearestFitting 58 = .ok (.if_icmp .eq 6, 3) := by decide +kernel
theorem dX7_nearestFitting_64 : decode cX7_nearestFitting 64 = .ok (.iload_n 3, 1) := by decide +kernel
theorem dX7_nearestFitting_65 : decode cX7_nearestFitting 65 = .ok (.istore_n 2, 1) := by decide +kernel
theorem dX7_nearestFitting_61 : decode cX7_nearestFitting 61 = .ok (.bipush (-2), 2) := by decide +kernel
theorem dX7_nearestFitting_63 : decode cX7_nearestFitting 63 = .ok (.ireturn, 1) := by decide +kernel
theorem dX7_mayFill_0 : decode cX7_mayFill 0 = .ok (.aload_n 0, 1) := by decide +kernel
theorem dX7_mayFill_1 : decode cX7_mayFill 1 = .ok (.getfield 12, 3) := by decide +kernel
theorem dX7_mayFill_4 : decode cX7_mayFill 4 = .ok (.aload_n 1, 1) := by decide +kernel
theorem dX7_mayFill_5 : decode cX7_mayFill 5 = .ok (.getfield 269, 3) := by decide +kernel
theorem dX7_mayFill_8 : decode cX7_mayFill 8 = .ok (.invokevirtual 54, 3) := by decide +kernel
theorem dX7_mayFill_11 : decode cX7_mayFill 11 = .ok (.ifCond .eq 11, 3) := by decide +kernel
theorem dX7_mayFill_22 : decode cX7_mayFill 22 = .ok (.aload_n 1, 1) := by decide +kernel
theorem q_316 : Cond.fieldLink "FieldMember" 215 "FieldMember$Member" "body" "Z" ∈ TT := tt_t (i := 316) (by decide +kernel) (by decide +kernel)
theorem dX7_mayFill_23 : decode cX7_mayFill 23 = .ok (.getfield 215, 3) := by decide +kernel
theorem dX7_mayFill_26 : decode cX7_mayFill 26 = .ok (.ifCond .ne 13, 3) := by decide +kernel
theorem dX7_mayFill_39 : decode cX7_mayFill 39 = .ok (.aload_n 1, 1) := by decide +kernel
theorem dX7_mayFill_40 : decode cX7_mayFill 40 = .ok (.bipush 12, 2) := by decide +kernel
theorem dX7_mayFill_42 : decode cX7_mayFill 42 = .ok (.invokevirtual 281, 3) := by decide +kernel
theorem dX7_mayFill_45 : decode cX7_mayFill 45 = .ok (.ifCond .ne 7, 3) := by decide +kernel
theorem dX7_mayFill_52 : decode cX7_mayFill 52 = .ok (.iconst 0, 1) := by decide +kernel
theorem dX7_mayFill_53 : decode cX7_mayFill 53 = .ok (.ireturn, 1) := by decide +kernel
theorem dX7_mayFill_48 : decode cX7_mayFill 48 = .ok (.iconst 1, 1) := by decide +kernel
theorem dX7_mayFill_49 : decode cX7_mayFill 49 = .ok (.goto 4, 3) := by decide +kernel
theorem dX7_mayFill_29 : decode cX7_mayFill 29 = .ok (.aload_n 1, 1) := by decide +kernel
theorem dX7_mayFill_30 : decode cX7_mayFill 30 = .ok (.sipush 256, 3) := by decide +kernel
theorem dX7_mayFill_33 : decode cX7_mayFill 33 = .ok (.invokevirtual 281, 3) := by decide +kernel
theorem dX7_mayFill_36 : decode cX7_mayFill 36 = .ok (.ifCond .eq 16, 3) := by decide +kernel
theorem dX7_mayFill_14 : decode cX7_mayFill 14 = .ok (.aload_n 1, 1) := by decide +kernel
theorem dX7_mayFill_15 : decode cX7_mayFill 15 = .ok (.sipush 1024, 3) := by decide +kernel
theorem dX7_mayFill_18 : decode cX7_mayFill 18 = .ok (.invokevirtual 281, 3) := by decide +kernel
theorem dX7_mayFill_21 : decode cX7_mayFill 21 = .ok (.ireturn, 1) := by decide +kernel
theorem dX7_isLacking_0 : decode cX7_isLacking 0 = .ok (.aload_n 2, 1) := by decide +kernel
theorem dX7_isLacking_1 : decode cX7_isLacking 1 = .ok (.sipush 128, 3) := by decide +kernel
theorem dX7_isLacking_4 : decode cX7_isLacking 4 = .ok (.invokevirtual 281, 3) := by decide +kernel
theorem dX7_isLacking_7 : decode cX7_isLacking 7 = .ok (.ifCond .eq 18, 3) := by decide +kernel
theorem dX7_isLacking_25 : decode cX7_isLacking 25 = .ok (.iconst 0, 1) := by decide +kernel
theorem dX7_isLacking_26 : decode cX7_isLacking 26 = .ok (.ireturn, 1) := by decide +kernel
theorem dX7_isLacking_10 : decode cX7_isLacking 10 = .ok (.aload_n 0, 1) := by decide +kernel
theorem dX7_isLacking_11 : decode cX7_isLacking 11 = .ok (.getfield 12, 3) := by decide +kernel
theorem dX7_isLacking_14 : decode cX7_isLacking 14 = .ok (.iload_n 1, 1) := by decide +kernel
theorem dX7_isLacking_15 : decode cX7_isLacking 15 = .ok (.aload_n 2, 1) := by decide +kernel
theorem dX7_isLacking_16 : decode cX7_isLacking 16 = .ok (.getfield 269, 3) := by decide +kernel
theorem dX7_isLacking_19 : decode cX7_isLacking 19 = .ok (.invokevirtual 72, 3) := by decide +kernel
theorem dX7_isLacking_22 : decode cX7_isLacking 22 = .ok (.ifCond .ne 5, 3) := by decide +kernel
theorem dX7_isLacking_27 : decode cX7_isLacking 27 = .ok (.iconst 0, 1) := by decide +kernel
theorem dX7_isLacking_28 : decode cX7_isLacking 28 = .ok (.istore_n 3, 1) := by decide +kernel
theorem dX7_isLacking_29 : decode cX7_isLacking 29 = .ok (.iload_n 3, 1) := by decide +kernel
theorem dX7_isLacking_30 : decode cX7_isLacking 30 = .ok (.aload_n 0, 1) := by decide +kernel
theorem dX7_isLacking_31 : decode cX7_isLacking 31 = .ok (.getfield 61, 3) := by decide +kernel
theorem dX7_isLacking_34 : decode cX7_isLacking 34 = .ok (.if_icmp .ge 68, 3) := by decide +kernel
theorem dX7_isLacking_102 : decode cX7_isLacking 102 = .ok (.iconst 1, 1) := by decide +kernel
theorem dX7_isLacking_103 : decode cX7_isLacking 103 = .ok (.ireturn, 1) := by decide +kernel
theorem dX7_isLacking_37 : decode cX7_isLacking 37 = .ok (.aload_n 0, 1) := by decide +kernel
theorem dX7_isLacking_38 : decode cX7_isLacking 38 = .ok (.getfield 18, 3) := by decide +kernel
theorem dX7_isLacking_41 : decode cX7_isLacking 41 = .ok (.iload_n 3, 1) := by decide +kernel
theorem dX7_isLacking_42 : decode cX7_isLacking 42 = .ok (.aaload, 1) := by decide +kernel
theorem dX7_isLacking_43 : decode cX7_isLacking 43 = .ok (.astore 5, 2) := by decide +kernel
theorem dX7_isLacking_45 : decode cX7_isLacking 45 = .ok (.aload 5, 2) := by decide +kernel
theorem dX7_isLacking_47 : decode cX7_isLacking 47 = .ok (.instanceof 160, 3) := by decide +kernel
theorem dX7_isLacking_50 : decode cX7_isLacking 50 = .ok (.ifCond .eq 46, 3) := by decide +kernel
theorem dX7_isLacking_96 : decode cX7_isLacking 96 = .ok (.iinc 3 1, 3) := by decide +kernel
theorem dX7_isLacking_99 : decode cX7_isLacking 99 = .ok (.goto (-70), 3) := by decide +kernel
theorem dX7_isLacking_53 : decode cX7_isLacking 53 = .ok (.aload 5, 2) := by decide +kernel
theorem dX7_isLacking_55 : decode cX7_isLacking 55 = .ok (.checkcast 160, 3) := by decide +kernel
theorem dX7_isLacking_58 : decode cX7_isLacking 58 = .ok (.astore 4, 2) := by decide +kernel
theorem dX7_isLacking_60 : decode cX7_isLacking 60 = .ok (.aload 4, 2) := by decide +kernel
theorem dX7_isLacking_62 : decode cX7_isLacking 62 = .ok (.aload_n 2, 1) := by decide +kernel
theorem dX7_isLacking_63 : decode cX7_isLacking 63 = .ok (.invokevirtual 270, 3) := by decide +kernel
theorem dX7_isLacking_66 : decode cX7_isLacking 66 = .ok (.ifCond .eq 30, 3) := by decide +kernel
theorem dX7_isLacking_69 : decode cX7_isLacking 69 = .ok (.aload_n 0, 1) := by decide +kernel
theorem dX7_isLacking_70 : decode cX7_isLacking 70 = .ok (.getfield 12, 3) := by decide +kernel
theorem dX7_isLacking_73 : decode cX7_isLacking 73 = .ok (.iload_n 1, 1) := by decide +kernel
theorem dX7_isLacking_74 : decode cX7_isLacking 74 = .ok (.aload 4, 2) := by decide +kernel
theorem dX7_isLacking_76 : decode cX7_isLacking 76 = .ok (.getfield 269, 3) := by decide +kernel
theorem dX7_isLacking_79 : decode cX7_isLacking 79 = .ok (.invokevirtual 72, 3) := by decide +kernel
theorem dX7_isLacking_82 : decode cX7_isLacking 82 = .ok (.ifCond .eq 14, 3) := by decide +kernel
theorem dX7_isLacking_85 : decode cX7_isLacking 85 = .ok (.aload_n 0, 1) := by decide +kernel
theorem dX7_isLacking_86 : decode cX7_isLacking 86 = .ok (.aload 4, 2) := by decide +kernel
theorem q_528 : Cond.methodLink "FieldMember" 346 ⟨"FieldMember", "mayFill", "(LFieldMember$Member;)Z"⟩ ∈ TT := tt_t (i := 528) (by decide +kernel) (by decide +kernel)
theorem q_531 : Cond.code ⟨"FieldMember", "mayFill", "(LFieldMember$Member;)Z"⟩ prog_1_method_56_code 2 (some .boolean) ∈ TT := tt_t (i := 531) (by decide +kernel) (by decide +kernel)
theorem q_530 : Cond.instanceMethod ⟨"FieldMember", "mayFill", "(LFieldMember$Member;)Z"⟩ ∈ TT := tt_t (i := 530) (by decide +kernel) (by decide +kernel)
theorem qs_29 : Cond.selects "FieldMember" ⟨"FieldMember", "mayFill", "(LFieldMember$Member;)Z"⟩ ⟨"FieldMember", "mayFill", "(LFieldMember$Member;)Z"⟩ ∈ TT := tt_s (i := 29) (by decide +kernel) (by decide +kernel)
theorem gV_X7_X7_mayFill : GoodIn TT (wsV RX7 346 RX7 yX7_mayFill (ww yX7_mayFill cX7_mayFill 2 (some .boolean))) := tt_V q_528 q_530 qs_29 q_1 q_531
theorem hdV_X7_mayFill : yX7_mayFill.cls = RX7 ∧ yX7_mayFill.cls ≠ "java/lang/invoke/MethodHandle" ∧ yX7_mayFill.cls ≠ "java/lang/invoke/VarHandle" ∧ (parseMethodDescriptor yX7_mayFill.desc).map (fun d => d.parameters.length) = some 1 := by decide +kernel
theorem dX7_isLacking_88 : decode cX7_isLacking 88 = .ok (.invokevirtual 346, 3) := by decide +kernel
theorem dX7_isLacking_91 : decode cX7_isLacking 91 = .ok (.ifCond .eq 5, 3) := by decide +kernel
theorem dX7_isLacking_94 : decode cX7_isLacking 94 = .ok (.iconst 0, 1) := by decide +kernel
theorem dX7_isLacking_95 : decode cX7_isLacking 95 = .ok (.ireturn, 1) := by decide +kernel
theorem dX7_lacks_0 : decode cX7_lacks 0 = .ok (.aload_n 0, 1) := by decide +kernel
theorem dX7_lacks_1 : decode cX7_lacks 1 = .ok (.getfield 12, 3) := by decide +kernel
theorem dX7_lacks_4 : decode cX7_lacks 4 = .ok (.iload_n 1, 1) := by decide +kernel
theorem dX7_lacks_5 : decode cX7_lacks 5 = .ok (.invokevirtual 51, 3) := by decide +kernel
theorem dX7_lacks_8 : decode cX7_lacks 8 = .ok (.ifCond .ne 6, 3) := by decide +kernel
theorem dX7_lacks_14 : decode cX7_lacks 14 = .ok (.aload_n 0, 1) := by decide +kernel
theorem dX7_lacks_15 : decode cX7_lacks 15 = .ok (.getfield 12, 3) := by decide +kernel
theorem dX7_lacks_18 : decode cX7_lacks 18 = .ok (.iload_n 1, 1) := by decide +kernel
theorem q_520 : Cond.methodLink "FieldMember" 254 ⟨"FieldMember$Types", "mustLackNothing", "(I)Z"⟩ ∈ TT := tt_t (i := 520) (by decide +kernel) (by decide +kernel)
theorem q_523 : Cond.code ⟨"FieldMember$Types", "mustLackNothing", "(I)Z"⟩ prog_8_method_7_code 2 (some .boolean) ∈ TT := tt_t (i := 523) (by decide +kernel) (by decide +kernel)
theorem q_521 : Cond.instanceMethod ⟨"FieldMember$Types", "mustLackNothing", "(I)Z"⟩ ∈ TT := tt_t (i := 521) (by decide +kernel) (by decide +kernel)
theorem q_522 : Cond.selects "FieldMember$Types" ⟨"FieldMember$Types", "mustLackNothing", "(I)Z"⟩ ⟨"FieldMember$Types", "mustLackNothing", "(I)Z"⟩ ∈ TT := tt_t (i := 522) (by decide +kernel) (by decide +kernel)
theorem gV_X7_X6_mustLackNothing : GoodIn TT (wsV RX7 254 RX6 yX6_mustLackNothing (ww yX6_mustLackNothing cX6_mustLackNothing 2 (some .boolean))) := tt_V q_520 q_521 q_522 q_2 q_523
theorem hdV_X6_mustLackNothing : yX6_mustLackNothing.cls = RX6 ∧ yX6_mustLackNothing.cls ≠ "java/lang/invoke/MethodHandle" ∧ yX6_mustLackNothing.cls ≠ "java/lang/invoke/VarHandle" ∧ (parseMethodDescriptor yX6_mustLackNothing.desc).map (fun d => d.parameters.length) = some 1 := by decide +kernel
theorem dX7_lacks_19 : decode cX7_lacks 19 = .ok (.invokevirtual 254, 3) := by decide +kernel
theorem dX7_lacks_22 : decode cX7_lacks 22 = .ok (.ifCond .ne 5, 3) := by decide +kernel
theorem dX7_lacks_27 : decode cX7_lacks 27 = .ok (.iconst 0, 1) := by decide +kernel
theorem dX7_lacks_28 : decode cX7_lacks 28 = .ok (.istore_n 3, 1) := by decide +kernel
theorem dX7_lacks_29 : decode cX7_lacks 29 = .ok (.iconst 0, 1) := by decide +kernel
theorem dX7_lacks_30 : decode cX7_lacks 30 = .ok (.istore 4, 2) := by decide +kernel
theorem dX7_lacks_32 : decode cX7_lacks 32 = .ok (.iload 4, 2) := by decide +kernel
theorem dX7_lacks_34 : decode cX7_lacks 34 = .ok (.aload_n 0, 1) := by decide +kernel
theorem dX7_lacks_35 : decode cX7_lacks 35 = .ok (.getfield 61, 3) := by decide +kernel
theorem dX7_lacks_38 : decode cX7_lacks 38 = .ok (.if_icmp .ge 54, 3) := by decide +kernel
theorem dX7_lacks_92 : decode cX7_lacks 92 = .ok (.iconst (-1), 1) := by decide +kernel
theorem dX7_lacks_93 : decode cX7_lacks 93 = .ok (.ireturn, 1) := by decide +kernel
theorem dX7_lacks_41 : decode cX7_lacks 41 = .ok (.aload_n 0, 1) := by decide +kernel
theorem dX7_lacks_42 : decode cX7_lacks 42 = .ok (.getfield 18, 3) := by decide +kernel
theorem dX7_lacks_45 : decode cX7_lacks 45 = .ok (.iload 4, 2) := by decide +kernel
theorem dX7_lacks_47 : decode cX7_lacks 47 = .ok (.aaload, 1) := by decide +kernel
theorem dX7_lacks_48 : decode cX7_lacks 48 = .ok (.astore 6, 2) := by decide +kernel
theorem dX7_lacks_50 : decode cX7_lacks 50 = .ok (.aload 6, 2) := by decide +kernel
theorem dX7_lacks_52 : decode cX7_lacks 52 = .ok (.instanceof 160, 3) := by decide +kernel
theorem dX7_lacks_55 : decode cX7_lacks 55 = .ok (.ifCond .eq 31, 3) := by decide +kernel
theorem dX7_lacks_86 : decode cX7_lacks 86 = .ok (.iinc 4 1, 3) := by decide +kernel
theorem dX7_lacks_89 : decode cX7_lacks 89 = .ok (.goto (-57), 3) := by decide +kernel
theorem dX7_lacks_58 : decode cX7_lacks 58 = .ok (.aload 6, 2) := by decide +kernel
theorem dX7_lacks_60 : decode cX7_lacks 60 = .ok (.checkcast 160, 3) := by decide +kernel
theorem dX7_lacks_63 : decode cX7_lacks 63 = .ok (.astore 5, 2) := by decide +kernel
theorem dX7_lacks_65 : decode cX7_lacks 65 = .ok (.aload_n 0, 1) := by decide +kernel
theorem dX7_lacks_66 : decode cX7_lacks 66 = .ok (.iload_n 1, 1) := by decide +kernel
theorem dX7_lacks_67 : decode cX7_lacks 67 = .ok (.aload 5, 2) := by decide +kernel
theorem q_524 : Cond.methodLink "FieldMember" 257 ⟨"FieldMember", "isLacking", "(ILFieldMember$Member;)Z"⟩ ∈ TT := tt_t (i := 524) (by decide +kernel) (by decide +kernel)
theorem q_527 : Cond.code ⟨"FieldMember", "isLacking", "(ILFieldMember$Member;)Z"⟩ prog_1_method_55_code 6 (some .boolean) ∈ TT := tt_t (i := 527) (by decide +kernel) (by decide +kernel)
theorem q_526 : Cond.instanceMethod ⟨"FieldMember", "isLacking", "(ILFieldMember$Member;)Z"⟩ ∈ TT := tt_t (i := 526) (by decide +kernel) (by decide +kernel)
theorem qs_28 : Cond.selects "FieldMember" ⟨"FieldMember", "isLacking", "(ILFieldMember$Member;)Z"⟩ ⟨"FieldMember", "isLacking", "(ILFieldMember$Member;)Z"⟩ ∈ TT := tt_s (i := 28) (by decide +kernel) (by decide +kernel)
theorem gV_X7_X7_isLacking : GoodIn TT (wsV RX7 257 RX7 yX7_isLacking (ww yX7_isLacking cX7_isLacking 6 (some .boolean))) := tt_V q_524 q_526 qs_28 q_1 q_527
theorem hdV_X7_isLacking : yX7_isLacking.cls = RX7 ∧ yX7_isLacking.cls ≠ "java/lang/invoke/MethodHandle" ∧ yX7_isLacking.cls ≠ "java/lang/invoke/VarHandle" ∧ (parseMethodDescriptor yX7_isLacking.desc).map (fun d => d.parameters.length) = some 2 := by decide +kernel
theorem dX7_lacks_69 : decode cX7_lacks 69 = .ok (.invokevirtual 257, 3) := by decide +kernel
theorem dX7_lacks_72 : decode cX7_lacks 72 = .ok (.ifCond .eq 14, 3) := by decide +kernel
theorem dX7_lacks_75 : decode cX7_lacks 75 = .ok (.iload_n 3, 1) := by decide +kernel
theorem dX7_lacks_76 : decode cX7_lacks 76 = .ok (.iload_n 2, 1) := by decide +kernel
theorem dX7_lacks_77 : decode cX7_lacks 77 = .ok (.if_icmp .ne 6, 3) := by decide +kernel
theorem dX7_lacks_83 : decode cX7_lacks 83 = .ok (.iinc 3 1, 3) := by decide +kernel
theorem dX7_lacks_80 : decode cX7_lacks 80 = .ok (.iload 4, 2) := by decide +kernel
theorem dX7_lacks_82 : decode cX7_lacks 82 = .ok (.ireturn, 1) := by decide +kernel
theorem dX7_lacks_25 : decode cX7_lacks 25 = .ok (.iconst (-1), 1) := by decide +kernel
theorem dX7_lacks_26 : decode cX7_lacks 26 = .ok (.ireturn, 1) := by decide +kernel
theorem dX7_lacks_11 : decode cX7_lacks 11 = .ok (.bipush (-11), 2) := by decide +kernel
theorem dX7_lacks_13 : decode cX7_lacks 13 = .ok (.ireturn, 1) := by decide +kernel
set_option maxHeartbeats 4000000 in
set_option maxRecDepth 100000 in
theorem c_isReachedFrom (l : Launch) (D : va_G) (G : Nat → ClassId) (H : Heap) (ca : Nat → Nat) (bg : Value) (ea : Nat → Nat → Nat) (n k w0 : Nat) (σ x : MS) (κ : Nat → Int64) (hP : va_P D vwCl (cF G ca bg (enF ea k) σ x) H) (hE : ∀ e, e < k → va_P D vwCl (eW G (ea e) σ κ e) H) (hI : cI σ x n k w0) (t : Nat) (ht : t < n) (a1 : Nat → Nat) (en1 : Nat) (me1 : Int32) (hQ1 : va_P D vwCl (mbW G a1 σ en1 me1) H) (ho1 : mI σ n en1) : Met l yX7_isReachedFrom (ww yX7_isReachedFrom cX7_isReachedFrom 3 (some .boolean)) (rmD 4) (roP D G H [.ref ((ca 0)), .int (nI t), .ref ((a1 0))]) (vp_Si (fun r => r = bI (rcP σ t en1))) 0 0 (fun _ => False) := by
  refine Met.ofW (cc := cX7_isReachedFrom) (maxL := 3) (ret := (some .boolean)) (by decide) rfl ?_
  intro p e s m args below meth c s₁ B hml hv
  obtain ⟨rfl, hH, hK⟩ := hv
  have hx := B.exec
  have hb := B.bytes
  have hr := B.returns
  have hts : ∀ w ∈ TT, w.before _ s = true := fun w h => atoms_spec (ws := ww yX7_isReachedFrom cX7_isReachedFrom 3 (some .boolean)) B.pre w (List.mem_cons_of_mem _ h)
  have hown : s.vm.findClass RX7 = some m.cls := findClass_of_methodNamed B.named
  have hlocks := B.notSynchronized
  rw [hH]
  have hI0 := hI
  obtain ⟨h1, hn, h7, hk60, h22, hw, hab, hfa, hmi, hak, hrf⟩ := hI
  have hoo1 := ho1
  obtain ⟨he1, hm1, hk1, hp1⟩ := ho1
  have ht1 := he1.2
  have hz1 := hm1.2
  have hl := lv_entry ([.ref ((ca 0)), .int (nI t), .ref ((a1 0))]) (n := 3) (Nat.le_of_ble_eq_true rfl)
  rw [lg_entry_eq]
  generalize (lg_sl ([.ref ((ca 0)), .int (nI t), .ref ((a1 0))]) ++ List.replicate (3 - (lg_sl ([.ref ((ca 0)), .int (nI t), .ref ((a1 0))])).length) Slot.unset).toArray = ls at hl ⊢
  have hl : lv_has ls 3 [(0, .ref ((ca 0))), (1, .int (nI t)), (2, .ref ((a1 0)))] := hl
  refine lv_aload_n hx hb dX7_isReachedFrom_0 rfl (lv_at hl 2 rfl) ?_
  refine va_get (D := D) (ci := 4) (v := .int (σ 9 en1)) (C := RX3) (T := TX3) (N := 9) hx hb hts iX3 hown hK.1 hQ1 0 rfl rfl 0 (by decide) (hts _ q_220) (fun x9 h9 => u_same (hts _ q_221) x9 h9) rfl dX7_isReachedFrom_1 ?_
  refine lv_iload_n hx hb dX7_isReachedFrom_4 rfl (lv_at hl 1 rfl) ?_
  refine lv_icmp_ne (tgt := 10) hx hb dX7_isReachedFrom_5 (by decide) (fun c1 => ?_) (fun c1 => ?_)
  · -- 5 taken
    refine lv_aload_n hx hb dX7_isReachedFrom_10 rfl (lv_at hl 0 rfl) ?_
    refine va_get (D := D) (ci := 7) (v := .ref ((ca 1))) (C := RX7) (T := TX7) (N := 11) hx hb hts iX7 hown hK.1 hP 0 rfl rfl 0 (by decide) (hts _ q_73) (fun _ h9 => h9) rfl dX7_isReachedFrom_11 ?_
    refine lv_iload_n hx hb dX7_isReachedFrom_14 rfl (lv_at hl 1 rfl) ?_
    refine lv_aload_n hx hb dX7_isReachedFrom_15 rfl (lv_at hl 2 rfl) ?_
    refine va_get (D := D) (ci := 4) (v := .int (σ 9 en1)) (C := RX3) (T := TX3) (N := 9) hx hb hts iX3 hown hK.1 hQ1 0 rfl rfl 0 (by decide) (hts _ q_220) (fun x9 h9 => u_same (hts _ q_221) x9 h9) rfl dX7_isReachedFrom_16 ?_
    refine W.eq (g2 := F0 m 19 ls [.int (nI (tyE σ en1)), .int (nI t), .ref ((ca 1))]) (congrArg (fun z9 => F0 m 19 ls [.int z9, .int (nI t), .ref ((ca 1))]) he1.1) ?_
    refine ro_Vi (D := D) (G := G) (As := [.int (nI t), .int (nI (tyE σ en1))]) (rest := []) ⟨hx, hb, hml, hown, hts⟩ (c_isBelowN l D G _ ca σ x (cF_ty hP) n h1 hn hab (t) ((tyE σ en1)) (by omega) (by omega)) gV_X7_X6_isBelow hdV_X6_isBelow ⟨Nat.le_of_ble_eq_true rfl, Nat.le_of_ble_eq_true rfl⟩ hK (va_recv hK.1 hP (ci := 6) (q0 := 1) rfl rfl) rfl hl.1 rfl (Nat.le_of_ble_eq_true rfl) dX7_isReachedFrom_19 ⟨Nat.le_of_ble_eq_true rfl, Nat.le_of_ble_eq_true rfl⟩ (fun r2 e_r2 => ?_)
    subst e_r2
    refine lv_if_eq (tgt := 45) hx hb dX7_isReachedFrom_22 (by decide) (fun c3 => ?_) (fun c3 => ?_)
    · -- 22 taken
      have c3 := bI_0 c3
      refine lv_iconst (v := 0) hx hb dX7_isReachedFrom_45 (by decide) ?_
      exact ro_zret (v := 0) hx hb hr hH hlocks dX7_isReachedFrom_46 (Or.inl rfl) ((bI_f (by simp only [rcP_def, eq_false c1, eq_false c3, not_true, not_false_iff, not_true_eq_false, not_false_eq_true, true_or, or_true, false_or, or_false, or_self, and_self, true_and, and_true, false_and, and_false, if_true, if_false])).symm)
    · -- 22 not
      have c3 := bI_1 c3
      refine lv_aload_n hx hb dX7_isReachedFrom_25 rfl (lv_at hl 2 rfl) ?_
      refine lv_iconst (v := 4) hx hb dX7_isReachedFrom_26 (by decide) ?_
      refine ro_Ui (D := D) (G := G) (As := [.int 4]) (rest := []) ⟨hx, hb, hml, hown, hts⟩ (c_hasAnyM l D G _ _ σ (en1) _ hQ1 4) gU_X7_281_X3 rfl (by decide +kernel) ⟨Nat.le_of_ble_eq_true rfl, Nat.le_of_ble_eq_true rfl⟩ hK (va_recv hK.1 hQ1 (ci := 4) (q0 := 0) rfl rfl) rfl hl.1 rfl (Nat.le_of_ble_eq_true rfl) dX7_isReachedFrom_27 ⟨Nat.le_of_ble_eq_true rfl, Nat.le_of_ble_eq_true rfl⟩ (fun r4 e_r4 => ?_)
      subst e_r4
      refine lv_if_ne (tgt := 45) hx hb dX7_isReachedFrom_30 (by decide) (fun c5 => ?_) (fun c5 => ?_)
      · -- 30 taken
        have c5 := bI_1 c5
        refine lv_iconst (v := 0) hx hb dX7_isReachedFrom_45 (by decide) ?_
        exact ro_zret (v := 0) hx hb hr hH hlocks dX7_isReachedFrom_46 (Or.inl rfl) ((bI_f (by simp only [rcP_def, eq_false c1, eq_true c3, eq_false c5, not_true, not_false_iff, not_true_eq_false, not_false_eq_true, true_or, or_true, false_or, or_false, or_self, and_self, true_and, and_true, false_and, and_false, if_true, if_false])).symm)
      · -- 30 not
        have c5 := bI_0 c5
        refine lv_aload_n hx hb dX7_isReachedFrom_33 rfl (lv_at hl 0 rfl) ?_
        refine lv_aload_n hx hb dX7_isReachedFrom_34 rfl (lv_at hl 2 rfl) ?_
        refine ro_Vi (D := D) (G := G) (As := [.ref ((a1 0))]) (rest := []) ⟨hx, hb, hml, hown, hts⟩ (c_isStaticOfFace l D G _ ca _ ea n k w0 σ x κ hP hE hI0 a1 en1 _ hQ1 hoo1) gV_X7_X7_isStaticOfFace hdV_X7_isStaticOfFace ⟨Nat.le_of_ble_eq_true rfl, Nat.le_of_ble_eq_true rfl⟩ hK (va_recv hK.1 hP (ci := 7) (q0 := 0) rfl rfl) rfl hl.1 rfl (Nat.le_of_ble_eq_true rfl) dX7_isReachedFrom_35 ⟨Nat.le_of_ble_eq_true rfl, Nat.le_of_ble_eq_true rfl⟩ (fun r6 e_r6 => ?_)
        subst e_r6
        refine lv_if_ne (tgt := 45) hx hb dX7_isReachedFrom_38 (by decide) (fun c7 => ?_) (fun c7 => ?_)
        · -- 38 taken
          have c7 := bI_1 c7
          refine lv_iconst (v := 0) hx hb dX7_isReachedFrom_45 (by decide) ?_
          exact ro_zret (v := 0) hx hb hr hH hlocks dX7_isReachedFrom_46 (Or.inl rfl) ((bI_f (by simp only [rcP_def, eq_false c1, eq_true c3, eq_true (Decidable.of_not_not c5), eq_true c7, not_true, not_false_iff, not_true_eq_false, not_false_eq_true, true_or, or_true, false_or, or_false, or_self, and_self, true_and, and_true, false_and, and_false, if_true, if_false])).symm)
        · -- 38 not
          have c7 := bI_0 c7
          refine lv_iconst (v := 1) hx hb dX7_isReachedFrom_41 (by decide) ?_
          refine lv_goto (tgt := 46) hx hb dX7_isReachedFrom_42 (by decide) ?_
          exact ro_zret (v := 1) hx hb hr hH hlocks dX7_isReachedFrom_46 (Or.inr rfl) ((bI_t (by simp only [rcP_def, eq_false c1, eq_true c3, eq_true (Decidable.of_not_not c5), eq_false c7, not_true, not_false_iff, not_true_eq_false, not_false_eq_true, true_or, or_true, false_or, or_false, or_self, and_self, true_and, and_true, false_and, and_false, if_true, if_false])).symm)
  · -- 5 not
    refine lv_iconst (v := 1) hx hb dX7_isReachedFrom_8 (by decide) ?_
    exact ro_zret (v := 1) hx hb hr hH hlocks dX7_isReachedFrom_9 (Or.inr rfl) ((bI_t (by simp only [rcP_def, eq_true c1, not_true, not_false_iff, not_true_eq_false, not_false_eq_true, true_or, or_true, false_or, or_false, or_self, and_self, true_and, and_true, false_and, and_false, if_true, if_false])).symm)
set_option maxHeartbeats 4000000 in
set_option maxRecDepth 100000 in
theorem c_isStoodFor (l : Launch) (D : va_G) (G : Nat → ClassId) (H : Heap) (ca : Nat → Nat) (bg : Value) (ea : Nat → Nat → Nat) (n k w0 : Nat) (σ x : MS) (κ : Nat → Int64) (hP : va_P D vwCl (cF G ca bg (enF ea k) σ x) H) (hE : ∀ e, e < k → va_P D vwCl (eW G (ea e) σ κ e) H) (hI : cI σ x n k w0) (a1 : Nat → Nat) (en1 : Nat) (me1 : Int32) (hQ1 : va_P D vwCl (mbW G a1 σ en1 me1) H) (ho1 : mI σ n en1) : Met l yX7_isStoodFor (ww yX7_isStoodFor cX7_isStoodFor 5 (some .boolean)) (rmD 3) (roP D G H [.ref ((ca 0)), .ref ((a1 0))]) (vp_Si (fun r => r = bI (sfP σ (x 3) en1 k))) 0 0 (fun _ => False) := by
  refine Met.ofW (cc := cX7_isStoodFor) (maxL := 5) (ret := (some .boolean)) (by decide) rfl ?_
  intro p e s m args below meth c s₁ B hml hv
  obtain ⟨rfl, hH, hK⟩ := hv
  have hx := B.exec
  have hb := B.bytes
  have hr := B.returns
  have hts : ∀ w ∈ TT, w.before _ s = true := fun w h => atoms_spec (ws := ww yX7_isStoodFor cX7_isStoodFor 5 (some .boolean)) B.pre w (List.mem_cons_of_mem _ h)
  have hown : s.vm.findClass RX7 = some m.cls := findClass_of_methodNamed B.named
  have hlocks := B.notSynchronized
  rw [hH]
  have hI0 := hI
  obtain ⟨h1, hn, h7, hk60, h22, hw, hab, hfa, hmi, hak, hrf⟩ := hI
  have hoo1 := ho1
  obtain ⟨he1, hm1, hk1, hp1⟩ := ho1
  have ht1 := he1.2
  have hz1 := hm1.2
  have hl := lv_entry ([.ref ((ca 0)), .ref ((a1 0))]) (n := 5) (Nat.le_of_ble_eq_true rfl)
  rw [lg_entry_eq]
  generalize (lg_sl ([.ref ((ca 0)), .ref ((a1 0))]) ++ List.replicate (5 - (lg_sl ([.ref ((ca 0)), .ref ((a1 0))])).length) Slot.unset).toArray = ls at hl ⊢
  have hl : lv_has ls 5 [(0, .ref ((ca 0))), (1, .ref ((a1 0)))] := hl
  refine lv_iconst (v := 0) hx hb dX7_isStoodFor_0 (by decide) ?_
  refine lv_istore_n (lv' := [(2, .int 0), (0, .ref ((ca 0))), (1, .ref ((a1 0)))]) hx hb dX7_isStoodFor_1 rfl hl (by decide) rfl (fun ls hl => ?_)
  refine w_for (N := k) 2 (L := fun q9 ls => lv_has ls 5 [(2, .int (nI q9)), (0, .ref ((ca 0))), (1, .ref ((a1 0)))] ∧ ∀ i, i < q9 → ¬ s1P σ (x 3) en1 i) (fun k9 ls hk hL ih => ?_) 0 ls (Nat.zero_le _) ⟨hl, fun i h8 => absurd h8 (Nat.not_lt_zero i)⟩
  obtain ⟨hl, hi⟩ := hL
  have hl : lv_has ls 5 [(2, .int (nI k9)), (0, .ref ((ca 0))), (1, .ref ((a1 0)))] := hl
  refine lv_iload_n hx hb dX7_isStoodFor_2 rfl (lv_at hl 0 rfl) ?_
  refine lv_aload_n hx hb dX7_isStoodFor_3 rfl (lv_at hl 1 rfl) ?_
  refine va_get (D := D) (ci := 7) (v := .int (σ 7 0)) (C := RX7) (T := TX7) (N := 11) hx hb hts iX7 hown hK.1 hP 0 rfl rfl 2 (by decide) (hts _ q_75) (fun _ h9 => h9) rfl dX7_isStoodFor_4 ?_
  refine lv_icmp_ge (tgt := 86) hx hb dX7_isStoodFor_7 (by decide) (fun c1 => ?_) (fun c1 => ?_)
  · -- 7 taken
    have c1 : k ≤ k9 := (nI_leI (a := k) (b := k9) (by omega) (by omega)).mp (by have h8 := c1; rw [h7] at h8; exact h8)
    refine lv_iconst (v := 0) hx hb dX7_isStoodFor_86 (by decide) ?_
    exact ro_zret (v := 0) hx hb hr hH hlocks dX7_isStoodFor_87 (Or.inl rfl) ((bI_f (by rw [sfP_def]; exact fun ⟨i, h8, h9⟩ => hi i (by omega) h9)).symm)
  · -- 7 not
    have c1 : ¬ k ≤ k9 := fun h9 => c1 (by rw [h7]; exact (nI_leI (a := k) (b := k9) (by omega) (by omega)).mpr h9)
    refine lv_aload_n hx hb dX7_isStoodFor_10 rfl (lv_at hl 1 rfl) ?_
    refine va_get (D := D) (ci := 7) (v := .ref ((ca 12))) (C := RX7) (T := TX7) (N := 11) hx hb hts iX7 hown hK.1 hP 0 rfl rfl 9 (by decide) (hts _ q_82) (fun _ h9 => h9) rfl dX7_isStoodFor_11 ?_
    refine lv_iload_n hx hb dX7_isStoodFor_14 rfl (lv_at hl 0 rfl) ?_
    refine zald_n (f := x 3) hx hb hK.1 hP 12 2 rfl rfl (k9) rfl (by omega) (by decide) dX7_isStoodFor_15 ?_
    refine lv_if_eq (tgt := 80) hx hb dX7_isStoodFor_16 (by decide) (fun c2 => ?_) (fun c2 => ?_)
    · -- 16 taken
      refine lv_iinc (v := nI (k9 + 1)) (lv' := [(2, .int (nI (k9 + 1))), (0, .ref ((ca 0))), (1, .ref ((a1 0)))]) hx hb dX7_isStoodFor_80 hl (k := 0) rfl (nI_1 _) (by decide) rfl (fun ls hl => ?_)
      refine lv_goto (tgt := 2) hx hb dX7_isStoodFor_83 (by decide) ?_
      exact ih _ (by omega) ⟨lv_sub hl [0, 1, 2] rfl, fun i h8 => by rcases Nat.lt_or_ge i k9 with h9 | h9; exact hi i h9; rw [show i = k9 by omega]; exact fun h7 => absurd c2 h7.1⟩
    · -- 16 not
      refine lv_aload_n hx hb dX7_isStoodFor_19 rfl (lv_at hl 1 rfl) ?_
      refine va_get (D := D) (ci := 7) (v := .ref ((ca 6))) (C := RX7) (T := TX7) (N := 11) hx hb hts iX7 hown hK.1 hP 0 rfl rfl 1 (by decide) (hts _ q_74) (fun _ h9 => h9) rfl dX7_isStoodFor_20 ?_
      refine lv_iload_n hx hb dX7_isStoodFor_23 rfl (lv_at hl 0 rfl) ?_
      refine aald_e hx hb hK.1 hP 6 rfl (k9) rfl (by omega) (by omega) dX7_isStoodFor_24 ?_
      refine lv_astore (lv' := [(4, .ref ((ea k9 0))), (2, .int (nI k9)), (0, .ref ((ca 0))), (1, .ref ((a1 0)))]) hx hb dX7_isStoodFor_25 hl (by decide) rfl (fun ls hl => ?_)
      refine lv_aload hx hb dX7_isStoodFor_27 (lv_at hl 0 rfl) ?_
      refine inst_m hx hb hown (hts _ q_307) hK (hE k9 (by omega)) dX7_isStoodFor_29 ?_
      refine lv_if_eq (tgt := 80) hx hb dX7_isStoodFor_32 (by decide) (fun c3 => ?_) (fun c3 => ?_)
      · -- 32 taken
        have c3 := bI_0 c3
        refine lv_iinc (v := nI (k9 + 1)) (lv' := [(2, .int (nI (k9 + 1))), (4, .ref ((ea k9 0))), (0, .ref ((ca 0))), (1, .ref ((a1 0)))]) hx hb dX7_isStoodFor_80 hl (k := 1) rfl (nI_1 _) (by decide) rfl (fun ls hl => ?_)
        refine lv_goto (tgt := 2) hx hb dX7_isStoodFor_83 (by decide) ?_
        exact ih _ (by omega) ⟨lv_sub hl [0, 2, 3] rfl, fun i h8 => by rcases Nat.lt_or_ge i k9 with h9 | h9; exact hi i h9; rw [show i = k9 by omega]; exact fun h7 => c3 h7.2.1⟩
      · -- 32 not
        have c3 := bI_1 c3
        refine lv_aload hx hb dX7_isStoodFor_35 (lv_at hl 0 rfl) ?_
        have hM_k9 := eW_m (hE k9 (by omega)) c3
        have hmi_k9 := mJ_m (hmi k9 (by omega)) c3
        have ht_k9 := hmi_k9.1.2
        have hz_k9 := hmi_k9.2.1.2
        refine va_castY (C := RX3) hx hb hown (hts _ q_307) hK.2.2.1 (va_recv hK.1 hM_k9 (ci := 4) (q0 := 0) rfl rfl) dX7_isStoodFor_37 ?_
        refine lv_astore_n (lv' := [(3, .ref ((ea k9 0))), (4, .ref ((ea k9 0))), (2, .int (nI k9)), (0, .ref ((ca 0))), (1, .ref ((a1 0)))]) hx hb dX7_isStoodFor_40 rfl hl (by decide) rfl (fun ls hl => ?_)
        refine lv_aload_n hx hb dX7_isStoodFor_41 rfl (lv_at hl 0 rfl) ?_
        refine va_get (D := D) (ci := 4) (v := .int (σ 9 k9)) (C := RX3) (T := TX3) (N := 9) hx hb hts iX3 hown hK.1 hM_k9 0 rfl rfl 0 (by decide) (hts _ q_220) (fun x9 h9 => u_same (hts _ q_221) x9 h9) rfl dX7_isStoodFor_42 ?_
        refine lv_aload_n hx hb dX7_isStoodFor_45 rfl (lv_at hl 4 rfl) ?_
        refine va_get (D := D) (ci := 4) (v := .int (σ 9 en1)) (C := RX3) (T := TX3) (N := 9) hx hb hts iX3 hown hK.1 hQ1 0 rfl rfl 0 (by decide) (hts _ q_220) (fun x9 h9 => u_same (hts _ q_221) x9 h9) rfl dX7_isStoodFor_46 ?_
        refine lv_icmp_eq (tgt := 80) hx hb dX7_isStoodFor_49 (by decide) (fun c4 => ?_) (fun c4 => ?_)
        · -- 49 taken
          refine lv_iinc (v := nI (k9 + 1)) (lv' := [(2, .int (nI (k9 + 1))), (3, .ref ((ea k9 0))), (4, .ref ((ea k9 0))), (0, .ref ((ca 0))), (1, .ref ((a1 0)))]) hx hb dX7_isStoodFor_80 hl (k := 2) rfl (nI_1 _) (by decide) rfl (fun ls hl => ?_)
          refine lv_goto (tgt := 2) hx hb dX7_isStoodFor_83 (by decide) ?_
          exact ih _ (by omega) ⟨lv_sub hl [0, 3, 4] rfl, fun i h8 => by rcases Nat.lt_or_ge i k9 with h9 | h9; exact hi i h9; rw [show i = k9 by omega]; exact fun h7 => absurd c4 h7.2.2.1⟩
        · -- 49 not
          refine lv_aload_n hx hb dX7_isStoodFor_52 rfl (lv_at hl 3 rfl) ?_
          refine va_get (D := D) (ci := 7) (v := .ref ((ca 1))) (C := RX7) (T := TX7) (N := 11) hx hb hts iX7 hown hK.1 hP 0 rfl rfl 0 (by decide) (hts _ q_73) (fun _ h9 => h9) rfl dX7_isStoodFor_53 ?_
          refine lv_aload_n hx hb dX7_isStoodFor_56 rfl (lv_at hl 0 rfl) ?_
          refine va_get (D := D) (ci := 4) (v := .int (σ 9 k9)) (C := RX3) (T := TX3) (N := 9) hx hb hts iX3 hown hK.1 hM_k9 0 rfl rfl 0 (by decide) (hts _ q_220) (fun x9 h9 => u_same (hts _ q_221) x9 h9) rfl dX7_isStoodFor_57 ?_
          refine lv_aload_n hx hb dX7_isStoodFor_60 rfl (lv_at hl 4 rfl) ?_
          refine va_get (D := D) (ci := 4) (v := .int (σ 9 en1)) (C := RX3) (T := TX3) (N := 9) hx hb hts iX3 hown hK.1 hQ1 0 rfl rfl 0 (by decide) (hts _ q_220) (fun x9 h9 => u_same (hts _ q_221) x9 h9) rfl dX7_isStoodFor_61 ?_
          refine W.eq (g2 := F0 m 64 ls [.int (σ 9 en1), .int (nI (tyE σ k9)), .ref ((ca 1))]) (congrArg (fun z9 => F0 m 64 ls [.int (σ 9 en1), .int z9, .ref ((ca 1))]) hmi_k9.1.1) ?_
          refine W.eq (g2 := F0 m 64 ls [.int (nI (tyE σ en1)), .int (nI (tyE σ k9)), .ref ((ca 1))]) (congrArg (fun z9 => F0 m 64 ls [.int z9, .int (nI (tyE σ k9)), .ref ((ca 1))]) he1.1) ?_
          refine ro_Vi (D := D) (G := G) (As := [.int (nI (tyE σ k9)), .int (nI (tyE σ en1))]) (rest := []) ⟨hx, hb, hml, hown, hts⟩ (c_isBelowN l D G _ ca σ x (cF_ty hP) n h1 hn hab ((tyE σ k9)) ((tyE σ en1)) (by omega) (by omega)) gV_X7_X6_isBelow hdV_X6_isBelow ⟨Nat.le_of_ble_eq_true rfl, Nat.le_of_ble_eq_true rfl⟩ hK (va_recv hK.1 hP (ci := 6) (q0 := 1) rfl rfl) rfl hl.1 rfl (Nat.le_of_ble_eq_true rfl) dX7_isStoodFor_64 ⟨Nat.le_of_ble_eq_true rfl, Nat.le_of_ble_eq_true rfl⟩ (fun r5 e_r5 => ?_)
          subst e_r5
          refine lv_if_eq (tgt := 80) hx hb dX7_isStoodFor_67 (by decide) (fun c6 => ?_) (fun c6 => ?_)
          · -- 67 taken
            have c6 := bI_0 c6
            refine lv_iinc (v := nI (k9 + 1)) (lv' := [(2, .int (nI (k9 + 1))), (3, .ref ((ea k9 0))), (4, .ref ((ea k9 0))), (0, .ref ((ca 0))), (1, .ref ((a1 0)))]) hx hb dX7_isStoodFor_80 hl (k := 2) rfl (nI_1 _) (by decide) rfl (fun ls hl => ?_)
            refine lv_goto (tgt := 2) hx hb dX7_isStoodFor_83 (by decide) ?_
            exact ih _ (by omega) ⟨lv_sub hl [0, 3, 4] rfl, fun i h8 => by rcases Nat.lt_or_ge i k9 with h9 | h9; exact hi i h9; rw [show i = k9 by omega]; exact fun h7 => c6 h7.2.2.2.1⟩
          · -- 67 not
            have c6 := bI_1 c6
            refine lv_aload_n hx hb dX7_isStoodFor_70 rfl (lv_at hl 0 rfl) ?_
            refine lv_aload_n hx hb dX7_isStoodFor_71 rfl (lv_at hl 4 rfl) ?_
            refine ro_Vi (D := D) (G := G) (As := [.ref ((a1 0))]) (rest := []) ⟨hx, hb, hml, hown, hts⟩ (c_isLike l D G _ _ σ (k9) _ hM_k9 hmi_k9.2.1 a1 en1 _ hQ1 hm1) gV_X7_X3_isLike hdV_X3_isLike ⟨Nat.le_of_ble_eq_true rfl, Nat.le_of_ble_eq_true rfl⟩ hK (va_recv hK.1 hM_k9 (ci := 4) (q0 := 0) rfl rfl) rfl hl.1 rfl (Nat.le_of_ble_eq_true rfl) dX7_isStoodFor_72 ⟨Nat.le_of_ble_eq_true rfl, Nat.le_of_ble_eq_true rfl⟩ (fun r7 e_r7 => ?_)
            subst e_r7
            refine lv_if_eq (tgt := 80) hx hb dX7_isStoodFor_75 (by decide) (fun c8 => ?_) (fun c8 => ?_)
            · -- 75 taken
              have c8 := bI_0 c8
              refine lv_iinc (v := nI (k9 + 1)) (lv' := [(2, .int (nI (k9 + 1))), (3, .ref ((ea k9 0))), (4, .ref ((ea k9 0))), (0, .ref ((ca 0))), (1, .ref ((a1 0)))]) hx hb dX7_isStoodFor_80 hl (k := 2) rfl (nI_1 _) (by decide) rfl (fun ls hl => ?_)
              refine lv_goto (tgt := 2) hx hb dX7_isStoodFor_83 (by decide) ?_
              exact ih _ (by omega) ⟨lv_sub hl [0, 3, 4] rfl, fun i h8 => by rcases Nat.lt_or_ge i k9 with h9 | h9; exact hi i h9; rw [show i = k9 by omega]; exact fun h7 => c8 h7.2.2.2.2⟩
            · -- 75 not
              have c8 := bI_1 c8
              refine lv_iconst (v := 1) hx hb dX7_isStoodFor_78 (by decide) ?_
              exact ro_zret (v := 1) hx hb hr hH hlocks dX7_isStoodFor_79 (Or.inr rfl) ((bI_t (sfP_def.mpr ⟨k9, by omega, c2, c3, c4, c6, c8⟩)).symm)
set_option maxHeartbeats 4000000 in
set_option maxRecDepth 100000 in
theorem c_mayTakeAsMany (l : Launch) (D : va_G) (G : Nat → ClassId) (H : Heap) (ca : Nat → Nat) (bg : Value) (ea : Nat → Nat → Nat) (n k w0 : Nat) (σ x : MS) (κ : Nat → Int64) (hP : va_P D vwCl (cF G ca bg (enF ea k) σ x) H) (hE : ∀ e, e < k → va_P D vwCl (eW G (ea e) σ κ e) H) (hI : cI σ x n k w0) (a1 : Nat → Nat) (en1 : Nat) (me1 : Int32) (hQ1 : va_P D vwCl (mbW G a1 σ en1 me1) H) (ho1 : mI σ n en1) (v : Int32) : Met l yX7_mayTakeAsMany (ww yX7_mayTakeAsMany cX7_mayTakeAsMany 4 (some .boolean)) (rmD 0) (roP D G H [.ref ((ca 0)), .ref ((a1 0)), .int v]) (vp_Si (fun r => r = bI (mtb σ w0 en1 v))) 0 0 (fun _ => False) := by
  refine Met.ofW (cc := cX7_mayTakeAsMany) (maxL := 4) (ret := (some .boolean)) (by decide) rfl ?_
  intro p e s m args below meth c s₁ B hml hv
  obtain ⟨rfl, hH, hK⟩ := hv
  have hx := B.exec
  have hb := B.bytes
  have hr := B.returns
  have hts : ∀ w ∈ TT, w.before _ s = true := fun w h => atoms_spec (ws := ww yX7_mayTakeAsMany cX7_mayTakeAsMany 4 (some .boolean)) B.pre w (List.mem_cons_of_mem _ h)
  have hown : s.vm.findClass RX7 = some m.cls := findClass_of_methodNamed B.named
  have hlocks := B.notSynchronized
  rw [hH]
  have hI0 := hI
  obtain ⟨h1, hn, h7, hk60, h22, hw, hab, hfa, hmi, hak, hrf⟩ := hI
  have hoo1 := ho1
  obtain ⟨he1, hm1, hk1, hp1⟩ := ho1
  have ht1 := he1.2
  have hz1 := hm1.2
  have hl := lv_entry ([.ref ((ca 0)), .ref ((a1 0)), .int v]) (n := 4) (Nat.le_of_ble_eq_true rfl)
  rw [lg_entry_eq]
  generalize (lg_sl ([.ref ((ca 0)), .ref ((a1 0)), .int v]) ++ List.replicate (4 - (lg_sl ([.ref ((ca 0)), .ref ((a1 0)), .int v])).length) Slot.unset).toArray = ls at hl ⊢
  have hl : lv_has ls 4 [(0, .ref ((ca 0))), (1, .ref ((a1 0))), (2, .int v)] := hl
  refine lv_aload_n hx hb dX7_mayTakeAsMany_0 rfl (lv_at hl 1 rfl) ?_
  refine va_get (D := D) (ci := 4) (v := .ref ((a1 1))) (C := RX3) (T := TX3) (N := 9) hx hb hts iX3 hown hK.1 hQ1 0 rfl rfl 6 (by decide) (hts _ q_318) (fun _ h9 => h9) rfl dX7_mayTakeAsMany_1 ?_
  refine va_get (D := D) (ci := 5) (v := .int (σ 18 en1)) (C := RX4) (T := TX4) (N := 3) hx hb hts iX4 hown hK.1 hQ1 1 rfl rfl 2 (by decide) (hts _ q_65) (fun _ h9 => h9) rfl dX7_mayTakeAsMany_4 ?_
  refine lv_istore_n (lv' := [(3, .int (σ 18 en1)), (0, .ref ((ca 0))), (1, .ref ((a1 0))), (2, .int v)]) hx hb dX7_mayTakeAsMany_7 rfl hl (by decide) rfl (fun ls hl => ?_)
  refine lv_iload_n hx hb dX7_mayTakeAsMany_8 rfl (lv_at hl 3 rfl) ?_
  refine lv_if_eq (tgt := 40) hx hb dX7_mayTakeAsMany_9 (by decide) (fun c1 => ?_) (fun c1 => ?_)
  · -- 9 taken
    refine lv_aload_n hx hb dX7_mayTakeAsMany_40 rfl (lv_at hl 1 rfl) ?_
    refine va_get (D := D) (ci := 7) (v := .ref ((ca 7))) (C := RX7) (T := TX7) (N := 11) hx hb hts iX7 hown hK.1 hP 0 rfl rfl 4 (by decide) (hts _ q_77) (fun _ h9 => h9) rfl dX7_mayTakeAsMany_41 ?_
    refine va_get (D := D) (ci := 5) (v := .int (σ 22 0)) (C := RX4) (T := TX4) (N := 3) hx hb hts iX4 hown hK.1 hP 7 rfl rfl 2 (by decide) (hts _ q_65) (fun _ h9 => h9) rfl dX7_mayTakeAsMany_44 ?_
    refine lv_iload_n hx hb dX7_mayTakeAsMany_47 rfl (lv_at hl 0 rfl) ?_
    refine lv_icmp_ne (tgt := 55) hx hb dX7_mayTakeAsMany_48 (by decide) (fun c2 => ?_) (fun c2 => ?_)
    · -- 48 taken
      have c2 : ¬ w0 = (mnE σ en1) := fun h9 => c2 (by first | (rw [h22, hm1.1, h9]; done) | (rw [h22, hm1.1, h9]; rfl))
      refine lv_iconst (v := 0) hx hb dX7_mayTakeAsMany_55 (by decide) ?_
      exact ro_zret (v := 0) hx hb hr hH hlocks dX7_mayTakeAsMany_56 (Or.inl rfl) ((bI_f (by simp only [mtb, eq_true c1, eq_false c2, not_true, not_false_iff, not_true_eq_false, not_false_eq_true, true_or, or_true, false_or, or_false, or_self, and_self, true_and, and_true, false_and, and_false, if_true, if_false])).symm)
    · -- 48 not
      have c2 : w0 = (mnE σ en1) := nI_inj (by omega) (by omega) (by have h8 := c2; rw [h22, hm1.1] at h8; exact h8)
      refine lv_iconst (v := 1) hx hb dX7_mayTakeAsMany_51 (by decide) ?_
      refine lv_goto (tgt := 56) hx hb dX7_mayTakeAsMany_52 (by decide) ?_
      exact ro_zret (v := 1) hx hb hr hH hlocks dX7_mayTakeAsMany_56 (Or.inr rfl) ((bI_t (by simp only [mtb, eq_true c1, eq_true c2, not_true, not_false_iff, not_true_eq_false, not_false_eq_true, true_or, or_true, false_or, or_false, or_self, and_self, true_and, and_true, false_and, and_false, if_true, if_false])).symm)
  · -- 9 not
    refine lv_aload_n hx hb dX7_mayTakeAsMany_12 rfl (lv_at hl 2 rfl) ?_
    refine va_get (D := D) (ci := 4) (v := .int (σ 17 en1)) (C := RX3) (T := TX3) (N := 9) hx hb hts iX3 hown hK.1 hQ1 0 rfl rfl 7 (by decide) (hts _ q_319) (fun _ h9 => h9) rfl dX7_mayTakeAsMany_13 ?_
    refine lv_if_eq (tgt := 36) hx hb dX7_mayTakeAsMany_16 (by decide) (fun c3 => ?_) (fun c3 => ?_)
    · -- 16 taken
      refine lv_iconst (v := 0) hx hb dX7_mayTakeAsMany_36 (by decide) ?_
      refine lv_goto (tgt := 56) hx hb dX7_mayTakeAsMany_37 (by decide) ?_
      exact ro_zret (v := 0) hx hb hr hH hlocks dX7_mayTakeAsMany_56 (Or.inl rfl) ((bI_f (by simp only [mtb, eq_false c1, eq_true c3, not_true, not_false_iff, not_true_eq_false, not_false_eq_true, true_or, or_true, false_or, or_false, or_self, and_self, true_and, and_true, false_and, and_false, if_true, if_false])).symm)
    · -- 16 not
      have h1m := hp1.1 c3
      refine lv_aload_n hx hb dX7_mayTakeAsMany_19 rfl (lv_at hl 1 rfl) ?_
      refine va_get (D := D) (ci := 7) (v := .ref ((ca 7))) (C := RX7) (T := TX7) (N := 11) hx hb hts iX7 hown hK.1 hP 0 rfl rfl 4 (by decide) (hts _ q_77) (fun _ h9 => h9) rfl dX7_mayTakeAsMany_20 ?_
      refine va_get (D := D) (ci := 5) (v := .int (σ 22 0)) (C := RX4) (T := TX4) (N := 3) hx hb hts iX4 hown hK.1 hP 7 rfl rfl 2 (by decide) (hts _ q_65) (fun _ h9 => h9) rfl dX7_mayTakeAsMany_23 ?_
      refine lv_iload_n hx hb dX7_mayTakeAsMany_26 rfl (lv_at hl 0 rfl) ?_
      refine lv_iconst (v := 1) hx hb dX7_mayTakeAsMany_27 (by decide) ?_
      refine lv_isub hx hb dX7_mayTakeAsMany_28 ?_
      refine lv_icmp_lt (tgt := 36) hx hb dX7_mayTakeAsMany_29 (by decide) (fun c4 => ?_) (fun c4 => ?_)
      · -- 29 taken
        have c4 : w0 < ((mnE σ en1) - 1) := (nI_ltI (a := w0) (b := ((mnE σ en1) - 1)) (by omega) (by omega)).mp (by have h8 := c4; rw [h22, (n_sub (a := (mnE σ en1)) (b := 1) hm1.1 (rfl : (1 : Int32) = nI 1) (by omega))] at h8; exact h8)
        refine lv_iconst (v := 0) hx hb dX7_mayTakeAsMany_36 (by decide) ?_
        refine lv_goto (tgt := 56) hx hb dX7_mayTakeAsMany_37 (by decide) ?_
        exact ro_zret (v := 0) hx hb hr hH hlocks dX7_mayTakeAsMany_56 (Or.inl rfl) ((bI_f (by simp only [mtb, eq_false c1, eq_false c3, eq_true c4, not_true, not_false_iff, not_true_eq_false, not_false_eq_true, true_or, or_true, false_or, or_false, or_self, and_self, true_and, and_true, false_and, and_false, if_true, if_false])).symm)
      · -- 29 not
        have c4 : ¬ w0 < ((mnE σ en1) - 1) := fun h9 => c4 (by rw [h22, (n_sub (a := (mnE σ en1)) (b := 1) hm1.1 (rfl : (1 : Int32) = nI 1) (by omega))]; exact (nI_ltI (a := w0) (b := ((mnE σ en1) - 1)) (by omega) (by omega)).mpr h9)
        refine lv_iconst (v := 1) hx hb dX7_mayTakeAsMany_32 (by decide) ?_
        refine lv_goto (tgt := 56) hx hb dX7_mayTakeAsMany_33 (by decide) ?_
        exact ro_zret (v := 1) hx hb hr hH hlocks dX7_mayTakeAsMany_56 (Or.inr rfl) ((bI_t (by simp only [mtb, eq_false c1, eq_false c3, eq_false c4, not_true, not_false_iff, not_true_eq_false, not_false_eq_true, true_or, or_true, false_or, or_false, or_self, and_self, true_and, and_true, false_and, and_false, if_true, if_false])).symm)
set_option maxHeartbeats 4000000 in
set_option maxRecDepth 100000 in
theorem c_takesArguments (l : Launch) (D : va_G) (G : Nat → ClassId) (H : Heap) (ca : Nat → Nat) (bg : Value) (ea : Nat → Nat → Nat) (n k w0 : Nat) (σ x : MS) (κ : Nat → Int64) (hP : va_P D vwCl (cF G ca bg (enF ea k) σ x) H) (hE : ∀ e, e < k → va_P D vwCl (eW G (ea e) σ κ e) H) (hI : cI σ x n k w0) (a1 : Nat → Nat) (en1 : Nat) (me1 : Int32) (hQ1 : va_P D vwCl (mbW G a1 σ en1 me1) H) (ho1 : mI σ n en1) (v : Int32) : Met l yX7_takesArguments (ww yX7_takesArguments cX7_takesArguments 4 (some .boolean)) (rmD 3) (roP D G H [.ref ((ca 0)), .ref ((a1 0)), .int v]) (vp_Si (fun r => r = bI (tkN σ w0 en1 v w0))) 0 0 (fun _ => False) := by
  refine Met.ofW (cc := cX7_takesArguments) (maxL := 4) (ret := (some .boolean)) (by decide) rfl ?_
  intro p e s m args below meth c s₁ B hml hv
  obtain ⟨rfl, hH, hK⟩ := hv
  have hx := B.exec
  have hb := B.bytes
  have hr := B.returns
  have hts : ∀ w ∈ TT, w.before _ s = true := fun w h => atoms_spec (ws := ww yX7_takesArguments cX7_takesArguments 4 (some .boolean)) B.pre w (List.mem_cons_of_mem _ h)
  have hown : s.vm.findClass RX7 = some m.cls := findClass_of_methodNamed B.named
  have hlocks := B.notSynchronized
  rw [hH]
  have hI0 := hI
  obtain ⟨h1, hn, h7, hk60, h22, hw, hab, hfa, hmi, hak, hrf⟩ := hI
  have hoo1 := ho1
  obtain ⟨he1, hm1, hk1, hp1⟩ := ho1
  have ht1 := he1.2
  have hz1 := hm1.2
  have hl := lv_entry ([.ref ((ca 0)), .ref ((a1 0)), .int v]) (n := 4) (Nat.le_of_ble_eq_true rfl)
  rw [lg_entry_eq]
  generalize (lg_sl ([.ref ((ca 0)), .ref ((a1 0)), .int v]) ++ List.replicate (4 - (lg_sl ([.ref ((ca 0)), .ref ((a1 0)), .int v])).length) Slot.unset).toArray = ls at hl ⊢
  have hl : lv_has ls 4 [(0, .ref ((ca 0))), (1, .ref ((a1 0))), (2, .int v)] := hl
  refine lv_aload_n hx hb dX7_takesArguments_0 rfl (lv_at hl 0 rfl) ?_
  refine lv_aload_n hx hb dX7_takesArguments_1 rfl (lv_at hl 1 rfl) ?_
  refine lv_iload_n hx hb dX7_takesArguments_2 rfl (lv_at hl 2 rfl) ?_
  refine ro_Vi (D := D) (G := G) (As := [.ref ((a1 0)), .int v]) (rest := []) ⟨hx, hb, hml, hown, hts⟩ (c_mayTakeAsMany l D G _ ca _ ea n k w0 σ x κ hP hE hI0 a1 en1 _ hQ1 hoo1 v) gV_X7_X7_mayTakeAsMany hdV_X7_mayTakeAsMany ⟨Nat.le_of_ble_eq_true rfl, Nat.le_of_ble_eq_true rfl⟩ hK (va_recv hK.1 hP (ci := 7) (q0 := 0) rfl rfl) rfl hl.1 rfl (Nat.le_of_ble_eq_true rfl) dX7_takesArguments_3 ⟨Nat.le_of_ble_eq_true rfl, Nat.le_of_ble_eq_true rfl⟩ (fun r1 e_r1 => ?_)
  subst e_r1
  refine lv_if_ne (tgt := 11) hx hb dX7_takesArguments_6 (by decide) (fun c2 => ?_) (fun c2 => ?_)
  · -- 6 taken
    have c2 := bI_1 c2
    refine lv_iconst (v := 0) hx hb dX7_takesArguments_11 (by decide) ?_
    refine lv_istore_n (lv' := [(3, .int 0), (0, .ref ((ca 0))), (1, .ref ((a1 0))), (2, .int v)]) hx hb dX7_takesArguments_12 rfl hl (by decide) rfl (fun ls hl => ?_)
    refine w_for (N := w0) 13 (L := fun q9 ls => lv_has ls 4 [(3, .int (nI q9)), (0, .ref ((ca 0))), (1, .ref ((a1 0))), (2, .int v)] ∧ ∀ p, p < q9 → fitP σ (σ 23 p) (σ 24 p) (kindF σ en1 p v) (dimF σ en1 p v)) (fun k9 ls hk hL ih => ?_) 0 ls (Nat.zero_le _) ⟨hl, fun p h8 => absurd h8 (Nat.not_lt_zero p)⟩
    obtain ⟨hl, hi⟩ := hL
    have hl : lv_has ls 4 [(3, .int (nI k9)), (0, .ref ((ca 0))), (1, .ref ((a1 0))), (2, .int v)] := hl
    refine lv_iload_n hx hb dX7_takesArguments_13 rfl (lv_at hl 0 rfl) ?_
    refine lv_aload_n hx hb dX7_takesArguments_14 rfl (lv_at hl 1 rfl) ?_
    refine va_get (D := D) (ci := 7) (v := .ref ((ca 7))) (C := RX7) (T := TX7) (N := 11) hx hb hts iX7 hown hK.1 hP 0 rfl rfl 4 (by decide) (hts _ q_77) (fun _ h9 => h9) rfl dX7_takesArguments_15 ?_
    refine va_get (D := D) (ci := 5) (v := .int (σ 22 0)) (C := RX4) (T := TX4) (N := 3) hx hb hts iX4 hown hK.1 hP 7 rfl rfl 2 (by decide) (hts _ q_65) (fun _ h9 => h9) rfl dX7_takesArguments_18 ?_
    refine lv_icmp_ge (tgt := 67) hx hb dX7_takesArguments_21 (by decide) (fun c3 => ?_) (fun c3 => ?_)
    · -- 21 taken
      have c3 : w0 ≤ k9 := (nI_leI (a := w0) (b := k9) (by omega) (by omega)).mp (by have h8 := c3; rw [h22] at h8; exact h8)
      refine lv_iconst (v := 1) hx hb dX7_takesArguments_67 (by decide) ?_
      exact ro_zret (v := 1) hx hb hr hH hlocks dX7_takesArguments_68 (Or.inr rfl) ((bI_t (tk_iff.mpr ⟨c2, fun p hp => hi p (by omega)⟩)).symm)
    · -- 21 not
      have c3 : ¬ w0 ≤ k9 := fun h9 => c3 (by rw [h22]; exact (nI_leI (a := w0) (b := k9) (by omega) (by omega)).mpr h9)
      have hkd := kdh_of hp1 c2 (show k9 < w0 by omega)
      refine lv_aload_n hx hb dX7_takesArguments_24 rfl (lv_at hl 1 rfl) ?_
      refine lv_aload_n hx hb dX7_takesArguments_25 rfl (lv_at hl 1 rfl) ?_
      refine va_get (D := D) (ci := 7) (v := .ref ((ca 7))) (C := RX7) (T := TX7) (N := 11) hx hb hts iX7 hown hK.1 hP 0 rfl rfl 4 (by decide) (hts _ q_77) (fun _ h9 => h9) rfl dX7_takesArguments_26 ?_
      refine lv_iload_n hx hb dX7_takesArguments_29 rfl (lv_at hl 0 rfl) ?_
      refine ro_Vi (D := D) (G := G) (As := [.int (nI k9)]) (rest := [.ref ((ca 0))]) ⟨hx, hb, hml, hown, hts⟩ (c_rkindAtN l D G _ _ _ _ _ _ _ (by omega) (cF_ar hP h22) (k9) (by omega)) gV_X7_X4_kindAt hdV_X4_kindAt ⟨Nat.le_of_ble_eq_true rfl, Nat.le_of_ble_eq_true rfl⟩ hK (va_recv hK.1 hP (ci := 5) (q0 := 7) rfl rfl) rfl hl.1 rfl (Nat.le_of_ble_eq_true rfl) dX7_takesArguments_30 ⟨Nat.le_of_ble_eq_true rfl, Nat.le_of_ble_eq_true rfl⟩ (fun r4 e_r4 => ?_)
      subst e_r4
      refine lv_aload_n hx hb dX7_takesArguments_33 rfl (lv_at hl 1 rfl) ?_
      refine va_get (D := D) (ci := 7) (v := .ref ((ca 7))) (C := RX7) (T := TX7) (N := 11) hx hb hts iX7 hown hK.1 hP 0 rfl rfl 4 (by decide) (hts _ q_77) (fun _ h9 => h9) rfl dX7_takesArguments_34 ?_
      refine lv_iload_n hx hb dX7_takesArguments_37 rfl (lv_at hl 0 rfl) ?_
      refine ro_Vi (D := D) (G := G) (As := [.int (nI k9)]) (rest := [.int (σ 23 k9), .ref ((ca 0))]) ⟨hx, hb, hml, hown, hts⟩ (c_rdimsAtN l D G _ _ _ _ _ _ _ (by omega) (cF_ar hP h22) (k9) (by omega)) gV_X7_X4_dimsAt hdV_X4_dimsAt ⟨Nat.le_of_ble_eq_true rfl, Nat.le_of_ble_eq_true rfl⟩ hK (va_recv hK.1 hP (ci := 5) (q0 := 7) rfl rfl) rfl hl.1 rfl (Nat.le_of_ble_eq_true rfl) dX7_takesArguments_38 ⟨Nat.le_of_ble_eq_true rfl, Nat.le_of_ble_eq_true rfl⟩ (fun r5 e_r5 => ?_)
      subst e_r5
      refine lv_aload_n hx hb dX7_takesArguments_41 rfl (lv_at hl 2 rfl) ?_
      refine lv_iload_n hx hb dX7_takesArguments_42 rfl (lv_at hl 0 rfl) ?_
      refine lv_iload_n hx hb dX7_takesArguments_43 rfl (lv_at hl 3 rfl) ?_
      refine ro_Vi (D := D) (G := G) (As := [.int (nI k9), .int v]) (rest := [.int (σ 24 k9), .int (σ 23 k9), .ref ((ca 0))]) ⟨hx, hb, hml, hown, hts⟩ (c_mkindAt l D G _ _ σ (en1) _ hQ1 hm1 (k9) (by omega) v hkd) gV_X7_X3_kindAt hdV_X3_kindAt ⟨Nat.le_of_ble_eq_true rfl, Nat.le_of_ble_eq_true rfl⟩ hK (va_recv hK.1 hQ1 (ci := 4) (q0 := 0) rfl rfl) rfl hl.1 rfl (Nat.le_of_ble_eq_true rfl) dX7_takesArguments_44 ⟨Nat.le_of_ble_eq_true rfl, Nat.le_of_ble_eq_true rfl⟩ (fun r6 e_r6 => ?_)
      subst e_r6
      refine lv_aload_n hx hb dX7_takesArguments_47 rfl (lv_at hl 2 rfl) ?_
      refine lv_iload_n hx hb dX7_takesArguments_48 rfl (lv_at hl 0 rfl) ?_
      refine lv_iload_n hx hb dX7_takesArguments_49 rfl (lv_at hl 3 rfl) ?_
      refine ro_Vi (D := D) (G := G) (As := [.int (nI k9), .int v]) (rest := [.int (kindF σ en1 k9 v), .int (σ 24 k9), .int (σ 23 k9), .ref ((ca 0))]) ⟨hx, hb, hml, hown, hts⟩ (c_mdimsAt l D G _ _ σ (en1) _ hQ1 hm1 (k9) (by omega) v hkd) gV_X7_X3_dimsAt hdV_X3_dimsAt ⟨Nat.le_of_ble_eq_true rfl, Nat.le_of_ble_eq_true rfl⟩ hK (va_recv hK.1 hQ1 (ci := 4) (q0 := 0) rfl rfl) rfl hl.1 rfl (Nat.le_of_ble_eq_true rfl) dX7_takesArguments_50 ⟨Nat.le_of_ble_eq_true rfl, Nat.le_of_ble_eq_true rfl⟩ (fun r7 e_r7 => ?_)
      subst e_r7
      refine ro_Vi (D := D) (G := G) (As := [.int (σ 23 k9), .int (σ 24 k9), .int (kindF σ en1 k9 v), .int (dimF σ en1 k9 v)]) (rest := []) ⟨hx, hb, hml, hown, hts⟩ (c_fits l D G _ ca _ ea n k w0 σ x κ hP hE hI0 (σ 23 k9) (σ 24 k9) (kindF σ en1 k9 v) (dimF σ en1 k9 v) (hak k9 (by omega)) (kindF_ok hp1 hkd).1 (kindF_ok hp1 hkd).2) gV_X7_X7_fits hdV_X7_fits ⟨Nat.le_of_ble_eq_true rfl, Nat.le_of_ble_eq_true rfl⟩ hK (va_recv hK.1 hP (ci := 7) (q0 := 0) rfl rfl) rfl hl.1 rfl (Nat.le_of_ble_eq_true rfl) dX7_takesArguments_53 ⟨Nat.le_of_ble_eq_true rfl, Nat.le_of_ble_eq_true rfl⟩ (fun r8 e_r8 => ?_)
      subst e_r8
      refine lv_if_ne (tgt := 61) hx hb dX7_takesArguments_56 (by decide) (fun c9 => ?_) (fun c9 => ?_)
      · -- 56 taken
        have c9 := bI_1 c9
        refine lv_iinc (v := nI (k9 + 1)) (lv' := [(3, .int (nI (k9 + 1))), (0, .ref ((ca 0))), (1, .ref ((a1 0))), (2, .int v)]) hx hb dX7_takesArguments_61 hl (k := 0) rfl (nI_1 _) (by decide) rfl (fun ls hl => ?_)
        refine lv_goto (tgt := 13) hx hb dX7_takesArguments_64 (by decide) ?_
        exact ih _ (by omega) ⟨lv_sub hl [0, 1, 2, 3] rfl, fun p h8 => by rcases Nat.lt_or_ge p k9 with h9 | h9; exact hi p h9; rw [show p = k9 by omega]; exact c9⟩
      · -- 56 not
        have c9 := bI_0 c9
        refine lv_iconst (v := 0) hx hb dX7_takesArguments_59 (by decide) ?_
        exact ro_zret (v := 0) hx hb hr hH hlocks dX7_takesArguments_60 (Or.inl rfl) ((bI_f (fun h9 => c9 ((tk_iff.mp h9).2 k9 (by omega)))).symm)
  · -- 6 not
    have c2 := bI_0 c2
    refine lv_iconst (v := 0) hx hb dX7_takesArguments_9 (by decide) ?_
    exact ro_zret (v := 0) hx hb hr hH hlocks dX7_takesArguments_10 (Or.inl rfl) ((bI_f (fun h9 => c2 (tk_iff.mp h9).1)).symm)
/-- a place that is compared is there, in both -/
theorem kdh_2 {σ : MS} {w a b p n : Nat} {v : Int32} (hA : ptO σ n a) (h1 : mtb σ w a v) (h2 : mtb σ w b v) (hp : p < max w (max (mnE σ a) (mnE σ b))) : kdH σ a p v := by
  refine ⟨fun q => ?_, fun q => ?_⟩
  · rw [mtb, if_neg (fun r => r q)] at h1 h2; omega
  · rw [mtb, if_pos q] at h1; exact hA.1 h1.1
theorem kdh_3 {σ : MS} {w a b p n : Nat} {v : Int32} (hB : ptO σ n b) (h1 : mtb σ w a v) (h2 : mtb σ w b v) (hp : p < max w (max (mnE σ a) (mnE σ b))) : kdH σ b p v := by
  refine ⟨fun q => ?_, fun q => ?_⟩
  · rw [mtb, if_neg (fun r => r q)] at h1 h2; omega
  · rw [mtb, if_pos q] at h2; exact hB.1 h2.1
set_option maxHeartbeats 4000000 in
set_option maxRecDepth 100000 in
theorem c_fitsPlaceByPlace (l : Launch) (D : va_G) (G : Nat → ClassId) (H : Heap) (ca : Nat → Nat) (bg : Value) (ea : Nat → Nat → Nat) (n k w0 : Nat) (σ x : MS) (κ : Nat → Int64) (hP : va_P D vwCl (cF G ca bg (enF ea k) σ x) H) (hE : ∀ e, e < k → va_P D vwCl (eW G (ea e) σ κ e) H) (hI : cI σ x n k w0) (a1 : Nat → Nat) (en1 : Nat) (me1 : Int32) (hQ1 : va_P D vwCl (mbW G a1 σ en1 me1) H) (ho1 : mI σ n en1) (a2 : Nat → Nat) (en2 : Nat) (me2 : Int32) (hQ2 : va_P D vwCl (mbW G a2 σ en2 me2) H) (ho2 : mI σ n en2) (v : Int32) (hmt1 : mtb σ w0 en1 v) (hmt2 : mtb σ w0 en2 v) : Met l yX7_fitsPlaceByPlace (ww yX7_fitsPlaceByPlace cX7_fitsPlaceByPlace 6 (some .boolean)) (rmD 3) (roP D G H [.ref ((ca 0)), .ref ((a1 0)), .ref ((a2 0)), .int v]) (vp_Si (fun r => r = bI (nrN σ en1 en2 v (max w0 (max (mnE σ en1) (mnE σ en2)))))) 0 0 (fun _ => False) := by
  refine Met.ofW (cc := cX7_fitsPlaceByPlace) (maxL := 6) (ret := (some .boolean)) (by decide) rfl ?_
  intro p e s m args below meth c s₁ B hml hv
  obtain ⟨rfl, hH, hK⟩ := hv
  have hx := B.exec
  have hb := B.bytes
  have hr := B.returns
  have hts : ∀ w ∈ TT, w.before _ s = true := fun w h => atoms_spec (ws := ww yX7_fitsPlaceByPlace cX7_fitsPlaceByPlace 6 (some .boolean)) B.pre w (List.mem_cons_of_mem _ h)
  have hown : s.vm.findClass RX7 = some m.cls := findClass_of_methodNamed B.named
  have hlocks := B.notSynchronized
  rw [hH]
  have hI0 := hI
  obtain ⟨h1, hn, h7, hk60, h22, hw, hab, hfa, hmi, hak, hrf⟩ := hI
  have hoo1 := ho1
  obtain ⟨he1, hm1, hk1, hp1⟩ := ho1
  have ht1 := he1.2
  have hz1 := hm1.2
  have hoo2 := ho2
  obtain ⟨he2, hm2, hk2, hp2⟩ := ho2
  have ht2 := he2.2
  have hz2 := hm2.2
  have hl := lv_entry ([.ref ((ca 0)), .ref ((a1 0)), .ref ((a2 0)), .int v]) (n := 6) (Nat.le_of_ble_eq_true rfl)
  rw [lg_entry_eq]
  generalize (lg_sl ([.ref ((ca 0)), .ref ((a1 0)), .ref ((a2 0)), .int v]) ++ List.replicate (6 - (lg_sl ([.ref ((ca 0)), .ref ((a1 0)), .ref ((a2 0)), .int v])).length) Slot.unset).toArray = ls at hl ⊢
  have hl : lv_has ls 6 [(0, .ref ((ca 0))), (1, .ref ((a1 0))), (2, .ref ((a2 0))), (3, .int v)] := hl
  refine lv_aload_n hx hb dX7_fitsPlaceByPlace_0 rfl (lv_at hl 0 rfl) ?_
  refine va_get (D := D) (ci := 7) (v := .ref ((ca 7))) (C := RX7) (T := TX7) (N := 11) hx hb hts iX7 hown hK.1 hP 0 rfl rfl 4 (by decide) (hts _ q_77) (fun _ h9 => h9) rfl dX7_fitsPlaceByPlace_1 ?_
  refine va_get (D := D) (ci := 5) (v := .int (σ 22 0)) (C := RX4) (T := TX4) (N := 3) hx hb hts iX4 hown hK.1 hP 7 rfl rfl 2 (by decide) (hts _ q_65) (fun _ h9 => h9) rfl dX7_fitsPlaceByPlace_4 ?_
  refine lv_aload_n hx hb dX7_fitsPlaceByPlace_7 rfl (lv_at hl 1 rfl) ?_
  refine va_get (D := D) (ci := 4) (v := .ref ((a1 1))) (C := RX3) (T := TX3) (N := 9) hx hb hts iX3 hown hK.1 hQ1 0 rfl rfl 6 (by decide) (hts _ q_318) (fun _ h9 => h9) rfl dX7_fitsPlaceByPlace_8 ?_
  refine va_get (D := D) (ci := 5) (v := .int (σ 18 en1)) (C := RX4) (T := TX4) (N := 3) hx hb hts iX4 hown hK.1 hQ1 1 rfl rfl 2 (by decide) (hts _ q_65) (fun _ h9 => h9) rfl dX7_fitsPlaceByPlace_11 ?_
  refine lv_aload_n hx hb dX7_fitsPlaceByPlace_14 rfl (lv_at hl 2 rfl) ?_
  refine va_get (D := D) (ci := 4) (v := .ref ((a2 1))) (C := RX3) (T := TX3) (N := 9) hx hb hts iX3 hown hK.1 hQ2 0 rfl rfl 6 (by decide) (hts _ q_318) (fun _ h9 => h9) rfl dX7_fitsPlaceByPlace_15 ?_
  refine va_get (D := D) (ci := 5) (v := .int (σ 18 en2)) (C := RX4) (T := TX4) (N := 3) hx hb hts iX4 hown hK.1 hQ2 1 rfl rfl 2 (by decide) (hts _ q_65) (fun _ h9 => h9) rfl dX7_fitsPlaceByPlace_18 ?_
  refine va_mmax hx hb (hml.trans hl.1.symm) hown (hts _ q_505) (hts _ q_506) (hts _ q_20) (hts _ q_507) (Nat.le_of_ble_eq_true rfl) (Nat.le_of_ble_eq_true rfl) (Nat.le_refl _) (Nat.le_refl _) dX7_fitsPlaceByPlace_21 ?_
  refine va_mmax hx hb (hml.trans hl.1.symm) hown (hts _ q_505) (hts _ q_506) (hts _ q_20) (hts _ q_507) (Nat.le_of_ble_eq_true rfl) (Nat.le_of_ble_eq_true rfl) (Nat.le_refl _) (Nat.le_refl _) dX7_fitsPlaceByPlace_24 ?_
  refine lv_istore (lv' := [(4, .int (if σ 22 0 < if σ 18 en1 < σ 18 en2 then σ 18 en2 else σ 18 en1 then if σ 18 en1 < σ 18 en2 then σ 18 en2 else σ 18 en1 else σ 22 0)), (0, .ref ((ca 0))), (1, .ref ((a1 0))), (2, .ref ((a2 0))), (3, .int v)]) hx hb dX7_fitsPlaceByPlace_27 hl (by decide) rfl (fun ls hl => ?_)
  refine lv_iconst (v := 0) hx hb dX7_fitsPlaceByPlace_29 (by decide) ?_
  refine lv_istore (lv' := [(5, .int 0), (4, .int (if σ 22 0 < if σ 18 en1 < σ 18 en2 then σ 18 en2 else σ 18 en1 then if σ 18 en1 < σ 18 en2 then σ 18 en2 else σ 18 en1 else σ 22 0)), (0, .ref ((ca 0))), (1, .ref ((a1 0))), (2, .ref ((a2 0))), (3, .int v)]) hx hb dX7_fitsPlaceByPlace_30 hl (by decide) rfl (fun ls hl => ?_)
  refine w_for (N := (max w0 (max (mnE σ en1) (mnE σ en2)))) 32 (L := fun q9 ls => lv_has ls 6 [(5, .int (nI q9)), (4, .int (if σ 22 0 < if σ 18 en1 < σ 18 en2 then σ 18 en2 else σ 18 en1 then if σ 18 en1 < σ 18 en2 then σ 18 en2 else σ 18 en1 else σ 22 0)), (0, .ref ((ca 0))), (1, .ref ((a1 0))), (2, .ref ((a2 0))), (3, .int v)] ∧ ∀ p, p < q9 → fitP σ (kindF σ en1 p v) (dimF σ en1 p v) (kindF σ en2 p v) (dimF σ en2 p v)) (fun k9 ls hk hL ih => ?_) 0 ls (Nat.zero_le _) ⟨hl, fun p h8 => absurd h8 (Nat.not_lt_zero p)⟩
  obtain ⟨hl, hi⟩ := hL
  have hl : lv_has ls 6 [(5, .int (nI k9)), (4, .int (if σ 22 0 < if σ 18 en1 < σ 18 en2 then σ 18 en2 else σ 18 en1 then if σ 18 en1 < σ 18 en2 then σ 18 en2 else σ 18 en1 else σ 22 0)), (0, .ref ((ca 0))), (1, .ref ((a1 0))), (2, .ref ((a2 0))), (3, .int v)] := hl
  refine lv_iload hx hb dX7_fitsPlaceByPlace_32 (lv_at hl 0 rfl) ?_
  refine lv_iload hx hb dX7_fitsPlaceByPlace_34 (lv_at hl 1 rfl) ?_
  refine lv_icmp_ge (tgt := 82) hx hb dX7_fitsPlaceByPlace_36 (by decide) (fun c1 => ?_) (fun c1 => ?_)
  · -- 36 taken
    have c1 : (max w0 (max (mnE σ en1) (mnE σ en2))) ≤ k9 := (nI_leI (a := (max w0 (max (mnE σ en1) (mnE σ en2)))) (b := k9) (by omega) (by omega)).mp (by have h8 := c1; rw [(n_max h22 (n_max hm1.1 hm2.1 (by omega) (by omega)) (by omega) (by omega))] at h8; exact h8)
    refine lv_iconst (v := 1) hx hb dX7_fitsPlaceByPlace_82 (by decide) ?_
    exact ro_zret (v := 1) hx hb hr hH hlocks dX7_fitsPlaceByPlace_83 (Or.inr rfl) ((bI_t (nrN_def.mpr (fun p hp => hi p (by omega)))).symm)
  · -- 36 not
    have c1 : ¬ (max w0 (max (mnE σ en1) (mnE σ en2))) ≤ k9 := fun h9 => c1 (by rw [(n_max h22 (n_max hm1.1 hm2.1 (by omega) (by omega)) (by omega) (by omega))]; exact (nI_leI (a := (max w0 (max (mnE σ en1) (mnE σ en2)))) (b := k9) (by omega) (by omega)).mpr h9)
    have hkd1 := kdh_2 hp1 hmt1 hmt2 (show k9 < max w0 (max (mnE σ en1) (mnE σ en2)) by omega)
    have hkd2 := kdh_3 hp2 hmt1 hmt2 (show k9 < max w0 (max (mnE σ en1) (mnE σ en2)) by omega)
    refine lv_aload_n hx hb dX7_fitsPlaceByPlace_39 rfl (lv_at hl 2 rfl) ?_
    refine lv_aload_n hx hb dX7_fitsPlaceByPlace_40 rfl (lv_at hl 3 rfl) ?_
    refine lv_iload hx hb dX7_fitsPlaceByPlace_41 (lv_at hl 0 rfl) ?_
    refine lv_iload_n hx hb dX7_fitsPlaceByPlace_43 rfl (lv_at hl 5 rfl) ?_
    refine ro_Vi (D := D) (G := G) (As := [.int (nI k9), .int v]) (rest := [.ref ((ca 0))]) ⟨hx, hb, hml, hown, hts⟩ (c_mkindAt l D G _ _ σ (en1) _ hQ1 hm1 (k9) (by omega) v hkd1) gV_X7_X3_kindAt hdV_X3_kindAt ⟨Nat.le_of_ble_eq_true rfl, Nat.le_of_ble_eq_true rfl⟩ hK (va_recv hK.1 hQ1 (ci := 4) (q0 := 0) rfl rfl) rfl hl.1 rfl (Nat.le_of_ble_eq_true rfl) dX7_fitsPlaceByPlace_44 ⟨Nat.le_of_ble_eq_true rfl, Nat.le_of_ble_eq_true rfl⟩ (fun r2 e_r2 => ?_)
    subst e_r2
    refine lv_aload_n hx hb dX7_fitsPlaceByPlace_47 rfl (lv_at hl 3 rfl) ?_
    refine lv_iload hx hb dX7_fitsPlaceByPlace_48 (lv_at hl 0 rfl) ?_
    refine lv_iload_n hx hb dX7_fitsPlaceByPlace_50 rfl (lv_at hl 5 rfl) ?_
    refine ro_Vi (D := D) (G := G) (As := [.int (nI k9), .int v]) (rest := [.int (kindF σ en1 k9 v), .ref ((ca 0))]) ⟨hx, hb, hml, hown, hts⟩ (c_mdimsAt l D G _ _ σ (en1) _ hQ1 hm1 (k9) (by omega) v hkd1) gV_X7_X3_dimsAt hdV_X3_dimsAt ⟨Nat.le_of_ble_eq_true rfl, Nat.le_of_ble_eq_true rfl⟩ hK (va_recv hK.1 hQ1 (ci := 4) (q0 := 0) rfl rfl) rfl hl.1 rfl (Nat.le_of_ble_eq_true rfl) dX7_fitsPlaceByPlace_51 ⟨Nat.le_of_ble_eq_true rfl, Nat.le_of_ble_eq_true rfl⟩ (fun r3 e_r3 => ?_)
    subst e_r3
    refine lv_aload_n hx hb dX7_fitsPlaceByPlace_54 rfl (lv_at hl 4 rfl) ?_
    refine lv_iload hx hb dX7_fitsPlaceByPlace_55 (lv_at hl 0 rfl) ?_
    refine lv_iload_n hx hb dX7_fitsPlaceByPlace_57 rfl (lv_at hl 5 rfl) ?_
    refine ro_Vi (D := D) (G := G) (As := [.int (nI k9), .int v]) (rest := [.int (dimF σ en1 k9 v), .int (kindF σ en1 k9 v), .ref ((ca 0))]) ⟨hx, hb, hml, hown, hts⟩ (c_mkindAt l D G _ _ σ (en2) _ hQ2 hm2 (k9) (by omega) v hkd2) gV_X7_X3_kindAt hdV_X3_kindAt ⟨Nat.le_of_ble_eq_true rfl, Nat.le_of_ble_eq_true rfl⟩ hK (va_recv hK.1 hQ2 (ci := 4) (q0 := 0) rfl rfl) rfl hl.1 rfl (Nat.le_of_ble_eq_true rfl) dX7_fitsPlaceByPlace_58 ⟨Nat.le_of_ble_eq_true rfl, Nat.le_of_ble_eq_true rfl⟩ (fun r4 e_r4 => ?_)
    subst e_r4
    refine lv_aload_n hx hb dX7_fitsPlaceByPlace_61 rfl (lv_at hl 4 rfl) ?_
    refine lv_iload hx hb dX7_fitsPlaceByPlace_62 (lv_at hl 0 rfl) ?_
    refine lv_iload_n hx hb dX7_fitsPlaceByPlace_64 rfl (lv_at hl 5 rfl) ?_
    refine ro_Vi (D := D) (G := G) (As := [.int (nI k9), .int v]) (rest := [.int (kindF σ en2 k9 v), .int (dimF σ en1 k9 v), .int (kindF σ en1 k9 v), .ref ((ca 0))]) ⟨hx, hb, hml, hown, hts⟩ (c_mdimsAt l D G _ _ σ (en2) _ hQ2 hm2 (k9) (by omega) v hkd2) gV_X7_X3_dimsAt hdV_X3_dimsAt ⟨Nat.le_of_ble_eq_true rfl, Nat.le_of_ble_eq_true rfl⟩ hK (va_recv hK.1 hQ2 (ci := 4) (q0 := 0) rfl rfl) rfl hl.1 rfl (Nat.le_of_ble_eq_true rfl) dX7_fitsPlaceByPlace_65 ⟨Nat.le_of_ble_eq_true rfl, Nat.le_of_ble_eq_true rfl⟩ (fun r5 e_r5 => ?_)
    subst e_r5
    refine ro_Vi (D := D) (G := G) (As := [.int (kindF σ en1 k9 v), .int (dimF σ en1 k9 v), .int (kindF σ en2 k9 v), .int (dimF σ en2 k9 v)]) (rest := []) ⟨hx, hb, hml, hown, hts⟩ (c_fits l D G _ ca _ ea n k w0 σ x κ hP hE hI0 (kindF σ en1 k9 v) (dimF σ en1 k9 v) (kindF σ en2 k9 v) (dimF σ en2 k9 v) (kindF_ok hp1 hkd1).1 (kindF_ok hp2 hkd2).1 (kindF_ok hp2 hkd2).2) gV_X7_X7_fits hdV_X7_fits ⟨Nat.le_of_ble_eq_true rfl, Nat.le_of_ble_eq_true rfl⟩ hK (va_recv hK.1 hP (ci := 7) (q0 := 0) rfl rfl) rfl hl.1 rfl (Nat.le_of_ble_eq_true rfl) dX7_fitsPlaceByPlace_68 ⟨Nat.le_of_ble_eq_true rfl, Nat.le_of_ble_eq_true rfl⟩ (fun r6 e_r6 => ?_)
    subst e_r6
    refine lv_if_ne (tgt := 76) hx hb dX7_fitsPlaceByPlace_71 (by decide) (fun c7 => ?_) (fun c7 => ?_)
    · -- 71 taken
      have c7 := bI_1 c7
      refine lv_iinc (v := nI (k9 + 1)) (lv' := [(5, .int (nI (k9 + 1))), (4, .int (if σ 22 0 < if σ 18 en1 < σ 18 en2 then σ 18 en2 else σ 18 en1 then if σ 18 en1 < σ 18 en2 then σ 18 en2 else σ 18 en1 else σ 22 0)), (0, .ref ((ca 0))), (1, .ref ((a1 0))), (2, .ref ((a2 0))), (3, .int v)]) hx hb dX7_fitsPlaceByPlace_76 hl (k := 0) rfl (nI_1 _) (by decide) rfl (fun ls hl => ?_)
      refine lv_goto (tgt := 32) hx hb dX7_fitsPlaceByPlace_79 (by decide) ?_
      exact ih _ (by omega) ⟨lv_sub hl [0, 1, 2, 3, 4, 5] rfl, fun p h8 => by rcases Nat.lt_or_ge p k9 with h9 | h9; exact hi p h9; rw [show p = k9 by omega]; exact c7⟩
    · -- 71 not
      have c7 := bI_0 c7
      refine lv_iconst (v := 0) hx hb dX7_fitsPlaceByPlace_74 (by decide) ?_
      exact ro_zret (v := 0) hx hb hr hH hlocks dX7_fitsPlaceByPlace_75 (Or.inl rfl) ((bI_f (fun h9 => c7 (nrN_def.mp h9 k9 (by omega)))).symm)
set_option maxHeartbeats 4000000 in
set_option maxRecDepth 100000 in
theorem c_isNearest (l : Launch) (D : va_G) (G : Nat → ClassId) (H : Heap) (ca : Nat → Nat) (bg : Value) (ea : Nat → Nat → Nat) (n k w0 : Nat) (σ x : MS) (κ : Nat → Int64) (hP : va_P D vwCl (cF G ca bg (enF ea k) σ x) H) (hE : ∀ e, e < k → va_P D vwCl (eW G (ea e) σ κ e) H) (hI : cI σ x n k w0) (a1 : Nat → Nat) (en1 : Nat) (me1 : Int32) (hQ1 : va_P D vwCl (mbW G a1 σ en1 me1) H) (ho1 : mI σ n en1) (v : Int32) (hmt1 : mtb σ w0 en1 v) (hft : ∀ e, e < k → ¬ x 4 e = 0 → ¬ σ 8 e = 0 ∧ mtb σ w0 e v) : Met l yX7_isNearest (ww yX7_isNearest cX7_isNearest 6 (some .boolean)) (rmD 4) (roP D G H [.ref ((ca 0)), .ref ((a1 0)), .int v]) (vp_Si (fun r => r = bI (inP σ (x 4) w0 en1 v k))) 0 0 (fun _ => False) := by
  refine Met.ofW (cc := cX7_isNearest) (maxL := 6) (ret := (some .boolean)) (by decide) rfl ?_
  intro p e s m args below meth c s₁ B hml hv
  obtain ⟨rfl, hH, hK⟩ := hv
  have hx := B.exec
  have hb := B.bytes
  have hr := B.returns
  have hts : ∀ w ∈ TT, w.before _ s = true := fun w h => atoms_spec (ws := ww yX7_isNearest cX7_isNearest 6 (some .boolean)) B.pre w (List.mem_cons_of_mem _ h)
  have hown : s.vm.findClass RX7 = some m.cls := findClass_of_methodNamed B.named
  have hlocks := B.notSynchronized
  rw [hH]
  have hI0 := hI
  obtain ⟨h1, hn, h7, hk60, h22, hw, hab, hfa, hmi, hak, hrf⟩ := hI
  have hoo1 := ho1
  obtain ⟨he1, hm1, hk1, hp1⟩ := ho1
  have ht1 := he1.2
  have hz1 := hm1.2
  have hl := lv_entry ([.ref ((ca 0)), .ref ((a1 0)), .int v]) (n := 6) (Nat.le_of_ble_eq_true rfl)
  rw [lg_entry_eq]
  generalize (lg_sl ([.ref ((ca 0)), .ref ((a1 0)), .int v]) ++ List.replicate (6 - (lg_sl ([.ref ((ca 0)), .ref ((a1 0)), .int v])).length) Slot.unset).toArray = ls at hl ⊢
  have hl : lv_has ls 6 [(0, .ref ((ca 0))), (1, .ref ((a1 0))), (2, .int v)] := hl
  refine lv_iconst (v := 0) hx hb dX7_isNearest_0 (by decide) ?_
  refine lv_istore_n (lv' := [(3, .int 0), (0, .ref ((ca 0))), (1, .ref ((a1 0))), (2, .int v)]) hx hb dX7_isNearest_1 rfl hl (by decide) rfl (fun ls hl => ?_)
  refine w_for (N := k) 2 (L := fun q9 ls => lv_has ls 6 [(3, .int (nI q9)), (0, .ref ((ca 0))), (1, .ref ((a1 0))), (2, .int v)] ∧ ∀ o, o < q9 → ¬ x 4 o = 0 → nrN σ en1 o v (max w0 (max (mnE σ en1) (mnE σ o)))) (fun k9 ls hk hL ih => ?_) 0 ls (Nat.zero_le _) ⟨hl, fun p h8 => absurd h8 (Nat.not_lt_zero p)⟩
  obtain ⟨hl, hi⟩ := hL
  have hl : lv_has ls 6 [(3, .int (nI k9)), (0, .ref ((ca 0))), (1, .ref ((a1 0))), (2, .int v)] := hl
  refine lv_iload_n hx hb dX7_isNearest_2 rfl (lv_at hl 0 rfl) ?_
  refine lv_aload_n hx hb dX7_isNearest_3 rfl (lv_at hl 1 rfl) ?_
  refine va_get (D := D) (ci := 7) (v := .int (σ 7 0)) (C := RX7) (T := TX7) (N := 11) hx hb hts iX7 hown hK.1 hP 0 rfl rfl 2 (by decide) (hts _ q_75) (fun _ h9 => h9) rfl dX7_isNearest_4 ?_
  refine lv_icmp_ge (tgt := 61) hx hb dX7_isNearest_7 (by decide) (fun c1 => ?_) (fun c1 => ?_)
  · -- 7 taken
    have c1 : k ≤ k9 := (nI_leI (a := k) (b := k9) (by omega) (by omega)).mp (by have h8 := c1; rw [h7] at h8; exact h8)
    refine lv_iconst (v := 1) hx hb dX7_isNearest_61 (by decide) ?_
    exact ro_zret (v := 1) hx hb hr hH hlocks dX7_isNearest_62 (Or.inr rfl) ((bI_t (inP_def.mpr (fun o h8 h6 => hi o (by omega) h6))).symm)
  · -- 7 not
    have c1 : ¬ k ≤ k9 := fun h9 => c1 (by rw [h7]; exact (nI_leI (a := k) (b := k9) (by omega) (by omega)).mpr h9)
    refine lv_aload_n hx hb dX7_isNearest_10 rfl (lv_at hl 1 rfl) ?_
    refine va_get (D := D) (ci := 7) (v := .ref ((ca 13))) (C := RX7) (T := TX7) (N := 11) hx hb hts iX7 hown hK.1 hP 0 rfl rfl 10 (by decide) (hts _ q_83) (fun _ h9 => h9) rfl dX7_isNearest_11 ?_
    refine lv_iload_n hx hb dX7_isNearest_14 rfl (lv_at hl 0 rfl) ?_
    refine zald_n (f := x 4) hx hb hK.1 hP 13 2 rfl rfl (k9) rfl (by omega) (by decide) dX7_isNearest_15 ?_
    refine lv_if_eq (tgt := 55) hx hb dX7_isNearest_16 (by decide) (fun c2 => ?_) (fun c2 => ?_)
    · -- 16 taken
      refine lv_iinc (v := nI (k9 + 1)) (lv' := [(3, .int (nI (k9 + 1))), (0, .ref ((ca 0))), (1, .ref ((a1 0))), (2, .int v)]) hx hb dX7_isNearest_55 hl (k := 0) rfl (nI_1 _) (by decide) rfl (fun ls hl => ?_)
      refine lv_goto (tgt := 2) hx hb dX7_isNearest_58 (by decide) ?_
      exact ih _ (by omega) ⟨lv_sub hl [0, 1, 2, 3] rfl, fun o h8 h6 => by rcases Nat.lt_or_ge o k9 with h9 | h9; exact hi o h9 h6; obtain rfl : o = k9 := (by omega); exact absurd c2 h6⟩
    · -- 16 not
      have h8k := (hft k9 (by omega) c2).1
      refine lv_aload_n hx hb dX7_isNearest_19 rfl (lv_at hl 1 rfl) ?_
      refine va_get (D := D) (ci := 7) (v := .ref ((ca 6))) (C := RX7) (T := TX7) (N := 11) hx hb hts iX7 hown hK.1 hP 0 rfl rfl 1 (by decide) (hts _ q_74) (fun _ h9 => h9) rfl dX7_isNearest_20 ?_
      refine lv_iload_n hx hb dX7_isNearest_23 rfl (lv_at hl 0 rfl) ?_
      refine aald_e hx hb hK.1 hP 6 rfl (k9) rfl (by omega) (by omega) dX7_isNearest_24 ?_
      refine lv_astore (lv' := [(5, .ref ((ea k9 0))), (3, .int (nI k9)), (0, .ref ((ca 0))), (1, .ref ((a1 0))), (2, .int v)]) hx hb dX7_isNearest_25 hl (by decide) rfl (fun ls hl => ?_)
      refine lv_aload hx hb dX7_isNearest_27 (lv_at hl 0 rfl) ?_
      refine inst_m hx hb hown (hts _ q_307) hK (hE k9 (by omega)) dX7_isNearest_29 ?_
      refine lv_if_eq (tgt := 55) hx hb dX7_isNearest_32 (by decide) (fun hh => absurd h8k (bI_0 hh)) (fun hh => ?_)
      refine lv_aload hx hb dX7_isNearest_35 (lv_at hl 0 rfl) ?_
      have hM_k9 := eW_m (hE k9 (by omega)) h8k
      have hmi_k9 := mJ_m (hmi k9 (by omega)) h8k
      have ht_k9 := hmi_k9.1.2
      have hz_k9 := hmi_k9.2.1.2
      refine va_castY (C := RX3) hx hb hown (hts _ q_307) hK.2.2.1 (va_recv hK.1 hM_k9 (ci := 4) (q0 := 0) rfl rfl) dX7_isNearest_37 ?_
      refine lv_astore (lv' := [(4, .ref ((ea k9 0))), (5, .ref ((ea k9 0))), (3, .int (nI k9)), (0, .ref ((ca 0))), (1, .ref ((a1 0))), (2, .int v)]) hx hb dX7_isNearest_40 hl (by decide) rfl (fun ls hl => ?_)
      refine lv_aload_n hx hb dX7_isNearest_42 rfl (lv_at hl 3 rfl) ?_
      refine lv_aload_n hx hb dX7_isNearest_43 rfl (lv_at hl 4 rfl) ?_
      refine lv_aload hx hb dX7_isNearest_44 (lv_at hl 0 rfl) ?_
      refine lv_iload_n hx hb dX7_isNearest_46 rfl (lv_at hl 5 rfl) ?_
      refine ro_Vi (D := D) (G := G) (As := [.ref ((a1 0)), .ref ((ea k9 0)), .int v]) (rest := []) ⟨hx, hb, hml, hown, hts⟩ (c_fitsPlaceByPlace l D G _ ca _ ea n k w0 σ x κ hP hE hI0 a1 en1 _ hQ1 hoo1 (ea k9) k9 _ hM_k9 hmi_k9 v hmt1 (hft k9 (by omega) c2).2) gV_X7_X7_fitsPlaceByPlace hdV_X7_fitsPlaceByPlace ⟨Nat.le_of_ble_eq_true rfl, Nat.le_of_ble_eq_true rfl⟩ hK (va_recv hK.1 hP (ci := 7) (q0 := 0) rfl rfl) rfl hl.1 rfl (Nat.le_of_ble_eq_true rfl) dX7_isNearest_47 ⟨Nat.le_of_ble_eq_true rfl, Nat.le_of_ble_eq_true rfl⟩ (fun r4 e_r4 => ?_)
      subst e_r4
      refine lv_if_ne (tgt := 55) hx hb dX7_isNearest_50 (by decide) (fun c5 => ?_) (fun c5 => ?_)
      · -- 50 taken
        have c5 := bI_1 c5
        refine lv_iinc (v := nI (k9 + 1)) (lv' := [(3, .int (nI (k9 + 1))), (4, .ref ((ea k9 0))), (5, .ref ((ea k9 0))), (0, .ref ((ca 0))), (1, .ref ((a1 0))), (2, .int v)]) hx hb dX7_isNearest_55 hl (k := 2) rfl (nI_1 _) (by decide) rfl (fun ls hl => ?_)
        refine lv_goto (tgt := 2) hx hb dX7_isNearest_58 (by decide) ?_
        exact ih _ (by omega) ⟨lv_sub hl [0, 3, 4, 5] rfl, fun o h8 h6 => by rcases Nat.lt_or_ge o k9 with h9 | h9; exact hi o h9 h6; obtain rfl : o = k9 := (by omega); exact c5⟩
      · -- 50 not
        have c5 := bI_0 c5
        refine lv_iconst (v := 0) hx hb dX7_isNearest_53 (by decide) ?_
        exact ro_zret (v := 0) hx hb hr hH hlocks dX7_isNearest_54 (Or.inl rfl) ((bI_f (fun h9 => c5 (inP_def.mp h9 k9 (by omega) c2))).symm)
set_option maxHeartbeats 4000000 in
set_option maxRecDepth 100000 in
theorem c_nearestFitting (l : Launch) (D : va_G) (G : Nat → ClassId) (H : Heap) (ca : Nat → Nat) (bg : Value) (ea : Nat → Nat → Nat) (n k w0 : Nat) (σ x : MS) (κ : Nat → Int64) (hP : va_P D vwCl (cF G ca bg (enF ea k) σ x) H) (hE : ∀ e, e < k → va_P D vwCl (eW G (ea e) σ κ e) H) (hI : cI σ x n k w0) (v : Int32) (hft : ∀ e, e < k → ¬ x 4 e = 0 → ¬ σ 8 e = 0 ∧ mtb σ w0 e v) : Met l yX7_nearestFitting (ww yX7_nearestFitting cX7_nearestFitting 6 (some .int)) (rmD 5) (roP D G H [.ref ((ca 0)), .int v]) (vp_Si (fun r => r = nfF σ (x 4) w0 v k k 0 (-2))) 0 0 (fun _ => False) := by
  refine Met.ofW (cc := cX7_nearestFitting) (maxL := 6) (ret := (some .int)) (by decide) rfl ?_
  intro p e s m args below meth c s₁ B hml hv
  obtain ⟨rfl, hH, hK⟩ := hv
  have hx := B.exec
  have hb := B.bytes
  have hr := B.returns
  have hts : ∀ w ∈ TT, w.before _ s = true := fun w h => atoms_spec (ws := ww yX7_nearestFitting cX7_nearestFitting 6 (some .int)) B.pre w (List.mem_cons_of_mem _ h)
  have hown : s.vm.findClass RX7 = some m.cls := findClass_of_methodNamed B.named
  have hlocks := B.notSynchronized
  rw [hH]
  have hI0 := hI
  obtain ⟨h1, hn, h7, hk60, h22, hw, hab, hfa, hmi, hak, hrf⟩ := hI
  have hl := lv_entry ([.ref ((ca 0)), .int v]) (n := 6) (Nat.le_of_ble_eq_true rfl)
  rw [lg_entry_eq]
  generalize (lg_sl ([.ref ((ca 0)), .int v]) ++ List.replicate (6 - (lg_sl ([.ref ((ca 0)), .int v])).length) Slot.unset).toArray = ls at hl ⊢
  have hl : lv_has ls 6 [(0, .ref ((ca 0))), (1, .int v)] := hl
  refine lv_bipush (v := -2) hx hb dX7_nearestFitting_0 (by decide) ?_
  refine lv_istore_n (lv' := [(2, .int ((-2))), (0, .ref ((ca 0))), (1, .int v)]) hx hb dX7_nearestFitting_2 rfl hl (by decide) rfl (fun ls hl => ?_)
  refine lv_iconst (v := 0) hx hb dX7_nearestFitting_3 (by decide) ?_
  refine lv_istore_n (lv' := [(3, .int 0), (2, .int ((-2))), (0, .ref ((ca 0))), (1, .int v)]) hx hb dX7_nearestFitting_4 rfl hl (by decide) rfl (fun ls hl => ?_)
  refine w_for (N := k) 5 (L := fun q9 ls => ∃ nr : Int32, lv_has ls 6 [(3, .int (nI q9)), (2, .int nr), (0, .ref ((ca 0))), (1, .int v)] ∧ nfF σ (x 4) w0 v k k 0 (-2) = nfF σ (x 4) w0 v k (k - q9) q9 nr) (fun k9 ls hk hL ih => ?_) 0 ls (Nat.zero_le _) ⟨(-2), hl, by rw [Nat.sub_zero]⟩
  obtain ⟨nr, hl, hi⟩ := hL
  have hl : lv_has ls 6 [(3, .int (nI k9)), (2, .int nr), (0, .ref ((ca 0))), (1, .int v)] := hl
  refine lv_iload_n hx hb dX7_nearestFitting_5 rfl (lv_at hl 0 rfl) ?_
  refine lv_aload_n hx hb dX7_nearestFitting_6 rfl (lv_at hl 2 rfl) ?_
  refine va_get (D := D) (ci := 7) (v := .int (σ 7 0)) (C := RX7) (T := TX7) (N := 11) hx hb hts iX7 hown hK.1 hP 0 rfl rfl 2 (by decide) (hts _ q_75) (fun _ h9 => h9) rfl dX7_nearestFitting_7 ?_
  refine lv_icmp_ge (tgt := 72) hx hb dX7_nearestFitting_10 (by decide) (fun c1 => ?_) (fun c1 => ?_)
  · -- 10 taken
    have c1 : k ≤ k9 := (nI_leI (a := k) (b := k9) (by omega) (by omega)).mp (by have h8 := c1; rw [h7] at h8; exact h8)
    refine lv_iload_n hx hb dX7_nearestFitting_72 rfl (lv_at hl 1 rfl) ?_
    exact ro_iret (v := nr) hx hb hr hH hlocks dX7_nearestFitting_73 (by rw [hi, show k - k9 = 0 by omega]; rfl)
  · -- 10 not
    have c1 : ¬ k ≤ k9 := fun h9 => c1 (by rw [h7]; exact (nI_leI (a := k) (b := k9) (by omega) (by omega)).mpr h9)
    refine lv_aload_n hx hb dX7_nearestFitting_13 rfl (lv_at hl 2 rfl) ?_
    refine va_get (D := D) (ci := 7) (v := .ref ((ca 13))) (C := RX7) (T := TX7) (N := 11) hx hb hts iX7 hown hK.1 hP 0 rfl rfl 10 (by decide) (hts _ q_83) (fun _ h9 => h9) rfl dX7_nearestFitting_14 ?_
    refine lv_iload_n hx hb dX7_nearestFitting_17 rfl (lv_at hl 0 rfl) ?_
    refine zald_n (f := x 4) hx hb hK.1 hP 13 2 rfl rfl (k9) rfl (by omega) (by decide) dX7_nearestFitting_18 ?_
    refine lv_if_eq (tgt := 66) hx hb dX7_nearestFitting_19 (by decide) (fun c2 => ?_) (fun c2 => ?_)
    · -- 19 taken
      refine lv_iinc (v := nI (k9 + 1)) (lv' := [(3, .int (nI (k9 + 1))), (2, .int nr), (0, .ref ((ca 0))), (1, .int v)]) hx hb dX7_nearestFitting_66 hl (k := 0) rfl (nI_1 _) (by decide) rfl (fun ls hl => ?_)
      refine lv_goto (tgt := 5) hx hb dX7_nearestFitting_69 (by decide) ?_
      rw [nfF_u (by omega), if_neg (fun h9 => h9.1 c2)] at hi
      exact ih _ (by omega) ⟨nr, lv_sub hl [0, 1, 2, 3] rfl, hi⟩
    · -- 19 not
      have h8k := (hft k9 (by omega) c2).1
      refine lv_aload_n hx hb dX7_nearestFitting_22 rfl (lv_at hl 2 rfl) ?_
      refine va_get (D := D) (ci := 7) (v := .ref ((ca 6))) (C := RX7) (T := TX7) (N := 11) hx hb hts iX7 hown hK.1 hP 0 rfl rfl 1 (by decide) (hts _ q_74) (fun _ h9 => h9) rfl dX7_nearestFitting_23 ?_
      refine lv_iload_n hx hb dX7_nearestFitting_26 rfl (lv_at hl 0 rfl) ?_
      refine aald_e hx hb hK.1 hP 6 rfl (k9) rfl (by omega) (by omega) dX7_nearestFitting_27 ?_
      refine lv_astore (lv' := [(5, .ref ((ea k9 0))), (3, .int (nI k9)), (2, .int nr), (0, .ref ((ca 0))), (1, .int v)]) hx hb dX7_nearestFitting_28 hl (by decide) rfl (fun ls hl => ?_)
      refine lv_aload hx hb dX7_nearestFitting_30 (lv_at hl 0 rfl) ?_
      refine inst_m hx hb hown (hts _ q_307) hK (hE k9 (by omega)) dX7_nearestFitting_32 ?_
      refine lv_if_eq (tgt := 66) hx hb dX7_nearestFitting_35 (by decide) (fun hh => absurd h8k (bI_0 hh)) (fun hh => ?_)
      refine lv_aload hx hb dX7_nearestFitting_38 (lv_at hl 0 rfl) ?_
      have hM_k9 := eW_m (hE k9 (by omega)) h8k
      have hmi_k9 := mJ_m (hmi k9 (by omega)) h8k
      have ht_k9 := hmi_k9.1.2
      have hz_k9 := hmi_k9.2.1.2
      refine va_castY (C := RX3) hx hb hown (hts _ q_307) hK.2.2.1 (va_recv hK.1 hM_k9 (ci := 4) (q0 := 0) rfl rfl) dX7_nearestFitting_40 ?_
      refine lv_astore (lv' := [(4, .ref ((ea k9 0))), (5, .ref ((ea k9 0))), (3, .int (nI k9)), (2, .int nr), (0, .ref ((ca 0))), (1, .int v)]) hx hb dX7_nearestFitting_43 hl (by decide) rfl (fun ls hl => ?_)
      refine lv_aload_n hx hb dX7_nearestFitting_45 rfl (lv_at hl 4 rfl) ?_
      refine lv_aload hx hb dX7_nearestFitting_46 (lv_at hl 0 rfl) ?_
      refine lv_iload_n hx hb dX7_nearestFitting_48 rfl (lv_at hl 5 rfl) ?_
      refine ro_Vi (D := D) (G := G) (As := [.ref ((ea k9 0)), .int v]) (rest := []) ⟨hx, hb, hml, hown, hts⟩ (c_isNearest l D G _ ca _ ea n k w0 σ x κ hP hE hI0 (ea k9) k9 _ hM_k9 hmi_k9 v (hft k9 (by omega) c2).2 hft) gV_X7_X7_isNearest hdV_X7_isNearest ⟨Nat.le_of_ble_eq_true rfl, Nat.le_of_ble_eq_true rfl⟩ hK (va_recv hK.1 hP (ci := 7) (q0 := 0) rfl rfl) rfl hl.1 rfl (Nat.le_of_ble_eq_true rfl) dX7_nearestFitting_49 ⟨Nat.le_of_ble_eq_true rfl, Nat.le_of_ble_eq_true rfl⟩ (fun r4 e_r4 => ?_)
      subst e_r4
      refine lv_if_eq (tgt := 66) hx hb dX7_nearestFitting_52 (by decide) (fun c5 => ?_) (fun c5 => ?_)
      · -- 52 taken
        have c5 := bI_0 c5
        refine lv_iinc (v := nI (k9 + 1)) (lv' := [(3, .int (nI (k9 + 1))), (4, .ref ((ea k9 0))), (5, .ref ((ea k9 0))), (2, .int nr), (0, .ref ((ca 0))), (1, .int v)]) hx hb dX7_nearestFitting_66 hl (k := 2) rfl (nI_1 _) (by decide) rfl (fun ls hl => ?_)
        refine lv_goto (tgt := 5) hx hb dX7_nearestFitting_69 (by decide) ?_
        rw [nfF_u (by omega), if_neg (fun h9 => c5 h9.2)] at hi
        exact ih _ (by omega) ⟨nr, lv_sub hl [0, 3, 4, 5] rfl, hi⟩
      · -- 52 not
        have c5 := bI_1 c5
        refine lv_iload_n hx hb dX7_nearestFitting_55 rfl (lv_at hl 3 rfl) ?_
        refine lv_bipush (v := -2) hx hb dX7_nearestFitting_56 (by decide) ?_
        refine lv_icmp_eq (tgt := 64) hx hb dX7_nearestFitting_58 (by decide) (fun c6 => ?_) (fun c6 => ?_)
        · -- 58 taken
          refine lv_iload_n hx hb dX7_nearestFitting_64 rfl (lv_at hl 2 rfl) ?_
          refine lv_istore_n (lv' := [(2, .int (nI k9)), (4, .ref ((ea k9 0))), (5, .ref ((ea k9 0))), (3, .int (nI k9)), (0, .ref ((ca 0))), (1, .int v)]) hx hb dX7_nearestFitting_65 rfl hl (by decide) rfl (fun ls hl => ?_)
          refine lv_iinc (v := nI (k9 + 1)) (lv' := [(3, .int (nI (k9 + 1))), (2, .int (nI k9)), (4, .ref ((ea k9 0))), (5, .ref ((ea k9 0))), (0, .ref ((ca 0))), (1, .int v)]) hx hb dX7_nearestFitting_66 hl (k := 3) rfl (nI_1 _) (by decide) rfl (fun ls hl => ?_)
          refine lv_goto (tgt := 5) hx hb dX7_nearestFitting_69 (by decide) ?_
          rw [nfF_u (by omega), if_pos ⟨c2, c5⟩, if_pos c6] at hi
          exact ih _ (by omega) ⟨nI k9, lv_sub hl [0, 1, 4, 5] rfl, hi⟩
        · -- 58 not
          refine lv_bipush (v := -2) hx hb dX7_nearestFitting_61 (by decide) ?_
          exact ro_iret (v := (-2)) hx hb hr hH hlocks dX7_nearestFitting_63 (by rw [hi, nfF_u (by omega), if_pos ⟨c2, c5⟩, if_neg c6])
set_option maxHeartbeats 4000000 in
set_option maxRecDepth 100000 in
theorem c_mayFill (l : Launch) (D : va_G) (G : Nat → ClassId) (H : Heap) (ca : Nat → Nat) (bg : Value) (ea : Nat → Nat → Nat) (n k w0 : Nat) (σ x : MS) (κ : Nat → Int64) (hP : va_P D vwCl (cF G ca bg (enF ea k) σ x) H) (hE : ∀ e, e < k → va_P D vwCl (eW G (ea e) σ κ e) H) (hI : cI σ x n k w0) (a1 : Nat → Nat) (en1 : Nat) (me1 : Int32) (hQ1 : va_P D vwCl (mbW G a1 σ en1 me1) H) (ho1 : mI σ n en1) : Met l yX7_mayFill (ww yX7_mayFill cX7_mayFill 2 (some .boolean)) (rmD 3) (roP D G H [.ref ((ca 0)), .ref ((a1 0))]) (vp_Si (fun r => r = bI (mfP σ en1))) 0 0 (fun _ => False) := by
  refine Met.ofW (cc := cX7_mayFill) (maxL := 2) (ret := (some .boolean)) (by decide) rfl ?_
  intro p e s m args below meth c s₁ B hml hv
  obtain ⟨rfl, hH, hK⟩ := hv
  have hx := B.exec
  have hb := B.bytes
  have hr := B.returns
  have hts : ∀ w ∈ TT, w.before _ s = true := fun w h => atoms_spec (ws := ww yX7_mayFill cX7_mayFill 2 (some .boolean)) B.pre w (List.mem_cons_of_mem _ h)
  have hown : s.vm.findClass RX7 = some m.cls := findClass_of_methodNamed B.named
  have hlocks := B.notSynchronized
  rw [hH]
  have hI0 := hI
  obtain ⟨h1, hn, h7, hk60, h22, hw, hab, hfa, hmi, hak, hrf⟩ := hI
  have hoo1 := ho1
  obtain ⟨he1, hm1, hk1, hp1⟩ := ho1
  have ht1 := he1.2
  have hz1 := hm1.2
  have hl := lv_entry ([.ref ((ca 0)), .ref ((a1 0))]) (n := 2) (Nat.le_of_ble_eq_true rfl)
  rw [lg_entry_eq]
  generalize (lg_sl ([.ref ((ca 0)), .ref ((a1 0))]) ++ List.replicate (2 - (lg_sl ([.ref ((ca 0)), .ref ((a1 0))])).length) Slot.unset).toArray = ls at hl ⊢
  have hl : lv_has ls 2 [(0, .ref ((ca 0))), (1, .ref ((a1 0)))] := hl
  refine lv_aload_n hx hb dX7_mayFill_0 rfl (lv_at hl 0 rfl) ?_
  refine va_get (D := D) (ci := 7) (v := .ref ((ca 1))) (C := RX7) (T := TX7) (N := 11) hx hb hts iX7 hown hK.1 hP 0 rfl rfl 0 (by decide) (hts _ q_73) (fun _ h9 => h9) rfl dX7_mayFill_1 ?_
  refine lv_aload_n hx hb dX7_mayFill_4 rfl (lv_at hl 1 rfl) ?_
  refine va_get (D := D) (ci := 4) (v := .int (σ 9 en1)) (C := RX3) (T := TX3) (N := 9) hx hb hts iX3 hown hK.1 hQ1 0 rfl rfl 0 (by decide) (hts _ q_220) (fun x9 h9 => u_same (hts _ q_221) x9 h9) rfl dX7_mayFill_5 ?_
  refine W.eq (g2 := F0 m 8 ls [.int (nI (tyE σ en1)), .ref ((ca 1))]) (congrArg (fun z9 => F0 m 8 ls [.int z9, .ref ((ca 1))]) he1.1) ?_
  refine ro_Vi (D := D) (G := G) (As := [.int (nI (tyE σ en1))]) (rest := []) ⟨hx, hb, hml, hown, hts⟩ (c_isFaceN l D G _ ca σ x (cF_ty hP) n h1 hn ((tyE σ en1)) (by omega)) gV_X7_X6_isFace hdV_X6_isFace ⟨Nat.le_of_ble_eq_true rfl, Nat.le_of_ble_eq_true rfl⟩ hK (va_recv hK.1 hP (ci := 6) (q0 := 1) rfl rfl) rfl hl.1 rfl (Nat.le_of_ble_eq_true rfl) dX7_mayFill_8 ⟨Nat.le_of_ble_eq_true rfl, Nat.le_of_ble_eq_true rfl⟩ (fun r1 e_r1 => ?_)
  subst e_r1
  refine lv_if_eq (tgt := 22) hx hb dX7_mayFill_11 (by decide) (fun c2 => ?_) (fun c2 => ?_)
  · -- 11 taken
    have c2 := bI_0 c2
    refine lv_aload_n hx hb dX7_mayFill_22 rfl (lv_at hl 1 rfl) ?_
    refine va_get (D := D) (ci := 4) (v := .int (σ 16 en1)) (C := RX3) (T := TX3) (N := 9) hx hb hts iX3 hown hK.1 hQ1 0 rfl rfl 5 (by decide) (hts _ q_316) (fun _ h9 => h9) rfl dX7_mayFill_23 ?_
    refine lv_if_ne (tgt := 39) hx hb dX7_mayFill_26 (by decide) (fun c3 => ?_) (fun c3 => ?_)
    · -- 26 taken
      refine lv_aload_n hx hb dX7_mayFill_39 rfl (lv_at hl 1 rfl) ?_
      refine lv_bipush (v := 12) hx hb dX7_mayFill_40 (by decide) ?_
      refine ro_Ui (D := D) (G := G) (As := [.int 12]) (rest := []) ⟨hx, hb, hml, hown, hts⟩ (c_hasAnyM l D G _ _ σ (en1) _ hQ1 12) gU_X7_281_X3 rfl (by decide +kernel) ⟨Nat.le_of_ble_eq_true rfl, Nat.le_of_ble_eq_true rfl⟩ hK (va_recv hK.1 hQ1 (ci := 4) (q0 := 0) rfl rfl) rfl hl.1 rfl (Nat.le_of_ble_eq_true rfl) dX7_mayFill_42 ⟨Nat.le_of_ble_eq_true rfl, Nat.le_of_ble_eq_true rfl⟩ (fun r4 e_r4 => ?_)
      subst e_r4
      refine lv_if_ne (tgt := 52) hx hb dX7_mayFill_45 (by decide) (fun c5 => ?_) (fun c5 => ?_)
      · -- 45 taken
        have c5 := bI_1 c5
        refine lv_iconst (v := 0) hx hb dX7_mayFill_52 (by decide) ?_
        exact ro_zret (v := 0) hx hb hr hH hlocks dX7_mayFill_53 (Or.inl rfl) ((bI_f (by simp only [mfP_def, eq_false c2, eq_false c3, eq_false c5, not_true, not_false_iff, not_true_eq_false, not_false_eq_true, true_or, or_true, false_or, or_false, or_self, and_self, true_and, and_true, false_and, and_false, if_true, if_false])).symm)
      · -- 45 not
        have c5 := bI_0 c5
        refine lv_iconst (v := 1) hx hb dX7_mayFill_48 (by decide) ?_
        refine lv_goto (tgt := 53) hx hb dX7_mayFill_49 (by decide) ?_
        exact ro_zret (v := 1) hx hb hr hH hlocks dX7_mayFill_53 (Or.inr rfl) ((bI_t (by simp only [mfP_def, eq_false c2, eq_false c3, eq_true (Decidable.of_not_not c5), not_true, not_false_iff, not_true_eq_false, not_false_eq_true, true_or, or_true, false_or, or_false, or_self, and_self, true_and, and_true, false_and, and_false, if_true, if_false])).symm)
    · -- 26 not
      refine lv_aload_n hx hb dX7_mayFill_29 rfl (lv_at hl 1 rfl) ?_
      refine lv_sipush (v := 256) hx hb dX7_mayFill_30 (by decide) ?_
      refine ro_Ui (D := D) (G := G) (As := [.int 256]) (rest := []) ⟨hx, hb, hml, hown, hts⟩ (c_hasAnyM l D G _ _ σ (en1) _ hQ1 256) gU_X7_281_X3 rfl (by decide +kernel) ⟨Nat.le_of_ble_eq_true rfl, Nat.le_of_ble_eq_true rfl⟩ hK (va_recv hK.1 hQ1 (ci := 4) (q0 := 0) rfl rfl) rfl hl.1 rfl (Nat.le_of_ble_eq_true rfl) dX7_mayFill_33 ⟨Nat.le_of_ble_eq_true rfl, Nat.le_of_ble_eq_true rfl⟩ (fun r6 e_r6 => ?_)
      subst e_r6
      refine lv_if_eq (tgt := 52) hx hb dX7_mayFill_36 (by decide) (fun c7 => ?_) (fun c7 => ?_)
      · -- 36 taken
        have c7 := bI_0 c7
        refine lv_iconst (v := 0) hx hb dX7_mayFill_52 (by decide) ?_
        exact ro_zret (v := 0) hx hb hr hH hlocks dX7_mayFill_53 (Or.inl rfl) ((bI_f (by simp only [mfP_def, eq_false c2, eq_true c3, eq_true (Decidable.of_not_not c7), not_true, not_false_iff, not_true_eq_false, not_false_eq_true, true_or, or_true, false_or, or_false, or_self, and_self, true_and, and_true, false_and, and_false, if_true, if_false])).symm)
      · -- 36 not
        have c7 := bI_1 c7
        refine lv_aload_n hx hb dX7_mayFill_39 rfl (lv_at hl 1 rfl) ?_
        refine lv_bipush (v := 12) hx hb dX7_mayFill_40 (by decide) ?_
        refine ro_Ui (D := D) (G := G) (As := [.int 12]) (rest := []) ⟨hx, hb, hml, hown, hts⟩ (c_hasAnyM l D G _ _ σ (en1) _ hQ1 12) gU_X7_281_X3 rfl (by decide +kernel) ⟨Nat.le_of_ble_eq_true rfl, Nat.le_of_ble_eq_true rfl⟩ hK (va_recv hK.1 hQ1 (ci := 4) (q0 := 0) rfl rfl) rfl hl.1 rfl (Nat.le_of_ble_eq_true rfl) dX7_mayFill_42 ⟨Nat.le_of_ble_eq_true rfl, Nat.le_of_ble_eq_true rfl⟩ (fun r8 e_r8 => ?_)
        subst e_r8
        refine lv_if_ne (tgt := 52) hx hb dX7_mayFill_45 (by decide) (fun c9 => ?_) (fun c9 => ?_)
        · -- 45 taken
          have c9 := bI_1 c9
          refine lv_iconst (v := 0) hx hb dX7_mayFill_52 (by decide) ?_
          exact ro_zret (v := 0) hx hb hr hH hlocks dX7_mayFill_53 (Or.inl rfl) ((bI_f (by simp only [mfP_def, eq_false c2, eq_true c3, eq_false c7, eq_false c9, not_true, not_false_iff, not_true_eq_false, not_false_eq_true, true_or, or_true, false_or, or_false, or_self, and_self, true_and, and_true, false_and, and_false, if_true, if_false])).symm)
        · -- 45 not
          have c9 := bI_0 c9
          refine lv_iconst (v := 1) hx hb dX7_mayFill_48 (by decide) ?_
          refine lv_goto (tgt := 53) hx hb dX7_mayFill_49 (by decide) ?_
          exact ro_zret (v := 1) hx hb hr hH hlocks dX7_mayFill_53 (Or.inr rfl) ((bI_t (by simp only [mfP_def, eq_false c2, eq_true c3, eq_false c7, eq_true (Decidable.of_not_not c9), not_true, not_false_iff, not_true_eq_false, not_false_eq_true, true_or, or_true, false_or, or_false, or_self, and_self, true_and, and_true, false_and, and_false, if_true, if_false])).symm)
  · -- 11 not
    have c2 := bI_1 c2
    refine lv_aload_n hx hb dX7_mayFill_14 rfl (lv_at hl 1 rfl) ?_
    refine lv_sipush (v := 1024) hx hb dX7_mayFill_15 (by decide) ?_
    refine ro_Ui (D := D) (G := G) (As := [.int 1024]) (rest := []) ⟨hx, hb, hml, hown, hts⟩ (c_hasAnyM l D G _ _ σ (en1) _ hQ1 1024) gU_X7_281_X3 rfl (by decide +kernel) ⟨Nat.le_of_ble_eq_true rfl, Nat.le_of_ble_eq_true rfl⟩ hK (va_recv hK.1 hQ1 (ci := 4) (q0 := 0) rfl rfl) rfl hl.1 rfl (Nat.le_of_ble_eq_true rfl) dX7_mayFill_18 ⟨Nat.le_of_ble_eq_true rfl, Nat.le_of_ble_eq_true rfl⟩ (fun r10 e_r10 => ?_)
    subst e_r10
    exact ro_zret (v := bI (¬ σ 13 en1 &&& 1024 = 0)) hx hb hr hH hlocks dX7_mayFill_21 bI_b (bI_c (by simp only [mfP_def, eq_true c2, not_true, not_false_iff, not_true_eq_false, not_false_eq_true, true_or, or_true, false_or, or_false, or_self, and_self, true_and, and_true, false_and, and_false, if_true, if_false]))
set_option maxHeartbeats 4000000 in
set_option maxRecDepth 100000 in
theorem c_isLacking (l : Launch) (D : va_G) (G : Nat → ClassId) (H : Heap) (ca : Nat → Nat) (bg : Value) (ea : Nat → Nat → Nat) (n k w0 : Nat) (σ x : MS) (κ : Nat → Int64) (hP : va_P D vwCl (cF G ca bg (enF ea k) σ x) H) (hE : ∀ e, e < k → va_P D vwCl (eW G (ea e) σ κ e) H) (hI : cI σ x n k w0) (t : Nat) (ht : t < n) (a1 : Nat → Nat) (en1 : Nat) (me1 : Int32) (hQ1 : va_P D vwCl (mbW G a1 σ en1 me1) H) (ho1 : mI σ n en1) (h8 : ¬ σ 8 en1 = 0) : Met l yX7_isLacking (ww yX7_isLacking cX7_isLacking 6 (some .boolean)) (rmD 4) (roP D G H [.ref ((ca 0)), .int (nI t), .ref ((a1 0))]) (vp_Si (fun r => r = bI (lkN σ t en1 k))) 0 0 (fun _ => False) := by
  refine Met.ofW (cc := cX7_isLacking) (maxL := 6) (ret := (some .boolean)) (by decide) rfl ?_
  intro p e s m args below meth c s₁ B hml hv
  obtain ⟨rfl, hH, hK⟩ := hv
  have hx := B.exec
  have hb := B.bytes
  have hr := B.returns
  have hts : ∀ w ∈ TT, w.before _ s = true := fun w h => atoms_spec (ws := ww yX7_isLacking cX7_isLacking 6 (some .boolean)) B.pre w (List.mem_cons_of_mem _ h)
  have hown : s.vm.findClass RX7 = some m.cls := findClass_of_methodNamed B.named
  have hlocks := B.notSynchronized
  rw [hH]
  have hI0 := hI
  obtain ⟨h1, hn, h7, hk60, h22, hw, hab, hfa, hmi, hak, hrf⟩ := hI
  have hoo1 := ho1
  obtain ⟨he1, hm1, hk1, hp1⟩ := ho1
  have ht1 := he1.2
  have hz1 := hm1.2
  have hl := lv_entry ([.ref ((ca 0)), .int (nI t), .ref ((a1 0))]) (n := 6) (Nat.le_of_ble_eq_true rfl)
  rw [lg_entry_eq]
  generalize (lg_sl ([.ref ((ca 0)), .int (nI t), .ref ((a1 0))]) ++ List.replicate (6 - (lg_sl ([.ref ((ca 0)), .int (nI t), .ref ((a1 0))])).length) Slot.unset).toArray = ls at hl ⊢
  have hl : lv_has ls 6 [(0, .ref ((ca 0))), (1, .int (nI t)), (2, .ref ((a1 0)))] := hl
  refine lv_aload_n hx hb dX7_isLacking_0 rfl (lv_at hl 2 rfl) ?_
  refine lv_sipush (v := 128) hx hb dX7_isLacking_1 (by decide) ?_
  refine ro_Ui (D := D) (G := G) (As := [.int 128]) (rest := []) ⟨hx, hb, hml, hown, hts⟩ (c_hasAnyM l D G _ _ σ (en1) _ hQ1 128) gU_X7_281_X3 rfl (by decide +kernel) ⟨Nat.le_of_ble_eq_true rfl, Nat.le_of_ble_eq_true rfl⟩ hK (va_recv hK.1 hQ1 (ci := 4) (q0 := 0) rfl rfl) rfl hl.1 rfl (Nat.le_of_ble_eq_true rfl) dX7_isLacking_4 ⟨Nat.le_of_ble_eq_true rfl, Nat.le_of_ble_eq_true rfl⟩ (fun r1 e_r1 => ?_)
  subst e_r1
  refine lv_if_eq (tgt := 25) hx hb dX7_isLacking_7 (by decide) (fun c2 => ?_) (fun c2 => ?_)
  · -- 7 taken
    have c2 := bI_0 c2
    refine lv_iconst (v := 0) hx hb dX7_isLacking_25 (by decide) ?_
    exact ro_zret (v := 0) hx hb hr hH hlocks dX7_isLacking_26 (Or.inl rfl) ((bI_f (by rw [lk_iff h8]; simp only [eq_true (Decidable.of_not_not c2), not_true, not_false_iff, not_true_eq_false, not_false_eq_true, true_or, or_true, false_or, or_false, or_self, and_self, true_and, and_true, false_and, and_false, if_true, if_false])).symm)
  · -- 7 not
    have c2 := bI_1 c2
    refine lv_aload_n hx hb dX7_isLacking_10 rfl (lv_at hl 0 rfl) ?_
    refine va_get (D := D) (ci := 7) (v := .ref ((ca 1))) (C := RX7) (T := TX7) (N := 11) hx hb hts iX7 hown hK.1 hP 0 rfl rfl 0 (by decide) (hts _ q_73) (fun _ h9 => h9) rfl dX7_isLacking_11 ?_
    refine lv_iload_n hx hb dX7_isLacking_14 rfl (lv_at hl 1 rfl) ?_
    refine lv_aload_n hx hb dX7_isLacking_15 rfl (lv_at hl 2 rfl) ?_
    refine va_get (D := D) (ci := 4) (v := .int (σ 9 en1)) (C := RX3) (T := TX3) (N := 9) hx hb hts iX3 hown hK.1 hQ1 0 rfl rfl 0 (by decide) (hts _ q_220) (fun x9 h9 => u_same (hts _ q_221) x9 h9) rfl dX7_isLacking_16 ?_
    refine W.eq (g2 := F0 m 19 ls [.int (nI (tyE σ en1)), .int (nI t), .ref ((ca 1))]) (congrArg (fun z9 => F0 m 19 ls [.int z9, .int (nI t), .ref ((ca 1))]) he1.1) ?_
    refine ro_Vi (D := D) (G := G) (As := [.int (nI t), .int (nI (tyE σ en1))]) (rest := []) ⟨hx, hb, hml, hown, hts⟩ (c_isBelowN l D G _ ca σ x (cF_ty hP) n h1 hn hab (t) ((tyE σ en1)) (by omega) (by omega)) gV_X7_X6_isBelow hdV_X6_isBelow ⟨Nat.le_of_ble_eq_true rfl, Nat.le_of_ble_eq_true rfl⟩ hK (va_recv hK.1 hP (ci := 6) (q0 := 1) rfl rfl) rfl hl.1 rfl (Nat.le_of_ble_eq_true rfl) dX7_isLacking_19 ⟨Nat.le_of_ble_eq_true rfl, Nat.le_of_ble_eq_true rfl⟩ (fun r3 e_r3 => ?_)
    subst e_r3
    refine lv_if_ne (tgt := 27) hx hb dX7_isLacking_22 (by decide) (fun c4 => ?_) (fun c4 => ?_)
    · -- 22 taken
      have c4 := bI_1 c4
      refine lv_iconst (v := 0) hx hb dX7_isLacking_27 (by decide) ?_
      refine lv_istore_n (lv' := [(3, .int 0), (0, .ref ((ca 0))), (1, .int (nI t)), (2, .ref ((a1 0)))]) hx hb dX7_isLacking_28 rfl hl (by decide) rfl (fun ls hl => ?_)
      refine w_for (N := k) 29 (L := fun q9 ls => lv_has ls 6 [(3, .int (nI q9)), (0, .ref ((ca 0))), (1, .int (nI t)), (2, .ref ((a1 0)))] ∧ ∀ i, i < q9 → ¬ mkP σ t i en1) (fun k9 ls hk hL ih => ?_) 0 ls (Nat.zero_le _) ⟨hl, fun i h8 => absurd h8 (Nat.not_lt_zero i)⟩
      obtain ⟨hl, hi⟩ := hL
      have hl : lv_has ls 6 [(3, .int (nI k9)), (0, .ref ((ca 0))), (1, .int (nI t)), (2, .ref ((a1 0)))] := hl
      refine lv_iload_n hx hb dX7_isLacking_29 rfl (lv_at hl 0 rfl) ?_
      refine lv_aload_n hx hb dX7_isLacking_30 rfl (lv_at hl 1 rfl) ?_
      refine va_get (D := D) (ci := 7) (v := .int (σ 7 0)) (C := RX7) (T := TX7) (N := 11) hx hb hts iX7 hown hK.1 hP 0 rfl rfl 2 (by decide) (hts _ q_75) (fun _ h9 => h9) rfl dX7_isLacking_31 ?_
      refine lv_icmp_ge (tgt := 102) hx hb dX7_isLacking_34 (by decide) (fun c5 => ?_) (fun c5 => ?_)
      · -- 34 taken
        have c5 : k ≤ k9 := (nI_leI (a := k) (b := k9) (by omega) (by omega)).mp (by have h8 := c5; rw [h7] at h8; exact h8)
        refine lv_iconst (v := 1) hx hb dX7_isLacking_102 (by decide) ?_
        exact ro_zret (v := 1) hx hb hr hH hlocks dX7_isLacking_103 (Or.inr rfl) ((bI_t ((lk_iff h8).mpr ⟨c2, c4, fun o h8 => hi o (by omega)⟩)).symm)
      · -- 34 not
        have c5 : ¬ k ≤ k9 := fun h9 => c5 (by rw [h7]; exact (nI_leI (a := k) (b := k9) (by omega) (by omega)).mpr h9)
        refine lv_aload_n hx hb dX7_isLacking_37 rfl (lv_at hl 1 rfl) ?_
        refine va_get (D := D) (ci := 7) (v := .ref ((ca 6))) (C := RX7) (T := TX7) (N := 11) hx hb hts iX7 hown hK.1 hP 0 rfl rfl 1 (by decide) (hts _ q_74) (fun _ h9 => h9) rfl dX7_isLacking_38 ?_
        refine lv_iload_n hx hb dX7_isLacking_41 rfl (lv_at hl 0 rfl) ?_
        refine aald_e hx hb hK.1 hP 6 rfl (k9) rfl (by omega) (by omega) dX7_isLacking_42 ?_
        refine lv_astore (lv' := [(5, .ref ((ea k9 0))), (3, .int (nI k9)), (0, .ref ((ca 0))), (1, .int (nI t)), (2, .ref ((a1 0)))]) hx hb dX7_isLacking_43 hl (by decide) rfl (fun ls hl => ?_)
        refine lv_aload hx hb dX7_isLacking_45 (lv_at hl 0 rfl) ?_
        refine inst_m hx hb hown (hts _ q_307) hK (hE k9 (by omega)) dX7_isLacking_47 ?_
        refine lv_if_eq (tgt := 96) hx hb dX7_isLacking_50 (by decide) (fun c6 => ?_) (fun c6 => ?_)
        · -- 50 taken
          have c6 := bI_0 c6
          refine lv_iinc (v := nI (k9 + 1)) (lv' := [(3, .int (nI (k9 + 1))), (5, .ref ((ea k9 0))), (0, .ref ((ca 0))), (1, .int (nI t)), (2, .ref ((a1 0)))]) hx hb dX7_isLacking_96 hl (k := 1) rfl (nI_1 _) (by decide) rfl (fun ls hl => ?_)
          refine lv_goto (tgt := 29) hx hb dX7_isLacking_99 (by decide) ?_
          exact ih _ (by omega) ⟨lv_sub hl [0, 2, 3, 4] rfl, fun i h8 => by rcases Nat.lt_or_ge i k9 with h9 | h9; exact hi i h9; rw [show i = k9 by omega]; exact fun h6 => c6 (mk_iff.mp h6).1⟩
        · -- 50 not
          have c6 := bI_1 c6
          refine lv_aload hx hb dX7_isLacking_53 (lv_at hl 0 rfl) ?_
          have hM_k9 := eW_m (hE k9 (by omega)) c6
          have hmi_k9 := mJ_m (hmi k9 (by omega)) c6
          have ht_k9 := hmi_k9.1.2
          have hz_k9 := hmi_k9.2.1.2
          refine va_castY (C := RX3) hx hb hown (hts _ q_307) hK.2.2.1 (va_recv hK.1 hM_k9 (ci := 4) (q0 := 0) rfl rfl) dX7_isLacking_55 ?_
          refine lv_astore (lv' := [(4, .ref ((ea k9 0))), (5, .ref ((ea k9 0))), (3, .int (nI k9)), (0, .ref ((ca 0))), (1, .int (nI t)), (2, .ref ((a1 0)))]) hx hb dX7_isLacking_58 hl (by decide) rfl (fun ls hl => ?_)
          refine lv_aload hx hb dX7_isLacking_60 (lv_at hl 0 rfl) ?_
          refine lv_aload_n hx hb dX7_isLacking_62 rfl (lv_at hl 5 rfl) ?_
          refine ro_Vi (D := D) (G := G) (As := [.ref ((a1 0))]) (rest := []) ⟨hx, hb, hml, hown, hts⟩ (c_isLike l D G _ _ σ (k9) _ hM_k9 hmi_k9.2.1 a1 en1 _ hQ1 hm1) gV_X7_X3_isLike hdV_X3_isLike ⟨Nat.le_of_ble_eq_true rfl, Nat.le_of_ble_eq_true rfl⟩ hK (va_recv hK.1 hM_k9 (ci := 4) (q0 := 0) rfl rfl) rfl hl.1 rfl (Nat.le_of_ble_eq_true rfl) dX7_isLacking_63 ⟨Nat.le_of_ble_eq_true rfl, Nat.le_of_ble_eq_true rfl⟩ (fun r7 e_r7 => ?_)
          subst e_r7
          refine lv_if_eq (tgt := 96) hx hb dX7_isLacking_66 (by decide) (fun c8 => ?_) (fun c8 => ?_)
          · -- 66 taken
            have c8 := bI_0 c8
            refine lv_iinc (v := nI (k9 + 1)) (lv' := [(3, .int (nI (k9 + 1))), (4, .ref ((ea k9 0))), (5, .ref ((ea k9 0))), (0, .ref ((ca 0))), (1, .int (nI t)), (2, .ref ((a1 0)))]) hx hb dX7_isLacking_96 hl (k := 2) rfl (nI_1 _) (by decide) rfl (fun ls hl => ?_)
            refine lv_goto (tgt := 29) hx hb dX7_isLacking_99 (by decide) ?_
            exact ih _ (by omega) ⟨lv_sub hl [0, 3, 4, 5] rfl, fun i h8 => by rcases Nat.lt_or_ge i k9 with h9 | h9; exact hi i h9; rw [show i = k9 by omega]; exact fun h6 => c8 (mk_iff.mp h6).2.1⟩
          · -- 66 not
            have c8 := bI_1 c8
            refine lv_aload_n hx hb dX7_isLacking_69 rfl (lv_at hl 3 rfl) ?_
            refine va_get (D := D) (ci := 7) (v := .ref ((ca 1))) (C := RX7) (T := TX7) (N := 11) hx hb hts iX7 hown hK.1 hP 0 rfl rfl 0 (by decide) (hts _ q_73) (fun _ h9 => h9) rfl dX7_isLacking_70 ?_
            refine lv_iload_n hx hb dX7_isLacking_73 rfl (lv_at hl 4 rfl) ?_
            refine lv_aload hx hb dX7_isLacking_74 (lv_at hl 0 rfl) ?_
            refine va_get (D := D) (ci := 4) (v := .int (σ 9 k9)) (C := RX3) (T := TX3) (N := 9) hx hb hts iX3 hown hK.1 hM_k9 0 rfl rfl 0 (by decide) (hts _ q_220) (fun x9 h9 => u_same (hts _ q_221) x9 h9) rfl dX7_isLacking_76 ?_
            refine W.eq (g2 := F0 m 79 ls [.int (nI (tyE σ k9)), .int (nI t), .ref ((ca 1))]) (congrArg (fun z9 => F0 m 79 ls [.int z9, .int (nI t), .ref ((ca 1))]) hmi_k9.1.1) ?_
            refine ro_Vi (D := D) (G := G) (As := [.int (nI t), .int (nI (tyE σ k9))]) (rest := []) ⟨hx, hb, hml, hown, hts⟩ (c_isBelowN l D G _ ca σ x (cF_ty hP) n h1 hn hab (t) ((tyE σ k9)) (by omega) (by omega)) gV_X7_X6_isBelow hdV_X6_isBelow ⟨Nat.le_of_ble_eq_true rfl, Nat.le_of_ble_eq_true rfl⟩ hK (va_recv hK.1 hP (ci := 6) (q0 := 1) rfl rfl) rfl hl.1 rfl (Nat.le_of_ble_eq_true rfl) dX7_isLacking_79 ⟨Nat.le_of_ble_eq_true rfl, Nat.le_of_ble_eq_true rfl⟩ (fun r9 e_r9 => ?_)
            subst e_r9
            refine lv_if_eq (tgt := 96) hx hb dX7_isLacking_82 (by decide) (fun c10 => ?_) (fun c10 => ?_)
            · -- 82 taken
              have c10 := bI_0 c10
              refine lv_iinc (v := nI (k9 + 1)) (lv' := [(3, .int (nI (k9 + 1))), (4, .ref ((ea k9 0))), (5, .ref ((ea k9 0))), (0, .ref ((ca 0))), (1, .int (nI t)), (2, .ref ((a1 0)))]) hx hb dX7_isLacking_96 hl (k := 2) rfl (nI_1 _) (by decide) rfl (fun ls hl => ?_)
              refine lv_goto (tgt := 29) hx hb dX7_isLacking_99 (by decide) ?_
              exact ih _ (by omega) ⟨lv_sub hl [0, 3, 4, 5] rfl, fun i h8 => by rcases Nat.lt_or_ge i k9 with h9 | h9; exact hi i h9; rw [show i = k9 by omega]; exact fun h6 => c10 (mk_iff.mp h6).2.2.1⟩
            · -- 82 not
              have c10 := bI_1 c10
              refine lv_aload_n hx hb dX7_isLacking_85 rfl (lv_at hl 3 rfl) ?_
              refine lv_aload hx hb dX7_isLacking_86 (lv_at hl 0 rfl) ?_
              refine ro_Vi (D := D) (G := G) (As := [.ref ((ea k9 0))]) (rest := []) ⟨hx, hb, hml, hown, hts⟩ (c_mayFill l D G _ ca _ ea n k w0 σ x κ hP hE hI0 (ea k9) k9 _ hM_k9 hmi_k9) gV_X7_X7_mayFill hdV_X7_mayFill ⟨Nat.le_of_ble_eq_true rfl, Nat.le_of_ble_eq_true rfl⟩ hK (va_recv hK.1 hP (ci := 7) (q0 := 0) rfl rfl) rfl hl.1 rfl (Nat.le_of_ble_eq_true rfl) dX7_isLacking_88 ⟨Nat.le_of_ble_eq_true rfl, Nat.le_of_ble_eq_true rfl⟩ (fun r11 e_r11 => ?_)
              subst e_r11
              refine lv_if_eq (tgt := 96) hx hb dX7_isLacking_91 (by decide) (fun c12 => ?_) (fun c12 => ?_)
              · -- 91 taken
                have c12 := bI_0 c12
                refine lv_iinc (v := nI (k9 + 1)) (lv' := [(3, .int (nI (k9 + 1))), (4, .ref ((ea k9 0))), (5, .ref ((ea k9 0))), (0, .ref ((ca 0))), (1, .int (nI t)), (2, .ref ((a1 0)))]) hx hb dX7_isLacking_96 hl (k := 2) rfl (nI_1 _) (by decide) rfl (fun ls hl => ?_)
                refine lv_goto (tgt := 29) hx hb dX7_isLacking_99 (by decide) ?_
                exact ih _ (by omega) ⟨lv_sub hl [0, 3, 4, 5] rfl, fun i h8 => by rcases Nat.lt_or_ge i k9 with h9 | h9; exact hi i h9; rw [show i = k9 by omega]; exact fun h6 => c12 (mk_iff.mp h6).2.2.2⟩
              · -- 91 not
                have c12 := bI_1 c12
                refine lv_iconst (v := 0) hx hb dX7_isLacking_94 (by decide) ?_
                exact ro_zret (v := 0) hx hb hr hH hlocks dX7_isLacking_95 (Or.inl rfl) ((bI_f (fun h9 => ((lk_iff h8).mp h9).2.2 k9 (by omega) (mk_iff.mpr ⟨c6, c8, c10, c12⟩))).symm)
    · -- 22 not
      have c4 := bI_0 c4
      refine lv_iconst (v := 0) hx hb dX7_isLacking_25 (by decide) ?_
      exact ro_zret (v := 0) hx hb hr hH hlocks dX7_isLacking_26 (Or.inl rfl) ((bI_f (by rw [lk_iff h8]; simp only [eq_false c2, eq_false c4, not_true, not_false_iff, not_true_eq_false, not_false_eq_true, true_or, or_true, false_or, or_false, or_self, and_self, true_and, and_true, false_and, and_false, if_true, if_false])).symm)
set_option maxHeartbeats 4000000 in
set_option maxRecDepth 100000 in
theorem c_lacks (l : Launch) (D : va_G) (G : Nat → ClassId) (H : Heap) (ca : Nat → Nat) (bg : Value) (ea : Nat → Nat → Nat) (n k w0 : Nat) (σ x : MS) (κ : Nat → Int64) (hP : va_P D vwCl (cF G ca bg (enF ea k) σ x) H) (hE : ∀ e, e < k → va_P D vwCl (eW G (ea e) σ κ e) H) (hI : cI σ x n k w0) (t : Int32) (ii : Int32) (τ : Nat → Int64) : Met l yX7_lacks (ww yX7_lacks cX7_lacks 7 (some .int)) (rmD 5) (roP D G H [.ref ((ca 0)), .int t, .int ii]) (vp_Si (fun r => r = (oLacks σ τ n k t ii).1)) 0 0 (fun _ => False) := by
  refine Met.ofW (cc := cX7_lacks) (maxL := 7) (ret := (some .int)) (by decide) rfl ?_
  intro p e s m args below meth c s₁ B hml hv
  obtain ⟨rfl, hH, hK⟩ := hv
  have hx := B.exec
  have hb := B.bytes
  have hr := B.returns
  have hts : ∀ w ∈ TT, w.before _ s = true := fun w h => atoms_spec (ws := ww yX7_lacks cX7_lacks 7 (some .int)) B.pre w (List.mem_cons_of_mem _ h)
  have hown : s.vm.findClass RX7 = some m.cls := findClass_of_methodNamed B.named
  have hlocks := B.notSynchronized
  rw [hH]
  have hI0 := hI
  obtain ⟨h1, hn, h7, hk60, h22, hw, hab, hfa, hmi, hak, hrf⟩ := hI
  have hl := lv_entry ([.ref ((ca 0)), .int t, .int ii]) (n := 7) (Nat.le_of_ble_eq_true rfl)
  rw [lg_entry_eq]
  generalize (lg_sl ([.ref ((ca 0)), .int t, .int ii]) ++ List.replicate (7 - (lg_sl ([.ref ((ca 0)), .int t, .int ii])).length) Slot.unset).toArray = ls at hl ⊢
  have hl : lv_has ls 7 [(0, .ref ((ca 0))), (1, .int t), (2, .int ii)] := hl
  refine lv_aload_n hx hb dX7_lacks_0 rfl (lv_at hl 0 rfl) ?_
  refine va_get (D := D) (ci := 7) (v := .ref ((ca 1))) (C := RX7) (T := TX7) (N := 11) hx hb hts iX7 hown hK.1 hP 0 rfl rfl 0 (by decide) (hts _ q_73) (fun _ h9 => h9) rfl dX7_lacks_1 ?_
  refine lv_iload_n hx hb dX7_lacks_4 rfl (lv_at hl 1 rfl) ?_
  refine ro_Vi (D := D) (G := G) (As := [.int t]) (rest := []) ⟨hx, hb, hml, hown, hts⟩ (c_has l D G _ ca σ x (cF_ty hP) n h1 hn t) gV_X7_X6_has hdV_X6_has ⟨Nat.le_of_ble_eq_true rfl, Nat.le_of_ble_eq_true rfl⟩ hK (va_recv hK.1 hP (ci := 6) (q0 := 1) rfl rfl) rfl hl.1 rfl (Nat.le_of_ble_eq_true rfl) dX7_lacks_5 ⟨Nat.le_of_ble_eq_true rfl, Nat.le_of_ble_eq_true rfl⟩ (fun r1 e_r1 => ?_)
  subst e_r1
  refine lv_if_ne (tgt := 14) hx hb dX7_lacks_8 (by decide) (fun c2 => ?_) (fun c2 => ?_)
  · -- 8 taken
    have c2 := bI_1 c2
    obtain ⟨j3, h_j3, rfl⟩ := okN_ex (by omega) c2
    refine lv_aload_n hx hb dX7_lacks_14 rfl (lv_at hl 0 rfl) ?_
    refine va_get (D := D) (ci := 7) (v := .ref ((ca 1))) (C := RX7) (T := TX7) (N := 11) hx hb hts iX7 hown hK.1 hP 0 rfl rfl 0 (by decide) (hts _ q_73) (fun _ h9 => h9) rfl dX7_lacks_15 ?_
    refine lv_iload_n hx hb dX7_lacks_18 rfl (lv_at hl 1 rfl) ?_
    refine ro_Vi (D := D) (G := G) (As := [.int (nI j3)]) (rest := []) ⟨hx, hb, hml, hown, hts⟩ (c_mustLackNothing l D G _ ca σ x (cF_ty hP) n h1 hn (nI j3)) gV_X7_X6_mustLackNothing hdV_X6_mustLackNothing ⟨Nat.le_of_ble_eq_true rfl, Nat.le_of_ble_eq_true rfl⟩ hK (va_recv hK.1 hP (ci := 6) (q0 := 1) rfl rfl) rfl hl.1 rfl (Nat.le_of_ble_eq_true rfl) dX7_lacks_19 ⟨Nat.le_of_ble_eq_true rfl, Nat.le_of_ble_eq_true rfl⟩ (fun r4 e_r4 => ?_)
    subst e_r4
    refine lv_if_ne (tgt := 27) hx hb dX7_lacks_22 (by decide) (fun c5 => ?_) (fun c5 => ?_)
    · -- 22 taken
      have c5 := bI_1 c5
      refine lv_iconst (v := 0) hx hb dX7_lacks_27 (by decide) ?_
      refine lv_istore_n (lv' := [(3, .int 0), (0, .ref ((ca 0))), (1, .int (nI j3)), (2, .int ii)]) hx hb dX7_lacks_28 rfl hl (by decide) rfl (fun ls hl => ?_)
      refine lv_iconst (v := 0) hx hb dX7_lacks_29 (by decide) ?_
      refine lv_istore (lv' := [(4, .int 0), (3, .int 0), (0, .ref ((ca 0))), (1, .int (nI j3)), (2, .int ii)]) hx hb dX7_lacks_30 hl (by decide) rfl (fun ls hl => ?_)
      refine w_for (N := k) 32 (L := fun q9 ls => ∃ pa : Int32, lv_has ls 7 [(4, .int (nI q9)), (3, .int pa), (0, .ref ((ca 0))), (1, .int (nI j3)), (2, .int ii)] ∧ lcF σ j3 k ii k 0 0 = lcF σ j3 k ii (k - q9) q9 pa) (fun k9 ls hk hL ih => ?_) 0 ls (Nat.zero_le _) ⟨0, hl, by rw [Nat.sub_zero]⟩
      obtain ⟨pa, hl, hi⟩ := hL
      have hl : lv_has ls 7 [(4, .int (nI k9)), (3, .int pa), (0, .ref ((ca 0))), (1, .int (nI j3)), (2, .int ii)] := hl
      refine lv_iload hx hb dX7_lacks_32 (lv_at hl 0 rfl) ?_
      refine lv_aload_n hx hb dX7_lacks_34 rfl (lv_at hl 2 rfl) ?_
      refine va_get (D := D) (ci := 7) (v := .int (σ 7 0)) (C := RX7) (T := TX7) (N := 11) hx hb hts iX7 hown hK.1 hP 0 rfl rfl 2 (by decide) (hts _ q_75) (fun _ h9 => h9) rfl dX7_lacks_35 ?_
      refine lv_icmp_ge (tgt := 92) hx hb dX7_lacks_38 (by decide) (fun c6 => ?_) (fun c6 => ?_)
      · -- 38 taken
        have c6 : k ≤ k9 := (nI_leI (a := k) (b := k9) (by omega) (by omega)).mp (by have h8 := c6; rw [h7] at h8; exact h8)
        refine lv_iconst (v := -1) hx hb dX7_lacks_92 (by decide) ?_
        exact ro_iret (v := (-1)) hx hb hr hH hlocks dX7_lacks_93 (by rw [lacks_eq hn h_j3 hk60, if_pos (by have h8 := c5; rw [soF_n hn h_j3] at h8; exact h8), hi, show k - k9 = 0 by omega]; rfl)
      · -- 38 not
        have c6 : ¬ k ≤ k9 := fun h9 => c6 (by rw [h7]; exact (nI_leI (a := k) (b := k9) (by omega) (by omega)).mpr h9)
        refine lv_aload_n hx hb dX7_lacks_41 rfl (lv_at hl 2 rfl) ?_
        refine va_get (D := D) (ci := 7) (v := .ref ((ca 6))) (C := RX7) (T := TX7) (N := 11) hx hb hts iX7 hown hK.1 hP 0 rfl rfl 1 (by decide) (hts _ q_74) (fun _ h9 => h9) rfl dX7_lacks_42 ?_
        refine lv_iload hx hb dX7_lacks_45 (lv_at hl 0 rfl) ?_
        refine aald_e hx hb hK.1 hP 6 rfl (k9) rfl (by omega) (by omega) dX7_lacks_47 ?_
        refine lv_astore (lv' := [(6, .ref ((ea k9 0))), (4, .int (nI k9)), (3, .int pa), (0, .ref ((ca 0))), (1, .int (nI j3)), (2, .int ii)]) hx hb dX7_lacks_48 hl (by decide) rfl (fun ls hl => ?_)
        refine lv_aload hx hb dX7_lacks_50 (lv_at hl 0 rfl) ?_
        refine inst_m hx hb hown (hts _ q_307) hK (hE k9 (by omega)) dX7_lacks_52 ?_
        refine lv_if_eq (tgt := 86) hx hb dX7_lacks_55 (by decide) (fun c7 => ?_) (fun c7 => ?_)
        · -- 55 taken
          have c7 := bI_0 c7
          refine lv_iinc (v := nI (k9 + 1)) (lv' := [(4, .int (nI (k9 + 1))), (6, .ref ((ea k9 0))), (3, .int pa), (0, .ref ((ca 0))), (1, .int (nI j3)), (2, .int ii)]) hx hb dX7_lacks_86 hl (k := 1) rfl (nI_1 _) (by decide) rfl (fun ls hl => ?_)
          refine lv_goto (tgt := 32) hx hb dX7_lacks_89 (by decide) ?_
          rw [lcF_u (by omega), if_neg (fun h9 => c7 (lkN_def.mp h9).1)] at hi
          exact ih _ (by omega) ⟨pa, lv_sub hl [0, 2, 3, 4, 5] rfl, hi⟩
        · -- 55 not
          have c7 := bI_1 c7
          refine lv_aload hx hb dX7_lacks_58 (lv_at hl 0 rfl) ?_
          have hM_k9 := eW_m (hE k9 (by omega)) c7
          have hmi_k9 := mJ_m (hmi k9 (by omega)) c7
          have ht_k9 := hmi_k9.1.2
          have hz_k9 := hmi_k9.2.1.2
          refine va_castY (C := RX3) hx hb hown (hts _ q_307) hK.2.2.1 (va_recv hK.1 hM_k9 (ci := 4) (q0 := 0) rfl rfl) dX7_lacks_60 ?_
          refine lv_astore (lv' := [(5, .ref ((ea k9 0))), (6, .ref ((ea k9 0))), (4, .int (nI k9)), (3, .int pa), (0, .ref ((ca 0))), (1, .int (nI j3)), (2, .int ii)]) hx hb dX7_lacks_63 hl (by decide) rfl (fun ls hl => ?_)
          refine lv_aload_n hx hb dX7_lacks_65 rfl (lv_at hl 4 rfl) ?_
          refine lv_iload_n hx hb dX7_lacks_66 rfl (lv_at hl 5 rfl) ?_
          refine lv_aload hx hb dX7_lacks_67 (lv_at hl 0 rfl) ?_
          refine ro_Vi (D := D) (G := G) (As := [.int (nI j3), .ref ((ea k9 0))]) (rest := []) ⟨hx, hb, hml, hown, hts⟩ (c_isLacking l D G _ ca _ ea n k w0 σ x κ hP hE hI0 (j3) (by omega) (ea k9) k9 _ hM_k9 hmi_k9 c7) gV_X7_X7_isLacking hdV_X7_isLacking ⟨Nat.le_of_ble_eq_true rfl, Nat.le_of_ble_eq_true rfl⟩ hK (va_recv hK.1 hP (ci := 7) (q0 := 0) rfl rfl) rfl hl.1 rfl (Nat.le_of_ble_eq_true rfl) dX7_lacks_69 ⟨Nat.le_of_ble_eq_true rfl, Nat.le_of_ble_eq_true rfl⟩ (fun r8 e_r8 => ?_)
          subst e_r8
          refine lv_if_eq (tgt := 86) hx hb dX7_lacks_72 (by decide) (fun c9 => ?_) (fun c9 => ?_)
          · -- 72 taken
            have c9 := bI_0 c9
            refine lv_iinc (v := nI (k9 + 1)) (lv' := [(4, .int (nI (k9 + 1))), (5, .ref ((ea k9 0))), (6, .ref ((ea k9 0))), (3, .int pa), (0, .ref ((ca 0))), (1, .int (nI j3)), (2, .int ii)]) hx hb dX7_lacks_86 hl (k := 2) rfl (nI_1 _) (by decide) rfl (fun ls hl => ?_)
            refine lv_goto (tgt := 32) hx hb dX7_lacks_89 (by decide) ?_
            rw [lcF_u (by omega), if_neg c9] at hi
            exact ih _ (by omega) ⟨pa, lv_sub hl [0, 3, 4, 5, 6] rfl, hi⟩
          · -- 72 not
            have c9 := bI_1 c9
            refine lv_iload_n hx hb dX7_lacks_75 rfl (lv_at hl 3 rfl) ?_
            refine lv_iload_n hx hb dX7_lacks_76 rfl (lv_at hl 6 rfl) ?_
            refine lv_icmp_ne (tgt := 83) hx hb dX7_lacks_77 (by decide) (fun c10 => ?_) (fun c10 => ?_)
            · -- 77 taken
              refine lv_iinc (v := pa + 1) (lv' := [(3, .int (pa + 1)), (5, .ref ((ea k9 0))), (6, .ref ((ea k9 0))), (4, .int (nI k9)), (0, .ref ((ca 0))), (1, .int (nI j3)), (2, .int ii)]) hx hb dX7_lacks_83 hl (k := 3) rfl (rfl) (by decide) rfl (fun ls hl => ?_)
              refine lv_iinc (v := nI (k9 + 1)) (lv' := [(4, .int (nI (k9 + 1))), (3, .int (pa + 1)), (5, .ref ((ea k9 0))), (6, .ref ((ea k9 0))), (0, .ref ((ca 0))), (1, .int (nI j3)), (2, .int ii)]) hx hb dX7_lacks_86 hl (k := 3) rfl (nI_1 _) (by decide) rfl (fun ls hl => ?_)
              refine lv_goto (tgt := 32) hx hb dX7_lacks_89 (by decide) ?_
              rw [lcF_u (by omega), if_pos c9, if_neg c10] at hi
              exact ih _ (by omega) ⟨pa + 1, lv_sub hl [0, 1, 4, 5, 6] rfl, hi⟩
            · -- 77 not
              refine lv_iload hx hb dX7_lacks_80 (lv_at hl 2 rfl) ?_
              exact ro_iret (v := nI k9) hx hb hr hH hlocks dX7_lacks_82 (by rw [lacks_eq hn h_j3 hk60, if_pos (by have h8 := c5; rw [soF_n hn h_j3] at h8; exact h8), hi, lcF_u (by omega), if_pos c9, if_pos c10])
    · -- 22 not
      have c5 := bI_0 c5
      refine lv_iconst (v := -1) hx hb dX7_lacks_25 (by decide) ?_
      exact ro_iret (v := (-1)) hx hb hr hH hlocks dX7_lacks_26 (by rw [lacks_eq hn h_j3 hk60, if_neg (by have h8 := c5; rw [soF_n hn h_j3] at h8; exact h8)])
  · -- 8 not
    have c2 := bI_0 c2
    refine lv_bipush (v := -11) hx hb dX7_lacks_11 (by decide) ?_
    exact ro_iret (v := (-11)) hx hb hr hH hlocks dX7_lacks_13 (by unfold oLacks; simp only [eq_false c2, not_true, not_false_iff, not_true_eq_false, not_false_eq_true, true_or, or_true, false_or, or_false, or_self, and_self, true_and, and_true, false_and, and_false, if_true, if_false])
