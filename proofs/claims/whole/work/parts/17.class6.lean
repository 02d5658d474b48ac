-- constants of a kind
def icb (kind : Int32) (v : Int64) : Bool := decide (if kind = 1 then v = 0 ∨ v = 1 else if kind = 2 then v = ((v).toInt32).toInt8.toInt32.toInt64 else if kind = 3 then v = ((v).toInt32).toInt16.toInt32.toInt64 else if kind = 4 then v = (((v).toInt32).toUInt32 % 65536).toInt32.toInt64 else if kind = 5 then v = (v).toInt32.toInt64 else True)
abbrev icP (kind : Int32) (v : Int64) : Prop := icb kind v = true
theorem icP_def {kind : Int32} {v : Int64} : icP kind v ↔ (if kind = 1 then v = 0 ∨ v = 1 else if kind = 2 then v = ((v).toInt32).toInt8.toInt32.toInt64 else if kind = 3 then v = ((v).toInt32).toInt16.toInt32.toInt64 else if kind = 4 then v = (((v).toInt32).toUInt32 % 65536).toInt32.toInt64 else if kind = 5 then v = (v).toInt32.toInt64 else True) := decide_eq_true_iff
def lru (s : Int64) (n : Int32) : Int64 := ((s).toUInt64 >>> ((n).toInt64.toUInt64 &&& Int64.toUInt64 63)).toInt64
def lsl (s : Int64) (n : Int32) : Int64 := (s) <<< ((n).toInt64 &&& 63)
/-- the highest bit, looked for from h down -/
def hbN (s : Int64) : Nat → Nat
  | 0 => 0
  | h + 1 => if lru s (nI (h + 1)) = 0 then hbN s h else h + 1
theorem hbN_t {s : Int64} {j : Nat} (h : ¬ j ≤ 0) (q : lru s (nI j) = 0) : hbN s j = hbN s (j - 1) := by
  obtain ⟨z, rfl⟩ : ∃ z, j = z + 1 := ⟨j - 1, by omega⟩
  show (if _ then _ else _) = _; rw [if_pos q]; rfl
theorem hbN_f {s : Int64} {j : Nat} (h : ¬ j ≤ 0) (q : ¬ lru s (nI j) = 0) : hbN s j = j := by
  obtain ⟨z, rfl⟩ : ∃ z, j = z + 1 := ⟨j - 1, by omega⟩
  show (if _ then _ else _) = _; rw [if_neg q]
theorem hbN_0 {s : Int64} {j : Nat} (h : j ≤ 0) : hbN s j = j := by obtain rfl : j = 0 := (by omega); rfl
theorem dec63 {j : Nat} (h : 1 ≤ j) : nI j + (-1) = nI (j - 1) := by
  obtain ⟨z, rfl⟩ : ∃ z, j = z + 1 := ⟨j - 1, by omega⟩
  rw [← nI_1, Int32.add_assoc, show (1 : Int32) + (-1) = 0 from by decide, Int32.add_zero]; rfl
/-- the size without its lowest bits, to the nearest -/
def roU (k l h : Int64) : Bool := decide (h < l ∨ (l = h ∧ k &&& 1 = 1))
abbrev roP' (k l h : Int64) : Prop := roU k l h = true
theorem roP'_def {k l h : Int64} : roP' k l h ↔ (h < l ∨ (l = h ∧ k &&& 1 = 1)) := decide_eq_true_iff
def roF (s : Int64) (b : Int32) : Int64 := if ¬ 0 < b then lsl s (-b) else if roP' (lru s b) (s &&& (lsl 1 b - 1)) (lsl 1 (b - 1)) then lru s b + 1 else lru s b
def boF (s : Int64) (f b : Int32) : Int64 := if s = 0 then 0 else lsl ((nI (hbN s 63) + b - 1).toInt64) f + roF s (nI (hbN s 63) - f)
def alF (kind : Int32) (v : Int64) : Int64 :=
  if kind = 7 then (if 0 ≤ v then boF v 23 127 else boF (-v) 23 127 + (-2147483648)) else if kind = 8 then (if 0 ≤ v then boF v 52 1023 else boF (-v) 52 1023 + (-9223372036854775808)) else v

theorem dX0_isOfKind_0 : decode cX0_isOfKind 0 = .ok (.iload_n 0, 1) := by decide +kernel
theorem dX0_isOfKind_1 : decode cX0_isOfKind 1 = .ok (.tableswitch 112 1 5 #[35, 53, 68, 83, 98], 35) := by decide +kernel
theorem dX0_isOfKind_36 : decode cX0_isOfKind 36 = .ok (.lload_n 1, 1) := by decide +kernel
theorem dX0_isOfKind_37 : decode cX0_isOfKind 37 = .ok (.lconst 0, 1) := by decide +kernel
theorem dX0_isOfKind_38 : decode cX0_isOfKind 38 = .ok (.lcmp, 1) := by decide +kernel
theorem dX0_isOfKind_39 : decode cX0_isOfKind 39 = .ok (.ifCond .eq 9, 3) := by decide +kernel
theorem dX0_isOfKind_48 : decode cX0_isOfKind 48 = .ok (.iconst 1, 1) := by decide +kernel
theorem dX0_isOfKind_49 : decode cX0_isOfKind 49 = .ok (.goto 4, 3) := by decide +kernel
theorem dX0_isOfKind_53 : decode cX0_isOfKind 53 = .ok (.ireturn, 1) := by decide +kernel
theorem dX0_isOfKind_42 : decode cX0_isOfKind 42 = .ok (.lload_n 1, 1) := by decide +kernel
theorem dX0_isOfKind_43 : decode cX0_isOfKind 43 = .ok (.lconst 1, 1) := by decide +kernel
theorem dX0_isOfKind_44 : decode cX0_isOfKind 44 = .ok (.lcmp, 1) := by decide +kernel
theorem dX0_isOfKind_45 : decode cX0_isOfKind 45 = .ok (.ifCond .ne 7, 3) := by decide +kernel
theorem dX0_isOfKind_52 : decode cX0_isOfKind 52 = .ok (.iconst 0, 1) := by decide +kernel
theorem dX0_isOfKind_54 : decode cX0_isOfKind 54 = .ok (.lload_n 1, 1) := by decide +kernel
theorem dX0_isOfKind_55 : decode cX0_isOfKind 55 = .ok (.lload_n 1, 1) := by decide +kernel
theorem dX0_isOfKind_56 : decode cX0_isOfKind 56 = .ok (.l2i, 1) := by decide +kernel
theorem dX0_isOfKind_57 : decode cX0_isOfKind 57 = .ok (.i2b, 1) := by decide +kernel
theorem dX0_isOfKind_58 : decode cX0_isOfKind 58 = .ok (.i2l, 1) := by decide +kernel
theorem dX0_isOfKind_59 : decode cX0_isOfKind 59 = .ok (.lcmp, 1) := by decide +kernel
theorem dX0_isOfKind_60 : decode cX0_isOfKind 60 = .ok (.ifCond .ne 7, 3) := by decide +kernel
theorem dX0_isOfKind_67 : decode cX0_isOfKind 67 = .ok (.iconst 0, 1) := by decide +kernel
theorem dX0_isOfKind_68 : decode cX0_isOfKind 68 = .ok (.ireturn, 1) := by decide +kernel
theorem dX0_isOfKind_63 : decode cX0_isOfKind 63 = .ok (.iconst 1, 1) := by decide +kernel
theorem dX0_isOfKind_64 : decode cX0_isOfKind 64 = .ok (.goto 4, 3) := by decide +kernel
theorem dX0_isOfKind_69 : decode cX0_isOfKind 69 = .ok (.lload_n 1, 1) := by decide +kernel
theorem dX0_isOfKind_70 : decode cX0_isOfKind 70 = .ok (.lload_n 1, 1) := by decide +kernel
theorem dX0_isOfKind_71 : decode cX0_isOfKind 71 = .ok (.l2i, 1) := by decide +kernel
theorem dX0_isOfKind_72 : decode cX0_isOfKind 72 = .ok (.i2s, 1) := by decide +kernel
theorem dX0_isOfKind_73 : decode cX0_isOfKind 73 = .ok (.i2l, 1) := by decide +kernel
theorem dX0_isOfKind_74 : decode cX0_isOfKind 74 = .ok (.lcmp, 1) := by decide +kernel
theorem dX0_isOfKind_75 : decode cX0_isOfKind 75 = .ok (.ifCond .ne 7, 3) := by decide +kernel
theorem dX0_isOfKind_82 : decode cX0_isOfKind 82 = .ok (.iconst 0, 1) := by decide +kernel
theorem dX0_isOfKind_83 : decode cX0_isOfKind 83 = .ok (.ireturn, 1) := by decide +kernel
theorem dX0_isOfKind_78 : decode cX0_isOfKind 78 = .ok (.iconst 1, 1) := by decide +kernel
theorem dX0_isOfKind_79 : decode cX0_isOfKind 79 = .ok (.goto 4, 3) := by decide +kernel
theorem dX0_isOfKind_84 : decode cX0_isOfKind 84 = .ok (.lload_n 1, 1) := by decide +kernel
theorem dX0_isOfKind_85 : decode cX0_isOfKind 85 = .ok (.lload_n 1, 1) := by decide +kernel
theorem dX0_isOfKind_86 : decode cX0_isOfKind 86 = .ok (.l2i, 1) := by decide +kernel
theorem dX0_isOfKind_87 : decode cX0_isOfKind 87 = .ok (.i2c, 1) := by decide +kernel
theorem dX0_isOfKind_88 : decode cX0_isOfKind 88 = .ok (.i2l, 1) := by decide +kernel
theorem dX0_isOfKind_89 : decode cX0_isOfKind 89 = .ok (.lcmp, 1) := by decide +kernel
theorem dX0_isOfKind_90 : decode cX0_isOfKind 90 = .ok (.ifCond .ne 7, 3) := by decide +kernel
theorem dX0_isOfKind_97 : decode cX0_isOfKind 97 = .ok (.iconst 0, 1) := by decide +kernel
theorem dX0_isOfKind_98 : decode cX0_isOfKind 98 = .ok (.ireturn, 1) := by decide +kernel
theorem dX0_isOfKind_93 : decode cX0_isOfKind 93 = .ok (.iconst 1, 1) := by decide +kernel
theorem dX0_isOfKind_94 : decode cX0_isOfKind 94 = .ok (.goto 4, 3) := by decide +kernel
theorem dX0_isOfKind_99 : decode cX0_isOfKind 99 = .ok (.lload_n 1, 1) := by decide +kernel
theorem dX0_isOfKind_100 : decode cX0_isOfKind 100 = .ok (.lload_n 1, 1) := by decide +kernel
theorem dX0_isOfKind_101 : decode cX0_isOfKind 101 = .ok (.l2i, 1) := by decide +kernel
theorem dX0_isOfKind_102 : decode cX0_isOfKind 102 = .ok (.i2l, 1) := by decide +kernel
theorem dX0_isOfKind_103 : decode cX0_isOfKind 103 = .ok (.lcmp, 1) := by decide +kernel
theorem dX0_isOfKind_104 : decode cX0_isOfKind 104 = .ok (.ifCond .ne 7, 3) := by decide +kernel
theorem dX0_isOfKind_111 : decode cX0_isOfKind 111 = .ok (.iconst 0, 1) := by decide +kernel
theorem dX0_isOfKind_112 : decode cX0_isOfKind 112 = .ok (.ireturn, 1) := by decide +kernel
theorem dX0_isOfKind_107 : decode cX0_isOfKind 107 = .ok (.iconst 1, 1) := by decide +kernel
theorem dX0_isOfKind_108 : decode cX0_isOfKind 108 = .ok (.goto 4, 3) := by decide +kernel
theorem dX0_isOfKind_113 : decode cX0_isOfKind 113 = .ok (.iconst 1, 1) := by decide +kernel
theorem dX0_isOfKind_114 : decode cX0_isOfKind 114 = .ok (.ireturn, 1) := by decide +kernel
theorem dX0_highestBit_0 : decode cX0_highestBit 0 = .ok (.bipush 63, 2) := by decide +kernel
theorem dX0_highestBit_2 : decode cX0_highestBit 2 = .ok (.istore_n 2, 1) := by decide +kernel
theorem dX0_highestBit_3 : decode cX0_highestBit 3 = .ok (.iload_n 2, 1) := by decide +kernel
theorem dX0_highestBit_4 : decode cX0_highestBit 4 = .ok (.ifCond .le 17, 3) := by decide +kernel
theorem dX0_highestBit_21 : decode cX0_highestBit 21 = .ok (.iload_n 2, 1) := by decide +kernel
theorem dX0_highestBit_22 : decode cX0_highestBit 22 = .ok (.ireturn, 1) := by decide +kernel
theorem dX0_highestBit_7 : decode cX0_highestBit 7 = .ok (.lload_n 0, 1) := by decide +kernel
theorem dX0_highestBit_8 : decode cX0_highestBit 8 = .ok (.iload_n 2, 1) := by decide +kernel
theorem dX0_highestBit_9 : decode cX0_highestBit 9 = .ok (.lushr, 1) := by decide +kernel
theorem dX0_highestBit_10 : decode cX0_highestBit 10 = .ok (.lconst 0, 1) := by decide +kernel
theorem dX0_highestBit_11 : decode cX0_highestBit 11 = .ok (.lcmp, 1) := by decide +kernel
theorem dX0_highestBit_12 : decode cX0_highestBit 12 = .ok (.ifCond .ne 9, 3) := by decide +kernel
theorem dX0_highestBit_15 : decode cX0_highestBit 15 = .ok (.iinc 2 (-1), 3) := by decide +kernel
theorem dX0_highestBit_18 : decode cX0_highestBit 18 = .ok (.goto (-15), 3) := by decide +kernel
theorem dX0_roundedOff_0 : decode cX0_roundedOff 0 = .ok (.iload_n 2, 1) := by decide +kernel
theorem dX0_roundedOff_1 : decode cX0_roundedOff 1 = .ok (.ifCond .gt 8, 3) := by decide +kernel
theorem dX0_roundedOff_9 : decode cX0_roundedOff 9 = .ok (.lload_n 0, 1) := by decide +kernel
theorem dX0_roundedOff_10 : decode cX0_roundedOff 10 = .ok (.iload_n 2, 1) := by decide +kernel
theorem dX0_roundedOff_11 : decode cX0_roundedOff 11 = .ok (.lushr, 1) := by decide +kernel
theorem dX0_roundedOff_12 : decode cX0_roundedOff 12 = .ok (.lstore_n 3, 1) := by decide +kernel
theorem dX0_roundedOff_13 : decode cX0_roundedOff 13 = .ok (.lload_n 0, 1) := by decide +kernel
theorem dX0_roundedOff_14 : decode cX0_roundedOff 14 = .ok (.lconst 1, 1) := by decide +kernel
theorem dX0_roundedOff_15 : decode cX0_roundedOff 15 = .ok (.iload_n 2, 1) := by decide +kernel
theorem dX0_roundedOff_16 : decode cX0_roundedOff 16 = .ok (.lshl, 1) := by decide +kernel
theorem dX0_roundedOff_17 : decode cX0_roundedOff 17 = .ok (.lconst 1, 1) := by decide +kernel
theorem dX0_roundedOff_18 : decode cX0_roundedOff 18 = .ok (.lsub, 1) := by decide +kernel
theorem dX0_roundedOff_19 : decode cX0_roundedOff 19 = .ok (.land, 1) := by decide +kernel
theorem dX0_roundedOff_20 : decode cX0_roundedOff 20 = .ok (.lstore 5, 2) := by decide +kernel
theorem dX0_roundedOff_22 : decode cX0_roundedOff 22 = .ok (.lconst 1, 1) := by decide +kernel
theorem dX0_roundedOff_23 : decode cX0_roundedOff 23 = .ok (.iload_n 2, 1) := by decide +kernel
theorem dX0_roundedOff_24 : decode cX0_roundedOff 24 = .ok (.iconst 1, 1) := by decide +kernel
theorem dX0_roundedOff_25 : decode cX0_roundedOff 25 = .ok (.isub, 1) := by decide +kernel
theorem dX0_roundedOff_26 : decode cX0_roundedOff 26 = .ok (.lshl, 1) := by decide +kernel
theorem dX0_roundedOff_27 : decode cX0_roundedOff 27 = .ok (.lstore 7, 2) := by decide +kernel
theorem dX0_roundedOff_58 : decode cX0_roundedOff 58 = .ok (.istore 9, 2) := by decide +kernel
theorem dX0_roundedOff_60 : decode cX0_roundedOff 60 = .ok (.iload 9, 2) := by decide +kernel
theorem dX0_roundedOff_62 : decode cX0_roundedOff 62 = .ok (.ifCond .eq 9, 3) := by decide +kernel
theorem dX0_roundedOff_71 : decode cX0_roundedOff 71 = .ok (.lload_n 3, 1) := by decide +kernel
theorem dX0_roundedOff_72 : decode cX0_roundedOff 72 = .ok (.lreturn, 1) := by decide +kernel
theorem dX0_roundedOff_65 : decode cX0_roundedOff 65 = .ok (.lload_n 3, 1) := by decide +kernel
theorem dX0_roundedOff_66 : decode cX0_roundedOff 66 = .ok (.lconst 1, 1) := by decide +kernel
theorem dX0_roundedOff_67 : decode cX0_roundedOff 67 = .ok (.ladd, 1) := by decide +kernel
theorem dX0_roundedOff_68 : decode cX0_roundedOff 68 = .ok (.goto 4, 3) := by decide +kernel
theorem dX0_roundedOff_29 : decode cX0_roundedOff 29 = .ok (.lload 5, 2) := by decide +kernel
theorem dX0_roundedOff_31 : decode cX0_roundedOff 31 = .ok (.lload 7, 2) := by decide +kernel
theorem dX0_roundedOff_33 : decode cX0_roundedOff 33 = .ok (.lcmp, 1) := by decide +kernel
theorem dX0_roundedOff_34 : decode cX0_roundedOff 34 = .ok (.ifCond .gt 19, 3) := by decide +kernel
theorem dX0_roundedOff_53 : decode cX0_roundedOff 53 = .ok (.iconst 1, 1) := by decide +kernel
theorem dX0_roundedOff_54 : decode cX0_roundedOff 54 = .ok (.goto 4, 3) := by decide +kernel
theorem dX0_roundedOff_37 : decode cX0_roundedOff 37 = .ok (.lload 5, 2) := by decide +kernel
theorem dX0_roundedOff_39 : decode cX0_roundedOff 39 = .ok (.lload 7, 2) := by decide +kernel
theorem dX0_roundedOff_41 : decode cX0_roundedOff 41 = .ok (.lcmp, 1) := by decide +kernel
theorem dX0_roundedOff_42 : decode cX0_roundedOff 42 = .ok (.ifCond .ne 15, 3) := by decide +kernel
theorem dX0_roundedOff_57 : decode cX0_roundedOff 57 = .ok (.iconst 0, 1) := by decide +kernel
theorem dX0_roundedOff_45 : decode cX0_roundedOff 45 = .ok (.lload_n 3, 1) := by decide +kernel
theorem dX0_roundedOff_46 : decode cX0_roundedOff 46 = .ok (.lconst 1, 1) := by decide +kernel
theorem dX0_roundedOff_47 : decode cX0_roundedOff 47 = .ok (.land, 1) := by decide +kernel
theorem dX0_roundedOff_48 : decode cX0_roundedOff 48 = .ok (.lconst 1, 1) := by decide +kernel
theorem dX0_roundedOff_49 : decode cX0_roundedOff 49 = .ok (.lcmp, 1) := by decide +kernel
theorem dX0_roundedOff_50 : decode cX0_roundedOff 50 = .ok (.ifCond .ne 7, 3) := by decide +kernel
theorem dX0_roundedOff_4 : decode cX0_roundedOff 4 = .ok (.lload_n 0, 1) := by decide +kernel
theorem dX0_roundedOff_5 : decode cX0_roundedOff 5 = .ok (.iload_n 2, 1) := by decide +kernel
theorem dX0_roundedOff_6 : decode cX0_roundedOff 6 = .ok (.ineg, 1) := by decide +kernel
theorem dX0_roundedOff_7 : decode cX0_roundedOff 7 = .ok (.lshl, 1) := by decide +kernel
theorem dX0_roundedOff_8 : decode cX0_roundedOff 8 = .ok (.lreturn, 1) := by decide +kernel
theorem dX0_bitsOf_0 : decode cX0_bitsOf 0 = .ok (.lload_n 0, 1) := by decide +kernel
theorem dX0_bitsOf_1 : decode cX0_bitsOf 1 = .ok (.lconst 0, 1) := by decide +kernel
theorem dX0_bitsOf_2 : decode cX0_bitsOf 2 = .ok (.lcmp, 1) := by decide +kernel
theorem dX0_bitsOf_3 : decode cX0_bitsOf 3 = .ok (.ifCond .ne 5, 3) := by decide +kernel
theorem dX0_bitsOf_8 : decode cX0_bitsOf 8 = .ok (.lload_n 0, 1) := by decide +kernel
theorem q_656 : Cond.methodLink "FieldMember$Constants" 19 ⟨"FieldMember$Constants", "highestBit", "(J)I"⟩ ∈ TT := tt_t (i := 656) (by decide +kernel) (by decide +kernel)
theorem q_658 : Cond.code ⟨"FieldMember$Constants", "highestBit", "(J)I"⟩ prog_2_method_5_code 3 (some .int) ∈ TT := tt_t (i := 658) (by decide +kernel) (by decide +kernel)
theorem q_9 : Cond.initialized "FieldMember$Constants" ∈ TT := tt_t (i := 9) (by decide +kernel) (by decide +kernel)
theorem q_657 : Cond.static ⟨"FieldMember$Constants", "highestBit", "(J)I"⟩ ∈ TT := tt_t (i := 657) (by decide +kernel) (by decide +kernel)
theorem gS_X0_X0_highestBit : GoodIn TT (va_wsS RX0 19 yX0_highestBit (ww yX0_highestBit cX0_highestBit 3 (some .int))) := tt_S q_656 q_657 q_9 q_658
theorem hdS_X0_highestBit : yX0_highestBit.cls ≠ "java/lang/invoke/MethodHandle" ∧ yX0_highestBit.cls ≠ "java/lang/invoke/VarHandle" ∧ (parseMethodDescriptor yX0_highestBit.desc).map (fun d => d.parameters.length) = some 1 := by decide +kernel
theorem dX0_bitsOf_9 : decode cX0_bitsOf 9 = .ok (.invokestatic 19, 3) := by decide +kernel
theorem dX0_bitsOf_12 : decode cX0_bitsOf 12 = .ok (.istore 4, 2) := by decide +kernel
theorem dX0_bitsOf_14 : decode cX0_bitsOf 14 = .ok (.iload 4, 2) := by decide +kernel
theorem dX0_bitsOf_16 : decode cX0_bitsOf 16 = .ok (.iload_n 3, 1) := by decide +kernel
theorem dX0_bitsOf_17 : decode cX0_bitsOf 17 = .ok (.iadd, 1) := by decide +kernel
theorem dX0_bitsOf_18 : decode cX0_bitsOf 18 = .ok (.iconst 1, 1) := by decide +kernel
theorem dX0_bitsOf_19 : decode cX0_bitsOf 19 = .ok (.isub, 1) := by decide +kernel
theorem dX0_bitsOf_20 : decode cX0_bitsOf 20 = .ok (.i2l, 1) := by decide +kernel
theorem dX0_bitsOf_21 : decode cX0_bitsOf 21 = .ok (.iload_n 2, 1) := by decide +kernel
theorem dX0_bitsOf_22 : decode cX0_bitsOf 22 = .ok (.lshl, 1) := by decide +kernel
theorem dX0_bitsOf_23 : decode cX0_bitsOf 23 = .ok (.lload_n 0, 1) := by decide +kernel
theorem dX0_bitsOf_24 : decode cX0_bitsOf 24 = .ok (.iload 4, 2) := by decide +kernel
theorem dX0_bitsOf_26 : decode cX0_bitsOf 26 = .ok (.iload_n 2, 1) := by decide +kernel
theorem dX0_bitsOf_27 : decode cX0_bitsOf 27 = .ok (.isub, 1) := by decide +kernel
theorem q_659 : Cond.methodLink "FieldMember$Constants" 23 ⟨"FieldMember$Constants", "roundedOff", "(JI)J"⟩ ∈ TT := tt_t (i := 659) (by decide +kernel) (by decide +kernel)
theorem q_661 : Cond.code ⟨"FieldMember$Constants", "roundedOff", "(JI)J"⟩ prog_2_method_6_code 10 (some .long) ∈ TT := tt_t (i := 661) (by decide +kernel) (by decide +kernel)
theorem q_660 : Cond.static ⟨"FieldMember$Constants", "roundedOff", "(JI)J"⟩ ∈ TT := tt_t (i := 660) (by decide +kernel) (by decide +kernel)
theorem gS_X0_X0_roundedOff : GoodIn TT (va_wsS RX0 23 yX0_roundedOff (ww yX0_roundedOff cX0_roundedOff 10 (some .long))) := tt_S q_659 q_660 q_9 q_661
theorem hdS_X0_roundedOff : yX0_roundedOff.cls ≠ "java/lang/invoke/MethodHandle" ∧ yX0_roundedOff.cls ≠ "java/lang/invoke/VarHandle" ∧ (parseMethodDescriptor yX0_roundedOff.desc).map (fun d => d.parameters.length) = some 2 := by decide +kernel
theorem dX0_bitsOf_28 : decode cX0_bitsOf 28 = .ok (.invokestatic 23, 3) := by decide +kernel
theorem dX0_bitsOf_31 : decode cX0_bitsOf 31 = .ok (.ladd, 1) := by decide +kernel
theorem dX0_bitsOf_32 : decode cX0_bitsOf 32 = .ok (.lreturn, 1) := by decide +kernel
theorem dX0_bitsOf_6 : decode cX0_bitsOf 6 = .ok (.lconst 0, 1) := by decide +kernel
theorem dX0_bitsOf_7 : decode cX0_bitsOf 7 = .ok (.lreturn, 1) := by decide +kernel
theorem dX0_asLong_0 : decode cX0_asLong 0 = .ok (.iload_n 0, 1) := by decide +kernel
theorem dX0_asLong_1 : decode cX0_asLong 1 = .ok (.bipush 7, 2) := by decide +kernel
theorem dX0_asLong_3 : decode cX0_asLong 3 = .ok (.if_icmp .ne 39, 3) := by decide +kernel
theorem dX0_asLong_42 : decode cX0_asLong 42 = .ok (.iload_n 0, 1) := by decide +kernel
theorem dX0_asLong_43 : decode cX0_asLong 43 = .ok (.bipush 8, 2) := by decide +kernel
theorem dX0_asLong_45 : decode cX0_asLong 45 = .ok (.if_icmp .ne 40, 3) := by decide +kernel
theorem dX0_asLong_85 : decode cX0_asLong 85 = .ok (.lload_n 1, 1) := by decide +kernel
theorem dX0_asLong_86 : decode cX0_asLong 86 = .ok (.lreturn, 1) := by decide +kernel
theorem dX0_asLong_48 : decode cX0_asLong 48 = .ok (.lload_n 1, 1) := by decide +kernel
theorem dX0_asLong_49 : decode cX0_asLong 49 = .ok (.lconst 0, 1) := by decide +kernel
theorem dX0_asLong_50 : decode cX0_asLong 50 = .ok (.lcmp, 1) := by decide +kernel
theorem dX0_asLong_51 : decode cX0_asLong 51 = .ok (.ifCond .ge 8, 3) := by decide +kernel
theorem dX0_asLong_59 : decode cX0_asLong 59 = .ok (.lload_n 1, 1) := by decide +kernel
theorem dX0_asLong_60 : decode cX0_asLong 60 = .ok (.bipush 52, 2) := by decide +kernel
theorem dX0_asLong_62 : decode cX0_asLong 62 = .ok (.sipush 1023, 3) := by decide +kernel
theorem q_653 : Cond.methodLink "FieldMember$Constants" 11 ⟨"FieldMember$Constants", "bitsOf", "(JII)J"⟩ ∈ TT := tt_t (i := 653) (by decide +kernel) (by decide +kernel)
theorem q_655 : Cond.code ⟨"FieldMember$Constants", "bitsOf", "(JII)J"⟩ prog_2_method_4_code 5 (some .long) ∈ TT := tt_t (i := 655) (by decide +kernel) (by decide +kernel)
theorem q_654 : Cond.static ⟨"FieldMember$Constants", "bitsOf", "(JII)J"⟩ ∈ TT := tt_t (i := 654) (by decide +kernel) (by decide +kernel)
theorem gS_X0_X0_bitsOf : GoodIn TT (va_wsS RX0 11 yX0_bitsOf (ww yX0_bitsOf cX0_bitsOf 5 (some .long))) := tt_S q_653 q_654 q_9 q_655
theorem hdS_X0_bitsOf : yX0_bitsOf.cls ≠ "java/lang/invoke/MethodHandle" ∧ yX0_bitsOf.cls ≠ "java/lang/invoke/VarHandle" ∧ (parseMethodDescriptor yX0_bitsOf.desc).map (fun d => d.parameters.length) = some 3 := by decide +kernel
theorem dX0_asLong_65 : decode cX0_asLong 65 = .ok (.invokestatic 11, 3) := by decide +kernel
theorem dX0_asLong_68 : decode cX0_asLong 68 = .ok (.lstore_n 3, 1) := by decide +kernel
theorem dX0_asLong_69 : decode cX0_asLong 69 = .ok (.lload_n 1, 1) := by decide +kernel
theorem dX0_asLong_70 : decode cX0_asLong 70 = .ok (.lconst 0, 1) := by decide +kernel
theorem dX0_asLong_71 : decode cX0_asLong 71 = .ok (.lcmp, 1) := by decide +kernel
theorem dX0_asLong_72 : decode cX0_asLong 72 = .ok (.ifCond .ge 11, 3) := by decide +kernel
theorem dX0_asLong_83 : decode cX0_asLong 83 = .ok (.lload_n 3, 1) := by decide +kernel
theorem dX0_asLong_84 : decode cX0_asLong 84 = .ok (.lreturn, 1) := by decide +kernel
theorem dX0_asLong_54 : decode cX0_asLong 54 = .ok (.lload_n 1, 1) := by decide +kernel
theorem dX0_asLong_55 : decode cX0_asLong 55 = .ok (.lneg, 1) := by decide +kernel
theorem dX0_asLong_56 : decode cX0_asLong 56 = .ok (.goto 4, 3) := by decide +kernel
theorem dX0_asLong_75 : decode cX0_asLong 75 = .ok (.lload_n 3, 1) := by decide +kernel
theorem q_663 : Cond.constantLong "FieldMember$Constants" 17 (-9223372036854775808 : Int64) ∈ TT := tt_t (i := 663) (by decide +kernel) (by decide +kernel)
theorem dX0_asLong_76 : decode cX0_asLong 76 = .ok (.ldc2_w 17, 3) := by decide +kernel
theorem dX0_asLong_79 : decode cX0_asLong 79 = .ok (.ladd, 1) := by decide +kernel
theorem dX0_asLong_80 : decode cX0_asLong 80 = .ok (.goto 4, 3) := by decide +kernel
theorem dX0_asLong_6 : decode cX0_asLong 6 = .ok (.lload_n 1, 1) := by decide +kernel
theorem dX0_asLong_7 : decode cX0_asLong 7 = .ok (.lconst 0, 1) := by decide +kernel
theorem dX0_asLong_8 : decode cX0_asLong 8 = .ok (.lcmp, 1) := by decide +kernel
theorem dX0_asLong_9 : decode cX0_asLong 9 = .ok (.ifCond .ge 8, 3) := by decide +kernel
theorem dX0_asLong_17 : decode cX0_asLong 17 = .ok (.lload_n 1, 1) := by decide +kernel
theorem dX0_asLong_18 : decode cX0_asLong 18 = .ok (.bipush 23, 2) := by decide +kernel
theorem dX0_asLong_20 : decode cX0_asLong 20 = .ok (.bipush 127, 2) := by decide +kernel
theorem dX0_asLong_22 : decode cX0_asLong 22 = .ok (.invokestatic 11, 3) := by decide +kernel
theorem dX0_asLong_25 : decode cX0_asLong 25 = .ok (.lstore_n 3, 1) := by decide +kernel
theorem dX0_asLong_26 : decode cX0_asLong 26 = .ok (.lload_n 1, 1) := by decide +kernel
theorem dX0_asLong_27 : decode cX0_asLong 27 = .ok (.lconst 0, 1) := by decide +kernel
theorem dX0_asLong_28 : decode cX0_asLong 28 = .ok (.lcmp, 1) := by decide +kernel
theorem dX0_asLong_29 : decode cX0_asLong 29 = .ok (.ifCond .ge 11, 3) := by decide +kernel
theorem dX0_asLong_40 : decode cX0_asLong 40 = .ok (.lload_n 3, 1) := by decide +kernel
theorem dX0_asLong_41 : decode cX0_asLong 41 = .ok (.lreturn, 1) := by decide +kernel
theorem dX0_asLong_12 : decode cX0_asLong 12 = .ok (.lload_n 1, 1) := by decide +kernel
theorem dX0_asLong_13 : decode cX0_asLong 13 = .ok (.lneg, 1) := by decide +kernel
theorem dX0_asLong_14 : decode cX0_asLong 14 = .ok (.goto 4, 3) := by decide +kernel
theorem dX0_asLong_32 : decode cX0_asLong 32 = .ok (.lload_n 3, 1) := by decide +kernel
theorem q_662 : Cond.constantLong "FieldMember$Constants" 15 (-2147483648 : Int64) ∈ TT := tt_t (i := 662) (by decide +kernel) (by decide +kernel)
theorem dX0_asLong_33 : decode cX0_asLong 33 = .ok (.ldc2_w 15, 3) := by decide +kernel
theorem dX0_asLong_36 : decode cX0_asLong 36 = .ok (.ladd, 1) := by decide +kernel
theorem dX0_asLong_37 : decode cX0_asLong 37 = .ok (.goto 4, 3) := by decide +kernel
set_option maxHeartbeats 4000000 in
set_option maxRecDepth 100000 in
theorem c_isOfKind (l : Launch) (D : va_G) (G : Nat → ClassId) (H : Heap) (kind : Int32) (v : Int64) : Met l yX0_isOfKind (ww yX0_isOfKind cX0_isOfKind 3 (some .boolean)) (rmD 0) (roP D G H [.int kind, .long v]) (vp_Si (fun r => r = bI (icP kind v))) 0 0 (fun _ => False) := by
  refine Met.ofW (cc := cX0_isOfKind) (maxL := 3) (ret := (some .boolean)) (by decide) rfl ?_
  intro p e s m args below meth c s₁ B hml hv
  obtain ⟨rfl, hH, hK⟩ := hv
  have hx := B.exec
  have hb := B.bytes
  have hr := B.returns
  have hts : ∀ w ∈ TT, w.before _ s = true := fun w h => atoms_spec (ws := ww yX0_isOfKind cX0_isOfKind 3 (some .boolean)) B.pre w (List.mem_cons_of_mem _ h)
  have hown : s.vm.findClass RX0 = some m.cls := findClass_of_methodNamed B.named
  have hlocks := B.notSynchronized
  rw [hH]
  have hl := lv_entry ([.int kind, .long v]) (n := 3) (Nat.le_of_ble_eq_true rfl)
  rw [lg_entry_eq]
  generalize (lg_sl ([.int kind, .long v]) ++ List.replicate (3 - (lg_sl ([.int kind, .long v])).length) Slot.unset).toArray = ls at hl ⊢
  have hl : lv_has ls 3 [(0, .int kind), (1, .long v)] := hl
  refine lv_iload_n hx hb dX0_isOfKind_0 rfl (lv_at hl 0 rfl) ?_
  by_cases c1 : kind = 1
  · -- case 1
    refine lv_tableIn (tgt := 36) hx hb dX0_isOfKind_1 (by rw [c1]; decide) (by rw [c1]; decide) (by rw [c1]; rfl) (by decide) ?_
    refine lv_lload_n hx hb dX0_isOfKind_36 rfl (lv_at hl 1 rfl) ?_
    refine lv_lconst (v := 0) hx hb dX0_isOfKind_37 (by decide) ?_
    refine W.lcmp hx hb dX0_isOfKind_38 ?_
    refine lv_if_eq (tgt := 48) hx hb dX0_isOfKind_39 (by decide) (fun c2 => ?_) (fun c2 => ?_)
    · -- 39 taken
      have c2g := (lg_cmp_eq _ _).mp c2
      refine lv_iconst (v := 1) hx hb dX0_isOfKind_48 (by decide) ?_
      refine lv_goto (tgt := 53) hx hb dX0_isOfKind_49 (by decide) ?_
      exact ro_zret (v := 1) hx hb hr hH hlocks dX0_isOfKind_53 (Or.inr rfl) ((bI_t (by rw [icP_def]; simp only [eq_true c1, eq_true c2g, not_true, not_false_iff, not_true_eq_false, not_false_eq_true, true_or, or_true, false_or, or_false, or_self, and_self, true_and, and_true, false_and, and_false, if_true, if_false])).symm)
    · -- 39 not
      have c2g := mt (lg_cmp_eq _ _).mpr c2
      refine lv_lload_n hx hb dX0_isOfKind_42 rfl (lv_at hl 1 rfl) ?_
      refine lv_lconst (v := 1) hx hb dX0_isOfKind_43 (by decide) ?_
      refine W.lcmp hx hb dX0_isOfKind_44 ?_
      refine lv_if_ne (tgt := 52) hx hb dX0_isOfKind_45 (by decide) (fun c3 => ?_) (fun c3 => ?_)
      · -- 45 taken
        have c3g := mt (lg_cmp_eq _ _).mpr c3
        refine lv_iconst (v := 0) hx hb dX0_isOfKind_52 (by decide) ?_
        exact ro_zret (v := 0) hx hb hr hH hlocks dX0_isOfKind_53 (Or.inl rfl) ((bI_f (by rw [icP_def]; simp only [eq_true c1, eq_false c2g, eq_false c3g, not_true, not_false_iff, not_true_eq_false, not_false_eq_true, true_or, or_true, false_or, or_false, or_self, and_self, true_and, and_true, false_and, and_false, if_true, if_false])).symm)
      · -- 45 not
        have c3g := (lg_cmp_eq _ _).mp c3
        refine lv_iconst (v := 1) hx hb dX0_isOfKind_48 (by decide) ?_
        refine lv_goto (tgt := 53) hx hb dX0_isOfKind_49 (by decide) ?_
        exact ro_zret (v := 1) hx hb hr hH hlocks dX0_isOfKind_53 (Or.inr rfl) ((bI_t (by rw [icP_def]; simp only [eq_true c1, eq_false c2g, eq_true c3g, not_true, not_false_iff, not_true_eq_false, not_false_eq_true, true_or, or_true, false_or, or_false, or_self, and_self, true_and, and_true, false_and, and_false, if_true, if_false])).symm)
  by_cases c4 : kind = 2
  · -- case 2
    refine lv_tableIn (tgt := 54) hx hb dX0_isOfKind_1 (by rw [c4]; decide) (by rw [c4]; decide) (by rw [c4]; rfl) (by decide) ?_
    refine lv_lload_n hx hb dX0_isOfKind_54 rfl (lv_at hl 1 rfl) ?_
    refine lv_lload_n hx hb dX0_isOfKind_55 rfl (lv_at hl 1 rfl) ?_
    refine lv_l2i hx hb dX0_isOfKind_56 rfl ?_
    refine lv_i2b hx hb dX0_isOfKind_57 rfl ?_
    refine lv_i2l hx hb dX0_isOfKind_58 rfl ?_
    refine W.lcmp hx hb dX0_isOfKind_59 ?_
    refine lv_if_ne (tgt := 67) hx hb dX0_isOfKind_60 (by decide) (fun c5 => ?_) (fun c5 => ?_)
    · -- 60 taken
      have c5g := mt (lg_cmp_eq _ _).mpr c5
      refine lv_iconst (v := 0) hx hb dX0_isOfKind_67 (by decide) ?_
      exact ro_zret (v := 0) hx hb hr hH hlocks dX0_isOfKind_68 (Or.inl rfl) ((bI_f (by rw [icP_def]; simp only [eq_false c1, eq_true c4, eq_false c5g, not_true, not_false_iff, not_true_eq_false, not_false_eq_true, true_or, or_true, false_or, or_false, or_self, and_self, true_and, and_true, false_and, and_false, if_true, if_false])).symm)
    · -- 60 not
      have c5g := (lg_cmp_eq _ _).mp c5
      refine lv_iconst (v := 1) hx hb dX0_isOfKind_63 (by decide) ?_
      refine lv_goto (tgt := 68) hx hb dX0_isOfKind_64 (by decide) ?_
      exact ro_zret (v := 1) hx hb hr hH hlocks dX0_isOfKind_68 (Or.inr rfl) ((bI_t (by rw [icP_def]; simp only [eq_false c1, eq_true c4, eq_true c5g, not_true, not_false_iff, not_true_eq_false, not_false_eq_true, true_or, or_true, false_or, or_false, or_self, and_self, true_and, and_true, false_and, and_false, if_true, if_false])).symm)
  by_cases c6 : kind = 3
  · -- case 3
    refine lv_tableIn (tgt := 69) hx hb dX0_isOfKind_1 (by rw [c6]; decide) (by rw [c6]; decide) (by rw [c6]; rfl) (by decide) ?_
    refine lv_lload_n hx hb dX0_isOfKind_69 rfl (lv_at hl 1 rfl) ?_
    refine lv_lload_n hx hb dX0_isOfKind_70 rfl (lv_at hl 1 rfl) ?_
    refine lv_l2i hx hb dX0_isOfKind_71 rfl ?_
    refine lv_i2s hx hb dX0_isOfKind_72 rfl ?_
    refine lv_i2l hx hb dX0_isOfKind_73 rfl ?_
    refine W.lcmp hx hb dX0_isOfKind_74 ?_
    refine lv_if_ne (tgt := 82) hx hb dX0_isOfKind_75 (by decide) (fun c7 => ?_) (fun c7 => ?_)
    · -- 75 taken
      have c7g := mt (lg_cmp_eq _ _).mpr c7
      refine lv_iconst (v := 0) hx hb dX0_isOfKind_82 (by decide) ?_
      exact ro_zret (v := 0) hx hb hr hH hlocks dX0_isOfKind_83 (Or.inl rfl) ((bI_f (by rw [icP_def]; simp only [eq_false c1, eq_false c4, eq_true c6, eq_false c7g, not_true, not_false_iff, not_true_eq_false, not_false_eq_true, true_or, or_true, false_or, or_false, or_self, and_self, true_and, and_true, false_and, and_false, if_true, if_false])).symm)
    · -- 75 not
      have c7g := (lg_cmp_eq _ _).mp c7
      refine lv_iconst (v := 1) hx hb dX0_isOfKind_78 (by decide) ?_
      refine lv_goto (tgt := 83) hx hb dX0_isOfKind_79 (by decide) ?_
      exact ro_zret (v := 1) hx hb hr hH hlocks dX0_isOfKind_83 (Or.inr rfl) ((bI_t (by rw [icP_def]; simp only [eq_false c1, eq_false c4, eq_true c6, eq_true c7g, not_true, not_false_iff, not_true_eq_false, not_false_eq_true, true_or, or_true, false_or, or_false, or_self, and_self, true_and, and_true, false_and, and_false, if_true, if_false])).symm)
  by_cases c8 : kind = 4
  · -- case 4
    refine lv_tableIn (tgt := 84) hx hb dX0_isOfKind_1 (by rw [c8]; decide) (by rw [c8]; decide) (by rw [c8]; rfl) (by decide) ?_
    refine lv_lload_n hx hb dX0_isOfKind_84 rfl (lv_at hl 1 rfl) ?_
    refine lv_lload_n hx hb dX0_isOfKind_85 rfl (lv_at hl 1 rfl) ?_
    refine lv_l2i hx hb dX0_isOfKind_86 rfl ?_
    refine lv_i2c hx hb dX0_isOfKind_87 rfl ?_
    refine lv_i2l hx hb dX0_isOfKind_88 rfl ?_
    refine W.lcmp hx hb dX0_isOfKind_89 ?_
    refine lv_if_ne (tgt := 97) hx hb dX0_isOfKind_90 (by decide) (fun c9 => ?_) (fun c9 => ?_)
    · -- 90 taken
      have c9g := mt (lg_cmp_eq _ _).mpr c9
      refine lv_iconst (v := 0) hx hb dX0_isOfKind_97 (by decide) ?_
      exact ro_zret (v := 0) hx hb hr hH hlocks dX0_isOfKind_98 (Or.inl rfl) ((bI_f (by rw [icP_def]; simp only [eq_false c1, eq_false c4, eq_false c6, eq_true c8, eq_false c9g, not_true, not_false_iff, not_true_eq_false, not_false_eq_true, true_or, or_true, false_or, or_false, or_self, and_self, true_and, and_true, false_and, and_false, if_true, if_false])).symm)
    · -- 90 not
      have c9g := (lg_cmp_eq _ _).mp c9
      refine lv_iconst (v := 1) hx hb dX0_isOfKind_93 (by decide) ?_
      refine lv_goto (tgt := 98) hx hb dX0_isOfKind_94 (by decide) ?_
      exact ro_zret (v := 1) hx hb hr hH hlocks dX0_isOfKind_98 (Or.inr rfl) ((bI_t (by rw [icP_def]; simp only [eq_false c1, eq_false c4, eq_false c6, eq_true c8, eq_true c9g, not_true, not_false_iff, not_true_eq_false, not_false_eq_true, true_or, or_true, false_or, or_false, or_self, and_self, true_and, and_true, false_and, and_false, if_true, if_false])).symm)
  by_cases c10 : kind = 5
  · -- case 5
    refine lv_tableIn (tgt := 99) hx hb dX0_isOfKind_1 (by rw [c10]; decide) (by rw [c10]; decide) (by rw [c10]; rfl) (by decide) ?_
    refine lv_lload_n hx hb dX0_isOfKind_99 rfl (lv_at hl 1 rfl) ?_
    refine lv_lload_n hx hb dX0_isOfKind_100 rfl (lv_at hl 1 rfl) ?_
    refine lv_l2i hx hb dX0_isOfKind_101 rfl ?_
    refine lv_i2l hx hb dX0_isOfKind_102 rfl ?_
    refine W.lcmp hx hb dX0_isOfKind_103 ?_
    refine lv_if_ne (tgt := 111) hx hb dX0_isOfKind_104 (by decide) (fun c11 => ?_) (fun c11 => ?_)
    · -- 104 taken
      have c11g := mt (lg_cmp_eq _ _).mpr c11
      refine lv_iconst (v := 0) hx hb dX0_isOfKind_111 (by decide) ?_
      exact ro_zret (v := 0) hx hb hr hH hlocks dX0_isOfKind_112 (Or.inl rfl) ((bI_f (by rw [icP_def]; simp only [eq_false c1, eq_false c4, eq_false c6, eq_false c8, eq_true c10, eq_false c11g, not_true, not_false_iff, not_true_eq_false, not_false_eq_true, true_or, or_true, false_or, or_false, or_self, and_self, true_and, and_true, false_and, and_false, if_true, if_false])).symm)
    · -- 104 not
      have c11g := (lg_cmp_eq _ _).mp c11
      refine lv_iconst (v := 1) hx hb dX0_isOfKind_107 (by decide) ?_
      refine lv_goto (tgt := 112) hx hb dX0_isOfKind_108 (by decide) ?_
      exact ro_zret (v := 1) hx hb hr hH hlocks dX0_isOfKind_112 (Or.inr rfl) ((bI_t (by rw [icP_def]; simp only [eq_false c1, eq_false c4, eq_false c6, eq_false c8, eq_true c10, eq_true c11g, not_true, not_false_iff, not_true_eq_false, not_false_eq_true, true_or, or_true, false_or, or_false, or_self, and_self, true_and, and_true, false_and, and_false, if_true, if_false])).symm)
  refine lv_tableOut (tgt := 113) hx hb dX0_isOfKind_1 (by simp only [i_eq, Int32.reduceToInt] at c1 c4 c6 c8 c10; omega) (by decide) ?_
  refine lv_iconst (v := 1) hx hb dX0_isOfKind_113 (by decide) ?_
  exact ro_zret (v := 1) hx hb hr hH hlocks dX0_isOfKind_114 (Or.inr rfl) ((bI_t (by rw [icP_def]; simp only [eq_false c1, eq_false c4, eq_false c6, eq_false c8, eq_false c10, not_true, not_false_iff, not_true_eq_false, not_false_eq_true, true_or, or_true, false_or, or_false, or_self, and_self, true_and, and_true, false_and, and_false, if_true, if_false])).symm)
set_option maxHeartbeats 4000000 in
set_option maxRecDepth 100000 in
theorem c_highestBit (l : Launch) (D : va_G) (G : Nat → ClassId) (H : Heap) (s0 : Int64) : Met l yX0_highestBit (ww yX0_highestBit cX0_highestBit 3 (some .int)) (rmD 0) (roP D G H [.long s0]) (vp_Si (fun r => r = nI (hbN s0 63))) 0 0 (fun _ => False) := by
  refine Met.ofW (cc := cX0_highestBit) (maxL := 3) (ret := (some .int)) (by decide) rfl ?_
  intro p e s m args below meth c s₁ B hml hv
  obtain ⟨rfl, hH, hK⟩ := hv
  have hx := B.exec
  have hb := B.bytes
  have hr := B.returns
  have hts : ∀ w ∈ TT, w.before _ s = true := fun w h => atoms_spec (ws := ww yX0_highestBit cX0_highestBit 3 (some .int)) B.pre w (List.mem_cons_of_mem _ h)
  have hown : s.vm.findClass RX0 = some m.cls := findClass_of_methodNamed B.named
  have hlocks := B.notSynchronized
  rw [hH]
  have hl := lv_entry ([.long s0]) (n := 3) (Nat.le_of_ble_eq_true rfl)
  rw [lg_entry_eq]
  generalize (lg_sl ([.long s0]) ++ List.replicate (3 - (lg_sl ([.long s0])).length) Slot.unset).toArray = ls at hl ⊢
  have hl : lv_has ls 3 [(0, .long s0)] := hl
  refine lv_bipush (v := 63) hx hb dX0_highestBit_0 (by decide) ?_
  refine lv_istore_n (lv' := [(2, .int 63), (0, .long s0)]) hx hb dX0_highestBit_2 rfl hl (by decide) rfl (fun ls hl => ?_)
  refine w_for (N := 63) 3 (L := fun q9 ls => lv_has ls 3 [(2, .int (nI (63 - q9))), (0, .long s0)] ∧ hbN s0 63 = hbN s0 (63 - q9)) (fun k9 ls hk hL ih => ?_) 0 ls (Nat.zero_le _) ⟨hl, rfl⟩
  obtain ⟨hl, hi⟩ := hL
  have hl : lv_has ls 3 [(2, .int (nI (63 - k9))), (0, .long s0)] := hl
  refine lv_iload_n hx hb dX0_highestBit_3 rfl (lv_at hl 0 rfl) ?_
  refine lv_if_le (tgt := 21) hx hb dX0_highestBit_4 (by decide) (fun c1 => ?_) (fun c1 => ?_)
  · -- 4 taken
    have c1 : (63 - k9) ≤ 0 := (nI_leI (a := (63 - k9)) (b := 0) (by omega) (by omega)).mp (by have h8 := c1; exact h8)
    refine lv_iload_n hx hb dX0_highestBit_21 rfl (lv_at hl 0 rfl) ?_
    exact ro_iret (v := nI (63 - k9)) hx hb hr hH hlocks dX0_highestBit_22 (by rw [hi, hbN_0 c1])
  · -- 4 not
    have c1 : ¬ (63 - k9) ≤ 0 := fun h9 => c1 (by exact (nI_leI (a := (63 - k9)) (b := 0) (by omega) (by omega)).mpr h9)
    refine lv_lload_n hx hb dX0_highestBit_7 rfl (lv_at hl 1 rfl) ?_
    refine lv_iload_n hx hb dX0_highestBit_8 rfl (lv_at hl 0 rfl) ?_
    refine lv_lushr hx hb dX0_highestBit_9 rfl ?_
    refine lv_lconst (v := 0) hx hb dX0_highestBit_10 (by decide) ?_
    refine W.lcmp hx hb dX0_highestBit_11 ?_
    refine lv_if_ne (tgt := 21) hx hb dX0_highestBit_12 (by decide) (fun c2 => ?_) (fun c2 => ?_)
    · -- 12 taken
      have c2g := mt (lg_cmp_eq _ _).mpr c2
      refine lv_iload_n hx hb dX0_highestBit_21 rfl (lv_at hl 0 rfl) ?_
      exact ro_iret (v := nI (63 - k9)) hx hb hr hH hlocks dX0_highestBit_22 (by rw [hi, hbN_f c1 c2g])
    · -- 12 not
      have c2g := (lg_cmp_eq _ _).mp c2
      refine lv_iinc (v := (nI (63 - k9)) + (-1)) (lv' := [(2, .int ((nI (63 - k9)) + (-1))), (0, .long s0)]) hx hb dX0_highestBit_15 hl (k := 0) rfl (rfl) (by decide) rfl (fun ls hl => ?_)
      refine lv_goto (tgt := 3) hx hb dX0_highestBit_18 (by decide) ?_
      have hi := hi.trans (hbN_t c1 c2g)
      rw [dec63 (by omega), show 63 - k9 - 1 = 63 - (k9 + 1) by omega] at hl
      rw [show 63 - k9 - 1 = 63 - (k9 + 1) by omega] at hi
      exact ih _ (by omega) ⟨lv_sub hl [0, 1] rfl, hi⟩
set_option maxHeartbeats 4000000 in
set_option maxRecDepth 100000 in
theorem c_roundedOff (l : Launch) (D : va_G) (G : Nat → ClassId) (H : Heap) (s0 : Int64) (b0 : Int32) : Met l yX0_roundedOff (ww yX0_roundedOff cX0_roundedOff 10 (some .long)) (rmD 0) (roP D G H [.long s0, .int b0]) (vp_Sl (fun r => r = roF s0 b0)) 0 0 (fun _ => False) := by
  refine Met.ofW (cc := cX0_roundedOff) (maxL := 10) (ret := (some .long)) (by decide) rfl ?_
  intro p e s m args below meth c s₁ B hml hv
  obtain ⟨rfl, hH, hK⟩ := hv
  have hx := B.exec
  have hb := B.bytes
  have hr := B.returns
  have hts : ∀ w ∈ TT, w.before _ s = true := fun w h => atoms_spec (ws := ww yX0_roundedOff cX0_roundedOff 10 (some .long)) B.pre w (List.mem_cons_of_mem _ h)
  have hown : s.vm.findClass RX0 = some m.cls := findClass_of_methodNamed B.named
  have hlocks := B.notSynchronized
  rw [hH]
  have hl := lv_entry ([.long s0, .int b0]) (n := 10) (Nat.le_of_ble_eq_true rfl)
  rw [lg_entry_eq]
  generalize (lg_sl ([.long s0, .int b0]) ++ List.replicate (10 - (lg_sl ([.long s0, .int b0])).length) Slot.unset).toArray = ls at hl ⊢
  have hl : lv_has ls 10 [(0, .long s0), (2, .int b0)] := hl
  refine lv_iload_n hx hb dX0_roundedOff_0 rfl (lv_at hl 1 rfl) ?_
  refine lv_if_gt (tgt := 9) hx hb dX0_roundedOff_1 (by decide) (fun c1 => ?_) (fun c1 => ?_)
  · -- 1 taken
    refine lv_lload_n hx hb dX0_roundedOff_9 rfl (lv_at hl 0 rfl) ?_
    refine lv_iload_n hx hb dX0_roundedOff_10 rfl (lv_at hl 1 rfl) ?_
    refine lv_lushr hx hb dX0_roundedOff_11 rfl ?_
    refine lv_lstore_n (lv' := [(3, .long (((s0).toUInt64 >>> ((b0).toInt64.toUInt64 &&& Int64.toUInt64 63)).toInt64)), (0, .long s0), (2, .int b0)]) hx hb dX0_roundedOff_12 rfl hl (by decide) rfl (fun ls hl => ?_)
    refine lv_lload_n hx hb dX0_roundedOff_13 rfl (lv_at hl 1 rfl) ?_
    refine lv_lconst (v := 1) hx hb dX0_roundedOff_14 (by decide) ?_
    refine lv_iload_n hx hb dX0_roundedOff_15 rfl (lv_at hl 2 rfl) ?_
    refine lv_lshl hx hb dX0_roundedOff_16 rfl ?_
    refine lv_lconst (v := 1) hx hb dX0_roundedOff_17 (by decide) ?_
    refine lv_lsub hx hb dX0_roundedOff_18 ?_
    refine lv_land hx hb dX0_roundedOff_19 ?_
    refine lv_lstore (lv' := [(5, .long (s0 &&& (((1) <<< ((b0).toInt64 &&& 63)) - 1))), (3, .long (((s0).toUInt64 >>> ((b0).toInt64.toUInt64 &&& Int64.toUInt64 63)).toInt64)), (0, .long s0), (2, .int b0)]) hx hb dX0_roundedOff_20 hl (by decide) rfl (fun ls hl => ?_)
    refine lv_lconst (v := 1) hx hb dX0_roundedOff_22 (by decide) ?_
    refine lv_iload_n hx hb dX0_roundedOff_23 rfl (lv_at hl 3 rfl) ?_
    refine lv_iconst (v := 1) hx hb dX0_roundedOff_24 (by decide) ?_
    refine lv_isub hx hb dX0_roundedOff_25 ?_
    refine lv_lshl hx hb dX0_roundedOff_26 rfl ?_
    refine lv_lstore (lv' := [(7, .long ((1) <<< ((b0 - 1).toInt64 &&& 63))), (5, .long (s0 &&& (((1) <<< ((b0).toInt64 &&& 63)) - 1))), (3, .long (((s0).toUInt64 >>> ((b0).toInt64.toUInt64 &&& Int64.toUInt64 63)).toInt64)), (0, .long s0), (2, .int b0)]) hx hb dX0_roundedOff_27 hl (by decide) rfl (fun ls hl => ?_)
    refine w_join (P := fun b9 => b9 = bI (roP' (lru s0 b0) (s0 &&& (lsl 1 b0 - 1)) (lsl 1 (b0 - 1)))) 58 (ls := ls) (rest := []) (fun b3 e_b3 => ?_) (fun J2 => ?_)
    · -- behind the meeting at 58
      subst e_b3
      refine lv_istore (lv' := [(9, .int (bI (roP' (lru s0 b0) (s0 &&& (lsl 1 b0 - 1)) (lsl 1 (b0 - 1))))), (7, .long ((1) <<< ((b0 - 1).toInt64 &&& 63))), (5, .long (s0 &&& (((1) <<< ((b0).toInt64 &&& 63)) - 1))), (3, .long (((s0).toUInt64 >>> ((b0).toInt64.toUInt64 &&& Int64.toUInt64 63)).toInt64)), (0, .long s0), (2, .int b0)]) hx hb dX0_roundedOff_58 hl (by decide) rfl (fun ls hl => ?_)
      refine lv_iload hx hb dX0_roundedOff_60 (lv_at hl 0 rfl) ?_
      refine lv_if_eq (tgt := 71) hx hb dX0_roundedOff_62 (by decide) (fun c4 => ?_) (fun c4 => ?_)
      · -- 62 taken
        have c4 := bI_0 c4
        refine lv_lload_n hx hb dX0_roundedOff_71 rfl (lv_at hl 3 rfl) ?_
        exact ro_lret (v := ((s0).toUInt64 >>> ((b0).toInt64.toUInt64 &&& Int64.toUInt64 63)).toInt64) hx hb hr hH hlocks dX0_roundedOff_72 (by unfold roF; simp only [eq_true c1, eq_false c4, not_true, not_false_iff, not_true_eq_false, not_false_eq_true, true_or, or_true, false_or, or_false, or_self, and_self, true_and, and_true, false_and, and_false, if_true, if_false]; try rfl)
      · -- 62 not
        have c4 := bI_1 c4
        refine lv_lload_n hx hb dX0_roundedOff_65 rfl (lv_at hl 3 rfl) ?_
        refine lv_lconst (v := 1) hx hb dX0_roundedOff_66 (by decide) ?_
        refine lv_ladd hx hb dX0_roundedOff_67 ?_
        refine lv_goto (tgt := 72) hx hb dX0_roundedOff_68 (by decide) ?_
        exact ro_lret (v := (((s0).toUInt64 >>> ((b0).toInt64.toUInt64 &&& Int64.toUInt64 63)).toInt64) + 1) hx hb hr hH hlocks dX0_roundedOff_72 (by unfold roF; simp only [eq_true c1, eq_true c4, not_true, not_false_iff, not_true_eq_false, not_false_eq_true, true_or, or_true, false_or, or_false, or_self, and_self, true_and, and_true, false_and, and_false, if_true, if_false]; try rfl)
    · -- up to the meeting at 58
      refine lv_lload hx hb dX0_roundedOff_29 (lv_at hl 1 rfl) ?_
      refine lv_lload hx hb dX0_roundedOff_31 (lv_at hl 0 rfl) ?_
      refine W.lcmp hx hb dX0_roundedOff_33 ?_
      refine lv_if_gt (tgt := 53) hx hb dX0_roundedOff_34 (by decide) (fun c5 => ?_) (fun c5 => ?_)
      · -- 34 taken
        have c5g := (lg_cmp_gt _ _).mp c5
        refine lv_iconst (v := 1) hx hb dX0_roundedOff_53 (by decide) ?_
        refine lv_goto (tgt := 58) hx hb dX0_roundedOff_54 (by decide) ?_
        exact J2 1 ((bI_t (roP'_def.mpr (Or.inl c5g))).symm)
      · -- 34 not
        have c5g := mt (lg_cmp_gt _ _).mpr c5
        refine lv_lload hx hb dX0_roundedOff_37 (lv_at hl 1 rfl) ?_
        refine lv_lload hx hb dX0_roundedOff_39 (lv_at hl 0 rfl) ?_
        refine W.lcmp hx hb dX0_roundedOff_41 ?_
        refine lv_if_ne (tgt := 57) hx hb dX0_roundedOff_42 (by decide) (fun c6 => ?_) (fun c6 => ?_)
        · -- 42 taken
          have c6g := mt (lg_cmp_eq _ _).mpr c6
          refine lv_iconst (v := 0) hx hb dX0_roundedOff_57 (by decide) ?_
          exact J2 0 ((bI_f (fun h9 => (roP'_def.mp h9).elim c5g (fun q => c6g q.1))).symm)
        · -- 42 not
          have c6g := (lg_cmp_eq _ _).mp c6
          refine lv_lload_n hx hb dX0_roundedOff_45 rfl (lv_at hl 2 rfl) ?_
          refine lv_lconst (v := 1) hx hb dX0_roundedOff_46 (by decide) ?_
          refine lv_land hx hb dX0_roundedOff_47 ?_
          refine lv_lconst (v := 1) hx hb dX0_roundedOff_48 (by decide) ?_
          refine W.lcmp hx hb dX0_roundedOff_49 ?_
          refine lv_if_ne (tgt := 57) hx hb dX0_roundedOff_50 (by decide) (fun c7 => ?_) (fun c7 => ?_)
          · -- 50 taken
            have c7g := mt (lg_cmp_eq _ _).mpr c7
            refine lv_iconst (v := 0) hx hb dX0_roundedOff_57 (by decide) ?_
            exact J2 0 ((bI_f (fun h9 => (roP'_def.mp h9).elim c5g (fun q => c7g q.2))).symm)
          · -- 50 not
            have c7g := (lg_cmp_eq _ _).mp c7
            refine lv_iconst (v := 1) hx hb dX0_roundedOff_53 (by decide) ?_
            refine lv_goto (tgt := 58) hx hb dX0_roundedOff_54 (by decide) ?_
            exact J2 1 ((bI_t (roP'_def.mpr (Or.inr ⟨c6g, c7g⟩))).symm)
  · -- 1 not
    refine lv_lload_n hx hb dX0_roundedOff_4 rfl (lv_at hl 0 rfl) ?_
    refine lv_iload_n hx hb dX0_roundedOff_5 rfl (lv_at hl 1 rfl) ?_
    refine lv_ineg hx hb dX0_roundedOff_6 ?_
    refine lv_lshl hx hb dX0_roundedOff_7 rfl ?_
    exact ro_lret (v := (s0) <<< ((-b0).toInt64 &&& 63)) hx hb hr hH hlocks dX0_roundedOff_8 (by unfold roF; simp only [eq_false c1, not_true, not_false_iff, not_true_eq_false, not_false_eq_true, true_or, or_true, false_or, or_false, or_self, and_self, true_and, and_true, false_and, and_false, if_true, if_false]; try rfl)
set_option maxHeartbeats 4000000 in
set_option maxRecDepth 100000 in
theorem c_bitsOf (l : Launch) (D : va_G) (G : Nat → ClassId) (H : Heap) (s0 : Int64) (f0 b0 : Int32) : Met l yX0_bitsOf (ww yX0_bitsOf cX0_bitsOf 5 (some .long)) (rmD 1) (roP D G H [.long s0, .int f0, .int b0]) (vp_Sl (fun r => r = boF s0 f0 b0)) 0 0 (fun _ => False) := by
  refine Met.ofW (cc := cX0_bitsOf) (maxL := 5) (ret := (some .long)) (by decide) rfl ?_
  intro p e s m args below meth c s₁ B hml hv
  obtain ⟨rfl, hH, hK⟩ := hv
  have hx := B.exec
  have hb := B.bytes
  have hr := B.returns
  have hts : ∀ w ∈ TT, w.before _ s = true := fun w h => atoms_spec (ws := ww yX0_bitsOf cX0_bitsOf 5 (some .long)) B.pre w (List.mem_cons_of_mem _ h)
  have hown : s.vm.findClass RX0 = some m.cls := findClass_of_methodNamed B.named
  have hlocks := B.notSynchronized
  rw [hH]
  have hl := lv_entry ([.long s0, .int f0, .int b0]) (n := 5) (Nat.le_of_ble_eq_true rfl)
  rw [lg_entry_eq]
  generalize (lg_sl ([.long s0, .int f0, .int b0]) ++ List.replicate (5 - (lg_sl ([.long s0, .int f0, .int b0])).length) Slot.unset).toArray = ls at hl ⊢
  have hl : lv_has ls 5 [(0, .long s0), (2, .int f0), (3, .int b0)] := hl
  refine lv_lload_n hx hb dX0_bitsOf_0 rfl (lv_at hl 0 rfl) ?_
  refine lv_lconst (v := 0) hx hb dX0_bitsOf_1 (by decide) ?_
  refine W.lcmp hx hb dX0_bitsOf_2 ?_
  refine lv_if_ne (tgt := 8) hx hb dX0_bitsOf_3 (by decide) (fun c1 => ?_) (fun c1 => ?_)
  · -- 3 taken
    have c1g := mt (lg_cmp_eq _ _).mpr c1
    refine lv_lload_n hx hb dX0_bitsOf_8 rfl (lv_at hl 0 rfl) ?_
    refine ro_Si (D := D) (G := G) (As := [.long s0]) (rest := []) ⟨hx, hb, hml, hown, hts⟩ (c_highestBit l D G _ s0) gS_X0_X0_highestBit hdS_X0_highestBit ⟨Nat.le_of_ble_eq_true rfl, Nat.le_of_ble_eq_true rfl⟩ hK rfl hl.1 rfl (Nat.le_of_ble_eq_true rfl) dX0_bitsOf_9 ⟨Nat.le_of_ble_eq_true rfl, Nat.le_of_ble_eq_true rfl⟩ (fun r2 e_r2 => ?_)
    subst e_r2
    refine lv_istore (lv' := [(4, .int (nI (hbN s0 63))), (0, .long s0), (2, .int f0), (3, .int b0)]) hx hb dX0_bitsOf_12 hl (by decide) rfl (fun ls hl => ?_)
    refine lv_iload hx hb dX0_bitsOf_14 (lv_at hl 0 rfl) ?_
    refine lv_iload_n hx hb dX0_bitsOf_16 rfl (lv_at hl 3 rfl) ?_
    refine lv_iadd hx hb dX0_bitsOf_17 ?_
    refine lv_iconst (v := 1) hx hb dX0_bitsOf_18 (by decide) ?_
    refine lv_isub hx hb dX0_bitsOf_19 ?_
    refine lv_i2l hx hb dX0_bitsOf_20 rfl ?_
    refine lv_iload_n hx hb dX0_bitsOf_21 rfl (lv_at hl 2 rfl) ?_
    refine lv_lshl hx hb dX0_bitsOf_22 rfl ?_
    refine lv_lload_n hx hb dX0_bitsOf_23 rfl (lv_at hl 1 rfl) ?_
    refine lv_iload hx hb dX0_bitsOf_24 (lv_at hl 0 rfl) ?_
    refine lv_iload_n hx hb dX0_bitsOf_26 rfl (lv_at hl 2 rfl) ?_
    refine lv_isub hx hb dX0_bitsOf_27 ?_
    refine ro_Sl (D := D) (G := G) (As := [.long s0, .int ((nI (hbN s0 63)) - f0)]) (rest := [.long (((((nI (hbN s0 63)) + b0) - 1).toInt64) <<< ((f0).toInt64 &&& 63))]) ⟨hx, hb, hml, hown, hts⟩ (c_roundedOff l D G _ s0 ((nI (hbN s0 63)) - f0)) gS_X0_X0_roundedOff hdS_X0_roundedOff ⟨Nat.le_of_ble_eq_true rfl, Nat.le_of_ble_eq_true rfl⟩ hK rfl hl.1 rfl (Nat.le_of_ble_eq_true rfl) dX0_bitsOf_28 ⟨Nat.le_of_ble_eq_true rfl, Nat.le_of_ble_eq_true rfl⟩ (fun r3 e_r3 => ?_)
    subst e_r3
    refine lv_ladd hx hb dX0_bitsOf_31 ?_
    exact ro_lret (v := (((((nI (hbN s0 63)) + b0) - 1).toInt64) <<< ((f0).toInt64 &&& 63)) + (roF s0 ((nI (hbN s0 63)) - f0))) hx hb hr hH hlocks dX0_bitsOf_32 (by unfold boF; simp only [eq_false c1g, not_true, not_false_iff, not_true_eq_false, not_false_eq_true, true_or, or_true, false_or, or_false, or_self, and_self, true_and, and_true, false_and, and_false, if_true, if_false]; try rfl)
  · -- 3 not
    have c1g := (lg_cmp_eq _ _).mp c1
    refine lv_lconst (v := 0) hx hb dX0_bitsOf_6 (by decide) ?_
    exact ro_lret (v := 0) hx hb hr hH hlocks dX0_bitsOf_7 (by unfold boF; simp only [eq_true c1g, not_true, not_false_iff, not_true_eq_false, not_false_eq_true, true_or, or_true, false_or, or_false, or_self, and_self, true_and, and_true, false_and, and_false, if_true, if_false]; try rfl)
set_option maxHeartbeats 4000000 in
set_option maxRecDepth 100000 in
theorem c_asLong (l : Launch) (D : va_G) (G : Nat → ClassId) (H : Heap) (kind : Int32) (v : Int64) : Met l yX0_asLong (ww yX0_asLong cX0_asLong 5 (some .long)) (rmD 2) (roP D G H [.int kind, .long v]) (vp_Sl (fun r => r = alF kind v)) 0 0 (fun _ => False) := by
  refine Met.ofW (cc := cX0_asLong) (maxL := 5) (ret := (some .long)) (by decide) rfl ?_
  intro p e s m args below meth c s₁ B hml hv
  obtain ⟨rfl, hH, hK⟩ := hv
  have hx := B.exec
  have hb := B.bytes
  have hr := B.returns
  have hts : ∀ w ∈ TT, w.before _ s = true := fun w h => atoms_spec (ws := ww yX0_asLong cX0_asLong 5 (some .long)) B.pre w (List.mem_cons_of_mem _ h)
  have hown : s.vm.findClass RX0 = some m.cls := findClass_of_methodNamed B.named
  have hlocks := B.notSynchronized
  rw [hH]
  have hl := lv_entry ([.int kind, .long v]) (n := 5) (Nat.le_of_ble_eq_true rfl)
  rw [lg_entry_eq]
  generalize (lg_sl ([.int kind, .long v]) ++ List.replicate (5 - (lg_sl ([.int kind, .long v])).length) Slot.unset).toArray = ls at hl ⊢
  have hl : lv_has ls 5 [(0, .int kind), (1, .long v)] := hl
  refine lv_iload_n hx hb dX0_asLong_0 rfl (lv_at hl 0 rfl) ?_
  refine lv_bipush (v := 7) hx hb dX0_asLong_1 (by decide) ?_
  refine lv_icmp_ne (tgt := 42) hx hb dX0_asLong_3 (by decide) (fun c1 => ?_) (fun c1 => ?_)
  · -- 3 taken
    refine lv_iload_n hx hb dX0_asLong_42 rfl (lv_at hl 0 rfl) ?_
    refine lv_bipush (v := 8) hx hb dX0_asLong_43 (by decide) ?_
    refine lv_icmp_ne (tgt := 85) hx hb dX0_asLong_45 (by decide) (fun c2 => ?_) (fun c2 => ?_)
    · -- 45 taken
      refine lv_lload_n hx hb dX0_asLong_85 rfl (lv_at hl 1 rfl) ?_
      exact ro_lret (v := v) hx hb hr hH hlocks dX0_asLong_86 (by unfold alF; simp only [eq_false c1, eq_false c2, not_true, not_false_iff, not_true_eq_false, not_false_eq_true, true_or, or_true, false_or, or_false, or_self, and_self, true_and, and_true, false_and, and_false, if_true, if_false])
    · -- 45 not
      refine lv_lload_n hx hb dX0_asLong_48 rfl (lv_at hl 1 rfl) ?_
      refine lv_lconst (v := 0) hx hb dX0_asLong_49 (by decide) ?_
      refine W.lcmp hx hb dX0_asLong_50 ?_
      refine lv_if_ge (tgt := 59) hx hb dX0_asLong_51 (by decide) (fun c3 => ?_) (fun c3 => ?_)
      · -- 51 taken
        have c3g := (lg_cmp_ge _ _).mp c3
        refine lv_lload_n hx hb dX0_asLong_59 rfl (lv_at hl 1 rfl) ?_
        refine lv_bipush (v := 52) hx hb dX0_asLong_60 (by decide) ?_
        refine lv_sipush (v := 1023) hx hb dX0_asLong_62 (by decide) ?_
        refine ro_Sl (D := D) (G := G) (As := [.long v, .int 52, .int 1023]) (rest := []) ⟨hx, hb, hml, hown, hts⟩ (c_bitsOf l D G _ v 52 1023) gS_X0_X0_bitsOf hdS_X0_bitsOf ⟨Nat.le_of_ble_eq_true rfl, Nat.le_of_ble_eq_true rfl⟩ hK rfl hl.1 rfl (Nat.le_of_ble_eq_true rfl) dX0_asLong_65 ⟨Nat.le_of_ble_eq_true rfl, Nat.le_of_ble_eq_true rfl⟩ (fun r4 e_r4 => ?_)
        subst e_r4
        refine lv_lstore_n (lv' := [(3, .long (boF v 52 1023)), (0, .int kind), (1, .long v)]) hx hb dX0_asLong_68 rfl hl (by decide) rfl (fun ls hl => ?_)
        refine lv_lload_n hx hb dX0_asLong_69 rfl (lv_at hl 2 rfl) ?_
        refine lv_lconst (v := 0) hx hb dX0_asLong_70 (by decide) ?_
        refine W.lcmp hx hb dX0_asLong_71 ?_
        refine lv_if_ge (tgt := 83) hx hb dX0_asLong_72 (by decide) (fun hh => ?_) (fun hh => absurd c3 hh)
        refine lv_lload_n hx hb dX0_asLong_83 rfl (lv_at hl 0 rfl) ?_
        exact ro_lret (v := boF v 52 1023) hx hb hr hH hlocks dX0_asLong_84 (by unfold alF; simp only [eq_false c1, eq_true c2, eq_true c3g, not_true, not_false_iff, not_true_eq_false, not_false_eq_true, true_or, or_true, false_or, or_false, or_self, and_self, true_and, and_true, false_and, and_false, if_true, if_false])
      · -- 51 not
        have c3g := mt (lg_cmp_ge _ _).mpr c3
        refine lv_lload_n hx hb dX0_asLong_54 rfl (lv_at hl 1 rfl) ?_
        refine lv_lneg hx hb dX0_asLong_55 ?_
        refine lv_goto (tgt := 60) hx hb dX0_asLong_56 (by decide) ?_
        refine lv_bipush (v := 52) hx hb dX0_asLong_60 (by decide) ?_
        refine lv_sipush (v := 1023) hx hb dX0_asLong_62 (by decide) ?_
        refine ro_Sl (D := D) (G := G) (As := [.long (-v), .int 52, .int 1023]) (rest := []) ⟨hx, hb, hml, hown, hts⟩ (c_bitsOf l D G _ (-v) 52 1023) gS_X0_X0_bitsOf hdS_X0_bitsOf ⟨Nat.le_of_ble_eq_true rfl, Nat.le_of_ble_eq_true rfl⟩ hK rfl hl.1 rfl (Nat.le_of_ble_eq_true rfl) dX0_asLong_65 ⟨Nat.le_of_ble_eq_true rfl, Nat.le_of_ble_eq_true rfl⟩ (fun r6 e_r6 => ?_)
        subst e_r6
        refine lv_lstore_n (lv' := [(3, .long (boF (-v) 52 1023)), (0, .int kind), (1, .long v)]) hx hb dX0_asLong_68 rfl hl (by decide) rfl (fun ls hl => ?_)
        refine lv_lload_n hx hb dX0_asLong_69 rfl (lv_at hl 2 rfl) ?_
        refine lv_lconst (v := 0) hx hb dX0_asLong_70 (by decide) ?_
        refine W.lcmp hx hb dX0_asLong_71 ?_
        refine lv_if_ge (tgt := 83) hx hb dX0_asLong_72 (by decide) (fun hh => absurd hh c3) (fun hh => ?_)
        refine lv_lload_n hx hb dX0_asLong_75 rfl (lv_at hl 0 rfl) ?_
        refine lv_ldc2 hx hb hown (hts _ q_663) dX0_asLong_76 ?_
        refine lv_ladd hx hb dX0_asLong_79 ?_
        refine lv_goto (tgt := 84) hx hb dX0_asLong_80 (by decide) ?_
        exact ro_lret (v := (boF (-v) 52 1023) + (-9223372036854775808)) hx hb hr hH hlocks dX0_asLong_84 (by unfold alF; simp only [eq_false c1, eq_true c2, eq_false c3g, not_true, not_false_iff, not_true_eq_false, not_false_eq_true, true_or, or_true, false_or, or_false, or_self, and_self, true_and, and_true, false_and, and_false, if_true, if_false])
  · -- 3 not
    refine lv_lload_n hx hb dX0_asLong_6 rfl (lv_at hl 1 rfl) ?_
    refine lv_lconst (v := 0) hx hb dX0_asLong_7 (by decide) ?_
    refine W.lcmp hx hb dX0_asLong_8 ?_
    refine lv_if_ge (tgt := 17) hx hb dX0_asLong_9 (by decide) (fun c8 => ?_) (fun c8 => ?_)
    · -- 9 taken
      have c8g := (lg_cmp_ge _ _).mp c8
      refine lv_lload_n hx hb dX0_asLong_17 rfl (lv_at hl 1 rfl) ?_
      refine lv_bipush (v := 23) hx hb dX0_asLong_18 (by decide) ?_
      refine lv_bipush (v := 127) hx hb dX0_asLong_20 (by decide) ?_
      refine ro_Sl (D := D) (G := G) (As := [.long v, .int 23, .int 127]) (rest := []) ⟨hx, hb, hml, hown, hts⟩ (c_bitsOf l D G _ v 23 127) gS_X0_X0_bitsOf hdS_X0_bitsOf ⟨Nat.le_of_ble_eq_true rfl, Nat.le_of_ble_eq_true rfl⟩ hK rfl hl.1 rfl (Nat.le_of_ble_eq_true rfl) dX0_asLong_22 ⟨Nat.le_of_ble_eq_true rfl, Nat.le_of_ble_eq_true rfl⟩ (fun r9 e_r9 => ?_)
      subst e_r9
      refine lv_lstore_n (lv' := [(3, .long (boF v 23 127)), (0, .int kind), (1, .long v)]) hx hb dX0_asLong_25 rfl hl (by decide) rfl (fun ls hl => ?_)
      refine lv_lload_n hx hb dX0_asLong_26 rfl (lv_at hl 2 rfl) ?_
      refine lv_lconst (v := 0) hx hb dX0_asLong_27 (by decide) ?_
      refine W.lcmp hx hb dX0_asLong_28 ?_
      refine lv_if_ge (tgt := 40) hx hb dX0_asLong_29 (by decide) (fun hh => ?_) (fun hh => absurd c8 hh)
      refine lv_lload_n hx hb dX0_asLong_40 rfl (lv_at hl 0 rfl) ?_
      exact ro_lret (v := boF v 23 127) hx hb hr hH hlocks dX0_asLong_41 (by unfold alF; simp only [eq_true c1, eq_true c8g, not_true, not_false_iff, not_true_eq_false, not_false_eq_true, true_or, or_true, false_or, or_false, or_self, and_self, true_and, and_true, false_and, and_false, if_true, if_false])
    · -- 9 not
      have c8g := mt (lg_cmp_ge _ _).mpr c8
      refine lv_lload_n hx hb dX0_asLong_12 rfl (lv_at hl 1 rfl) ?_
      refine lv_lneg hx hb dX0_asLong_13 ?_
      refine lv_goto (tgt := 18) hx hb dX0_asLong_14 (by decide) ?_
      refine lv_bipush (v := 23) hx hb dX0_asLong_18 (by decide) ?_
      refine lv_bipush (v := 127) hx hb dX0_asLong_20 (by decide) ?_
      refine ro_Sl (D := D) (G := G) (As := [.long (-v), .int 23, .int 127]) (rest := []) ⟨hx, hb, hml, hown, hts⟩ (c_bitsOf l D G _ (-v) 23 127) gS_X0_X0_bitsOf hdS_X0_bitsOf ⟨Nat.le_of_ble_eq_true rfl, Nat.le_of_ble_eq_true rfl⟩ hK rfl hl.1 rfl (Nat.le_of_ble_eq_true rfl) dX0_asLong_22 ⟨Nat.le_of_ble_eq_true rfl, Nat.le_of_ble_eq_true rfl⟩ (fun r11 e_r11 => ?_)
      subst e_r11
      refine lv_lstore_n (lv' := [(3, .long (boF (-v) 23 127)), (0, .int kind), (1, .long v)]) hx hb dX0_asLong_25 rfl hl (by decide) rfl (fun ls hl => ?_)
      refine lv_lload_n hx hb dX0_asLong_26 rfl (lv_at hl 2 rfl) ?_
      refine lv_lconst (v := 0) hx hb dX0_asLong_27 (by decide) ?_
      refine W.lcmp hx hb dX0_asLong_28 ?_
      refine lv_if_ge (tgt := 40) hx hb dX0_asLong_29 (by decide) (fun hh => absurd hh c8) (fun hh => ?_)
      refine lv_lload_n hx hb dX0_asLong_32 rfl (lv_at hl 0 rfl) ?_
      refine lv_ldc2 hx hb hown (hts _ q_662) dX0_asLong_33 ?_
      refine lv_ladd hx hb dX0_asLong_36 ?_
      refine lv_goto (tgt := 41) hx hb dX0_asLong_37 (by decide) ?_
      exact ro_lret (v := (boF (-v) 23 127) + (-2147483648)) hx hb hr hH hlocks dX0_asLong_41 (by unfold alF; simp only [eq_true c1, eq_false c8g, not_true, not_false_iff, not_true_eq_false, not_false_eq_true, true_or, or_true, false_or, or_false, or_self, and_self, true_and, and_true, false_and, and_false, if_true, if_false])
