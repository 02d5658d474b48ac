theorem dL_law_906 : decode cL_law 906 = .ok (.aload_n 1, 1) := by decide +kernel
theorem q_512 : Cond.methodLink "FieldMemberLaw" 97 ⟨"FieldMember", "way", "()I"⟩ ∈ TT := tt_t (i := 512) (by decide +kernel) (by decide +kernel)
theorem q_515 : Cond.code ⟨"FieldMember", "way", "()I"⟩ prog_1_method_17_code 1 (some .int) ∈ TT := tt_t (i := 515) (by decide +kernel) (by decide +kernel)
theorem q_513 : Cond.instanceMethod ⟨"FieldMember", "way", "()I"⟩ ∈ TT := tt_t (i := 513) (by decide +kernel) (by decide +kernel)
theorem q_514 : Cond.selects "FieldMember" ⟨"FieldMember", "way", "()I"⟩ ⟨"FieldMember", "way", "()I"⟩ ∈ TT := tt_t (i := 514) (by decide +kernel) (by decide +kernel)
theorem gV_L_X7_way : GoodIn TT (wsV RL 97 RX7 yX7_way (ww yX7_way cX7_way 1 (some .int))) := tt_V q_512 q_513 q_514 q_1 q_515
theorem hdV_X7_way : yX7_way.cls = RX7 ∧ yX7_way.cls ≠ "java/lang/invoke/MethodHandle" ∧ yX7_way.cls ≠ "java/lang/invoke/VarHandle" ∧ (parseMethodDescriptor yX7_way.desc).map (fun d => d.parameters.length) = some 0 := by decide +kernel
theorem dL_law_907 : decode cL_law 907 = .ok (.invokevirtual 97, 3) := by decide +kernel
theorem dL_law_910 : decode cL_law 910 = .ok (.aload_n 2, 1) := by decide +kernel
theorem q_980 : Cond.methodLink "FieldMemberLaw" 100 ⟨"FieldMemberModel", "way", "()I"⟩ ∈ TT := tt_t (i := 980) (by decide +kernel) (by decide +kernel)
theorem q_983 : Cond.code ⟨"FieldMemberModel", "way", "()I"⟩ prog_10_method_48_code 1 (some .int) ∈ TT := tt_t (i := 983) (by decide +kernel) (by decide +kernel)
theorem q_981 : Cond.instanceMethod ⟨"FieldMemberModel", "way", "()I"⟩ ∈ TT := tt_t (i := 981) (by decide +kernel) (by decide +kernel)
theorem q_982 : Cond.selects "FieldMemberModel" ⟨"FieldMemberModel", "way", "()I"⟩ ⟨"FieldMemberModel", "way", "()I"⟩ ∈ TT := tt_t (i := 982) (by decide +kernel) (by decide +kernel)
theorem gV_L_X8_way : GoodIn TT (wsV RL 100 RX8 yX8_way (ww yX8_way cX8_way 1 (some .int))) := tt_V q_980 q_981 q_982 q_4 q_983
theorem hdV_X8_way : yX8_way.cls = RX8 ∧ yX8_way.cls ≠ "java/lang/invoke/MethodHandle" ∧ yX8_way.cls ≠ "java/lang/invoke/VarHandle" ∧ (parseMethodDescriptor yX8_way.desc).map (fun d => d.parameters.length) = some 0 := by decide +kernel
theorem dL_law_911 : decode cL_law 911 = .ok (.invokevirtual 100, 3) := by decide +kernel
theorem dL_law_914 : decode cL_law 914 = .ok (.if_icmp .eq 105, 3) := by decide +kernel
theorem dL_law_919 : decode cL_law 919 = .ok (.aload_n 1, 1) := by decide +kernel
theorem dL_law_920 : decode cL_law 920 = .ok (.aload_n 0, 1) := by decide +kernel
theorem dL_law_921 : decode cL_law 921 = .ok (.iload 4, 2) := by decide +kernel
theorem dL_law_923 : decode cL_law 923 = .ok (.iconst 1, 1) := by decide +kernel
theorem dL_law_924 : decode cL_law 924 = .ok (.iadd, 1) := by decide +kernel
theorem dL_law_925 : decode cL_law 925 = .ok (.iaload, 1) := by decide +kernel
theorem dL_law_926 : decode cL_law 926 = .ok (.aload_n 0, 1) := by decide +kernel
theorem dL_law_927 : decode cL_law 927 = .ok (.iload 4, 2) := by decide +kernel
theorem dL_law_929 : decode cL_law 929 = .ok (.iconst 2, 1) := by decide +kernel
theorem dL_law_930 : decode cL_law 930 = .ok (.iadd, 1) := by decide +kernel
theorem dL_law_931 : decode cL_law 931 = .ok (.iaload, 1) := by decide +kernel
theorem q_516 : Cond.methodLink "FieldMemberLaw" 101 ⟨"FieldMember", "lacks", "(II)I"⟩ ∈ TT := tt_t (i := 516) (by decide +kernel) (by decide +kernel)
theorem q_519 : Cond.code ⟨"FieldMember", "lacks", "(II)I"⟩ prog_1_method_18_code 7 (some .int) ∈ TT := tt_t (i := 519) (by decide +kernel) (by decide +kernel)
theorem q_517 : Cond.instanceMethod ⟨"FieldMember", "lacks", "(II)I"⟩ ∈ TT := tt_t (i := 517) (by decide +kernel) (by decide +kernel)
theorem q_518 : Cond.selects "FieldMember" ⟨"FieldMember", "lacks", "(II)I"⟩ ⟨"FieldMember", "lacks", "(II)I"⟩ ∈ TT := tt_t (i := 518) (by decide +kernel) (by decide +kernel)
theorem gV_L_X7_lacks : GoodIn TT (wsV RL 101 RX7 yX7_lacks (ww yX7_lacks cX7_lacks 7 (some .int))) := tt_V q_516 q_517 q_518 q_1 q_519
theorem hdV_X7_lacks : yX7_lacks.cls = RX7 ∧ yX7_lacks.cls ≠ "java/lang/invoke/MethodHandle" ∧ yX7_lacks.cls ≠ "java/lang/invoke/VarHandle" ∧ (parseMethodDescriptor yX7_lacks.desc).map (fun d => d.parameters.length) = some 2 := by decide +kernel
theorem dL_law_932 : decode cL_law 932 = .ok (.invokevirtual 101, 3) := by decide +kernel
theorem dL_law_935 : decode cL_law 935 = .ok (.aload_n 2, 1) := by decide +kernel
theorem dL_law_936 : decode cL_law 936 = .ok (.aload_n 0, 1) := by decide +kernel
theorem dL_law_937 : decode cL_law 937 = .ok (.iload 4, 2) := by decide +kernel
theorem dL_law_939 : decode cL_law 939 = .ok (.iconst 1, 1) := by decide +kernel
theorem dL_law_940 : decode cL_law 940 = .ok (.iadd, 1) := by decide +kernel
theorem dL_law_941 : decode cL_law 941 = .ok (.iaload, 1) := by decide +kernel
theorem dL_law_942 : decode cL_law 942 = .ok (.aload_n 0, 1) := by decide +kernel
theorem dL_law_943 : decode cL_law 943 = .ok (.iload 4, 2) := by decide +kernel
theorem dL_law_945 : decode cL_law 945 = .ok (.iconst 2, 1) := by decide +kernel
theorem dL_law_946 : decode cL_law 946 = .ok (.iadd, 1) := by decide +kernel
theorem dL_law_947 : decode cL_law 947 = .ok (.iaload, 1) := by decide +kernel
theorem q_984 : Cond.methodLink "FieldMemberLaw" 104 ⟨"FieldMemberModel", "lacks", "(II)I"⟩ ∈ TT := tt_t (i := 984) (by decide +kernel) (by decide +kernel)
theorem q_987 : Cond.code ⟨"FieldMemberModel", "lacks", "(II)I"⟩ prog_10_method_51_code 5 (some .int) ∈ TT := tt_t (i := 987) (by decide +kernel) (by decide +kernel)
theorem q_985 : Cond.instanceMethod ⟨"FieldMemberModel", "lacks", "(II)I"⟩ ∈ TT := tt_t (i := 985) (by decide +kernel) (by decide +kernel)
theorem q_986 : Cond.selects "FieldMemberModel" ⟨"FieldMemberModel", "lacks", "(II)I"⟩ ⟨"FieldMemberModel", "lacks", "(II)I"⟩ ∈ TT := tt_t (i := 986) (by decide +kernel) (by decide +kernel)
theorem gV_L_X8_lacks : GoodIn TT (wsV RL 104 RX8 yX8_lacks (ww yX8_lacks cX8_lacks 5 (some .int))) := tt_V q_984 q_985 q_986 q_4 q_987
theorem hdV_X8_lacks : yX8_lacks.cls = RX8 ∧ yX8_lacks.cls ≠ "java/lang/invoke/MethodHandle" ∧ yX8_lacks.cls ≠ "java/lang/invoke/VarHandle" ∧ (parseMethodDescriptor yX8_lacks.desc).map (fun d => d.parameters.length) = some 2 := by decide +kernel
theorem dL_law_948 : decode cL_law 948 = .ok (.invokevirtual 104, 3) := by decide +kernel
theorem dL_law_951 : decode cL_law 951 = .ok (.if_icmp .eq 68, 3) := by decide +kernel
theorem dL_law_956 : decode cL_law 956 = .ok (.aload_n 1, 1) := by decide +kernel
theorem dL_law_957 : decode cL_law 957 = .ok (.aload_n 0, 1) := by decide +kernel
theorem dL_law_958 : decode cL_law 958 = .ok (.iload 4, 2) := by decide +kernel
theorem dL_law_960 : decode cL_law 960 = .ok (.iconst 1, 1) := by decide +kernel
theorem dL_law_961 : decode cL_law 961 = .ok (.iadd, 1) := by decide +kernel
theorem dL_law_962 : decode cL_law 962 = .ok (.iaload, 1) := by decide +kernel
theorem q_532 : Cond.methodLink "FieldMemberLaw" 105 ⟨"FieldMember", "count", "(I)I"⟩ ∈ TT := tt_t (i := 532) (by decide +kernel) (by decide +kernel)
theorem q_535 : Cond.code ⟨"FieldMember", "count", "(I)I"⟩ prog_1_method_19_code 2 (some .int) ∈ TT := tt_t (i := 535) (by decide +kernel) (by decide +kernel)
theorem q_533 : Cond.instanceMethod ⟨"FieldMember", "count", "(I)I"⟩ ∈ TT := tt_t (i := 533) (by decide +kernel) (by decide +kernel)
theorem q_534 : Cond.selects "FieldMember" ⟨"FieldMember", "count", "(I)I"⟩ ⟨"FieldMember", "count", "(I)I"⟩ ∈ TT := tt_t (i := 534) (by decide +kernel) (by decide +kernel)
theorem gV_L_X7_count : GoodIn TT (wsV RL 105 RX7 yX7_count (ww yX7_count cX7_count 2 (some .int))) := tt_V q_532 q_533 q_534 q_1 q_535
theorem hdV_X7_count : yX7_count.cls = RX7 ∧ yX7_count.cls ≠ "java/lang/invoke/MethodHandle" ∧ yX7_count.cls ≠ "java/lang/invoke/VarHandle" ∧ (parseMethodDescriptor yX7_count.desc).map (fun d => d.parameters.length) = some 1 := by decide +kernel
theorem dL_law_963 : decode cL_law 963 = .ok (.invokevirtual 105, 3) := by decide +kernel
theorem dL_law_966 : decode cL_law 966 = .ok (.aload_n 2, 1) := by decide +kernel
theorem dL_law_967 : decode cL_law 967 = .ok (.aload_n 0, 1) := by decide +kernel
theorem dL_law_968 : decode cL_law 968 = .ok (.iload 4, 2) := by decide +kernel
theorem dL_law_970 : decode cL_law 970 = .ok (.iconst 1, 1) := by decide +kernel
theorem dL_law_971 : decode cL_law 971 = .ok (.iadd, 1) := by decide +kernel
theorem dL_law_972 : decode cL_law 972 = .ok (.iaload, 1) := by decide +kernel
theorem q_996 : Cond.methodLink "FieldMemberLaw" 109 ⟨"FieldMemberModel", "count", "(I)I"⟩ ∈ TT := tt_t (i := 996) (by decide +kernel) (by decide +kernel)
theorem q_999 : Cond.code ⟨"FieldMemberModel", "count", "(I)I"⟩ prog_10_method_52_code 2 (some .int) ∈ TT := tt_t (i := 999) (by decide +kernel) (by decide +kernel)
theorem q_997 : Cond.instanceMethod ⟨"FieldMemberModel", "count", "(I)I"⟩ ∈ TT := tt_t (i := 997) (by decide +kernel) (by decide +kernel)
theorem q_998 : Cond.selects "FieldMemberModel" ⟨"FieldMemberModel", "count", "(I)I"⟩ ⟨"FieldMemberModel", "count", "(I)I"⟩ ∈ TT := tt_t (i := 998) (by decide +kernel) (by decide +kernel)
theorem gV_L_X8_count : GoodIn TT (wsV RL 109 RX8 yX8_count (ww yX8_count cX8_count 2 (some .int))) := tt_V q_996 q_997 q_998 q_4 q_999
theorem hdV_X8_count : yX8_count.cls = RX8 ∧ yX8_count.cls ≠ "java/lang/invoke/MethodHandle" ∧ yX8_count.cls ≠ "java/lang/invoke/VarHandle" ∧ (parseMethodDescriptor yX8_count.desc).map (fun d => d.parameters.length) = some 1 := by decide +kernel
theorem dL_law_973 : decode cL_law 973 = .ok (.invokevirtual 109, 3) := by decide +kernel
theorem dL_law_976 : decode cL_law 976 = .ok (.if_icmp .eq 43, 3) := by decide +kernel
theorem dL_law_981 : decode cL_law 981 = .ok (.aload_n 1, 1) := by decide +kernel
theorem dL_law_982 : decode cL_law 982 = .ok (.aload_n 0, 1) := by decide +kernel
theorem dL_law_983 : decode cL_law 983 = .ok (.iload 4, 2) := by decide +kernel
theorem dL_law_985 : decode cL_law 985 = .ok (.iconst 1, 1) := by decide +kernel
theorem dL_law_986 : decode cL_law 986 = .ok (.iadd, 1) := by decide +kernel
theorem dL_law_987 : decode cL_law 987 = .ok (.iaload, 1) := by decide +kernel
theorem q_536 : Cond.methodLink "FieldMemberLaw" 110 ⟨"FieldMember", "broken", "(I)I"⟩ ∈ TT := tt_t (i := 536) (by decide +kernel) (by decide +kernel)
theorem q_539 : Cond.code ⟨"FieldMember", "broken", "(I)I"⟩ prog_1_method_20_code 2 (some .int) ∈ TT := tt_t (i := 539) (by decide +kernel) (by decide +kernel)
theorem q_537 : Cond.instanceMethod ⟨"FieldMember", "broken", "(I)I"⟩ ∈ TT := tt_t (i := 537) (by decide +kernel) (by decide +kernel)
theorem q_538 : Cond.selects "FieldMember" ⟨"FieldMember", "broken", "(I)I"⟩ ⟨"FieldMember", "broken", "(I)I"⟩ ∈ TT := tt_t (i := 538) (by decide +kernel) (by decide +kernel)
theorem gV_L_X7_broken : GoodIn TT (wsV RL 110 RX7 yX7_broken (ww yX7_broken cX7_broken 2 (some .int))) := tt_V q_536 q_537 q_538 q_1 q_539
theorem hdV_X7_broken : yX7_broken.cls = RX7 ∧ yX7_broken.cls ≠ "java/lang/invoke/MethodHandle" ∧ yX7_broken.cls ≠ "java/lang/invoke/VarHandle" ∧ (parseMethodDescriptor yX7_broken.desc).map (fun d => d.parameters.length) = some 1 := by decide +kernel
theorem dL_law_988 : decode cL_law 988 = .ok (.invokevirtual 110, 3) := by decide +kernel
theorem dL_law_991 : decode cL_law 991 = .ok (.aload_n 2, 1) := by decide +kernel
theorem dL_law_992 : decode cL_law 992 = .ok (.aload_n 0, 1) := by decide +kernel
theorem dL_law_993 : decode cL_law 993 = .ok (.iload 4, 2) := by decide +kernel
theorem dL_law_995 : decode cL_law 995 = .ok (.iconst 1, 1) := by decide +kernel
theorem dL_law_996 : decode cL_law 996 = .ok (.iadd, 1) := by decide +kernel
theorem dL_law_997 : decode cL_law 997 = .ok (.iaload, 1) := by decide +kernel
theorem q_1000 : Cond.methodLink "FieldMemberLaw" 113 ⟨"FieldMemberModel", "broken", "(I)I"⟩ ∈ TT := tt_t (i := 1000) (by decide +kernel) (by decide +kernel)
theorem q_1003 : Cond.code ⟨"FieldMemberModel", "broken", "(I)I"⟩ prog_10_method_53_code 2 (some .int) ∈ TT := tt_t (i := 1003) (by decide +kernel) (by decide +kernel)
theorem q_1001 : Cond.instanceMethod ⟨"FieldMemberModel", "broken", "(I)I"⟩ ∈ TT := tt_t (i := 1001) (by decide +kernel) (by decide +kernel)
theorem q_1002 : Cond.selects "FieldMemberModel" ⟨"FieldMemberModel", "broken", "(I)I"⟩ ⟨"FieldMemberModel", "broken", "(I)I"⟩ ∈ TT := tt_t (i := 1002) (by decide +kernel) (by decide +kernel)
theorem gV_L_X8_broken : GoodIn TT (wsV RL 113 RX8 yX8_broken (ww yX8_broken cX8_broken 2 (some .int))) := tt_V q_1000 q_1001 q_1002 q_4 q_1003
theorem hdV_X8_broken : yX8_broken.cls = RX8 ∧ yX8_broken.cls ≠ "java/lang/invoke/MethodHandle" ∧ yX8_broken.cls ≠ "java/lang/invoke/VarHandle" ∧ (parseMethodDescriptor yX8_broken.desc).map (fun d => d.parameters.length) = some 1 := by decide +kernel
theorem dL_law_998 : decode cL_law 998 = .ok (.invokevirtual 113, 3) := by decide +kernel
theorem dL_law_1001 : decode cL_law 1001 = .ok (.if_icmp .eq 18, 3) := by decide +kernel
theorem dL_law_1006 : decode cL_law 1006 = .ok (.aload_n 1, 1) := by decide +kernel
theorem q_540 : Cond.methodLink "FieldMemberLaw" 114 ⟨"FieldMember", "clear", "()I"⟩ ∈ TT := tt_t (i := 540) (by decide +kernel) (by decide +kernel)
theorem q_543 : Cond.code ⟨"FieldMember", "clear", "()I"⟩ prog_1_method_21_code 3 (some .int) ∈ TT := tt_t (i := 543) (by decide +kernel) (by decide +kernel)
theorem q_541 : Cond.instanceMethod ⟨"FieldMember", "clear", "()I"⟩ ∈ TT := tt_t (i := 541) (by decide +kernel) (by decide +kernel)
theorem q_542 : Cond.selects "FieldMember" ⟨"FieldMember", "clear", "()I"⟩ ⟨"FieldMember", "clear", "()I"⟩ ∈ TT := tt_t (i := 542) (by decide +kernel) (by decide +kernel)
theorem gV_L_X7_clear : GoodIn TT (wsV RL 114 RX7 yX7_clear (ww yX7_clear cX7_clear 3 (some .int))) := tt_V q_540 q_541 q_542 q_1 q_543
theorem hdV_X7_clear : yX7_clear.cls = RX7 ∧ yX7_clear.cls ≠ "java/lang/invoke/MethodHandle" ∧ yX7_clear.cls ≠ "java/lang/invoke/VarHandle" ∧ (parseMethodDescriptor yX7_clear.desc).map (fun d => d.parameters.length) = some 0 := by decide +kernel
theorem dL_law_1007 : decode cL_law 1007 = .ok (.invokevirtual 114, 3) := by decide +kernel
theorem dL_law_1010 : decode cL_law 1010 = .ok (.aload_n 2, 1) := by decide +kernel
theorem q_1004 : Cond.methodLink "FieldMemberLaw" 117 ⟨"FieldMemberModel", "clear", "()I"⟩ ∈ TT := tt_t (i := 1004) (by decide +kernel) (by decide +kernel)
theorem q_1007 : Cond.code ⟨"FieldMemberModel", "clear", "()I"⟩ prog_10_method_54_code 3 (some .int) ∈ TT := tt_t (i := 1007) (by decide +kernel) (by decide +kernel)
theorem q_1005 : Cond.instanceMethod ⟨"FieldMemberModel", "clear", "()I"⟩ ∈ TT := tt_t (i := 1005) (by decide +kernel) (by decide +kernel)
theorem q_1006 : Cond.selects "FieldMemberModel" ⟨"FieldMemberModel", "clear", "()I"⟩ ⟨"FieldMemberModel", "clear", "()I"⟩ ∈ TT := tt_t (i := 1006) (by decide +kernel) (by decide +kernel)
theorem gV_L_X8_clear : GoodIn TT (wsV RL 117 RX8 yX8_clear (ww yX8_clear cX8_clear 3 (some .int))) := tt_V q_1004 q_1005 q_1006 q_4 q_1007
theorem hdV_X8_clear : yX8_clear.cls = RX8 ∧ yX8_clear.cls ≠ "java/lang/invoke/MethodHandle" ∧ yX8_clear.cls ≠ "java/lang/invoke/VarHandle" ∧ (parseMethodDescriptor yX8_clear.desc).map (fun d => d.parameters.length) = some 0 := by decide +kernel
theorem dL_law_1011 : decode cL_law 1011 = .ok (.invokevirtual 117, 3) := by decide +kernel
theorem dL_law_1014 : decode cL_law 1014 = .ok (.if_icmp .eq 5, 3) := by decide +kernel
set_option maxHeartbeats 1600000 in
set_option maxRecDepth 100000 in
theorem lc_way {p : Program} {l : Launch} {e : Env} {s : State} {m : MethodId} {below : List Frame} {meth : Method} {c : Code} {b L : Nat} {xs : Nat → Int32} {D : va_G} {G : Nat → ClassId} {sa : Nat → Nat} {ca : Nat → Nat} {mo : Nat} {ad : Nat → Nat} {o : Nat} {Q : State → Prop} (C0 : LCx p l s m c b L xs D G sa) {j : Nat} (hj : 7 * j + 6 < L) {u : MU} {H : Heap} {locs : List Loc} {ls : Array Slot} {cells slots : Nat} (hW : LW s D G ca mo ad o u H locs) (hl : lv_has ls 8 [(4, .int (nI (7 * j))), (3, .ref o), (2, .ref mo), (1, .ref (ca 0)), (0, .ref b)]) (hc : cells + 4 ≤ 603072 ∧ slots + 22 ≤ 7262314)
    (kk : ∀ (u : MU) (H : Heap) (locs : List Loc) (ls : Array Slot), LW s D G ca mo ad o u H locs → lv_has ls 8 [(4, .int (nI (7 * j))), (3, .ref o), (2, .ref mo), (1, .ref (ca 0)), (0, .ref b)] → W p l e room_1 s m #[Value.ref b] below meth c H locs (cells + 4) (slots + 22) Q (F0 m 1019 ls [])) : W p l e room_1 s m #[Value.ref b] below meth c H locs cells slots Q (F0 m 906 ls []) := by
  obtain ⟨hx, hb, hml, hown, hts, hX, hbl, hK, hXS, hXZ, hst, hL⟩ := id C0
  have hbA : ¬ (fun q : Nat => s.heap.size ≤ q) b := Nat.not_le.mpr hbl
  have hA : ∀ q : Nat, s.heap.size ≤ q → (fun q : Nat => s.heap.size ≤ q) q := fun _ h => h
  obtain ⟨σ, τ⟩ := u
  obtain ⟨f, z, ⟨n, k, w0, κ, x, hV, hC⟩, hP, hD, hS⟩ := hW
  have hP : va_P D vwCl ((mW G mo ad σ τ ++ [(o, .inl (G 1, 1, .inr (.inl f)))]) ++ z) H := hP
  have hD : va_D (fun q => s.heap.size ≤ q) ((mW G mo ad σ τ ++ [(o, .inl (G 1, 1, .inr (.inl f)))]) ++ z) := hD
  have hV : IV σ x τ κ n k w0 := hV
  have hC : CW G ca σ x κ k z := hC
  refine lv_aload_n hx hb dL_law_906 rfl (lv_at hl 3 rfl) ?_
  refine fr_Vc (wr := mW G mo ad σ τ ++ [(o, .inl (G 1, 1, .inr (.inl f)))]) (wc := z) (As := []) (rest := []) ⟨hx, hb, hml, hown, hts⟩ (u_way l D G ca n k w0 σ x τ κ z _ hV hC ) gV_L_X7_way hdV_X7_way ⟨(Nat.le_of_ble_eq_true rfl), (Nat.le_of_ble_eq_true rfl)⟩ hK (hC.recv hK (fr_P hP)) hP hD hS hA rfl hl.1 rfl (Nat.le_of_ble_eq_true rfl) dL_law_907 ⟨(show cells + 0 ≤ 603072 by omega), (show slots + 0 ≤ 7262314 by omega)⟩ (fun z H locs hN hP hD hS => ?_)
  refine W.eq (g2 := F0 m 910 ls [.int ((((σ 25 0, (su σ 0 0 0, τ)) : Int32 × MU)).1)]) rfl ?_
  refine lv_aload_n hx hb dL_law_910 rfl (lv_at hl 2 rfl) ?_
  have hP := P_perm hP pm_m
  have hD := D_perm pm_m hD
  have hP : va_P D vwCl (([(o, .inl (G 1, 1, .inr (.inl f)))] ++ z) ++ mW G mo ad σ τ) H := hP
  have hD : va_D (fun q => s.heap.size ≤ q) (([(o, .inl (G 1, 1, .inr (.inl f)))] ++ z) ++ mW G mo ad σ τ) := hD
  refine fr_Vm (wr := [(o, .inl (G 1, 1, .inr (.inl f)))] ++ z) (u := (σ, τ)) (v := (((σ 25 0, (su σ 0 0 0, τ)) : Int32 × MU)).2) (mo := mo) (ad := ad) (As := []) (rest := [.int ((((σ 25 0, (su σ 0 0 0, τ)) : Int32 × MU)).1)]) ⟨hx, hb, hml, hown, hts⟩ (m_way l D G mo ad σ τ _    ) gV_L_X8_way hdV_X8_way ⟨(Nat.le_of_ble_eq_true rfl), (Nat.le_of_ble_eq_true rfl)⟩ hK hP hD hS hA rfl hl.1 rfl (Nat.le_of_ble_eq_true rfl) dL_law_911 ⟨(show cells + 0 ≤ 603072 by omega), (show slots + 0 ≤ 7262314 by omega)⟩ (fun H locs hP hD hS => ?_)
  have hP := P_perm hP pm_r
  have hD := D_perm pm_r hD
  have hP : va_P D vwCl ((mW G mo ad (((σ 25 0, (su σ 0 0 0, τ)) : Int32 × MU)).2.1 (((σ 25 0, (su σ 0 0 0, τ)) : Int32 × MU)).2.2 ++ [(o, .inl (G 1, 1, .inr (.inl f)))]) ++ z) H := hP
  have hD : va_D (fun q => s.heap.size ≤ q) ((mW G mo ad (((σ 25 0, (su σ 0 0 0, τ)) : Int32 × MU)).2.1 (((σ 25 0, (su σ 0 0 0, τ)) : Int32 × MU)).2.2 ++ [(o, .inl (G 1, 1, .inr (.inl f)))]) ++ z) := hD
  refine W.eq (g2 := F0 m 914 ls [.int ((((σ 25 0, (su σ 0 0 0, τ)) : Int32 × MU)).1), .int ((((σ 25 0, (su σ 0 0 0, τ)) : Int32 × MU)).1)]) rfl ?_
  refine lv_icmp_eq (tgt := 1019) hx hb dL_law_914 (by decide) (fun hh => ?_) (fun hh => absurd rfl hh)
  refine W.widen (k := cells + 4) (n := slots + 22) (by omega) (by omega) ?_
  exact kk (((σ 25 0, (su σ 0 0 0, τ)) : Int32 × MU)).2 _ _ _ ⟨f, z, hN, hP, hD, hS⟩ (lv_sub hl [0, 1, 2, 3, 4] rfl)
set_option maxHeartbeats 1600000 in
set_option maxRecDepth 100000 in
theorem lc_lacks {p : Program} {l : Launch} {e : Env} {s : State} {m : MethodId} {below : List Frame} {meth : Method} {c : Code} {b L : Nat} {xs : Nat → Int32} {D : va_G} {G : Nat → ClassId} {sa : Nat → Nat} {ca : Nat → Nat} {mo : Nat} {ad : Nat → Nat} {o : Nat} {Q : State → Prop} (C0 : LCx p l s m c b L xs D G sa) {j : Nat} (hj : 7 * j + 6 < L) {u : MU} {H : Heap} {locs : List Loc} {ls : Array Slot} {cells slots : Nat} (hW : LW s D G ca mo ad o u H locs) (hl : lv_has ls 8 [(4, .int (nI (7 * j))), (3, .ref o), (2, .ref mo), (1, .ref (ca 0)), (0, .ref b)]) (hc : cells + 4 ≤ 603072 ∧ slots + 22 ≤ 7262314)
    (kk : ∀ (u : MU) (H : Heap) (locs : List Loc) (ls : Array Slot), LW s D G ca mo ad o u H locs → lv_has ls 8 [(4, .int (nI (7 * j))), (3, .ref o), (2, .ref mo), (1, .ref (ca 0)), (0, .ref b)] → W p l e room_1 s m #[Value.ref b] below meth c H locs (cells + 4) (slots + 22) Q (F0 m 1019 ls [])) : W p l e room_1 s m #[Value.ref b] below meth c H locs cells slots Q (F0 m 919 ls []) := by
  obtain ⟨hx, hb, hml, hown, hts, hX, hbl, hK, hXS, hXZ, hst, hL⟩ := id C0
  have hbA : ¬ (fun q : Nat => s.heap.size ≤ q) b := Nat.not_le.mpr hbl
  have hA : ∀ q : Nat, s.heap.size ≤ q → (fun q : Nat => s.heap.size ≤ q) q := fun _ h => h
  obtain ⟨σ, τ⟩ := u
  obtain ⟨f, z, ⟨n, k, w0, κ, x, hV, hC⟩, hP, hD, hS⟩ := hW
  have hP : va_P D vwCl ((mW G mo ad σ τ ++ [(o, .inl (G 1, 1, .inr (.inl f)))]) ++ z) H := hP
  have hD : va_D (fun q => s.heap.size ≤ q) ((mW G mo ad σ τ ++ [(o, .inl (G 1, 1, .inr (.inl f)))]) ++ z) := hD
  have hV : IV σ x τ κ n k w0 := hV
  have hC : CW G ca σ x κ k z := hC
  refine lv_aload_n hx hb dL_law_919 rfl (lv_at hl 3 rfl) ?_
  refine lv_aload_n hx hb dL_law_920 rfl (lv_at hl 4 rfl) ?_
  refine lv_iload hx hb dL_law_921 (lv_at hl 0 rfl) ?_
  refine lv_iconst (v := 1) hx hb dL_law_923 (by decide) ?_
  refine lv_iadd hx hb dL_law_924 ?_
  refine sld_n hx hb hX hbl hbA hS hL ((7 * j) + 1) (n_add (a := (7 * j)) (b := 1) rfl (rfl : (1 : Int32) = nI 1)) (by omega) dL_law_925 ?_
  refine lv_aload_n hx hb dL_law_926 rfl (lv_at hl 4 rfl) ?_
  refine lv_iload hx hb dL_law_927 (lv_at hl 0 rfl) ?_
  refine lv_iconst (v := 2) hx hb dL_law_929 (by decide) ?_
  refine lv_iadd hx hb dL_law_930 ?_
  refine sld_n hx hb hX hbl hbA hS hL ((7 * j) + 2) (n_add (a := (7 * j)) (b := 2) rfl (rfl : (2 : Int32) = nI 2)) (by omega) dL_law_931 ?_
  refine fr_Vc (wr := mW G mo ad σ τ ++ [(o, .inl (G 1, 1, .inr (.inl f)))]) (wc := z) (As := [.int (xs ((7 * j) + 1)), .int (xs ((7 * j) + 2))]) (rest := []) ⟨hx, hb, hml, hown, hts⟩ (u_lacks l D G ca n k w0 σ x τ κ z _ hV hC (xs ((7 * j) + 1)) (xs ((7 * j) + 2))) gV_L_X7_lacks hdV_X7_lacks ⟨(Nat.le_of_ble_eq_true rfl), (Nat.le_of_ble_eq_true rfl)⟩ hK (hC.recv hK (fr_P hP)) hP hD hS hA rfl hl.1 rfl (Nat.le_of_ble_eq_true rfl) dL_law_932 ⟨(show cells + 0 ≤ 603072 by omega), (show slots + 0 ≤ 7262314 by omega)⟩ (fun z H locs hN hP hD hS => ?_)
  refine W.eq (g2 := F0 m 935 ls [.int ((oLacks σ τ n k (xs ((7 * j) + 1)) (xs ((7 * j) + 2))).1)]) rfl ?_
  refine lv_aload_n hx hb dL_law_935 rfl (lv_at hl 2 rfl) ?_
  refine lv_aload_n hx hb dL_law_936 rfl (lv_at hl 4 rfl) ?_
  refine lv_iload hx hb dL_law_937 (lv_at hl 0 rfl) ?_
  refine lv_iconst (v := 1) hx hb dL_law_939 (by decide) ?_
  refine lv_iadd hx hb dL_law_940 ?_
  refine sld_n hx hb hX hbl hbA hS hL ((7 * j) + 1) (n_add (a := (7 * j)) (b := 1) rfl (rfl : (1 : Int32) = nI 1)) (by omega) dL_law_941 ?_
  refine lv_aload_n hx hb dL_law_942 rfl (lv_at hl 4 rfl) ?_
  refine lv_iload hx hb dL_law_943 (lv_at hl 0 rfl) ?_
  refine lv_iconst (v := 2) hx hb dL_law_945 (by decide) ?_
  refine lv_iadd hx hb dL_law_946 ?_
  refine sld_n hx hb hX hbl hbA hS hL ((7 * j) + 2) (n_add (a := (7 * j)) (b := 2) rfl (rfl : (2 : Int32) = nI 2)) (by omega) dL_law_947 ?_
  have hP := P_perm hP pm_m
  have hD := D_perm pm_m hD
  have hP : va_P D vwCl (([(o, .inl (G 1, 1, .inr (.inl f)))] ++ z) ++ mW G mo ad σ τ) H := hP
  have hD : va_D (fun q => s.heap.size ≤ q) (([(o, .inl (G 1, 1, .inr (.inl f)))] ++ z) ++ mW G mo ad σ τ) := hD
  refine fr_Vm (wr := [(o, .inl (G 1, 1, .inr (.inl f)))] ++ z) (u := (σ, τ)) (v := (oLacks σ τ n k (xs ((7 * j) + 1)) (xs ((7 * j) + 2))).2) (mo := mo) (ad := ad) (As := [.int (xs ((7 * j) + 1)), .int (xs ((7 * j) + 2))]) (rest := [.int ((oLacks σ τ n k (xs ((7 * j) + 1)) (xs ((7 * j) + 2))).1)]) ⟨hx, hb, hml, hown, hts⟩ (m_lacks l D G mo ad σ τ _ n hV.1.1.1 hV.1.1.2 k hV.1.2.1.1 hV.1.2.1.2 hV.he hV.hm (xs ((7 * j) + 1)) (xs ((7 * j) + 2)) hV.2.1.1) gV_L_X8_lacks hdV_X8_lacks ⟨(Nat.le_of_ble_eq_true rfl), (Nat.le_of_ble_eq_true rfl)⟩ hK hP hD hS hA rfl hl.1 rfl (Nat.le_of_ble_eq_true rfl) dL_law_948 ⟨(show cells + 0 ≤ 603072 by omega), (show slots + 0 ≤ 7262314 by omega)⟩ (fun H locs hP hD hS => ?_)
  have hP := P_perm hP pm_r
  have hD := D_perm pm_r hD
  have hP : va_P D vwCl ((mW G mo ad (oLacks σ τ n k (xs ((7 * j) + 1)) (xs ((7 * j) + 2))).2.1 (oLacks σ τ n k (xs ((7 * j) + 1)) (xs ((7 * j) + 2))).2.2 ++ [(o, .inl (G 1, 1, .inr (.inl f)))]) ++ z) H := hP
  have hD : va_D (fun q => s.heap.size ≤ q) ((mW G mo ad (oLacks σ τ n k (xs ((7 * j) + 1)) (xs ((7 * j) + 2))).2.1 (oLacks σ τ n k (xs ((7 * j) + 1)) (xs ((7 * j) + 2))).2.2 ++ [(o, .inl (G 1, 1, .inr (.inl f)))]) ++ z) := hD
  refine W.eq (g2 := F0 m 951 ls [.int ((oLacks σ τ n k (xs ((7 * j) + 1)) (xs ((7 * j) + 2))).1), .int ((oLacks σ τ n k (xs ((7 * j) + 1)) (xs ((7 * j) + 2))).1)]) rfl ?_
  refine lv_icmp_eq (tgt := 1019) hx hb dL_law_951 (by decide) (fun hh => ?_) (fun hh => absurd rfl hh)
  refine W.widen (k := cells + 4) (n := slots + 22) (by omega) (by omega) ?_
  exact kk (oLacks σ τ n k (xs ((7 * j) + 1)) (xs ((7 * j) + 2))).2 _ _ _ ⟨f, z, hN, hP, hD, hS⟩ (lv_sub hl [0, 1, 2, 3, 4] rfl)
set_option maxHeartbeats 1600000 in
set_option maxRecDepth 100000 in
theorem lc_count {p : Program} {l : Launch} {e : Env} {s : State} {m : MethodId} {below : List Frame} {meth : Method} {c : Code} {b L : Nat} {xs : Nat → Int32} {D : va_G} {G : Nat → ClassId} {sa : Nat → Nat} {ca : Nat → Nat} {mo : Nat} {ad : Nat → Nat} {o : Nat} {Q : State → Prop} (C0 : LCx p l s m c b L xs D G sa) {j : Nat} (hj : 7 * j + 6 < L) {u : MU} {H : Heap} {locs : List Loc} {ls : Array Slot} {cells slots : Nat} (hW : LW s D G ca mo ad o u H locs) (hl : lv_has ls 8 [(4, .int (nI (7 * j))), (3, .ref o), (2, .ref mo), (1, .ref (ca 0)), (0, .ref b)]) (hc : cells + 4 ≤ 603072 ∧ slots + 22 ≤ 7262314)
    (kk : ∀ (u : MU) (H : Heap) (locs : List Loc) (ls : Array Slot), LW s D G ca mo ad o u H locs → lv_has ls 8 [(4, .int (nI (7 * j))), (3, .ref o), (2, .ref mo), (1, .ref (ca 0)), (0, .ref b)] → W p l e room_1 s m #[Value.ref b] below meth c H locs (cells + 4) (slots + 22) Q (F0 m 1019 ls [])) : W p l e room_1 s m #[Value.ref b] below meth c H locs cells slots Q (F0 m 956 ls []) := by
  obtain ⟨hx, hb, hml, hown, hts, hX, hbl, hK, hXS, hXZ, hst, hL⟩ := id C0
  have hbA : ¬ (fun q : Nat => s.heap.size ≤ q) b := Nat.not_le.mpr hbl
  have hA : ∀ q : Nat, s.heap.size ≤ q → (fun q : Nat => s.heap.size ≤ q) q := fun _ h => h
  obtain ⟨σ, τ⟩ := u
  obtain ⟨f, z, ⟨n, k, w0, κ, x, hV, hC⟩, hP, hD, hS⟩ := hW
  have hP : va_P D vwCl ((mW G mo ad σ τ ++ [(o, .inl (G 1, 1, .inr (.inl f)))]) ++ z) H := hP
  have hD : va_D (fun q => s.heap.size ≤ q) ((mW G mo ad σ τ ++ [(o, .inl (G 1, 1, .inr (.inl f)))]) ++ z) := hD
  have hV : IV σ x τ κ n k w0 := hV
  have hC : CW G ca σ x κ k z := hC
  refine lv_aload_n hx hb dL_law_956 rfl (lv_at hl 3 rfl) ?_
  refine lv_aload_n hx hb dL_law_957 rfl (lv_at hl 4 rfl) ?_
  refine lv_iload hx hb dL_law_958 (lv_at hl 0 rfl) ?_
  refine lv_iconst (v := 1) hx hb dL_law_960 (by decide) ?_
  refine lv_iadd hx hb dL_law_961 ?_
  refine sld_n hx hb hX hbl hbA hS hL ((7 * j) + 1) (n_add (a := (7 * j)) (b := 1) rfl (rfl : (1 : Int32) = nI 1)) (by omega) dL_law_962 ?_
  refine fr_Vc (wr := mW G mo ad σ τ ++ [(o, .inl (G 1, 1, .inr (.inl f)))]) (wc := z) (As := [.int (xs ((7 * j) + 1))]) (rest := []) ⟨hx, hb, hml, hown, hts⟩ (u_count l D G ca n k w0 σ x τ κ z _ hV hC (xs ((7 * j) + 1))) gV_L_X7_count hdV_X7_count ⟨(Nat.le_of_ble_eq_true rfl), (Nat.le_of_ble_eq_true rfl)⟩ hK (hC.recv hK (fr_P hP)) hP hD hS hA rfl hl.1 rfl (Nat.le_of_ble_eq_true rfl) dL_law_963 ⟨(show cells + 0 ≤ 603072 by omega), (show slots + 0 ≤ 7262314 by omega)⟩ (fun z H locs hN hP hD hS => ?_)
  refine W.eq (g2 := F0 m 966 ls [.int ((oCount σ τ k (xs ((7 * j) + 1))).1)]) rfl ?_
  refine lv_aload_n hx hb dL_law_966 rfl (lv_at hl 2 rfl) ?_
  refine lv_aload_n hx hb dL_law_967 rfl (lv_at hl 4 rfl) ?_
  refine lv_iload hx hb dL_law_968 (lv_at hl 0 rfl) ?_
  refine lv_iconst (v := 1) hx hb dL_law_970 (by decide) ?_
  refine lv_iadd hx hb dL_law_971 ?_
  refine sld_n hx hb hX hbl hbA hS hL ((7 * j) + 1) (n_add (a := (7 * j)) (b := 1) rfl (rfl : (1 : Int32) = nI 1)) (by omega) dL_law_972 ?_
  have hP := P_perm hP pm_m
  have hD := D_perm pm_m hD
  have hP : va_P D vwCl (([(o, .inl (G 1, 1, .inr (.inl f)))] ++ z) ++ mW G mo ad σ τ) H := hP
  have hD : va_D (fun q => s.heap.size ≤ q) (([(o, .inl (G 1, 1, .inr (.inl f)))] ++ z) ++ mW G mo ad σ τ) := hD
  refine fr_Vm (wr := [(o, .inl (G 1, 1, .inr (.inl f)))] ++ z) (u := (σ, τ)) (v := (oCount σ τ k (xs ((7 * j) + 1))).2) (mo := mo) (ad := ad) (As := [.int (xs ((7 * j) + 1))]) (rest := [.int ((oCount σ τ k (xs ((7 * j) + 1))).1)]) ⟨hx, hb, hml, hown, hts⟩ (m_count l D G mo ad σ τ _ k hV.1.2.1.1 hV.1.2.1.2 hV.h9 (xs ((7 * j) + 1)) ) gV_L_X8_count hdV_X8_count ⟨(Nat.le_of_ble_eq_true rfl), (Nat.le_of_ble_eq_true rfl)⟩ hK hP hD hS hA rfl hl.1 rfl (Nat.le_of_ble_eq_true rfl) dL_law_973 ⟨(show cells + 0 ≤ 603072 by omega), (show slots + 0 ≤ 7262314 by omega)⟩ (fun H locs hP hD hS => ?_)
  have hP := P_perm hP pm_r
  have hD := D_perm pm_r hD
  have hP : va_P D vwCl ((mW G mo ad (oCount σ τ k (xs ((7 * j) + 1))).2.1 (oCount σ τ k (xs ((7 * j) + 1))).2.2 ++ [(o, .inl (G 1, 1, .inr (.inl f)))]) ++ z) H := hP
  have hD : va_D (fun q => s.heap.size ≤ q) ((mW G mo ad (oCount σ τ k (xs ((7 * j) + 1))).2.1 (oCount σ τ k (xs ((7 * j) + 1))).2.2 ++ [(o, .inl (G 1, 1, .inr (.inl f)))]) ++ z) := hD
  refine W.eq (g2 := F0 m 976 ls [.int ((oCount σ τ k (xs ((7 * j) + 1))).1), .int ((oCount σ τ k (xs ((7 * j) + 1))).1)]) rfl ?_
  refine lv_icmp_eq (tgt := 1019) hx hb dL_law_976 (by decide) (fun hh => ?_) (fun hh => absurd rfl hh)
  refine W.widen (k := cells + 4) (n := slots + 22) (by omega) (by omega) ?_
  exact kk (oCount σ τ k (xs ((7 * j) + 1))).2 _ _ _ ⟨f, z, hN, hP, hD, hS⟩ (lv_sub hl [0, 1, 2, 3, 4] rfl)
set_option maxHeartbeats 1600000 in
set_option maxRecDepth 100000 in
theorem lc_broken {p : Program} {l : Launch} {e : Env} {s : State} {m : MethodId} {below : List Frame} {meth : Method} {c : Code} {b L : Nat} {xs : Nat → Int32} {D : va_G} {G : Nat → ClassId} {sa : Nat → Nat} {ca : Nat → Nat} {mo : Nat} {ad : Nat → Nat} {o : Nat} {Q : State → Prop} (C0 : LCx p l s m c b L xs D G sa) {j : Nat} (hj : 7 * j + 6 < L) {u : MU} {H : Heap} {locs : List Loc} {ls : Array Slot} {cells slots : Nat} (hW : LW s D G ca mo ad o u H locs) (hl : lv_has ls 8 [(4, .int (nI (7 * j))), (3, .ref o), (2, .ref mo), (1, .ref (ca 0)), (0, .ref b)]) (hc : cells + 4 ≤ 603072 ∧ slots + 22 ≤ 7262314)
    (kk : ∀ (u : MU) (H : Heap) (locs : List Loc) (ls : Array Slot), LW s D G ca mo ad o u H locs → lv_has ls 8 [(4, .int (nI (7 * j))), (3, .ref o), (2, .ref mo), (1, .ref (ca 0)), (0, .ref b)] → W p l e room_1 s m #[Value.ref b] below meth c H locs (cells + 4) (slots + 22) Q (F0 m 1019 ls [])) : W p l e room_1 s m #[Value.ref b] below meth c H locs cells slots Q (F0 m 981 ls []) := by
  obtain ⟨hx, hb, hml, hown, hts, hX, hbl, hK, hXS, hXZ, hst, hL⟩ := id C0
  have hbA : ¬ (fun q : Nat => s.heap.size ≤ q) b := Nat.not_le.mpr hbl
  have hA : ∀ q : Nat, s.heap.size ≤ q → (fun q : Nat => s.heap.size ≤ q) q := fun _ h => h
  obtain ⟨σ, τ⟩ := u
  obtain ⟨f, z, ⟨n, k, w0, κ, x, hV, hC⟩, hP, hD, hS⟩ := hW
  have hP : va_P D vwCl ((mW G mo ad σ τ ++ [(o, .inl (G 1, 1, .inr (.inl f)))]) ++ z) H := hP
  have hD : va_D (fun q => s.heap.size ≤ q) ((mW G mo ad σ τ ++ [(o, .inl (G 1, 1, .inr (.inl f)))]) ++ z) := hD
  have hV : IV σ x τ κ n k w0 := hV
  have hC : CW G ca σ x κ k z := hC
  refine lv_aload_n hx hb dL_law_981 rfl (lv_at hl 3 rfl) ?_
  refine lv_aload_n hx hb dL_law_982 rfl (lv_at hl 4 rfl) ?_
  refine lv_iload hx hb dL_law_983 (lv_at hl 0 rfl) ?_
  refine lv_iconst (v := 1) hx hb dL_law_985 (by decide) ?_
  refine lv_iadd hx hb dL_law_986 ?_
  refine sld_n hx hb hX hbl hbA hS hL ((7 * j) + 1) (n_add (a := (7 * j)) (b := 1) rfl (rfl : (1 : Int32) = nI 1)) (by omega) dL_law_987 ?_
  refine fr_Vc (wr := mW G mo ad σ τ ++ [(o, .inl (G 1, 1, .inr (.inl f)))]) (wc := z) (As := [.int (xs ((7 * j) + 1))]) (rest := []) ⟨hx, hb, hml, hown, hts⟩ (u_broken l D G ca n k w0 σ x τ κ z _ hV hC (xs ((7 * j) + 1))) gV_L_X7_broken hdV_X7_broken ⟨(Nat.le_of_ble_eq_true rfl), (Nat.le_of_ble_eq_true rfl)⟩ hK (hC.recv hK (fr_P hP)) hP hD hS hA rfl hl.1 rfl (Nat.le_of_ble_eq_true rfl) dL_law_988 ⟨(show cells + 0 ≤ 603072 by omega), (show slots + 0 ≤ 7262314 by omega)⟩ (fun z H locs hN hP hD hS => ?_)
  refine W.eq (g2 := F0 m 991 ls [.int ((oBroken σ τ (xs ((7 * j) + 1))).1)]) rfl ?_
  refine lv_aload_n hx hb dL_law_991 rfl (lv_at hl 2 rfl) ?_
  refine lv_aload_n hx hb dL_law_992 rfl (lv_at hl 4 rfl) ?_
  refine lv_iload hx hb dL_law_993 (lv_at hl 0 rfl) ?_
  refine lv_iconst (v := 1) hx hb dL_law_995 (by decide) ?_
  refine lv_iadd hx hb dL_law_996 ?_
  refine sld_n hx hb hX hbl hbA hS hL ((7 * j) + 1) (n_add (a := (7 * j)) (b := 1) rfl (rfl : (1 : Int32) = nI 1)) (by omega) dL_law_997 ?_
  have hP := P_perm hP pm_m
  have hD := D_perm pm_m hD
  have hP : va_P D vwCl (([(o, .inl (G 1, 1, .inr (.inl f)))] ++ z) ++ mW G mo ad σ τ) H := hP
  have hD : va_D (fun q => s.heap.size ≤ q) (([(o, .inl (G 1, 1, .inr (.inl f)))] ++ z) ++ mW G mo ad σ τ) := hD
  refine fr_Vm (wr := [(o, .inl (G 1, 1, .inr (.inl f)))] ++ z) (u := (σ, τ)) (v := (oBroken σ τ (xs ((7 * j) + 1))).2) (mo := mo) (ad := ad) (As := [.int (xs ((7 * j) + 1))]) (rest := [.int ((oBroken σ τ (xs ((7 * j) + 1))).1)]) ⟨hx, hb, hml, hown, hts⟩ (m_broken l D G mo ad σ τ _   (xs ((7 * j) + 1)) ) gV_L_X8_broken hdV_X8_broken ⟨(Nat.le_of_ble_eq_true rfl), (Nat.le_of_ble_eq_true rfl)⟩ hK hP hD hS hA rfl hl.1 rfl (Nat.le_of_ble_eq_true rfl) dL_law_998 ⟨(show cells + 0 ≤ 603072 by omega), (show slots + 0 ≤ 7262314 by omega)⟩ (fun H locs hP hD hS => ?_)
  have hP := P_perm hP pm_r
  have hD := D_perm pm_r hD
  have hP : va_P D vwCl ((mW G mo ad (oBroken σ τ (xs ((7 * j) + 1))).2.1 (oBroken σ τ (xs ((7 * j) + 1))).2.2 ++ [(o, .inl (G 1, 1, .inr (.inl f)))]) ++ z) H := hP
  have hD : va_D (fun q => s.heap.size ≤ q) ((mW G mo ad (oBroken σ τ (xs ((7 * j) + 1))).2.1 (oBroken σ τ (xs ((7 * j) + 1))).2.2 ++ [(o, .inl (G 1, 1, .inr (.inl f)))]) ++ z) := hD
  refine W.eq (g2 := F0 m 1001 ls [.int ((oBroken σ τ (xs ((7 * j) + 1))).1), .int ((oBroken σ τ (xs ((7 * j) + 1))).1)]) rfl ?_
  refine lv_icmp_eq (tgt := 1019) hx hb dL_law_1001 (by decide) (fun hh => ?_) (fun hh => absurd rfl hh)
  refine W.widen (k := cells + 4) (n := slots + 22) (by omega) (by omega) ?_
  exact kk (oBroken σ τ (xs ((7 * j) + 1))).2 _ _ _ ⟨f, z, hN, hP, hD, hS⟩ (lv_sub hl [0, 1, 2, 3, 4] rfl)
set_option maxHeartbeats 1600000 in
set_option maxRecDepth 100000 in
theorem lc_clear {p : Program} {l : Launch} {e : Env} {s : State} {m : MethodId} {below : List Frame} {meth : Method} {c : Code} {b L : Nat} {xs : Nat → Int32} {D : va_G} {G : Nat → ClassId} {sa : Nat → Nat} {ca : Nat → Nat} {mo : Nat} {ad : Nat → Nat} {o : Nat} {Q : State → Prop} (C0 : LCx p l s m c b L xs D G sa) {j : Nat} (hj : 7 * j + 6 < L) {u : MU} {H : Heap} {locs : List Loc} {ls : Array Slot} {cells slots : Nat} (hW : LW s D G ca mo ad o u H locs) (hl : lv_has ls 8 [(4, .int (nI (7 * j))), (3, .ref o), (2, .ref mo), (1, .ref (ca 0)), (0, .ref b)]) (hc : cells + 4 ≤ 603072 ∧ slots + 22 ≤ 7262314)
    (kk : ∀ (u : MU) (H : Heap) (locs : List Loc) (ls : Array Slot), LW s D G ca mo ad o u H locs → lv_has ls 8 [(4, .int (nI (7 * j))), (3, .ref o), (2, .ref mo), (1, .ref (ca 0)), (0, .ref b)] → W p l e room_1 s m #[Value.ref b] below meth c H locs (cells + 4) (slots + 22) Q (F0 m 1019 ls [])) : W p l e room_1 s m #[Value.ref b] below meth c H locs cells slots Q (F0 m 1006 ls []) := by
  obtain ⟨hx, hb, hml, hown, hts, hX, hbl, hK, hXS, hXZ, hst, hL⟩ := id C0
  have hbA : ¬ (fun q : Nat => s.heap.size ≤ q) b := Nat.not_le.mpr hbl
  have hA : ∀ q : Nat, s.heap.size ≤ q → (fun q : Nat => s.heap.size ≤ q) q := fun _ h => h
  obtain ⟨σ, τ⟩ := u
  obtain ⟨f, z, ⟨n, k, w0, κ, x, hV, hC⟩, hP, hD, hS⟩ := hW
  have hP : va_P D vwCl ((mW G mo ad σ τ ++ [(o, .inl (G 1, 1, .inr (.inl f)))]) ++ z) H := hP
  have hD : va_D (fun q => s.heap.size ≤ q) ((mW G mo ad σ τ ++ [(o, .inl (G 1, 1, .inr (.inl f)))]) ++ z) := hD
  have hV : IV σ x τ κ n k w0 := hV
  have hC : CW G ca σ x κ k z := hC
  refine lv_aload_n hx hb dL_law_1006 rfl (lv_at hl 3 rfl) ?_
  refine fr_Vc (wr := mW G mo ad σ τ ++ [(o, .inl (G 1, 1, .inr (.inl f)))]) (wc := z) (As := []) (rest := []) ⟨hx, hb, hml, hown, hts⟩ (u_clear l D G ca n k w0 σ x τ κ z _ hV hC ) gV_L_X7_clear hdV_X7_clear ⟨(Nat.le_of_ble_eq_true rfl), (Nat.le_of_ble_eq_true rfl)⟩ hK (hC.recv hK (fr_P hP)) hP hD hS hA rfl hl.1 rfl (Nat.le_of_ble_eq_true rfl) dL_law_1007 ⟨(show cells + 0 ≤ 603072 by omega), (show slots + 0 ≤ 7262314 by omega)⟩ (fun z H locs hN hP hD hS => ?_)
  refine W.eq (g2 := F0 m 1010 ls [.int ((oClear σ τ k).1)]) rfl ?_
  refine lv_aload_n hx hb dL_law_1010 rfl (lv_at hl 2 rfl) ?_
  have hP := P_perm hP pm_m
  have hD := D_perm pm_m hD
  have hP : va_P D vwCl (([(o, .inl (G 1, 1, .inr (.inl f)))] ++ z) ++ mW G mo ad σ τ) H := hP
  have hD : va_D (fun q => s.heap.size ≤ q) (([(o, .inl (G 1, 1, .inr (.inl f)))] ++ z) ++ mW G mo ad σ τ) := hD
  refine fr_Vm (wr := [(o, .inl (G 1, 1, .inr (.inl f)))] ++ z) (u := (σ, τ)) (v := (oClear σ τ k).2) (mo := mo) (ad := ad) (As := []) (rest := [.int ((oClear σ τ k).1)]) ⟨hx, hb, hml, hown, hts⟩ (m_clear l D G mo ad σ τ _ k hV.1.2.1.1 hV.1.2.1.2   ) gV_L_X8_clear hdV_X8_clear ⟨(Nat.le_of_ble_eq_true rfl), (Nat.le_of_ble_eq_true rfl)⟩ hK hP hD hS hA rfl hl.1 rfl (Nat.le_of_ble_eq_true rfl) dL_law_1011 ⟨(show cells + 0 ≤ 603072 by omega), (show slots + 0 ≤ 7262314 by omega)⟩ (fun H locs hP hD hS => ?_)
  have hP := P_perm hP pm_r
  have hD := D_perm pm_r hD
  have hP : va_P D vwCl ((mW G mo ad (oClear σ τ k).2.1 (oClear σ τ k).2.2 ++ [(o, .inl (G 1, 1, .inr (.inl f)))]) ++ z) H := hP
  have hD : va_D (fun q => s.heap.size ≤ q) ((mW G mo ad (oClear σ τ k).2.1 (oClear σ τ k).2.2 ++ [(o, .inl (G 1, 1, .inr (.inl f)))]) ++ z) := hD
  refine W.eq (g2 := F0 m 1014 ls [.int ((oClear σ τ k).1), .int ((oClear σ τ k).1)]) rfl ?_
  refine lv_icmp_eq (tgt := 1019) hx hb dL_law_1014 (by decide) (fun hh => ?_) (fun hh => absurd rfl hh)
  refine W.widen (k := cells + 4) (n := slots + 22) (by omega) (by omega) ?_
  exact kk (oClear σ τ k).2 _ _ _ ⟨f, z, hN, hP, hD, hS⟩ (lv_sub hl [0, 1, 2, 3, 4] rfl)
