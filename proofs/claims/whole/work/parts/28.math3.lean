theorem near_ge {n d : Nat} : n / d ≤ FP.Core.nearest n d := by
  unfold FP.Core.nearest; (repeat' split) <;> omega
theorem near_le {n d : Nat} : FP.Core.nearest n d ≤ n / d + 1 := by
  unfold FP.Core.nearest; (repeat' split) <;> omega
/-- a whole number's bits, before they are put together -/
theorem fl_from {f : FP.Core.Fmt} {N h p : Nat} {s : Bool} (hN1 : 2 ^ h ≤ N) (hN2 : N < 2 ^ (h + 1)) (hf : f.p = p + 1) (hq : f.qmin ≤ -(p : Int)) (hm : (h : Int) - p + 1 ≤ f.qmax) :
    FP.Core.encode f (FP.Core.roundRatio f s N 1 0) = (s.toNat * f.exps + ((h : Int) - p - f.qmin).toNat) * 2 ^ p + FP.Core.nearest (N * 2 ^ (p - h)) (2 ^ (h - p)) := by
  have hp2 := Nat.two_pow_pos h
  have h0 : ¬ N = 0 := by omega
  have hlog : N.log2 = h := (Nat.log2_eq_iff h0).mpr ⟨hN1, hN2⟩
  have htl : f.tails = 2 ^ p := by unfold FP.Core.Fmt.tails; rw [hf]; rfl
  have hlead : FP.Core.leading N 1 = h := by
    unfold FP.Core.leading
    simp only [hlog, show Nat.log2 1 = 0 by decide, Int.ofNat_zero, Int.sub_zero, Int.toNat_natCast]
    rw [if_pos]
    rw [show (-(h : Int)).toNat = 0 by omega]; omega
  have hquant : FP.Core.quantum f N 1 0 = (h : Int) - p := by
    unfold FP.Core.quantum; rw [hlead, hf]; omega
  unfold FP.Core.roundRatio
  rw [if_neg h0, hquant]
  unfold FP.Core.roundAt FP.Core.unitsNum FP.Core.unitsDen
  rw [show (0 - ((h : Int) - p)).toNat = p - h by omega, show ((h : Int) - p - 0).toNat = h - p by omega, Nat.one_mul]
  have hb : 2 ^ p ≤ N * 2 ^ (p - h) / 2 ^ (h - p) ∧ N * 2 ^ (p - h) / 2 ^ (h - p) < 2 ^ (p + 1) := by
    rcases Nat.le_total p h with q | q
    · rw [show p - h = 0 by omega, Nat.pow_zero, Nat.mul_one]
      have e1 : 2 ^ h = 2 ^ p * 2 ^ (h - p) := by rw [← Nat.pow_add]; congr 1; omega
      have e2 : 2 ^ (h + 1) = 2 ^ (p + 1) * 2 ^ (h - p) := by rw [← Nat.pow_add]; congr 1; omega
      have hd := Nat.two_pow_pos (h - p)
      exact ⟨(Nat.le_div_iff_mul_le hd).mpr (by omega), (Nat.div_lt_iff_lt_mul hd).mpr (by omega)⟩
    · rw [show h - p = 0 by omega, Nat.pow_zero, Nat.div_one]
      have e1 : 2 ^ p = 2 ^ h * 2 ^ (p - h) := by rw [← Nat.pow_add]; congr 1; omega
      have e2 : 2 ^ (p + 1) = 2 ^ (h + 1) * 2 ^ (p - h) := by rw [← Nat.pow_add]; congr 1; omega
      have hd := Nat.two_pow_pos (p - h)
      rw [e1, e2]
      exact ⟨Nat.mul_le_mul_right _ hN1, Nat.mul_lt_mul_of_pos_right hN2 hd⟩
  have g1 := near_ge (n := N * 2 ^ (p - h)) (d := 2 ^ (h - p))
  have g2 := near_le (n := N * 2 ^ (p - h)) (d := 2 ^ (h - p))
  generalize FP.Core.nearest (N * 2 ^ (p - h)) (2 ^ (h - p)) = c at g1 g2 ⊢
  have hc1 : 2 ^ p ≤ c := by omega
  have hc2 : c ≤ 2 ^ (p + 1) := by omega
  have hpp : 2 ^ (p + 1) = 2 * 2 ^ p := by rw [Nat.pow_succ]; omega
  unfold FP.Core.settle
  rw [hf]
  by_cases hc : c < 2 ^ (p + 1)
  · rw [if_pos hc]
    unfold FP.Core.bound
    rw [if_pos (by omega)]
    unfold FP.Core.encode
    simp only [htl]
    rw [if_neg (by omega)]
    unfold FP.Core.assemble
    rw [htl, ← Nat.add_assoc, Nat.add_mul _ 1, Nat.one_mul]
    omega
  · rw [if_neg hc]
    have hce : c = 2 * 2 ^ p := by omega
    unfold FP.Core.bound
    rw [if_pos (by omega)]
    unfold FP.Core.encode
    simp only [htl]
    rw [if_neg (by omega)]
    unfold FP.Core.assemble
    rw [htl, hce, Nat.sub_self, Nat.add_zero, show ((h : Int) - p + 1 - f.qmin).toNat + 1 = ((h : Int) - p - f.qmin).toNat + 2 by omega, ← Nat.add_assoc, Nat.add_mul _ 2]
abbrev u6 (s : Int64) : Nat := s.toBitVec.toNat
theorem u6_inj {a b : Int64} (h : u6 a = u6 b) : a = b := Int64.toBitVec_inj.mp (BitVec.eq_of_toNat_eq h)
theorem u6_ti {a : Int64} (h : u6 a < 2 ^ 63) : a.toInt = (u6 a : Int) := by
  show a.toBitVec.toInt = _
  rw [BitVec.toInt_eq_toNat_of_lt (by show 2 * u6 a < 2 ^ 64; omega)]
theorem sh_1 : ∀ j : Fin 64, (((nI j.val).toInt64.toUInt64 &&& Int64.toUInt64 63).toBitVec % 64).toNat = j.val := by decide +kernel
theorem sh_2 : ∀ j : Fin 64, (((nI j.val).toInt64 &&& 63).toBitVec.smod 64).toNat = j.val := by decide +kernel
theorem lru_u {s : Int64} {j : Nat} (hj : j < 64) : u6 (lru s (nI j)) = u6 s / 2 ^ j := by
  unfold lru
  show ((s.toUInt64 >>> ((nI j).toInt64.toUInt64 &&& Int64.toUInt64 63)).toBitVec).toNat = _
  rw [UInt64.toBitVec_shiftRight]
  show (s.toBitVec >>> (((nI j).toInt64.toUInt64 &&& Int64.toUInt64 63).toBitVec % 64)).toNat = _
  rw [BitVec.ushiftRight_eq', BitVec.toNat_ushiftRight, sh_1 ⟨j, hj⟩, Nat.shiftRight_eq_div_pow]
theorem lsl_u {s : Int64} {j : Nat} (hj : j < 64) : u6 (lsl s (nI j)) = u6 s * 2 ^ j % 2 ^ 64 := by
  unfold lsl
  show (s <<< ((nI j).toInt64 &&& 63)).toBitVec.toNat = _
  rw [Int64.toBitVec_shiftLeft, BitVec.shiftLeft_eq', BitVec.toNat_shiftLeft, sh_2 ⟨j, hj⟩, Nat.shiftLeft_eq]
theorem lru_0 {s : Int64} {j : Nat} (hj : j < 64) : lru s (nI j) = 0 ↔ u6 s < 2 ^ j := by
  have h := lru_u (s := s) hj
  have hp := Nat.two_pow_pos j
  constructor
  · intro q; rw [q] at h
    have h0 : u6 s / 2 ^ j = 0 := h.symm
    rcases Nat.div_eq_zero_iff.mp h0 with z | z
    · omega
    · exact z
  · intro q; exact u6_inj (by rw [h, Nat.div_eq_of_lt q]; rfl)
theorem hb_spec {s : Int64} (h1 : 1 ≤ u6 s) : ∀ h, h < 64 → u6 s < 2 ^ (h + 1) → 2 ^ hbN s h ≤ u6 s ∧ u6 s < 2 ^ (hbN s h + 1) ∧ hbN s h ≤ h
  | 0, _, h2 => ⟨h1, h2, Nat.le_refl _⟩
  | h + 1, hh, h2 => by
    show 2 ^ (if lru s (nI (h + 1)) = 0 then hbN s h else h + 1) ≤ u6 s ∧ u6 s < 2 ^ ((if lru s (nI (h + 1)) = 0 then hbN s h else h + 1) + 1) ∧ (if lru s (nI (h + 1)) = 0 then hbN s h else h + 1) ≤ h + 1
    by_cases c : lru s (nI (h + 1)) = 0
    · rw [if_pos c]
      obtain ⟨g1, g2, g3⟩ := hb_spec h1 h (by omega) ((lru_0 (by omega)).mp c)
      exact ⟨g1, g2, by omega⟩
    · rw [if_neg c]
      exact ⟨by have := mt (lru_0 (s := s) (by omega)).mpr c; omega, h2, Nat.le_refl _⟩
theorem pd_1 (d : Nat) (h : 1 ≤ d) : nI d - 1 = nI (d - 1) := by
  have := pk_sub (a := d) (b := 1) h; exact this
theorem ti_lt {a b : Int64} (ha : u6 a < 2 ^ 63) (hb : u6 b < 2 ^ 63) : a < b ↔ u6 a < u6 b := by
  rw [Int64.lt_iff_toInt_lt, u6_ti ha, u6_ti hb]; omega
theorem u6_add {a b : Int64} (h : u6 a + u6 b < 2 ^ 64) : u6 (a + b) = u6 a + u6 b := by
  show (a + b).toBitVec.toNat = _
  rw [Int64.toBitVec_add, BitVec.toNat_add]
  exact Nat.mod_eq_of_lt h
/-- the size without its lowest bits is the nearest -/
theorem ro_u {s : Int64} {h f : Nat} (hN2 : u6 s < 2 ^ (h + 1)) (hh : h < 64) (hf : f < 62) (hf1 : 1 ≤ f) : u6 (roF s (nI h - nI f)) = FP.Core.nearest (u6 s * 2 ^ (f - h)) (2 ^ (h - f)) := by
  unfold roF
  have hlt := BitVec.isLt s.toBitVec
  by_cases c : f < h
  · have e : nI h - nI f = nI (h - f) := pk_sub (by omega)
    rw [e]
    have c1 : ¬ ¬ 0 < nI (h - f) := fun q => q ((nI_ltI (a := 0) (by decide) (by omega)).mpr (by omega))
    rw [if_neg c1, pd_1 _ (by omega), show f - h = 0 by omega, Nat.pow_zero, Nat.mul_one]
    generalize hd : h - f = d
    have hd1 : 1 ≤ d := by omega
    have hd2 : d ≤ 62 := by omega
    have hp := Nat.two_pow_pos d
    have hk := lru_u (s := s) (j := d) (by omega)
    have h1u : u6 (1 : Int64) = 1 := by decide
    have hone : u6 (lsl 1 (nI d)) = 2 ^ d := by
      rw [lsl_u (by omega), h1u, Nat.one_mul, Nat.mod_eq_of_lt (Nat.pow_lt_pow_right (by decide) (by omega))]
    have hhalf : u6 (lsl 1 (nI (d - 1))) = 2 ^ (d - 1) := by
      rw [lsl_u (by omega), h1u, Nat.one_mul, Nat.mod_eq_of_lt (Nat.pow_lt_pow_right (by decide) (by omega))]
    have hd64 : 2 ^ d ≤ 2 ^ 62 := Nat.pow_le_pow_right (by decide) hd2
    have hpd : 2 ^ d = 2 * 2 ^ (d - 1) := by rw [← Nat.pow_succ', show (d - 1).succ = d by omega]
    have hmask : u6 (lsl 1 (nI d) - 1) = 2 ^ d - 1 := by
      show (lsl 1 (nI d) - 1).toBitVec.toNat = _
      rw [Int64.toBitVec_sub, BitVec.toNat_sub]
      show (2 ^ 64 - 1 + u6 (lsl 1 (nI d))) % 2 ^ 64 = _
      rw [hone]; omega
    have hlost : u6 (s &&& (lsl 1 (nI d) - 1)) = u6 s % 2 ^ d := by
      show (s &&& (lsl 1 (nI d) - 1)).toBitVec.toNat = _
      rw [Int64.toBitVec_and, BitVec.toNat_and]
      show u6 s &&& u6 (lsl 1 (nI d) - 1) = _
      rw [hmask, Nat.and_two_pow_sub_one_eq_mod]
    have hlostlt := Nat.mod_lt (u6 s) hp
    have hodd : (lru s (nI d) &&& 1 = 1) ↔ u6 s / 2 ^ d % 2 = 1 := by
      constructor
      · intro q
        have := congrArg u6 q
        have e2 : u6 (lru s (nI d) &&& 1) = u6 (lru s (nI d)) % 2 := by
          show (lru s (nI d) &&& 1).toBitVec.toNat = _
          rw [Int64.toBitVec_and, BitVec.toNat_and]
          exact Nat.and_one_is_mod _
        rw [e2, hk, h1u] at this; exact this
      · intro q
        refine u6_inj ?_
        have e2 : u6 (lru s (nI d) &&& 1) = u6 (lru s (nI d)) % 2 := by
          show (lru s (nI d) &&& 1).toBitVec.toNat = _
          rw [Int64.toBitVec_and, BitVec.toNat_and]
          exact Nat.and_one_is_mod _
        rw [e2, hk, h1u]; exact q
    have hup : roP' (lru s (nI d)) (s &&& (lsl 1 (nI d) - 1)) (lsl 1 (nI (d - 1))) ↔ (2 ^ (d - 1) < u6 s % 2 ^ d ∨ (u6 s % 2 ^ d = 2 ^ (d - 1) ∧ u6 s / 2 ^ d % 2 = 1)) := by
      rw [roP'_def, ti_lt (by rw [hhalf]; omega) (by rw [hlost]; omega), hhalf, hlost, hodd]
      refine or_congr Iff.rfl (and_congr ⟨fun q => ?_, fun q => ?_⟩ Iff.rfl)
      · have := congrArg u6 q; rw [hlost, hhalf] at this; exact this
      · exact u6_inj (by rw [hlost, hhalf]; exact q)
    have hkb : u6 s / 2 ^ d < 2 ^ 63 := by
      refine Nat.lt_of_le_of_lt (Nat.div_le_div_left (c := 2) (by rw [hpd]; have := Nat.two_pow_pos (d - 1); omega) (by decide)) ?_
      have hlt' : u6 s < 2 ^ 64 := hlt
      omega
    have hplus : u6 (lru s (nI d) + 1) = u6 s / 2 ^ d + 1 := by
      rw [u6_add (by rw [hk, h1u]; omega), hk, h1u]
    unfold FP.Core.nearest
    by_cases c2 : 2 * (u6 s % 2 ^ d) < 2 ^ d
    · rw [if_pos c2, if_neg (fun q => by rcases hup.mp q with z | z <;> omega), hk]
    · rw [if_neg c2]
      by_cases c3 : 2 ^ d < 2 * (u6 s % 2 ^ d)
      · rw [if_pos c3, if_pos (hup.mpr (Or.inl (by omega))), hplus]
      · rw [if_neg c3]
        by_cases c4 : u6 s / 2 ^ d % 2 = 1
        · rw [if_pos (hup.mpr (Or.inr ⟨by omega, c4⟩)), hplus, c4]
        · rw [if_neg (fun q => by rcases hup.mp q with z | z <;> omega), hk]; omega
  · have e : -(nI h - nI f) = nI (f - h) := by
      rw [← pk_sub (show h ≤ f by omega), Int32.neg_sub]
    have c1 : ¬ 0 < nI h - nI f := by
      rw [i_lt, pk_sub_toInt (by omega) (by omega)]; simp only [Int32.reduceToInt]; omega
    rw [if_pos c1, e, lsl_u (by omega), show h - f = 0 by omega, Nat.pow_zero]
    unfold FP.Core.nearest
    rw [Nat.mod_one, Nat.div_one, if_pos (by decide)]
    refine Nat.mod_eq_of_lt ?_
    have : u6 s * 2 ^ (f - h) < 2 ^ (h + 1) * 2 ^ (f - h) := Nat.mul_lt_mul_of_pos_right hN2 (Nat.two_pow_pos _)
    rw [← Nat.pow_add] at this
    exact Nat.lt_of_lt_of_le this (Nat.pow_le_pow_right (by decide) (by omega))
theorem bo_u {s : Int64} {f b : Nat} (h1 : 1 ≤ u6 s) (hf : f < 62) (hf1 : 1 ≤ f) (hb1 : 1 ≤ b) (hb : b < 2048) (hfit : (b + 63) * 2 ^ f + 2 ^ (f + 1) < 2 ^ 63) : ∃ h, 2 ^ h ≤ u6 s ∧ u6 s < 2 ^ (h + 1) ∧ h ≤ 63 ∧ u6 (boF s (nI f) (nI b)) = (h + b - 1) * 2 ^ f + FP.Core.nearest (u6 s * 2 ^ (f - h)) (2 ^ (h - f)) ∧ u6 (boF s (nI f) (nI b)) < 2 ^ f * (b + 66) := by
  have hlt : u6 s < 2 ^ 64 := BitVec.isLt s.toBitVec
  obtain ⟨g1, g2, g3⟩ := hb_spec h1 63 (by omega) hlt
  refine ⟨hbN s 63, g1, g2, g3, ?_⟩
  have h0 : ¬ s = 0 := fun q => by rw [q] at h1; exact absurd h1 (by decide)
  unfold boF
  rw [if_neg h0]
  generalize hbN s 63 = h at g1 g2 g3 ⊢
  have hr := ro_u (s := s) (h := h) (f := f) g2 (by omega) hf hf1
  have hnl : FP.Core.nearest (u6 s * 2 ^ (f - h)) (2 ^ (h - f)) ≤ 2 ^ (f + 1) := by
    have hle := near_le (n := u6 s * 2 ^ (f - h)) (d := 2 ^ (h - f))
    have : u6 s * 2 ^ (f - h) / 2 ^ (h - f) < 2 ^ (f + 1) := by
      rw [Nat.div_lt_iff_lt_mul (Nat.two_pow_pos _), ← Nat.pow_add]
      have hm : u6 s * 2 ^ (f - h) < 2 ^ (h + 1) * 2 ^ (f - h) := Nat.mul_lt_mul_of_pos_right g2 (Nat.two_pow_pos _)
      rw [← Nat.pow_add] at hm
      exact Nat.lt_of_lt_of_le hm (Nat.pow_le_pow_right (by decide) (by omega))
    omega
  have he : nI h + nI b - 1 = nI (h + b - 1) := by rw [nI_add, pd_1 _ (by omega)]
  have hu : u6 ((nI (h + b - 1)).toInt64) = h + b - 1 := by
    have ht : (nI (h + b - 1)).toInt64.toInt = ((h + b - 1 : Nat) : Int) := by rw [Int32.toInt_toInt64, n_ti (by omega)]
    have h3 : (nI (h + b - 1)).toInt64.toInt = (nI (h + b - 1)).toInt64.toBitVec.toInt := rfl
    rw [h3, BitVec.toInt_eq_toNat_cond] at ht
    have hl2 := BitVec.isLt (nI (h + b - 1)).toInt64.toBitVec
    show (nI (h + b - 1)).toInt64.toBitVec.toNat = _
    split at ht <;> omega
  have hmul : (h + b - 1) * 2 ^ f ≤ (b + 63) * 2 ^ f := Nat.mul_le_mul_right _ (by omega)
  have hs : u6 (lsl ((nI (h + b - 1)).toInt64) (nI f)) = (h + b - 1) * 2 ^ f := by
    rw [lsl_u (by omega), hu, Nat.mod_eq_of_lt (by omega)]
  rw [he, u6_add (by rw [hs, hr]; omega), hs, hr]
  refine ⟨rfl, ?_⟩
  have hp2 : 2 ^ (f + 1) = 2 * 2 ^ f := by rw [Nat.pow_succ]; omega
  have : 2 ^ f * (b + 66) = (b + 63) * 2 ^ f + 3 * 2 ^ f := by rw [Nat.mul_comm, ← Nat.add_mul]
  have := Nat.two_pow_pos f
  omega
theorem neg_u {v : Int64} (hv : ¬ 0 ≤ v) : u6 (-v) = v.toInt.natAbs ∧ 1 ≤ u6 (-v) := by
  have h0 : v.toInt < 0 := by
    have := mt Int64.le_iff_toInt_le.mpr hv
    have h00 : (0 : Int64).toInt = 0 := by decide
    omega
  have h3 : v.toInt = v.toBitVec.toInt := rfl
  have hl := BitVec.isLt v.toBitVec
  rw [h3, BitVec.toInt_eq_toNat_cond] at h0 ⊢
  have e : u6 (-v) = (2 ^ 64 - u6 v) % 2 ^ 64 := by
    show (-v).toBitVec.toNat = _
    rw [Int64.toBitVec_neg, BitVec.toNat_neg]
  rw [e]
  show (2 ^ 64 - v.toBitVec.toNat) % 2 ^ 64 = _ ∧ 1 ≤ (2 ^ 64 - v.toBitVec.toNat) % 2 ^ 64
  split at h0 <;> rename_i c <;> simp only [c, if_true, if_false] <;> omega
theorem pos_u {v : Int64} (hv : 0 ≤ v) : u6 v = v.toInt.natAbs ∧ u6 v < 2 ^ 63 ∧ 0 ≤ v.toInt := by
  have h0 : 0 ≤ v.toInt := by
    have := Int64.le_iff_toInt_le.mp hv
    have h00 : (0 : Int64).toInt = 0 := by decide
    omega
  have h3 : v.toInt = v.toBitVec.toInt := rfl
  have hl := BitVec.isLt v.toBitVec
  rw [h3, BitVec.toInt_eq_toNat_cond] at h0 ⊢
  show v.toBitVec.toNat = _ ∧ v.toBitVec.toNat < 2 ^ 63 ∧ _
  split at h0 <;> rename_i c <;> simp only [c, if_true, if_false] <;> omega
theorem bits_f {v : Int64} (h0 : ¬ v = 0) : ∃ X, X < 2 ^ 23 * 193 ∧ (FP.Core.l2f v).toNat % 2 ^ 32 = (if 0 ≤ v then 0 else 2 ^ 31) + X ∧ u6 (boF (if 0 ≤ v then v else -v) 23 127) = X := by
  have hN : 1 ≤ u6 (if 0 ≤ v then v else -v) ∧ u6 (if 0 ≤ v then v else -v) = v.toInt.natAbs := by
    by_cases c : 0 ≤ v
    · rw [if_pos c]
      refine ⟨?_, (pos_u c).1⟩
      rcases Nat.eq_zero_or_pos (u6 v) with z | z
      · exact absurd (u6_inj (b := 0) z) h0
      · exact z
    · rw [if_neg c]; exact ⟨(neg_u c).2, (neg_u c).1⟩
  obtain ⟨h, g1, g2, g3, g4, g5⟩ := bo_u (s := if 0 ≤ v then v else -v) (f := 23) (b := 127) hN.1 (by decide) (by decide) (by decide) (by decide) (by decide)
  refine ⟨_, ?_, ?_, g4⟩
  · rw [← g4]; exact g5
  · have hX : u6 (boF (if 0 ≤ v then v else -v) (nI 23) (nI 127)) < 2 ^ 31 := Nat.lt_trans g5 (by decide)
    have hs : decide (v.toInt < 0) = !decide (0 ≤ v) := by
      by_cases c : 0 ≤ v
      · have := (pos_u c).2.2; simp [c]; omega
      · have := mt Int64.le_iff_toInt_le.mpr c
        have h00 : (0 : Int64).toInt = 0 := by decide
        simp [c]; omega
    have e : FP.Core.fromInt FP.Core.b32 v.toInt = (if 0 ≤ v then 0 else 2 ^ 31) + ((h + 127 - 1) * 2 ^ 23 + FP.Core.nearest (u6 (if 0 ≤ v then v else -v) * 2 ^ (23 - h)) (2 ^ (h - 23))) := by
      show FP.Core.encode FP.Core.b32 (FP.Core.roundRatio FP.Core.b32 (decide (v.toInt < 0)) v.toInt.natAbs 1 0) = _
      rw [← hN.2, fl_from (p := 23) g1 g2 rfl (by decide) (by show (h : Int) - 23 + 1 ≤ 104; omega), hs]
      have hq : ((h : Int) - (23 : Nat) - FP.Core.Fmt.qmin FP.Core.b32).toNat = h + 126 := by
        have : FP.Core.Fmt.qmin FP.Core.b32 = -149 := by decide
        rw [this]; omega
      rw [hq, show FP.Core.Fmt.exps FP.Core.b32 = 256 from by decide]
      by_cases c : 0 ≤ v
      · simp only [c, decide_true, Bool.not_true, Bool.toNat_false, if_true]; omega
      · simp only [c, decide_false, Bool.not_false, Bool.toNat_true, if_false]; omega
    show (UInt32.ofNat (FP.Core.fromInt FP.Core.b32 v.toInt)).toNat % 2 ^ 32 = _
    rw [UInt32.toNat_ofNat', e, ← g4, Nat.mod_mod]
    refine Nat.mod_eq_of_lt ?_
    generalize u6 (boF (if 0 ≤ v then v else -v) (nI 23) (nI 127)) = Y at hX ⊢
    split <;> omega
theorem bits_d {v : Int64} (h0 : ¬ v = 0) : ∃ X, X < 2 ^ 52 * 1089 ∧ (FP.Core.l2d v).toNat % 2 ^ 64 = (if 0 ≤ v then 0 else 2 ^ 63) + X ∧ u6 (boF (if 0 ≤ v then v else -v) 52 1023) = X := by
  have hN : 1 ≤ u6 (if 0 ≤ v then v else -v) ∧ u6 (if 0 ≤ v then v else -v) = v.toInt.natAbs := by
    by_cases c : 0 ≤ v
    · rw [if_pos c]
      refine ⟨?_, (pos_u c).1⟩
      rcases Nat.eq_zero_or_pos (u6 v) with z | z
      · exact absurd (u6_inj (b := 0) z) h0
      · exact z
    · rw [if_neg c]; exact ⟨(neg_u c).2, (neg_u c).1⟩
  obtain ⟨h, g1, g2, g3, g4, g5⟩ := bo_u (s := if 0 ≤ v then v else -v) (f := 52) (b := 1023) hN.1 (by decide) (by decide) (by decide) (by decide) (by decide)
  refine ⟨_, ?_, ?_, g4⟩
  · rw [← g4]; exact g5
  · have hX : u6 (boF (if 0 ≤ v then v else -v) (nI 52) (nI 1023)) < 2 ^ 63 := Nat.lt_trans g5 (by decide)
    have hs : decide (v.toInt < 0) = !decide (0 ≤ v) := by
      by_cases c : 0 ≤ v
      · have := (pos_u c).2.2; simp [c]; omega
      · have := mt Int64.le_iff_toInt_le.mpr c
        have h00 : (0 : Int64).toInt = 0 := by decide
        simp [c]; omega
    have e : FP.Core.fromInt FP.Core.b64 v.toInt = (if 0 ≤ v then 0 else 2 ^ 63) + ((h + 1023 - 1) * 2 ^ 52 + FP.Core.nearest (u6 (if 0 ≤ v then v else -v) * 2 ^ (52 - h)) (2 ^ (h - 52))) := by
      show FP.Core.encode FP.Core.b64 (FP.Core.roundRatio FP.Core.b64 (decide (v.toInt < 0)) v.toInt.natAbs 1 0) = _
      rw [← hN.2, fl_from (p := 52) g1 g2 rfl (by decide) (by show (h : Int) - 52 + 1 ≤ 971; omega), hs]
      have hq : ((h : Int) - (52 : Nat) - FP.Core.Fmt.qmin FP.Core.b64).toNat = h + 1022 := by
        have : FP.Core.Fmt.qmin FP.Core.b64 = -1074 := by decide
        rw [this]; omega
      rw [hq, show FP.Core.Fmt.exps FP.Core.b64 = 2048 from by decide]
      by_cases c : 0 ≤ v
      · simp only [c, decide_true, Bool.not_true, Bool.toNat_false, if_true]; omega
      · simp only [c, decide_false, Bool.not_false, Bool.toNat_true, if_false]; omega
    show (UInt64.ofNat (FP.Core.fromInt FP.Core.b64 v.toInt)).toNat % 2 ^ 64 = _
    rw [UInt64.toNat_ofNat', e, ← g4, Nat.mod_mod]
    refine Nat.mod_eq_of_lt ?_
    generalize u6 (boF (if 0 ≤ v then v else -v) (nI 52) (nI 1023)) = Y at hX ⊢
    split <;> omega
/-- the bits of the nearest float -/
theorem al_f {v : Int64} : (if 0 ≤ v then boF v 23 127 else boF (-v) 23 127 + (-2147483648)) = ((FP.Core.l2f v).toInt32).toInt64 := by
  by_cases h0 : v = 0
  · subst h0; decide +kernel
  · obtain ⟨X, hX, e1, e2⟩ := bits_f h0
    have hy := (FP.Core.l2f v).toNat_lt
    rw [Nat.mod_eq_of_lt hy] at e1
    apply Int64.toInt_inj.mp
    rw [Int32.toInt_toInt64]
    have hi : (FP.Core.l2f v).toInt32.toInt = (FP.Core.l2f v).toBitVec.toInt := rfl
    have hn : (FP.Core.l2f v).toBitVec.toNat = (FP.Core.l2f v).toNat := rfl
    rw [hi, BitVec.toInt_eq_toNat_cond, hn, e1]
    by_cases c : 0 ≤ v
    · rw [if_pos c] at e2 ⊢
      rw [if_pos c, if_pos (by omega), u6_ti (by omega), e2]; omega
    · rw [if_neg c] at e2 ⊢
      rw [if_neg c, if_neg (by omega), Int64.toInt_add, u6_ti (by omega), e2]
      rw [show (-2147483648 : Int64).toInt = -2147483648 from by decide, Int.bmod_eq_of_le (by omega) (by omega)]; omega
/-- the bits of the nearest double -/
theorem al_d {v : Int64} : (if 0 ≤ v then boF v 52 1023 else boF (-v) 52 1023 + (-9223372036854775808)) = (FP.Core.l2d v).toInt64 := by
  by_cases h0 : v = 0
  · subst h0; decide +kernel
  · obtain ⟨X, hX, e1, e2⟩ := bits_d h0
    have hy := (FP.Core.l2d v).toNat_lt
    rw [Nat.mod_eq_of_lt hy] at e1
    apply u6_inj
    show _ = (FP.Core.l2d v).toBitVec.toNat
    have hn : (FP.Core.l2d v).toBitVec.toNat = (FP.Core.l2d v).toNat := rfl
    rw [hn, e1]
    by_cases c : 0 ≤ v
    · rw [if_pos c] at e2 ⊢
      rw [if_pos c, e2]; omega
    · rw [if_neg c] at e2 ⊢
      have hm : u6 (-9223372036854775808 : Int64) = 2 ^ 63 := by decide
      rw [if_neg c, u6_add (by rw [e2, hm]; omega), e2, hm]; omega
theorem cmp_fin {f : FP.Core.Fmt} {n : Nat} {s : Bool} {c : Nat} {q : Int} (h : FP.Core.decode f n = .fin s c q) : FP.Core.cmp f n n = some .eq := by
  unfold FP.Core.cmp; rw [h]
  show some (compare _ _) = _
  rw [Int.compare_eq_eq.mpr rfl]
theorem dec_fin {f : FP.Core.Fmt} {n : Nat} (h : ¬ FP.Core.fieldE f n = f.exps - 1) : ∃ s c q, FP.Core.decode f n = .fin s c q := by
  unfold FP.Core.decode; rw [if_neg h]; split
  · exact ⟨_, _, _, rfl⟩
  · exact ⟨_, _, _, rfl⟩
theorem cmp_f {v : Int64} : FP.Core.fcmp (FP.Core.l2f v) (FP.Core.l2f v) = some .eq := by
  show FP.Core.cmp FP.Core.b32 _ _ = _
  by_cases h0 : v = 0
  · subst h0; decide +kernel
  · obtain ⟨X, hX, e1, -⟩ := bits_f h0
    have hy := (FP.Core.l2f v).toNat_lt
    rw [Nat.mod_eq_of_lt hy] at e1
    obtain ⟨s, c, q, h⟩ := dec_fin (f := FP.Core.b32) (n := (FP.Core.l2f v).toNat) (by
      show ¬ (FP.Core.l2f v).toNat / 2 ^ 23 % 256 = 255
      rw [e1]
      generalize hz : (if 0 ≤ v then 0 else 2 ^ 31 : Nat) = z
      have : z = 0 ∨ z = 2 ^ 31 := by rw [← hz]; split; exact Or.inl rfl; exact Or.inr rfl
      omega)
    exact cmp_fin h
theorem cmp_d {v : Int64} : FP.Core.dcmp (FP.Core.l2d v) (FP.Core.l2d v) = some .eq := by
  show FP.Core.cmp FP.Core.b64 _ _ = _
  by_cases h0 : v = 0
  · subst h0; decide +kernel
  · obtain ⟨X, hX, e1, -⟩ := bits_d h0
    have hy := (FP.Core.l2d v).toNat_lt
    rw [Nat.mod_eq_of_lt hy] at e1
    obtain ⟨s, c, q, h⟩ := dec_fin (f := FP.Core.b64) (n := (FP.Core.l2d v).toNat) (by
      show ¬ (FP.Core.l2d v).toNat / 2 ^ 52 % 2048 = 2047
      rw [e1]
      generalize hz : (if 0 ≤ v then 0 else 2 ^ 63 : Nat) = z
      have : z = 0 ∨ z = 2 ^ 63 := by rw [← hz]; split; exact Or.inl rfl; exact Or.inr rfl
      omega)
    exact cmp_fin h
theorem fb_l {v : Int64} : fbF (FP.l2f v) = (FP.Core.l2f v).toInt32 := by
  unfold fbF
  have h : FP.fcmp (FP.l2f v) (FP.l2f v) = some .eq := cmp_f
  rw [h, if_neg (fun q => q rfl)]
theorem db_l {v : Int64} : dbF (FP.l2d v) = (FP.Core.l2d v).toInt64 := by
  unfold dbF
  have h : FP.dcmp (FP.l2d v) (FP.l2d v) = some .eq := cmp_d
  rw [h, if_neg (fun q => q rfl)]
/-- the class's long of a constant is the reference's -/
theorem al_tv (kind : Int32) (v : Int64) : alF kind v = tvF kind v := by
  unfold alF tvF
  by_cases h7 : kind = 7
  · rw [if_pos h7, if_pos h7, fb_l]; exact al_f
  · rw [if_neg h7, if_neg h7]
    by_cases h8 : kind = 8
    · rw [if_pos h8, if_pos h8, db_l]; exact al_d
    · rw [if_neg h8, if_neg h8]
