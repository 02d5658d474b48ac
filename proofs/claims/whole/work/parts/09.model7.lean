def zeF (f : Nat → Int32) : Nat → Nat → Int32
  | 0 => f
  | k + 1 => upd (zeF f k) k 0
def oClear (σ : MS) (τ : Nat → Int64) (k : Nat) : Int32 × MU :=
  (nI k, st (su (su (su (su (su (su (su σ 0 0 0) 1 0 0) 7 0 0) 21 0 0) 22 0 0) 25 0 0) 26 0 0) 27 (zeF (σ 27) 26), τ)
theorem upd_upd (f : Nat → Int32) (j : Nat) (x y : Int32) : upd (upd f j x) j y = upd f j y := by funext i; unfold upd; split <;> rfl
abbrev isP (σ : MS) (t : Nat) (name : Int32) (e : Nat) : Prop := ¬ σ 8 e = 0 ∧ σ 10 e = name ∧ lyP σ t (tyE σ e)
def canb (σ : MS) (t : Nat) (name : Int32) (e : Nat) : Bool := decide (isP σ t name e ∧ (σ 9 e = nI t ∨ (σ 13 e &&& 4 = 0 ∧ ¬ stP σ e)))
abbrev canP (σ : MS) (t : Nat) (name : Int32) (e : Nat) : Prop := canb σ t name e = true
theorem canP_def {σ : MS} {t : Nat} {name : Int32} {e : Nat} : canP σ t name e ↔ (isP σ t name e ∧ (σ 9 e = nI t ∨ (σ 13 e &&& 4 = 0 ∧ ¬ stP σ e))) := decide_eq_true_iff
def cdF (σ : MS) (t : Nat) (name : Int32) (f : Nat → Int32) : Nat → Nat → Int32
  | 0 => f
  | k + 1 => upd (cdF σ t name f k) k (bI (canP σ t name k))
theorem cdF_at {σ : MS} {t : Nat} {name : Int32} {f : Nat → Int32} : ∀ {k e : Nat}, e < k → cdF σ t name f k e = bI (canP σ t name e)
  | k + 1, e, h => by
    show upd (cdF σ t name f k) k _ e = _
    by_cases q : e = k
    · rw [q, pk_us]
    · rw [pk_un q]; exact cdF_at (by omega)
abbrev othP (σ : MS) (t : Nat) (name : Int32) (o e : Nat) : Prop := canP σ t name o ∧ ¬ o = e ∧ lyP σ (tyE σ o) (tyE σ e) ∧ sameP σ o e
def fnb (σ : MS) (t : Nat) (name : Int32) (e n : Nat) : Bool := decide (canP σ t name e ∧ ∀ o, o < n → ¬ othP σ t name o e)
abbrev fnN (σ : MS) (t : Nat) (name : Int32) (e n : Nat) : Prop := fnb σ t name e n = true
theorem fnN_def {σ : MS} {t : Nat} {name : Int32} {e n : Nat} : fnN σ t name e n ↔ (canP σ t name e ∧ ∀ o, o < n → ¬ othP σ t name o e) := decide_eq_true_iff
theorem fnN_0 {σ : MS} {t : Nat} {name : Int32} {e : Nat} : bI (canP σ t name e) = bI (fnN σ t name e 0) := bI_c ⟨fun h => fnN_def.mpr ⟨h, fun j hj => absurd hj (Nat.not_lt_zero j)⟩, fun h => (fnN_def.mp h).1⟩
theorem fnN_s {σ : MS} {t : Nat} {name : Int32} {e k : Nat} : bI (fnN σ t name e k ∧ ¬ othP σ t name k e) = bI (fnN σ t name e (k + 1)) := by
  refine bI_c ⟨fun q => fnN_def.mpr ⟨(fnN_def.mp q.1).1, fun j hj => ?_⟩, fun q => ⟨fnN_def.mpr ⟨(fnN_def.mp q).1, fun j hj => (fnN_def.mp q).2 j (by omega)⟩, (fnN_def.mp q).2 k (Nat.lt_succ_self _)⟩⟩
  rcases Nat.lt_or_ge j k with h1 | h1
  · exact (fnN_def.mp q.1).2 j h1
  · rw [show j = k by omega]; exact q.2
def ffF (σ : MS) (t : Nat) (name : Int32) (K : Nat) (f : Nat → Int32) : Nat → Nat → Int32
  | 0 => f
  | k + 1 => upd (ffF σ t name K f k) k (bI (fnN σ t name k K))
theorem ffF_at {σ : MS} {t : Nat} {name : Int32} {K : Nat} {f : Nat → Int32} : ∀ {k e : Nat}, e < k → ffF σ t name K f k e = bI (fnN σ t name e K)
  | k + 1, e, h => by
    show upd (ffF σ t name K f k) k _ e = _
    by_cases q : e = k
    · rw [q, pk_us]
    · rw [pk_un q]; exact ffF_at (by omega)
abbrev caS (σ : MS) (t : Nat) (name : Int32) (k : Nat) : MS := st (st σ 30 (cdF σ t name (σ 30) k)) 31 (ffF σ t name k (σ 31) k)
-- the nearest: by the found ones (table 31)
abbrev tpP (σ : MS) (w : Nat) (v : Int32) (e : Nat) : Prop := ¬ σ 31 e = 0 ∧ tkN σ w e v w
def tpF (σ : MS) (w : Nat) (v : Int32) (f : Nat → Int32) : Nat → Nat → Int32
  | 0 => f
  | k + 1 => upd (tpF σ w v f k) k (bI (tpP σ w v k))
theorem tpF_at {σ : MS} {w : Nat} {v : Int32} {f : Nat → Int32} : ∀ {k e : Nat}, e < k → tpF σ w v f k e = bI (tpP σ w v e)
  | k + 1, e, h => by
    show upd (tpF σ w v f k) k _ e = _
    by_cases q : e = k
    · rw [q, pk_us]
    · rw [pk_un q]; exact tpF_at (by omega)
abbrev nqP (σ : MS) (w : Nat) (v : Int32) (e o : Nat) : Prop := o = e ∨ ¬ tpP σ w v o ∨ nrN σ e o v (plN σ w e o v)
def nub (σ : MS) (w : Nat) (v : Int32) (e n : Nat) : Bool := decide (tpP σ w v e ∧ ∀ o, o < n → nqP σ w v e o)
abbrev nuN (σ : MS) (w : Nat) (v : Int32) (e n : Nat) : Prop := nub σ w v e n = true
theorem nuN_def {σ : MS} {w : Nat} {v : Int32} {e n : Nat} : nuN σ w v e n ↔ (tpP σ w v e ∧ ∀ o, o < n → nqP σ w v e o) := decide_eq_true_iff
theorem nuN_0 {σ : MS} {w : Nat} {v : Int32} {e : Nat} : bI (tpP σ w v e) = bI (nuN σ w v e 0) := bI_c ⟨fun h => nuN_def.mpr ⟨h, fun j hj => absurd hj (Nat.not_lt_zero j)⟩, fun h => (nuN_def.mp h).1⟩
theorem nuN_s {σ : MS} {w : Nat} {v : Int32} {e k : Nat} : bI (nuN σ w v e k ∧ nqP σ w v e k) = bI (nuN σ w v e (k + 1)) := by
  refine bI_c ⟨fun q => nuN_def.mpr ⟨(nuN_def.mp q.1).1, fun j hj => ?_⟩, fun q => ⟨nuN_def.mpr ⟨(nuN_def.mp q).1, fun j hj => (nuN_def.mp q).2 j (by omega)⟩, (nuN_def.mp q).2 k (Nat.lt_succ_self _)⟩⟩
  rcases Nat.lt_or_ge j k with h1 | h1
  · exact (nuN_def.mp q.1).2 j h1
  · rw [show j = k by omega]; exact q.2
def smb (σ : MS) (w : Nat) (v : Int32) (n : Nat) : Bool := decide (∃ e, e < n ∧ tpP σ w v e)
abbrev smN (σ : MS) (w : Nat) (v : Int32) (n : Nat) : Prop := smb σ w v n = true
theorem smN_def {σ : MS} {w : Nat} {v : Int32} {n : Nat} : smN σ w v n ↔ (∃ e, e < n ∧ tpP σ w v e) := decide_eq_true_iff
theorem smN_0 {σ : MS} {w : Nat} {v : Int32} : (0 : Int32) = bI (smN σ w v 0) := (bI_f (fun h => by obtain ⟨e, h1, _⟩ := smN_def.mp h; exact absurd h1 (Nat.not_lt_zero e))).symm
theorem smN_s {σ : MS} {w : Nat} {v : Int32} {k : Nat} : bI (smN σ w v k ∨ tpP σ w v k) = bI (smN σ w v (k + 1)) := by
  refine bI_c ⟨fun q => smN_def.mpr ?_, fun q => ?_⟩
  · rcases q with q | q
    · obtain ⟨e, h1, h2⟩ := smN_def.mp q; exact ⟨e, by omega, h2⟩
    · exact ⟨k, by omega, q⟩
  · obtain ⟨e, h1, h2⟩ := smN_def.mp q
    rcases Nat.lt_or_ge e k with h3 | h3
    · exact Or.inl (smN_def.mpr ⟨e, h3, h2⟩)
    · rw [show e = k by omega] at h2; exact Or.inr h2
def fdF (σ : MS) (w : Nat) (v : Int32) (K : Nat) : Nat → Int32
  | 0 => -1
  | e + 1 => if nuN σ w v e K then (if fdF σ w v K e = -1 then nI e else -2) else fdF σ w v K e
def nrA (σ : MS) (w k : Nat) (v : Int32) : Int32 := if smN σ w v k ∧ fdF σ w v k k = -1 then -2 else fdF σ w v k k
abbrev nrS (σ : MS) (w k : Nat) (v : Int32) : MS := st σ 32 (tpF σ w v (σ 32) k)

theorem dX8_clear_0 : decode cX8_clear 0 = .ok (.aload_n 0, 1) := by decide +kernel
theorem dX8_clear_1 : decode cX8_clear 1 = .ok (.iconst 0, 1) := by decide +kernel
theorem dX8_clear_2 : decode cX8_clear 2 = .ok (.putfield 90, 3) := by decide +kernel
theorem dX8_clear_5 : decode cX8_clear 5 = .ok (.aload_n 0, 1) := by decide +kernel
theorem dX8_clear_6 : decode cX8_clear 6 = .ok (.getfield 119, 3) := by decide +kernel
theorem dX8_clear_9 : decode cX8_clear 9 = .ok (.istore_n 1, 1) := by decide +kernel
theorem dX8_clear_10 : decode cX8_clear 10 = .ok (.aload_n 0, 1) := by decide +kernel
theorem dX8_clear_11 : decode cX8_clear 11 = .ok (.iconst 0, 1) := by decide +kernel
theorem dX8_clear_12 : decode cX8_clear 12 = .ok (.putfield 94, 3) := by decide +kernel
theorem dX8_clear_15 : decode cX8_clear 15 = .ok (.aload_n 0, 1) := by decide +kernel
theorem dX8_clear_16 : decode cX8_clear 16 = .ok (.iconst 0, 1) := by decide +kernel
theorem dX8_clear_17 : decode cX8_clear 17 = .ok (.putfield 119, 3) := by decide +kernel
theorem dX8_clear_20 : decode cX8_clear 20 = .ok (.aload_n 0, 1) := by decide +kernel
theorem dX8_clear_21 : decode cX8_clear 21 = .ok (.iconst 0, 1) := by decide +kernel
theorem dX8_clear_22 : decode cX8_clear 22 = .ok (.putfield 122, 3) := by decide +kernel
theorem dX8_clear_25 : decode cX8_clear 25 = .ok (.aload_n 0, 1) := by decide +kernel
theorem dX8_clear_26 : decode cX8_clear 26 = .ok (.iconst 0, 1) := by decide +kernel
theorem dX8_clear_27 : decode cX8_clear 27 = .ok (.putfield 196, 3) := by decide +kernel
theorem dX8_clear_30 : decode cX8_clear 30 = .ok (.aload_n 0, 1) := by decide +kernel
theorem dX8_clear_31 : decode cX8_clear 31 = .ok (.iconst 0, 1) := by decide +kernel
theorem dX8_clear_32 : decode cX8_clear 32 = .ok (.putfield 227, 3) := by decide +kernel
theorem dX8_clear_35 : decode cX8_clear 35 = .ok (.aload_n 0, 1) := by decide +kernel
theorem dX8_clear_36 : decode cX8_clear 36 = .ok (.iconst 0, 1) := by decide +kernel
theorem dX8_clear_37 : decode cX8_clear 37 = .ok (.putfield 101, 3) := by decide +kernel
theorem dX8_clear_40 : decode cX8_clear 40 = .ok (.iconst 0, 1) := by decide +kernel
theorem dX8_clear_41 : decode cX8_clear 41 = .ok (.istore_n 2, 1) := by decide +kernel
theorem dX8_clear_42 : decode cX8_clear 42 = .ok (.iload_n 2, 1) := by decide +kernel
theorem dX8_clear_43 : decode cX8_clear 43 = .ok (.bipush 26, 2) := by decide +kernel
theorem dX8_clear_45 : decode cX8_clear 45 = .ok (.if_icmp .ge 16, 3) := by decide +kernel
theorem dX8_clear_61 : decode cX8_clear 61 = .ok (.iload_n 1, 1) := by decide +kernel
theorem dX8_clear_62 : decode cX8_clear 62 = .ok (.ireturn, 1) := by decide +kernel
theorem dX8_clear_48 : decode cX8_clear 48 = .ok (.aload_n 0, 1) := by decide +kernel
theorem dX8_clear_49 : decode cX8_clear 49 = .ok (.getfield 72, 3) := by decide +kernel
theorem dX8_clear_52 : decode cX8_clear 52 = .ok (.iload_n 2, 1) := by decide +kernel
theorem dX8_clear_53 : decode cX8_clear 53 = .ok (.iconst 0, 1) := by decide +kernel
theorem dX8_clear_54 : decode cX8_clear 54 = .ok (.iastore, 1) := by decide +kernel
theorem dX8_clear_55 : decode cX8_clear 55 = .ok (.iinc 2 1, 3) := by decide +kernel
theorem dX8_clear_58 : decode cX8_clear 58 = .ok (.goto (-16), 3) := by decide +kernel
theorem dX8_candidates_0 : decode cX8_candidates 0 = .ok (.iconst 0, 1) := by decide +kernel
theorem dX8_candidates_1 : decode cX8_candidates 1 = .ok (.istore_n 3, 1) := by decide +kernel
theorem dX8_candidates_2 : decode cX8_candidates 2 = .ok (.iload_n 3, 1) := by decide +kernel
theorem dX8_candidates_3 : decode cX8_candidates 3 = .ok (.aload_n 0, 1) := by decide +kernel
theorem dX8_candidates_4 : decode cX8_candidates 4 = .ok (.getfield 119, 3) := by decide +kernel
theorem dX8_candidates_7 : decode cX8_candidates 7 = .ok (.if_icmp .ge 94, 3) := by decide +kernel
theorem dX8_candidates_101 : decode cX8_candidates 101 = .ok (.iconst 0, 1) := by decide +kernel
theorem dX8_candidates_102 : decode cX8_candidates 102 = .ok (.istore_n 3, 1) := by decide +kernel
theorem dX8_candidates_103 : decode cX8_candidates 103 = .ok (.iload_n 3, 1) := by decide +kernel
theorem dX8_candidates_104 : decode cX8_candidates 104 = .ok (.aload_n 0, 1) := by decide +kernel
theorem dX8_candidates_105 : decode cX8_candidates 105 = .ok (.getfield 119, 3) := by decide +kernel
theorem dX8_candidates_108 : decode cX8_candidates 108 = .ok (.if_icmp .ge 117, 3) := by decide +kernel
theorem dX8_candidates_225 : decode cX8_candidates 225 = .ok (.return_, 1) := by decide +kernel
theorem dX8_candidates_111 : decode cX8_candidates 111 = .ok (.aload_n 0, 1) := by decide +kernel
theorem q_710 : Cond.fieldLink "FieldMemberModel" 84 "FieldMemberModel" "isFound" "[Z" ∈ TT := tt_t (i := 710) (by decide +kernel) (by decide +kernel)
theorem dX8_candidates_112 : decode cX8_candidates 112 = .ok (.getfield 84, 3) := by decide +kernel
theorem dX8_candidates_115 : decode cX8_candidates 115 = .ok (.iload_n 3, 1) := by decide +kernel
theorem dX8_candidates_116 : decode cX8_candidates 116 = .ok (.aload_n 0, 1) := by decide +kernel
theorem q_709 : Cond.fieldLink "FieldMemberModel" 81 "FieldMemberModel" "isCandidate" "[Z" ∈ TT := tt_t (i := 709) (by decide +kernel) (by decide +kernel)
theorem dX8_candidates_117 : decode cX8_candidates 117 = .ok (.getfield 81, 3) := by decide +kernel
theorem dX8_candidates_120 : decode cX8_candidates 120 = .ok (.iload_n 3, 1) := by decide +kernel
theorem dX8_candidates_121 : decode cX8_candidates 121 = .ok (.baload, 1) := by decide +kernel
theorem dX8_candidates_122 : decode cX8_candidates 122 = .ok (.bastore, 1) := by decide +kernel
theorem dX8_candidates_123 : decode cX8_candidates 123 = .ok (.iconst 0, 1) := by decide +kernel
theorem dX8_candidates_124 : decode cX8_candidates 124 = .ok (.istore 4, 2) := by decide +kernel
theorem dX8_candidates_126 : decode cX8_candidates 126 = .ok (.iload 4, 2) := by decide +kernel
theorem dX8_candidates_128 : decode cX8_candidates 128 = .ok (.aload_n 0, 1) := by decide +kernel
theorem dX8_candidates_129 : decode cX8_candidates 129 = .ok (.getfield 119, 3) := by decide +kernel
theorem dX8_candidates_132 : decode cX8_candidates 132 = .ok (.if_icmp .ge 87, 3) := by decide +kernel
theorem dX8_candidates_219 : decode cX8_candidates 219 = .ok (.iinc 3 1, 3) := by decide +kernel
theorem dX8_candidates_222 : decode cX8_candidates 222 = .ok (.goto (-119), 3) := by decide +kernel
theorem dX8_candidates_186 : decode cX8_candidates 186 = .ok (.istore 5, 2) := by decide +kernel
theorem dX8_candidates_188 : decode cX8_candidates 188 = .ok (.aload_n 0, 1) := by decide +kernel
theorem dX8_candidates_189 : decode cX8_candidates 189 = .ok (.getfield 84, 3) := by decide +kernel
theorem dX8_candidates_192 : decode cX8_candidates 192 = .ok (.iload_n 3, 1) := by decide +kernel
theorem dX8_candidates_212 : decode cX8_candidates 212 = .ok (.bastore, 1) := by decide +kernel
theorem dX8_candidates_213 : decode cX8_candidates 213 = .ok (.iinc 4 1, 3) := by decide +kernel
theorem dX8_candidates_216 : decode cX8_candidates 216 = .ok (.goto (-90), 3) := by decide +kernel
theorem dX8_candidates_193 : decode cX8_candidates 193 = .ok (.aload_n 0, 1) := by decide +kernel
theorem dX8_candidates_194 : decode cX8_candidates 194 = .ok (.getfield 84, 3) := by decide +kernel
theorem dX8_candidates_197 : decode cX8_candidates 197 = .ok (.iload_n 3, 1) := by decide +kernel
theorem dX8_candidates_198 : decode cX8_candidates 198 = .ok (.baload, 1) := by decide +kernel
theorem dX8_candidates_199 : decode cX8_candidates 199 = .ok (.ifCond .eq 12, 3) := by decide +kernel
theorem dX8_candidates_211 : decode cX8_candidates 211 = .ok (.iconst 0, 1) := by decide +kernel
theorem dX8_candidates_202 : decode cX8_candidates 202 = .ok (.iload 5, 2) := by decide +kernel
theorem dX8_candidates_204 : decode cX8_candidates 204 = .ok (.ifCond .ne 7, 3) := by decide +kernel
theorem dX8_candidates_207 : decode cX8_candidates 207 = .ok (.iconst 1, 1) := by decide +kernel
theorem dX8_candidates_208 : decode cX8_candidates 208 = .ok (.goto 4, 3) := by decide +kernel
theorem dX8_candidates_135 : decode cX8_candidates 135 = .ok (.aload_n 0, 1) := by decide +kernel
theorem dX8_candidates_136 : decode cX8_candidates 136 = .ok (.getfield 81, 3) := by decide +kernel
theorem dX8_candidates_139 : decode cX8_candidates 139 = .ok (.iload 4, 2) := by decide +kernel
theorem dX8_candidates_141 : decode cX8_candidates 141 = .ok (.baload, 1) := by decide +kernel
theorem dX8_candidates_142 : decode cX8_candidates 142 = .ok (.ifCond .eq 43, 3) := by decide +kernel
theorem dX8_candidates_185 : decode cX8_candidates 185 = .ok (.iconst 0, 1) := by decide +kernel
theorem dX8_candidates_145 : decode cX8_candidates 145 = .ok (.iload 4, 2) := by decide +kernel
theorem dX8_candidates_147 : decode cX8_candidates 147 = .ok (.iload_n 3, 1) := by decide +kernel
theorem dX8_candidates_148 : decode cX8_candidates 148 = .ok (.if_icmp .eq 37, 3) := by decide +kernel
theorem dX8_candidates_151 : decode cX8_candidates 151 = .ok (.aload_n 0, 1) := by decide +kernel
theorem dX8_candidates_152 : decode cX8_candidates 152 = .ok (.aload_n 0, 1) := by decide +kernel
theorem dX8_candidates_153 : decode cX8_candidates 153 = .ok (.getfield 29, 3) := by decide +kernel
theorem dX8_candidates_156 : decode cX8_candidates 156 = .ok (.iload 4, 2) := by decide +kernel
theorem dX8_candidates_158 : decode cX8_candidates 158 = .ok (.iaload, 1) := by decide +kernel
theorem dX8_candidates_159 : decode cX8_candidates 159 = .ok (.aload_n 0, 1) := by decide +kernel
theorem dX8_candidates_160 : decode cX8_candidates 160 = .ok (.getfield 29, 3) := by decide +kernel
theorem dX8_candidates_163 : decode cX8_candidates 163 = .ok (.iload_n 3, 1) := by decide +kernel
theorem dX8_candidates_164 : decode cX8_candidates 164 = .ok (.iaload, 1) := by decide +kernel
theorem dX8_candidates_165 : decode cX8_candidates 165 = .ok (.invokevirtual 126, 3) := by decide +kernel
theorem dX8_candidates_168 : decode cX8_candidates 168 = .ok (.ifCond .eq 17, 3) := by decide +kernel
theorem dX8_candidates_171 : decode cX8_candidates 171 = .ok (.aload_n 0, 1) := by decide +kernel
theorem dX8_candidates_172 : decode cX8_candidates 172 = .ok (.iload 4, 2) := by decide +kernel
theorem dX8_candidates_174 : decode cX8_candidates 174 = .ok (.iload_n 3, 1) := by decide +kernel
theorem dX8_candidates_175 : decode cX8_candidates 175 = .ok (.invokevirtual 178, 3) := by decide +kernel
theorem dX8_candidates_178 : decode cX8_candidates 178 = .ok (.ifCond .eq 7, 3) := by decide +kernel
theorem dX8_candidates_181 : decode cX8_candidates 181 = .ok (.iconst 1, 1) := by decide +kernel
theorem dX8_candidates_182 : decode cX8_candidates 182 = .ok (.goto 4, 3) := by decide +kernel
theorem dX8_candidates_48 : decode cX8_candidates 48 = .ok (.istore 4, 2) := by decide +kernel
theorem dX8_candidates_50 : decode cX8_candidates 50 = .ok (.aload_n 0, 1) := by decide +kernel
theorem dX8_candidates_51 : decode cX8_candidates 51 = .ok (.getfield 81, 3) := by decide +kernel
theorem dX8_candidates_54 : decode cX8_candidates 54 = .ok (.iload_n 3, 1) := by decide +kernel
theorem dX8_candidates_94 : decode cX8_candidates 94 = .ok (.bastore, 1) := by decide +kernel
theorem dX8_candidates_95 : decode cX8_candidates 95 = .ok (.iinc 3 1, 3) := by decide +kernel
theorem dX8_candidates_98 : decode cX8_candidates 98 = .ok (.goto (-96), 3) := by decide +kernel
theorem dX8_candidates_55 : decode cX8_candidates 55 = .ok (.iload 4, 2) := by decide +kernel
theorem dX8_candidates_57 : decode cX8_candidates 57 = .ok (.ifCond .eq 36, 3) := by decide +kernel
theorem dX8_candidates_93 : decode cX8_candidates 93 = .ok (.iconst 0, 1) := by decide +kernel
theorem dX8_candidates_60 : decode cX8_candidates 60 = .ok (.aload_n 0, 1) := by decide +kernel
theorem dX8_candidates_61 : decode cX8_candidates 61 = .ok (.getfield 29, 3) := by decide +kernel
theorem dX8_candidates_64 : decode cX8_candidates 64 = .ok (.iload_n 3, 1) := by decide +kernel
theorem dX8_candidates_65 : decode cX8_candidates 65 = .ok (.iaload, 1) := by decide +kernel
theorem dX8_candidates_66 : decode cX8_candidates 66 = .ok (.iload_n 1, 1) := by decide +kernel
theorem dX8_candidates_67 : decode cX8_candidates 67 = .ok (.if_icmp .eq 22, 3) := by decide +kernel
theorem dX8_candidates_89 : decode cX8_candidates 89 = .ok (.iconst 1, 1) := by decide +kernel
theorem dX8_candidates_90 : decode cX8_candidates 90 = .ok (.goto 4, 3) := by decide +kernel
theorem dX8_candidates_70 : decode cX8_candidates 70 = .ok (.aload_n 0, 1) := by decide +kernel
theorem dX8_candidates_71 : decode cX8_candidates 71 = .ok (.getfield 41, 3) := by decide +kernel
theorem dX8_candidates_74 : decode cX8_candidates 74 = .ok (.iload_n 3, 1) := by decide +kernel
theorem dX8_candidates_75 : decode cX8_candidates 75 = .ok (.iaload, 1) := by decide +kernel
theorem dX8_candidates_76 : decode cX8_candidates 76 = .ok (.iconst 4, 1) := by decide +kernel
theorem dX8_candidates_77 : decode cX8_candidates 77 = .ok (.iand, 1) := by decide +kernel
theorem dX8_candidates_78 : decode cX8_candidates 78 = .ok (.ifCond .ne 15, 3) := by decide +kernel
theorem dX8_candidates_81 : decode cX8_candidates 81 = .ok (.aload_n 0, 1) := by decide +kernel
theorem dX8_candidates_82 : decode cX8_candidates 82 = .ok (.iload_n 3, 1) := by decide +kernel
theorem dX8_candidates_83 : decode cX8_candidates 83 = .ok (.invokevirtual 175, 3) := by decide +kernel
theorem dX8_candidates_86 : decode cX8_candidates 86 = .ok (.ifCond .ne 7, 3) := by decide +kernel
theorem dX8_candidates_10 : decode cX8_candidates 10 = .ok (.aload_n 0, 1) := by decide +kernel
theorem dX8_candidates_11 : decode cX8_candidates 11 = .ok (.getfield 26, 3) := by decide +kernel
theorem dX8_candidates_14 : decode cX8_candidates 14 = .ok (.iload_n 3, 1) := by decide +kernel
theorem dX8_candidates_15 : decode cX8_candidates 15 = .ok (.baload, 1) := by decide +kernel
theorem dX8_candidates_16 : decode cX8_candidates 16 = .ok (.ifCond .eq 31, 3) := by decide +kernel
theorem dX8_candidates_47 : decode cX8_candidates 47 = .ok (.iconst 0, 1) := by decide +kernel
theorem dX8_candidates_19 : decode cX8_candidates 19 = .ok (.aload_n 0, 1) := by decide +kernel
theorem dX8_candidates_20 : decode cX8_candidates 20 = .ok (.getfield 32, 3) := by decide +kernel
theorem dX8_candidates_23 : decode cX8_candidates 23 = .ok (.iload_n 3, 1) := by decide +kernel
theorem dX8_candidates_24 : decode cX8_candidates 24 = .ok (.iaload, 1) := by decide +kernel
theorem dX8_candidates_25 : decode cX8_candidates 25 = .ok (.iload_n 2, 1) := by decide +kernel
theorem dX8_candidates_26 : decode cX8_candidates 26 = .ok (.if_icmp .ne 21, 3) := by decide +kernel
theorem dX8_candidates_29 : decode cX8_candidates 29 = .ok (.aload_n 0, 1) := by decide +kernel
theorem dX8_candidates_30 : decode cX8_candidates 30 = .ok (.iload_n 1, 1) := by decide +kernel
theorem dX8_candidates_31 : decode cX8_candidates 31 = .ok (.aload_n 0, 1) := by decide +kernel
theorem dX8_candidates_32 : decode cX8_candidates 32 = .ok (.getfield 29, 3) := by decide +kernel
theorem dX8_candidates_35 : decode cX8_candidates 35 = .ok (.iload_n 3, 1) := by decide +kernel
theorem dX8_candidates_36 : decode cX8_candidates 36 = .ok (.iaload, 1) := by decide +kernel
theorem dX8_candidates_37 : decode cX8_candidates 37 = .ok (.invokevirtual 126, 3) := by decide +kernel
theorem dX8_candidates_40 : decode cX8_candidates 40 = .ok (.ifCond .eq 7, 3) := by decide +kernel
theorem dX8_candidates_43 : decode cX8_candidates 43 = .ok (.iconst 1, 1) := by decide +kernel
theorem dX8_candidates_44 : decode cX8_candidates 44 = .ok (.goto 4, 3) := by decide +kernel
set_option maxHeartbeats 4000000 in
set_option maxRecDepth 100000 in
theorem m_clear (l : Launch) (D : va_G) (G : Nat → ClassId) (mo : Nat) (ad : Nat → Nat) (σ : MS) (τ : Nat → Int64) (sz : Nat) (k : Nat) (h7 : σ 7 0 = nI k) (hk60 : k ≤ 60) : Met l yX8_clear (ww yX8_clear cX8_clear 3 (some .int)) (rmD 0) (muP D G sz mo ad (σ, τ) [.ref mo]) (muQi D G mo ad (muA G mo ad (σ, τ) sz) (oClear σ τ k).1 (oClear σ τ k).2) 0 0 (muA G mo ad (σ, τ) sz) := by
  refine Met.ofW (cc := cX8_clear) (maxL := 3) (ret := (some .int)) (by decide) rfl ?_
  intro p e s m args below meth c s₁ B hml hv
  obtain ⟨rfl, hsz, hP, hK, hD0⟩ := hv
  have hx := B.exec
  have hb := B.bytes
  have hr := B.returns
  have hts : ∀ w ∈ TT, w.before _ s = true := fun w h => atoms_spec (ws := ww yX8_clear cX8_clear 3 (some .int)) B.pre w (List.mem_cons_of_mem _ h)
  have hown : s.vm.findClass RX8 = some m.cls := findClass_of_methodNamed B.named
  have hlocks := B.notSynchronized
  subst hsz
  have hD : va_D (muA G mo ad (σ, τ) s.heap.size) (mW G mo ad σ τ) := hD0.self
  generalize hAe : muA G mo ad (σ, τ) s.heap.size = A at hD ⊢
  have hA : ∀ q : Nat, s.heap.size ≤ q → A q := fun q h => by rw [← hAe]; exact Or.inr h
  have hS : va_S A s.heap s.heap [] := va_S.rf
  have hP : va_P D vwCl (mW G mo ad σ τ) s.heap := hP
  have hl := lv_entry ([.ref mo]) (n := 3) (Nat.le_of_ble_eq_true rfl)
  rw [lg_entry_eq]
  generalize (lg_sl ([.ref mo]) ++ List.replicate (3 - (lg_sl ([.ref mo])).length) Slot.unset).toArray = ls at hl ⊢
  have hl : lv_has ls 3 [(0, .ref mo)] := hl
  refine lv_aload_n hx hb dX8_clear_0 rfl (lv_at hl 0 rfl) ?_
  refine lv_iconst (v := 0) hx hb dX8_clear_1 (by decide) ?_
  refine va_put (D := D) (ci := 8) (v := .int 0) (ty := .int) (C := RX8) (T := TX8) (N := 33) hx hb hts iX8 tyX8 tyX8_ok nmX8 hown hK.1 hP hD hS 0 rfl rfl 0 (by decide) (hts _ q_679) (fun _ h9 => h9) rfl (by decide +kernel) rfl rfl (Nat.le_of_ble_eq_true rfl) dX8_clear_2 (fun H locs hP hD hS => ?_)
  have hP : va_P D vwCl (mW G mo ad (su σ 0 (0) (0)) (τ)) H := hP
  have hD : va_D A (mW G mo ad (su σ 0 (0) (0)) (τ)) := hD
  refine lv_aload_n hx hb dX8_clear_5 rfl (lv_at hl 0 rfl) ?_
  refine va_get (D := D) (ci := 8) (v := .int (σ 7 0)) (C := RX8) (T := TX8) (N := 33) hx hb hts iX8 hown hK.1 hP 0 rfl rfl 7 (by decide) (hts _ q_686) (fun _ h9 => h9) rfl dX8_clear_6 ?_
  refine W.eq (g2 := F0 m 9 ls [.int (nI k)]) (congrArg (fun z9 => F0 m 9 ls [.int z9]) h7) ?_
  refine lv_istore_n (lv' := [(1, .int (nI k)), (0, .ref mo)]) hx hb dX8_clear_9 rfl hl (by decide) rfl (fun ls hl => ?_)
  refine lv_aload_n hx hb dX8_clear_10 rfl (lv_at hl 1 rfl) ?_
  refine lv_iconst (v := 0) hx hb dX8_clear_11 (by decide) ?_
  refine va_put (D := D) (ci := 8) (v := .int 0) (ty := .int) (C := RX8) (T := TX8) (N := 33) hx hb hts iX8 tyX8 tyX8_ok nmX8 hown hK.1 hP hD hS 0 rfl rfl 1 (by decide) (hts _ q_680) (fun _ h9 => h9) rfl (by decide +kernel) rfl rfl (Nat.le_of_ble_eq_true rfl) dX8_clear_12 (fun H locs hP hD hS => ?_)
  have hP : va_P D vwCl (mW G mo ad (su (su σ 0 (0) (0)) 1 (0) (0)) (τ)) H := hP
  have hD : va_D A (mW G mo ad (su (su σ 0 (0) (0)) 1 (0) (0)) (τ)) := hD
  refine lv_aload_n hx hb dX8_clear_15 rfl (lv_at hl 1 rfl) ?_
  refine lv_iconst (v := 0) hx hb dX8_clear_16 (by decide) ?_
  refine va_put (D := D) (ci := 8) (v := .int 0) (ty := .int) (C := RX8) (T := TX8) (N := 33) hx hb hts iX8 tyX8 tyX8_ok nmX8 hown hK.1 hP hD hS 0 rfl rfl 7 (by decide) (hts _ q_686) (fun _ h9 => h9) rfl (by decide +kernel) rfl rfl (Nat.le_of_ble_eq_true rfl) dX8_clear_17 (fun H locs hP hD hS => ?_)
  have hP : va_P D vwCl (mW G mo ad (su (su (su σ 0 (0) (0)) 1 (0) (0)) 7 (0) (0)) (τ)) H := hP
  have hD : va_D A (mW G mo ad (su (su (su σ 0 (0) (0)) 1 (0) (0)) 7 (0) (0)) (τ)) := hD
  refine lv_aload_n hx hb dX8_clear_20 rfl (lv_at hl 1 rfl) ?_
  refine lv_iconst (v := 0) hx hb dX8_clear_21 (by decide) ?_
  refine va_put (D := D) (ci := 8) (v := .int 0) (ty := .boolean) (C := RX8) (T := TX8) (N := 33) hx hb hts iX8 tyX8 tyX8_ok nmX8 hown hK.1 hP hD hS 0 rfl rfl 21 (by decide) (hts _ q_700) (fun _ h9 => h9) rfl (by decide +kernel) rfl rfl (Nat.le_of_ble_eq_true rfl) dX8_clear_22 (fun H locs hP hD hS => ?_)
  have hP : va_P D vwCl (mW G mo ad (su (su (su (su σ 0 (0) (0)) 1 (0) (0)) 7 (0) (0)) 21 (0) (0)) (τ)) H := hP
  have hD : va_D A (mW G mo ad (su (su (su (su σ 0 (0) (0)) 1 (0) (0)) 7 (0) (0)) 21 (0) (0)) (τ)) := hD
  refine lv_aload_n hx hb dX8_clear_25 rfl (lv_at hl 1 rfl) ?_
  refine lv_iconst (v := 0) hx hb dX8_clear_26 (by decide) ?_
  refine va_put (D := D) (ci := 8) (v := .int 0) (ty := .int) (C := RX8) (T := TX8) (N := 33) hx hb hts iX8 tyX8 tyX8_ok nmX8 hown hK.1 hP hD hS 0 rfl rfl 22 (by decide) (hts _ q_701) (fun _ h9 => h9) rfl (by decide +kernel) rfl rfl (Nat.le_of_ble_eq_true rfl) dX8_clear_27 (fun H locs hP hD hS => ?_)
  have hP : va_P D vwCl (mW G mo ad (su (su (su (su (su σ 0 (0) (0)) 1 (0) (0)) 7 (0) (0)) 21 (0) (0)) 22 (0) (0)) (τ)) H := hP
  have hD : va_D A (mW G mo ad (su (su (su (su (su σ 0 (0) (0)) 1 (0) (0)) 7 (0) (0)) 21 (0) (0)) 22 (0) (0)) (τ)) := hD
  refine lv_aload_n hx hb dX8_clear_30 rfl (lv_at hl 1 rfl) ?_
  refine lv_iconst (v := 0) hx hb dX8_clear_31 (by decide) ?_
  refine va_put (D := D) (ci := 8) (v := .int 0) (ty := .int) (C := RX8) (T := TX8) (N := 33) hx hb hts iX8 tyX8 tyX8_ok nmX8 hown hK.1 hP hD hS 0 rfl rfl 25 (by decide) (hts _ q_704) (fun _ h9 => h9) rfl (by decide +kernel) rfl rfl (Nat.le_of_ble_eq_true rfl) dX8_clear_32 (fun H locs hP hD hS => ?_)
  have hP : va_P D vwCl (mW G mo ad (su (su (su (su (su (su σ 0 (0) (0)) 1 (0) (0)) 7 (0) (0)) 21 (0) (0)) 22 (0) (0)) 25 (0) (0)) (τ)) H := hP
  have hD : va_D A (mW G mo ad (su (su (su (su (su (su σ 0 (0) (0)) 1 (0) (0)) 7 (0) (0)) 21 (0) (0)) 22 (0) (0)) 25 (0) (0)) (τ)) := hD
  refine lv_aload_n hx hb dX8_clear_35 rfl (lv_at hl 1 rfl) ?_
  refine lv_iconst (v := 0) hx hb dX8_clear_36 (by decide) ?_
  refine va_put (D := D) (ci := 8) (v := .int 0) (ty := .int) (C := RX8) (T := TX8) (N := 33) hx hb hts iX8 tyX8 tyX8_ok nmX8 hown hK.1 hP hD hS 0 rfl rfl 26 (by decide) (hts _ q_705) (fun _ h9 => h9) rfl (by decide +kernel) rfl rfl (Nat.le_of_ble_eq_true rfl) dX8_clear_37 (fun H locs hP hD hS => ?_)
  have hP : va_P D vwCl (mW G mo ad (su (su (su (su (su (su (su σ 0 (0) (0)) 1 (0) (0)) 7 (0) (0)) 21 (0) (0)) 22 (0) (0)) 25 (0) (0)) 26 (0) (0)) (τ)) H := hP
  have hD : va_D A (mW G mo ad (su (su (su (su (su (su (su σ 0 (0) (0)) 1 (0) (0)) 7 (0) (0)) 21 (0) (0)) 22 (0) (0)) 25 (0) (0)) 26 (0) (0)) (τ)) := hD
  refine lv_iconst (v := 0) hx hb dX8_clear_40 (by decide) ?_
  refine lv_istore_n (lv' := [(2, .int 0), (1, .int (nI k)), (0, .ref mo)]) hx hb dX8_clear_41 rfl hl (by decide) rfl (fun ls hl => ?_)
  refine w_forM (N := 26) 42 (L := fun q9 ls H locs => lv_has ls 3 [(2, .int (nI q9)), (1, .int (nI k)), (0, .ref mo)] ∧ va_P D vwCl (mW G mo ad (st (su (su (su (su (su (su (su σ 0 (0) (0)) 1 (0) (0)) 7 (0) (0)) 21 (0) (0)) 22 (0) (0)) 25 (0) (0)) 26 (0) (0)) 27 (zeF (σ 27) q9)) (τ)) H ∧ va_D A (mW G mo ad (st (su (su (su (su (su (su (su σ 0 (0) (0)) 1 (0) (0)) 7 (0) (0)) 21 (0) (0)) 22 (0) (0)) 25 (0) (0)) 26 (0) (0)) 27 (zeF (σ 27) q9)) (τ)) ∧ va_S A s.heap H locs) (fun k9 ls H locs hk hL ih42 => ?_) 0 ls _ _ (by omega) ⟨hl, hP, hD, hS⟩
  obtain ⟨hl, hP, hD, hS⟩ := hL
  have hl : lv_has ls 3 [(2, .int (nI k9)), (1, .int (nI k)), (0, .ref mo)] := hl
  refine lv_iload_n hx hb dX8_clear_42 rfl (lv_at hl 0 rfl) ?_
  refine lv_bipush (v := 26) hx hb dX8_clear_43 (by decide) ?_
  refine lv_icmp_ge (tgt := 61) hx hb dX8_clear_45 (by decide) (fun c1 => ?_) (fun c1 => ?_)
  · -- 45 taken
    have c1 : 26 ≤ k9 := (nI_leI (a := 26) (b := k9) (by omega) (by omega)).mp (by have h8 := c1; exact h8)
    obtain rfl : 26 = k9 := by omega
    have hP : va_P D vwCl (mW G mo ad (st (su (su (su (su (su (su (su σ 0 (0) (0)) 1 (0) (0)) 7 (0) (0)) 21 (0) (0)) 22 (0) (0)) 25 (0) (0)) 26 (0) (0)) 27 (zeF (σ 27) 26)) (τ)) H := hP
    have hD : va_D A (mW G mo ad (st (su (su (su (su (su (su (su σ 0 (0) (0)) 1 (0) (0)) 7 (0) (0)) 21 (0) (0)) 22 (0) (0)) 25 (0) (0)) 26 (0) (0)) 27 (zeF (σ 27) 26)) (τ)) := hD
    refine lv_iload_n hx hb dX8_clear_61 rfl (lv_at hl 1 rfl) ?_
    have ho : oClear σ τ k = (nI k, st (su (su (su (su (su (su (su σ 0 (0) (0)) 1 (0) (0)) 7 (0) (0)) 21 (0) (0)) 22 (0) (0)) 25 (0) (0)) 26 (0) (0)) 27 (zeF (σ 27) 26), τ) := rfl
    exact mu_iret (v0 := nI k) (z := (st (su (su (su (su (su (su (su σ 0 (0) (0)) 1 (0) (0)) 7 (0) (0)) 21 (0) (0)) 22 (0) (0)) 25 (0) (0)) 26 (0) (0)) 27 (zeF (σ 27) 26), τ)) hx hb hr hlocks hP hD hS dX8_clear_62 (by rw [ho]) (by rw [ho])
  · -- 45 not
    have c1 : ¬ 26 ≤ k9 := fun h9 => c1 (by exact (nI_leI (a := 26) (b := k9) (by omega) (by omega)).mpr h9)
    refine lv_aload_n hx hb dX8_clear_48 rfl (lv_at hl 2 rfl) ?_
    refine va_get (D := D) (ci := 8) (v := .ref ((ad 27))) (C := RX8) (T := TX8) (N := 33) hx hb hts iX8 hown hK.1 hP 0 rfl rfl 27 (by decide) (hts _ q_706) (fun _ h9 => h9) rfl dX8_clear_49 ?_
    refine lv_iload_n hx hb dX8_clear_52 rfl (lv_at hl 0 rfl) ?_
    refine lv_iconst (v := 0) hx hb dX8_clear_53 (by decide) ?_
    refine iast_n hx hb hK.1 hP hD hS 21 0 rfl rfl (k9) rfl (by omega) (by decide) dX8_clear_54 (fun H locs hP hD hS => ?_)
    have hP : va_P D vwCl (mW G mo ad (st (su (su (su (su (su (su (su σ 0 (0) (0)) 1 (0) (0)) 7 (0) (0)) 21 (0) (0)) 22 (0) (0)) 25 (0) (0)) 26 (0) (0)) 27 (upd (zeF (σ 27) k9) (k9) (0))) (τ)) H := hP
    have hD : va_D A (mW G mo ad (st (su (su (su (su (su (su (su σ 0 (0) (0)) 1 (0) (0)) 7 (0) (0)) 21 (0) (0)) 22 (0) (0)) 25 (0) (0)) 26 (0) (0)) 27 (upd (zeF (σ 27) k9) (k9) (0))) (τ)) := hD
    refine lv_iinc (v := nI (k9 + 1)) (lv' := [(2, .int (nI (k9 + 1))), (1, .int (nI k)), (0, .ref mo)]) hx hb dX8_clear_55 hl (k := 0) rfl (nI_1 _) (by decide) rfl (fun ls hl => ?_)
    refine lv_goto (tgt := 42) hx hb dX8_clear_58 (by decide) ?_
    exact ih42 _ _ _ (by omega) ⟨lv_sub hl [0, 1, 2] rfl, hP, hD, hS⟩
set_option maxHeartbeats 4000000 in
set_option maxRecDepth 100000 in
theorem m_candidates (l : Launch) (D : va_G) (G : Nat → ClassId) (mo : Nat) (ad : Nat → Nat) (σ : MS) (τ : Nat → Int64) (sz : Nat) (k : Nat) (h7 : σ 7 0 = nI k) (hk60 : k ≤ 60) (t : Nat) (ht : t < 12) (name : Int32) (heo : ∀ i, i < k → okE σ i) (hmo : ∀ i, i < k → okM σ i) (hb6 : ∀ i, σ 6 i = 0 ∨ σ 6 i = 1) : Met l yX8_candidates (ww yX8_candidates cX8_candidates 6 none) (rmD 2) (muP D G sz mo ad (σ, τ) [.ref mo, .int (nI t), .int name]) (muQv D G mo ad (muA G mo ad (σ, τ) sz) ((caS σ t name k, τ))) 0 0 (muA G mo ad (σ, τ) sz) := by
  refine Met.ofW (cc := cX8_candidates) (maxL := 6) (ret := none) (by decide) rfl ?_
  intro p e s m args below meth c s₁ B hml hv
  obtain ⟨rfl, hsz, hP, hK, hD0⟩ := hv
  have hx := B.exec
  have hb := B.bytes
  have hr := B.returns
  have hts : ∀ w ∈ TT, w.before _ s = true := fun w h => atoms_spec (ws := ww yX8_candidates cX8_candidates 6 none) B.pre w (List.mem_cons_of_mem _ h)
  have hown : s.vm.findClass RX8 = some m.cls := findClass_of_methodNamed B.named
  have hlocks := B.notSynchronized
  subst hsz
  have hD : va_D (muA G mo ad (σ, τ) s.heap.size) (mW G mo ad σ τ) := hD0.self
  generalize hAe : muA G mo ad (σ, τ) s.heap.size = A at hD ⊢
  have hA : ∀ q : Nat, s.heap.size ≤ q → A q := fun q h => by rw [← hAe]; exact Or.inr h
  have hS : va_S A s.heap s.heap [] := va_S.rf
  have hP : va_P D vwCl (mW G mo ad σ τ) s.heap := hP
  have hl := lv_entry ([.ref mo, .int (nI t), .int name]) (n := 6) (Nat.le_of_ble_eq_true rfl)
  rw [lg_entry_eq]
  generalize (lg_sl ([.ref mo, .int (nI t), .int name]) ++ List.replicate (6 - (lg_sl ([.ref mo, .int (nI t), .int name])).length) Slot.unset).toArray = ls at hl ⊢
  have hl : lv_has ls 6 [(0, .ref mo), (1, .int (nI t)), (2, .int name)] := hl
  refine lv_iconst (v := 0) hx hb dX8_candidates_0 (by decide) ?_
  refine lv_istore_n (lv' := [(3, .int 0), (0, .ref mo), (1, .int (nI t)), (2, .int name)]) hx hb dX8_candidates_1 rfl hl (by decide) rfl (fun ls hl => ?_)
  refine w_forM (N := k) 2 (L := fun q9 ls H locs => lv_has ls 6 [(3, .int (nI q9)), (0, .ref mo), (1, .int (nI t)), (2, .int name)] ∧ va_P D vwCl (mW G mo ad (st σ 30 (cdF σ t name (σ 30) q9)) (τ)) H ∧ va_D A (mW G mo ad (st σ 30 (cdF σ t name (σ 30) q9)) (τ)) ∧ va_S A s.heap H locs) (fun k9 ls H locs hk hL ih2 => ?_) 0 ls _ _ (by omega) ⟨hl, hP, hD, hS⟩
  obtain ⟨hl, hP, hD, hS⟩ := hL
  have hl : lv_has ls 6 [(3, .int (nI k9)), (0, .ref mo), (1, .int (nI t)), (2, .int name)] := hl
  refine lv_iload_n hx hb dX8_candidates_2 rfl (lv_at hl 0 rfl) ?_
  refine lv_aload_n hx hb dX8_candidates_3 rfl (lv_at hl 1 rfl) ?_
  refine va_get (D := D) (ci := 8) (v := .int (σ 7 0)) (C := RX8) (T := TX8) (N := 33) hx hb hts iX8 hown hK.1 hP 0 rfl rfl 7 (by decide) (hts _ q_686) (fun _ h9 => h9) rfl dX8_candidates_4 ?_
  refine lv_icmp_ge (tgt := 101) hx hb dX8_candidates_7 (by decide) (fun c1 => ?_) (fun c1 => ?_)
  · -- 7 taken
    have c1 : k ≤ k9 := (nI_leI (a := k) (b := k9) (by omega) (by omega)).mp (by have h8 := c1; rw [h7] at h8; exact h8)
    obtain rfl : k = k9 := by omega
    have hP : va_P D vwCl (mW G mo ad (st σ 30 (cdF σ t name (σ 30) k)) (τ)) H := hP
    have hD : va_D A (mW G mo ad (st σ 30 (cdF σ t name (σ 30) k)) (τ)) := hD
    refine lv_iconst (v := 0) hx hb dX8_candidates_101 (by decide) ?_
    refine lv_istore_n (lv' := [(3, .int 0), (0, .ref mo), (1, .int (nI t)), (2, .int name)]) hx hb dX8_candidates_102 rfl hl (by decide) rfl (fun ls hl => ?_)
    refine w_forM (N := k) 103 (L := fun q9 ls H locs => lv_has ls 6 [(3, .int (nI q9)), (0, .ref mo), (1, .int (nI t)), (2, .int name)] ∧ va_P D vwCl (mW G mo ad (st (st σ 30 (cdF σ t name (σ 30) k)) 31 (ffF σ t name k (σ 31) q9)) (τ)) H ∧ va_D A (mW G mo ad (st (st σ 30 (cdF σ t name (σ 30) k)) 31 (ffF σ t name k (σ 31) q9)) (τ)) ∧ va_S A s.heap H locs) (fun k8 ls H locs hk hL ih103 => ?_) 0 ls _ _ (by omega) ⟨hl, hP, hD, hS⟩
    obtain ⟨hl, hP, hD, hS⟩ := hL
    have hl : lv_has ls 6 [(3, .int (nI k8)), (0, .ref mo), (1, .int (nI t)), (2, .int name)] := hl
    refine lv_iload_n hx hb dX8_candidates_103 rfl (lv_at hl 0 rfl) ?_
    refine lv_aload_n hx hb dX8_candidates_104 rfl (lv_at hl 1 rfl) ?_
    refine va_get (D := D) (ci := 8) (v := .int (σ 7 0)) (C := RX8) (T := TX8) (N := 33) hx hb hts iX8 hown hK.1 hP 0 rfl rfl 7 (by decide) (hts _ q_686) (fun _ h9 => h9) rfl dX8_candidates_105 ?_
    refine lv_icmp_ge (tgt := 225) hx hb dX8_candidates_108 (by decide) (fun c2 => ?_) (fun c2 => ?_)
    · -- 108 taken
      have c2 : k ≤ k8 := (nI_leI (a := k) (b := k8) (by omega) (by omega)).mp (by have h8 := c2; rw [h7] at h8; exact h8)
      obtain rfl : k = k8 := by omega
      have hP : va_P D vwCl (mW G mo ad (st (st σ 30 (cdF σ t name (σ 30) k)) 31 (ffF σ t name k (σ 31) k)) (τ)) H := hP
      have hD : va_D A (mW G mo ad (st (st σ 30 (cdF σ t name (σ 30) k)) 31 (ffF σ t name k (σ 31) k)) (τ)) := hD
      have ho : (caS σ t name k, τ) = (st (st σ 30 (cdF σ t name (σ 30) k)) 31 (ffF σ t name k (σ 31) k), τ) := rfl
      exact mu_vret (z := (st (st σ 30 (cdF σ t name (σ 30) k)) 31 (ffF σ t name k (σ 31) k), τ)) hx hb hr hlocks hP hD hS dX8_candidates_225 (by rw [ho])
    · -- 108 not
      have c2 : ¬ k ≤ k8 := fun h9 => c2 (by rw [h7]; exact (nI_leI (a := k) (b := k8) (by omega) (by omega)).mpr h9)
      refine lv_aload_n hx hb dX8_candidates_111 rfl (lv_at hl 1 rfl) ?_
      refine va_get (D := D) (ci := 8) (v := .ref ((ad 31))) (C := RX8) (T := TX8) (N := 33) hx hb hts iX8 hown hK.1 hP 0 rfl rfl 31 (by decide) (hts _ q_710) (fun _ h9 => h9) rfl dX8_candidates_112 ?_
      refine lv_iload_n hx hb dX8_candidates_115 rfl (lv_at hl 0 rfl) ?_
      refine lv_aload_n hx hb dX8_candidates_116 rfl (lv_at hl 1 rfl) ?_
      refine va_get (D := D) (ci := 8) (v := .ref ((ad 30))) (C := RX8) (T := TX8) (N := 33) hx hb hts iX8 hown hK.1 hP 0 rfl rfl 30 (by decide) (hts _ q_709) (fun _ h9 => h9) rfl dX8_candidates_117 ?_
      refine lv_iload_n hx hb dX8_candidates_120 rfl (lv_at hl 0 rfl) ?_
      refine zald_n (f := cdF σ t name (σ 30) k) hx hb hK.1 hP 24 2 rfl rfl (k8) rfl (by omega) (by decide) dX8_candidates_121 ?_
      refine W.eq (g2 := F0 m 122 ls [.int (bI (canP σ t name k8)), .int (nI k8), .ref ((ad 31))]) (congrArg (fun z9 => F0 m 122 ls [.int z9, .int (nI k8), .ref ((ad 31))]) (cdF_at (by omega))) ?_
      refine zast_n hx hb hK.1 hP hD hS 25 2 rfl rfl (k8) rfl (by omega) (by decide) bI_b dX8_candidates_122 (fun H locs hP hD hS => ?_)
      have hP : va_P D vwCl (mW G mo ad (st (st σ 30 (cdF σ t name (σ 30) k)) 31 (upd (ffF σ t name k (σ 31) k8) (k8) (bI (canP σ t name k8)))) (τ)) H := hP
      have hD : va_D A (mW G mo ad (st (st σ 30 (cdF σ t name (σ 30) k)) 31 (upd (ffF σ t name k (σ 31) k8) (k8) (bI (canP σ t name k8)))) (τ)) := hD
      refine lv_iconst (v := 0) hx hb dX8_candidates_123 (by decide) ?_
      refine lv_istore (lv' := [(4, .int 0), (3, .int (nI k8)), (0, .ref mo), (1, .int (nI t)), (2, .int name)]) hx hb dX8_candidates_124 hl (by decide) rfl (fun ls hl => ?_)
      refine w_forM (N := k) 126 (L := fun q9 ls H locs => lv_has ls 6 [(4, .int (nI q9)), (3, .int (nI k8)), (0, .ref mo), (1, .int (nI t)), (2, .int name)] ∧ va_P D vwCl (mW G mo ad (st (st σ 30 (cdF σ t name (σ 30) k)) 31 (upd (ffF σ t name k (σ 31) k8) k8 (bI (fnN σ t name k8 q9)))) (τ)) H ∧ va_D A (mW G mo ad (st (st σ 30 (cdF σ t name (σ 30) k)) 31 (upd (ffF σ t name k (σ 31) k8) k8 (bI (fnN σ t name k8 q9)))) (τ)) ∧ va_S A s.heap H locs) (fun k9 ls H locs hk hL ih126 => ?_) 0 ls _ _ (by omega) ⟨hl, (by rw [← fnN_0]; exact hP), (by rw [← fnN_0]; exact hD), hS⟩
      obtain ⟨hl, hP, hD, hS⟩ := hL
      have hl : lv_has ls 6 [(4, .int (nI k9)), (3, .int (nI k8)), (0, .ref mo), (1, .int (nI t)), (2, .int name)] := hl
      refine lv_iload hx hb dX8_candidates_126 (lv_at hl 0 rfl) ?_
      refine lv_aload_n hx hb dX8_candidates_128 rfl (lv_at hl 2 rfl) ?_
      refine va_get (D := D) (ci := 8) (v := .int (σ 7 0)) (C := RX8) (T := TX8) (N := 33) hx hb hts iX8 hown hK.1 hP 0 rfl rfl 7 (by decide) (hts _ q_686) (fun _ h9 => h9) rfl dX8_candidates_129 ?_
      refine lv_icmp_ge (tgt := 219) hx hb dX8_candidates_132 (by decide) (fun c3 => ?_) (fun c3 => ?_)
      · -- 132 taken
        have c3 : k ≤ k9 := (nI_leI (a := k) (b := k9) (by omega) (by omega)).mp (by have h8 := c3; rw [h7] at h8; exact h8)
        obtain rfl : k = k9 := by omega
        have hP : va_P D vwCl (mW G mo ad (st (st σ 30 (cdF σ t name (σ 30) k)) 31 (upd (ffF σ t name k (σ 31) k8) k8 (bI (fnN σ t name k8 k)))) (τ)) H := hP
        have hD : va_D A (mW G mo ad (st (st σ 30 (cdF σ t name (σ 30) k)) 31 (upd (ffF σ t name k (σ 31) k8) k8 (bI (fnN σ t name k8 k)))) (τ)) := hD
        refine lv_iinc (v := nI (k8 + 1)) (lv' := [(3, .int (nI (k8 + 1))), (4, .int (nI k)), (0, .ref mo), (1, .int (nI t)), (2, .int name)]) hx hb dX8_candidates_219 hl (k := 1) rfl (nI_1 _) (by decide) rfl (fun ls hl => ?_)
        refine lv_goto (tgt := 103) hx hb dX8_candidates_222 (by decide) ?_
        exact ih103 _ _ _ (by omega) ⟨lv_sub hl [0, 2, 3, 4] rfl, hP, hD, hS⟩
      · -- 132 not
        have c3 : ¬ k ≤ k9 := fun h9 => c3 (by rw [h7]; exact (nI_leI (a := k) (b := k9) (by omega) (by omega)).mpr h9)
        refine w_join (P := fun b9 => b9 = bI (othP σ t name k9 k8)) 186 (ls := ls) (rest := []) (fun b5 e_b5 => ?_) (fun J4 => ?_)
        · -- behind the meeting at 186
          subst e_b5
          refine lv_istore (lv' := [(5, .int (bI (othP σ t name k9 k8))), (4, .int (nI k9)), (3, .int (nI k8)), (0, .ref mo), (1, .int (nI t)), (2, .int name)]) hx hb dX8_candidates_186 hl (by decide) rfl (fun ls hl => ?_)
          refine lv_aload_n hx hb dX8_candidates_188 rfl (lv_at hl 3 rfl) ?_
          refine va_get (D := D) (ci := 8) (v := .ref ((ad 31))) (C := RX8) (T := TX8) (N := 33) hx hb hts iX8 hown hK.1 hP 0 rfl rfl 31 (by decide) (hts _ q_710) (fun _ h9 => h9) rfl dX8_candidates_189 ?_
          refine lv_iload_n hx hb dX8_candidates_192 rfl (lv_at hl 2 rfl) ?_
          refine w_join (P := fun b9 => b9 = bI (fnN σ t name k8 k9 ∧ ¬ othP σ t name k9 k8)) 212 (ls := ls) (rest := [.int (nI k8), .ref ((ad 31))]) (fun b7 e_b7 => ?_) (fun J6 => ?_)
          · -- behind the meeting at 212
            subst e_b7
            refine zast_n hx hb hK.1 hP hD hS 25 2 rfl rfl (k8) rfl (by omega) (by decide) bI_b dX8_candidates_212 (fun H locs hP hD hS => ?_)
            have hP : va_P D vwCl (mW G mo ad (st (st σ 30 (cdF σ t name (σ 30) k)) 31 (upd (upd (ffF σ t name k (σ 31) k8) k8 (bI (fnN σ t name k8 k9))) (k8) (bI (fnN σ t name k8 k9 ∧ ¬ othP σ t name k9 k8)))) (τ)) H := hP
            have hD : va_D A (mW G mo ad (st (st σ 30 (cdF σ t name (σ 30) k)) 31 (upd (upd (ffF σ t name k (σ 31) k8) k8 (bI (fnN σ t name k8 k9))) (k8) (bI (fnN σ t name k8 k9 ∧ ¬ othP σ t name k9 k8)))) (τ)) := hD
            refine lv_iinc (v := nI (k9 + 1)) (lv' := [(4, .int (nI (k9 + 1))), (5, .int (bI (othP σ t name k9 k8))), (3, .int (nI k8)), (0, .ref mo), (1, .int (nI t)), (2, .int name)]) hx hb dX8_candidates_213 hl (k := 1) rfl (nI_1 _) (by decide) rfl (fun ls hl => ?_)
            refine lv_goto (tgt := 126) hx hb dX8_candidates_216 (by decide) ?_
            rw [upd_upd, fnN_s] at hP hD
            exact ih126 _ _ _ (by omega) ⟨lv_sub hl [0, 2, 3, 4, 5] rfl, hP, hD, hS⟩
          · -- up to the meeting at 212
            refine lv_aload_n hx hb dX8_candidates_193 rfl (lv_at hl 3 rfl) ?_
            refine va_get (D := D) (ci := 8) (v := .ref ((ad 31))) (C := RX8) (T := TX8) (N := 33) hx hb hts iX8 hown hK.1 hP 0 rfl rfl 31 (by decide) (hts _ q_710) (fun _ h9 => h9) rfl dX8_candidates_194 ?_
            refine lv_iload_n hx hb dX8_candidates_197 rfl (lv_at hl 2 rfl) ?_
            refine zald_n (f := upd (ffF σ t name k (σ 31) k8) k8 (bI (fnN σ t name k8 k9))) hx hb hK.1 hP 25 2 rfl rfl (k8) rfl (by omega) (by decide) dX8_candidates_198 ?_
            refine W.eq (g2 := F0 m 199 ls [.int (bI (fnN σ t name k8 k9)), .int (nI k8), .ref ((ad 31))]) (congrArg (fun z9 => F0 m 199 ls [.int z9, .int (nI k8), .ref ((ad 31))]) pk_us) ?_
            refine lv_if_eq (tgt := 211) hx hb dX8_candidates_199 (by decide) (fun c8 => ?_) (fun c8 => ?_)
            · -- 199 taken
              have c8 := bI_0 c8
              refine lv_iconst (v := 0) hx hb dX8_candidates_211 (by decide) ?_
              exact J6 0 ((bI_f (by simp only [eq_false c3, eq_false c8, not_true, not_false_iff, not_true_eq_false, not_false_eq_true, true_or, or_true, false_or, or_false, or_self, and_self, true_and, and_true, false_and, and_false, if_true, if_false])).symm)
            · -- 199 not
              have c8 := bI_1 c8
              refine lv_iload hx hb dX8_candidates_202 (lv_at hl 0 rfl) ?_
              refine lv_if_ne (tgt := 211) hx hb dX8_candidates_204 (by decide) (fun c9 => ?_) (fun c9 => ?_)
              · -- 204 taken
                have c9 := bI_1 c9
                refine lv_iconst (v := 0) hx hb dX8_candidates_211 (by decide) ?_
                exact J6 0 ((bI_f (by simp only [eq_false c3, eq_true c8, eq_true c9, not_true, not_false_iff, not_true_eq_false, not_false_eq_true, true_or, or_true, false_or, or_false, or_self, and_self, true_and, and_true, false_and, and_false, if_true, if_false])).symm)
              · -- 204 not
                have c9 := bI_0 c9
                refine lv_iconst (v := 1) hx hb dX8_candidates_207 (by decide) ?_
                refine lv_goto (tgt := 212) hx hb dX8_candidates_208 (by decide) ?_
                exact J6 1 ((bI_t (by simp only [eq_false c3, eq_true c8, eq_false c9, not_true, not_false_iff, not_true_eq_false, not_false_eq_true, true_or, or_true, false_or, or_false, or_self, and_self, true_and, and_true, false_and, and_false, if_true, if_false])).symm)
        · -- up to the meeting at 186
          refine lv_aload_n hx hb dX8_candidates_135 rfl (lv_at hl 2 rfl) ?_
          refine va_get (D := D) (ci := 8) (v := .ref ((ad 30))) (C := RX8) (T := TX8) (N := 33) hx hb hts iX8 hown hK.1 hP 0 rfl rfl 30 (by decide) (hts _ q_709) (fun _ h9 => h9) rfl dX8_candidates_136 ?_
          refine lv_iload hx hb dX8_candidates_139 (lv_at hl 0 rfl) ?_
          refine zald_n (f := cdF σ t name (σ 30) k) hx hb hK.1 hP 24 2 rfl rfl (k9) rfl (by omega) (by decide) dX8_candidates_141 ?_
          refine W.eq (g2 := F0 m 142 ls [.int (bI (canP σ t name k9))]) (congrArg (fun z9 => F0 m 142 ls [.int z9]) (cdF_at (by omega))) ?_
          refine lv_if_eq (tgt := 185) hx hb dX8_candidates_142 (by decide) (fun c10 => ?_) (fun c10 => ?_)
          · -- 142 taken
            have c10 := bI_0 c10
            refine lv_iconst (v := 0) hx hb dX8_candidates_185 (by decide) ?_
            exact J4 0 ((bI_f (by unfold othP; simp only [eq_false c3, eq_false c10, not_true, not_false_iff, not_true_eq_false, not_false_eq_true, true_or, or_true, false_or, or_false, or_self, and_self, true_and, and_true, false_and, and_false, if_true, if_false])).symm)
          · -- 142 not
            have c10 := bI_1 c10
            refine lv_iload hx hb dX8_candidates_145 (lv_at hl 0 rfl) ?_
            refine lv_iload_n hx hb dX8_candidates_147 rfl (lv_at hl 1 rfl) ?_
            refine lv_icmp_eq (tgt := 185) hx hb dX8_candidates_148 (by decide) (fun c11 => ?_) (fun c11 => ?_)
            · -- 148 taken
              have c11 := nI_inj (by omega) (by omega) c11
              refine lv_iconst (v := 0) hx hb dX8_candidates_185 (by decide) ?_
              exact J4 0 ((bI_f (by unfold othP; simp only [eq_false c3, eq_true c10, eq_true c11, not_true, not_false_iff, not_true_eq_false, not_false_eq_true, true_or, or_true, false_or, or_false, or_self, and_self, true_and, and_true, false_and, and_false, if_true, if_false])).symm)
            · -- 148 not
              have c11 : ¬ k9 = k8 := fun h9 => c11 (by rw [h9])
              refine lv_aload_n hx hb dX8_candidates_151 rfl (lv_at hl 2 rfl) ?_
              refine lv_aload_n hx hb dX8_candidates_152 rfl (lv_at hl 2 rfl) ?_
              refine va_get (D := D) (ci := 8) (v := .ref ((ad 9))) (C := RX8) (T := TX8) (N := 33) hx hb hts iX8 hown hK.1 hP 0 rfl rfl 9 (by decide) (hts _ q_688) (fun _ h9 => h9) rfl dX8_candidates_153 ?_
              refine lv_iload hx hb dX8_candidates_156 (lv_at hl 0 rfl) ?_
              refine iald_n (f := σ 9) hx hb hK.1 hP 7 0 rfl rfl (k9) rfl (by omega) (by decide) dX8_candidates_158 ?_
              have htyk9 := (heo k9 (by omega)).2
              refine lv_aload_n hx hb dX8_candidates_159 rfl (lv_at hl 2 rfl) ?_
              refine va_get (D := D) (ci := 8) (v := .ref ((ad 9))) (C := RX8) (T := TX8) (N := 33) hx hb hts iX8 hown hK.1 hP 0 rfl rfl 9 (by decide) (hts _ q_688) (fun _ h9 => h9) rfl dX8_candidates_160 ?_
              refine lv_iload_n hx hb dX8_candidates_163 rfl (lv_at hl 1 rfl) ?_
              refine iald_n (f := σ 9) hx hb hK.1 hP 7 0 rfl rfl (k8) rfl (by omega) (by decide) dX8_candidates_164 ?_
              have htyk8 := (heo k8 (by omega)).2
              refine W.eq (g2 := F0 m 165 ls [.int (σ 9 k8), .int (nI (tyE σ k9)), .ref mo]) (congrArg (fun z9 => F0 m 165 ls [.int (σ 9 k8), .int z9, .ref mo]) (heo k9 (by omega)).1) ?_
              refine W.eq (g2 := F0 m 165 ls [.int (nI (tyE σ k8)), .int (nI (tyE σ k9)), .ref mo]) (congrArg (fun z9 => F0 m 165 ls [.int z9, .int (nI (tyE σ k9)), .ref mo]) (heo k8 (by omega)).1) ?_
              refine ro_Vi (D := D) (G := G) (As := [.int (nI (tyE σ k9)), .int (nI (tyE σ k8))]) (rest := []) ⟨hx, hb, hml, hown, hts⟩ (m_lies l D G _ mo ad _ _ hP ((tyE σ k9)) ((tyE σ k8)) (by omega) (by omega) hb6) gV_X8_X8_lies hdV_X8_lies ⟨Nat.le_of_ble_eq_true rfl, Nat.le_of_ble_eq_true rfl⟩ hK (va_recv hK.1 hP (ci := 8) (q0 := 0) rfl rfl) rfl hl.1 rfl (Nat.le_of_ble_eq_true rfl) dX8_candidates_165 ⟨Nat.le_of_ble_eq_true rfl, Nat.le_of_ble_eq_true rfl⟩ (fun r12 e_r12 => ?_)
              subst e_r12
              refine W.eq (g2 := F0 m 168 ls [.int (bI (lyP σ ((tyE σ k9)) ((tyE σ k8))))]) rfl ?_
              refine lv_if_eq (tgt := 185) hx hb dX8_candidates_168 (by decide) (fun c13 => ?_) (fun c13 => ?_)
              · -- 168 taken
                have c13 := bI_0 c13
                refine lv_iconst (v := 0) hx hb dX8_candidates_185 (by decide) ?_
                exact J4 0 ((bI_f (by unfold othP; simp only [eq_false c3, eq_true c10, eq_false c11, eq_false c13, not_true, not_false_iff, not_true_eq_false, not_false_eq_true, true_or, or_true, false_or, or_false, or_self, and_self, true_and, and_true, false_and, and_false, if_true, if_false])).symm)
              · -- 168 not
                have c13 := bI_1 c13
                refine lv_aload_n hx hb dX8_candidates_171 rfl (lv_at hl 2 rfl) ?_
                refine lv_iload hx hb dX8_candidates_172 (lv_at hl 0 rfl) ?_
                refine lv_iload_n hx hb dX8_candidates_174 rfl (lv_at hl 1 rfl) ?_
                refine ro_Vi (D := D) (G := G) (As := [.int (nI k9), .int (nI k8)]) (rest := []) ⟨hx, hb, hml, hown, hts⟩ (m_sameParts l D G _ mo ad _ _ hP (k9) (k8) (by omega) (by omega) (hmo k9 (by omega))) gV_X8_X8_sameParts hdV_X8_sameParts ⟨Nat.le_of_ble_eq_true rfl, Nat.le_of_ble_eq_true rfl⟩ hK (va_recv hK.1 hP (ci := 8) (q0 := 0) rfl rfl) rfl hl.1 rfl (Nat.le_of_ble_eq_true rfl) dX8_candidates_175 ⟨Nat.le_of_ble_eq_true rfl, Nat.le_of_ble_eq_true rfl⟩ (fun r14 e_r14 => ?_)
                subst e_r14
                refine W.eq (g2 := F0 m 178 ls [.int (bI (sameP σ k9 k8))]) rfl ?_
                refine lv_if_eq (tgt := 185) hx hb dX8_candidates_178 (by decide) (fun c15 => ?_) (fun c15 => ?_)
                · -- 178 taken
                  have c15 := bI_0 c15
                  refine lv_iconst (v := 0) hx hb dX8_candidates_185 (by decide) ?_
                  exact J4 0 ((bI_f (by unfold othP; simp only [eq_false c3, eq_true c10, eq_false c11, eq_true c13, eq_false c15, not_true, not_false_iff, not_true_eq_false, not_false_eq_true, true_or, or_true, false_or, or_false, or_self, and_self, true_and, and_true, false_and, and_false, if_true, if_false])).symm)
                · -- 178 not
                  have c15 := bI_1 c15
                  refine lv_iconst (v := 1) hx hb dX8_candidates_181 (by decide) ?_
                  refine lv_goto (tgt := 186) hx hb dX8_candidates_182 (by decide) ?_
                  exact J4 1 ((bI_t (by unfold othP; simp only [eq_false c3, eq_true c10, eq_false c11, eq_true c13, eq_true c15, not_true, not_false_iff, not_true_eq_false, not_false_eq_true, true_or, or_true, false_or, or_false, or_self, and_self, true_and, and_true, false_and, and_false, if_true, if_false])).symm)
  · -- 7 not
    have c1 : ¬ k ≤ k9 := fun h9 => c1 (by rw [h7]; exact (nI_leI (a := k) (b := k9) (by omega) (by omega)).mpr h9)
    refine w_join (P := fun b9 => b9 = bI (isP σ t name k9)) 48 (ls := ls) (rest := []) (fun b17 e_b17 => ?_) (fun J16 => ?_)
    · -- behind the meeting at 48
      subst e_b17
      refine lv_istore (lv' := [(4, .int (bI (isP σ t name k9))), (3, .int (nI k9)), (0, .ref mo), (1, .int (nI t)), (2, .int name)]) hx hb dX8_candidates_48 hl (by decide) rfl (fun ls hl => ?_)
      refine lv_aload_n hx hb dX8_candidates_50 rfl (lv_at hl 2 rfl) ?_
      refine va_get (D := D) (ci := 8) (v := .ref ((ad 30))) (C := RX8) (T := TX8) (N := 33) hx hb hts iX8 hown hK.1 hP 0 rfl rfl 30 (by decide) (hts _ q_709) (fun _ h9 => h9) rfl dX8_candidates_51 ?_
      refine lv_iload_n hx hb dX8_candidates_54 rfl (lv_at hl 1 rfl) ?_
      refine w_join (P := fun b9 => b9 = bI (canP σ t name k9)) 94 (ls := ls) (rest := [.int (nI k9), .ref ((ad 30))]) (fun b19 e_b19 => ?_) (fun J18 => ?_)
      · -- behind the meeting at 94
        subst e_b19
        refine zast_n hx hb hK.1 hP hD hS 24 2 rfl rfl (k9) rfl (by omega) (by decide) bI_b dX8_candidates_94 (fun H locs hP hD hS => ?_)
        have hP : va_P D vwCl (mW G mo ad (st σ 30 (upd (cdF σ t name (σ 30) k9) (k9) (bI (canP σ t name k9)))) (τ)) H := hP
        have hD : va_D A (mW G mo ad (st σ 30 (upd (cdF σ t name (σ 30) k9) (k9) (bI (canP σ t name k9)))) (τ)) := hD
        refine lv_iinc (v := nI (k9 + 1)) (lv' := [(3, .int (nI (k9 + 1))), (4, .int (bI (isP σ t name k9))), (0, .ref mo), (1, .int (nI t)), (2, .int name)]) hx hb dX8_candidates_95 hl (k := 1) rfl (nI_1 _) (by decide) rfl (fun ls hl => ?_)
        refine lv_goto (tgt := 2) hx hb dX8_candidates_98 (by decide) ?_
        exact ih2 _ _ _ (by omega) ⟨lv_sub hl [0, 2, 3, 4] rfl, hP, hD, hS⟩
      · -- up to the meeting at 94
        refine lv_iload hx hb dX8_candidates_55 (lv_at hl 0 rfl) ?_
        refine lv_if_eq (tgt := 93) hx hb dX8_candidates_57 (by decide) (fun c20 => ?_) (fun c20 => ?_)
        · -- 57 taken
          have c20 := bI_0 c20
          refine lv_iconst (v := 0) hx hb dX8_candidates_93 (by decide) ?_
          exact J18 0 ((bI_f (by rw [canP_def]; simp only [eq_false c1, eq_false c20, not_true, not_false_iff, not_true_eq_false, not_false_eq_true, true_or, or_true, false_or, or_false, or_self, and_self, true_and, and_true, false_and, and_false, if_true, if_false])).symm)
        · -- 57 not
          have c20 := bI_1 c20
          refine lv_aload_n hx hb dX8_candidates_60 rfl (lv_at hl 2 rfl) ?_
          refine va_get (D := D) (ci := 8) (v := .ref ((ad 9))) (C := RX8) (T := TX8) (N := 33) hx hb hts iX8 hown hK.1 hP 0 rfl rfl 9 (by decide) (hts _ q_688) (fun _ h9 => h9) rfl dX8_candidates_61 ?_
          refine lv_iload_n hx hb dX8_candidates_64 rfl (lv_at hl 1 rfl) ?_
          refine iald_n (f := σ 9) hx hb hK.1 hP 7 0 rfl rfl (k9) rfl (by omega) (by decide) dX8_candidates_65 ?_
          have htyk9 := (heo k9 (by omega)).2
          refine lv_iload_n hx hb dX8_candidates_66 rfl (lv_at hl 3 rfl) ?_
          refine lv_icmp_eq (tgt := 89) hx hb dX8_candidates_67 (by decide) (fun c21 => ?_) (fun c21 => ?_)
          · -- 67 taken
            refine lv_iconst (v := 1) hx hb dX8_candidates_89 (by decide) ?_
            refine lv_goto (tgt := 94) hx hb dX8_candidates_90 (by decide) ?_
            exact J18 1 ((bI_t (by rw [canP_def]; simp only [eq_false c1, eq_true c20, eq_true c21, not_true, not_false_iff, not_true_eq_false, not_false_eq_true, true_or, or_true, false_or, or_false, or_self, and_self, true_and, and_true, false_and, and_false, if_true, if_false])).symm)
          · -- 67 not
            refine lv_aload_n hx hb dX8_candidates_70 rfl (lv_at hl 2 rfl) ?_
            refine va_get (D := D) (ci := 8) (v := .ref ((ad 13))) (C := RX8) (T := TX8) (N := 33) hx hb hts iX8 hown hK.1 hP 0 rfl rfl 13 (by decide) (hts _ q_692) (fun _ h9 => h9) rfl dX8_candidates_71 ?_
            refine lv_iload_n hx hb dX8_candidates_74 rfl (lv_at hl 1 rfl) ?_
            refine iald_n (f := σ 13) hx hb hK.1 hP 11 0 rfl rfl (k9) rfl (by omega) (by decide) dX8_candidates_75 ?_
            refine lv_iconst (v := 4) hx hb dX8_candidates_76 (by decide) ?_
            refine lv_iand hx hb dX8_candidates_77 ?_
            refine lv_if_ne (tgt := 93) hx hb dX8_candidates_78 (by decide) (fun c22 => ?_) (fun c22 => ?_)
            · -- 78 taken
              refine lv_iconst (v := 0) hx hb dX8_candidates_93 (by decide) ?_
              exact J18 0 ((bI_f (by rw [canP_def]; simp only [eq_false c1, eq_true c20, eq_false c21, eq_false c22, not_true, not_false_iff, not_true_eq_false, not_false_eq_true, true_or, or_true, false_or, or_false, or_self, and_self, true_and, and_true, false_and, and_false, if_true, if_false])).symm)
            · -- 78 not
              refine lv_aload_n hx hb dX8_candidates_81 rfl (lv_at hl 2 rfl) ?_
              refine lv_iload_n hx hb dX8_candidates_82 rfl (lv_at hl 1 rfl) ?_
              refine ro_Vi (D := D) (G := G) (As := [.int (nI k9)]) (rest := [.int (nI k9), .ref ((ad 30))]) ⟨hx, hb, hml, hown, hts⟩ (m_stands l D G _ mo ad _ _ hP (k9) (by omega) (heo k9 (by omega))) gV_X8_X8_stands hdV_X8_stands ⟨Nat.le_of_ble_eq_true rfl, Nat.le_of_ble_eq_true rfl⟩ hK (va_recv hK.1 hP (ci := 8) (q0 := 0) rfl rfl) rfl hl.1 rfl (Nat.le_of_ble_eq_true rfl) dX8_candidates_83 ⟨Nat.le_of_ble_eq_true rfl, Nat.le_of_ble_eq_true rfl⟩ (fun r23 e_r23 => ?_)
              subst e_r23
              refine W.eq (g2 := F0 m 86 ls [.int (bI (stP σ k9)), .int (nI k9), .ref ((ad 30))]) rfl ?_
              refine lv_if_ne (tgt := 93) hx hb dX8_candidates_86 (by decide) (fun c24 => ?_) (fun c24 => ?_)
              · -- 86 taken
                have c24 := bI_1 c24
                refine lv_iconst (v := 0) hx hb dX8_candidates_93 (by decide) ?_
                exact J18 0 ((bI_f (by rw [canP_def]; simp only [eq_false c1, eq_true c20, eq_false c21, eq_true c22, eq_true c24, not_true, not_false_iff, not_true_eq_false, not_false_eq_true, true_or, or_true, false_or, or_false, or_self, and_self, true_and, and_true, false_and, and_false, if_true, if_false])).symm)
              · -- 86 not
                have c24 := bI_0 c24
                refine lv_iconst (v := 1) hx hb dX8_candidates_89 (by decide) ?_
                refine lv_goto (tgt := 94) hx hb dX8_candidates_90 (by decide) ?_
                exact J18 1 ((bI_t (by rw [canP_def]; simp only [eq_false c1, eq_true c20, eq_false c21, eq_true c22, eq_false c24, not_true, not_false_iff, not_true_eq_false, not_false_eq_true, true_or, or_true, false_or, or_false, or_self, and_self, true_and, and_true, false_and, and_false, if_true, if_false])).symm)
    · -- up to the meeting at 48
      refine lv_aload_n hx hb dX8_candidates_10 rfl (lv_at hl 1 rfl) ?_
      refine va_get (D := D) (ci := 8) (v := .ref ((ad 8))) (C := RX8) (T := TX8) (N := 33) hx hb hts iX8 hown hK.1 hP 0 rfl rfl 8 (by decide) (hts _ q_687) (fun _ h9 => h9) rfl dX8_candidates_11 ?_
      refine lv_iload_n hx hb dX8_candidates_14 rfl (lv_at hl 0 rfl) ?_
      refine zald_n (f := σ 8) hx hb hK.1 hP 6 2 rfl rfl (k9) rfl (by omega) (by decide) dX8_candidates_15 ?_
      refine lv_if_eq (tgt := 47) hx hb dX8_candidates_16 (by decide) (fun c25 => ?_) (fun c25 => ?_)
      · -- 16 taken
        refine lv_iconst (v := 0) hx hb dX8_candidates_47 (by decide) ?_
        exact J16 0 ((bI_f (by unfold isP; simp only [eq_false c1, eq_true c25, not_true, not_false_iff, not_true_eq_false, not_false_eq_true, true_or, or_true, false_or, or_false, or_self, and_self, true_and, and_true, false_and, and_false, if_true, if_false])).symm)
      · -- 16 not
        refine lv_aload_n hx hb dX8_candidates_19 rfl (lv_at hl 1 rfl) ?_
        refine va_get (D := D) (ci := 8) (v := .ref ((ad 10))) (C := RX8) (T := TX8) (N := 33) hx hb hts iX8 hown hK.1 hP 0 rfl rfl 10 (by decide) (hts _ q_689) (fun _ h9 => h9) rfl dX8_candidates_20 ?_
        refine lv_iload_n hx hb dX8_candidates_23 rfl (lv_at hl 0 rfl) ?_
        refine iald_n (f := σ 10) hx hb hK.1 hP 8 0 rfl rfl (k9) rfl (by omega) (by decide) dX8_candidates_24 ?_
        refine lv_iload_n hx hb dX8_candidates_25 rfl (lv_at hl 3 rfl) ?_
        refine lv_icmp_ne (tgt := 47) hx hb dX8_candidates_26 (by decide) (fun c26 => ?_) (fun c26 => ?_)
        · -- 26 taken
          refine lv_iconst (v := 0) hx hb dX8_candidates_47 (by decide) ?_
          exact J16 0 ((bI_f (by unfold isP; simp only [eq_false c1, eq_false c25, eq_false c26, not_true, not_false_iff, not_true_eq_false, not_false_eq_true, true_or, or_true, false_or, or_false, or_self, and_self, true_and, and_true, false_and, and_false, if_true, if_false])).symm)
        · -- 26 not
          refine lv_aload_n hx hb dX8_candidates_29 rfl (lv_at hl 1 rfl) ?_
          refine lv_iload_n hx hb dX8_candidates_30 rfl (lv_at hl 2 rfl) ?_
          refine lv_aload_n hx hb dX8_candidates_31 rfl (lv_at hl 1 rfl) ?_
          refine va_get (D := D) (ci := 8) (v := .ref ((ad 9))) (C := RX8) (T := TX8) (N := 33) hx hb hts iX8 hown hK.1 hP 0 rfl rfl 9 (by decide) (hts _ q_688) (fun _ h9 => h9) rfl dX8_candidates_32 ?_
          refine lv_iload_n hx hb dX8_candidates_35 rfl (lv_at hl 0 rfl) ?_
          refine iald_n (f := σ 9) hx hb hK.1 hP 7 0 rfl rfl (k9) rfl (by omega) (by decide) dX8_candidates_36 ?_
          have htyk9 := (heo k9 (by omega)).2
          refine W.eq (g2 := F0 m 37 ls [.int (nI (tyE σ k9)), .int (nI t), .ref mo]) (congrArg (fun z9 => F0 m 37 ls [.int z9, .int (nI t), .ref mo]) (heo k9 (by omega)).1) ?_
          refine ro_Vi (D := D) (G := G) (As := [.int (nI t), .int (nI (tyE σ k9))]) (rest := []) ⟨hx, hb, hml, hown, hts⟩ (m_lies l D G _ mo ad _ _ hP (t) ((tyE σ k9)) (by omega) (by omega) hb6) gV_X8_X8_lies hdV_X8_lies ⟨Nat.le_of_ble_eq_true rfl, Nat.le_of_ble_eq_true rfl⟩ hK (va_recv hK.1 hP (ci := 8) (q0 := 0) rfl rfl) rfl hl.1 rfl (Nat.le_of_ble_eq_true rfl) dX8_candidates_37 ⟨Nat.le_of_ble_eq_true rfl, Nat.le_of_ble_eq_true rfl⟩ (fun r27 e_r27 => ?_)
          subst e_r27
          refine W.eq (g2 := F0 m 40 ls [.int (bI (lyP σ (t) ((tyE σ k9))))]) rfl ?_
          refine lv_if_eq (tgt := 47) hx hb dX8_candidates_40 (by decide) (fun c28 => ?_) (fun c28 => ?_)
          · -- 40 taken
            have c28 := bI_0 c28
            refine lv_iconst (v := 0) hx hb dX8_candidates_47 (by decide) ?_
            exact J16 0 ((bI_f (by unfold isP; simp only [eq_false c1, eq_false c25, eq_true c26, eq_false c28, not_true, not_false_iff, not_true_eq_false, not_false_eq_true, true_or, or_true, false_or, or_false, or_self, and_self, true_and, and_true, false_and, and_false, if_true, if_false])).symm)
          · -- 40 not
            have c28 := bI_1 c28
            refine lv_iconst (v := 1) hx hb dX8_candidates_43 (by decide) ?_
            refine lv_goto (tgt := 48) hx hb dX8_candidates_44 (by decide) ?_
            exact J16 1 ((bI_t (by unfold isP; simp only [eq_false c1, eq_false c25, eq_true c26, eq_true c28, not_true, not_false_iff, not_true_eq_false, not_false_eq_true, true_or, or_true, false_or, or_false, or_self, and_self, true_and, and_true, false_and, and_false, if_true, if_false])).symm)
