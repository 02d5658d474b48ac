theorem bit_sh : ∀ o : Fin 32, ((nI o.val &&& 31).toBitVec.smod 32).toNat = o.val := by decide +kernel
theorem bit_and1 (x : BitVec 32) : (x &&& 1#32 = 1#32) ↔ x.getLsbD 0 = true := by
  constructor
  · intro h
    have := congrArg (fun z => BitVec.getLsbD z 0) h
    simpa using this
  · intro h
    apply BitVec.eq_of_getLsbD_eq
    intro i hi
    by_cases q : i = 0
    · subst q; simp [h]
    · simp [BitVec.getLsbD_one, q]
theorem bitP_g {v : Int32} {o : Nat} (ho : o < 32) : bitP v o ↔ v.toBitVec.getLsbD o = true := by
  rw [bitP_def]
  have h1 : ((v >>> (nI o &&& 31)) &&& 1 = 1) ↔ ((v >>> (nI o &&& 31)).toBitVec &&& 1#32 = 1#32) := by
    rw [← Int32.toBitVec_inj]; rfl
  rw [h1, bit_and1, Int32.toBitVec_shiftRight]
  unfold BitVec.sshiftRight'
  rw [bit_sh ⟨o, ho⟩, BitVec.getLsbD_sshiftRight]
  simp [ho]
theorem bitP_or {a b : Int32} {o : Nat} (ho : o < 32) : bitP (a ||| b) o ↔ (bitP a o ∨ bitP b o) := by
  rw [bitP_g ho, bitP_g ho, bitP_g ho, Int32.toBitVec_or, BitVec.getLsbD_or, Bool.or_eq_true]
theorem bitP_0 {o : Nat} (ho : o < 32) : ¬ bitP 0 o := by
  rw [bitP_g ho]; simp
theorem bitP_1' : ∀ f o : Fin 12, (bitP (1 <<< (nI f.val &&& 31)) o.val ↔ f = o) := by decide +kernel
theorem bitP_1 {f o : Nat} (hf : f < 12) (ho : o < 12) : bitP (1 <<< (nI f &&& 31)) o ↔ f = o := by
  rw [bitP_1' ⟨f, hf⟩ ⟨o, ho⟩]; exact Fin.mk.injEq .. ▸ Iff.rfl
/-- what a type lies below, by its mask -/
theorem abv_bit {pa fm : Int32} {ab : Nat → Int32} {t o : Nat} (ht : t < 12) (ho : o < 12) : ∀ q, bitP (abvF pa fm ab t q) o ↔ (t = o ∨ ∃ j, j < q ∧ (nI j = pa ∨ bitP fm j) ∧ bitP (ab j) o)
  | 0 => by
    show bitP (1 <<< (nI t &&& 31)) o ↔ _
    rw [bitP_1 ht ho]
    exact ⟨Or.inl, fun h => h.elim id (fun ⟨j, hj, _⟩ => absurd hj (Nat.not_lt_zero j))⟩
  | q + 1 => by
    have ih := abv_bit (pa := pa) (fm := fm) (ab := ab) ht ho q
    show bitP (if nI q = pa ∨ bitP fm q then abvF pa fm ab t q ||| ab q else abvF pa fm ab t q) o ↔ _
    by_cases c : nI q = pa ∨ bitP fm q
    · rw [if_pos c, bitP_or (by omega), ih]
      constructor
      · rintro ((h | ⟨j, hj, h⟩) | h)
        · exact Or.inl h
        · exact Or.inr ⟨j, by omega, h⟩
        · exact Or.inr ⟨q, by omega, c, h⟩
      · rintro (h | ⟨j, hj, h⟩)
        · exact Or.inl (Or.inl h)
        · by_cases e : j = q
          · subst e; exact Or.inr h.2
          · exact Or.inl (Or.inr ⟨j, by omega, h⟩)
    · rw [if_neg c, ih]
      constructor
      · rintro (h | ⟨j, hj, h⟩)
        · exact Or.inl h
        · exact Or.inr ⟨j, by omega, h⟩
      · rintro (h | ⟨j, hj, h⟩)
        · exact Or.inl h
        · by_cases e : j = q
          · subst e; exact absurd h.1 c
          · exact Or.inr ⟨j, by omega, h⟩
-- the reference's rows
theorem rs_at {f : Nat → Int32} {t : Nat} : ∀ {k : Nat} {r o : Nat}, o < 12 → k ≤ 12 → rsF f t k (12 * r + o) = if r = t ∧ o < k then bI (o = t) else f (12 * r + o)
  | 0, r, o, _, _ => by rw [if_neg (fun h => absurd h.2 (Nat.not_lt_zero o))]; rfl
  | k + 1, r, o, ho, hk => by
    show upd (rsF f t k) (12 * t + k) _ (12 * r + o) = _
    by_cases c : r = t ∧ o = k
    · rw [c.1, c.2, pk_us, if_pos ⟨rfl, by omega⟩]
    · rw [pk_un (fun h => c (by omega)), rs_at ho (by omega)]
      by_cases d : r = t ∧ o < k
      · rw [if_pos d, if_pos ⟨d.1, by omega⟩]
      · rw [if_neg d, if_neg (fun h => by omega)]
theorem or_nz {x y : Int32} (hx : x = 0 ∨ x = 1) (hy : y = 0 ∨ y = 1) : ¬ x ||| y = 0 ↔ (¬ x = 0 ∨ ¬ y = 0) := by
  rcases hx with rfl | rfl <;> rcases hy with rfl | rfl <;> decide
theorem add_at {f : Nat → Int32} {t ab : Nat} (hb : b01 f) (hab : ab ≠ t) : ∀ {k : Nat} {r o : Nat}, o < 12 → k ≤ 12 → (¬ addF f t ab k (12 * r + o) = 0 ↔ (¬ f (12 * r + o) = 0 ∨ (r = t ∧ o < k ∧ ¬ f (12 * ab + o) = 0))) ∧ (¬ r = t → addF f t ab k (12 * r + o) = f (12 * r + o))
  | 0, r, o, _, _ => ⟨⟨Or.inl, fun h => h.elim id (fun h => absurd h.2.1 (Nat.not_lt_zero o))⟩, fun _ => rfl⟩
  | k + 1, r, o, ho, hk => by
    have ih := add_at (f := f) (t := t) (ab := ab) hb hab (k := k) (r := r) (o := o) ho (by omega)
    have i2 := add_at (f := f) (t := t) (ab := ab) hb hab (k := k) (r := t) (o := k) (by omega) (by omega)
    have i3 := add_at (f := f) (t := t) (ab := ab) hb hab (k := k) (r := ab) (o := k) (by omega) (by omega)
    have e : addF f t ab (k + 1) = upd (addF f t ab k) (12 * t + k) (addF f t ab k (12 * t + k) ||| addF f t ab k (12 * ab + k)) := rfl
    rw [e]
    by_cases c : r = t ∧ o = k
    · obtain ⟨rfl, rfl⟩ := c
      rw [pk_us, or_nz (b01_add hb _ _ _ _) (b01_add hb _ _ _ _), i2.1, i3.2 hab]
      refine ⟨⟨?_, ?_⟩, fun h => absurd rfl h⟩
      · rintro ((h | h) | h)
        · exact Or.inl h
        · exact absurd h.2.1 (by omega)
        · exact Or.inr ⟨rfl, by omega, h⟩
      · rintro (h | h)
        · exact Or.inl (Or.inl h)
        · exact Or.inr h.2.2
    · rw [pk_un (fun h => c (by omega)), ih.1]
      refine ⟨⟨?_, ?_⟩, ih.2⟩
      · rintro (h | h)
        · exact Or.inl h
        · exact Or.inr ⟨h.1, by omega, h.2.2⟩
      · rintro (h | h)
        · exact Or.inl h
        · exact Or.inr ⟨h.1, by omega, h.2.2⟩
theorem af_at {f fa : Nat → Int32} {t : Nat} (hb : b01 f) : ∀ {k : Nat}, (∀ i, i < k → (fa (3 * t + i)).toNatClampNeg ≠ t) → ∀ {r o : Nat}, o < 12 → (¬ afF f fa t k (12 * r + o) = 0 ↔ (¬ f (12 * r + o) = 0 ∨ (r = t ∧ ∃ i, i < k ∧ ¬ f (12 * (fa (3 * t + i)).toNatClampNeg + o) = 0))) ∧ (¬ r = t → afF f fa t k (12 * r + o) = f (12 * r + o))
  | 0, _, r, o, _ => ⟨⟨Or.inl, fun h => h.elim id (fun ⟨_, i, hi, _⟩ => absurd hi (Nat.not_lt_zero i))⟩, fun _ => rfl⟩
  | k + 1, hk, r, o, ho => by
    have ih := af_at (f := f) (fa := fa) (t := t) hb (k := k) (fun i hi => hk i (by omega)) (r := r) (o := o) ho
    have i2 := af_at (f := f) (fa := fa) (t := t) hb (k := k) (fun i hi => hk i (by omega)) (r := (fa (3 * t + k)).toNatClampNeg) (o := o) ho
    have h := add_at (f := afF f fa t k) (t := t) (ab := (fa (3 * t + k)).toNatClampNeg) (b01_af hb t k) (hk k (by omega)) (k := 12) (r := r) (o := o) ho (Nat.le_refl _)
    have e : afF f fa t (k + 1) = addF (afF f fa t k) t (fa (3 * t + k)).toNatClampNeg 12 := rfl
    rw [e, h.1, ih.1, i2.2 (hk k (by omega))]
    refine ⟨⟨?_, ?_⟩, fun q => (h.2 q).trans (ih.2 q)⟩
    · rintro ((h | ⟨h1, i, hi, h2⟩) | ⟨h1, _, h2⟩)
      · exact Or.inl h
      · exact Or.inr ⟨h1, i, by omega, h2⟩
      · exact Or.inr ⟨h1, k, by omega, h2⟩
    · rintro (h | ⟨h1, i, hi, h2⟩)
      · exact Or.inl (Or.inl h)
      · by_cases c : i = k
        · subst c; exact Or.inr ⟨h1, ho, h2⟩
        · exact Or.inl (Or.inr ⟨h1, i, by omega, h2⟩)
/-- a row that is reckoned anew -/
theorem rec_at {f pa fc fa : Nat → Int32} {t : Nat} (hb : b01 f) (hp : ¬ pa t = -1 → (pa t).toNatClampNeg ≠ t) (hf : ∀ i, i < (fc t).toNatClampNeg → (fa (3 * t + i)).toNatClampNeg ≠ t) {r o : Nat} (ho : o < 12) :
    (¬ r = t → recF f pa fc fa t (12 * r + o) = f (12 * r + o)) ∧ (¬ recF f pa fc fa t (12 * t + o) = 0 ↔ (o = t ∨ (¬ pa t = -1 ∧ ¬ f (12 * (pa t).toNatClampNeg + o) = 0) ∨ ∃ i, i < (fc t).toNatClampNeg ∧ ¬ f (12 * (fa (3 * t + i)).toNatClampNeg + o) = 0)) := by
  have hrs : ∀ r o, o < 12 → rsF f t 12 (12 * r + o) = if r = t ∧ o < 12 then bI (o = t) else f (12 * r + o) := fun r o h => rs_at h (Nat.le_refl _)
  have hbi : ∀ o, (¬ bI (o = t) = 0) ↔ o = t := fun o => by
    by_cases q : o = t
    · rw [bI_t q]; exact ⟨fun _ => q, fun _ => by decide⟩
    · rw [bI_f q]; exact ⟨fun h => absurd rfl h, fun h => absurd h q⟩
  unfold recF
  by_cases c : pa t = -1
  · rw [if_pos c]
    have h := fun r => af_at (f := rsF f t 12) (fa := fa) (t := t) (b01_rs hb t 12) hf (r := r) (o := o) ho
    refine ⟨fun q => by rw [(h r).2 q, hrs r o ho, if_neg (fun z => q z.1)], ?_⟩
    rw [(h t).1, hrs t o ho, if_pos ⟨rfl, ho⟩, hbi]
    constructor
    · rintro (h | ⟨_, i, hi, h⟩)
      · exact Or.inl h
      · rw [hrs _ _ ho, if_neg (fun z => hf i hi z.1)] at h
        exact Or.inr (Or.inr ⟨i, hi, h⟩)
    · rintro (h | h | ⟨i, hi, h⟩)
      · exact Or.inl h
      · exact absurd c h.1
      · exact Or.inr ⟨rfl, i, hi, by rw [hrs _ _ ho, if_neg (fun z => hf i hi z.1)]; exact h⟩
  · rw [if_neg c]
    have g := fun r => add_at (f := rsF f t 12) (t := t) (ab := (pa t).toNatClampNeg) (b01_rs hb t 12) (hp c) (k := 12) (r := r) (o := o) ho (Nat.le_refl _)
    have h := fun r => af_at (f := addF (rsF f t 12) t (pa t).toNatClampNeg 12) (fa := fa) (t := t) (b01_add (b01_rs hb t 12) _ _ _) hf (r := r) (o := o) ho
    refine ⟨fun q => by rw [(h r).2 q, (g r).2 q, hrs r o ho, if_neg (fun z => q z.1)], ?_⟩
    rw [(h t).1, (g t).1, hrs t o ho, if_pos ⟨rfl, ho⟩, hbi, hrs _ _ ho, if_neg (fun z => hp c z.1)]
    constructor
    · rintro ((h | ⟨_, _, h⟩) | ⟨_, i, hi, h⟩)
      · exact Or.inl h
      · exact Or.inr (Or.inl ⟨c, h⟩)
      · rw [(g _).2 (hf i hi), hrs _ _ ho, if_neg (fun z => hf i hi z.1)] at h
        exact Or.inr (Or.inr ⟨i, hi, h⟩)
    · rintro (h | h | ⟨i, hi, h⟩)
      · exact Or.inl (Or.inl h)
      · exact Or.inl (Or.inr ⟨rfl, ho, h.2⟩)
      · exact Or.inr ⟨rfl, i, hi, by rw [(g _).2 (hf i hi), hrs _ _ ho, if_neg (fun z => hf i hi z.1)]; exact h⟩
/-- the mask of a type's faces, by their list -/
def fmM (fa : Nat → Int32) (b : Nat) : Nat → Int32
  | 0 => 0
  | k + 1 => fmM fa b k ||| 1 <<< (fa (b + k) &&& 31)
theorem fm_bit {fa : Nat → Int32} {b o : Nat} (ho : o < 12) : ∀ {k : Nat}, (∀ i, i < k → okT (fa (b + i))) → (bitP (fmM fa b k) o ↔ ∃ i, i < k ∧ fa (b + i) = nI o)
  | 0, _ => ⟨fun h => absurd h (bitP_0 (by omega)), fun ⟨i, hi, _⟩ => absurd hi (Nat.not_lt_zero i)⟩
  | k + 1, h => by
    have ih := fm_bit (fa := fa) (b := b) ho (k := k) (fun i hi => h i (by omega))
    obtain ⟨e, he⟩ := h k (by omega)
    show bitP (fmM fa b k ||| 1 <<< (fa (b + k) &&& 31)) o ↔ _
    rw [bitP_or (by omega), ih]
    have hq : bitP (1 <<< (fa (b + k) &&& 31)) o ↔ fa (b + k) = nI o := by
      rw [e, bitP_1 he ho, nI_eq (by omega) (by omega)]
    rw [hq]
    constructor
    · rintro (⟨i, hi, h⟩ | h)
      · exact ⟨i, by omega, h⟩
      · exact ⟨k, by omega, h⟩
    · rintro ⟨i, hi, h8⟩
      by_cases c : i = k
      · rw [c] at h8; exact Or.inr h8
      · exact Or.inl ⟨i, by omega, h8⟩
theorem fm_c1 : ∀ a : Fin 12, bcF ((0 : Int32) ||| 1 <<< (nI a.val &&& 31)) = 1 := by decide +kernel
theorem fm_c2 : ∀ a b : Fin 12, a ≠ b → bcF ((0 : Int32) ||| 1 <<< (nI a.val &&& 31) ||| 1 <<< (nI b.val &&& 31)) = 2 := by decide +kernel
theorem fm_c3 : ∀ a b c : Fin 12, a ≠ b → a ≠ c → b ≠ c → bcF ((0 : Int32) ||| 1 <<< (nI a.val &&& 31) ||| 1 <<< (nI b.val &&& 31) ||| 1 <<< (nI c.val &&& 31)) = 3 := by decide +kernel
theorem fm_bc {fa : Nat → Int32} {b k : Nat} (hk : k ≤ 3) (h : ∀ i, i < k → okT (fa (b + i))) (hd : ∀ i j, i < j → j < k → ¬ fa (b + i) = fa (b + j)) : bcF (fmM fa b k) = nI k := by
  have hn : ∀ i j, i < j → j < k → (fa (b + i)).toNatClampNeg ≠ (fa (b + j)).toNatClampNeg := fun i j h1 h2 q => hd i j h1 h2 (by rw [(h i (by omega)).1, (h j h2).1, q])
  rcases (show k = 0 ∨ k = 1 ∨ k = 2 ∨ k = 3 by omega) with rfl | rfl | rfl | rfl
  · show bcF 0 = nI 0; decide
  · have h0 := h 0 (by omega)
    show bcF ((0 : Int32) ||| 1 <<< (fa (b + 0) &&& 31)) = _
    rw [h0.1]; exact fm_c1 ⟨_, h0.2⟩
  · have h0 := h 0 (by omega); have h1 := h 1 (by omega); have n01 := hn 0 1 (by omega) (by omega)
    show bcF ((0 : Int32) ||| 1 <<< (fa (b + 0) &&& 31) ||| 1 <<< (fa (b + 1) &&& 31)) = _
    rw [h0.1, h1.1]; exact fm_c2 ⟨_, h0.2⟩ ⟨_, h1.2⟩ (fun q => n01 (congrArg Fin.val q))
  · have h0 := h 0 (by omega); have h1 := h 1 (by omega); have h2 := h 2 (by omega)
    have n01 := hn 0 1 (by omega) (by omega); have n02 := hn 0 2 (by omega) (by omega); have n12 := hn 1 2 (by omega) (by omega)
    show bcF ((0 : Int32) ||| 1 <<< (fa (b + 0) &&& 31) ||| 1 <<< (fa (b + 1) &&& 31) ||| 1 <<< (fa (b + 2) &&& 31)) = _
    rw [h0.1, h1.1, h2.1]; exact fm_c3 ⟨_, h0.2⟩ ⟨_, h1.2⟩ ⟨_, h2.2⟩ (fun q => n01 (congrArg Fin.val q)) (fun q => n02 (congrArg Fin.val q)) (fun q => n12 (congrArg Fin.val q))
theorem fm_upd {fa : Nat → Int32} {b j : Nat} {v : Int32} : ∀ {k : Nat}, (∀ i, i < k → b + i ≠ j) → fmM (upd fa j v) b k = fmM fa b k
  | 0, _ => rfl
  | k + 1, h => by
    show fmM (upd fa j v) b k ||| 1 <<< (upd fa j v (b + k) &&& 31) = _
    rw [fm_upd (fun i hi => h i (by omega)), pk_un (h k (by omega))]; rfl
theorem nI_nm1 {q : Nat} (hq : q < 2 ^ 31) : ¬ nI q = -1 := fun h => by
  have h2 := congrArg Int32.toInt h
  rw [n_ti hq, show (-1 : Int32).toInt = -1 from by decide] at h2; omega
/-- the parent and the faces of a type are earlier ones -/
abbrev erP (pa fc fa : Nat → Int32) (s : Nat) : Prop := (¬ pa s = -1 → okT (pa s) ∧ (pa s).toNatClampNeg < s) ∧ ∀ i, i < (fc s).toNatClampNeg → okT (fa (3 * s + i)) ∧ (fa (3 * s + i)).toNatClampNeg < s
/-- a row and a mask that are reckoned anew say the same -/
theorem row_eq {F pa fc fa X : Nat → Int32} {s n : Nat} {fm : Int32} (hs : s < n) (hn : n ≤ 12) (hb : b01 F) (he : erP pa fc fa s) (hf : ∀ q, q < 12 → (bitP fm q ↔ ∃ i, i < (fc s).toNatClampNeg ∧ fa (3 * s + i) = nI q))
    (hX : ∀ q, q < s → ∀ o, o < 12 → (bitP (X q) o ↔ ¬ F (12 * q + o) = 0)) {o : Nat} (ho : o < 12) : bitP (abvF (pa s) fm X s s) o ↔ ¬ recF F pa fc fa s (12 * s + o) = 0 := by
  rw [abv_bit (by omega) ho, (rec_at hb (fun q => by have := (he.1 q).2; omega) (fun i hi => by have := (he.2 i hi).2; omega) (r := s) ho).2]
  constructor
  · rintro (h | ⟨q, hq, h1 | h1, h2⟩)
    · exact Or.inl h.symm
    · have hne : ¬ pa s = -1 := fun z => by
        rw [z] at h1; exact nI_nm1 (by omega) h1
      refine Or.inr (Or.inl ⟨hne, ?_⟩)
      rw [← h1, nI_clamp (by omega)]; exact (hX q hq o ho).mp h2
    · obtain ⟨i, hi, h3⟩ := (hf q (by omega)).mp h1
      refine Or.inr (Or.inr ⟨i, hi, ?_⟩)
      rw [h3, nI_clamp (by omega)]; exact (hX q hq o ho).mp h2
  · rintro (h | ⟨h1, h2⟩ | ⟨i, hi, h2⟩)
    · exact Or.inl h.symm
    · obtain ⟨⟨g1, g2⟩, g3⟩ := he.1 h1
      exact Or.inr ⟨_, g3, Or.inl g1.symm, (hX _ g3 o ho).mpr h2⟩
    · obtain ⟨⟨g1, g2⟩, g3⟩ := he.2 i hi
      exact Or.inr ⟨_, g3, Or.inr ((hf _ g2).mpr ⟨i, hi, g1⟩), (hX _ g3 o ho).mpr h2⟩
theorem re_eq {F pa fc fa fm X : Nat → Int32} {t n : Nat} (hn : n ≤ 12) (hb : b01 F) (he : ∀ s, s < n → erP pa fc fa s) (hf : ∀ s, s < n → ∀ q, q < 12 → (bitP (fm s) q ↔ ∃ i, i < (fc s).toNatClampNeg ∧ fa (3 * s + i) = nI q))
    (hX : ∀ q, q < n → ∀ o, o < 12 → (bitP (X q) o ↔ ¬ F (12 * q + o) = 0)) : ∀ j, t + j ≤ n → ∀ q, q < n → ∀ o, o < 12 → (bitP (reA pa fm X t j q) o ↔ ¬ reF F pa fc fa t j (12 * q + o) = 0)
  | 0, _, q, hq, o, ho => hX q hq o ho
  | j + 1, hj, q, hq, o, ho => by
    have ih := re_eq (t := t) hn hb he hf hX j (by omega)
    have e1 : reA pa fm X t (j + 1) = upd (reA pa fm X t j) (t + j) (abvF (pa (t + j)) (fm (t + j)) (reA pa fm X t j) (t + j) (t + j)) := rfl
    have e2 : reF F pa fc fa t (j + 1) = recF (reF F pa fc fa t j) pa fc fa (t + j) := rfl
    have hbj := b01_re (pa := pa) (fc := fc) (fa := fa) hb t j
    have hej := he (t + j) (by omega)
    rw [e1, e2]
    by_cases c : q = t + j
    · subst c
      rw [pk_us]
      exact row_eq (by omega) hn hbj hej (hf _ (by omega)) (fun q hq => ih q (by omega)) ho
    · rw [pk_un c, (rec_at hbj (fun q => by have := (hej.1 q).2; omega) (fun i hi => by have := (hej.2 i hi).2; omega) (r := q) ho).1 c]
      exact ih q hq o ho
theorem re_ref {F pa fc fa : Nat → Int32} {t n : Nat} (hn : n ≤ 12) (hb : b01 F) (he : ∀ s, s < n → erP pa fc fa s) (hr : ∀ s, s < n → ¬ F (12 * s + s) = 0) : ∀ j, t + j ≤ n → ∀ q, q < n → ¬ reF F pa fc fa t j (12 * q + q) = 0
  | 0, _, q, hq => hr q hq
  | j + 1, hj, q, hq => by
    have ih := re_ref (t := t) hn hb he hr j (by omega)
    have e2 : reF F pa fc fa t (j + 1) = recF (reF F pa fc fa t j) pa fc fa (t + j) := rfl
    have hbj := b01_re (pa := pa) (fc := fc) (fa := fa) hb t j
    have hej := he (t + j) (by omega)
    have h := fun r o (ho : o < 12) => rec_at (pa := pa) (fc := fc) (fa := fa) hbj (fun q => by have := (hej.1 q).2; omega) (fun i hi => by have := (hej.2 i hi).2; omega) (r := r) (o := o) ho
    rw [e2]
    by_cases c : q = t + j
    · subst c; exact (h (t + j) (t + j) (by omega)).2.mpr (Or.inl rfl)
    · rw [(h q q (by omega)).1 c]; exact ih q hq
/-- one type's tables and masks -/
def TI1 (σ x : MS) (t : Nat) : Prop := (0 ≤ σ 2 t ∧ σ 2 t ≤ 3) ∧ erP (σ 3) (σ 5) (σ 4) t ∧ okC (σ 5 t) ∧ (∀ i j, i < j → j < (σ 5 t).toNatClampNeg → ¬ σ 4 (3 * t + i) = σ 4 (3 * t + j)) ∧ x 0 t = fmM (σ 4) (3 * t) (σ 5 t).toNatClampNeg
/-- the types' tables and masks -/
def TI (σ x : MS) (n : Nat) : Prop := b01 (σ 6) ∧ (∀ t, t < n → TI1 σ x t) ∧ (∀ t, t < n → ∀ o, o < 12 → (bitP (x 1 t) o ↔ ¬ σ 6 (12 * t + o) = 0)) ∧ ∀ t, t < n → ¬ σ 6 (12 * t + t) = 0
theorem TI1.fb {σ x : MS} {t : Nat} (h : TI1 σ x t) {q : Nat} (hq : q < 12) : bitP (x 0 t) q ↔ ∃ i, i < (σ 5 t).toNatClampNeg ∧ σ 4 (3 * t + i) = nI q := by
  rw [h.2.2.2.2, fm_bit hq (fun i hi => (h.2.1.2 i hi).1)]
theorem TI.ab {σ x : MS} {n : Nat} (h : TI σ x n) (hn : n ≤ 12) : abO σ x n := fun t ht o ho => h.2.2.1 t ht o (by omega)
theorem TI.fa {σ x : MS} {n : Nat} (h : TI σ x n) (hn : n ≤ 12) : faO σ x n := fun t ht o ho => (h.2.1 t ht).fb (by omega)
theorem TI.pa {σ x : MS} {n : Nat} (h : TI σ x n) : ∀ t, t < n → okPa σ t := fun t ht q => ((h.2.1 t ht).2.1.1 q).1
theorem TI.fc {σ x : MS} {n : Nat} (h : TI σ x n) : ∀ t, t < n → okFa σ t := fun t ht => ⟨(h.2.1 t ht).2.2.1, fun i hi => ((h.2.1 t ht).2.1.2 i hi).1⟩
theorem TI.ea {σ x : MS} {n : Nat} (h : TI σ x n) : ∀ t, t < n → eaP σ t := fun t ht => ⟨fun q => ((h.2.1 t ht).2.1.1 q).2, fun i hi => ((h.2.1 t ht).2.1.2 i hi).2⟩
theorem TI.pt {σ x : MS} {n : Nat} (h : TI σ x n) : ∀ s, s < n → ∀ i, i < 12 → σ 3 s = nI i → i < s := fun s hs i hi e => by
  have hne : ¬ σ 3 s = -1 := fun z => by
    rw [e] at z; exact nI_nm1 (by omega) z
  have := ((h.2.1 s hs).2.1.1 hne).2
  rw [e, nI_clamp (by omega)] at this; exact this
theorem TI.bc {σ x : MS} {n : Nat} (h : TI σ x n) {t : Nat} (ht : t < n) : bcF (x 0 t) = σ 5 t := by
  have g := h.2.1 t ht
  rw [g.2.2.2.2, fm_bc g.2.2.1.2 (fun i hi => (g.2.1.2 i hi).1) g.2.2.2.1]; exact g.2.2.1.1.symm
/-- a type more -/
theorem TI_type {σ x : MS} {n : Nat} {sort parent : Int32} (h : TI σ x n) (hn : n < 12) (hs : 0 ≤ sort ∧ sort ≤ 3) (hp : ¬ parent = -1 → okN n parent) :
    TI (st (su (su (su (su (su σ 0 0 0) 2 n sort) 3 n parent) 5 n 0) 1 0 (nI (n + 1))) 6 (recF (σ 6) (upd (σ 3) n parent) (upd (σ 5) n 0) (σ 4) n)) (su (su x 0 n 0) 1 n (abvF parent 0 (x 1) n n)) (n + 1) := by
  have hen : erP (upd (σ 3) n parent) (upd (σ 5) n 0) (σ 4) n := by
    refine ⟨?_, ?_⟩
    · rw [pk_us]; intro q
      obtain ⟨j, hj, rfl⟩ := okN_ex (by omega) (hp q)
      rw [okT, nI_clamp (by omega)]; exact ⟨⟨rfl, by omega⟩, hj⟩
    · rw [pk_us]; intro i hi; exact absurd hi (Nat.not_lt_zero i)
  have hrec := fun r o (ho : o < 12) => rec_at (f := σ 6) (pa := upd (σ 3) n parent) (fc := upd (σ 5) n 0) (fa := σ 4) (t := n) h.1 (fun q => by have := (hen.1 q).2; omega) (fun i hi => by have := (hen.2 i hi).2; omega) (r := r) (o := o) ho
  refine ⟨b01_rec h.1 n, fun t ht => ?_, fun t ht o ho => ?_, fun t ht => ?_⟩
  · by_cases c : t = n
    · subst c
      refine ⟨?_, hen, ?_, ?_, ?_⟩
      · show 0 ≤ upd (σ 2) t sort t ∧ upd (σ 2) t sort t ≤ 3
        rw [pk_us]; exact hs
      · show okC (upd (σ 5) t 0 t)
        rw [pk_us]; exact ⟨rfl, by decide⟩
      · show ∀ i j, i < j → j < (upd (σ 5) t 0 t).toNatClampNeg → _
        rw [pk_us]; intro i j _ hj; exact absurd hj (Nat.not_lt_zero j)
      · show upd (x 0) t 0 t = fmM (σ 4) (3 * t) (upd (σ 5) t 0 t).toNatClampNeg
        rw [pk_us, pk_us]; rfl
    · have g := h.2.1 t (by omega)
      refine ⟨?_, ?_, ?_, ?_, ?_⟩
      · show 0 ≤ upd (σ 2) n sort t ∧ upd (σ 2) n sort t ≤ 3
        rw [pk_un c]; exact g.1
      · show erP (upd (σ 3) n parent) (upd (σ 5) n 0) (σ 4) t
        unfold erP; rw [pk_un c, pk_un c]; exact g.2.1
      · show okC (upd (σ 5) n 0 t)
        rw [pk_un c]; exact g.2.2.1
      · show ∀ i j, i < j → j < (upd (σ 5) n 0 t).toNatClampNeg → ¬ σ 4 (3 * t + i) = σ 4 (3 * t + j)
        rw [pk_un c]; exact g.2.2.2.1
      · show upd (x 0) n 0 t = fmM (σ 4) (3 * t) (upd (σ 5) n 0 t).toNatClampNeg
        rw [pk_un c, pk_un c]; exact g.2.2.2.2
  · show bitP (upd (x 1) n (abvF parent 0 (x 1) n n) t) o ↔ ¬ recF (σ 6) (upd (σ 3) n parent) (upd (σ 5) n 0) (σ 4) n (12 * t + o) = 0
    by_cases c : t = n
    · subst c
      rw [pk_us]
      have := row_eq (F := σ 6) (pa := upd (σ 3) t parent) (fc := upd (σ 5) t 0) (fa := σ 4) (X := x 1) (s := t) (n := t + 1) (fm := 0) (by omega) (by omega) h.1 hen (fun q hq => ⟨fun z => absurd z (bitP_0 (by omega)), fun ⟨i, hi, _⟩ => absurd (show i < 0 by rw [pk_us] at hi; exact hi) (Nat.not_lt_zero i)⟩) (fun q hq o ho => h.2.2.1 q hq o ho) ho
      rw [pk_us] at this; exact this
    · rw [pk_un c, (hrec t o ho).1 c]; exact h.2.2.1 t (by omega) o ho
  · show ¬ recF (σ 6) (upd (σ 3) n parent) (upd (σ 5) n 0) (σ 4) n (12 * t + t) = 0
    by_cases c : t = n
    · subst c; exact (hrec t t (by omega)).2.mpr (Or.inl rfl)
    · rw [(hrec t t (by omega)).1 c]; exact h.2.2.2 t (by omega)
/-- a face more -/
theorem TI_face {σ x : MS} {n t jf : Nat} (h : TI σ x n) (hn : n ≤ 12) (ht : t < n) (hjf : jf < t) (hnew : ¬ ∃ i, i < (σ 5 t).toNatClampNeg ∧ σ 4 (3 * t + i) = nI jf) (h3 : ¬ (σ 5 t).toNatClampNeg = 3) :
    TI (st (su (su (su σ 0 0 0) 4 (3 * t + (σ 5 t).toNatClampNeg) (nI jf)) 5 t (nI ((σ 5 t).toNatClampNeg + 1))) 6
      (reF (σ 6) (σ 3) (upd (σ 5) t (nI ((σ 5 t).toNatClampNeg + 1))) (upd (σ 4) (3 * t + (σ 5 t).toNatClampNeg) (nI jf)) t (n - t)))
      (st (su x 0 t (x 0 t ||| 1 <<< (nI jf &&& 31))) 1 (reA (σ 3) (upd (x 0) t (x 0 t ||| 1 <<< (nI jf &&& 31))) (x 1) t (n - t))) n := by
  have g := h.2.1 t ht
  have hc3 := g.2.2.1.2
  have hcl : (nI ((σ 5 t).toNatClampNeg + 1)).toNatClampNeg = (σ 5 t).toNatClampNeg + 1 := nI_clamp (by omega)
  have T1 : ∀ s, s < n → (0 ≤ σ 2 s ∧ σ 2 s ≤ 3) ∧ erP (σ 3) (upd (σ 5) t (nI ((σ 5 t).toNatClampNeg + 1))) (upd (σ 4) (3 * t + (σ 5 t).toNatClampNeg) (nI jf)) s ∧ okC (upd (σ 5) t (nI ((σ 5 t).toNatClampNeg + 1)) s) ∧ (∀ i j, i < j → j < (upd (σ 5) t (nI ((σ 5 t).toNatClampNeg + 1)) s).toNatClampNeg → ¬ upd (σ 4) (3 * t + (σ 5 t).toNatClampNeg) (nI jf) (3 * s + i) = upd (σ 4) (3 * t + (σ 5 t).toNatClampNeg) (nI jf) (3 * s + j)) ∧ upd (x 0) t (x 0 t ||| 1 <<< (nI jf &&& 31)) s = fmM (upd (σ 4) (3 * t + (σ 5 t).toNatClampNeg) (nI jf)) (3 * s) (upd (σ 5) t (nI ((σ 5 t).toNatClampNeg + 1)) s).toNatClampNeg := by
    intro s hs
    have gs := h.2.1 s hs
    by_cases c : s = t
    · subst c
      unfold erP
      rw [pk_us, hcl]
      refine ⟨gs.1, ⟨gs.2.1.1, fun i hi => ?_⟩, ⟨by rw [hcl], by rw [hcl]; omega⟩, fun i j hij hj => ?_, ?_⟩
      · by_cases d : i = (σ 5 s).toNatClampNeg
        · rw [d, pk_us, okT, nI_clamp (by omega)]; exact ⟨⟨rfl, by omega⟩, hjf⟩
        · rw [pk_un (by omega)]; exact gs.2.1.2 i (by omega)
      · rw [pk_un (show 3 * s + i ≠ _ by omega)]
        by_cases d : j = (σ 5 s).toNatClampNeg
        · rw [d, pk_us]; exact fun q => hnew ⟨i, by omega, q⟩
        · rw [pk_un (by omega)]; exact gs.2.2.2.1 i j hij (by omega)
      · rw [pk_us]
        show _ = fmM (upd (σ 4) (3 * s + (σ 5 s).toNatClampNeg) (nI jf)) (3 * s) (σ 5 s).toNatClampNeg ||| 1 <<< (upd (σ 4) (3 * s + (σ 5 s).toNatClampNeg) (nI jf) (3 * s + (σ 5 s).toNatClampNeg) &&& 31)
        rw [pk_us, fm_upd (fun i hi => by omega), ← gs.2.2.2.2]
    · have hcs := gs.2.2.1.2
      unfold erP
      rw [pk_un c]
      refine ⟨gs.1, ⟨gs.2.1.1, fun i hi => ?_⟩, gs.2.2.1, fun i j hij hj => ?_, ?_⟩
      · rw [pk_un (by omega)]; exact gs.2.1.2 i hi
      · rw [pk_un (by omega), pk_un (by omega)]; exact gs.2.2.2.1 i j hij hj
      · rw [pk_un c, fm_upd (fun i hi => by omega)]; exact gs.2.2.2.2
  have hfb : ∀ s, s < n → ∀ q, q < 12 → (bitP (upd (x 0) t (x 0 t ||| 1 <<< (nI jf &&& 31)) s) q ↔ ∃ i, i < (upd (σ 5) t (nI ((σ 5 t).toNatClampNeg + 1)) s).toNatClampNeg ∧ upd (σ 4) (3 * t + (σ 5 t).toNatClampNeg) (nI jf) (3 * s + i) = nI q) := fun s hs q hq => by
    rw [(T1 s hs).2.2.2.2, fm_bit hq (fun i hi => ((T1 s hs).2.1.2 i hi).1)]
  refine ⟨b01_re h.1 t _, fun s hs => T1 s hs, fun s hs o ho => ?_, fun s hs => ?_⟩
  · exact re_eq (t := t) hn h.1 (fun s hs => (T1 s hs).2.1) hfb (fun q hq o ho => h.2.2.1 q hq o ho) (n - t) (by omega) s hs o ho
  · exact re_ref (t := t) hn h.1 (fun s hs => (T1 s hs).2.1) h.2.2.2 (n - t) (by omega) s hs
/-- a face: the class and the reference answer the same -/
theorem face_eq {σ x : MS} {τ : Nat → Int64} {n k : Nat} {t f : Int32} (h : TI σ x n) (hn : n ≤ 12) (h7 : σ 7 0 = nI k) (hk : k ≤ 60) : (cfa σ x n k t f).1 = (oFace σ τ n k t f).1 ∧ TI (oFace σ τ n k t f).2.1 (cfa σ x n k t f).2 n := by
  have TI0 : TI (su σ 0 0 0) x n := h
  unfold cfa oFace
  by_cases a1 : okN n t
  · by_cases a2 : okN n f
    · obtain ⟨jt, hjt, rfl⟩ := okN_ex (by omega) a1
      obtain ⟨jf, hjf, rfl⟩ := okN_ex (by omega) a2
      simp only [nI_clamp (show jt < 2 ^ 31 by omega), nI_clamp (show jf < 2 ^ 31 by omega), soF_n hn hjf]
      by_cases a3 : σ 2 jf = 3
      · have c1 : ¬ (¬ okN n (nI jt) ∨ ¬ σ 2 jf = 3) := fun q => q.elim (fun z => z a1) (fun z => z a3)
        have c2 : ¬ (¬ okN n (nI jt) ∨ ¬ okN n (nI jf) ∨ ¬ σ 2 jf = 3) := fun q => q.elim (fun z => z a1) (fun q => q.elim (fun z => z a2) (fun z => z a3))
        rw [if_neg c1, if_neg c2]
        have hlt : (nI jf < nI jt) ↔ jf < jt := nI_ltI (by omega) (by omega)
        by_cases a4 : jf < jt
        · have c3 : ¬ ¬ nI jf < nI jt := fun q => q (hlt.mpr a4)
          have c4 : ¬ ¬ jf < jt := fun q => q a4
          rw [if_neg c3, if_neg c4]
          have hbit : bitN (x 0) n (nI jt) (nI jf) ↔ ∃ i, i < (σ 5 jt).toNatClampNeg ∧ σ 4 (3 * jt + i) = nI jf := by
            rw [bitN_n hn hjt hjf]; exact (h.2.1 jt hjt).fb (by omega)
          have h70 : 0 < σ 7 0 ↔ 0 < k := by rw [h7]; exact nI_ltI (a := 0) (by decide) (by omega)
          have h5' : (bitN (x 0) n (nI jt) (nI jf) ∨ 0 < σ 7 0 ∨ ¬ σ 21 0 = 0) ↔ ((∃ i, i < (σ 5 jt).toNatClampNeg ∧ σ 4 (3 * jt + i) = nI jf) ∨ 0 < k ∨ ¬ σ 21 0 = 0) := or_congr hbit (or_congr h70 Iff.rfl)
          by_cases a5 : (∃ i, i < (σ 5 jt).toNatClampNeg ∧ σ 4 (3 * jt + i) = nI jf) ∨ 0 < k ∨ ¬ σ 21 0 = 0
          · rw [if_pos (h5'.mpr a5), if_pos a5]; exact ⟨rfl, TI0⟩
          · rw [if_neg (fun q => a5 (h5'.mp q)), if_neg a5, h.bc hjt]
            have hc := (h.2.1 jt hjt).2.2.1
            have h5 : (¬ σ 5 jt < 3) ↔ (σ 5 jt).toNatClampNeg = 3 := by
              rw [hc.1, show (3 : Int32) = nI 3 from rfl, nI_ltI (by have := hc.2; omega) (by decide), nI_clamp (by have := hc.2; omega)]
              have := hc.2; omega
            by_cases a6 : (σ 5 jt).toNatClampNeg = 3
            · rw [if_pos (h5.mpr a6), if_pos a6]; exact ⟨rfl, TI0⟩
            · rw [if_neg (fun q => a6 (h5.mp q)), if_neg a6]
              have T := TI_face h hn hjt a4 (fun q => a5 (Or.inl q)) a6
              refine ⟨?_, T⟩
              have e : bcF (upd (x 0) jt (x 0 jt ||| 1 <<< (nI jf &&& 31)) jt) = upd (σ 5) jt (nI ((σ 5 jt).toNatClampNeg + 1)) jt := T.bc hjt
              rw [pk_us, pk_us] at e; exact e
        · have c3 : ¬ nI jf < nI jt := fun q => a4 (hlt.mp q)
          rw [if_pos c3, if_pos a4]; exact ⟨rfl, TI0⟩
      · rw [if_pos (Or.inr a3), if_pos (Or.inr (Or.inr a3))]; exact ⟨rfl, TI0⟩
    · rw [if_pos (Or.inr (by unfold soF; rw [if_neg a2]; decide)), if_pos (Or.inr (Or.inl a2))]; exact ⟨rfl, TI0⟩
  · rw [if_pos (Or.inl a1), if_pos (Or.inl a1)]; exact ⟨rfl, TI0⟩
/-- a type: the tables and masks are in order again -/
theorem type_eq {σ x : MS} {τ : Nat → Int64} {n : Nat} {sort parent : Int32} (h : TI σ x n) (hn : n ≤ 12) : (0 ≤ (oType σ τ n sort parent).1 ∧ n < 12 ∧ (oType σ τ n sort parent).1 = nI n ∧ (oType σ τ n sort parent).2.1 1 0 = nI (n + 1) ∧ TI (oType σ τ n sort parent).2.1 (xTy σ x τ n sort parent) (n + 1)) ∨ (¬ 0 ≤ (oType σ τ n sort parent).1 ∧ (oType σ τ n sort parent).2.1 = su σ 0 0 0 ∧ xTy σ x τ n sort parent = x ∧ TI (oType σ τ n sort parent).2.1 x n) := by
  unfold xTy oType
  by_cases a1 : 0 ≤ sort ∧ sort ≤ 3
  · rw [if_neg (fun q => q a1)]
    by_cases a2 : ¬ parent = -1 ∧ (sort = 3 ∨ ¬ okN n parent ∨ ¬ σ 2 parent.toNatClampNeg ≤ 1)
    · rw [if_pos a2]; exact Or.inr ⟨(show ¬ (0 : Int32) ≤ -11 by decide), rfl, if_neg (show ¬ (0 : Int32) ≤ -11 by decide), h⟩
    · rw [if_neg a2]
      by_cases a3 : n = 12
      · rw [if_pos a3]; exact Or.inr ⟨(show ¬ (0 : Int32) ≤ -15 by decide), rfl, if_neg (show ¬ (0 : Int32) ≤ -15 by decide), h⟩
      · rw [if_neg a3, if_pos (nI_pos' (by omega))]
        refine Or.inl ⟨nI_pos' (by omega), by omega, rfl, rfl, TI_type h (by omega) a1 (fun q => Decidable.of_not_not (fun z => a2 ⟨q, Or.inr (Or.inl z)⟩))⟩
  · rw [if_pos a1]; exact Or.inr ⟨(show ¬ (0 : Int32) ≤ -13 by decide), rfl, if_neg (show ¬ (0 : Int32) ≤ -13 by decide), h⟩
/-- what several finds come to -/
def Jn (S : Int32 → Prop) (r : Int32) : Prop := (r = -1 ∧ ∀ e, S e → e = -1) ∨ (¬ r = -1 ∧ ¬ r = -2 ∧ S r ∧ ∀ e, S e → e = -1 ∨ e = r) ∨ (r = -2 ∧ (S (-2) ∨ ∃ a b, S a ∧ S b ∧ ¬ a = -1 ∧ ¬ b = -1 ∧ ¬ a = b))
theorem m12 : ¬ (-1 : Int32) = -2 := by decide
theorem m21 : ¬ (-2 : Int32) = -1 := by decide
theorem Jn_one (a : Int32) : Jn (fun e => e = a) a := by
  by_cases h : a = -1
  · exact Or.inl ⟨h, fun e he => he.trans h⟩
  · by_cases h2 : a = -2
    · exact Or.inr (Or.inr ⟨h2, Or.inl h2.symm⟩)
    · exact Or.inr (Or.inl ⟨h, h2, rfl, fun e he => Or.inr he⟩)
theorem Jn_step {S : Int32 → Prop} {r b : Int32} (h : Jn S r) : Jn (fun e => S e ∨ e = b) (bothF r b) := by
  unfold bothF
  rcases h with ⟨h1, h2⟩ | ⟨h1, h2, h3, h4⟩ | ⟨h1, h2⟩
  · rw [if_pos h1]
    by_cases c1 : b = -1
    · exact Or.inl ⟨c1, fun e he => he.elim (h2 e) (fun q => q.trans c1)⟩
    · by_cases c2 : b = -2
      · exact Or.inr (Or.inr ⟨c2, Or.inl (Or.inr c2.symm)⟩)
      · exact Or.inr (Or.inl ⟨c1, c2, Or.inr rfl, fun e he => he.elim (fun q => Or.inl (h2 e q)) Or.inr⟩)
  · rw [if_neg h1]
    by_cases c : b = -1 ∨ r = b
    · rw [if_pos c]
      refine Or.inr (Or.inl ⟨h1, h2, Or.inl h3, fun e he => he.elim (h4 e) (fun q => ?_)⟩)
      rcases c with c | c
      · exact Or.inl (q.trans c)
      · exact Or.inr (q.trans c.symm)
    · rw [if_neg c]
      exact Or.inr (Or.inr ⟨rfl, Or.inr ⟨r, b, Or.inl h3, Or.inr rfl, h1, fun q => c (Or.inl q), fun q => c (Or.inr q)⟩⟩)
  · have hr : Jn (fun e => S e ∨ e = b) (-2) := Or.inr (Or.inr ⟨rfl, h2.elim (fun q => Or.inl (Or.inl q)) (fun ⟨x, y, q1, q2, q3⟩ => Or.inr ⟨x, y, Or.inl q1, Or.inl q2, q3⟩)⟩)
    rw [if_neg (by rw [h1]; exact m21)]
    split
    · rw [h1]; exact hr
    · exact hr
theorem Jn_congr {S S' : Int32 → Prop} {r : Int32} (h : ∀ e, S e ↔ S' e) (hj : Jn S r) : Jn S' r := by
  have : S = S' := funext (fun e => propext (h e))
  rw [← this]; exact hj
theorem Jn_uniq {S : Int32 → Prop} {r r' : Int32} (h : Jn S r) (h' : Jn S r') : r = r' := by
  rcases h with ⟨h1, h2⟩ | ⟨h1, h2, h3, h4⟩ | ⟨h1, h2⟩ <;> rcases h' with ⟨g1, g2⟩ | ⟨g1, g2, g3, g4⟩ | ⟨g1, g2⟩
  · rw [h1, g1]
  · exact absurd (h2 _ g3) g1
  · rcases g2 with q | ⟨a, b, q1, q2, q3, q4, q5⟩
    · exact absurd (h2 _ q) m21
    · exact absurd (h2 _ q1) q3
  · exact absurd (g2 _ h3) h1
  · exact (g4 _ h3).elim (fun q => absurd q h1) id
  · rcases g2 with q | ⟨a, b, q1, q2, q3, q4, q5⟩
    · exact (h4 _ q).elim (fun z => absurd z m21) (fun z => absurd z.symm h2)
    · exact absurd (((h4 _ q1).resolve_left q3).trans ((h4 _ q2).resolve_left q4).symm) q5
  · rcases h2 with q | ⟨a, b, q1, q2, q3, q4, q5⟩
    · exact absurd (g2 _ q) m21
    · exact absurd (g2 _ q1) q3
  · rcases h2 with q | ⟨a, b, q1, q2, q3, q4, q5⟩
    · exact (g4 _ q).elim (fun z => absurd z m21) (fun z => absurd z.symm g2)
    · exact absurd (((g4 _ q1).resolve_left q3).trans ((g4 _ q2).resolve_left q4).symm) q5
  · rw [h1, g1]
theorem Jn_in {S : Int32 → Prop} {r : Int32} (h : Jn S r) (h1 : ¬ r = -1) (h2 : ¬ r = -2) : S r := by
  rcases h with h | h | h
  · exact absurd h.1 h1
  · exact h.2.2.1
  · exact absurd h.1 h2
theorem Jn_cb {m : Int32} {T : Nat → Int32} {a : Int32} : ∀ t, Jn (fun e => e = a ∨ ∃ f, f < t ∧ bitP m f ∧ e = T f) (cbF m T a t)
  | 0 => Jn_congr (fun e => ⟨Or.inl, fun h => h.elim id (fun ⟨f, hf, _⟩ => absurd hf (Nat.not_lt_zero f))⟩) (Jn_one a)
  | t + 1 => by
    have ih := Jn_cb (m := m) (T := T) (a := a) t
    show Jn _ (if bitP m t then bothF (cbF m T a t) (T t) else cbF m T a t)
    by_cases c : bitP m t
    · rw [if_pos c]
      refine Jn_congr (fun e => ⟨?_, ?_⟩) (Jn_step ih)
      · rintro ((h | ⟨f, hf, h⟩) | h)
        · exact Or.inl h
        · exact Or.inr ⟨f, by omega, h⟩
        · exact Or.inr ⟨t, by omega, c, h⟩
      · rintro (h | ⟨f, hf, h⟩)
        · exact Or.inl (Or.inl h)
        · by_cases q : f = t
          · rw [q] at h; exact Or.inr h.2
          · exact Or.inl (Or.inr ⟨f, by omega, h⟩)
    · rw [if_neg c]
      refine Jn_congr (fun e => ⟨?_, ?_⟩) ih
      · rintro (h | ⟨f, hf, h⟩)
        · exact Or.inl h
        · exact Or.inr ⟨f, by omega, h⟩
      · rintro (h | ⟨f, hf, h⟩)
        · exact Or.inl h
        · by_cases q : f = t
          · rw [q] at h; exact absurd h.1 c
          · exact Or.inr ⟨f, by omega, h⟩
theorem Jn_bf {σ : MS} {T : Nat → Int32} {t : Nat} {a : Int32} : ∀ c, Jn (fun e => e = a ∨ ∃ i, i < c ∧ e = T (σ 4 (3 * t + i)).toNatClampNeg) (bfF σ T t a c)
  | 0 => Jn_congr (fun e => ⟨Or.inl, fun h => h.elim id (fun ⟨f, hf, _⟩ => absurd hf (Nat.not_lt_zero f))⟩) (Jn_one a)
  | c + 1 => by
    refine Jn_congr (fun e => ⟨?_, ?_⟩) (Jn_step (Jn_bf (σ := σ) (T := T) (t := t) (a := a) c))
    · rintro ((h | ⟨f, hf, h⟩) | h)
      · exact Or.inl h
      · exact Or.inr ⟨f, by omega, h⟩
      · exact Or.inr ⟨c, by omega, h⟩
    · rintro (h | ⟨f, hf, h⟩)
      · exact Or.inl (Or.inl h)
      · by_cases q : f = c
        · rw [q] at h; exact Or.inr h
        · exact Or.inl (Or.inr ⟨f, by omega, h⟩)
theorem fnd_spec {P : Nat → Prop} [DecidablePred P] : ∀ (f i : Nat), fnd P f i = -1 ∨ ∃ j, i ≤ j ∧ j < i + f ∧ P j ∧ fnd P f i = nI j
  | 0, _ => Or.inl rfl
  | f + 1, i => by
    unfold fnd
    by_cases h : P i
    · rw [if_pos h]; exact Or.inr ⟨i, Nat.le_refl _, by omega, h, rfl⟩
    · rw [if_neg h]
      rcases fnd_spec (P := P) f (i + 1) with q | ⟨j, h1, h2, h3, h4⟩
      · exact Or.inl q
      · exact Or.inr ⟨j, by omega, by omega, h3, h4⟩
/-- a find, of a type up to t -/
abbrev gdV (σ : MS) (K t : Nat) (v : Int32) : Prop := okV K v ∧ (¬ v < 0 → ∃ s, s ≤ t ∧ σ 9 v.toNatClampNeg = nI s)
theorem neg_lt {v : Int32} (h : v = -1 ∨ v = -2) : v < 0 := by rcases h with rfl | rfl <;> decide
/-- one type: the class and the reference find the same -/
theorem sk_step {σ x : MS} {K n t : Nat} {name : Int32} {T T' : Nat → Int32} (h : TI1 σ x t) (ht : t < n) (hn : n ≤ 12) (hK : K ≤ 60) (hT : ∀ i, i < t → T i = T' i) (hg : ∀ i, i < t → gdV σ K i (T' i)) :
    cfV σ K name (x 0 t) T t = skV σ K name T' t ∧ gdV σ K t (skV σ K name T' t) := by
  have hno : ∀ s, s < t → ∀ v, σ 9 v = nI s → ¬ σ 9 v = nI t := fun s hs v e q => by
    rw [e] at q; have := (nI_eq (by omega) (by omega)).mp q; omega
  unfold cfV
  rcases fnd_spec (P := fldP σ (nI t) name) K 0 with q | ⟨j, h1, h2, h3, h4⟩
  · have q' : fld σ K (nI t) name = -1 := q
    rw [if_neg (fun z => z q')]
    -- the start
    have hst : f1V σ K name T' t = cpV σ K T (σ 3 t) ∧ okV K (f1V σ K name T' t) ∧ (¬ f1V σ K name T' t < 0 → ∃ s, s < t ∧ σ 9 (f1V σ K name T' t).toNatClampNeg = nI s) := by
      unfold f1V cpV
      by_cases hp : σ 3 t = -1
      · rw [if_neg (fun z => z.2 hp), q', hp, if_pos (Or.inl (by decide))]
        exact ⟨rfl, Or.inl rfl, fun z => absurd (by decide) z⟩
      · obtain ⟨⟨e1, e2⟩, e3⟩ := h.2.1.1 hp
        have hgp := hg _ e3
        have c1 : ¬ (σ 3 t < 0 ∨ ¬ σ 3 t < 12) := by
          rw [e1, show (12 : Int32) = nI 12 from rfl, nI_ltI (by omega) (by decide), show (0 : Int32) = nI 0 from rfl, nI_ltI (by omega) (by decide)]; omega
        rw [if_pos ⟨q', hp⟩, if_neg c1, hT _ e3]
        unfold paV
        have hok : okN K (T' (σ 3 t).toNatClampNeg) ↔ ¬ T' (σ 3 t).toNatClampNeg < 0 := by
          constructor
          · intro z w; have := (okN_def.mp z).1; simp only [i_le, i_lt, Int32.reduceToInt] at this w; omega
          · intro z; obtain ⟨g1, g2⟩ := okV_n hgp.1 z
            rw [g1]; exact okN_nI (by omega) g2
        by_cases c2 : ¬ T' (σ 3 t).toNatClampNeg < 0 ∧ ¬ σ 13 (T' (σ 3 t).toNatClampNeg).toNatClampNeg &&& 4 = 0
        · rw [if_pos c2, if_pos ⟨hok.mpr c2.1, c2.2⟩]
          exact ⟨rfl, Or.inl rfl, fun z => absurd (by decide) z⟩
        · rw [if_neg c2, if_neg (fun z => c2 ⟨hok.mp z.1, z.2⟩)]
          refine ⟨rfl, hgp.1, fun z => ?_⟩
          obtain ⟨s, hs, e⟩ := hgp.2 z
          exact ⟨s, by omega, e⟩
    obtain ⟨g1, g2, g3⟩ := hst
    have hcond : f1V σ K name T' t = -1 ∨ ¬ σ 9 (if 0 ≤ f1V σ K name T' t then f1V σ K name T' t else 0).toNatClampNeg = nI t ∨ f1V σ K name T' t = -2 := by
      by_cases z : f1V σ K name T' t < 0
      · rcases g2 with w | w | w
        · exact Or.inl w
        · exact Or.inr (Or.inr w)
        · exfalso; rw [w.1, show (0 : Int32) = nI 0 from rfl, nI_ltI (by have := w.2; omega) (by decide)] at z; omega
      · obtain ⟨s, hs, e⟩ := g3 z
        refine Or.inr (Or.inl ?_)
        rw [if_pos (by simp only [i_le, i_lt, Int32.reduceToInt] at z ⊢; omega)]
        exact hno s hs _ e
    unfold skV
    rw [if_pos hcond]
    have hS : ∀ e, (e = cpV σ K T (σ 3 t) ∨ ∃ f, f < t ∧ bitP (x 0 t) f ∧ e = T f) ↔ (e = f1V σ K name T' t ∨ ∃ i, i < (σ 5 t).toNatClampNeg ∧ e = T' (σ 4 (3 * t + i)).toNatClampNeg) := fun e => by
      rw [g1]
      refine or_congr Iff.rfl ⟨?_, ?_⟩
      · rintro ⟨f, hf, hb, he⟩
        obtain ⟨i, hi, w⟩ := (h.fb (by omega)).mp hb
        exact ⟨i, hi, by rw [he, hT f hf, w, nI_clamp (by omega)]⟩
      · rintro ⟨i, hi, he⟩
        obtain ⟨⟨w1, w2⟩, w3⟩ := h.2.1.2 i hi
        exact ⟨_, w3, (h.fb w2).mpr ⟨i, hi, w1⟩, by rw [he, hT _ w3]⟩
    have hJ := Jn_bf (σ := σ) (T := T') (t := t) (a := f1V σ K name T' t) (σ 5 t).toNatClampNeg
    refine ⟨Jn_uniq (Jn_congr hS (Jn_cb (m := x 0 t) (T := T) (a := cpV σ K T (σ 3 t)) t)) hJ, ?_, fun z => ?_⟩
    · exact bfF_ok g2 _ (fun q hq => (hg _ (h.2.1.2 q hq).2).1)
    · have hin := Jn_in hJ (fun w => z (neg_lt (Or.inl w))) (fun w => z (neg_lt (Or.inr w)))
      rcases hin with w | ⟨i, hi, w⟩
      · rw [w] at z ⊢; obtain ⟨s, hs, e⟩ := g3 z; exact ⟨s, by omega, e⟩
      · rw [w] at z ⊢; have w3 := (h.2.1.2 i hi).2
        obtain ⟨s, hs, e⟩ := (hg _ w3).2 z; exact ⟨s, by omega, e⟩
  · have e4 : fld σ K (nI t) name = nI j := h4
    have hne : ¬ fld σ K (nI t) name = -1 := by rw [e4]; exact nI_nm1 (by omega)
    have hne2 : ¬ nI j = -2 := fun z => by
      have h2 := congrArg Int32.toInt z
      rw [n_ti (by omega), show (-2 : Int32).toInt = -2 from by decide] at h2; omega
    rw [if_pos hne]
    have hf1 : f1V σ K name T' t = nI j := by unfold f1V; rw [if_neg (fun z => hne z.1), e4]
    have hcond : ¬ (f1V σ K name T' t = -1 ∨ ¬ σ 9 (if 0 ≤ f1V σ K name T' t then f1V σ K name T' t else 0).toNatClampNeg = nI t ∨ f1V σ K name T' t = -2) := by
      rw [hf1, if_pos (nI_pos' (by omega)), nI_clamp (by omega), h3.2.1]
      rintro (z | z | z)
      · exact nI_nm1 (by omega) z
      · exact z rfl
      · exact hne2 z
    unfold skV
    rw [if_neg hcond, hf1, e4]
    refine ⟨rfl, Or.inr (Or.inr ?_), fun _ => ⟨t, Nat.le_refl _, ?_⟩⟩
    · rw [nI_clamp (by omega)]; exact ⟨rfl, by omega⟩
    · rw [nI_clamp (by omega)]; exact h3.2.1
theorem sk_all {σ x : MS} {K n : Nat} {name : Int32} {f f' : Nat → Int32} (h : TI σ x n) (hn : n ≤ 12) (hK : K ≤ 60) : ∀ t, t ≤ n → ∀ i, i < t → skC σ K name (x 0) f t i = skF σ K name f' t i ∧ gdV σ K i (skF σ K name f' t i)
  | t + 1, ht, i, hi => by
    have ih := sk_all (name := name) (f := f) (f' := f') h hn hK t (by omega)
    have e1 : skC σ K name (x 0) f (t + 1) = upd (skC σ K name (x 0) f t) t (cfV σ K name (x 0 t) (skC σ K name (x 0) f t) t) := rfl
    have e2 : skF σ K name f' (t + 1) = upd (skF σ K name f' t) t (skV σ K name (skF σ K name f' t) t) := rfl
    rw [e1, e2]
    by_cases c : i = t
    · subst c
      rw [pk_us, pk_us]
      exact sk_step (h.2.1 i (by omega)) (by omega) hn hK (fun q hq => (ih q hq).1) (fun q hq => (ih q hq).2)
    · rw [pk_un c, pk_un c]; exact ih i (by omega)
/-- a name that is looked for: the class and the reference answer the same -/
theorem sought_eq {σ x : MS} {τ : Nat → Int64} {n k : Nat} {t name : Int32} (h : TI σ x n) (hn : n ≤ 12) (hk : k ≤ 60) : (cso σ x n k t name).1 = (oSought σ τ n k t name).1 := by
  unfold cso oSought
  by_cases a1 : okN n t
  · have d1 : ¬ ¬ okN n t := fun q => q a1
    rw [if_neg d1, if_neg d1]
    by_cases a2 : 0 ≤ name ∧ name ≤ 49
    · have d2 : ¬ ¬ (0 ≤ name ∧ name ≤ 49) := fun q => q a2
      rw [if_neg d2, if_neg d2]
      obtain ⟨j, hj, rfl⟩ := okN_ex (by omega) a1
      rw [nI_clamp (by omega)]
      have ih := sk_all (name := name) (f := x 2) (f' := σ 29) h hn hk j (by omega)
      show cfV σ k name (x 0 j) (skC σ k name (x 0) (x 2) j) j = upd (skF σ k name (σ 29) j) j (skV σ k name (skF σ k name (σ 29) j) j) j
      rw [pk_us]
      exact (sk_step (h.2.1 j hj) hj hn hk (fun q hq => (ih q hq).1) (fun q hq => (ih q hq).2)).1
    · rw [if_pos a2, if_pos a2]
  · rw [if_pos a1, if_pos a1]
/-- no two members of a type are alike -/
abbrev ND (σ : MS) (k : Nat) : Prop := ∀ a b, a < k → b < k → ¬ σ 8 a = 0 → ¬ σ 8 b = 0 → σ 9 a = σ 9 b → σ 10 a = σ 10 b → sameP σ a b → a = b
theorem ccF_at {σ : MS} {t : Nat} {name : Int32} {f : Nat → Int32} : ∀ {k e : Nat}, e < k → ccF σ t name f k e = bI (¬ σ 8 e = 0 ∧ σ 10 e = name ∧ rcP σ t e)
  | k + 1, e, h => by
    show upd (ccF σ t name f k) k _ e = _
    by_cases q : e = k
    · rw [q, pk_us]
    · rw [pk_un q]; exact ccF_at (by omega)
theorem bI_nz {p : Prop} [Decidable p] : ¬ bI p = 0 ↔ p := by
  by_cases h : p
  · rw [bI_t h]; exact ⟨fun _ => h, fun _ => by decide⟩
  · rw [bI_f h]; exact ⟨fun q => absurd rfl q, fun q => absurd q h⟩
section CL
variable {σ : MS} {k w j : Nat} {name v : Int32} {f3 : Nat → Int32}
theorem can_eq (hj : ¬ σ 6 (12 * j + j) = 0) (hj12 : j < 12) {e : Nat} (he : e < k) : ¬ ccF σ j name f3 k e = 0 ↔ canP σ j name e := by
  rw [ccF_at he, bI_nz, canP_def, rcP_def]
  have h9 : σ 9 e = nI j → tyE σ e = j := fun q => by show (σ 9 e).toNatClampNeg = j; rw [q, nI_clamp (by omega)]
  constructor
  · rintro ⟨h1, h2, h3 | ⟨h3, h4, h5⟩⟩
    · exact ⟨⟨h1, h2, by rw [h9 h3]; exact hj⟩, Or.inl h3⟩
    · exact ⟨⟨h1, h2, h3⟩, Or.inr ⟨Decidable.of_not_not h4, h5⟩⟩
  · rintro ⟨⟨h1, h2, h3⟩, h4 | h4⟩
    · exact ⟨h1, h2, Or.inl h4⟩
    · exact ⟨h1, h2, Or.inr ⟨h3, fun q => q h4.1, h4.2⟩⟩
theorem fg_eq (hd : ND σ k) (hj : ¬ σ 6 (12 * j + j) = 0) (hj12 : j < 12) {e : Nat} (he : e < k) : fgP σ (ccF σ j name f3 k) w v k e ↔ (fnN σ j name e k ∧ tkN σ w e v w) := by
  have hc := fun o (ho : o < k) => can_eq (name := name) (f3 := f3) hj hj12 ho
  rw [fnN_def]
  constructor
  · rintro ⟨h1, h2, h3, h4⟩
    refine ⟨⟨(hc e he).mp h1, fun o ho q => h4 (sfP_def.mpr ⟨o, ho, ?_⟩)⟩, h3⟩
    obtain ⟨q1, q2, q3, q4⟩ := q
    have ce := (canP_def.mp ((hc e he).mp h1)).1
    have co := (canP_def.mp q1).1
    exact ⟨(hc o ho).mpr q1, co.1, fun z => q2 (hd o e ho he co.1 ce.1 z (co.2.1.trans ce.2.1.symm) q4), q3, co.2.1.trans ce.2.1.symm, q4⟩
  · rintro ⟨⟨h1, h2⟩, h3⟩
    refine ⟨(hc e he).mpr h1, (canP_def.mp h1).1.1, h3, fun q => ?_⟩
    obtain ⟨o, ho, q1, q2, q3, q4, q5, q6⟩ := sfP_def.mp q
    exact h2 o ho ⟨(hc o ho).mp q1, fun z => q3 (by rw [z]), q4, q6⟩
theorem nr_refl {e m : Nat} : nrN σ e e v m := nrN_def.mpr (fun _ _ => fitP_def.mpr (Or.inl ⟨rfl, rfl⟩))
theorem pl_eq {a b : Nat} (ha : mtb σ w a v) (hb : mtb σ w b v) : plN σ w a b v = max w (max (mnE σ a) (mnE σ b)) := by
  unfold plN plO
  by_cases h : v = 0
  · rw [mtb, if_neg (fun q => q h)] at ha hb
    rw [if_pos h, if_pos h]; omega
  · rw [if_neg h, if_neg h]; omega
end CL
theorem nI_nm2 {q : Nat} (hq : q < 2 ^ 31) : ¬ nI q = -2 := fun h => by
  have h2 := congrArg Int32.toInt h
  rw [n_ti hq, show (-2 : Int32).toInt = -2 from by decide] at h2; omega
theorem fd_stay {S : MS} {w K : Nat} {v : Int32} {i : Nat} (h : fdF S w v K i = -2) : ∀ d, fdF S w v K (i + d) = -2
  | 0 => h
  | d + 1 => by
    show (if nuN S w v (i + d) K then (if fdF S w v K (i + d) = -1 then nI (i + d) else -2) else fdF S w v K (i + d)) = -2
    rw [fd_stay h d, if_neg m21]; split <;> rfl
theorem nf_fd {S σ : MS} {ft : Nat → Int32} {w K : Nat} {v : Int32} (hK : K ≤ 60) (hQ : ∀ e, e < K → (nuN S w v e K ↔ (¬ ft e = 0 ∧ inP σ ft w e v K))) : ∀ (f i : Nat) (a : Int32), i + f = K → ((fdF S w v K i = -1 ∧ a = -2) ∨ (∃ j, j < 60 ∧ fdF S w v K i = nI j ∧ a = nI j)) → nfF σ ft w v K f i a = if fdF S w v K K = -1 then -2 else fdF S w v K K
  | 0, i, a, hi, h => by
    obtain rfl : i = K := by omega
    rcases h with ⟨h1, h2⟩ | ⟨j, hj, h1, h2⟩
    · rw [if_pos h1]; exact h2
    · rw [if_neg (by rw [h1]; exact nI_nm1 (by omega)), h1]; exact h2
  | f + 1, i, a, hi, h => by
    have ih := nf_fd (S := S) (σ := σ) (ft := ft) (w := w) (v := v) hK hQ f (i + 1)
    have e1 : fdF S w v K (i + 1) = if nuN S w v i K then (if fdF S w v K i = -1 then nI i else -2) else fdF S w v K i := rfl
    unfold nfF
    by_cases c : nuN S w v i K
    · rw [if_pos c] at e1
      rw [if_pos ((hQ i (by omega)).mp c)]
      rcases h with ⟨h1, h2⟩ | ⟨j, hj, h1, h2⟩
      · rw [if_pos h2]; rw [if_pos h1] at e1
        exact ih _ (by omega) (Or.inr ⟨i, by omega, e1, rfl⟩)
      · rw [if_neg (by rw [h2]; exact nI_nm2 (by omega))]
        rw [if_neg (by rw [h1]; exact nI_nm1 (by omega))] at e1
        have := fd_stay e1 f
        rw [show i + 1 + f = K by omega] at this
        rw [this, if_neg m21]
    · rw [if_neg c] at e1
      rw [if_neg (fun q => c ((hQ i (by omega)).mpr q))]
      exact ih a (by omega) (by rw [e1]; exact h)
/-- the nearest: the class and the reference find the same -/
theorem near_eq {σ S : MS} {k w j : Nat} {name v : Int32} {f3 f4 : Nat → Int32} (hd : ND σ k) (hj : ¬ σ 6 (12 * j + j) = 0) (hj12 : j < 12) (hk : k ≤ 60)
    (h31 : ∀ e, e < k → S 31 e = bI (fnN σ j name e k)) (ht : ∀ e v m, tkN S w e v m ↔ tkN σ w e v m) (hnr : ∀ a b v m, nrN S a b v m ↔ nrN σ a b v m) (hpl : ∀ a b v, plN S w a b v = plN σ w a b v) :
    (fgA σ (ccF σ j name f3 k) w v k k → nrA S w k v = nfF σ (fgF σ (ccF σ j name f3 k) w v k f4 k) w v k k 0 (-2) ∧ ¬ nrA S w k v = -1) ∧ (¬ fgA σ (ccF σ j name f3 k) w v k k → nrA S w k v = -1) := by
  have hP : ∀ e, e < k → (tpP S w v e ↔ fgP σ (ccF σ j name f3 k) w v k e) := fun e he => by
    rw [fg_eq hd hj hj12 he]
    unfold tpP; rw [h31 e he, bI_nz, ht]
  have hft : ∀ e, e < k → (¬ fgF σ (ccF σ j name f3 k) w v k f4 k e = 0 ↔ tpP S w v e) := fun e he => by rw [fgF_at he, bI_nz, hP e he]
  have hmt : ∀ e, e < k → tpP S w v e → mtb σ w e v := fun e he h => (tk_iff.mp ((ht _ _ _).mp h.2)).1
  have hQ : ∀ e, e < k → (nuN S w v e k ↔ (¬ fgF σ (ccF σ j name f3 k) w v k f4 k e = 0 ∧ inP σ (fgF σ (ccF σ j name f3 k) w v k f4 k) w e v k)) := fun e he => by
    rw [nuN_def, hft e he, inP_def]
    refine and_congr_right (fun h => ⟨fun q o ho z => ?_, fun q o ho => ?_⟩)
    · have ho' := (hft o ho).mp z
      rw [← pl_eq (hmt e he h) (hmt o ho ho')]
      rcases q o ho with r | r | r
      · rw [r]; exact nr_refl
      · exact absurd ho' r
      · rw [hpl, hnr] at r; exact r
    · by_cases z : tpP S w v o
      · refine Or.inr (Or.inr ?_)
        rw [hpl, hnr, pl_eq (hmt e he h) (hmt o ho z)]
        exact q o ho ((hft o ho).mpr z)
      · exact Or.inr (Or.inl z)
  have hA : fgA σ (ccF σ j name f3 k) w v k k ↔ smN S w v k := by
    rw [fgA_def, smN_def]
    exact ⟨fun ⟨e, he, h⟩ => ⟨e, he, (hP e he).mpr h⟩, fun ⟨e, he, h⟩ => ⟨e, he, (hP e he).mp h⟩⟩
  have hn := nf_fd (S := S) (σ := σ) hk hQ k 0 (-2) (by omega) (Or.inl ⟨rfl, rfl⟩)
  refine ⟨fun h => ?_, fun h => ?_⟩
  · rw [hn]; unfold nrA
    have hs := hA.mp h
    by_cases c : fdF S w v k k = -1
    · rw [if_pos ⟨hs, c⟩, if_pos c]; exact ⟨rfl, m21⟩
    · rw [if_neg (fun q => c q.2), if_neg c]; exact ⟨rfl, c⟩
  · unfold nrA
    rw [if_neg (fun q => h (hA.mpr q.1))]
    have : ∀ m, m ≤ k → fdF S w v k m = -1 := by
      intro m
      induction m with
      | zero => intro _; rfl
      | succ m ih =>
        intro hmk
        show (if nuN S w v m k then _ else fdF S w v k m) = -1
        rw [if_neg (fun q => h (hA.mpr (smN_def.mpr ⟨m, by omega, (nuN_def.mp q).1⟩)))]
        exact ih (by omega)
    exact this k (Nat.le_refl _)
/-- a call: the class and the reference answer the same -/
theorem call_eq {σ x : MS} {τ : Nat → Int64} {n k w : Nat} {t name : Int32} (h : TI σ x n) (hn : n ≤ 12) (hk : k ≤ 60) (hd : ND σ k) :
    (ccl σ x n k w t name).1 = (oCall σ τ n k w t name).1 ∧ (ccl σ x n k w t name).2.1 25 0 = (oCall σ τ n k w t name).2.1 25 0 := by
  unfold ccl oCall
  by_cases a1 : okN n t
  · have d1 : ¬ ¬ okN n t := fun q => q a1
    rw [if_neg d1, if_neg d1]
    by_cases a2 : 0 ≤ name ∧ name ≤ 49
    · have d2 : ¬ ¬ (0 ≤ name ∧ name ≤ 49) := fun q => q a2
      rw [if_neg d2, if_neg d2]
      obtain ⟨j, hj, rfl⟩ := okN_ex (by omega) a1
      rw [nI_clamp (by omega)]
      have N0 := fun f4 => near_eq (σ := σ) (S := caS (su σ 0 0 0) j name k) (k := k) (w := w) (j := j) (name := name) (v := 0) (f3 := x 3) (f4 := f4) hd (h.2.2.2 j hj) (by omega) hk (fun e he => ffF_at (σ := su σ 0 0 0) he) (fun _ _ _ => Iff.rfl) (fun _ _ _ _ => Iff.rfl) (fun _ _ _ => rfl)
      have N1 := fun f4 => near_eq (σ := σ) (S := nrS (caS (su σ 0 0 0) j name k) w k 0) (k := k) (w := w) (j := j) (name := name) (v := 1) (f3 := x 3) (f4 := f4) hd (h.2.2.2 j hj) (by omega) hk (fun e he => ffF_at (σ := su σ 0 0 0) he) (fun _ _ _ => Iff.rfl) (fun _ _ _ _ => Iff.rfl) (fun _ _ _ => rfl)
      by_cases c0 : fgA σ (ccF σ j name (x 3) k) w 0 k k
      · obtain ⟨e1, e2⟩ := (N0 (x 4)).1 c0
        rw [if_pos e2]
        have hA : ccA σ x k w j name = nrA (caS (su σ 0 0 0) j name k) w k 0 := by unfold ccA; rw [if_pos c0, e1]
        refine ⟨hA, ?_⟩
        show ccY σ x k w j name = (if 0 ≤ nrA (caS (su σ 0 0 0) j name k) w k 0 then 1 else 0)
        unfold ccY; rw [hA]
        by_cases z : nrA (caS (su σ 0 0 0) j name k) w k 0 < 0
        · rw [if_pos z, if_neg (fun q => by simp only [i_le, i_lt, Int32.reduceToInt] at q z; omega)]
        · rw [if_neg z, if_pos c0, if_pos (by simp only [i_le, i_lt, Int32.reduceToInt] at z ⊢; omega)]
      · have e0 := (N0 (x 4)).2 c0
        have d3 : ¬ ¬ nrA (caS (su σ 0 0 0) j name k) w k 0 = -1 := fun q => q e0
        rw [if_neg d3]
        have hA : ccA σ x k w j name = nrA (nrS (caS (su σ 0 0 0) j name k) w k 0) w k 1 := by
          unfold ccA; rw [if_neg c0]
          by_cases c1 : fgA σ (ccF σ j name (x 3) k) w 1 k k
          · rw [if_pos c1, ((N1 _).1 c1).1]
          · rw [if_neg c1, (N1 (x 4)).2 c1]
        refine ⟨hA, ?_⟩
        show ccY σ x k w j name = (if 0 ≤ nrA (nrS (caS (su σ 0 0 0) j name k) w k 0) w k 1 then 2 else 0)
        unfold ccY; rw [hA]
        by_cases z : nrA (nrS (caS (su σ 0 0 0) j name k) w k 0) w k 1 < 0
        · rw [if_pos z, if_neg (fun q => by simp only [i_le, i_lt, Int32.reduceToInt] at q z; omega)]
        · rw [if_neg z, if_neg c0, if_pos (by simp only [i_le, i_lt, Int32.reduceToInt] at z ⊢; omega)]
    · rw [if_pos a2, if_pos a2]; exact ⟨rfl, rfl⟩
  · rw [if_pos a1, if_pos a1]; exact ⟨rfl, rfl⟩
