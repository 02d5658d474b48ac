theorem r_1 : ∀ j : Fin 2048, (¬ nI j.val &&& (127 ^^^ (-1)) = 0) ↔ ¬ nI j.val ≤ 127 := by decide +kernel
theorem r_3 : ∀ j : Fin 2048, (¬ bcF (nI j.val &&& 48) ≤ 1) ↔ (¬ nI j.val &&& 16 = 0 ∧ ¬ nI j.val &&& 32 = 0) := by decide +kernel
theorem r_4 : ∀ j : Fin 2048, (¬ nI j.val &&& (-26) = 0) ↔ ¬ nI j.val &&& (-26) ≤ 0 := by decide +kernel
theorem r_5 : ∀ j : Fin 2048, (¬ bcF (nI j.val &&& 7) ≤ 1) ↔ (¬ bitsF (nI j.val &&& 7) 11 ≤ 1) := by decide +kernel
theorem r_6 : ∀ j : Fin 2048, (¬ bcF (nI j.val &&& 1160) ≤ 1) ↔ (1 < bitsF (nI j.val &&& 1160) 11) := by decide +kernel
theorem r_7 : ∀ j : Fin 2048, ¬ (¬ nI j.val &&& 786 = 0 ∨ 1 < bitsF (nI j.val &&& 1160) 11 ∨ (¬ nI j.val &&& 4 = 0 ∧ ¬ nI j.val &&& 1152 = 0)) → ((¬ nI j.val &&& 128 = 0 ∨ ¬ nI j.val &&& 256 = 0 ∨ nI j.val &&& 1036 = 0) ↔ nI j.val &&& 1036 = 0) := by decide +kernel
theorem r_8 : ∀ j : Fin 2048, (¬ nI j.val &&& 128 = 0 ∨ ¬ nI j.val &&& 256 = 0) ↔ ¬ nI j.val &&& 384 = 0 := by decide +kernel
theorem r_9 : ∀ j : Fin 2048, nI j.val ||| fmkF (nI j.val) = (nI j.val ||| (if nI j.val &&& 4 = 0 then 1 else 0)) ||| (if nI j.val &&& 1036 = 0 then 128 else 0) := by decide +kernel
theorem r_ex {m : Int32} (h : 0 ≤ m ∧ m ≤ 2047) : ∃ j : Fin 2048, m = nI j.val := by
  obtain ⟨q, hq, rfl⟩ := nI_of (x := m) (fun z => by have := h.1; simp only [i_le, i_lt, Int32.reduceToInt] at this z; omega)
  exact ⟨⟨q, by have := (nI_leI hq (by decide)).mp (show nI q ≤ nI 2047 from h.2); omega⟩, rfl⟩
/-- the rule that a field breaks -/
theorem rule_f {σ : MS} {k t : Nat} {name kind m : Int32} (h : 0 ≤ m ∧ m ≤ 2047) : (if rfF kind m (bI (σ 2 t = 3)) = 0 ∧ ¬ fld σ k (nI t) name = -1 then 6 else rfF kind m (bI (σ 2 t = 3))) = aRF σ k t name kind m := by
  obtain ⟨j, rfl⟩ := r_ex h
  have f0 : (¬ bI (σ 2 t = 3) = 0 ∧ ¬ nI j.val &&& (-26) = 0) ↔ (σ 2 t = 3 ∧ ¬ nI j.val &&& (-26) ≤ 0) := and_congr bI_nz (r_4 j)
  have e : rfF kind (nI j.val) (bI (σ 2 t = 3)) = if ¬ nI j.val ≤ 127 then 1 else if ¬ bitsF (nI j.val &&& 7) 11 ≤ 1 then 2 else if ¬ nI j.val &&& 16 = 0 ∧ ¬ nI j.val &&& 32 = 0 then 3 else if σ 2 t = 3 ∧ ¬ nI j.val &&& (-26) ≤ 0 then 4 else if kind = 0 then 5 else 0 := by
    unfold rfF
    simp only [r_1 j, r_5 j, r_3 j, f0]
  rw [e]; unfold aRF
  by_cases c1 : ¬ nI j.val ≤ 127
  · rw [if_pos c1, if_pos c1]; rw [if_neg (fun q => absurd q.1 (by decide))]
  · rw [if_neg c1, if_neg c1]
    by_cases c2 : ¬ bitsF (nI j.val &&& 7) 11 ≤ 1
    · rw [if_pos c2, if_pos c2]; rw [if_neg (fun q => absurd q.1 (by decide))]
    · rw [if_neg c2, if_neg c2]
      by_cases c3 : ¬ nI j.val &&& 16 = 0 ∧ ¬ nI j.val &&& 32 = 0
      · rw [if_pos c3, if_pos c3]; rw [if_neg (fun q => absurd q.1 (by decide))]
      · rw [if_neg c3, if_neg c3]
        by_cases c4 : σ 2 t = 3 ∧ ¬ nI j.val &&& (-26) ≤ 0
        · rw [if_pos c4, if_pos c4]; rw [if_neg (fun q => absurd q.1 (by decide))]
        · rw [if_neg c4, if_neg c4]
          by_cases c5 : kind = 0
          · rw [if_pos c5, if_pos c5]; rw [if_neg (fun q => absurd q.1 (by decide))]
          · rw [if_neg c5, if_neg c5]
            by_cases c6 : fld σ k (nI t) name = -1
            · rw [if_neg (fun q => q.2 c6), if_pos c6]
            · rw [if_pos ⟨rfl, c6⟩, if_neg c6]
theorem ra_c {m : Int32} (h : 0 ≤ m ∧ m ≤ 2047) : raF m = if ¬ m &&& 96 = 0 then 11 else if ¬ bitsF (m &&& 7) 11 ≤ 1 then 12 else 0 := by
  obtain ⟨j, rfl⟩ := r_ex h
  unfold raF; simp only [r_5 j]
theorem rb_c {b : Int32} {p : Prop} [Decidable p] : rbF b (bI p) = if bI p = b then (if b = 0 then 17 else 16) else 0 := by
  unfold rbF
  by_cases c : b = bI p
  · rw [if_pos c, if_pos c.symm]
  · rw [if_neg c, if_neg (fun q => c q.symm)]
/-- the rule that a member of a face breaks -/
theorem rule_mf {m body : Int32} (h : 0 ≤ m ∧ m ≤ 2047) : rmfF m body = aRM 3 m body := by
  have hra := ra_c h
  obtain ⟨j, rfl⟩ := r_ex h
  unfold rmfF aRM
  rw [hra]
  by_cases c1 : ¬ nI j.val &&& 96 = 0
  · rw [if_pos c1, if_pos c1]; rw [if_pos (by decide)]
  · rw [if_neg c1, if_neg c1]
    by_cases c2 : ¬ bitsF (nI j.val &&& 7) 11 ≤ 1
    · rw [if_pos c2, if_pos c2]; rw [if_pos (by decide)]
    · rw [if_neg c2, if_neg c2]
      rw [if_neg (show ¬ ¬ (0 : Int32) = 0 from fun q => q rfl)]
      have hbad : barP (nI j.val) ↔ badF (nI j.val) := by
        rw [barP_def, badF_def]; exact or_congr Iff.rfl (or_congr (r_6 j) Iff.rfl)
      by_cases c3 : badF (nI j.val)
      · rw [if_pos (hbad.mpr c3), if_pos (Or.inl ⟨rfl, c3⟩)]
      · have d3 : ¬ ((3 : Int32) = 3 ∧ badF (nI j.val) ∨ ¬ (3 : Int32) = 3 ∧ ¬ nI j.val &&& 1024 = 0) := fun q => q.elim (fun z => c3 z.2) (fun z => z.1 rfl)
        have d4 : ¬ (¬ (3 : Int32) = 3 ∧ ¬ nI j.val &&& 128 = 0 ∧ ¬ nI j.val &&& 796 = 0) := fun q => q.1 rfl
        have d5 : ¬ (¬ (3 : Int32) = 3 ∧ ¬ nI j.val &&& 128 = 0 ∧ ¬ (3 : Int32) = 1) := fun q => q.1 rfl
        rw [if_neg (fun q => c3 (hbad.mp q)), if_neg d3, if_neg d4, if_neg d5, rb_c]
        have hw : (¬ ¬ nI j.val &&& 1036 = 0) ↔ bare 3 (nI j.val) := by
          rw [Decidable.not_not, bare_def]
          have := r_7 j (fun q => c3 (badF_def.mpr q))
          exact this.symm.trans (or_congr Iff.rfl (or_congr Iff.rfl ⟨fun q => ⟨rfl, q⟩, fun q => q.2⟩))
        rw [bI_c hw]
/-- the rule that a member of a class breaks -/
theorem rule_mc {m body sort : Int32} (h : 0 ≤ m ∧ m ≤ 2047) (h3 : ¬ sort = 3) : rmcF m body (bI (sort = 1)) = aRM sort m body := by
  have hra := ra_c h
  obtain ⟨j, rfl⟩ := r_ex h
  unfold rmcF aRM
  rw [hra]
  by_cases c1 : ¬ nI j.val &&& 96 = 0
  · rw [if_pos c1, if_pos c1]; rw [if_pos (by decide)]
  · rw [if_neg c1, if_neg c1]
    by_cases c2 : ¬ bitsF (nI j.val &&& 7) 11 ≤ 1
    · rw [if_pos c2, if_pos c2]; rw [if_pos (by decide)]
    · rw [if_neg c2, if_neg c2]
      rw [if_neg (show ¬ ¬ (0 : Int32) = 0 from fun q => q rfl)]
      by_cases c3 : nI j.val &&& 1024 = 0
      · have d3 : ¬ (sort = 3 ∧ badF (nI j.val) ∨ ¬ sort = 3 ∧ ¬ nI j.val &&& 1024 = 0) := fun q => q.elim (fun z => h3 z.1) (fun z => z.2 c3)
        have d3' : ¬ ¬ nI j.val &&& 1024 = 0 := fun q => q c3
        rw [if_neg d3', if_neg d3]
        by_cases c4 : ¬ nI j.val &&& 128 = 0 ∧ ¬ nI j.val &&& 796 = 0
        · rw [if_pos c4, if_pos ⟨h3, c4⟩]
        · have d4 : ¬ (¬ sort = 3 ∧ ¬ nI j.val &&& 128 = 0 ∧ ¬ nI j.val &&& 796 = 0) := fun q => c4 q.2
          rw [if_neg c4, if_neg d4]
          have hb1 : bI (sort = 1) = 0 ↔ ¬ sort = 1 := ⟨fun q z => by rw [bI_t z] at q; exact absurd q (by decide), fun q => bI_f q⟩
          by_cases c5 : ¬ nI j.val &&& 128 = 0 ∧ ¬ sort = 1
          · rw [if_pos ⟨c5.1, hb1.mpr c5.2⟩, if_pos ⟨h3, c5⟩]
          · have d5 : ¬ (¬ sort = 3 ∧ ¬ nI j.val &&& 128 = 0 ∧ ¬ sort = 1) := fun q => c5 q.2
            rw [if_neg (fun q => c5 ⟨q.1, hb1.mp q.2⟩), if_neg d5, rb_c]
            have hw : (¬ nI j.val &&& 384 = 0) ↔ bare sort (nI j.val) := by
              rw [bare_def, ← r_8 j]
              exact ⟨fun q => q.elim Or.inl (fun z => Or.inr (Or.inl z)), fun q => q.elim Or.inl (fun q => q.elim Or.inr (fun z => absurd z.1 h3))⟩
            rw [bI_c hw]
      · rw [if_pos c3, if_pos (Or.inr ⟨h3, c3⟩)]
theorem marks_m {m sort : Int32} (h : 0 ≤ m ∧ m ≤ 2047) : (if sort = 3 then m ||| fmkF m else m) = allM sort m := by
  obtain ⟨j, rfl⟩ := r_ex h
  unfold allM; rw [r_9 j]
theorem marks_f {m : Int32} : m ||| 25 = m ||| 1 ||| 8 ||| 16 := by
  rw [Int32.or_assoc, Int32.or_assoc]; rfl
