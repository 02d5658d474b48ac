-- the invariant
/-- what entries and places behind them hold -/
def EI (σ : MS) (n k : Nat) : Prop := (∀ e, e < k → mJ σ n e ∧ 0 ≤ σ 12 e) ∧ ND σ k ∧ (∀ e, okM σ e ∧ (¬ σ 17 e = 0 → 1 ≤ mnE σ e)) ∧ (∀ j, kdO (σ 19 j))
def AI (σ : MS) (n w : Nat) : Prop := ∀ i, i < w → kdn n (σ 23 i)
def TV (σ : MS) (τ κ : Nat → Int64) (k : Nat) : Prop := ∀ e, e < k → σ 8 e = 0 → ¬ σ 14 e = 0 → τ e = tvF (σ 11 e) (κ e)
def BI (σ : MS) (n k : Nat) : Prop := ¬ σ 21 0 = 0 → k < 60 ∧ mI σ n k ∧ 0 ≤ σ 12 k
def NI (σ : MS) (n k w : Nat) : Prop := (σ 1 0 = nI n ∧ n ≤ 12) ∧ (σ 7 0 = nI k ∧ k ≤ 60) ∧ (σ 22 0 = nI w ∧ w ≤ 5)
def IV (σ x : MS) (τ κ : Nat → Int64) (n k w : Nat) : Prop := NI σ n k w ∧ TI σ x n ∧ EI σ n k ∧ AI σ n w ∧ TV σ τ κ k ∧ BI σ n k
theorem IV.cI {σ x : MS} {τ κ : Nat → Int64} {n k w : Nat} (h : IV σ x τ κ n k w) : cI σ x n k w := by
  obtain ⟨⟨⟨a1, a2⟩, ⟨a3, a4⟩, a5, a6⟩, hT, hE, hA, -, -⟩ := h
  exact ⟨a1, a2, a3, a4, a5, a6, hT.ab a2, hT.fa a2, fun e he => (hE.1 e he).1, hA, fun t ht => hT.2.2.2 t ht⟩
theorem kdn_mono {n n' : Nat} {x : Int32} (h : n ≤ n') (hx : kdn n x) : kdn n' x := fun q => ⟨(hx q).1, Nat.lt_of_lt_of_le (hx q).2 h⟩
theorem kdn_O {n : Nat} {x : Int32} (h : n ≤ 12) (hx : kdn n x) : kdO x := fun q => ⟨(hx q).1, Nat.lt_of_lt_of_le (hx q).2 h⟩
theorem kdn_of {n : Nat} {x : Int32} (hn : n ≤ 12) (h : ¬ noK n x) : kdn n x := fun q => by
  have hk : okN n (x - 10) := Decidable.of_not_not (fun z => h (noK_def.mpr ⟨q, z⟩))
  obtain ⟨j, hj, e⟩ := okN_ex (by omega) hk
  have : tyK x = j := by show (x - 10).toNatClampNeg = j; rw [e, nI_clamp (by omega)]
  rw [this]; exact ⟨e, hj⟩
/-- the same entry in two states -/
abbrev seE (σ' σ : MS) (e : Nat) : Prop := σ' 8 e = σ 8 e ∧ σ' 9 e = σ 9 e ∧ σ' 10 e = σ 10 e ∧ σ' 11 e = σ 11 e ∧ σ' 12 e = σ 12 e ∧ σ' 17 e = σ 17 e ∧ σ' 18 e = σ 18 e ∧ ∀ i, i < 5 → σ' 19 (5 * e + i) = σ 19 (5 * e + i) ∧ σ' 20 (5 * e + i) = σ 20 (5 * e + i)
theorem seE.mn {σ' σ : MS} {e : Nat} (h : seE σ' σ e) : mnE σ' e = mnE σ e := by show (σ' 18 e).toNatClampNeg = _; rw [h.2.2.2.2.2.2.1]
theorem seE.pt {σ' σ : MS} {n e : Nat} (h : seE σ' σ e) (hm : okM σ e) (hp : ptO σ n e) : ptO σ' n e := by
  unfold ptO
  rw [h.2.2.2.2.2.1, h.mn]
  exact ⟨hp.1, fun i hi => by rw [(h.2.2.2.2.2.2.2 i (by have := hm.2; omega)).1]; exact hp.2 i hi⟩
theorem seE.ok {σ' σ : MS} {n e : Nat} (h : seE σ' σ e) (g : okEn σ n e ∧ okM σ e ∧ kdn n (σ 11 e)) : okEn σ' n e ∧ okM σ' e ∧ kdn n (σ' 11 e) := by
  refine ⟨?_, ?_, ?_⟩
  · have ht : tyE σ' e = tyE σ e := by show (σ' 9 e).toNatClampNeg = _; rw [h.2.1]
    unfold okEn; rw [ht, h.2.1]; exact g.1
  · unfold okM; rw [h.mn, h.2.2.2.2.2.2.1]; exact g.2.1
  · rw [h.2.2.2.1]; exact g.2.2
theorem seE.mJ {σ' σ : MS} {n n' e : Nat} (h : seE σ' σ e) (hn : n ≤ n') (g : mJ σ n e) : mJ σ' n' e := by
  obtain ⟨g1, g2, g3, g4⟩ := g
  have o := h.ok ⟨g1, g2, g3⟩
  refine ⟨⟨o.1.1, Nat.lt_of_lt_of_le o.1.2 hn⟩, o.2.1, kdn_mono hn o.2.2, fun q => ?_⟩
  have p := h.pt g2 (g4 (by rw [← h.1]; exact q))
  exact ⟨p.1, fun i hi => ⟨kdn_mono hn (p.2 i hi).1, (p.2 i hi).2⟩⟩
theorem seE.mI {σ' σ : MS} {n n' e : Nat} (h : seE σ' σ e) (hn : n ≤ n') (g : mI σ n e) : mI σ' n' e := by
  obtain ⟨g1, g2, g3, g4⟩ := g
  have o := h.ok ⟨g1, g2, g3⟩
  have p := h.pt g2 g4
  exact ⟨⟨o.1.1, Nat.lt_of_lt_of_le o.1.2 hn⟩, o.2.1, kdn_mono hn o.2.2, p.1, fun i hi => ⟨kdn_mono hn (p.2 i hi).1, (p.2 i hi).2⟩⟩
theorem seE.same {σ' σ : MS} {a b : Nat} (h : seE σ' σ a) (g : seE σ' σ b) (hm : okM σ a) : sameP σ' a b ↔ sameP σ a b := by
  rw [sameP_def, sameP_def, h.mn]
  unfold eqN
  rw [h.2.2.2.2.2.2.1, g.2.2.2.2.2.2.1]
  have hm5 := hm.2
  refine and_congr Iff.rfl ⟨fun q j hj => ?_, fun q j hj => ?_⟩
  · have := q j hj
    unfold eqP at this ⊢
    rw [(h.2.2.2.2.2.2.2 j (by omega)).1, (h.2.2.2.2.2.2.2 j (by omega)).2, (g.2.2.2.2.2.2.2 j (by omega)).1, (g.2.2.2.2.2.2.2 j (by omega)).2] at this
    exact this
  · have := q j hj
    unfold eqP at this ⊢
    rw [(h.2.2.2.2.2.2.2 j (by omega)).1, (h.2.2.2.2.2.2.2 j (by omega)).2, (g.2.2.2.2.2.2.2 j (by omega)).1, (g.2.2.2.2.2.2.2 j (by omega)).2]
    exact this
theorem ND_se {σ' σ : MS} {k : Nat} (h : ∀ e, e < k → seE σ' σ e) (hm : ∀ e, okM σ e) (hd : ND σ k) : ND σ' k := by
  intro a b ha hb h1 h2 h3 h4 h5
  have sa := h a ha; have sb := h b hb
  rw [sa.1] at h1; rw [sb.1] at h2; rw [sa.2.1, sb.2.1] at h3; rw [sa.2.2.1, sb.2.2.1] at h4; rw [sa.same sb (hm a)] at h5
  exact hd a b ha hb h1 h2 h3 h4 h5
/-- an answer that changes nothing but the fault -/
theorem IV.q {σ x : MS} {τ κ : Nat → Int64} {n k w : Nat} (h : IV σ x τ κ n k w) (v : Int32) : IV (su σ 0 0 v) x τ κ n k w := h
theorem IV.br {σ x : MS} {τ κ : Nat → Int64} {n k w : Nat} (h : IV σ x τ κ n k w) (r : Nat) : IV (brS (su σ 0 0 0) r) x τ κ n k w := h
theorem IV.type {σ x : MS} {τ κ : Nat → Int64} {n k w : Nat} {sort parent : Int32} (h : IV σ x τ κ n k w) : ∃ n', n ≤ n' ∧ IV (oType σ τ n sort parent).2.1 (xTy σ x τ n sort parent) τ κ n' k w := by
  obtain ⟨hN, hT, hE, hA, hV, hB⟩ := h
  rcases type_eq (τ := τ) (sort := sort) (parent := parent) hT hN.1.2 with ⟨h1, h2, h3, h4, h5⟩ | ⟨h1, h2, h3, h4⟩
  · refine ⟨n + 1, by omega, ?_⟩
    have e : (oType σ τ n sort parent).2.1 = st (su (su (su (su (su σ 0 0 0) 2 n sort) 3 n parent) 5 n 0) 1 0 (nI (n + 1))) 6 (recF (σ 6) (upd (σ 3) n parent) (upd (σ 5) n 0) (σ 4) n) := by
      unfold oType at h1 ⊢
      split
      · rename_i c; rw [if_pos c] at h1; exact absurd h1 (show ¬ (0 : Int32) ≤ -13 by decide)
      · rename_i c; rw [if_neg c] at h1
        split
        · rename_i c; rw [if_pos c] at h1; exact absurd h1 (show ¬ (0 : Int32) ≤ -11 by decide)
        · rename_i c; rw [if_neg c] at h1
          split
          · rename_i c; rw [if_pos c] at h1; exact absurd h1 (show ¬ (0 : Int32) ≤ -15 by decide)
          · rfl
    refine ⟨⟨⟨h4, by omega⟩, ?_, ?_⟩, h5, ?_, ?_, ?_, ?_⟩
    · rw [e]; exact hN.2.1
    · rw [e]; exact hN.2.2
    · rw [e]
      have hse : ∀ e, seE (st (su (su (su (su (su σ 0 0 0) 2 n sort) 3 n parent) 5 n 0) 1 0 (nI (n + 1))) 6 (recF (σ 6) (upd (σ 3) n parent) (upd (σ 5) n 0) (σ 4) n)) σ e := fun e => ⟨rfl, rfl, rfl, rfl, rfl, rfl, rfl, fun i _ => ⟨rfl, rfl⟩⟩
      exact ⟨fun e he => ⟨(hse e).mJ (Nat.le_succ n) (hE.1 e he).1, (hE.1 e he).2⟩, hE.2.1, hE.2.2.1, hE.2.2.2⟩
    · rw [e]; exact fun i hi => kdn_mono (Nat.le_succ n) (hA i hi)
    · rw [e]; exact hV
    · rw [e]
      have hse : seE (st (su (su (su (su (su σ 0 0 0) 2 n sort) 3 n parent) 5 n 0) 1 0 (nI (n + 1))) 6 (recF (σ 6) (upd (σ 3) n parent) (upd (σ 5) n 0) (σ 4) n)) σ k := ⟨rfl, rfl, rfl, rfl, rfl, rfl, rfl, fun i _ => ⟨rfl, rfl⟩⟩
      exact fun q => ⟨(hB q).1, hse.mI (Nat.le_succ n) (hB q).2.1, (hB q).2.2⟩
  · refine ⟨n, Nat.le_refl n, ?_⟩
    rw [h2, h3]
    exact ⟨hN, hT, hE, hA, hV, hB⟩
theorem IV.face {σ x : MS} {τ κ : Nat → Int64} {n k w : Nat} {t f : Int32} (h : IV σ x τ κ n k w) : IV (oFace σ τ n k t f).2.1 (cfa σ x n k t f).2 τ κ n k w := by
  have h0 := h
  obtain ⟨hN, hT, hE, hA, hV, hB⟩ := h
  have hf := (face_eq (τ := τ) (t := t) (f := f) hT hN.1.2 hN.2.1.1 hN.2.1.2).2
  have key : ∀ z, (oFace σ τ n k t f).2.1 = z → NI z n k w → EI z n k → AI z n w → TV z τ κ k → BI z n k → IV (oFace σ τ n k t f).2.1 (cfa σ x n k t f).2 τ κ n k w := by
    rintro z rfl h1 h2 h3 h4 h5; exact ⟨h1, hf, h2, h3, h4, h5⟩
  by_cases c1 : ¬ okN n t ∨ ¬ okN n f ∨ ¬ σ 2 f.toNatClampNeg = 3
  · exact key (su σ 0 0 0) (by unfold oFace; rw [if_pos c1]) hN hE hA hV hB
  · by_cases c2 : ¬ f.toNatClampNeg < t.toNatClampNeg
    · exact key (su σ 0 0 0) (by unfold oFace; rw [if_neg c1, if_pos c2]) hN hE hA hV hB
    · by_cases c3 : (∃ i, i < (σ 5 t.toNatClampNeg).toNatClampNeg ∧ σ 4 (3 * t.toNatClampNeg + i) = f) ∨ 0 < k ∨ ¬ σ 21 0 = 0
      · exact key (su σ 0 0 0) (by unfold oFace; rw [if_neg c1, if_neg c2, if_pos c3]) hN hE hA hV hB
      · by_cases c4 : (σ 5 t.toNatClampNeg).toNatClampNeg = 3
        · exact key (su σ 0 0 0) (by unfold oFace; rw [if_neg c1, if_neg c2, if_neg c3, if_pos c4]) hN hE hA hV hB
        · exact key (st (su (su (su σ 0 0 0) 4 (3 * t.toNatClampNeg + (σ 5 t.toNatClampNeg).toNatClampNeg) f) 5 t.toNatClampNeg (nI ((σ 5 t.toNatClampNeg).toNatClampNeg + 1))) 6 (reF (σ 6) (σ 3) (upd (σ 5) t.toNatClampNeg (nI ((σ 5 t.toNatClampNeg).toNatClampNeg + 1))) (upd (σ 4) (3 * t.toNatClampNeg + (σ 5 t.toNatClampNeg).toNatClampNeg) f) t.toNatClampNeg (n - t.toNatClampNeg))) (by unfold oFace; rw [if_neg c1, if_neg c2, if_neg c3, if_neg c4]) hN hE hA hV hB
theorem IV.arg {σ x : MS} {τ κ : Nat → Int64} {n k w : Nat} {kind d : Int32} (h : IV σ x τ κ n k w) : ∃ w', IV (oArg σ τ n w kind d).2.1 x τ κ n k w' := by
  obtain ⟨hN, hT, hE, hA, hV, hB⟩ := h
  unfold oArg
  by_cases c1 : noK n kind
  · rw [if_pos c1]; exact ⟨w, hN, hT, hE, hA, hV, hB⟩
  · rw [if_neg c1]
    split
    · exact ⟨w, hN, hT, hE, hA, hV, hB⟩
    · split
      · exact ⟨w, hN, hT, hE, hA, hV, hB⟩
      · refine ⟨w + 1, ⟨hN.1, hN.2.1, rfl, by have := hN.2.2.2; omega⟩, hT, hE, fun i hi => ?_, hV, hB⟩
        show kdn n (upd (σ 23) w kind i)
        by_cases q : i = w
        · rw [q, pk_us]; exact kdn_of hN.1.2 c1
        · rw [pk_un q]; exact hA i (by omega)
theorem IV.call {σ x : MS} {τ κ : Nat → Int64} {n k w : Nat} {t name : Int32} (h : IV σ x τ κ n k w) : ∃ w', IV (oCall σ τ n k w t name).2.1 (ccl σ x n k w t name).2.2 τ κ n k w' := by
  have hx : ∀ z : MS, (z 0 = x 0 ∧ z 1 = x 1) → TI σ z n := fun z hz => by
    obtain ⟨-, hT, -⟩ := h
    unfold TI TI1 at hT ⊢; rw [hz.1, hz.2]; exact hT
  have hc : (ccl σ x n k w t name).2.2 0 = x 0 ∧ (ccl σ x n k w t name).2.2 1 = x 1 := by
    unfold ccl; split
    · exact ⟨rfl, rfl⟩
    · split
      · exact ⟨rfl, rfl⟩
      · show (if _ then _ else _ : MS) 0 = x 0 ∧ (if _ then _ else _ : MS) 1 = x 1
        split <;> exact ⟨rfl, rfl⟩
  have hT' := hx _ hc
  obtain ⟨hN, hT, hE, hA, hV, hB⟩ := h
  generalize (ccl σ x n k w t name).2.2 = x' at hT' ⊢
  have z0 : NI (su (su σ 0 0 0) 22 0 0) n k 0 := ⟨hN.1, hN.2.1, rfl, by decide⟩
  unfold oCall
  split
  · exact ⟨w, hN, hT', hE, hA, hV, hB⟩
  · split
    · exact ⟨w, hN, hT', hE, hA, hV, hB⟩
    · split
      · exact ⟨0, z0, hT', hE, fun i hi => absurd hi (Nat.not_lt_zero i), hV, hB⟩
      · exact ⟨0, z0, hT', hE, fun i hi => absurd hi (Nat.not_lt_zero i), hV, hB⟩
theorem IV.sought {σ x : MS} {τ κ : Nat → Int64} {n k w : Nat} {t name : Int32} (h : IV σ x τ κ n k w) : IV (oSought σ τ n k t name).2.1 (cso σ x n k t name).2 τ κ n k w := by
  have hc : (cso σ x n k t name).2 0 = x 0 ∧ (cso σ x n k t name).2 1 = x 1 := by
    unfold cso; split
    · exact ⟨rfl, rfl⟩
    · split <;> exact ⟨rfl, rfl⟩
  have hT' : TI σ (cso σ x n k t name).2 n := by
    obtain ⟨-, hT, -⟩ := h
    unfold TI TI1 at hT ⊢; rw [hc.1, hc.2]; exact hT
  obtain ⟨hN, hT, hE, hA, hV, hB⟩ := h
  unfold oSought
  split
  · exact ⟨hN, hT', hE, hA, hV, hB⟩
  · split <;> exact ⟨hN, hT', hE, hA, hV, hB⟩
theorem IV.clear {σ x : MS} {τ κ κ' : Nat → Int64} {n k w : Nat} (h : IV σ x τ κ n k w) : IV (oClear σ τ k).2.1 x τ κ' 0 0 0 := by
  obtain ⟨hN, hT, hE, hA, hV, hB⟩ := h
  exact ⟨⟨⟨rfl, by decide⟩, ⟨rfl, by decide⟩, rfl, by decide⟩, ⟨hT.1, fun t ht => absurd ht (Nat.not_lt_zero t), fun t ht => absurd ht (Nat.not_lt_zero t), fun t ht => absurd ht (Nat.not_lt_zero t)⟩, ⟨fun e he => absurd he (Nat.not_lt_zero e), fun a b ha => absurd ha (Nat.not_lt_zero a), hE.2.2.1, hE.2.2.2⟩, fun i hi => absurd hi (Nat.not_lt_zero i), fun e he => absurd he (Nat.not_lt_zero e), fun q => absurd (show (0 : Int32) = 0 from rfl) q⟩
theorem le_nn {x : Int32} (h : x ≤ 0) (h2 : 0 ≤ x) : x = 0 := by simp only [i_le, i_eq, Int32.reduceToInt] at *; omega
theorem nz_lt {x : Int32} : ¬ ¬ x ≤ 0 ↔ x ≤ 0 := Decidable.not_not
theorem IV.field {σ x : MS} {τ κ : Nat → Int64} {n k w : Nat} {t name kind d m : Int32} (h : IV σ x τ κ n k w) :
    (¬ 0 ≤ (oField σ τ n k t name kind d m).1 ∧ IV (oField σ τ n k t name kind d m).2.1 x τ κ n k w) ∨
    (0 ≤ (oField σ τ n k t name kind d m).1 ∧ k < 60 ∧ 0 ≤ aRef σ n t name kind d m ∧ (oField σ τ n k t name kind d m).2.1 = su (su (su (layS (su σ 0 0 0) k t name kind d (if σ 2 t.toNatClampNeg = 3 then m ||| 1 ||| 8 ||| 16 else m)) 8 k 0) 14 k 0) 7 0 (nI (k + 1)) ∧ ∀ v, IV (oField σ τ n k t name kind d m).2.1 x τ (vp_updL κ k v) n (k + 1) w) := by
  have h0 := h
  obtain ⟨hN, hT, hE, hA, hV, hB⟩ := h
  unfold oField
  by_cases c1 : 0 ≤ aRef σ n t name kind d m
  · have d1 : ¬ ¬ 0 ≤ aRef σ n t name kind d m := fun q => q c1
    rw [if_neg d1]
    by_cases c2 : ¬ aRF σ k t.toNatClampNeg name kind m ≤ 0
    · rw [if_pos c2]
      refine Or.inl ⟨?_, h0.br _⟩
      have hr := aRF_ok (σ := σ) (k := k) (t := t.toNatClampNeg) (name := name) (kind := kind) (m := m)
      have : ∀ j : Fin 26, ¬ (0 : Int32) ≤ (-40) - nI j.val := by decide
      exact this ⟨_, hr.2⟩
    · rw [if_neg c2]
      obtain ⟨r1, r2, r3, r4, r5, r6, r7, r8, r9, r10⟩ := aRef_ok c1
      have hk : k < 60 := by
        have := hN.2.1.2
        rcases Nat.lt_or_ge k 60 with z | z
        · exact z
        · exact absurd (by rw [hN.2.1.1, show k = 60 by omega]; rfl) r10
      obtain ⟨jt, hjt, rfl⟩ := okN_ex (by have := hN.1.2; omega) r1
      have hn := hN.1.2
      refine Or.inr ⟨nI_pos' (by omega), hk, c1, rfl, fun v => ?_⟩
      generalize (if σ 2 (nI jt).toNatClampNeg = 3 then m ||| 1 ||| 8 ||| 16 else m) = mk
      show IV (su (su (su (layS (su σ 0 0 0) k (nI jt) name kind d mk) 8 k 0) 14 k 0) 7 0 (nI (k + 1))) x τ (vp_updL κ k v) n (k + 1) w
      have hse : ∀ e, e < k → seE (su (su (su (layS (su σ 0 0 0) k (nI jt) name kind d mk) 8 k 0) 14 k 0) 7 0 (nI (k + 1))) σ e := fun e he => by
        have ne : e ≠ k := by omega
        exact ⟨pk_un ne, pk_un ne, pk_un ne, pk_un ne, pk_un ne, rfl, rfl, fun i _ => ⟨rfl, rfl⟩⟩
      refine ⟨⟨hN.1, ⟨rfl, by omega⟩, hN.2.2⟩, hT, ⟨fun e he => ?_, ?_, hE.2.2.1, hE.2.2.2⟩, hA, fun e he h8 h14 => ?_, fun q => absurd r9 q⟩
      · by_cases q : e = k
        · subst q
          have e9 : (su (su (su (layS (su σ 0 0 0) e (nI jt) name kind d mk) 8 e 0) 14 e 0) 7 0 (nI (e + 1))) 9 e = nI jt := pk_us
          have e11 : (su (su (su (layS (su σ 0 0 0) e (nI jt) name kind d mk) 8 e 0) 14 e 0) 7 0 (nI (e + 1))) 11 e = kind := pk_us
          have e12 : (su (su (su (layS (su σ 0 0 0) e (nI jt) name kind d mk) 8 e 0) 14 e 0) 7 0 (nI (e + 1))) 12 e = d := pk_us
          have e8 : (su (su (su (layS (su σ 0 0 0) e (nI jt) name kind d mk) 8 e 0) 14 e 0) 7 0 (nI (e + 1))) 8 e = 0 := pk_us
          refine ⟨⟨?_, (hE.2.2.1 e).1, ?_, fun z => absurd e8 z⟩, ?_⟩
          · unfold okEn tyE; rw [e9, nI_clamp (by omega)]; exact ⟨rfl, hjt⟩
          · rw [e11]; exact kdn_of hn r2
          · rw [e12]; exact r6.1
        · have := hE.1 e (by omega)
          have s := hse e (by omega)
          refine ⟨s.mJ (Nat.le_refl n) this.1, ?_⟩
          rw [s.2.2.2.2.1]; exact this.2
      · intro a b ha hb h1 h2 h3 h4 h5
        have e8 : (su (su (su (layS (su σ 0 0 0) k (nI jt) name kind d mk) 8 k 0) 14 k 0) 7 0 (nI (k + 1))) 8 k = 0 := pk_us
        have ha' : a < k := by
          rcases Nat.lt_or_ge a k with z | z
          · exact z
          · rw [show a = k by omega] at h1; exact absurd e8 h1
        have hb' : b < k := by
          rcases Nat.lt_or_ge b k with z | z
          · exact z
          · rw [show b = k by omega] at h2; exact absurd e8 h2
        exact ND_se hse (fun e => (hE.2.2.1 e).1) hE.2.1 a b ha' hb' h1 h2 h3 h4 h5
      · have e14 : (su (su (su (layS (su σ 0 0 0) k (nI jt) name kind d mk) 8 k 0) 14 k 0) 7 0 (nI (k + 1))) 14 k = 0 := pk_us
        by_cases q : e = k
        · rw [q] at h14; exact absurd e14 h14
        · have s := hse e (by omega)
          have e14' : (su (su (su (layS (su σ 0 0 0) k (nI jt) name kind d mk) 8 k 0) 14 k 0) 7 0 (nI (k + 1))) 14 e = σ 14 e := pk_un q
          rw [s.1] at h8; rw [e14'] at h14; rw [s.2.2.2.1, show vp_updL κ k v e = κ e from if_neg q]
          exact hV e (by omega) h8 h14
  · rw [if_pos c1]; exact Or.inl ⟨c1, h0.q 0⟩
theorem IV.member {σ x : MS} {τ κ : Nat → Int64} {n k w : Nat} {t name kind d m body : Int32} (h : IV σ x τ κ n k w) :
    (¬ (oMember σ τ n k t name kind d m body).1 = 1 ∧ IV (oMember σ τ n k t name kind d m body).2.1 x τ κ n k w ∧ (oMember σ τ n k t name kind d m body).2.1 21 0 = σ 21 0) ∨
    ((oMember σ τ n k t name kind d m body).1 = 1 ∧ k < 60 ∧ σ 21 0 = 0 ∧ 0 ≤ aRef σ n t name kind d m ∧ (oMember σ τ n k t name kind d m body).2.1 = su (su (su (su (layS (su σ 0 0 0) k t name kind d (allM (σ 2 t.toNatClampNeg) m)) 16 k body) 17 k 0) 18 k 0) 21 0 1 ∧ IV (oMember σ τ n k t name kind d m body).2.1 x τ κ n k w) := by
  have h0 := h
  obtain ⟨hN, hT, hE, hA, hV, hB⟩ := h
  unfold oMember
  by_cases c1 : 0 ≤ aRef σ n t name kind d m
  · have d1 : ¬ ¬ 0 ≤ aRef σ n t name kind d m := fun q => q c1
    rw [if_neg d1]
    by_cases c2 : ¬ aRM (σ 2 t.toNatClampNeg) m body ≤ 0
    · rw [if_pos c2]
      refine Or.inl ⟨?_, h0.br _, rfl⟩
      have hr := aRM_ok (sort := σ 2 t.toNatClampNeg) (m := m) (body := body)
      have : ∀ j : Fin 26, ¬ (-40) - nI j.val = 1 := by decide
      exact this ⟨_, hr.2⟩
    · rw [if_neg c2]
      obtain ⟨r1, r2, r3, r4, r5, r6, r7, r8, r9, r10⟩ := aRef_ok c1
      have hk : k < 60 := by
        have := hN.2.1.2
        rcases Nat.lt_or_ge k 60 with z | z
        · exact z
        · exact absurd (by rw [hN.2.1.1, show k = 60 by omega]; rfl) r10
      obtain ⟨jt, hjt, rfl⟩ := okN_ex (by have := hN.1.2; omega) r1
      have hn := hN.1.2
      refine Or.inr ⟨rfl, hk, r9, c1, rfl, ?_⟩
      generalize allM (σ 2 (nI jt).toNatClampNeg) m = mk
      show IV (su (su (su (su (layS (su σ 0 0 0) k (nI jt) name kind d mk) 16 k body) 17 k 0) 18 k 0) 21 0 1) x τ κ n k w
      have hse : ∀ e, e ≠ k → seE (su (su (su (su (layS (su σ 0 0 0) k (nI jt) name kind d mk) 16 k body) 17 k 0) 18 k 0) 21 0 1) σ e := fun e ne => by
        exact ⟨rfl, pk_un ne, pk_un ne, pk_un ne, pk_un ne, pk_un ne, pk_un ne, fun i _ => ⟨rfl, rfl⟩⟩
      have e9 : (su (su (su (su (layS (su σ 0 0 0) k (nI jt) name kind d mk) 16 k body) 17 k 0) 18 k 0) 21 0 1) 9 k = nI jt := pk_us
      have e11 : (su (su (su (su (layS (su σ 0 0 0) k (nI jt) name kind d mk) 16 k body) 17 k 0) 18 k 0) 21 0 1) 11 k = kind := pk_us
      have e12 : (su (su (su (su (layS (su σ 0 0 0) k (nI jt) name kind d mk) 16 k body) 17 k 0) 18 k 0) 21 0 1) 12 k = d := pk_us
      have e17 : (su (su (su (su (layS (su σ 0 0 0) k (nI jt) name kind d mk) 16 k body) 17 k 0) 18 k 0) 21 0 1) 17 k = 0 := pk_us
      have e18 : (su (su (su (su (layS (su σ 0 0 0) k (nI jt) name kind d mk) 16 k body) 17 k 0) 18 k 0) 21 0 1) 18 k = 0 := pk_us
      refine ⟨hN, hT, ⟨fun e he => ?_, ND_se (fun e he => hse e (by omega)) (fun e => (hE.2.2.1 e).1) hE.2.1, fun e => ?_, hE.2.2.2⟩, hA, fun e he h8 h14 => ?_, fun _ => ⟨hk, ⟨?_, ?_, ?_, ?_, ?_⟩, ?_⟩⟩
      · have := hE.1 e he
        have s := hse e (by omega)
        refine ⟨s.mJ (Nat.le_refl n) this.1, ?_⟩
        rw [s.2.2.2.2.1]; exact this.2
      · by_cases q : e = k
        · subst q
          unfold okM mnE; rw [e17, e18]; exact ⟨⟨rfl, by decide⟩, fun z => absurd rfl z⟩
        · have s := hse e q
          have := hE.2.2.1 e
          unfold okM; rw [s.mn, s.2.2.2.2.2.2.1, s.2.2.2.2.2.1]; exact this
      · have s := hse e (by omega)
        rw [s.2.2.2.1]; exact hV e he h8 h14
      · unfold okEn tyE; rw [e9, nI_clamp (by omega)]; exact ⟨rfl, hjt⟩
      · unfold okM mnE; rw [e18]; exact ⟨rfl, by decide⟩
      · rw [e11]; exact kdn_of hn r2
      · rw [e17]; exact fun z => absurd rfl z
      · unfold mnE; rw [e18]; exact fun i hi => absurd hi (Nat.not_lt_zero i)
      · rw [e12]; exact r6.1
  · rw [if_pos c1]; exact Or.inl ⟨fun q => c1 (by rw [show aRef σ n t name kind d m = 1 from q]; decide), h0.q 0, rfl⟩
theorem IV.par {σ x : MS} {τ κ : Nat → Int64} {n k w : Nat} {kind d v : Int32} (h : IV σ x τ κ n k w) : IV (oPar σ τ n k kind d v).2.1 x τ κ n k w ∧ (oPar σ τ n k kind d v).2.1 21 0 = σ 21 0 := by
  have h0 := h
  obtain ⟨hN, hT, hE, hA, hV, hB⟩ := h
  unfold oPar
  split
  · exact ⟨h0.q 0, rfl⟩
  · rename_i c1
    split
    · exact ⟨h0.q 0, rfl⟩
    · rename_i c2
      split
      · exact ⟨h0.q 0, rfl⟩
      · rename_i c3
        split
        · exact ⟨h0.q 0, rfl⟩
        · rename_i c4
          split
          · exact ⟨h0.br 18, rfl⟩
          · split
            · exact ⟨h0.br 19, rfl⟩
            · split
              · exact ⟨h0.br 20, rfl⟩
              · obtain ⟨b1, b2, b3⟩ := hB c1
                have hm := b2.2.1
                have hn := hN.1.2
                have h9 : ¬ kind = 9 := fun z => c3 (Or.inr (Or.inl z))
                refine ⟨?_, rfl⟩
                show IV (su (su (su (su (su σ 0 0 0) 19 (5 * k + mnE σ k) kind) 20 (5 * k + mnE σ k) d) 17 k v) 18 k (nI (mnE σ k + 1))) x τ κ n k w
                have hse : ∀ e, e < k → seE (su (su (su (su (su σ 0 0 0) 19 (5 * k + mnE σ k) kind) 20 (5 * k + mnE σ k) d) 17 k v) 18 k (nI (mnE σ k + 1))) σ e := fun e he =>
                  ⟨rfl, rfl, rfl, rfl, rfl, pk_un (by omega), pk_un (by omega), fun i hi => ⟨pk_un (by omega), pk_un (by omega)⟩⟩
                have e17 : (su (su (su (su (su σ 0 0 0) 19 (5 * k + mnE σ k) kind) 20 (5 * k + mnE σ k) d) 17 k v) 18 k (nI (mnE σ k + 1))) 17 k = v := pk_us
                have e18 : (su (su (su (su (su σ 0 0 0) 19 (5 * k + mnE σ k) kind) 20 (5 * k + mnE σ k) d) 17 k v) 18 k (nI (mnE σ k + 1))) 18 k = nI (mnE σ k + 1) := pk_us
                have e19 : ∀ j, (su (su (su (su (su σ 0 0 0) 19 (5 * k + mnE σ k) kind) 20 (5 * k + mnE σ k) d) 17 k v) 18 k (nI (mnE σ k + 1))) 19 j = upd (σ 19) (5 * k + mnE σ k) kind j := fun j => rfl
                have emn : mnE (su (su (su (su (su σ 0 0 0) 19 (5 * k + mnE σ k) kind) 20 (5 * k + mnE σ k) d) 17 k v) 18 k (nI (mnE σ k + 1))) k = mnE σ k + 1 := by
                  show ((su (su (su (su (su σ 0 0 0) 19 (5 * k + mnE σ k) kind) 20 (5 * k + mnE σ k) d) 17 k v) 18 k (nI (mnE σ k + 1))) 18 k).toNatClampNeg = _
                  rw [e18, nI_clamp (by have := hm.2; omega)]
                have hmk : okM (su (su (su (su (su σ 0 0 0) 19 (5 * k + mnE σ k) kind) 20 (5 * k + mnE σ k) d) 17 k v) 18 k (nI (mnE σ k + 1))) k := by
                  unfold okM; rw [emn, e18]; exact ⟨rfl, by have := hm.2; omega⟩
                refine ⟨hN, hT, ⟨fun e he => ?_, ND_se hse (fun e => (hE.2.2.1 e).1) hE.2.1, fun e => ?_, fun j => ?_⟩, hA, hV, fun _ => ⟨b1, ⟨b2.1, hmk, b2.2.2.1, ?_, fun i hi => ?_⟩, b3⟩⟩
                · exact ⟨(hse e he).mJ (Nat.le_refl n) (hE.1 e he).1, (hE.1 e he).2⟩
                · by_cases q : e = k
                  · rw [q]; exact ⟨hmk, fun _ => by rw [emn]; omega⟩
                  · have ne18 : (su (su (su (su (su σ 0 0 0) 19 (5 * k + mnE σ k) kind) 20 (5 * k + mnE σ k) d) 17 k v) 18 k (nI (mnE σ k + 1))) 18 e = σ 18 e := pk_un q
                    have ne17 : (su (su (su (su (su σ 0 0 0) 19 (5 * k + mnE σ k) kind) 20 (5 * k + mnE σ k) d) 17 k v) 18 k (nI (mnE σ k + 1))) 17 e = σ 17 e := pk_un q
                    unfold okM mnE; rw [ne18, ne17]; exact hE.2.2.1 e
                · rw [e19]
                  by_cases q : j = 5 * k + mnE σ k
                  · rw [q, pk_us]; exact kdn_O hn (kdn_of hn c2)
                  · rw [pk_un q]; exact hE.2.2.2 j
                · intro _; rw [emn]; omega
                · rw [emn] at hi; rw [e19]
                  by_cases q : i = mnE σ k
                  · rw [q, pk_us]; exact ⟨kdn_of hn c2, h9⟩
                  · rw [pk_un (by omega)]; exact b2.2.2.2.2 i (by omega)
theorem IV.end_ {σ x : MS} {τ κ : Nat → Int64} {n k w : Nat} (h : IV σ x τ κ n k w) :
    (¬ 0 ≤ (oEnd σ τ k).1 ∧ IV (oEnd σ τ k).2.1 x τ κ n k w ∧ (oEnd σ τ k).2.1 21 0 = 0) ∨
    (0 ≤ (oEnd σ τ k).1 ∧ ¬ σ 21 0 = 0 ∧ (oEnd σ τ k).2.1 = su (su (su (su (su σ 0 0 0) 21 0 0) 28 k (fnd (fun b => meetP σ k b) k 0)) 8 k 1) 7 0 (nI (k + 1)) ∧ IV (oEnd σ τ k).2.1 x τ κ n (k + 1) w) := by
  have h0 := h
  obtain ⟨hN, hT, hE, hA, hV, hB⟩ := h
  unfold oEnd
  by_cases c1 : σ 21 0 = 0
  · rw [if_pos c1]; exact Or.inl ⟨(show ¬ (0 : Int32) ≤ -14 by decide), h0.q 0, c1⟩
  · rw [if_neg c1]
    by_cases c2 : ∃ b, b < k ∧ twP σ k b
    · rw [if_pos c2]
      exact Or.inl ⟨(show ¬ (0 : Int32) ≤ (-40) - nI 21 by decide), ⟨hN, hT, hE, hA, hV, fun q => absurd (show (0 : Int32) = 0 from rfl) q⟩, rfl⟩
    · rw [if_neg c2]
      by_cases c3 : ¬ rmF σ k k 0 ≤ 0
      · rw [if_pos c3]
        have hr := rmF_ok (σ := σ) (e := k) k 0
        have : ∀ j : Fin 26, ¬ (0 : Int32) ≤ (-40) - nI j.val := by decide
        exact Or.inl ⟨this ⟨_, hr.2⟩, ⟨hN, hT, hE, hA, hV, fun q => absurd (show (0 : Int32) = 0 from rfl) q⟩, rfl⟩
      · rw [if_neg c3]
        obtain ⟨b1, b2, b3⟩ := hB c1
        refine Or.inr ⟨nI_pos' (by omega), c1, rfl, ?_⟩
        show IV (su (su (su (su (su σ 0 0 0) 21 0 0) 28 k (fnd (fun b => meetP σ k b) k 0)) 8 k 1) 7 0 (nI (k + 1))) x τ κ n (k + 1) w
        generalize fnd (fun b => meetP σ k b) k 0 = me
        have e8 : ∀ e, e ≠ k → (su (su (su (su (su σ 0 0 0) 21 0 0) 28 k me) 8 k 1) 7 0 (nI (k + 1))) 8 e = σ 8 e := fun e ne => pk_un ne
        have e8k : (su (su (su (su (su σ 0 0 0) 21 0 0) 28 k me) 8 k 1) 7 0 (nI (k + 1))) 8 k = 1 := pk_us
        refine ⟨⟨hN.1, ⟨rfl, by omega⟩, hN.2.2⟩, hT, ⟨fun e he => ?_, ?_, hE.2.2.1, hE.2.2.2⟩, hA, fun e he h8 h14 => ?_, fun q => absurd (show (0 : Int32) = 0 from rfl) q⟩
        · by_cases q : e = k
          · rw [q]; exact ⟨⟨b2.1, b2.2.1, b2.2.2.1, fun _ => b2.2.2.2⟩, b3⟩
          · have := hE.1 e (by omega)
            exact ⟨⟨this.1.1, this.1.2.1, this.1.2.2.1, fun z => this.1.2.2.2 (by rw [e8 e q] at z; exact z)⟩, this.2⟩
        · intro a b ha hb h1 h2 h3 h4 h5
          have h3 : σ 9 a = σ 9 b := h3
          have h4 : σ 10 a = σ 10 b := h4
          have h5 : sameP σ a b := h5
          by_cases qa : a = k
          · by_cases qb : b = k
            · rw [qa, qb]
            · rw [qa] at h3 h4 h5; rw [e8 b qb] at h2
              exact absurd ⟨b, by omega, h2, h3.symm, h4.symm, same_sym h5⟩ c2
          · by_cases qb : b = k
            · rw [qb] at h3 h4 h5; rw [e8 a qa] at h1
              exact absurd ⟨a, by omega, h1, h3, h4, h5⟩ c2
            · rw [e8 a qa] at h1; rw [e8 b qb] at h2
              exact hE.2.1 a b (by omega) (by omega) h1 h2 h3 h4 h5
        · by_cases q : e = k
          · rw [q, e8k] at h8; exact absurd h8 (by decide)
          · rw [e8 e q] at h8; exact hV e (by omega) h8 h14
theorem IV.const {σ x : MS} {τ κ : Nat → Int64} {n k w : Nat} {en : Int32} {v : Int64} (h : IV σ x τ κ n k w) :
    (¬ (oConst σ τ k en v).1 = 1 ∧ IV (oConst σ τ k en v).2.1 x (oConst σ τ k en v).2.2 κ n k w ∧ seE (oConst σ τ k en v).2.1 σ 0 ∧ (oConst σ τ k en v).2.1 14 = σ 14) ∨
    ((oConst σ τ k en v).1 = 1 ∧ okN k en ∧ σ 8 en.toNatClampNeg = 0 ∧ (oConst σ τ k en v).2.1 = su (su σ 0 0 0) 14 en.toNatClampNeg 1 ∧ IV (oConst σ τ k en v).2.1 x (oConst σ τ k en v).2.2 (vp_updL κ en.toNatClampNeg v) n k w) := by
  have h0 := h
  obtain ⟨hN, hT, hE, hA, hV, hB⟩ := h
  unfold oConst
  have s0 : seE σ σ 0 := ⟨rfl, rfl, rfl, rfl, rfl, rfl, rfl, fun i _ => ⟨rfl, rfl⟩⟩
  by_cases c1 : okN k en
  · have d1 : ¬ ¬ okN k en := fun q => q c1
    rw [if_neg d1]
    by_cases c2 : σ 8 en.toNatClampNeg = 0
    · have d2 : ¬ ¬ σ 8 en.toNatClampNeg = 0 := fun q => q c2
      rw [if_neg d2]
      split
      · exact Or.inl ⟨(show ¬ (-14 : Int32) = 1 by decide), h0.q 0, s0, rfl⟩
      · split
        · exact Or.inl ⟨(show ¬ (-40 : Int32) - nI 7 = 1 by decide), h0.br 7, s0, rfl⟩
        · refine Or.inr ⟨rfl, c1, c2, rfl, hN, hT, hE, hA, fun e he h8 h14 => ?_, hB⟩
          show vp_updL τ en.toNatClampNeg (tvF (σ 11 en.toNatClampNeg) v) e = tvF (σ 11 e) (vp_updL κ en.toNatClampNeg v e)
          by_cases q : e = en.toNatClampNeg
          · subst q
            rw [show vp_updL τ en.toNatClampNeg (tvF (σ 11 en.toNatClampNeg) v) en.toNatClampNeg = _ from if_pos rfl, show vp_updL κ en.toNatClampNeg v en.toNatClampNeg = v from if_pos rfl]
          · rw [show vp_updL τ en.toNatClampNeg (tvF (σ 11 en.toNatClampNeg) v) e = _ from if_neg q, show vp_updL κ en.toNatClampNeg v e = κ e from if_neg q]
            have h14' : upd (σ 14) en.toNatClampNeg 1 e ≠ 0 := h14
            rw [pk_un q] at h14'
            exact hV e he h8 h14'
    · rw [if_pos c2]; exact Or.inl ⟨(show ¬ (-12 : Int32) = 1 by decide), h0.q 0, s0, rfl⟩
  · rw [if_pos c1]; exact Or.inl ⟨(show ¬ (-11 : Int32) = 1 by decide), h0.q 0, s0, rfl⟩
/-- an entry's cells are the same in two states -/
abbrev seW (σ' σ : MS) (e : Nat) : Prop := σ' 8 e = σ 8 e ∧ σ' 9 e = σ 9 e ∧ σ' 10 e = σ 10 e ∧ σ' 11 e = σ 11 e ∧ σ' 12 e = σ 12 e ∧ σ' 13 e = σ 13 e ∧ σ' 14 e = σ 14 e ∧ σ' 16 e = σ 16 e ∧ σ' 17 e = σ 17 e ∧ σ' 18 e = σ 18 e ∧ σ' 28 e = σ 28 e ∧ (∀ i, i < mnE σ e → σ' 19 (5 * e + i) = σ 19 (5 * e + i) ∧ σ' 20 (5 * e + i) = σ 20 (5 * e + i))
theorem seW.rf {σ : MS} {e : Nat} : seW σ σ e := ⟨rfl, rfl, rfl, rfl, rfl, rfl, rfl, rfl, rfl, rfl, rfl, fun _ _ => ⟨rfl, rfl⟩⟩
theorem seW.mn {σ' σ : MS} {e : Nat} (h : seW σ' σ e) : mnE σ' e = mnE σ e := by show (σ' 18 e).toNatClampNeg = _; rw [h.2.2.2.2.2.2.2.2.2.1]
theorem seW.pk {σ' σ : MS} {e : Nat} (h : seW σ' σ e) : pkF σ' 19 e = pkF σ 19 e ∧ pkF σ' 20 e = pkF σ 20 e := by
  constructor <;> funext i <;> unfold pkF <;> rw [h.mn] <;> by_cases c : i < mnE σ e
  · rw [if_pos c, if_pos c, (h.2.2.2.2.2.2.2.2.2.2.2 i c).1]
  · rw [if_neg c, if_neg c]
  · rw [if_pos c, if_pos c, (h.2.2.2.2.2.2.2.2.2.2.2 i c).2]
  · rw [if_neg c, if_neg c]
theorem seW.mb {σ' σ : MS} {e : Nat} {G : Nat → ClassId} {a : Nat → Nat} {me : Int32} (h : seW σ' σ e) : mbW G a σ' e me = mbW G a σ e me := by
  have hp := h.pk
  obtain ⟨h8, h9, h10, h11, h12, h13, h14, h16, h17, h18, h28, -⟩ := h
  unfold mbW; rw [h9, h10, h11, h12, h13, h16, h17, h18, hp.1, hp.2]
theorem seW.eW {σ' σ : MS} {e : Nat} {G : Nat → ClassId} {a : Nat → Nat} {κ κ' : Nat → Int64} (h : seW σ' σ e) (hκ : κ' e = κ e) : eW G a σ' κ' e = eW G a σ κ e := by
  have hm := fun me => h.mb (G := G) (a := a) (me := me)
  obtain ⟨h8, h9, h10, h11, h12, h13, h14, h16, h17, h18, h28, -⟩ := h
  unfold Pilot.CFieldMemberLaw_law_r7566_2565a8.eW; rw [hm, h28]; unfold fdW; rw [h8, h9, h10, h11, h12, h13, h14, hκ]
theorem plE_se {σ' σ : MS} {G : Nat → ClassId} {ea : Nat → Nat → Nat} {κ κ' : Nat → Int64} {k : Nat} {pl : va_W} (h : ∀ e, e < k → seW σ' σ e) (hκ : ∀ e, e < k → κ' e = κ e) (hE : plE G ea σ κ k pl) : plE G ea σ' κ' k pl := fun e he c hc => hE e he c (by rw [(h e he).eW (hκ e he)] at hc; exact hc)
