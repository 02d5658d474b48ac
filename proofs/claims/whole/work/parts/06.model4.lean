-- what the reference's methods leave: the answer and the tables
theorem okT_n {x : Int32} {j : Nat} (h : x = nI j) (hj : j < 12) : okT x := by subst h; rw [okT, nI_clamp (by omega)]; exact ⟨rfl, hj⟩
abbrev brS (σ : MS) (r : Nat) : MS := su (su σ 27 r (σ 27 r + 1)) 26 0 (σ 26 0 + 1)
def oType (σ : MS) (τ : Nat → Int64) (n : Nat) (sort parent : Int32) : Int32 × MU :=
  if ¬ (0 ≤ sort ∧ sort ≤ 3) then (-13, su σ 0 0 0, τ)
  else if ¬ parent = -1 ∧ (sort = 3 ∨ ¬ okN n parent ∨ ¬ σ 2 parent.toNatClampNeg ≤ 1) then (-11, su σ 0 0 0, τ)
  else if n = 12 then (-15, su σ 0 0 0, τ)
  else (nI n, st (su (su (su (su (su σ 0 0 0) 2 n sort) 3 n parent) 5 n 0) 1 0 (nI (n + 1))) 6 (recF (σ 6) (upd (σ 3) n parent) (upd (σ 5) n 0) (σ 4) n), τ)
/-- every place holds -1 or a type's number -/
abbrev okPa (σ : MS) (t : Nat) : Prop := ¬ σ 3 t = -1 → okT (σ 3 t)
abbrev okC (x : Int32) : Prop := x = nI x.toNatClampNeg ∧ x.toNatClampNeg ≤ 3
abbrev okFa (σ : MS) (t : Nat) : Prop := okC (σ 5 t) ∧ ∀ k, k < (σ 5 t).toNatClampNeg → okT (σ 4 (3 * t + k))
/-- the rows of the types from t on are reckoned anew -/
def reF (f pa fc fa : Nat → Int32) (t : Nat) : Nat → Nat → Int32
  | 0 => f
  | k + 1 => recF (reF f pa fc fa t k) pa fc fa (t + k)
abbrev hasF (σ : MS) (t : Nat) (f : Int32) (n : Nat) : Prop := ∃ k, k < n ∧ σ 4 (3 * t + k) = f
abbrev okR (x : Int32) : Prop := x = nI x.toNatClampNeg ∧ x.toNatClampNeg < 26
theorem okR_n : ∀ j : Fin 26, okR (nI j.val) := by decide
theorem aRF_ok {σ : MS} {k t : Nat} {name kind m : Int32} : okR (aRF σ k t name kind m) := by
  unfold aRF; repeat' split
  all_goals first | exact okR_n 0 | exact okR_n 1 | exact okR_n 2 | exact okR_n 3 | exact okR_n 4 | exact okR_n 5 | exact okR_n 6
theorem aRM_ok {sort m body : Int32} : okR (aRM sort m body) := by
  unfold aRM; repeat' split
  all_goals first | exact okR_n 0 | exact okR_n 11 | exact okR_n 12 | exact okR_n 13 | exact okR_n 14 | exact okR_n 15 | exact okR_n 16 | exact okR_n 17
theorem aRA_ok {σ : MS} {a b : Nat} : okR (aRA σ a b) := by
  unfold aRA; repeat' split
  all_goals first | exact okR_n 0 | exact okR_n 22 | exact okR_n 23 | exact okR_n 24 | exact okR_n 25
theorem aRef_ok {σ : MS} {n : Nat} {t name kind d m : Int32} (h : 0 ≤ aRef σ n t name kind d m) : okN n t ∧ ¬ noK n kind ∧ (0 ≤ name ∧ name ≤ 49) ∧ ¬ kind < 0 ∧ ¬ kind = 9 ∧ (0 ≤ d ∧ d ≤ 3) ∧ ¬ (kind = 0 ∧ 0 < d) ∧ (0 ≤ m ∧ m ≤ 2047) ∧ σ 21 0 = 0 ∧ ¬ σ 7 0 = 60 := by
  unfold aRef at h
  split at h
  · exact absurd h (by decide)
  · rename_i h1
    split at h
    · exact absurd h (by decide)
    · rename_i h2
      split at h
      · exact absurd h (by decide)
      · rename_i h3
        split at h
        · exact absurd h (by decide)
        · rename_i h4
          simp only [not_or, Decidable.not_not] at h1 h2 h3
          exact ⟨h1.1, h1.2, h2.1, h2.2.1, h2.2.2.1, h2.2.2.2.1, h2.2.2.2.2.1, h2.2.2.2.2.2, h3, h4⟩
theorem reF_s {f pa fc fa : Nat → Int32} {t k : Nat} (h : t ≤ k) : reF f pa fc fa t (k + 1 - t) = recF (reF f pa fc fa t (k - t)) pa fc fa k := by
  rw [show k + 1 - t = (k - t) + 1 by omega]
  show recF _ _ _ _ (t + (k - t)) = _
  rw [show t + (k - t) = k by omega]
theorem b01_re {f pa fc fa : Nat → Int32} (h : b01 f) (t : Nat) : ∀ k, b01 (reF f pa fc fa t k)
  | 0 => h
  | k + 1 => b01_rec (b01_re h t k) _
def oBelow (σ : MS) (τ : Nat → Int64) (n : Nat) (t o : Int32) : Int32 × MU :=
  if ¬ okN n t ∨ ¬ okN n o then (-11, su σ 0 0 0, τ) else if lyP σ t.toNatClampNeg o.toNatClampNeg then (1, su σ 0 0 0, τ) else (0, su σ 0 0 0, τ)
abbrev layS (σ : MS) (k : Nat) (t name kind d m : Int32) : MS := su (su (su (su (su σ 9 k t) 10 k name) 11 k kind) 12 k d) 13 k m
def oField (σ : MS) (τ : Nat → Int64) (n k : Nat) (t name kind d m : Int32) : Int32 × MU :=
  if ¬ 0 ≤ aRef σ n t name kind d m then (aRef σ n t name kind d m, su σ 0 0 0, τ)
  else if ¬ aRF σ k t.toNatClampNeg name kind m ≤ 0 then ((-40) - nI (aRF σ k t.toNatClampNeg name kind m).toNatClampNeg, brS (su σ 0 0 0) (aRF σ k t.toNatClampNeg name kind m).toNatClampNeg, τ)
  else (nI k, su (su (su (layS (su σ 0 0 0) k t name kind d (if σ 2 t.toNatClampNeg = 3 then m ||| 1 ||| 8 ||| 16 else m)) 8 k 0) 14 k 0) 7 0 (nI (k + 1)), τ)
def allM (sort m : Int32) : Int32 := if sort = 3 then (m ||| (if m &&& 4 = 0 then 1 else 0)) ||| (if m &&& 1036 = 0 then 128 else 0) else m
def oMember (σ : MS) (τ : Nat → Int64) (n k : Nat) (t name kind d m body : Int32) : Int32 × MU :=
  if ¬ 0 ≤ aRef σ n t name kind d m then (aRef σ n t name kind d m, su σ 0 0 0, τ)
  else if ¬ aRM (σ 2 t.toNatClampNeg) m body ≤ 0 then ((-40) - nI (aRM (σ 2 t.toNatClampNeg) m body).toNatClampNeg, brS (su σ 0 0 0) (aRM (σ 2 t.toNatClampNeg) m body).toNatClampNeg, τ)
  else (1, su (su (su (su (layS (su σ 0 0 0) k t name kind d (allM (σ 2 t.toNatClampNeg) m)) 16 k body) 17 k 0) 18 k 0) 21 0 1, τ)
def oEntry (σ : MS) (τ : Nat → Int64) (k : Nat) (e what : Int32) : Int32 × MU :=
  if ¬ okN k e then (-11, su σ 0 0 0, τ)
  else if what = 0 then (if σ 8 e.toNatClampNeg = 0 then 0 else 1, su σ 0 0 0, τ) else if what = 1 then (σ 9 e.toNatClampNeg, su σ 0 0 0, τ) else if what = 2 then (σ 10 e.toNatClampNeg, su σ 0 0 0, τ)
  else if what = 3 then (σ 11 e.toNatClampNeg, su σ 0 0 0, τ) else if what = 4 then (σ 12 e.toNatClampNeg, su σ 0 0 0, τ) else if what = 5 then (σ 13 e.toNatClampNeg, su σ 0 0 0, τ) else (-13, su σ 0 0 0, τ)
def oShape (σ : MS) (τ : Nat → Int64) (k : Nat) (e what : Int32) : Int32 × MU :=
  if ¬ okN k e then (-11, su σ 0 0 0, τ) else if σ 8 e.toNatClampNeg = 0 then (-12, su σ 0 0 0, τ)
  else if what = 0 then (σ 18 e.toNatClampNeg, su σ 0 0 0, τ) else if what = 1 then (if σ 17 e.toNatClampNeg = 0 then 0 else 1, su σ 0 0 0, τ) else if what = 2 then (if σ 16 e.toNatClampNeg = 0 then 0 else 1, su σ 0 0 0, τ)
  else if what = 3 then (σ 28 e.toNatClampNeg, su σ 0 0 0, τ) else (-13, su σ 0 0 0, τ)
def oCount (σ : MS) (τ : Nat → Int64) (k : Nat) (what : Int32) : Int32 × MU :=
  if what = 0 then (σ 1 0, su σ 0 0 0, τ) else if what = 1 then (nI k, su σ 0 0 0, τ) else if what = 2 then (if σ 21 0 = 0 then 0 else 1, su σ 0 0 0, τ)
  else if what = 3 then (if σ 21 0 = 0 then 0 else σ 18 k, su σ 0 0 0, τ) else if what = 4 then (σ 22 0, su σ 0 0 0, τ) else if what = 5 then (σ 26 0, su σ 0 0 0, τ) else (-13, su σ 0 0 0, τ)
def oBroken (σ : MS) (τ : Nat → Int64) (r : Int32) : Int32 × MU := if ¬ (1 ≤ r ∧ r ≤ 25) then (-13, su σ 0 0 0, τ) else (σ 27 r.toNatClampNeg, su σ 0 0 0, τ)
def oArg (σ : MS) (τ : Nat → Int64) (n w : Nat) (kind d : Int32) : Int32 × MU :=
  if noK n kind then (-11, su σ 0 0 0, τ) else if kind < 1 ∨ ¬ (0 ≤ d ∧ d ≤ 3) ∨ (kind = 9 ∧ ¬ d ≤ 0) then (-13, su σ 0 0 0, τ) else if w = 5 then (-15, su σ 0 0 0, τ)
  else (nI (w + 1), su (su (su (su σ 0 0 0) 23 w kind) 24 w d) 22 0 (nI (w + 1)), τ)
def oPar (σ : MS) (τ : Nat → Int64) (n k : Nat) (kind d v : Int32) : Int32 × MU :=
  if σ 21 0 = 0 then (-14, su σ 0 0 0, τ) else if noK n kind then (-11, su σ 0 0 0, τ)
  else if kind < 0 ∨ kind = 9 ∨ ¬ (0 ≤ d ∧ d ≤ 3) ∨ (kind = 0 ∧ ¬ d ≤ 0) then (-13, su σ 0 0 0, τ)
  else if mnE σ k = 5 then (-15, su σ 0 0 0, τ)
  else if kind = 0 then ((-40) - nI 18, brS (su σ 0 0 0) 18, τ) else if ¬ σ 17 k = 0 then ((-40) - nI 19, brS (su σ 0 0 0) 19, τ)
  else if ¬ v = 0 ∧ d = 0 then ((-40) - nI 20, brS (su σ 0 0 0) 20, τ)
  else (nI (mnE σ k + 1), su (su (su (su (su σ 0 0 0) 19 (5 * k + mnE σ k) kind) 20 (5 * k + mnE σ k) d) 17 k v) 18 k (nI (mnE σ k + 1)), τ)
def oValue (σ : MS) (τ : Nat → Int64) (k : Nat) (e : Int32) : Int64 × MU :=
  if ¬ okN k e then (0, su σ 0 0 2, τ) else if ¬ σ 8 e.toNatClampNeg = 0 then (0, su σ 0 0 1, τ) else if ¬ σ 14 e.toNatClampNeg = 0 then (τ e.toNatClampNeg, su σ 0 0 0, τ) else (0, su σ 0 0 0, τ)
def oParOf (σ : MS) (τ : Nat → Int64) (k : Nat) (e i dm : Int32) : Int32 × MU :=
  if ¬ okN k e then (0, su σ 0 0 2, τ) else if σ 8 e.toNatClampNeg = 0 then (0, su σ 0 0 1, τ) else if ¬ okN (mnE σ e.toNatClampNeg) i then (0, su σ 0 0 2, τ)
  else if dm = 0 then (σ 19 (5 * e.toNatClampNeg + i.toNatClampNeg), su σ 0 0 0, τ) else (σ 20 (5 * e.toNatClampNeg + i.toNatClampNeg), su σ 0 0 0, τ)
def lkG (σ : MS) (t k : Nat) (i : Int32) : Nat → Nat → Int32 → Int32
  | 0, _, _ => -1
  | f + 1, e, lf => if i < 0 then -1 else if ¬ σ 2 t = 0 ∧ ¬ σ 2 t = 2 then -1 else if lkN σ t e k then (if lf = 0 then nI e else lkG σ t k i f (e + 1) (lf + (-1))) else lkG σ t k i f (e + 1) lf
theorem lkG_u {σ : MS} {t k e : Nat} {i lf : Int32} (h : e < k) : lkG σ t k i (k - e) e lf = if i < 0 then -1 else if ¬ σ 2 t = 0 ∧ ¬ σ 2 t = 2 then -1 else if lkN σ t e k then (if lf = 0 then nI e else lkG σ t k i (k - (e + 1)) (e + 1) (lf + (-1))) else lkG σ t k i (k - (e + 1)) (e + 1) lf := by
  obtain ⟨z, hz⟩ : ∃ z, k - e = z + 1 := ⟨k - e - 1, by omega⟩
  rw [hz, show k - (e + 1) = z by omega]; rfl
def oLacks (σ : MS) (τ : Nat → Int64) (n k : Nat) (t i : Int32) : Int32 × MU :=
  if ¬ okN n t then (-11, su σ 0 0 0, τ) else (lkG σ t.toNatClampNeg k i k 0 i, su σ 0 0 0, τ)
theorem iN_ex {r : Int32} (h : 1 ≤ r ∧ r ≤ 25) : ∃ j : Nat, j < 26 ∧ r = nI j := by
  have h1 := h.1; have h2 := h.2
  obtain ⟨j, hj, e⟩ := nI_of (x := r) (fun hq => by simp only [i_lt, i_le, Int32.reduceToInt] at h1 hq; omega)
  subst e
  refine ⟨j, ?_, rfl⟩
  have h3 := (nI_leI (a := j) (b := 25) hj (by decide)).mp h2
  omega
def oFace (σ : MS) (τ : Nat → Int64) (n k : Nat) (t f : Int32) : Int32 × MU :=
  if ¬ okN n t ∨ ¬ okN n f ∨ ¬ σ 2 f.toNatClampNeg = 3 then (-11, su σ 0 0 0, τ)
  else if ¬ f.toNatClampNeg < t.toNatClampNeg then (-13, su σ 0 0 0, τ)
  else if (∃ i, i < (σ 5 t.toNatClampNeg).toNatClampNeg ∧ σ 4 (3 * t.toNatClampNeg + i) = f) ∨ 0 < k ∨ ¬ σ 21 0 = 0 then (-14, su σ 0 0 0, τ)
  else if (σ 5 t.toNatClampNeg).toNatClampNeg = 3 then (-15, su σ 0 0 0, τ)
  else (nI ((σ 5 t.toNatClampNeg).toNatClampNeg + 1), st (su (su (su σ 0 0 0) 4 (3 * t.toNatClampNeg + (σ 5 t.toNatClampNeg).toNatClampNeg) f) 5 t.toNatClampNeg (nI ((σ 5 t.toNatClampNeg).toNatClampNeg + 1))) 6
    (reF (σ 6) (σ 3) (upd (σ 5) t.toNatClampNeg (nI ((σ 5 t.toNatClampNeg).toNatClampNeg + 1))) (upd (σ 4) (3 * t.toNatClampNeg + (σ 5 t.toNatClampNeg).toNatClampNeg) f) t.toNatClampNeg (n - t.toNatClampNeg)), τ)
abbrev twP (σ : MS) (e b : Nat) : Prop := ¬ σ 8 b = 0 ∧ σ 9 b = σ 9 e ∧ σ 10 b = σ 10 e ∧ sameP σ b e
/-- the first rule that one of those that are met brings -/
def rmF (σ : MS) (e : Nat) : Nat → Nat → Int32
  | 0, _ => 0
  | f + 1, b => if ¬ (if meetP σ e b then aRA σ e b else 0) ≤ 0 then (if meetP σ e b then aRA σ e b else 0) else rmF σ e f (b + 1)
theorem rmF_u {σ : MS} {e b k : Nat} (h : b < k) : rmF σ e (k - b) b = if ¬ (if meetP σ e b then aRA σ e b else 0) ≤ 0 then (if meetP σ e b then aRA σ e b else 0) else rmF σ e (k - (b + 1)) (b + 1) := by
  obtain ⟨z, hz⟩ : ∃ z, k - b = z + 1 := ⟨k - b - 1, by omega⟩
  rw [hz, show k - (b + 1) = z by omega]; rfl
def oEnd (σ : MS) (τ : Nat → Int64) (k : Nat) : Int32 × MU :=
  if σ 21 0 = 0 then (-14, su σ 0 0 0, τ)
  else if ∃ b, b < k ∧ twP σ k b then ((-40) - nI 21, brS (su (su σ 0 0 0) 21 0 0) 21, τ)
  else if ¬ rmF σ k k 0 ≤ 0 then ((-40) - nI (rmF σ k k 0).toNatClampNeg, brS (su (su σ 0 0 0) 21 0 0) (rmF σ k k 0).toNatClampNeg, τ)
  else (nI k, su (su (su (su (su σ 0 0 0) 21 0 0) 28 k (fnd (fun b => meetP σ k b) k 0)) 8 k 1) 7 0 (nI (k + 1)), τ)

theorem dX8_breaks_0 : decode cX8_breaks 0 = .ok (.aload_n 0, 1) := by decide +kernel
theorem q_706 : Cond.fieldLink "FieldMemberModel" 72 "FieldMemberModel" "broken" "[I" ∈ TT := tt_t (i := 706) (by decide +kernel) (by decide +kernel)
theorem dX8_breaks_1 : decode cX8_breaks 1 = .ok (.getfield 72, 3) := by decide +kernel
theorem dX8_breaks_4 : decode cX8_breaks 4 = .ok (.iload_n 1, 1) := by decide +kernel
theorem dX8_breaks_5 : decode cX8_breaks 5 = .ok (.dup2, 1) := by decide +kernel
theorem dX8_breaks_6 : decode cX8_breaks 6 = .ok (.iaload, 1) := by decide +kernel
theorem dX8_breaks_7 : decode cX8_breaks 7 = .ok (.iconst 1, 1) := by decide +kernel
theorem dX8_breaks_8 : decode cX8_breaks 8 = .ok (.iadd, 1) := by decide +kernel
theorem dX8_breaks_9 : decode cX8_breaks 9 = .ok (.iastore, 1) := by decide +kernel
theorem dX8_breaks_10 : decode cX8_breaks 10 = .ok (.aload_n 0, 1) := by decide +kernel
theorem dX8_breaks_11 : decode cX8_breaks 11 = .ok (.dup, 1) := by decide +kernel
theorem q_705 : Cond.fieldLink "FieldMemberModel" 101 "FieldMemberModel" "rulesBroken" "I" ∈ TT := tt_t (i := 705) (by decide +kernel) (by decide +kernel)
theorem dX8_breaks_12 : decode cX8_breaks 12 = .ok (.getfield 101, 3) := by decide +kernel
theorem dX8_breaks_15 : decode cX8_breaks 15 = .ok (.iconst 1, 1) := by decide +kernel
theorem dX8_breaks_16 : decode cX8_breaks 16 = .ok (.iadd, 1) := by decide +kernel
theorem dX8_breaks_17 : decode cX8_breaks 17 = .ok (.putfield 101, 3) := by decide +kernel
theorem dX8_breaks_20 : decode cX8_breaks 20 = .ok (.bipush (-40), 2) := by decide +kernel
theorem dX8_breaks_22 : decode cX8_breaks 22 = .ok (.iload_n 1, 1) := by decide +kernel
theorem dX8_breaks_23 : decode cX8_breaks 23 = .ok (.isub, 1) := by decide +kernel
theorem dX8_breaks_24 : decode cX8_breaks 24 = .ok (.ireturn, 1) := by decide +kernel
theorem dX8_adds_0 : decode cX8_adds 0 = .ok (.iconst 0, 1) := by decide +kernel
theorem dX8_adds_1 : decode cX8_adds 1 = .ok (.istore_n 3, 1) := by decide +kernel
theorem dX8_adds_2 : decode cX8_adds 2 = .ok (.iload_n 3, 1) := by decide +kernel
theorem dX8_adds_3 : decode cX8_adds 3 = .ok (.bipush 12, 2) := by decide +kernel
theorem dX8_adds_5 : decode cX8_adds 5 = .ok (.if_icmp .ge 34, 3) := by decide +kernel
theorem dX8_adds_39 : decode cX8_adds 39 = .ok (.return_, 1) := by decide +kernel
theorem dX8_adds_8 : decode cX8_adds 8 = .ok (.aload_n 0, 1) := by decide +kernel
theorem dX8_adds_9 : decode cX8_adds 9 = .ok (.getfield 22, 3) := by decide +kernel
theorem dX8_adds_12 : decode cX8_adds 12 = .ok (.bipush 12, 2) := by decide +kernel
theorem dX8_adds_14 : decode cX8_adds 14 = .ok (.iload_n 1, 1) := by decide +kernel
theorem dX8_adds_15 : decode cX8_adds 15 = .ok (.imul, 1) := by decide +kernel
theorem dX8_adds_16 : decode cX8_adds 16 = .ok (.iload_n 3, 1) := by decide +kernel
theorem dX8_adds_17 : decode cX8_adds 17 = .ok (.iadd, 1) := by decide +kernel
theorem dX8_adds_18 : decode cX8_adds 18 = .ok (.dup2, 1) := by decide +kernel
theorem dX8_adds_19 : decode cX8_adds 19 = .ok (.baload, 1) := by decide +kernel
theorem dX8_adds_20 : decode cX8_adds 20 = .ok (.aload_n 0, 1) := by decide +kernel
theorem dX8_adds_21 : decode cX8_adds 21 = .ok (.getfield 22, 3) := by decide +kernel
theorem dX8_adds_24 : decode cX8_adds 24 = .ok (.bipush 12, 2) := by decide +kernel
theorem dX8_adds_26 : decode cX8_adds 26 = .ok (.iload_n 2, 1) := by decide +kernel
theorem dX8_adds_27 : decode cX8_adds 27 = .ok (.imul, 1) := by decide +kernel
theorem dX8_adds_28 : decode cX8_adds 28 = .ok (.iload_n 3, 1) := by decide +kernel
theorem dX8_adds_29 : decode cX8_adds 29 = .ok (.iadd, 1) := by decide +kernel
theorem dX8_adds_30 : decode cX8_adds 30 = .ok (.baload, 1) := by decide +kernel
theorem dX8_adds_31 : decode cX8_adds 31 = .ok (.ior, 1) := by decide +kernel
theorem dX8_adds_32 : decode cX8_adds 32 = .ok (.bastore, 1) := by decide +kernel
theorem dX8_adds_33 : decode cX8_adds 33 = .ok (.iinc 3 1, 3) := by decide +kernel
theorem dX8_adds_36 : decode cX8_adds 36 = .ok (.goto (-34), 3) := by decide +kernel
theorem dX8_reckons_0 : decode cX8_reckons 0 = .ok (.iconst 0, 1) := by decide +kernel
theorem dX8_reckons_1 : decode cX8_reckons 1 = .ok (.istore_n 2, 1) := by decide +kernel
theorem dX8_reckons_2 : decode cX8_reckons 2 = .ok (.iload_n 2, 1) := by decide +kernel
theorem dX8_reckons_3 : decode cX8_reckons 3 = .ok (.bipush 12, 2) := by decide +kernel
theorem dX8_reckons_5 : decode cX8_reckons 5 = .ok (.if_icmp .ge 30, 3) := by decide +kernel
theorem dX8_reckons_35 : decode cX8_reckons 35 = .ok (.aload_n 0, 1) := by decide +kernel
theorem q_682 : Cond.fieldLink "FieldMemberModel" 13 "FieldMemberModel" "parents" "[I" ∈ TT := tt_t (i := 682) (by decide +kernel) (by decide +kernel)
theorem dX8_reckons_36 : decode cX8_reckons 36 = .ok (.getfield 13, 3) := by decide +kernel
theorem dX8_reckons_39 : decode cX8_reckons 39 = .ok (.iload_n 1, 1) := by decide +kernel
theorem dX8_reckons_40 : decode cX8_reckons 40 = .ok (.iaload, 1) := by decide +kernel
theorem dX8_reckons_41 : decode cX8_reckons 41 = .ok (.iconst (-1), 1) := by decide +kernel
theorem dX8_reckons_42 : decode cX8_reckons 42 = .ok (.if_icmp .eq 14, 3) := by decide +kernel
theorem dX8_reckons_56 : decode cX8_reckons 56 = .ok (.iconst 0, 1) := by decide +kernel
theorem dX8_reckons_57 : decode cX8_reckons 57 = .ok (.istore_n 2, 1) := by decide +kernel
theorem dX8_reckons_58 : decode cX8_reckons 58 = .ok (.iload_n 2, 1) := by decide +kernel
theorem dX8_reckons_59 : decode cX8_reckons 59 = .ok (.aload_n 0, 1) := by decide +kernel
theorem q_684 : Cond.fieldLink "FieldMemberModel" 19 "FieldMemberModel" "faceCount" "[I" ∈ TT := tt_t (i := 684) (by decide +kernel) (by decide +kernel)
theorem dX8_reckons_60 : decode cX8_reckons 60 = .ok (.getfield 19, 3) := by decide +kernel
theorem dX8_reckons_63 : decode cX8_reckons 63 = .ok (.iload_n 1, 1) := by decide +kernel
theorem dX8_reckons_64 : decode cX8_reckons 64 = .ok (.iaload, 1) := by decide +kernel
theorem dX8_reckons_65 : decode cX8_reckons 65 = .ok (.if_icmp .ge 24, 3) := by decide +kernel
theorem dX8_reckons_89 : decode cX8_reckons 89 = .ok (.return_, 1) := by decide +kernel
theorem dX8_reckons_68 : decode cX8_reckons 68 = .ok (.aload_n 0, 1) := by decide +kernel
theorem dX8_reckons_69 : decode cX8_reckons 69 = .ok (.iload_n 1, 1) := by decide +kernel
theorem dX8_reckons_70 : decode cX8_reckons 70 = .ok (.aload_n 0, 1) := by decide +kernel
theorem q_683 : Cond.fieldLink "FieldMemberModel" 16 "FieldMemberModel" "faces" "[I" ∈ TT := tt_t (i := 683) (by decide +kernel) (by decide +kernel)
theorem dX8_reckons_71 : decode cX8_reckons 71 = .ok (.getfield 16, 3) := by decide +kernel
theorem dX8_reckons_74 : decode cX8_reckons 74 = .ok (.iconst 3, 1) := by decide +kernel
theorem dX8_reckons_75 : decode cX8_reckons 75 = .ok (.iload_n 1, 1) := by decide +kernel
theorem dX8_reckons_76 : decode cX8_reckons 76 = .ok (.imul, 1) := by decide +kernel
theorem dX8_reckons_77 : decode cX8_reckons 77 = .ok (.iload_n 2, 1) := by decide +kernel
theorem dX8_reckons_78 : decode cX8_reckons 78 = .ok (.iadd, 1) := by decide +kernel
theorem dX8_reckons_79 : decode cX8_reckons 79 = .ok (.iaload, 1) := by decide +kernel
theorem q_799 : Cond.methodLink "FieldMemberModel" 112 ⟨"FieldMemberModel", "adds", "(II)V"⟩ ∈ TT := tt_t (i := 799) (by decide +kernel) (by decide +kernel)
theorem q_802 : Cond.code ⟨"FieldMemberModel", "adds", "(II)V"⟩ prog_10_method_10_code 4 none ∈ TT := tt_t (i := 802) (by decide +kernel) (by decide +kernel)
theorem q_801 : Cond.instanceMethod ⟨"FieldMemberModel", "adds", "(II)V"⟩ ∈ TT := tt_t (i := 801) (by decide +kernel) (by decide +kernel)
theorem qs_33 : Cond.selects "FieldMemberModel" ⟨"FieldMemberModel", "adds", "(II)V"⟩ ⟨"FieldMemberModel", "adds", "(II)V"⟩ ∈ TT := tt_s (i := 33) (by decide +kernel) (by decide +kernel)
theorem gV_X8_X8_adds : GoodIn TT (wsV RX8 112 RX8 yX8_adds (ww yX8_adds cX8_adds 4 none)) := tt_V q_799 q_801 qs_33 q_4 q_802
theorem hdV_X8_adds : yX8_adds.cls = RX8 ∧ yX8_adds.cls ≠ "java/lang/invoke/MethodHandle" ∧ yX8_adds.cls ≠ "java/lang/invoke/VarHandle" ∧ (parseMethodDescriptor yX8_adds.desc).map (fun d => d.parameters.length) = some 2 := by decide +kernel
theorem dX8_reckons_80 : decode cX8_reckons 80 = .ok (.invokevirtual 112, 3) := by decide +kernel
theorem dX8_reckons_83 : decode cX8_reckons 83 = .ok (.iinc 2 1, 3) := by decide +kernel
theorem dX8_reckons_86 : decode cX8_reckons 86 = .ok (.goto (-28), 3) := by decide +kernel
theorem dX8_reckons_45 : decode cX8_reckons 45 = .ok (.aload_n 0, 1) := by decide +kernel
theorem dX8_reckons_46 : decode cX8_reckons 46 = .ok (.iload_n 1, 1) := by decide +kernel
theorem dX8_reckons_47 : decode cX8_reckons 47 = .ok (.aload_n 0, 1) := by decide +kernel
theorem dX8_reckons_48 : decode cX8_reckons 48 = .ok (.getfield 13, 3) := by decide +kernel
theorem dX8_reckons_51 : decode cX8_reckons 51 = .ok (.iload_n 1, 1) := by decide +kernel
theorem dX8_reckons_52 : decode cX8_reckons 52 = .ok (.iaload, 1) := by decide +kernel
theorem dX8_reckons_53 : decode cX8_reckons 53 = .ok (.invokevirtual 112, 3) := by decide +kernel
theorem dX8_reckons_8 : decode cX8_reckons 8 = .ok (.aload_n 0, 1) := by decide +kernel
theorem dX8_reckons_9 : decode cX8_reckons 9 = .ok (.getfield 22, 3) := by decide +kernel
theorem dX8_reckons_12 : decode cX8_reckons 12 = .ok (.bipush 12, 2) := by decide +kernel
theorem dX8_reckons_14 : decode cX8_reckons 14 = .ok (.iload_n 1, 1) := by decide +kernel
theorem dX8_reckons_15 : decode cX8_reckons 15 = .ok (.imul, 1) := by decide +kernel
theorem dX8_reckons_16 : decode cX8_reckons 16 = .ok (.iload_n 2, 1) := by decide +kernel
theorem dX8_reckons_17 : decode cX8_reckons 17 = .ok (.iadd, 1) := by decide +kernel
theorem dX8_reckons_28 : decode cX8_reckons 28 = .ok (.bastore, 1) := by decide +kernel
theorem dX8_reckons_29 : decode cX8_reckons 29 = .ok (.iinc 2 1, 3) := by decide +kernel
theorem dX8_reckons_32 : decode cX8_reckons 32 = .ok (.goto (-30), 3) := by decide +kernel
theorem dX8_reckons_18 : decode cX8_reckons 18 = .ok (.iload_n 2, 1) := by decide +kernel
theorem dX8_reckons_19 : decode cX8_reckons 19 = .ok (.iload_n 1, 1) := by decide +kernel
theorem dX8_reckons_20 : decode cX8_reckons 20 = .ok (.if_icmp .ne 7, 3) := by decide +kernel
theorem dX8_reckons_27 : decode cX8_reckons 27 = .ok (.iconst 0, 1) := by decide +kernel
theorem dX8_reckons_23 : decode cX8_reckons 23 = .ok (.iconst 1, 1) := by decide +kernel
theorem dX8_reckons_24 : decode cX8_reckons 24 = .ok (.goto 4, 3) := by decide +kernel
theorem dX8_type_0 : decode cX8_type 0 = .ok (.aload_n 0, 1) := by decide +kernel
theorem dX8_type_1 : decode cX8_type 1 = .ok (.iconst 0, 1) := by decide +kernel
theorem dX8_type_2 : decode cX8_type 2 = .ok (.putfield 90, 3) := by decide +kernel
theorem dX8_type_5 : decode cX8_type 5 = .ok (.iload_n 1, 1) := by decide +kernel
theorem dX8_type_6 : decode cX8_type 6 = .ok (.iconst 0, 1) := by decide +kernel
theorem dX8_type_7 : decode cX8_type 7 = .ok (.iconst 3, 1) := by decide +kernel
theorem dX8_type_8 : decode cX8_type 8 = .ok (.invokestatic 97, 3) := by decide +kernel
theorem dX8_type_11 : decode cX8_type 11 = .ok (.ifCond .ne 6, 3) := by decide +kernel
theorem dX8_type_17 : decode cX8_type 17 = .ok (.iload_n 2, 1) := by decide +kernel
theorem dX8_type_18 : decode cX8_type 18 = .ok (.iconst (-1), 1) := by decide +kernel
theorem dX8_type_19 : decode cX8_type 19 = .ok (.if_icmp .eq 29, 3) := by decide +kernel
theorem dX8_type_48 : decode cX8_type 48 = .ok (.aload_n 0, 1) := by decide +kernel
theorem dX8_type_49 : decode cX8_type 49 = .ok (.getfield 94, 3) := by decide +kernel
theorem dX8_type_52 : decode cX8_type 52 = .ok (.bipush 12, 2) := by decide +kernel
theorem dX8_type_54 : decode cX8_type 54 = .ok (.if_icmp .ne 6, 3) := by decide +kernel
theorem dX8_type_60 : decode cX8_type 60 = .ok (.aload_n 0, 1) := by decide +kernel
theorem dX8_type_61 : decode cX8_type 61 = .ok (.getfield 7, 3) := by decide +kernel
theorem dX8_type_64 : decode cX8_type 64 = .ok (.aload_n 0, 1) := by decide +kernel
theorem dX8_type_65 : decode cX8_type 65 = .ok (.getfield 94, 3) := by decide +kernel
theorem dX8_type_68 : decode cX8_type 68 = .ok (.iload_n 1, 1) := by decide +kernel
theorem dX8_type_69 : decode cX8_type 69 = .ok (.iastore, 1) := by decide +kernel
theorem dX8_type_70 : decode cX8_type 70 = .ok (.aload_n 0, 1) := by decide +kernel
theorem dX8_type_71 : decode cX8_type 71 = .ok (.getfield 13, 3) := by decide +kernel
theorem dX8_type_74 : decode cX8_type 74 = .ok (.aload_n 0, 1) := by decide +kernel
theorem dX8_type_75 : decode cX8_type 75 = .ok (.getfield 94, 3) := by decide +kernel
theorem dX8_type_78 : decode cX8_type 78 = .ok (.iload_n 2, 1) := by decide +kernel
theorem dX8_type_79 : decode cX8_type 79 = .ok (.iastore, 1) := by decide +kernel
theorem dX8_type_80 : decode cX8_type 80 = .ok (.aload_n 0, 1) := by decide +kernel
theorem dX8_type_81 : decode cX8_type 81 = .ok (.getfield 19, 3) := by decide +kernel
theorem dX8_type_84 : decode cX8_type 84 = .ok (.aload_n 0, 1) := by decide +kernel
theorem dX8_type_85 : decode cX8_type 85 = .ok (.getfield 94, 3) := by decide +kernel
theorem dX8_type_88 : decode cX8_type 88 = .ok (.iconst 0, 1) := by decide +kernel
theorem dX8_type_89 : decode cX8_type 89 = .ok (.iastore, 1) := by decide +kernel
theorem dX8_type_90 : decode cX8_type 90 = .ok (.aload_n 0, 1) := by decide +kernel
theorem dX8_type_91 : decode cX8_type 91 = .ok (.dup, 1) := by decide +kernel
theorem dX8_type_92 : decode cX8_type 92 = .ok (.getfield 94, 3) := by decide +kernel
theorem dX8_type_95 : decode cX8_type 95 = .ok (.iconst 1, 1) := by decide +kernel
theorem dX8_type_96 : decode cX8_type 96 = .ok (.iadd, 1) := by decide +kernel
theorem dX8_type_97 : decode cX8_type 97 = .ok (.putfield 94, 3) := by decide +kernel
theorem dX8_type_100 : decode cX8_type 100 = .ok (.aload_n 0, 1) := by decide +kernel
theorem dX8_type_101 : decode cX8_type 101 = .ok (.aload_n 0, 1) := by decide +kernel
theorem dX8_type_102 : decode cX8_type 102 = .ok (.getfield 94, 3) := by decide +kernel
theorem dX8_type_105 : decode cX8_type 105 = .ok (.iconst 1, 1) := by decide +kernel
theorem dX8_type_106 : decode cX8_type 106 = .ok (.isub, 1) := by decide +kernel
theorem q_795 : Cond.methodLink "FieldMemberModel" 108 ⟨"FieldMemberModel", "reckons", "(I)V"⟩ ∈ TT := tt_t (i := 795) (by decide +kernel) (by decide +kernel)
theorem q_798 : Cond.code ⟨"FieldMemberModel", "reckons", "(I)V"⟩ prog_10_method_9_code 3 none ∈ TT := tt_t (i := 798) (by decide +kernel) (by decide +kernel)
theorem q_797 : Cond.instanceMethod ⟨"FieldMemberModel", "reckons", "(I)V"⟩ ∈ TT := tt_t (i := 797) (by decide +kernel) (by decide +kernel)
theorem qs_32 : Cond.selects "FieldMemberModel" ⟨"FieldMemberModel", "reckons", "(I)V"⟩ ⟨"FieldMemberModel", "reckons", "(I)V"⟩ ∈ TT := tt_s (i := 32) (by decide +kernel) (by decide +kernel)
theorem gV_X8_X8_reckons : GoodIn TT (wsV RX8 108 RX8 yX8_reckons (ww yX8_reckons cX8_reckons 3 none)) := tt_V q_795 q_797 qs_32 q_4 q_798
theorem hdV_X8_reckons : yX8_reckons.cls = RX8 ∧ yX8_reckons.cls ≠ "java/lang/invoke/MethodHandle" ∧ yX8_reckons.cls ≠ "java/lang/invoke/VarHandle" ∧ (parseMethodDescriptor yX8_reckons.desc).map (fun d => d.parameters.length) = some 1 := by decide +kernel
theorem dX8_type_107 : decode cX8_type 107 = .ok (.invokevirtual 108, 3) := by decide +kernel
theorem dX8_type_110 : decode cX8_type 110 = .ok (.aload_n 0, 1) := by decide +kernel
theorem dX8_type_111 : decode cX8_type 111 = .ok (.getfield 94, 3) := by decide +kernel
theorem dX8_type_114 : decode cX8_type 114 = .ok (.iconst 1, 1) := by decide +kernel
theorem dX8_type_115 : decode cX8_type 115 = .ok (.isub, 1) := by decide +kernel
theorem dX8_type_116 : decode cX8_type 116 = .ok (.ireturn, 1) := by decide +kernel
theorem dX8_type_57 : decode cX8_type 57 = .ok (.bipush (-15), 2) := by decide +kernel
theorem dX8_type_59 : decode cX8_type 59 = .ok (.ireturn, 1) := by decide +kernel
theorem dX8_type_22 : decode cX8_type 22 = .ok (.iload_n 1, 1) := by decide +kernel
theorem dX8_type_23 : decode cX8_type 23 = .ok (.iconst 3, 1) := by decide +kernel
theorem dX8_type_24 : decode cX8_type 24 = .ok (.if_icmp .eq 21, 3) := by decide +kernel
theorem dX8_type_45 : decode cX8_type 45 = .ok (.bipush (-11), 2) := by decide +kernel
theorem dX8_type_47 : decode cX8_type 47 = .ok (.ireturn, 1) := by decide +kernel
theorem dX8_type_27 : decode cX8_type 27 = .ok (.aload_n 0, 1) := by decide +kernel
theorem dX8_type_28 : decode cX8_type 28 = .ok (.iload_n 2, 1) := by decide +kernel
theorem dX8_type_29 : decode cX8_type 29 = .ok (.invokevirtual 104, 3) := by decide +kernel
theorem dX8_type_32 : decode cX8_type 32 = .ok (.ifCond .eq 13, 3) := by decide +kernel
theorem dX8_type_35 : decode cX8_type 35 = .ok (.aload_n 0, 1) := by decide +kernel
theorem dX8_type_36 : decode cX8_type 36 = .ok (.getfield 7, 3) := by decide +kernel
theorem dX8_type_39 : decode cX8_type 39 = .ok (.iload_n 2, 1) := by decide +kernel
theorem dX8_type_40 : decode cX8_type 40 = .ok (.iaload, 1) := by decide +kernel
theorem dX8_type_41 : decode cX8_type 41 = .ok (.iconst 1, 1) := by decide +kernel
theorem dX8_type_42 : decode cX8_type 42 = .ok (.if_icmp .le 6, 3) := by decide +kernel
theorem dX8_type_14 : decode cX8_type 14 = .ok (.bipush (-13), 2) := by decide +kernel
theorem dX8_type_16 : decode cX8_type 16 = .ok (.ireturn, 1) := by decide +kernel
set_option maxHeartbeats 4000000 in
set_option maxRecDepth 100000 in
theorem m_breaks (l : Launch) (D : va_G) (G : Nat → ClassId) (mo : Nat) (ad : Nat → Nat) (σ : MS) (τ : Nat → Int64) (sz : Nat) (r : Nat) (hr9 : r < 26) : Met l yX8_breaks (ww yX8_breaks cX8_breaks 2 (some .int)) (rmD 0) (muP D G sz mo ad (σ, τ) [.ref mo, .int (nI r)]) (muQi D G mo ad (muA G mo ad (σ, τ) sz) (((-40) - nI r, (brS σ r, τ))).1 (((-40) - nI r, (brS σ r, τ))).2) 0 0 (muA G mo ad (σ, τ) sz) := by
  refine Met.ofW (cc := cX8_breaks) (maxL := 2) (ret := (some .int)) (by decide) rfl ?_
  intro p e s m args below meth c s₁ B hml hv
  obtain ⟨rfl, hsz, hP, hK, hD0⟩ := hv
  have hx := B.exec
  have hb := B.bytes
  have hr := B.returns
  have hts : ∀ w ∈ TT, w.before _ s = true := fun w h => atoms_spec (ws := ww yX8_breaks cX8_breaks 2 (some .int)) B.pre w (List.mem_cons_of_mem _ h)
  have hown : s.vm.findClass RX8 = some m.cls := findClass_of_methodNamed B.named
  have hlocks := B.notSynchronized
  subst hsz
  have hD : va_D (muA G mo ad (σ, τ) s.heap.size) (mW G mo ad σ τ) := hD0.self
  generalize hAe : muA G mo ad (σ, τ) s.heap.size = A at hD ⊢
  have hA : ∀ q : Nat, s.heap.size ≤ q → A q := fun q h => by rw [← hAe]; exact Or.inr h
  have hS : va_S A s.heap s.heap [] := va_S.rf
  have hP : va_P D vwCl (mW G mo ad σ τ) s.heap := hP
  have hl := lv_entry ([.ref mo, .int (nI r)]) (n := 2) (Nat.le_of_ble_eq_true rfl)
  rw [lg_entry_eq]
  generalize (lg_sl ([.ref mo, .int (nI r)]) ++ List.replicate (2 - (lg_sl ([.ref mo, .int (nI r)])).length) Slot.unset).toArray = ls at hl ⊢
  have hl : lv_has ls 2 [(0, .ref mo), (1, .int (nI r))] := hl
  refine lv_aload_n hx hb dX8_breaks_0 rfl (lv_at hl 0 rfl) ?_
  refine va_get (D := D) (ci := 8) (v := .ref ((ad 27))) (C := RX8) (T := TX8) (N := 33) hx hb hts iX8 hown hK.1 hP 0 rfl rfl 27 (by decide) (hts _ q_706) (fun _ h9 => h9) rfl dX8_breaks_1 ?_
  refine lv_iload_n hx hb dX8_breaks_4 rfl (lv_at hl 1 rfl) ?_
  refine lv_dup2_11 hx hb dX8_breaks_5 rfl rfl ?_
  refine iald_n (f := σ 27) hx hb hK.1 hP 21 0 rfl rfl (r) rfl (by omega) (by decide) dX8_breaks_6 ?_
  refine lv_iconst (v := 1) hx hb dX8_breaks_7 (by decide) ?_
  refine lv_iadd hx hb dX8_breaks_8 ?_
  refine iast_n hx hb hK.1 hP hD hS 21 0 rfl rfl (r) rfl (by omega) (by decide) dX8_breaks_9 (fun H locs hP hD hS => ?_)
  have hP : va_P D vwCl (mW G mo ad (su σ 27 (r) ((σ 27 r) + 1)) (τ)) H := hP
  have hD : va_D A (mW G mo ad (su σ 27 (r) ((σ 27 r) + 1)) (τ)) := hD
  refine lv_aload_n hx hb dX8_breaks_10 rfl (lv_at hl 0 rfl) ?_
  refine lv_dup hx hb dX8_breaks_11 rfl ?_
  refine va_get (D := D) (ci := 8) (v := .int (σ 26 0)) (C := RX8) (T := TX8) (N := 33) hx hb hts iX8 hown hK.1 hP 0 rfl rfl 26 (by decide) (hts _ q_705) (fun _ h9 => h9) rfl dX8_breaks_12 ?_
  refine lv_iconst (v := 1) hx hb dX8_breaks_15 (by decide) ?_
  refine lv_iadd hx hb dX8_breaks_16 ?_
  refine va_put (D := D) (ci := 8) (v := .int ((σ 26 0) + 1)) (ty := .int) (C := RX8) (T := TX8) (N := 33) hx hb hts iX8 tyX8 tyX8_ok nmX8 hown hK.1 hP hD hS 0 rfl rfl 26 (by decide) (hts _ q_705) (fun _ h9 => h9) rfl (by decide +kernel) rfl rfl (Nat.le_of_ble_eq_true rfl) dX8_breaks_17 (fun H locs hP hD hS => ?_)
  have hP : va_P D vwCl (mW G mo ad (su (su σ 27 (r) ((σ 27 r) + 1)) 26 (0) ((σ 26 0) + 1)) (τ)) H := hP
  have hD : va_D A (mW G mo ad (su (su σ 27 (r) ((σ 27 r) + 1)) 26 (0) ((σ 26 0) + 1)) (τ)) := hD
  refine lv_bipush (v := -40) hx hb dX8_breaks_20 (by decide) ?_
  refine lv_iload_n hx hb dX8_breaks_22 rfl (lv_at hl 1 rfl) ?_
  refine lv_isub hx hb dX8_breaks_23 ?_
  have ho : ((-40) - nI r, (brS σ r, τ)) = ((-40) - (nI r), su (su σ 27 (r) ((σ 27 r) + 1)) 26 (0) ((σ 26 0) + 1), τ) := rfl
  exact mu_iret (v0 := (-40) - (nI r)) (z := (su (su σ 27 (r) ((σ 27 r) + 1)) 26 (0) ((σ 26 0) + 1), τ)) hx hb hr hlocks hP hD hS dX8_breaks_24 (by rw [ho]) (by rw [ho])
set_option maxHeartbeats 4000000 in
set_option maxRecDepth 100000 in
theorem m_adds (l : Launch) (D : va_G) (G : Nat → ClassId) (mo : Nat) (ad : Nat → Nat) (σ : MS) (τ : Nat → Int64) (sz : Nat) (t ab : Nat) (ht : t < 12) (hab : ab < 12) (hb6 : b01 (σ 6)) : Met l yX8_adds (ww yX8_adds cX8_adds 4 none) (rmD 0) (muP D G sz mo ad (σ, τ) [.ref mo, .int (nI t), .int (nI ab)]) (muQv D G mo ad (muA G mo ad (σ, τ) sz) ((st σ 6 (addF (σ 6) t ab 12), τ))) 0 0 (muA G mo ad (σ, τ) sz) := by
  refine Met.ofW (cc := cX8_adds) (maxL := 4) (ret := none) (by decide) rfl ?_
  intro p e s m args below meth c s₁ B hml hv
  obtain ⟨rfl, hsz, hP, hK, hD0⟩ := hv
  have hx := B.exec
  have hb := B.bytes
  have hr := B.returns
  have hts : ∀ w ∈ TT, w.before _ s = true := fun w h => atoms_spec (ws := ww yX8_adds cX8_adds 4 none) B.pre w (List.mem_cons_of_mem _ h)
  have hown : s.vm.findClass RX8 = some m.cls := findClass_of_methodNamed B.named
  have hlocks := B.notSynchronized
  subst hsz
  have hD : va_D (muA G mo ad (σ, τ) s.heap.size) (mW G mo ad σ τ) := hD0.self
  generalize hAe : muA G mo ad (σ, τ) s.heap.size = A at hD ⊢
  have hA : ∀ q : Nat, s.heap.size ≤ q → A q := fun q h => by rw [← hAe]; exact Or.inr h
  have hS : va_S A s.heap s.heap [] := va_S.rf
  have hP : va_P D vwCl (mW G mo ad σ τ) s.heap := hP
  have hl := lv_entry ([.ref mo, .int (nI t), .int (nI ab)]) (n := 4) (Nat.le_of_ble_eq_true rfl)
  rw [lg_entry_eq]
  generalize (lg_sl ([.ref mo, .int (nI t), .int (nI ab)]) ++ List.replicate (4 - (lg_sl ([.ref mo, .int (nI t), .int (nI ab)])).length) Slot.unset).toArray = ls at hl ⊢
  have hl : lv_has ls 4 [(0, .ref mo), (1, .int (nI t)), (2, .int (nI ab))] := hl
  refine lv_iconst (v := 0) hx hb dX8_adds_0 (by decide) ?_
  refine lv_istore_n (lv' := [(3, .int 0), (0, .ref mo), (1, .int (nI t)), (2, .int (nI ab))]) hx hb dX8_adds_1 rfl hl (by decide) rfl (fun ls hl => ?_)
  refine w_forM (N := 12) 2 (L := fun q9 ls H locs => lv_has ls 4 [(3, .int (nI q9)), (0, .ref mo), (1, .int (nI t)), (2, .int (nI ab))] ∧ va_P D vwCl (mW G mo ad (st σ 6 (addF (σ 6) t ab q9)) (τ)) H ∧ va_D A (mW G mo ad (st σ 6 (addF (σ 6) t ab q9)) (τ)) ∧ va_S A s.heap H locs) (fun k9 ls H locs hk hL ih2 => ?_) 0 ls _ _ (by omega) ⟨hl, hP, hD, hS⟩
  obtain ⟨hl, hP, hD, hS⟩ := hL
  have hl : lv_has ls 4 [(3, .int (nI k9)), (0, .ref mo), (1, .int (nI t)), (2, .int (nI ab))] := hl
  have hb7 := b01_add hb6 t ab k9
  refine lv_iload_n hx hb dX8_adds_2 rfl (lv_at hl 0 rfl) ?_
  refine lv_bipush (v := 12) hx hb dX8_adds_3 (by decide) ?_
  refine lv_icmp_ge (tgt := 39) hx hb dX8_adds_5 (by decide) (fun c1 => ?_) (fun c1 => ?_)
  · -- 5 taken
    have c1 : 12 ≤ k9 := (nI_leI (a := 12) (b := k9) (by omega) (by omega)).mp (by have h8 := c1; exact h8)
    obtain rfl : 12 = k9 := by omega
    have hP : va_P D vwCl (mW G mo ad (st σ 6 (addF (σ 6) t ab 12)) (τ)) H := hP
    have hD : va_D A (mW G mo ad (st σ 6 (addF (σ 6) t ab 12)) (τ)) := hD
    have ho : (st σ 6 (addF (σ 6) t ab 12), τ) = (st σ 6 (addF (σ 6) t ab 12), τ) := rfl
    exact mu_vret (z := (st σ 6 (addF (σ 6) t ab 12), τ)) hx hb hr hlocks hP hD hS dX8_adds_39 (by rw [ho])
  · -- 5 not
    have c1 : ¬ 12 ≤ k9 := fun h9 => c1 (by exact (nI_leI (a := 12) (b := k9) (by omega) (by omega)).mpr h9)
    refine lv_aload_n hx hb dX8_adds_8 rfl (lv_at hl 1 rfl) ?_
    refine va_get (D := D) (ci := 8) (v := .ref ((ad 6))) (C := RX8) (T := TX8) (N := 33) hx hb hts iX8 hown hK.1 hP 0 rfl rfl 6 (by decide) (hts _ q_685) (fun _ h9 => h9) rfl dX8_adds_9 ?_
    refine lv_bipush (v := 12) hx hb dX8_adds_12 (by decide) ?_
    refine lv_iload_n hx hb dX8_adds_14 rfl (lv_at hl 2 rfl) ?_
    refine lv_imul hx hb dX8_adds_15 ?_
    refine lv_iload_n hx hb dX8_adds_16 rfl (lv_at hl 0 rfl) ?_
    refine lv_iadd hx hb dX8_adds_17 ?_
    refine lv_dup2_11 hx hb dX8_adds_18 rfl rfl ?_
    refine zald_n (f := addF (σ 6) t ab k9) hx hb hK.1 hP 5 2 rfl rfl (((12 * t) + k9)) (n_add (a := (12 * t)) (b := k9) (n_mul (a := 12) (b := t) (rfl : (12 : Int32) = nI 12) rfl) rfl) (by omega) (by decide) dX8_adds_19 ?_
    refine lv_aload_n hx hb dX8_adds_20 rfl (lv_at hl 1 rfl) ?_
    refine va_get (D := D) (ci := 8) (v := .ref ((ad 6))) (C := RX8) (T := TX8) (N := 33) hx hb hts iX8 hown hK.1 hP 0 rfl rfl 6 (by decide) (hts _ q_685) (fun _ h9 => h9) rfl dX8_adds_21 ?_
    refine lv_bipush (v := 12) hx hb dX8_adds_24 (by decide) ?_
    refine lv_iload_n hx hb dX8_adds_26 rfl (lv_at hl 3 rfl) ?_
    refine lv_imul hx hb dX8_adds_27 ?_
    refine lv_iload_n hx hb dX8_adds_28 rfl (lv_at hl 0 rfl) ?_
    refine lv_iadd hx hb dX8_adds_29 ?_
    refine zald_n (f := addF (σ 6) t ab k9) hx hb hK.1 hP 5 2 rfl rfl (((12 * ab) + k9)) (n_add (a := (12 * ab)) (b := k9) (n_mul (a := 12) (b := ab) (rfl : (12 : Int32) = nI 12) rfl) rfl) (by omega) (by decide) dX8_adds_30 ?_
    refine lv_ior hx hb dX8_adds_31 ?_
    refine zast_n hx hb hK.1 hP hD hS 5 2 rfl rfl (((12 * t) + k9)) (n_add (a := (12 * t)) (b := k9) (n_mul (a := 12) (b := t) (rfl : (12 : Int32) = nI 12) rfl) rfl) (by omega) (by decide) (b01_or (hb7 _) (hb7 _)) dX8_adds_32 (fun H locs hP hD hS => ?_)
    have hP : va_P D vwCl (mW G mo ad (st σ 6 (upd (addF (σ 6) t ab k9) (((12 * t) + k9)) (((addF (σ 6) t ab k9) (((12 * t) + k9))) ||| ((addF (σ 6) t ab k9) (((12 * ab) + k9)))))) (τ)) H := hP
    have hD : va_D A (mW G mo ad (st σ 6 (upd (addF (σ 6) t ab k9) (((12 * t) + k9)) (((addF (σ 6) t ab k9) (((12 * t) + k9))) ||| ((addF (σ 6) t ab k9) (((12 * ab) + k9)))))) (τ)) := hD
    refine lv_iinc (v := nI (k9 + 1)) (lv' := [(3, .int (nI (k9 + 1))), (0, .ref mo), (1, .int (nI t)), (2, .int (nI ab))]) hx hb dX8_adds_33 hl (k := 0) rfl (nI_1 _) (by decide) rfl (fun ls hl => ?_)
    refine lv_goto (tgt := 2) hx hb dX8_adds_36 (by decide) ?_
    exact ih2 _ _ _ (by omega) ⟨lv_sub hl [0, 1, 2, 3] rfl, hP, hD, hS⟩
set_option maxHeartbeats 4000000 in
set_option maxRecDepth 100000 in
theorem m_reckons (l : Launch) (D : va_G) (G : Nat → ClassId) (mo : Nat) (ad : Nat → Nat) (σ : MS) (τ : Nat → Int64) (sz : Nat) (t : Nat) (ht : t < 12) (hpa : okPa σ t) (hfa : okFa σ t) (hb6 : b01 (σ 6)) : Met l yX8_reckons (ww yX8_reckons cX8_reckons 3 none) (rmD 1) (muP D G sz mo ad (σ, τ) [.ref mo, .int (nI t)]) (muQv D G mo ad (muA G mo ad (σ, τ) sz) ((st σ 6 (recF (σ 6) (σ 3) (σ 5) (σ 4) t), τ))) 0 0 (muA G mo ad (σ, τ) sz) := by
  refine Met.ofW (cc := cX8_reckons) (maxL := 3) (ret := none) (by decide) rfl ?_
  intro p e s m args below meth c s₁ B hml hv
  obtain ⟨rfl, hsz, hP, hK, hD0⟩ := hv
  have hx := B.exec
  have hb := B.bytes
  have hr := B.returns
  have hts : ∀ w ∈ TT, w.before _ s = true := fun w h => atoms_spec (ws := ww yX8_reckons cX8_reckons 3 none) B.pre w (List.mem_cons_of_mem _ h)
  have hown : s.vm.findClass RX8 = some m.cls := findClass_of_methodNamed B.named
  have hlocks := B.notSynchronized
  subst hsz
  have hD : va_D (muA G mo ad (σ, τ) s.heap.size) (mW G mo ad σ τ) := hD0.self
  generalize hAe : muA G mo ad (σ, τ) s.heap.size = A at hD ⊢
  have hA : ∀ q : Nat, s.heap.size ≤ q → A q := fun q h => by rw [← hAe]; exact Or.inr h
  have hS : va_S A s.heap s.heap [] := va_S.rf
  have hP : va_P D vwCl (mW G mo ad σ τ) s.heap := hP
  have hl := lv_entry ([.ref mo, .int (nI t)]) (n := 3) (Nat.le_of_ble_eq_true rfl)
  rw [lg_entry_eq]
  generalize (lg_sl ([.ref mo, .int (nI t)]) ++ List.replicate (3 - (lg_sl ([.ref mo, .int (nI t)])).length) Slot.unset).toArray = ls at hl ⊢
  have hl : lv_has ls 3 [(0, .ref mo), (1, .int (nI t))] := hl
  refine lv_iconst (v := 0) hx hb dX8_reckons_0 (by decide) ?_
  refine lv_istore_n (lv' := [(2, .int 0), (0, .ref mo), (1, .int (nI t))]) hx hb dX8_reckons_1 rfl hl (by decide) rfl (fun ls hl => ?_)
  refine w_forM (N := 12) 2 (L := fun q9 ls H locs => lv_has ls 3 [(2, .int (nI q9)), (0, .ref mo), (1, .int (nI t))] ∧ va_P D vwCl (mW G mo ad (st σ 6 (rsF (σ 6) t q9)) (τ)) H ∧ va_D A (mW G mo ad (st σ 6 (rsF (σ 6) t q9)) (τ)) ∧ va_S A s.heap H locs) (fun k9 ls H locs hk hL ih2 => ?_) 0 ls _ _ (by omega) ⟨hl, hP, hD, hS⟩
  obtain ⟨hl, hP, hD, hS⟩ := hL
  have hl : lv_has ls 3 [(2, .int (nI k9)), (0, .ref mo), (1, .int (nI t))] := hl
  refine lv_iload_n hx hb dX8_reckons_2 rfl (lv_at hl 0 rfl) ?_
  refine lv_bipush (v := 12) hx hb dX8_reckons_3 (by decide) ?_
  refine lv_icmp_ge (tgt := 35) hx hb dX8_reckons_5 (by decide) (fun c1 => ?_) (fun c1 => ?_)
  · -- 5 taken
    have c1 : 12 ≤ k9 := (nI_leI (a := 12) (b := k9) (by omega) (by omega)).mp (by have h8 := c1; exact h8)
    obtain rfl : 12 = k9 := by omega
    have hP : va_P D vwCl (mW G mo ad (st σ 6 (rsF (σ 6) t 12)) (τ)) H := hP
    have hD : va_D A (mW G mo ad (st σ 6 (rsF (σ 6) t 12)) (τ)) := hD
    refine lv_aload_n hx hb dX8_reckons_35 rfl (lv_at hl 1 rfl) ?_
    refine va_get (D := D) (ci := 8) (v := .ref ((ad 3))) (C := RX8) (T := TX8) (N := 33) hx hb hts iX8 hown hK.1 hP 0 rfl rfl 3 (by decide) (hts _ q_682) (fun _ h9 => h9) rfl dX8_reckons_36 ?_
    refine lv_iload_n hx hb dX8_reckons_39 rfl (lv_at hl 2 rfl) ?_
    refine iald_n (f := σ 3) hx hb hK.1 hP 2 0 rfl rfl (t) rfl (by omega) (by decide) dX8_reckons_40 ?_
    refine lv_iconst (v := -1) hx hb dX8_reckons_41 (by decide) ?_
    refine lv_icmp_eq (tgt := 56) hx hb dX8_reckons_42 (by decide) (fun c2 => ?_) (fun c2 => ?_)
    · -- 42 taken
      refine lv_iconst (v := 0) hx hb dX8_reckons_56 (by decide) ?_
      refine lv_istore_n (lv' := [(2, .int 0), (0, .ref mo), (1, .int (nI t))]) hx hb dX8_reckons_57 rfl hl (by decide) rfl (fun ls hl => ?_)
      refine w_forM (N := (σ 5 t).toNatClampNeg) 58 (L := fun q9 ls H locs => lv_has ls 3 [(2, .int (nI q9)), (0, .ref mo), (1, .int (nI t))] ∧ va_P D vwCl (mW G mo ad (st σ 6 (afF (rsF (σ 6) t 12) (σ 4) t q9)) (τ)) H ∧ va_D A (mW G mo ad (st σ 6 (afF (rsF (σ 6) t 12) (σ 4) t q9)) (τ)) ∧ va_S A s.heap H locs) (fun k9 ls H locs hk hL ih58 => ?_) 0 ls _ _ (by omega) ⟨hl, hP, hD, hS⟩
      obtain ⟨hl, hP, hD, hS⟩ := hL
      have hl : lv_has ls 3 [(2, .int (nI k9)), (0, .ref mo), (1, .int (nI t))] := hl
      refine lv_iload_n hx hb dX8_reckons_58 rfl (lv_at hl 0 rfl) ?_
      refine lv_aload_n hx hb dX8_reckons_59 rfl (lv_at hl 1 rfl) ?_
      refine va_get (D := D) (ci := 8) (v := .ref ((ad 5))) (C := RX8) (T := TX8) (N := 33) hx hb hts iX8 hown hK.1 hP 0 rfl rfl 5 (by decide) (hts _ q_684) (fun _ h9 => h9) rfl dX8_reckons_60 ?_
      refine lv_iload_n hx hb dX8_reckons_63 rfl (lv_at hl 2 rfl) ?_
      refine iald_n (f := σ 5) hx hb hK.1 hP 4 0 rfl rfl (t) rfl (by omega) (by decide) dX8_reckons_64 ?_
      refine lv_icmp_ge (tgt := 89) hx hb dX8_reckons_65 (by decide) (fun c3 => ?_) (fun c3 => ?_)
      · -- 65 taken
        have c3 : (σ 5 t).toNatClampNeg ≤ k9 := (nI_leI (a := (σ 5 t).toNatClampNeg) (b := k9) (by omega) (by omega)).mp (by have h8 := c3; rw [hfa.1.1] at h8; exact h8)
        obtain rfl : (σ 5 t).toNatClampNeg = k9 := by omega
        have hP : va_P D vwCl (mW G mo ad (st σ 6 (afF (rsF (σ 6) t 12) (σ 4) t ((σ 5 t).toNatClampNeg))) (τ)) H := hP
        have hD : va_D A (mW G mo ad (st σ 6 (afF (rsF (σ 6) t 12) (σ 4) t ((σ 5 t).toNatClampNeg))) (τ)) := hD
        have ho : (st σ 6 (recF (σ 6) (σ 3) (σ 5) (σ 4) t), τ) = (st σ 6 (afF (rsF (σ 6) t 12) (σ 4) t ((σ 5 t).toNatClampNeg)), τ) := by unfold recF; simp only [eq_true c2, if_true, if_false]
        exact mu_vret (z := (st σ 6 (afF (rsF (σ 6) t 12) (σ 4) t ((σ 5 t).toNatClampNeg)), τ)) hx hb hr hlocks hP hD hS dX8_reckons_89 (by rw [ho])
      · -- 65 not
        have c3 : ¬ (σ 5 t).toNatClampNeg ≤ k9 := fun h9 => c3 (by rw [hfa.1.1]; exact (nI_leI (a := (σ 5 t).toNatClampNeg) (b := k9) (by omega) (by omega)).mpr h9)
        refine lv_aload_n hx hb dX8_reckons_68 rfl (lv_at hl 1 rfl) ?_
        refine lv_iload_n hx hb dX8_reckons_69 rfl (lv_at hl 2 rfl) ?_
        refine lv_aload_n hx hb dX8_reckons_70 rfl (lv_at hl 1 rfl) ?_
        refine va_get (D := D) (ci := 8) (v := .ref ((ad 4))) (C := RX8) (T := TX8) (N := 33) hx hb hts iX8 hown hK.1 hP 0 rfl rfl 4 (by decide) (hts _ q_683) (fun _ h9 => h9) rfl dX8_reckons_71 ?_
        refine lv_iconst (v := 3) hx hb dX8_reckons_74 (by decide) ?_
        refine lv_iload_n hx hb dX8_reckons_75 rfl (lv_at hl 2 rfl) ?_
        refine lv_imul hx hb dX8_reckons_76 ?_
        refine lv_iload_n hx hb dX8_reckons_77 rfl (lv_at hl 0 rfl) ?_
        refine lv_iadd hx hb dX8_reckons_78 ?_
        refine iald_n (f := σ 4) hx hb hK.1 hP 3 0 rfl rfl (((3 * t) + k9)) (n_add (a := (3 * t)) (b := k9) (n_mul (a := 3) (b := t) (rfl : (3 : Int32) = nI 3) rfl) rfl) (by omega) (by decide) dX8_reckons_79 ?_
        have hf4 := hfa.2 k9 (by omega)
        refine W.eq (g2 := F0 m 80 ls [.int (nI ((σ 4 (3 * t + k9)).toNatClampNeg)), .int (nI t), .ref mo]) (congrArg (fun z9 => F0 m 80 ls [.int z9, .int (nI t), .ref mo]) hf4.1) ?_
        refine mu_Vv (D := D) (G := G) (mo := mo) (ad := ad) (u := (st σ 6 (afF (rsF (σ 6) t 12) (σ 4) t k9), τ)) (As := [.int (nI t), .int (nI ((σ 4 (3 * t + k9)).toNatClampNeg))]) (rest := []) ⟨hx, hb, hml, hown, hts⟩ (m_adds l D G mo ad (st σ 6 (afF (rsF (σ 6) t 12) (σ 4) t k9)) (τ) _ (t) (((σ 4 (3 * t + k9)).toNatClampNeg)) (by omega) (by omega) (b01_af (b01_rs hb6 t 12) t k9)) gV_X8_X8_adds hdV_X8_adds ⟨Nat.le_of_ble_eq_true rfl, Nat.le_of_ble_eq_true rfl⟩ hK hP hD hS hA rfl hl.1 rfl (Nat.le_of_ble_eq_true rfl) dX8_reckons_80 ⟨Nat.le_of_ble_eq_true rfl, Nat.le_of_ble_eq_true rfl⟩ (fun H locs hP hD hS => ?_)
        have hP : va_P D vwCl (mW G mo ad (st σ 6 (addF (afF (rsF (σ 6) t 12) (σ 4) t k9) t (((σ 4 (3 * t + k9)).toNatClampNeg)) 12)) (τ)) H := hP
        have hD : va_D A (mW G mo ad (st σ 6 (addF (afF (rsF (σ 6) t 12) (σ 4) t k9) t (((σ 4 (3 * t + k9)).toNatClampNeg)) 12)) (τ)) := hD
        refine lv_iinc (v := nI (k9 + 1)) (lv' := [(2, .int (nI (k9 + 1))), (0, .ref mo), (1, .int (nI t))]) hx hb dX8_reckons_83 hl (k := 0) rfl (nI_1 _) (by decide) rfl (fun ls hl => ?_)
        refine lv_goto (tgt := 58) hx hb dX8_reckons_86 (by decide) ?_
        exact ih58 _ _ _ (by omega) ⟨lv_sub hl [0, 1, 2] rfl, hP, hD, hS⟩
    · -- 42 not
      have hpa := hpa c2
      refine lv_aload_n hx hb dX8_reckons_45 rfl (lv_at hl 1 rfl) ?_
      refine lv_iload_n hx hb dX8_reckons_46 rfl (lv_at hl 2 rfl) ?_
      refine lv_aload_n hx hb dX8_reckons_47 rfl (lv_at hl 1 rfl) ?_
      refine va_get (D := D) (ci := 8) (v := .ref ((ad 3))) (C := RX8) (T := TX8) (N := 33) hx hb hts iX8 hown hK.1 hP 0 rfl rfl 3 (by decide) (hts _ q_682) (fun _ h9 => h9) rfl dX8_reckons_48 ?_
      refine lv_iload_n hx hb dX8_reckons_51 rfl (lv_at hl 2 rfl) ?_
      refine iald_n (f := σ 3) hx hb hK.1 hP 2 0 rfl rfl (t) rfl (by omega) (by decide) dX8_reckons_52 ?_
      refine W.eq (g2 := F0 m 53 ls [.int (nI ((σ 3 t).toNatClampNeg)), .int (nI t), .ref mo]) (congrArg (fun z9 => F0 m 53 ls [.int z9, .int (nI t), .ref mo]) hpa.1) ?_
      refine mu_Vv (D := D) (G := G) (mo := mo) (ad := ad) (u := (st σ 6 (rsF (σ 6) t 12), τ)) (As := [.int (nI t), .int (nI ((σ 3 t).toNatClampNeg))]) (rest := []) ⟨hx, hb, hml, hown, hts⟩ (m_adds l D G mo ad (st σ 6 (rsF (σ 6) t 12)) (τ) _ (t) (((σ 3 t).toNatClampNeg)) (by omega) (by omega) (b01_rs hb6 t 12)) gV_X8_X8_adds hdV_X8_adds ⟨Nat.le_of_ble_eq_true rfl, Nat.le_of_ble_eq_true rfl⟩ hK hP hD hS hA rfl hl.1 rfl (Nat.le_of_ble_eq_true rfl) dX8_reckons_53 ⟨Nat.le_of_ble_eq_true rfl, Nat.le_of_ble_eq_true rfl⟩ (fun H locs hP hD hS => ?_)
      have hP : va_P D vwCl (mW G mo ad (st σ 6 (addF (rsF (σ 6) t 12) t (((σ 3 t).toNatClampNeg)) 12)) (τ)) H := hP
      have hD : va_D A (mW G mo ad (st σ 6 (addF (rsF (σ 6) t 12) t (((σ 3 t).toNatClampNeg)) 12)) (τ)) := hD
      refine lv_iconst (v := 0) hx hb dX8_reckons_56 (by decide) ?_
      refine lv_istore_n (lv' := [(2, .int 0), (0, .ref mo), (1, .int (nI t))]) hx hb dX8_reckons_57 rfl hl (by decide) rfl (fun ls hl => ?_)
      refine w_forM (N := (σ 5 t).toNatClampNeg) 58 (L := fun q9 ls H locs => lv_has ls 3 [(2, .int (nI q9)), (0, .ref mo), (1, .int (nI t))] ∧ va_P D vwCl (mW G mo ad (st σ 6 (afF (addF (rsF (σ 6) t 12) t (σ 3 t).toNatClampNeg 12) (σ 4) t q9)) (τ)) H ∧ va_D A (mW G mo ad (st σ 6 (afF (addF (rsF (σ 6) t 12) t (σ 3 t).toNatClampNeg 12) (σ 4) t q9)) (τ)) ∧ va_S A s.heap H locs) (fun k9 ls H locs hk hL ih58 => ?_) 0 ls _ _ (by omega) ⟨hl, hP, hD, hS⟩
      obtain ⟨hl, hP, hD, hS⟩ := hL
      have hl : lv_has ls 3 [(2, .int (nI k9)), (0, .ref mo), (1, .int (nI t))] := hl
      refine lv_iload_n hx hb dX8_reckons_58 rfl (lv_at hl 0 rfl) ?_
      refine lv_aload_n hx hb dX8_reckons_59 rfl (lv_at hl 1 rfl) ?_
      refine va_get (D := D) (ci := 8) (v := .ref ((ad 5))) (C := RX8) (T := TX8) (N := 33) hx hb hts iX8 hown hK.1 hP 0 rfl rfl 5 (by decide) (hts _ q_684) (fun _ h9 => h9) rfl dX8_reckons_60 ?_
      refine lv_iload_n hx hb dX8_reckons_63 rfl (lv_at hl 2 rfl) ?_
      refine iald_n (f := σ 5) hx hb hK.1 hP 4 0 rfl rfl (t) rfl (by omega) (by decide) dX8_reckons_64 ?_
      refine lv_icmp_ge (tgt := 89) hx hb dX8_reckons_65 (by decide) (fun c4 => ?_) (fun c4 => ?_)
      · -- 65 taken
        have c4 : (σ 5 t).toNatClampNeg ≤ k9 := (nI_leI (a := (σ 5 t).toNatClampNeg) (b := k9) (by omega) (by omega)).mp (by have h8 := c4; rw [hfa.1.1] at h8; exact h8)
        obtain rfl : (σ 5 t).toNatClampNeg = k9 := by omega
        have hP : va_P D vwCl (mW G mo ad (st σ 6 (afF (addF (rsF (σ 6) t 12) t (σ 3 t).toNatClampNeg 12) (σ 4) t ((σ 5 t).toNatClampNeg))) (τ)) H := hP
        have hD : va_D A (mW G mo ad (st σ 6 (afF (addF (rsF (σ 6) t 12) t (σ 3 t).toNatClampNeg 12) (σ 4) t ((σ 5 t).toNatClampNeg))) (τ)) := hD
        have ho : (st σ 6 (recF (σ 6) (σ 3) (σ 5) (σ 4) t), τ) = (st σ 6 (afF (addF (rsF (σ 6) t 12) t (σ 3 t).toNatClampNeg 12) (σ 4) t ((σ 5 t).toNatClampNeg)), τ) := by unfold recF; simp only [eq_false c2, if_true, if_false]
        exact mu_vret (z := (st σ 6 (afF (addF (rsF (σ 6) t 12) t (σ 3 t).toNatClampNeg 12) (σ 4) t ((σ 5 t).toNatClampNeg)), τ)) hx hb hr hlocks hP hD hS dX8_reckons_89 (by rw [ho])
      · -- 65 not
        have c4 : ¬ (σ 5 t).toNatClampNeg ≤ k9 := fun h9 => c4 (by rw [hfa.1.1]; exact (nI_leI (a := (σ 5 t).toNatClampNeg) (b := k9) (by omega) (by omega)).mpr h9)
        refine lv_aload_n hx hb dX8_reckons_68 rfl (lv_at hl 1 rfl) ?_
        refine lv_iload_n hx hb dX8_reckons_69 rfl (lv_at hl 2 rfl) ?_
        refine lv_aload_n hx hb dX8_reckons_70 rfl (lv_at hl 1 rfl) ?_
        refine va_get (D := D) (ci := 8) (v := .ref ((ad 4))) (C := RX8) (T := TX8) (N := 33) hx hb hts iX8 hown hK.1 hP 0 rfl rfl 4 (by decide) (hts _ q_683) (fun _ h9 => h9) rfl dX8_reckons_71 ?_
        refine lv_iconst (v := 3) hx hb dX8_reckons_74 (by decide) ?_
        refine lv_iload_n hx hb dX8_reckons_75 rfl (lv_at hl 2 rfl) ?_
        refine lv_imul hx hb dX8_reckons_76 ?_
        refine lv_iload_n hx hb dX8_reckons_77 rfl (lv_at hl 0 rfl) ?_
        refine lv_iadd hx hb dX8_reckons_78 ?_
        refine iald_n (f := σ 4) hx hb hK.1 hP 3 0 rfl rfl (((3 * t) + k9)) (n_add (a := (3 * t)) (b := k9) (n_mul (a := 3) (b := t) (rfl : (3 : Int32) = nI 3) rfl) rfl) (by omega) (by decide) dX8_reckons_79 ?_
        have hf4 := hfa.2 k9 (by omega)
        refine W.eq (g2 := F0 m 80 ls [.int (nI ((σ 4 (3 * t + k9)).toNatClampNeg)), .int (nI t), .ref mo]) (congrArg (fun z9 => F0 m 80 ls [.int z9, .int (nI t), .ref mo]) hf4.1) ?_
        refine mu_Vv (D := D) (G := G) (mo := mo) (ad := ad) (u := (st σ 6 (afF (addF (rsF (σ 6) t 12) t (σ 3 t).toNatClampNeg 12) (σ 4) t k9), τ)) (As := [.int (nI t), .int (nI ((σ 4 (3 * t + k9)).toNatClampNeg))]) (rest := []) ⟨hx, hb, hml, hown, hts⟩ (m_adds l D G mo ad (st σ 6 (afF (addF (rsF (σ 6) t 12) t (σ 3 t).toNatClampNeg 12) (σ 4) t k9)) (τ) _ (t) (((σ 4 (3 * t + k9)).toNatClampNeg)) (by omega) (by omega) (b01_af (b01_add (b01_rs hb6 t 12) t _ 12) t k9)) gV_X8_X8_adds hdV_X8_adds ⟨Nat.le_of_ble_eq_true rfl, Nat.le_of_ble_eq_true rfl⟩ hK hP hD hS hA rfl hl.1 rfl (Nat.le_of_ble_eq_true rfl) dX8_reckons_80 ⟨Nat.le_of_ble_eq_true rfl, Nat.le_of_ble_eq_true rfl⟩ (fun H locs hP hD hS => ?_)
        have hP : va_P D vwCl (mW G mo ad (st σ 6 (addF (afF (addF (rsF (σ 6) t 12) t (σ 3 t).toNatClampNeg 12) (σ 4) t k9) t (((σ 4 (3 * t + k9)).toNatClampNeg)) 12)) (τ)) H := hP
        have hD : va_D A (mW G mo ad (st σ 6 (addF (afF (addF (rsF (σ 6) t 12) t (σ 3 t).toNatClampNeg 12) (σ 4) t k9) t (((σ 4 (3 * t + k9)).toNatClampNeg)) 12)) (τ)) := hD
        refine lv_iinc (v := nI (k9 + 1)) (lv' := [(2, .int (nI (k9 + 1))), (0, .ref mo), (1, .int (nI t))]) hx hb dX8_reckons_83 hl (k := 0) rfl (nI_1 _) (by decide) rfl (fun ls hl => ?_)
        refine lv_goto (tgt := 58) hx hb dX8_reckons_86 (by decide) ?_
        exact ih58 _ _ _ (by omega) ⟨lv_sub hl [0, 1, 2] rfl, hP, hD, hS⟩
  · -- 5 not
    have c1 : ¬ 12 ≤ k9 := fun h9 => c1 (by exact (nI_leI (a := 12) (b := k9) (by omega) (by omega)).mpr h9)
    refine lv_aload_n hx hb dX8_reckons_8 rfl (lv_at hl 1 rfl) ?_
    refine va_get (D := D) (ci := 8) (v := .ref ((ad 6))) (C := RX8) (T := TX8) (N := 33) hx hb hts iX8 hown hK.1 hP 0 rfl rfl 6 (by decide) (hts _ q_685) (fun _ h9 => h9) rfl dX8_reckons_9 ?_
    refine lv_bipush (v := 12) hx hb dX8_reckons_12 (by decide) ?_
    refine lv_iload_n hx hb dX8_reckons_14 rfl (lv_at hl 2 rfl) ?_
    refine lv_imul hx hb dX8_reckons_15 ?_
    refine lv_iload_n hx hb dX8_reckons_16 rfl (lv_at hl 0 rfl) ?_
    refine lv_iadd hx hb dX8_reckons_17 ?_
    refine w_join (P := fun b9 => b9 = bI (k9 = t)) 28 (ls := ls) (rest := [.int ((12 * (nI t)) + (nI k9)), .ref ((ad 6))]) (fun b6 e_b6 => ?_) (fun J5 => ?_)
    · -- behind the meeting at 28
      subst e_b6
      refine zast_n hx hb hK.1 hP hD hS 5 2 rfl rfl (((12 * t) + k9)) (n_add (a := (12 * t)) (b := k9) (n_mul (a := 12) (b := t) (rfl : (12 : Int32) = nI 12) rfl) rfl) (by omega) (by decide) bI_b dX8_reckons_28 (fun H locs hP hD hS => ?_)
      have hP : va_P D vwCl (mW G mo ad (st σ 6 (upd (rsF (σ 6) t k9) (((12 * t) + k9)) (bI (k9 = t)))) (τ)) H := hP
      have hD : va_D A (mW G mo ad (st σ 6 (upd (rsF (σ 6) t k9) (((12 * t) + k9)) (bI (k9 = t)))) (τ)) := hD
      refine lv_iinc (v := nI (k9 + 1)) (lv' := [(2, .int (nI (k9 + 1))), (0, .ref mo), (1, .int (nI t))]) hx hb dX8_reckons_29 hl (k := 0) rfl (nI_1 _) (by decide) rfl (fun ls hl => ?_)
      refine lv_goto (tgt := 2) hx hb dX8_reckons_32 (by decide) ?_
      exact ih2 _ _ _ (by omega) ⟨lv_sub hl [0, 1, 2] rfl, hP, hD, hS⟩
    · -- up to the meeting at 28
      refine lv_iload_n hx hb dX8_reckons_18 rfl (lv_at hl 0 rfl) ?_
      refine lv_iload_n hx hb dX8_reckons_19 rfl (lv_at hl 2 rfl) ?_
      refine lv_icmp_ne (tgt := 27) hx hb dX8_reckons_20 (by decide) (fun c7 => ?_) (fun c7 => ?_)
      · -- 20 taken
        have c7 : ¬ k9 = t := fun h9 => c7 (by rw [h9])
        refine lv_iconst (v := 0) hx hb dX8_reckons_27 (by decide) ?_
        exact J5 0 ((bI_f c7).symm)
      · -- 20 not
        have c7 := nI_inj (by omega) (by omega) c7
        refine lv_iconst (v := 1) hx hb dX8_reckons_23 (by decide) ?_
        refine lv_goto (tgt := 28) hx hb dX8_reckons_24 (by decide) ?_
        exact J5 1 ((bI_t c7).symm)
set_option maxHeartbeats 4000000 in
set_option maxRecDepth 100000 in
theorem m_type (l : Launch) (D : va_G) (G : Nat → ClassId) (mo : Nat) (ad : Nat → Nat) (σ : MS) (τ : Nat → Int64) (sz : Nat) (n : Nat) (h1 : σ 1 0 = nI n) (hn : n ≤ 12) (sort : Int32) (parent : Int32) (hb6 : b01 (σ 6)) : Met l yX8_type (ww yX8_type cX8_type 3 (some .int)) (rmD 2) (muP D G sz mo ad (σ, τ) [.ref mo, .int sort, .int parent]) (muQi D G mo ad (muA G mo ad (σ, τ) sz) (oType σ τ n sort parent).1 (oType σ τ n sort parent).2) 0 0 (muA G mo ad (σ, τ) sz) := by
  refine Met.ofW (cc := cX8_type) (maxL := 3) (ret := (some .int)) (by decide) rfl ?_
  intro p e s m args below meth c s₁ B hml hv
  obtain ⟨rfl, hsz, hP, hK, hD0⟩ := hv
  have hx := B.exec
  have hb := B.bytes
  have hr := B.returns
  have hts : ∀ w ∈ TT, w.before _ s = true := fun w h => atoms_spec (ws := ww yX8_type cX8_type 3 (some .int)) B.pre w (List.mem_cons_of_mem _ h)
  have hown : s.vm.findClass RX8 = some m.cls := findClass_of_methodNamed B.named
  have hlocks := B.notSynchronized
  subst hsz
  have hD : va_D (muA G mo ad (σ, τ) s.heap.size) (mW G mo ad σ τ) := hD0.self
  generalize hAe : muA G mo ad (σ, τ) s.heap.size = A at hD ⊢
  have hA : ∀ q : Nat, s.heap.size ≤ q → A q := fun q h => by rw [← hAe]; exact Or.inr h
  have hS : va_S A s.heap s.heap [] := va_S.rf
  have hP : va_P D vwCl (mW G mo ad σ τ) s.heap := hP
  have hl := lv_entry ([.ref mo, .int sort, .int parent]) (n := 3) (Nat.le_of_ble_eq_true rfl)
  rw [lg_entry_eq]
  generalize (lg_sl ([.ref mo, .int sort, .int parent]) ++ List.replicate (3 - (lg_sl ([.ref mo, .int sort, .int parent])).length) Slot.unset).toArray = ls at hl ⊢
  have hl : lv_has ls 3 [(0, .ref mo), (1, .int sort), (2, .int parent)] := hl
  refine lv_aload_n hx hb dX8_type_0 rfl (lv_at hl 0 rfl) ?_
  refine lv_iconst (v := 0) hx hb dX8_type_1 (by decide) ?_
  refine va_put (D := D) (ci := 8) (v := .int 0) (ty := .int) (C := RX8) (T := TX8) (N := 33) hx hb hts iX8 tyX8 tyX8_ok nmX8 hown hK.1 hP hD hS 0 rfl rfl 0 (by decide) (hts _ q_679) (fun _ h9 => h9) rfl (by decide +kernel) rfl rfl (Nat.le_of_ble_eq_true rfl) dX8_type_2 (fun H locs hP hD hS => ?_)
  have hP : va_P D vwCl (mW G mo ad (su σ 0 (0) (0)) (τ)) H := hP
  have hD : va_D A (mW G mo ad (su σ 0 (0) (0)) (τ)) := hD
  refine lv_iload_n hx hb dX8_type_5 rfl (lv_at hl 1 rfl) ?_
  refine lv_iconst (v := 0) hx hb dX8_type_6 (by decide) ?_
  refine lv_iconst (v := 3) hx hb dX8_type_7 (by decide) ?_
  refine ro_Si (D := D) (G := G) (As := [.int sort, .int 0, .int 3]) (rest := []) ⟨hx, hb, hml, hown, hts⟩ (m_in l D G _ sort 0 3) gS_X8_X8_in hdS_X8_in ⟨Nat.le_of_ble_eq_true rfl, Nat.le_of_ble_eq_true rfl⟩ hK rfl hl.1 rfl (Nat.le_of_ble_eq_true rfl) dX8_type_8 ⟨Nat.le_of_ble_eq_true rfl, Nat.le_of_ble_eq_true rfl⟩ (fun r1 e_r1 => ?_)
  subst e_r1
  refine W.eq (g2 := F0 m 11 ls [.int (bI (0 ≤ sort ∧ sort ≤ 3))]) rfl ?_
  refine lv_if_ne (tgt := 17) hx hb dX8_type_11 (by decide) (fun c2 => ?_) (fun c2 => ?_)
  · -- 11 taken
    have c2 := bI_1 c2
    refine lv_iload_n hx hb dX8_type_17 rfl (lv_at hl 2 rfl) ?_
    refine lv_iconst (v := -1) hx hb dX8_type_18 (by decide) ?_
    refine lv_icmp_eq (tgt := 48) hx hb dX8_type_19 (by decide) (fun c3 => ?_) (fun c3 => ?_)
    · -- 19 taken
      refine lv_aload_n hx hb dX8_type_48 rfl (lv_at hl 0 rfl) ?_
      refine va_get (D := D) (ci := 8) (v := .int (σ 1 0)) (C := RX8) (T := TX8) (N := 33) hx hb hts iX8 hown hK.1 hP 0 rfl rfl 1 (by decide) (hts _ q_680) (fun _ h9 => h9) rfl dX8_type_49 ?_
      refine lv_bipush (v := 12) hx hb dX8_type_52 (by decide) ?_
      refine lv_icmp_ne (tgt := 60) hx hb dX8_type_54 (by decide) (fun c4 => ?_) (fun c4 => ?_)
      · -- 54 taken
        have c4 : ¬ n = 12 := fun h9 => c4 (by first | (rw [h1, h9]; done) | (rw [h1, h9]; rfl))
        refine lv_aload_n hx hb dX8_type_60 rfl (lv_at hl 0 rfl) ?_
        refine va_get (D := D) (ci := 8) (v := .ref ((ad 2))) (C := RX8) (T := TX8) (N := 33) hx hb hts iX8 hown hK.1 hP 0 rfl rfl 2 (by decide) (hts _ q_681) (fun _ h9 => h9) rfl dX8_type_61 ?_
        refine lv_aload_n hx hb dX8_type_64 rfl (lv_at hl 0 rfl) ?_
        refine va_get (D := D) (ci := 8) (v := .int (σ 1 0)) (C := RX8) (T := TX8) (N := 33) hx hb hts iX8 hown hK.1 hP 0 rfl rfl 1 (by decide) (hts _ q_680) (fun _ h9 => h9) rfl dX8_type_65 ?_
        refine lv_iload_n hx hb dX8_type_68 rfl (lv_at hl 1 rfl) ?_
        refine iast_n hx hb hK.1 hP hD hS 1 0 rfl rfl (n) h1 (by omega) (by decide) dX8_type_69 (fun H locs hP hD hS => ?_)
        have hP : va_P D vwCl (mW G mo ad (su (su σ 0 (0) (0)) 2 (n) (sort)) (τ)) H := hP
        have hD : va_D A (mW G mo ad (su (su σ 0 (0) (0)) 2 (n) (sort)) (τ)) := hD
        refine lv_aload_n hx hb dX8_type_70 rfl (lv_at hl 0 rfl) ?_
        refine va_get (D := D) (ci := 8) (v := .ref ((ad 3))) (C := RX8) (T := TX8) (N := 33) hx hb hts iX8 hown hK.1 hP 0 rfl rfl 3 (by decide) (hts _ q_682) (fun _ h9 => h9) rfl dX8_type_71 ?_
        refine lv_aload_n hx hb dX8_type_74 rfl (lv_at hl 0 rfl) ?_
        refine va_get (D := D) (ci := 8) (v := .int (σ 1 0)) (C := RX8) (T := TX8) (N := 33) hx hb hts iX8 hown hK.1 hP 0 rfl rfl 1 (by decide) (hts _ q_680) (fun _ h9 => h9) rfl dX8_type_75 ?_
        refine lv_iload_n hx hb dX8_type_78 rfl (lv_at hl 2 rfl) ?_
        refine iast_n hx hb hK.1 hP hD hS 2 0 rfl rfl (n) h1 (by omega) (by decide) dX8_type_79 (fun H locs hP hD hS => ?_)
        have hP : va_P D vwCl (mW G mo ad (su (su (su σ 0 (0) (0)) 2 (n) (sort)) 3 (n) (parent)) (τ)) H := hP
        have hD : va_D A (mW G mo ad (su (su (su σ 0 (0) (0)) 2 (n) (sort)) 3 (n) (parent)) (τ)) := hD
        refine lv_aload_n hx hb dX8_type_80 rfl (lv_at hl 0 rfl) ?_
        refine va_get (D := D) (ci := 8) (v := .ref ((ad 5))) (C := RX8) (T := TX8) (N := 33) hx hb hts iX8 hown hK.1 hP 0 rfl rfl 5 (by decide) (hts _ q_684) (fun _ h9 => h9) rfl dX8_type_81 ?_
        refine lv_aload_n hx hb dX8_type_84 rfl (lv_at hl 0 rfl) ?_
        refine va_get (D := D) (ci := 8) (v := .int (σ 1 0)) (C := RX8) (T := TX8) (N := 33) hx hb hts iX8 hown hK.1 hP 0 rfl rfl 1 (by decide) (hts _ q_680) (fun _ h9 => h9) rfl dX8_type_85 ?_
        refine lv_iconst (v := 0) hx hb dX8_type_88 (by decide) ?_
        refine iast_n hx hb hK.1 hP hD hS 4 0 rfl rfl (n) h1 (by omega) (by decide) dX8_type_89 (fun H locs hP hD hS => ?_)
        have hP : va_P D vwCl (mW G mo ad (su (su (su (su σ 0 (0) (0)) 2 (n) (sort)) 3 (n) (parent)) 5 (n) (0)) (τ)) H := hP
        have hD : va_D A (mW G mo ad (su (su (su (su σ 0 (0) (0)) 2 (n) (sort)) 3 (n) (parent)) 5 (n) (0)) (τ)) := hD
        refine lv_aload_n hx hb dX8_type_90 rfl (lv_at hl 0 rfl) ?_
        refine lv_dup hx hb dX8_type_91 rfl ?_
        refine va_get (D := D) (ci := 8) (v := .int (σ 1 0)) (C := RX8) (T := TX8) (N := 33) hx hb hts iX8 hown hK.1 hP 0 rfl rfl 1 (by decide) (hts _ q_680) (fun _ h9 => h9) rfl dX8_type_92 ?_
        refine lv_iconst (v := 1) hx hb dX8_type_95 (by decide) ?_
        refine lv_iadd hx hb dX8_type_96 ?_
        refine W.eq (g2 := F0 m 97 ls [.int (nI (n + 1)), .ref mo]) (congrArg (fun z9 => F0 m 97 ls [.int z9, .ref mo]) (n_add (a := n) (b := 1) h1 (rfl : (1 : Int32) = nI 1))) ?_
        refine va_put (D := D) (ci := 8) (v := .int (nI (n + 1))) (ty := .int) (C := RX8) (T := TX8) (N := 33) hx hb hts iX8 tyX8 tyX8_ok nmX8 hown hK.1 hP hD hS 0 rfl rfl 1 (by decide) (hts _ q_680) (fun _ h9 => h9) rfl (by decide +kernel) rfl rfl (Nat.le_of_ble_eq_true rfl) dX8_type_97 (fun H locs hP hD hS => ?_)
        have hP : va_P D vwCl (mW G mo ad (su (su (su (su (su σ 0 (0) (0)) 2 (n) (sort)) 3 (n) (parent)) 5 (n) (0)) 1 (0) (nI (n + 1))) (τ)) H := hP
        have hD : va_D A (mW G mo ad (su (su (su (su (su σ 0 (0) (0)) 2 (n) (sort)) 3 (n) (parent)) 5 (n) (0)) 1 (0) (nI (n + 1))) (τ)) := hD
        refine lv_aload_n hx hb dX8_type_100 rfl (lv_at hl 0 rfl) ?_
        refine lv_aload_n hx hb dX8_type_101 rfl (lv_at hl 0 rfl) ?_
        refine va_get (D := D) (ci := 8) (v := .int (nI (n + 1))) (C := RX8) (T := TX8) (N := 33) hx hb hts iX8 hown hK.1 hP 0 rfl rfl 1 (by decide) (hts _ q_680) (fun _ h9 => h9) rfl dX8_type_102 ?_
        refine lv_iconst (v := 1) hx hb dX8_type_105 (by decide) ?_
        refine lv_isub hx hb dX8_type_106 ?_
        refine W.eq (g2 := F0 m 107 ls [.int (nI n), .ref mo]) (congrArg (fun z9 => F0 m 107 ls [.int z9, .ref mo]) (nI_pred n)) ?_
        refine mu_Vv (D := D) (G := G) (mo := mo) (ad := ad) (u := (su (su (su (su (su σ 0 (0) (0)) 2 (n) (sort)) 3 (n) (parent)) 5 (n) (0)) 1 (0) (nI (n + 1)), τ)) (As := [.int (nI n)]) (rest := []) ⟨hx, hb, hml, hown, hts⟩ (m_reckons l D G mo ad (su (su (su (su (su σ 0 (0) (0)) 2 (n) (sort)) 3 (n) (parent)) 5 (n) (0)) 1 (0) (nI (n + 1))) (τ) _ (n) (by omega) (by show ¬ upd (σ 3) n parent n = -1 → okT (upd (σ 3) n parent n); rw [pk_us]; exact fun h9 => absurd c3 h9) (by show okC (upd (σ 5) n 0 n) ∧ ∀ k, k < (upd (σ 5) n 0 n).toNatClampNeg → okT (σ 4 (3 * n + k)); rw [pk_us]; exact ⟨⟨rfl, by decide⟩, fun k hk => absurd hk (Nat.not_lt_zero k)⟩) hb6) gV_X8_X8_reckons hdV_X8_reckons ⟨Nat.le_of_ble_eq_true rfl, Nat.le_of_ble_eq_true rfl⟩ hK hP hD hS hA rfl hl.1 rfl (Nat.le_of_ble_eq_true rfl) dX8_type_107 ⟨Nat.le_of_ble_eq_true rfl, Nat.le_of_ble_eq_true rfl⟩ (fun H locs hP hD hS => ?_)
        have hP : va_P D vwCl (mW G mo ad (st (su (su (su (su (su σ 0 (0) (0)) 2 (n) (sort)) 3 (n) (parent)) 5 (n) (0)) 1 (0) (nI (n + 1))) 6 (recF (σ 6) (upd (σ 3) (n) (parent)) (upd (σ 5) (n) (0)) (σ 4) n)) (τ)) H := hP
        have hD : va_D A (mW G mo ad (st (su (su (su (su (su σ 0 (0) (0)) 2 (n) (sort)) 3 (n) (parent)) 5 (n) (0)) 1 (0) (nI (n + 1))) 6 (recF (σ 6) (upd (σ 3) (n) (parent)) (upd (σ 5) (n) (0)) (σ 4) n)) (τ)) := hD
        refine lv_aload_n hx hb dX8_type_110 rfl (lv_at hl 0 rfl) ?_
        refine va_get (D := D) (ci := 8) (v := .int (nI (n + 1))) (C := RX8) (T := TX8) (N := 33) hx hb hts iX8 hown hK.1 hP 0 rfl rfl 1 (by decide) (hts _ q_680) (fun _ h9 => h9) rfl dX8_type_111 ?_
        refine lv_iconst (v := 1) hx hb dX8_type_114 (by decide) ?_
        refine lv_isub hx hb dX8_type_115 ?_
        refine W.eq (g2 := F0 m 116 ls [.int (nI n)]) (congrArg (fun z9 => F0 m 116 ls [.int z9]) (nI_pred n)) ?_
        have ho : oType σ τ n sort parent = (nI n, st (su (su (su (su (su σ 0 (0) (0)) 2 (n) (sort)) 3 (n) (parent)) 5 (n) (0)) 1 (0) (nI (n + 1))) 6 (recF (σ 6) (upd (σ 3) (n) (parent)) (upd (σ 5) (n) (0)) (σ 4) n), τ) := by unfold oType; simp only [eq_true c2, eq_true c3, eq_false c4, not_true, not_false_iff, not_true_eq_false, not_false_eq_true, true_or, or_true, false_or, or_false, or_self, and_self, true_and, and_true, false_and, and_false, if_true, if_false]
        exact mu_iret (v0 := nI n) (z := (st (su (su (su (su (su σ 0 (0) (0)) 2 (n) (sort)) 3 (n) (parent)) 5 (n) (0)) 1 (0) (nI (n + 1))) 6 (recF (σ 6) (upd (σ 3) (n) (parent)) (upd (σ 5) (n) (0)) (σ 4) n), τ)) hx hb hr hlocks hP hD hS dX8_type_116 (by rw [ho]) (by rw [ho])
      · -- 54 not
        have c4 : n = 12 := nI_inj (by omega) (by omega) (by have h8 := c4; rw [h1] at h8; exact h8)
        refine lv_bipush (v := -15) hx hb dX8_type_57 (by decide) ?_
        have ho : oType σ τ n sort parent = ((-15), su σ 0 (0) (0), τ) := by unfold oType; simp only [eq_true c2, eq_true c3, eq_true c4, not_true, not_false_iff, not_true_eq_false, not_false_eq_true, true_or, or_true, false_or, or_false, or_self, and_self, true_and, and_true, false_and, and_false, if_true, if_false]
        exact mu_iret (v0 := (-15)) (z := (su σ 0 (0) (0), τ)) hx hb hr hlocks hP hD hS dX8_type_59 (by rw [ho]) (by rw [ho])
    · -- 19 not
      refine lv_iload_n hx hb dX8_type_22 rfl (lv_at hl 1 rfl) ?_
      refine lv_iconst (v := 3) hx hb dX8_type_23 (by decide) ?_
      refine lv_icmp_eq (tgt := 45) hx hb dX8_type_24 (by decide) (fun c5 => ?_) (fun c5 => ?_)
      · -- 24 taken
        refine lv_bipush (v := -11) hx hb dX8_type_45 (by decide) ?_
        have ho : oType σ τ n sort parent = ((-11), su σ 0 (0) (0), τ) := by unfold oType; simp only [eq_true c2, eq_false c3, eq_true c5, not_true, not_false_iff, not_true_eq_false, not_false_eq_true, true_or, or_true, false_or, or_false, or_self, and_self, true_and, and_true, false_and, and_false, if_true, if_false]
        exact mu_iret (v0 := (-11)) (z := (su σ 0 (0) (0), τ)) hx hb hr hlocks hP hD hS dX8_type_47 (by rw [ho]) (by rw [ho])
      · -- 24 not
        refine lv_aload_n hx hb dX8_type_27 rfl (lv_at hl 0 rfl) ?_
        refine lv_iload_n hx hb dX8_type_28 rfl (lv_at hl 2 rfl) ?_
        refine ro_Vi (D := D) (G := G) (As := [.int parent]) (rest := []) ⟨hx, hb, hml, hown, hts⟩ (m_isType l D G _ mo ad _ _ hP n h1 hn parent) gV_X8_X8_isType hdV_X8_isType ⟨Nat.le_of_ble_eq_true rfl, Nat.le_of_ble_eq_true rfl⟩ hK (va_recv hK.1 hP (ci := 8) (q0 := 0) rfl rfl) rfl hl.1 rfl (Nat.le_of_ble_eq_true rfl) dX8_type_29 ⟨Nat.le_of_ble_eq_true rfl, Nat.le_of_ble_eq_true rfl⟩ (fun r6 e_r6 => ?_)
        subst e_r6
        refine W.eq (g2 := F0 m 32 ls [.int (bI (okN n parent))]) rfl ?_
        refine lv_if_eq (tgt := 45) hx hb dX8_type_32 (by decide) (fun c7 => ?_) (fun c7 => ?_)
        · -- 32 taken
          have c7 := bI_0 c7
          refine lv_bipush (v := -11) hx hb dX8_type_45 (by decide) ?_
          have ho : oType σ τ n sort parent = ((-11), su σ 0 (0) (0), τ) := by unfold oType; simp only [eq_true c2, eq_false c3, eq_false c5, eq_false c7, not_true, not_false_iff, not_true_eq_false, not_false_eq_true, true_or, or_true, false_or, or_false, or_self, and_self, true_and, and_true, false_and, and_false, if_true, if_false]
          exact mu_iret (v0 := (-11)) (z := (su σ 0 (0) (0), τ)) hx hb hr hlocks hP hD hS dX8_type_47 (by rw [ho]) (by rw [ho])
        · -- 32 not
          have c7 := bI_1 c7
          obtain ⟨j8, h_j8, e_j8⟩ := okN_ex (by omega) c7
          refine lv_aload_n hx hb dX8_type_35 rfl (lv_at hl 0 rfl) ?_
          refine va_get (D := D) (ci := 8) (v := .ref ((ad 2))) (C := RX8) (T := TX8) (N := 33) hx hb hts iX8 hown hK.1 hP 0 rfl rfl 2 (by decide) (hts _ q_681) (fun _ h9 => h9) rfl dX8_type_36 ?_
          refine lv_iload_n hx hb dX8_type_39 rfl (lv_at hl 2 rfl) ?_
          refine iald_n (f := σ 2) hx hb hK.1 hP 1 0 rfl rfl (j8) e_j8 (by omega) (by decide) dX8_type_40 ?_
          refine lv_iconst (v := 1) hx hb dX8_type_41 (by decide) ?_
          refine lv_icmp_le (tgt := 48) hx hb dX8_type_42 (by decide) (fun c9 => ?_) (fun c9 => ?_)
          · -- 42 taken
            refine lv_aload_n hx hb dX8_type_48 rfl (lv_at hl 0 rfl) ?_
            refine va_get (D := D) (ci := 8) (v := .int (σ 1 0)) (C := RX8) (T := TX8) (N := 33) hx hb hts iX8 hown hK.1 hP 0 rfl rfl 1 (by decide) (hts _ q_680) (fun _ h9 => h9) rfl dX8_type_49 ?_
            refine lv_bipush (v := 12) hx hb dX8_type_52 (by decide) ?_
            refine lv_icmp_ne (tgt := 60) hx hb dX8_type_54 (by decide) (fun c10 => ?_) (fun c10 => ?_)
            · -- 54 taken
              have c10 : ¬ n = 12 := fun h9 => c10 (by first | (rw [h1, h9]; done) | (rw [h1, h9]; rfl))
              refine lv_aload_n hx hb dX8_type_60 rfl (lv_at hl 0 rfl) ?_
              refine va_get (D := D) (ci := 8) (v := .ref ((ad 2))) (C := RX8) (T := TX8) (N := 33) hx hb hts iX8 hown hK.1 hP 0 rfl rfl 2 (by decide) (hts _ q_681) (fun _ h9 => h9) rfl dX8_type_61 ?_
              refine lv_aload_n hx hb dX8_type_64 rfl (lv_at hl 0 rfl) ?_
              refine va_get (D := D) (ci := 8) (v := .int (σ 1 0)) (C := RX8) (T := TX8) (N := 33) hx hb hts iX8 hown hK.1 hP 0 rfl rfl 1 (by decide) (hts _ q_680) (fun _ h9 => h9) rfl dX8_type_65 ?_
              refine lv_iload_n hx hb dX8_type_68 rfl (lv_at hl 1 rfl) ?_
              refine iast_n hx hb hK.1 hP hD hS 1 0 rfl rfl (n) h1 (by omega) (by decide) dX8_type_69 (fun H locs hP hD hS => ?_)
              have hP : va_P D vwCl (mW G mo ad (su (su σ 0 (0) (0)) 2 (n) (sort)) (τ)) H := hP
              have hD : va_D A (mW G mo ad (su (su σ 0 (0) (0)) 2 (n) (sort)) (τ)) := hD
              refine lv_aload_n hx hb dX8_type_70 rfl (lv_at hl 0 rfl) ?_
              refine va_get (D := D) (ci := 8) (v := .ref ((ad 3))) (C := RX8) (T := TX8) (N := 33) hx hb hts iX8 hown hK.1 hP 0 rfl rfl 3 (by decide) (hts _ q_682) (fun _ h9 => h9) rfl dX8_type_71 ?_
              refine lv_aload_n hx hb dX8_type_74 rfl (lv_at hl 0 rfl) ?_
              refine va_get (D := D) (ci := 8) (v := .int (σ 1 0)) (C := RX8) (T := TX8) (N := 33) hx hb hts iX8 hown hK.1 hP 0 rfl rfl 1 (by decide) (hts _ q_680) (fun _ h9 => h9) rfl dX8_type_75 ?_
              refine lv_iload_n hx hb dX8_type_78 rfl (lv_at hl 2 rfl) ?_
              refine iast_n hx hb hK.1 hP hD hS 2 0 rfl rfl (n) h1 (by omega) (by decide) dX8_type_79 (fun H locs hP hD hS => ?_)
              have hP : va_P D vwCl (mW G mo ad (su (su (su σ 0 (0) (0)) 2 (n) (sort)) 3 (n) (parent)) (τ)) H := hP
              have hD : va_D A (mW G mo ad (su (su (su σ 0 (0) (0)) 2 (n) (sort)) 3 (n) (parent)) (τ)) := hD
              refine lv_aload_n hx hb dX8_type_80 rfl (lv_at hl 0 rfl) ?_
              refine va_get (D := D) (ci := 8) (v := .ref ((ad 5))) (C := RX8) (T := TX8) (N := 33) hx hb hts iX8 hown hK.1 hP 0 rfl rfl 5 (by decide) (hts _ q_684) (fun _ h9 => h9) rfl dX8_type_81 ?_
              refine lv_aload_n hx hb dX8_type_84 rfl (lv_at hl 0 rfl) ?_
              refine va_get (D := D) (ci := 8) (v := .int (σ 1 0)) (C := RX8) (T := TX8) (N := 33) hx hb hts iX8 hown hK.1 hP 0 rfl rfl 1 (by decide) (hts _ q_680) (fun _ h9 => h9) rfl dX8_type_85 ?_
              refine lv_iconst (v := 0) hx hb dX8_type_88 (by decide) ?_
              refine iast_n hx hb hK.1 hP hD hS 4 0 rfl rfl (n) h1 (by omega) (by decide) dX8_type_89 (fun H locs hP hD hS => ?_)
              have hP : va_P D vwCl (mW G mo ad (su (su (su (su σ 0 (0) (0)) 2 (n) (sort)) 3 (n) (parent)) 5 (n) (0)) (τ)) H := hP
              have hD : va_D A (mW G mo ad (su (su (su (su σ 0 (0) (0)) 2 (n) (sort)) 3 (n) (parent)) 5 (n) (0)) (τ)) := hD
              refine lv_aload_n hx hb dX8_type_90 rfl (lv_at hl 0 rfl) ?_
              refine lv_dup hx hb dX8_type_91 rfl ?_
              refine va_get (D := D) (ci := 8) (v := .int (σ 1 0)) (C := RX8) (T := TX8) (N := 33) hx hb hts iX8 hown hK.1 hP 0 rfl rfl 1 (by decide) (hts _ q_680) (fun _ h9 => h9) rfl dX8_type_92 ?_
              refine lv_iconst (v := 1) hx hb dX8_type_95 (by decide) ?_
              refine lv_iadd hx hb dX8_type_96 ?_
              refine W.eq (g2 := F0 m 97 ls [.int (nI (n + 1)), .ref mo]) (congrArg (fun z9 => F0 m 97 ls [.int z9, .ref mo]) (n_add (a := n) (b := 1) h1 (rfl : (1 : Int32) = nI 1))) ?_
              refine va_put (D := D) (ci := 8) (v := .int (nI (n + 1))) (ty := .int) (C := RX8) (T := TX8) (N := 33) hx hb hts iX8 tyX8 tyX8_ok nmX8 hown hK.1 hP hD hS 0 rfl rfl 1 (by decide) (hts _ q_680) (fun _ h9 => h9) rfl (by decide +kernel) rfl rfl (Nat.le_of_ble_eq_true rfl) dX8_type_97 (fun H locs hP hD hS => ?_)
              have hP : va_P D vwCl (mW G mo ad (su (su (su (su (su σ 0 (0) (0)) 2 (n) (sort)) 3 (n) (parent)) 5 (n) (0)) 1 (0) (nI (n + 1))) (τ)) H := hP
              have hD : va_D A (mW G mo ad (su (su (su (su (su σ 0 (0) (0)) 2 (n) (sort)) 3 (n) (parent)) 5 (n) (0)) 1 (0) (nI (n + 1))) (τ)) := hD
              refine lv_aload_n hx hb dX8_type_100 rfl (lv_at hl 0 rfl) ?_
              refine lv_aload_n hx hb dX8_type_101 rfl (lv_at hl 0 rfl) ?_
              refine va_get (D := D) (ci := 8) (v := .int (nI (n + 1))) (C := RX8) (T := TX8) (N := 33) hx hb hts iX8 hown hK.1 hP 0 rfl rfl 1 (by decide) (hts _ q_680) (fun _ h9 => h9) rfl dX8_type_102 ?_
              refine lv_iconst (v := 1) hx hb dX8_type_105 (by decide) ?_
              refine lv_isub hx hb dX8_type_106 ?_
              refine W.eq (g2 := F0 m 107 ls [.int (nI n), .ref mo]) (congrArg (fun z9 => F0 m 107 ls [.int z9, .ref mo]) (nI_pred n)) ?_
              refine mu_Vv (D := D) (G := G) (mo := mo) (ad := ad) (u := (su (su (su (su (su σ 0 (0) (0)) 2 (n) (sort)) 3 (n) (parent)) 5 (n) (0)) 1 (0) (nI (n + 1)), τ)) (As := [.int (nI n)]) (rest := []) ⟨hx, hb, hml, hown, hts⟩ (m_reckons l D G mo ad (su (su (su (su (su σ 0 (0) (0)) 2 (n) (sort)) 3 (n) (parent)) 5 (n) (0)) 1 (0) (nI (n + 1))) (τ) _ (n) (by omega) (by show ¬ upd (σ 3) n parent n = -1 → okT (upd (σ 3) n parent n); rw [pk_us]; exact fun h9 => okT_n e_j8 (by omega)) (by show okC (upd (σ 5) n 0 n) ∧ ∀ k, k < (upd (σ 5) n 0 n).toNatClampNeg → okT (σ 4 (3 * n + k)); rw [pk_us]; exact ⟨⟨rfl, by decide⟩, fun k hk => absurd hk (Nat.not_lt_zero k)⟩) hb6) gV_X8_X8_reckons hdV_X8_reckons ⟨Nat.le_of_ble_eq_true rfl, Nat.le_of_ble_eq_true rfl⟩ hK hP hD hS hA rfl hl.1 rfl (Nat.le_of_ble_eq_true rfl) dX8_type_107 ⟨Nat.le_of_ble_eq_true rfl, Nat.le_of_ble_eq_true rfl⟩ (fun H locs hP hD hS => ?_)
              have hP : va_P D vwCl (mW G mo ad (st (su (su (su (su (su σ 0 (0) (0)) 2 (n) (sort)) 3 (n) (parent)) 5 (n) (0)) 1 (0) (nI (n + 1))) 6 (recF (σ 6) (upd (σ 3) (n) (parent)) (upd (σ 5) (n) (0)) (σ 4) n)) (τ)) H := hP
              have hD : va_D A (mW G mo ad (st (su (su (su (su (su σ 0 (0) (0)) 2 (n) (sort)) 3 (n) (parent)) 5 (n) (0)) 1 (0) (nI (n + 1))) 6 (recF (σ 6) (upd (σ 3) (n) (parent)) (upd (σ 5) (n) (0)) (σ 4) n)) (τ)) := hD
              refine lv_aload_n hx hb dX8_type_110 rfl (lv_at hl 0 rfl) ?_
              refine va_get (D := D) (ci := 8) (v := .int (nI (n + 1))) (C := RX8) (T := TX8) (N := 33) hx hb hts iX8 hown hK.1 hP 0 rfl rfl 1 (by decide) (hts _ q_680) (fun _ h9 => h9) rfl dX8_type_111 ?_
              refine lv_iconst (v := 1) hx hb dX8_type_114 (by decide) ?_
              refine lv_isub hx hb dX8_type_115 ?_
              refine W.eq (g2 := F0 m 116 ls [.int (nI n)]) (congrArg (fun z9 => F0 m 116 ls [.int z9]) (nI_pred n)) ?_
              have ho : oType σ τ n sort parent = (nI n, st (su (su (su (su (su σ 0 (0) (0)) 2 (n) (sort)) 3 (n) (parent)) 5 (n) (0)) 1 (0) (nI (n + 1))) 6 (recF (σ 6) (upd (σ 3) (n) (parent)) (upd (σ 5) (n) (0)) (σ 4) n), τ) := by unfold oType; simp only [eq_true c2, eq_false c3, eq_false c5, eq_true c7, eq_true c9, eq_false c10, show (parent).toNatClampNeg = j8 by rw [e_j8]; exact nI_clamp (by omega), not_true, not_false_iff, not_true_eq_false, not_false_eq_true, true_or, or_true, false_or, or_false, or_self, and_self, true_and, and_true, false_and, and_false, if_true, if_false]
              exact mu_iret (v0 := nI n) (z := (st (su (su (su (su (su σ 0 (0) (0)) 2 (n) (sort)) 3 (n) (parent)) 5 (n) (0)) 1 (0) (nI (n + 1))) 6 (recF (σ 6) (upd (σ 3) (n) (parent)) (upd (σ 5) (n) (0)) (σ 4) n), τ)) hx hb hr hlocks hP hD hS dX8_type_116 (by rw [ho]) (by rw [ho])
            · -- 54 not
              have c10 : n = 12 := nI_inj (by omega) (by omega) (by have h8 := c10; rw [h1] at h8; exact h8)
              refine lv_bipush (v := -15) hx hb dX8_type_57 (by decide) ?_
              have ho : oType σ τ n sort parent = ((-15), su σ 0 (0) (0), τ) := by unfold oType; simp only [eq_true c2, eq_false c3, eq_false c5, eq_true c7, eq_true c9, eq_true c10, show (parent).toNatClampNeg = j8 by rw [e_j8]; exact nI_clamp (by omega), not_true, not_false_iff, not_true_eq_false, not_false_eq_true, true_or, or_true, false_or, or_false, or_self, and_self, true_and, and_true, false_and, and_false, if_true, if_false]
              exact mu_iret (v0 := (-15)) (z := (su σ 0 (0) (0), τ)) hx hb hr hlocks hP hD hS dX8_type_59 (by rw [ho]) (by rw [ho])
          · -- 42 not
            refine lv_bipush (v := -11) hx hb dX8_type_45 (by decide) ?_
            have ho : oType σ τ n sort parent = ((-11), su σ 0 (0) (0), τ) := by unfold oType; simp only [eq_true c2, eq_false c3, eq_false c5, eq_true c7, eq_false c9, show (parent).toNatClampNeg = j8 by rw [e_j8]; exact nI_clamp (by omega), not_true, not_false_iff, not_true_eq_false, not_false_eq_true, true_or, or_true, false_or, or_false, or_self, and_self, true_and, and_true, false_and, and_false, if_true, if_false]
            exact mu_iret (v0 := (-11)) (z := (su σ 0 (0) (0), τ)) hx hb hr hlocks hP hD hS dX8_type_47 (by rw [ho]) (by rw [ho])
  · -- 11 not
    have c2 := bI_0 c2
    refine lv_bipush (v := -13) hx hb dX8_type_14 (by decide) ?_
    have ho : oType σ τ n sort parent = ((-13), su σ 0 (0) (0), τ) := by unfold oType; simp only [eq_false c2, not_true, not_false_iff, not_true_eq_false, not_false_eq_true, true_or, or_true, false_or, or_false, or_self, and_self, true_and, and_true, false_and, and_false, if_true, if_false]
    exact mu_iret (v0 := (-13)) (z := (su σ 0 (0) (0), τ)) hx hb hr hlocks hP hD hS dX8_type_16 (by rw [ho]) (by rw [ho])
