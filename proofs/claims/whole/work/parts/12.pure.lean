/-! pure rows: small numbers, folds -/
theorem nj_toInt {k : Nat} (h : k < 2147483648) : (nI k).toInt = k := by
  unfold nI
  rw [Int32.toInt_ofNat']
  simp [Int.bmod_def]
  omega
theorem nj_cl {k : Nat} (h : k < 2147483648) : (nI k).toNatClampNeg = k := nI_clamp h
theorem nj_le {a b : Nat} (ha : a < 2147483648) (hb : b < 2147483648) : nI a ≤ nI b ↔ a ≤ b := by
  rw [Int32.le_iff_toInt_le, nj_toInt ha, nj_toInt hb]; omega
theorem nj_lt {a b : Nat} (ha : a < 2147483648) (hb : b < 2147483648) : nI a < nI b ↔ a < b := by
  rw [Int32.lt_iff_toInt_lt, nj_toInt ha, nj_toInt hb]; omega
theorem nj_eq {a b : Nat} (ha : a < 2147483648) (hb : b < 2147483648) : nI a = nI b ↔ a = b := by
  rw [← Int32.toInt_inj, nj_toInt ha, nj_toInt hb]; omega
theorem nj_s (k : Nat) : nI k + 1 = nI (k + 1) := by
  have := nI_add k 1
  rw [← this]; rfl
theorem nj_0 : (0 : Int32) = nI 0 := rfl
theorem nj_nneg {k : Nat} (h : k < 2147483648) : (0 : Int32) ≤ nI k := by
  have h0 : (0 : Int32) = nI 0 := rfl
  rw [h0, nj_le (by omega) h]; omega
theorem inB_nI {k n : Nat} (h : k < n) (h2 : n < 2147483648) : inB (nI k) n := ⟨nj_nneg (by omega), by rw [nj_cl (by omega)]; exact h⟩
theorem nj_of {v : Int32} (h : 0 ≤ v) : v = nI v.toNatClampNeg ∧ v.toNatClampNeg < 2147483648 := by
  have h1 := nn32 h
  have h2 := Int32.toInt_lt v
  have hlt : v.toNatClampNeg < 2147483648 := by omega
  exact ⟨by rw [← Int32.toInt_inj, nj_toInt hlt]; exact h1, hlt⟩
theorem fold_take {α β : Type} (f : β → α → β) (b : β) (xs : List α) {k : Nat} {x : α} (h : xs[k]? = some x) : (xs.take (k + 1)).foldl f b = f ((xs.take k).foldl f b) x := by
  have hk : k < xs.length := (List.getElem?_eq_some_iff.mp h).1
  rw [List.take_succ, h, List.foldl_append]
  rfl
theorem get_lt {α : Type} {xs : List α} {k : Nat} (h : k < xs.length) : ∃ x, xs[k]? = some x := ⟨xs[k], List.getElem?_eq_getElem h⟩
theorem zip_get {α : Type} {xs : List α} {k : Nat} {x : α} (h : xs[k]? = some x) : xs.zipIdx[k]? = some (x, k) := by
  rw [List.getElem?_zipIdx, h]; simp
theorem fold_inv {α β : Type} (P : β → Prop) (f : β → α → β) : ∀ (l : List α) (b : β), P b → (∀ a x, x ∈ l → P a → P (f a x)) → P (l.foldl f b)
  | [], b, hb, _ => hb
  | x :: l, b, hb, h => fold_inv P f l (f b x) (h b x List.mem_cons_self hb) (fun a y hy => h a y (List.mem_cons_of_mem _ hy))
/-- the place of a find, as the programs say it -/
def oI {α : Type} (o : Option (Nat × α)) : Int32 := match o with
  | none => -1
  | some p => nI p.1
theorem oI_n {α : Type} : oI (none : Option (Nat × α)) = -1 := rfl
theorem oI_s {α : Type} (p : Nat × α) : oI (some p) = nI p.1 := rfl
theorem nI_nm1 {k : Nat} (h : k < 2147483648) : ¬ nI k = -1 := by
  intro e
  have h1 := nj_toInt h
  rw [e] at h1
  have : (-1 : Int32).toInt = -1 := by decide
  omega
/-- what a fold over numbered rows has found is a row of the list -/
theorem fold_row {α : Type} (xs : List α) (f : Option (Nat × α) → α × Nat → Option (Nat × α)) (hf : ∀ a p, f a p = a ∨ f a p = some (p.2, p.1)) {j : Nat} {x : α} (h : xs.zipIdx.foldl f none = some (j, x)) : xs[j]? = some x := by
  have := fold_inv (fun o : Option (Nat × α) => ∀ j x, o = some (j, x) → xs[j]? = some x) f xs.zipIdx none (fun _ _ h => by cases h) (fun a p hp ha j x he => by
    rcases hf a p with h | h
    · rw [h] at he; exact ha j x he
    · rw [h] at he
      cases he
      have := List.mem_zipIdx hp
      rw [List.getElem?_eq_some_iff]
      exact ⟨by omega, by have := this.2.2; simp at this; exact this.symm⟩)
  exact this j x h
/-- a fold over the first k numbered rows is a fold over all that looks at the first k alone -/
theorem fold_ltake {α β : Type} (f : β → α × Nat → β) (xs : List α) (k : Nat) (b : β) : xs.zipIdx.foldl (fun a p => if p.2 < k then f a p else a) b = (xs.zipIdx.take k).foldl f b := by
  have key : ∀ (l : List α) (n : Nat) (b : β), (l.zipIdx n).foldl (fun a p => if p.2 < k then f a p else a) b = ((l.zipIdx n).take (k - n)).foldl f b := by
    intro l
    induction l with
    | nil => intro n b; simp
    | cons x l ih =>
      intro n b
      rw [List.zipIdx_cons, List.foldl_cons, ih]
      by_cases h : n < k
      · rw [if_pos h, show k - n = (k - (n + 1)) + 1 by omega, List.take_succ_cons, List.foldl_cons]
      · rw [if_neg h, show k - n = 0 by omega, show k - (n + 1) = 0 by omega]
        simp
  have := key xs 0 b
  rw [Nat.sub_zero] at this
  exact this
