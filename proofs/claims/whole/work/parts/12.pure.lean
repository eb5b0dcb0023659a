/-! pure rows: small numbers, folds -/
theorem nj_toInt {k : Nat} (h : k < 2147483648) : (nI k).toInt = k := by
  unfold nI
  rw [Int32.toInt_ofNat']
  simp [Int.bmod_def]
  omega
theorem nj_cl {k : Nat} (h : k < 2147483648) : (nI k).toNatClampNeg = k := nI_clamp h
theorem nj_le {a b : Nat} (ha : a < 2147483648) (hb : b < 2147483648) : nI a ≤ nI b ↔ a ≤ b := by
  rw [Int32.le_iff_toInt_le, nj_toInt ha, nj_toInt hb]; omega
theorem nj_lt {a b : Nat} (ha : a < 2147483648) (hb : b < 2147483648) : nI a < nI b ↔ a < b := by
  rw [Int32.lt_iff_toInt_lt, nj_toInt ha, nj_toInt hb]; omega
theorem nj_eq {a b : Nat} (ha : a < 2147483648) (hb : b < 2147483648) : nI a = nI b ↔ a = b := by
  rw [← Int32.toInt_inj, nj_toInt ha, nj_toInt hb]; omega
theorem nj_s (k : Nat) : nI k + 1 = nI (k + 1) := by
  have := nI_add k 1
  rw [← this]; rfl
theorem nj_0 : (0 : Int32) = nI 0 := rfl
theorem nj_nneg {k : Nat} (h : k < 2147483648) : (0 : Int32) ≤ nI k := by
  have h0 : (0 : Int32) = nI 0 := rfl
  rw [h0, nj_le (by omega) h]; omega
theorem inB_nI {k n : Nat} (h : k < n) (h2 : n < 2147483648) : inB (nI k) n := ⟨nj_nneg (by omega), by rw [nj_cl (by omega)]; exact h⟩
theorem nj_of {v : Int32} (h : 0 ≤ v) : v = nI v.toNatClampNeg ∧ v.toNatClampNeg < 2147483648 := by
  have h1 := nn32 h
  have h2 := Int32.toInt_lt v
  have hlt : v.toNatClampNeg < 2147483648 := by omega
  exact ⟨by rw [← Int32.toInt_inj, nj_toInt hlt]; exact h1, hlt⟩
theorem fold_take {α β : Type} (f : β → α → β) (b : β) (xs : List α) {k : Nat} {x : α} (h : xs[k]? = some x) : (xs.take (k + 1)).foldl f b = f ((xs.take k).foldl f b) x := by
  have hk : k < xs.length := (List.getElem?_eq_some_iff.mp h).1
  rw [List.take_succ, h, List.foldl_append]
  rfl
theorem get_lt {α : Type} {xs : List α} {k : Nat} (h : k < xs.length) : ∃ x, xs[k]? = some x := ⟨xs[k], List.getElem?_eq_getElem h⟩
