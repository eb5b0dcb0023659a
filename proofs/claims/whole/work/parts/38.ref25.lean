/-! days are bounded -/
theorem sDay_b {s : ST} (hw : WF s) (e k q : Int32) : sDay s e k q = -1 ∨ (0 ≤ sDay s e k q ∧ sDay s e k q ≤ s_now s) := by
  unfold sDay
  cases h : sEv s e k q with
  | none => exact .inl rfl
  | some p =>
    obtain ⟨j, x⟩ := p
    exact .inr (hw.evt x (List.mem_of_getElem? (sEv_get h))).2.2.1
theorem sCome_b {s : ST} (hw : WF s) (e q : Int32) : (sCome s e q).1 = -1 ∨ (0 ≤ (sCome s e q).1 ∧ (sCome s e q).1 ≤ s_now s) := by
  have h2 := sDay_b hw e 2 q
  have h4 := sDay_b hw e 4 q
  have h5 := sDay_b hw e 5 q
  have he : ∀ j x, sEmp s e q = some (j, x) → 0 ≤ x.2.1 ∧ x.2.1 ≤ s_now s := fun j x h => (hw.emp x (List.mem_of_getElem? (sEmp_get h))).2.1
  unfold sCome
  generalize sDay s e 2 q = a at *
  generalize sDay s e 4 q = b at *
  generalize sDay s e 5 q = c at *
  cases hm : sEmp s e q with
  | none => grind
  | some p =>
    obtain ⟨j, x⟩ := p
    have := he j x hm
    grind
