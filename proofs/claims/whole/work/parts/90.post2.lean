/-! the class: an envelope's numbers are the letters of the state; its judge decides -/
theorem cH_s {f : Nat → Int32} {s : ST} {e q w : Int32} (h : ∀ k, k < 6 → f (10 + k) = sWord s e (nI k) q) : nI (cH f w) = sWords s e w q := by
  unfold cH sWords
  have key : ∀ k, k ≤ 6 → nI (((List.range 6).take k).foldl (fun n h => if f (10 + h) = w then n + 1 else n) 0) = ((List.range 6).take k).foldl (woC s e w q) 0 := by
    intro k
    induction k with
    | zero => intro _; rfl
    | succ k ih =>
      intro hk
      rw [fold_take _ _ _ (range_get (show k < 6 by omega)), fold_take _ _ _ (range_get (show k < 6 by omega)), ← ih (by omega)]
      unfold woC
      rw [h k (by omega)]
      split
      · rw [nj_s]
      · rfl
  have := key 6 (Nat.le_refl _)
  rw [List.take_of_length_le (by simp)] at this
  exact this
theorem sEnv_n {s : ST} {e : Nat} {y : Em} (h : (s_env s)[e]? = some y) (he : e < 2147483648) : sEnv s (nI e) = y := by
  unfold sEnv
  rw [nj_cl he, h]; rfl
theorem eLt_s {g : GH} {s : ST} {e x w : Nat} {q ahead : Int32} {y : Em} {z : Int32 × Int32 × Int32} (he : e < 2147483648) (hy : (s_env s)[e]? = some y) (hz : (s_vot s)[y.1.toNatClampNeg]? = some z) (hV : ENV s e q x g) (hC : ECM s e q x g) (h1 : Gi g 130 x = y.2.1) (h2 : Gi g 139 x = ahead) (h3 : Gi g 1288 w = sBooth s y.1 q) (h4 : Gi g 1285 w = sSent s y.1 q) (h5 : Gi g 1282 w = z.2.2) (h6 : Gi g 1281 w = z.2.1) (d : Int32) : eLt g x w d q = sLet s (nI e) d q ahead := by
  obtain ⟨v1, v2, v3⟩ := hV
  have hd : ∀ k : Nat, 1 ≤ k → k ≤ 8 → Ia g 135 x k = sDay s (nI e) (nI k) q := fun k a b => by
    have := congrArg Prod.fst (v1 k a b)
    rw [prj_d] at this; exact this
  have eE := sEnv_n hy he
  have eV : sVoter s y.1 = z := by unfold sVoter; rw [hz]; rfl
  have n1 : nI 1 = (1 : Int32) := rfl
  have n4 : nI 4 = (4 : Int32) := rfl
  have n5 : nI 5 = (5 : Int32) := rfl
  have n6 : nI 6 = (6 : Int32) := rfl
  have n7 : nI 7 = (7 : Int32) := rfl
  have n8 : nI 8 = (8 : Int32) := rfl
  have d1 := hd 1 (by decide) (by decide)
  have d4 := hd 4 (by decide) (by decide)
  have d5 := hd 5 (by decide) (by decide)
  have d6 := hd 6 (by decide) (by decide)
  have d7 := hd 7 (by decide) (by decide)
  have d8 := hd 8 (by decide) (by decide)
  rw [n1] at d1
  rw [n4] at d4
  rw [n5] at d5
  rw [n6] at d6
  rw [n7] at d7
  rw [n8] at d8
  have hu : (if sSign s (nI e) q = -1 then 9 else (unIt 8 (sSign s (nI e) q, z.2.2, 0)).2.2) = sUnl s (nI e) q := by
    unfold sUnl
    rw [eE, eV]
  unfold eLt sLet
  rw [d1, d4, d5, d6, d7, d8, v2, hC.1, hC.2, h1, h2, h3, h4, h5, h6, hu, cH_s v3, cH_s v3, eE, eV]
  by_cases a1 : d = 98
  · subst a1; rfl
  by_cases a2 : d = 99
  · subst a2; rfl
  by_cases a3 : d = 101
  · subst a3; rfl
  by_cases a4 : d = 102
  · subst a4; rfl
  by_cases a5 : d = 105
  · subst a5; rfl
  by_cases a6 : d = 108
  · subst a6; rfl
  by_cases a7 : d = 109
  · subst a7; rfl
  by_cases a8 : d = 110
  · subst a8; rfl
  by_cases a9 : d = 111
  · subst a9; rfl
  by_cases a10 : d = 112
  · subst a10; rfl
  by_cases a11 : d = 114
  · subst a11; rfl
  by_cases a12 : d = 115
  · subst a12; rfl
  by_cases a13 : d = 116
  · subst a13; rfl
  by_cases a14 : d = 120
  · subst a14; rfl
  by_cases a15 : d = 121
  · subst a15; rfl
  by_cases a16 : d = 122
  · subst a16; rfl
  simp only [a1, a2, a3, a4, a5, a6, a7, a8, a9, a10, a11, a12, a13, a14, a15, a16, if_false]
def bd4 (x : Int32) : Prop := -1 ≤ x ∧ x ≤ 400
theorem bd4.ok {x : Int32} (h : bd4 x) : okV false x := by
  obtain ⟨h1, h2⟩ := h
  rw [Int32.le_iff_toInt_le] at h1 h2
  have e1 : (-1 : Int32).toInt = -1 := by decide
  have e2 : (400 : Int32).toInt = 400 := by decide
  exact ⟨by omega, by omega⟩
theorem bd4.nn {s : ST} (hW : WF s) {x : Int32} (h : x = -1 ∨ (0 ≤ x ∧ x ≤ s_now s)) : bd4 x := by
  rcases h with rfl | ⟨h1, h2⟩
  · exact ⟨by decide, by decide⟩
  · exact ⟨Int32.le_trans (by decide) h1, Int32.le_trans h2 hW.now.2⟩
theorem bd4.n {k : Nat} (h : k ≤ 400) : bd4 (nI k) := ⟨Int32.le_trans (b := 0) (by decide) (nj_nneg (by omega)), (nj_le (b := 400) (by omega) (by omega)).mpr h⟩
theorem sBooth_b {s : ST} (hW : WF s) (v q : Int32) : bd4 (sBooth s v q) := by
  refine bd4.nn hW (fold_inv (fun x : Int32 => x = -1 ∨ (0 ≤ x ∧ x ≤ s_now s)) (boS v q) (s_boo s) (-1) (.inl rfl) (fun a x hx ha => ?_))
  unfold boS
  split
  · exact .inr (hW.boo x hx).2.1
  · exact ha
theorem sSent_n {s : ST} (v q : Int32) : ∃ k, k ≤ (s_env s).length ∧ sSent s v q = nI k := by
  have key : ∀ (l : List Em) (a : Int32) (n : Nat), a = nI n → ∃ k, k ≤ n + l.length ∧ l.foldl (seS v q) a = nI k := by
    intro l
    induction l with
    | nil => intro a n h; exact ⟨n, by simp, h⟩
    | cons x l ih =>
      intro a n h
      rw [List.foldl_cons]
      unfold seS
      split
      · obtain ⟨k, h1, h2⟩ := ih (a + 1) (n + 1) (by rw [h, nj_s])
        exact ⟨k, by rw [List.length_cons]; omega, h2⟩
      · obtain ⟨k, h1, h2⟩ := ih a n h
        exact ⟨k, by rw [List.length_cons]; omega, h2⟩
  obtain ⟨k, h1, h2⟩ := key (s_env s) 0 0 rfl
  exact ⟨k, by omega, h2⟩
theorem unIt_n (a : Int32 × Int32) : ∀ n, ∃ k, k ≤ n ∧ (unIt n (a.1, a.2, 0)).2.2 = nI k := by
  intro n
  induction n with
  | zero => exact ⟨0, Nat.le_refl _, rfl⟩
  | succ n ih =>
    obtain ⟨k, h1, h2⟩ := ih
    show ∃ k, _ ∧ (unF (unIt n _)).2.2 = _
    unfold unF
    simp only
    rw [h2]
    split
    · exact ⟨k, by omega, by rw [Int32.add_zero]⟩
    · exact ⟨k + 1, by omega, nj_s k⟩
theorem sWords_n {s : ST} (e w q : Int32) : ∃ k, k ≤ 6 ∧ sWords s e w q = nI k := by
  obtain ⟨f, hf⟩ : ∃ f : Nat → Int32, f = fun i => sWord s e (nI (i - 10)) q := ⟨_, rfl⟩
  have h := cH_s (f := f) (s := s) (e := e) (q := q) (w := w) (fun k _ => by rw [hf]; show sWord s e (nI (10 + k - 10)) q = _; rw [Nat.add_sub_cancel_left])
  exact ⟨cH f w, cH_le 6 (Nat.le_refl _) |> fun z => by rw [List.take_of_length_le (by simp)] at z; exact z, h.symm⟩
theorem ite_ok {c : Prop} [Decidable c] {a b : Int32} (h1 : bd4 a) (h2 : bd4 b) : bd4 (if c then a else b) := by split <;> assumption
theorem let_b {s : ST} (hW : WF s) {e : Nat} {y : Em} (hy : (s_env s)[e]? = some y) {q ahead : Int32} (hq : 0 ≤ q ∧ q ≤ s_now s) (ha : bd4 ahead) (d : Int32) : bd4 (sLet s (nI e) d q ahead) := by
  have hlt := (List.getElem?_eq_some_iff.mp hy).1
  have hl := hW.len
  have eE := sEnv_n hy (by omega)
  have hyw := hW.env y (List.mem_of_getElem? hy)
  obtain ⟨z, hz⟩ := get_lt hyw.1.2
  have eV : sVoter s y.1 = z := by unfold sVoter; rw [hz]; rfl
  have hzw := hW.vot z (List.mem_of_getElem? hz)
  have hday : ∀ k, bd4 (sDay s (nI e) k q) := fun k => bd4.nn hW (sDay_b hW (nI e) k q)
  unfold sLet
  rw [eE, eV]
  refine ite_ok (bd4.nn hW (.inr hq)) (ite_ok (bd4.nn hW (.inr hyw.2.1)) (ite_ok (hday 1) (ite_ok (bd4.nn hW (sCome_b hW _ _)) (ite_ok (hday 6) (ite_ok (hday 4) (ite_ok (hday 5) (ite_ok (hday 7) (ite_ok (hday 8) (ite_ok (sBooth_b hW _ _) (ite_ok (ite_ok ⟨by decide, by decide⟩ ⟨by decide, by decide⟩) (ite_ok ?_ (ite_ok ?_ (ite_ok ?_ (ite_ok ha (ite_ok ?_ ?_)))))))))))))))
  · unfold sUnl
    refine ite_ok ⟨by decide, by decide⟩ ?_
    obtain ⟨k, h1, h2⟩ := unIt_n (sSign s (nI e) q, (sVoter s (sEnv s (nI e)).1).2.2) 8
    rw [h2]; exact bd4.n (by omega)
  · obtain ⟨k, h1, h2⟩ := sWords_n (s := s) (nI e) 1 q
    rw [h2]; exact bd4.n (by omega)
  · obtain ⟨k, h1, h2⟩ := sWords_n (s := s) (nI e) 0 q
    rw [h2]; exact bd4.n (by omega)
  · obtain ⟨k, h1, h2⟩ := sSent_n (s := s) y.1 q
    rw [h2]; exact bd4.n (by omega)
  · exact ⟨Int32.le_trans (by decide) hzw.2.1.1, Int32.le_trans hzw.2.1.2 (by decide)⟩
