/-! the class: its press goes over whole days at once -/
theorem zip_of {α : Type} {l : List α} {p : α × Nat} (hp : p ∈ l.zipIdx) : l[p.2]? = some p.1 := by
  obtain ⟨i, hi⟩ := List.getElem?_of_mem hp
  rw [List.getElem?_zipIdx] at hi
  obtain ⟨y, hy, hyp⟩ := Option.map_eq_some_iff.mp hi
  rw [← hyp]
  show l[0 + i]? = some y
  rw [Nat.zero_add]; exact hy
theorem sNx_st {s : ST} {lf lf' : Nat → Int32} {d d' : Int32} (h : ∀ i x, (s_wav s)[i]? = some x → (lf i ≤ 0 ↔ lf' i ≤ 0) ∧ (¬ lf i ≤ 0 → (d < x.2.1 ↔ d' < x.2.1))) : sNx s lf d = sNx s lf' d' := by
  refine foldl_cg (s_wav s).zipIdx none (fun p hp b => ?_)
  obtain ⟨h1, h2⟩ := h p.2 p.1 (zip_of hp)
  unfold nwS
  by_cases u : lf p.2 ≤ 0
  · rw [if_pos u, if_pos (h1.mp u)]
  · rw [if_neg u, if_neg (fun z => u (h1.mpr z))]
    by_cases u2 : d < p.1.2.1
    · rw [if_pos u2, if_pos ((h2 u).mp u2)]
    · rw [if_neg u2, if_neg (fun z => u2 ((h2 u).mpr z))]
theorem sNx_no {s : ST} {lf : Nat → Int32} {d : Int32} (h : ∀ i x, (s_wav s)[i]? = some x → lf i ≤ 0 ∨ d < x.2.1) : sNx s lf d = none :=
  fold_inv (fun o => o = none) (nwS lf d) (s_wav s).zipIdx none rfl (fun a p hp ha => by
    subst ha
    unfold nwS
    rcases h p.2 p.1 (zip_of hp) with u | u
    · rw [if_pos u]
    · split
      · rfl
      · exact rfl)
/-- idle days -/
theorem prI_idle {s : ST} {k : Nat} {lf en : Nat → Int32} {d n : Nat} {r : Int32} (hp : prI s k = (lf, nI d, r, en)) (hn : n < 2147483648) (h : ∀ i x, (s_wav s)[i]? = some x → lf i ≤ 0 ∨ nI n ≤ x.2.1) : ∀ j, 1 ≤ j → d + j ≤ n → prI s (k + j) = (lf, nI (d + j), s_prs s, en) := by
  have hno : ∀ e, e < n → sNx s lf (nI e) = none := fun e he => sNx_no (fun i x hx => by
    rcases h i x hx with u | u
    · exact .inl u
    · exact .inr (Int32.lt_of_lt_of_le ((nj_lt (by omega) hn).mpr he) u))
  intro j
  induction j with
  | zero => intro h; omega
  | succ j ih =>
    intro _ h2
    have e : ∃ r', prI s (k + j) = (lf, nI (d + j), r', en) := by
      rcases Nat.eq_zero_or_pos j with z | z
      · subst z; exact ⟨r, hp⟩
      · exact ⟨_, ih z (by omega)⟩
    obtain ⟨r', e⟩ := e
    show prS s (prI s (k + j)) = _
    rw [e]
    unfold prS
    simp only [hno (d + j) (by omega), nj_s]
    rfl
/-- whole days for one wave -/
theorem prI_whole {s : ST} {k1 w P d b : Nat} {x : Wv} {lf lf1 en : Nat → Int32} (hP : s_prs s = nI P) (hx : sNx s lf (nI d) = some (w, x)) (hp : prI s k1 = (lf1, nI (d + 1), nI P, en)) (h1 : ∀ i, i ≠ w → lf1 i = lf i) (hb : lf1 w = nI b) (hbl : b < 2147483648) (W : Nat) (hW : W * P < b) (hd : d + W < 2147483640) (hPl : P < 2147483648) (hn : ∀ i y, (s_wav s)[i]? = some y → lf i ≤ 0 ∨ y.2.1 ≤ nI d ∨ nI (d + W) < y.2.1) :
    ∀ j, j ≤ W → prI s (k1 + j) = (fun i => if i = w then nI (b - j * P) else lf1 i, nI (d + 1 + j), nI P, en) := by
  obtain ⟨hs1, hs2⟩ := sNx_some hx
  intro j
  induction j with
  | zero =>
    intro _
    show prI s k1 = _
    rw [hp]
    have : (fun i => if i = w then nI (b - 0 * P) else lf1 i) = lf1 := by
      funext i
      split
      · rename_i e; rw [e, hb, Nat.zero_mul, Nat.sub_zero]
      · rfl
    rw [this]
  | succ j ih =>
    intro hj
    have e := ih (by omega)
    have hmul : (j + 1) * P ≤ W * P := Nat.mul_le_mul_right P hj
    rw [Nat.succ_mul] at hmul
    have hsx : sNx s (fun i => if i = w then nI (b - j * P) else lf1 i) (nI (d + 1 + j)) = some (w, x) := by
      rw [← hx]
      refine (sNx_st (fun i y hy => ?_)).symm
      have hd1 : nI d ≤ nI (d + 1 + j) := (nj_le (by omega) (by omega)).mpr (by omega)
      have hd2 : nI (d + 1 + j) ≤ nI (d + W) := (nj_le (by omega) (by omega)).mpr (by omega)
      refine ⟨?_, fun u => ?_⟩
      · by_cases ei : i = w
        · subst ei
          rw [if_pos rfl]
          refine ⟨fun z => absurd z hs1, fun z => ?_⟩
          have := (nj_le (b := 0) (show b - j * P < 2147483648 by omega) (by omega)).mp z
          omega
        · rw [if_neg ei, h1 i ei]
      · rcases hn i y hy with z | z | z
        · exact absurd z u
        · exact ⟨fun q => (Int32.lt_irrefl (Int32.lt_of_lt_of_le q z)).elim, fun q => (Int32.lt_irrefl (Int32.lt_of_lt_of_le q (Int32.le_trans z hd1))).elim⟩
        · exact ⟨fun _ => Int32.lt_of_le_of_lt hd2 z, fun _ => Int32.lt_of_le_of_lt (Int32.le_trans hd1 hd2) z⟩
    show prS s (prI s (k1 + j)) = _
    rw [e]
    unfold prS
    simp only [hsx, if_true]
    rw [if_neg (by rw [nj_le (by omega) hPl]; omega), nj_s, nj_sub (by omega), hP]
    have hfn : (fun i => if i = w then nI (b - j * P - P) else (if i = w then nI (b - j * P) else lf1 i)) = (fun i => if i = w then nI (b - (j + 1) * P) else lf1 i) := by
      funext i
      split
      · rw [Nat.succ_mul, Nat.sub_sub]
      · rfl
    rw [hfn]
    rfl
/-- how many waves with something left get ready later -/
def prR (s : ST) (lf : Nat → Int32) (d : Int32) : Nat → Nat
  | 0 => 0
  | n + 1 => prR s lf d n + (if lf n ≤ 0 ∨ ((s_wav s)[n]?.getD default).2.1 ≤ d then 0 else 1)
theorem prR_le {s : ST} {lf lf' : Nat → Int32} {d d' : Int32} (h1 : ∀ i, lf i ≤ 0 → lf' i ≤ 0) (h2 : d ≤ d') : ∀ n, prR s lf' d' n ≤ prR s lf d n := by
  intro n
  induction n with
  | zero => exact Nat.le_refl _
  | succ n ih =>
    show _ + _ ≤ _ + _
    by_cases u : lf n ≤ 0 ∨ ((s_wav s)[n]?.getD default).2.1 ≤ d
    · rw [if_pos u, if_pos]
      · exact ih
      · rcases u with u | u
        · exact .inl (h1 n u)
        · exact .inr (Int32.le_trans u h2)
    · rw [if_neg u]; split <;> omega
theorem prR_lt {s : ST} {lf lf' : Nat → Int32} {d d' : Int32} (h1 : ∀ i, lf i ≤ 0 → lf' i ≤ 0) (h2 : d ≤ d') {i : Nat} {x : Wv} (hx : (s_wav s)[i]? = some x) (h3 : ¬ lf i ≤ 0) (h4 : ¬ x.2.1 ≤ d) (h5 : x.2.1 ≤ d') : ∀ n, i < n → prR s lf' d' n + 1 ≤ prR s lf d n := by
  intro n
  induction n with
  | zero => intro h; omega
  | succ n ih =>
    intro hi
    show _ + _ + 1 ≤ _ + _
    by_cases e : i = n
    · subst e
      have := prR_le (s := s) h1 h2 i
      rw [hx]
      simp only [Option.getD_some]
      rw [if_pos (.inr h5), if_neg (by rintro (z | z); exact h3 z; exact h4 z)]
      omega
    · have := ih (by omega)
      by_cases u : lf n ≤ 0 ∨ ((s_wav s)[n]?.getD default).2.1 ≤ d
      · rw [if_pos u, if_pos]
        · omega
        · rcases u with u | u
          · exact .inl (h1 n u)
          · exact .inr (Int32.le_trans u h2)
      · rw [if_neg u]; split <;> omega
theorem prR_n {s : ST} {lf : Nat → Int32} {d : Int32} : ∀ n, prR s lf d n ≤ n := by
  intro n
  induction n with
  | zero => exact Nat.le_refl _
  | succ n ih => show _ + _ ≤ _; split <;> omega
def prB (s : ST) (lf : Nat → Int32) (d r : Int32) : Nat := match sNx s lf d with
  | none => 1
  | some (w, _) => if lf w ≤ r then 0 else 1
theorem prB_le {s : ST} {lf : Nat → Int32} {d r : Int32} : prB s lf d r ≤ 1 := by
  unfold prB
  split
  · omega
  · split <;> omega
def prM (s : ST) (lf : Nat → Int32) (d r : Int32) : Nat := 2 * prC lf (s_wav s).length + 2 * prR s lf d (s_wav s).length + prB s lf d r
/-- what the class's press holds of a step -/
def PY (m : Nat) (g : GH) (s : ST) (lf en : Nat → Int32) : Prop := ∀ i, i < (s_wav s).length → Ia g 771 m i = lf i ∧ (lf i ≤ 0 → Ia g 772 m i = en i) ∧ ∃ a, a ≤ 5000 ∧ lf i = nI a
