/-! the class: its judge's words, next to the reference's -/
theorem sBnd_v (v : Int64) : (sBnd v).toInt = max (-1000000) (min v.toInt 1000000) := by
  have e1 : (1000000 : Int64).toInt = 1000000 := by decide
  have e2 : (-1000000 : Int64).toInt = -1000000 := by decide
  have hb : ∀ m : Int64, -1000000 ≤ m.toInt → m.toInt ≤ 1000000 → (m.toInt32).toInt = m.toInt := fun m h1 h2 => by
    rw [Int64.toInt_toInt32]
    exact Int.bmod_eq_of_le_mul_two (by omega) (by omega)
  unfold sBnd
  by_cases h1 : v < (1000000 : Int64)
  · rw [if_pos h1]
    rw [Int64.lt_iff_toInt_lt, e1] at h1
    by_cases h2 : v < (-1000000 : Int64)
    · rw [if_pos h2]
      rw [Int64.lt_iff_toInt_lt, e2] at h2
      rw [hb _ (by rw [e2]; omega) (by rw [e2]; omega), e2]; omega
    · rw [if_neg h2]
      rw [Int64.lt_iff_toInt_lt, e2] at h2
      rw [hb _ (by omega) (by omega)]; omega
  · rw [if_neg h1]
    rw [Int64.lt_iff_toInt_lt, e1] at h1
    rw [if_neg (by decide), hb _ (by rw [e1]; omega) (by rw [e1]; omega), e1]; omega
/-- a value of a kind: a truth, or a number within bounds -/
def okV (b : Bool) (v : Int32) : Prop := match b with
  | true => v = 0 ∨ v = 1
  | false => -1000000 ≤ v.toInt ∧ v.toInt ≤ 1000000
def okK : List Bool → List Int32 → Prop
  | [], [] => True
  | b :: t, v :: l => okV b v ∧ okK t l
  | _, _ => False
theorem okK_len : ∀ {t : List Bool} {l : List Int32}, okK t l → l.length = t.length := by
  intro t
  induction t with
  | nil => intro l h; cases l with
    | nil => rfl
    | cons => exact h.elim
  | cons b t ih => intro l h; cases l with
    | nil => exact h.elim
    | cons v l => rw [List.length_cons, List.length_cons, ih h.2]
theorem okK_c {b : Bool} {t : List Bool} {l : List Int32} (h : okK (b :: t) l) : ∃ v r, l = v :: r ∧ okV b v ∧ okK t r := by
  cases l with
  | nil => exact h.elim
  | cons v r => exact ⟨v, r, rfl, h.1, h.2⟩
theorem sBnd_ok (v : Int64) : okV false (sBnd v) := by
  show _ ∧ _
  rw [sBnd_v]
  omega
theorem i32_bd {x : Int32} : -2147483648 ≤ x.toInt ∧ x.toInt < 2147483648 := by
  have h1 := Int32.le_toInt x
  have h2 := Int32.toInt_lt x
  omega
theorem neg_bd {x : Int32} (h : okV false x) : sBnd ((-x).toInt64) = -x ∧ okV false (-x) := by
  obtain ⟨h1, h2⟩ := h
  have e : (-x).toInt = -x.toInt := by
    rw [Int32.toInt_neg]
    exact Int.bmod_eq_of_le_mul_two (by omega) (by omega)
  refine ⟨?_, by rw [show okV false (-x) = (-1000000 ≤ (-x).toInt ∧ (-x).toInt ≤ 1000000) from rfl, e]; omega⟩
  apply Int32.toInt_inj.mp
  rw [sBnd_v, Int32.toInt_toInt64, e]
  omega
/-- the class's step over a word -/
def evJ (f : Int32 → Int32) (w : Int32) (stk : List Int32) : List Int32 :=
  if -w ≤ 0 then -(-w) :: stk else if okLt (-w) then f (-w) :: stk
  else if -w = 33 then (match stk with
    | x :: t => (if x = 0 then 1 else 0) :: t
    | [] => [])
  else if -w = 126 then (match stk with
    | x :: t => -x :: t
    | [] => [])
  else match stk with
    | y :: x :: t => cJn (-w) x y :: t
    | _ => []
theorem ng_le (k : Nat) (hk : k < 10000) : -(nI k) ≤ 0 := by
  rw [Int32.le_iff_toInt_le, Int32.toInt_neg, nj_toInt (by omega), Int.bmod_eq_of_le_mul_two (by omega) (by omega)]
  show -(k : Int) ≤ 0
  omega
theorem cJn_num {c a b : Int32} (h : c = 43 ∨ c = 45 ∨ c = 42) : cJn c a b = sBoth c a b ∧ okV false (sBoth c a b) := by
  rcases h with rfl | rfl | rfl
  · exact ⟨rfl, sBnd_ok _⟩
  · exact ⟨rfl, sBnd_ok _⟩
  · exact ⟨rfl, sBnd_ok _⟩
theorem cJn_cmp {c a b : Int32} (h : c = 61 ∨ c = 60 ∨ c = 62 ∨ c = 35) : cJn c a b = sBoth c a b ∧ okV true (sBoth c a b) := by
  rcases h with rfl | rfl | rfl | rfl
  · show (if a = b then (1 : Int32) else 0) = (if a = b then 1 else 0) ∧ okV true (if a = b then 1 else 0)
    by_cases e : a = b
    · rw [if_pos e]; exact ⟨rfl, .inr rfl⟩
    · rw [if_neg e]; exact ⟨rfl, .inl rfl⟩
  · show (if b ≤ a then (0 : Int32) else 1) = (if a < b then 1 else 0) ∧ okV true (if a < b then 1 else 0)
    by_cases e : a < b
    · rw [if_pos e, if_neg (Int32.not_le.mpr e)]; exact ⟨rfl, .inr rfl⟩
    · rw [if_neg e, if_pos (Int32.not_lt.mp e)]; exact ⟨rfl, .inl rfl⟩
  · show (if a ≤ b then (0 : Int32) else 1) = (if b < a then 1 else 0) ∧ okV true (if b < a then 1 else 0)
    by_cases e : b < a
    · rw [if_pos e, if_neg (Int32.not_le.mpr e)]; exact ⟨rfl, .inr rfl⟩
    · rw [if_neg e, if_pos (Int32.not_lt.mp e)]; exact ⟨rfl, .inl rfl⟩
  · show (if a = b then (0 : Int32) else 1) = (if a = b then 0 else 1) ∧ okV true (if a = b then 0 else 1)
    by_cases e : a = b
    · rw [if_pos e]; exact ⟨rfl, .inl rfl⟩
    · rw [if_neg e]; exact ⟨rfl, .inr rfl⟩
theorem cJn_tru {c a b : Int32} (h : c = 38 ∨ c = 124) (ha : okV true a) (hb : okV true b) : cJn c a b = sBoth c a b ∧ okV true (sBoth c a b) := by
  have ha' : a = 0 ∨ a = 1 := ha
  have hb' : b = 0 ∨ b = 1 := hb
  show _ ∧ (sBoth c a b = 0 ∨ sBoth c a b = 1)
  rcases h with rfl | rfl <;> rcases ha' with rfl | rfl <;> rcases hb' with rfl | rfl <;> decide
theorem evJ_eq {f : Int32 → Int32} {w : Int32} {t t' : List Bool} {stk : List Int32} (h : tyW w t = some t') (hs : okK t stk) (hf : ∀ c, okLt c → okV false (f c)) : evJ f w stk = evW f w stk ∧ okK t' (evW f w stk) := by
  rcases tyW_cs h with ⟨h1, h2, rfl⟩ | ⟨h1, h2, h3, rfl⟩ | ⟨h1, h2, h3, r, rfl, rfl⟩ | ⟨h1, h2, h3, r, rfl, rfl⟩ | ⟨h1, h2, h3, r, rfl, rfl⟩ | ⟨h1, h2, h3, r, rfl, rfl⟩ | ⟨h1, h2, h3, r, rfl, rfl⟩
  · have hn := nj_of h1
    have h2' := h2
    rw [hn.1] at h2'
    have h3 := (nj_le (b := 9999) hn.2 (by omega)).mp h2'
    have h4 : -w ≤ 0 := by rw [hn.1]; exact ng_le _ (by omega)
    unfold evJ evW
    rw [if_pos h4, if_pos h1, Int32.neg_neg]
    refine ⟨rfl, ⟨?_, ?_⟩, hs⟩
    · rw [hn.1, nj_toInt hn.2]; omega
    · rw [hn.1, nj_toInt hn.2]; omega
  · have h4 : ¬ -w ≤ 0 := fun z => absurd (Int32.le_trans h2.1 z) (by decide)
    unfold evJ evW
    rw [if_neg h4, if_pos h3, if_neg h1, if_pos h2]
    exact ⟨rfl, hf _ h3, hs⟩
  · obtain ⟨x, l, rfl, hx, hl⟩ := okK_c hs
    unfold evJ evW
    rw [if_neg h1, if_neg h2, h3]
    simp (decide := true) only [if_true, if_false]
    refine ⟨trivial, ?_, hl⟩
    by_cases e : x = 0
    · rw [if_pos e]; exact .inr rfl
    · rw [if_neg e]; exact .inl rfl
  · obtain ⟨x, l, rfl, hx, hl⟩ := okK_c hs
    obtain ⟨k1, k2⟩ := neg_bd hx
    unfold evJ evW
    rw [if_neg h1, if_neg h2, h3]
    simp (decide := true) only [if_true, if_false]
    rw [k1]
    exact ⟨rfl, k2, hl⟩
  · obtain ⟨y, l, rfl, hy, hl⟩ := okK_c hs
    obtain ⟨x, l, rfl, hx, hl⟩ := okK_c hl
    obtain ⟨k1, k2⟩ := cJn_num (a := x) (b := y) h3
    unfold evJ evW
    rw [if_neg h1, if_neg h2]
    rcases h3 with h3 | h3 | h3 <;> rw [h3] at k1 k2 ⊢ <;> simp (decide := true) only [if_false] <;> rw [k1] <;> exact ⟨rfl, k2, hl⟩
  · obtain ⟨y, l, rfl, hy, hl⟩ := okK_c hs
    obtain ⟨x, l, rfl, hx, hl⟩ := okK_c hl
    obtain ⟨k1, k2⟩ := cJn_cmp (a := x) (b := y) h3
    unfold evJ evW
    rw [if_neg h1, if_neg h2]
    rcases h3 with h3 | h3 | h3 | h3 <;> rw [h3] at k1 k2 ⊢ <;> simp (decide := true) only [if_false] <;> rw [k1] <;> exact ⟨rfl, k2, hl⟩
  · obtain ⟨y, l, rfl, hy, hl⟩ := okK_c hs
    obtain ⟨x, l, rfl, hx, hl⟩ := okK_c hl
    obtain ⟨k1, k2⟩ := cJn_tru h3 hx hy
    unfold evJ evW
    rw [if_neg h1, if_neg h2]
    rcases h3 with h3 | h3 <;> rw [h3] at k1 k2 ⊢ <;> simp (decide := true) only [if_false] <;> rw [k1] <;> exact ⟨rfl, k2, hl⟩
