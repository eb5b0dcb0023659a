/-! the words of a law: what they leave; the reference's evaluation -/
def evW (f : Int32 → Int32) (w : Int32) (stk : List Int32) : List Int32 :=
  if 0 ≤ w then w :: stk else if 97 ≤ -w ∧ -w ≤ 122 then f (-w) :: stk
  else if -w = 33 then (match stk with
    | x :: t => (if x = 0 then 1 else 0) :: t
    | [] => [])
  else if -w = 126 then (match stk with
    | x :: t => sBnd ((-x).toInt64) :: t
    | [] => [])
  else match stk with
    | y :: x :: t => sBoth (-w) x y :: t
    | _ => []
def evC (f : Int32 → Int32) (c : List Int32) : List Int32 := c.foldl (fun stk w => evW f w stk) []
def sEval (f : Int32 → Int32) (c : List Int32) : Int32 := (evC f c).headD 0
theorem tyW_len {w : Int32} {t t' : List Bool} {f : Int32 → Int32} {stk : List Int32} (h : tyW w t = some t') (hl : stk.length = t.length) : (evW f w stk).length = t'.length := by
  rcases stk with _ | ⟨y, _ | ⟨x, s⟩⟩ <;> rcases t with _ | ⟨b, _ | ⟨a, t⟩⟩ <;> simp at hl <;> unfold tyW at h <;> unfold evW <;> simp only at h ⊢ <;> repeat' split at h
  all_goals first
    | (cases h; done)
    | (cases h; simp_all; done)
    | grind
theorem tyW_le {w : Int32} {t t' : List Bool} (h : tyW w t = some t') : t'.length ≤ t.length + 1 := by
  rcases t with _ | ⟨b, _ | ⟨a, t⟩⟩ <;> unfold tyW at h <;> (try simp only at h) <;> repeat' split at h
  all_goals first
    | (cases h; done)
    | (cases h; simp; done)
    | grind
theorem tyW_cs {w : Int32} {t t' : List Bool} (h : tyW w t = some t') :
    (0 ≤ w ∧ w ≤ 9999 ∧ t' = false :: t) ∨ (¬ 0 ≤ w ∧ (97 ≤ -w ∧ -w ≤ 122) ∧ okLt (-w) ∧ t' = false :: t) ∨ (¬ 0 ≤ w ∧ ¬ (97 ≤ -w ∧ -w ≤ 122) ∧ -w = 33 ∧ ∃ r, t = true :: r ∧ t' = true :: r)
    ∨ (¬ 0 ≤ w ∧ ¬ (97 ≤ -w ∧ -w ≤ 122) ∧ -w = 126 ∧ ∃ r, t = false :: r ∧ t' = false :: r) ∨ (¬ 0 ≤ w ∧ ¬ (97 ≤ -w ∧ -w ≤ 122) ∧ (-w = 43 ∨ -w = 45 ∨ -w = 42) ∧ ∃ r, t = false :: false :: r ∧ t' = false :: r)
    ∨ (¬ 0 ≤ w ∧ ¬ (97 ≤ -w ∧ -w ≤ 122) ∧ (-w = 61 ∨ -w = 60 ∨ -w = 62 ∨ -w = 35) ∧ ∃ r, t = false :: false :: r ∧ t' = true :: r) ∨ (¬ 0 ≤ w ∧ ¬ (97 ≤ -w ∧ -w ≤ 122) ∧ (-w = 38 ∨ -w = 124) ∧ ∃ r, t = true :: true :: r ∧ t' = true :: r) := by
  rcases t with _ | ⟨b, _ | ⟨a, t⟩⟩ <;> unfold tyW at h <;> (try simp only at h) <;> repeat' split at h
  all_goals first
    | (cases h; done)
    | (cases h; simp [*]; done)
    | grind
def Wds (a : Nat → Int32) (l : List Int32) (p : Nat) : Prop := match l with
  | [] => True
  | x :: t => a p = x ∧ Wds a t (p + 1)
theorem Wds_app {a : Nat → Int32} {l2 : List Int32} : ∀ {l1 : List Int32} {p : Nat}, Wds a (l1 ++ l2) p ↔ Wds a l1 p ∧ Wds a l2 (p + l1.length) := by
  intro l1
  induction l1 with
  | nil => intro p; simp [Wds]
  | cons x t ih =>
    intro p
    show (a p = x ∧ Wds a (t ++ l2) (p + 1)) ↔ (a p = x ∧ Wds a t (p + 1)) ∧ Wds a l2 (p + (t.length + 1))
    rw [ih, and_assoc, show p + 1 + t.length = p + (t.length + 1) by omega]
theorem Wds_of {a : Nat → Int32} : ∀ {l : List Int32} {p : Nat}, (∀ i v, l[i]? = some v → a (p + i) = v) → Wds a l p := by
  intro l
  induction l with
  | nil => intro p _; trivial
  | cons x t ih =>
    intro p h
    refine ⟨h 0 x rfl, ih fun i v hv => ?_⟩
    have := h (i + 1) v (by simpa using hv)
    rw [show p + 1 + i = p + (i + 1) by omega]; exact this
def Pil (a : Nat → Int32) (l : List Int32) : Prop := match l with
  | [] => True
  | x :: t => a t.length = x ∧ Pil a t
theorem Pil_set {a a' : Nat → Int32} : ∀ {l : List Int32}, (∀ i, i < l.length → a' i = a i) → Pil a l → Pil a' l := by
  intro l
  induction l with
  | nil => intro _ _; trivial
  | cons x t ih => intro h k; exact ⟨(h _ (by simp)).trans k.1, ih (fun i hi => h i (by simp; omega)) k.2⟩
/-- what stands while a part of a law is worked off -/
def InvW (th : Nat) (f : Int32 → Int32) (E : Nat) (R : List Int32) (tm : Int32) (c stk : List Int32) (pos : Nat) (l5 : Int32) (g0 g : GH) : Prop :=
  Wds (Ia g 1582 th) (enC c ++ [tm]) pos ∧ Gi g 1595 th = nI pos ∧ pos + (enC c).length + 1 = E ∧ (∃ ty tf, tyC c ty = some tf ∧ tf.length ≤ 1 ∧ stk.length = ty.length) ∧ stk.length + c.length ≤ 200 ∧ Pil (Ia g 1594 th) stk ∧ l5 = nI stk.length ∧ c.foldl (fun stk w => evW f w stk) stk = R ∧ FrX th [1569, 1570, 1595] [1594] g0 g
theorem InvW.st {th : Nat} {f : Int32 → Int32} {E : Nat} {R : List Int32} {tm w : Int32} {c stk stk' : List Int32} {pos pos' : Nat} {l5 l5' : Int32} {g0 g g' : GH} (h : InvW th f E R tm (w :: c) stk pos l5 g0 g) (hs : evW f w stk = stk') (hx : FrX th [1569, 1570, 1595] [1594] g g') (hp : Gi g' 1595 th = nI pos') (hpp : pos' = pos + (enW w).length) (hpl : Pil (Ia g' 1594 th) stk') (hl : l5' = nI stk'.length) : InvW th f E R tm c stk' pos' l5' g0 g' := by
  obtain ⟨h1, h2, h3, ⟨ty, tf, h4, h5, h6⟩, h7, h8, h9, h10, h11⟩ := h
  have he : enC (w :: c) = enW w ++ enC c := rfl
  rw [he, List.append_assoc, Wds_app] at h1
  rw [he, List.length_append] at h3
  have h4' : (match tyW w ty with | none => none | some t => tyC c t) = some tf := h4
  cases hty : tyW w ty with
  | none => rw [hty] at h4'; cases h4'
  | some t1 =>
    rw [hty] at h4'
    have q1 := tyW_len hty h6 (f := f)
    have q2 := tyW_le hty
    rw [hs] at q1
    simp only [List.length_cons] at h7
    refine ⟨?_, hp, by omega, ⟨t1, tf, h4', h5, q1⟩, by omega, hpl, hl, ?_, h11.tr hx⟩
    · rw [hx.2.2 1582 (by decide), hpp]; exact h1.2
    · rw [← hs]; exact h10
theorem nj_p (k : Nat) : nI (k + 1) - 1 = nI k := by rw [← nj_s]; exact Int32.add_sub_cancel _ _
theorem nj_m (k : Nat) : nI (k + 1) + (-1) = nI k := by have h := nj_p k; rw [Int32.sub_eq_add_neg] at h; exact h
theorem InvW.put {th : Nat} {f : Int32 → Int32} {E : Nat} {R : List Int32} {tm w : Int32} {c stk t : List Int32} {pos : Nat} {l5 v : Int32} {g0 g : GH} (h : InvW th f E R tm (w :: c) stk pos l5 g0 g) (hew : enW w = [-w]) (hev : evW f w stk = v :: t) (hp : Pil (Ia g 1594 th) t) : InvW th f E R tm c (v :: t) (pos + 1) (nI (t.length + 1)) g0 (sA (sI g 1595 th (nI (pos + 1))) 1594 th t.length v) := by
  refine h.st hev ((FrX.sI (by decide)).tr (FrX.sA (by decide))) ?_ (by rw [hew]; rfl) ⟨?_, Pil_set (fun i hi => ?_) hp⟩ rfl
  · simp [Gi_sI, Gi_sA]
  · simp [Ia_sI, Ia_sA]
  · simp [Ia_sI, Ia_sA, show i ≠ t.length by omega]
theorem InvW.push {th : Nat} {f : Int32 → Int32} {E : Nat} {R : List Int32} {tm w z : Int32} {c stk : List Int32} {pos : Nat} {l5 v : Int32} {g0 g g1 : GH} (h : InvW th f E R tm (w :: c) stk pos l5 g0 g) (hew : enW w = [z, w] ∨ enW w = [z, -w]) (hev : evW f w stk = v :: stk) (hx : FrX th [1569, 1570] [] (sI g 1595 th (nI (pos + 1))) g1) : InvW th f E R tm c (v :: stk) (pos + 1 + 1) (nI (stk.length + 1)) g0 (sI (sA g1 1594 th stk.length v) 1595 th (nI (pos + 1 + 1))) := by
  have h8 := h.2.2.2.2.2.1
  refine h.st hev ((((FrX.sI (by decide)).tr (hx.up (by decide) (by decide))).tr (FrX.sA (by decide))).tr (FrX.sI (by decide))) ?_ (by rcases hew with hew | hew <;> rw [hew] <;> rfl) ⟨?_, Pil_set (fun i hi => ?_) h8⟩ rfl
  · simp [Gi_sI, Gi_sA]
  · simp [Ia_sI, Ia_sA]
  · simp [Ia_sI, Ia_sA, show i ≠ stk.length by omega, hx.2.2 1594 (by decide)]
