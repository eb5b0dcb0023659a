/-! the words of a law: what they leave; the reference's evaluation -/
def evW (f : Int32 → Int32) (w : Int32) (stk : List Int32) : List Int32 :=
  if 0 ≤ w then w :: stk else if 97 ≤ -w ∧ -w ≤ 122 then f (-w) :: stk
  else if -w = 33 then (match stk with
    | x :: t => (if x = 0 then 1 else 0) :: t
    | [] => [])
  else if -w = 126 then (match stk with
    | x :: t => sBnd ((-x).toInt64) :: t
    | [] => [])
  else match stk with
    | y :: x :: t => sBoth (-w) x y :: t
    | _ => []
def evC (f : Int32 → Int32) (c : List Int32) : List Int32 := c.foldl (fun stk w => evW f w stk) []
/-- what words need on the stack and leave there: true a truth, false a number -/
def tyW (w : Int32) (t : List Bool) : Option (List Bool) :=
  if 0 ≤ w then (if w ≤ 9999 then some (false :: t) else none) else if 97 ≤ -w ∧ -w ≤ 122 then some (false :: t)
  else if -w = 33 then (match t with
    | true :: t => some (true :: t)
    | _ => none)
  else if -w = 126 then (match t with
    | false :: t => some (false :: t)
    | _ => none)
  else if -w = 43 ∨ -w = 45 ∨ -w = 42 then (match t with
    | false :: false :: t => some (false :: t)
    | _ => none)
  else if -w = 61 ∨ -w = 60 ∨ -w = 62 ∨ -w = 35 then (match t with
    | false :: false :: t => some (true :: t)
    | _ => none)
  else if -w = 38 ∨ -w = 124 then (match t with
    | true :: true :: t => some (true :: t)
    | _ => none)
  else none
def tyC (c : List Int32) (t : List Bool) : Option (List Bool) := match c with
  | [] => some t
  | w :: c => match tyW w t with
    | none => none
    | some t => tyC c t
theorem tyC_app (a b : List Int32) : ∀ t, tyC (a ++ b) t = match tyC a t with
    | none => none
    | some t => tyC b t := by
  induction a with
  | nil => intro t; rfl
  | cons w a ih =>
    intro t
    show (match tyW w t with | none => none | some t => tyC (a ++ b) t) = _
    cases h : tyW w t with
    | none => simp [tyC, h]
    | some t1 => simp [tyC, h, ih]
/-- a well made part of a law: one value, of kind b -/
def okC (c : List Int32) (b : Bool) : Prop := tyC c [] = some [b] ∧ c.length ≤ 200
def okRule (r : List Int32 × Int32 × List Int32) : Prop := okC r.1 true ∧ ((r.2.1 = 103 ∧ r.2.2 = []) ∨ (r.2.1 = 119 ∧ r.2.2 = []) ∨ ((r.2.1 = 118 ∨ r.2.1 = 99) ∧ okC r.2.2 false))
def sEval (f : Int32 → Int32) (c : List Int32) : Int32 := (evC f c).headD 0
theorem tyW_len {w : Int32} {t t' : List Bool} {f : Int32 → Int32} {stk : List Int32} (h : tyW w t = some t') (hl : stk.length = t.length) : (evW f w stk).length = t'.length := by
  rcases stk with _ | ⟨y, _ | ⟨x, s⟩⟩ <;> rcases t with _ | ⟨b, _ | ⟨a, t⟩⟩ <;> simp at hl <;> unfold tyW at h <;> unfold evW <;> simp only at h ⊢ <;> repeat' split at h
  all_goals first
    | (cases h; done)
    | (cases h; simp_all; done)
    | grind
