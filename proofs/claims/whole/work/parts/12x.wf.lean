/-- the letters that stand for numbers -/
abbrev okLt (c : Int32) : Prop := c = 116 ∨ c = 111 ∨ c = 109 ∨ c = 99 ∨ c = 120 ∨ c = 108 ∨ c = 102 ∨ c = 112 ∨ c = 114 ∨ c = 98 ∨ c = 105 ∨ c = 115 ∨ c = 121 ∨ c = 122 ∨ c = 110 ∨ c = 101 ∨ c = 107
/-- what words need on the stack and leave there: true a truth, false a number -/
def tyW (w : Int32) (t : List Bool) : Option (List Bool) :=
  if 0 ≤ w then (if w ≤ 9999 then some (false :: t) else none) else if 97 ≤ -w ∧ -w ≤ 122 then (if okLt (-w) then some (false :: t) else none)
  else if -w = 33 then (match t with
    | true :: t => some (true :: t)
    | _ => none)
  else if -w = 126 then (match t with
    | false :: t => some (false :: t)
    | _ => none)
  else if -w = 43 ∨ -w = 45 ∨ -w = 42 then (match t with
    | false :: false :: t => some (false :: t)
    | _ => none)
  else if -w = 61 ∨ -w = 60 ∨ -w = 62 ∨ -w = 35 then (match t with
    | false :: false :: t => some (true :: t)
    | _ => none)
  else if -w = 38 ∨ -w = 124 then (match t with
    | true :: true :: t => some (true :: t)
    | _ => none)
  else none
def tyC (c : List Int32) (t : List Bool) : Option (List Bool) := match c with
  | [] => some t
  | w :: c => match tyW w t with
    | none => none
    | some t => tyC c t
theorem tyC_app (a b : List Int32) : ∀ t, tyC (a ++ b) t = match tyC a t with
    | none => none
    | some t => tyC b t := by
  induction a with
  | nil => intro t; rfl
  | cons w a ih =>
    intro t
    show (match tyW w t with | none => none | some t => tyC (a ++ b) t) = _
    cases h : tyW w t with
    | none => simp [tyC, h]
    | some t1 => simp [tyC, h, ih]
/-- a well made part of a law: one value, of kind b -/
def okC (c : List Int32) (b : Bool) : Prop := tyC c [] = some [b] ∧ c.length ≤ 200
def okRule (r : List Int32 × Int32 × List Int32) : Prop := okC r.1 true ∧ ((r.2.1 = 103 ∧ r.2.2 = []) ∨ (r.2.1 = 119 ∧ r.2.2 = []) ∨ (r.2.1 = 118 ∧ okC r.2.2 false ∧ ∃ n, r.2.2 = [n] ∧ 0 ≤ n ∧ n ≤ 9999) ∨ (r.2.1 = 99 ∧ okC r.2.2 false))

/-! what every state that comes up keeps to -/
def WF (s : ST) : Prop := (0 ≤ s_now s ∧ s_now s ≤ 400) ∧ (1 ≤ s_siz s ∧ s_siz s ≤ 50) ∧ (∀ x ∈ s_vot s, (0 ≤ x.1 ∧ x.1 ≤ 3) ∧ (0 ≤ x.2.1 ∧ x.2.1 ≤ 9) ∧ (0 ≤ x.2.2 ∧ x.2.2 ≤ 99999999)) ∧ (∀ x ∈ s_mov s, (0 ≤ x.1 ∧ x.1.toNatClampNeg < (s_vot s).length) ∧ (0 ≤ x.2.1 ∧ x.2.1 ≤ 3) ∧ (0 ≤ x.2.2.1 ∧ x.2.2.1 ≤ s_now s) ∧ (0 ≤ x.2.2.2 ∧ x.2.2.2 ≤ s_now s)) ∧ (∀ x ∈ s_env s, (0 ≤ x.1 ∧ x.1.toNatClampNeg < (s_vot s).length) ∧ (0 ≤ x.2.1 ∧ x.2.1 ≤ s_now s) ∧ (0 ≤ x.2.2.1 ∧ x.2.2.1 ≤ s_now s) ∧ (0 ≤ x.2.2.2 ∧ x.2.2.2 ≤ 4)) ∧ (∀ x ∈ s_evt s, (0 ≤ x.1 ∧ x.1.toNatClampNeg < (s_env s).length) ∧ (1 ≤ x.2.1 ∧ x.2.1 ≤ 8) ∧ (0 ≤ x.2.2.1 ∧ x.2.2.1 ≤ s_now s) ∧ (0 ≤ x.2.2.2.1 ∧ x.2.2.2.1 ≤ 7) ∧ (0 ≤ x.2.2.2.2 ∧ x.2.2.2.2 ≤ s_now s)) ∧ (∀ x ∈ s_emp s, (0 ≤ x.1 ∧ x.1 ≤ 7) ∧ (0 ≤ x.2.1 ∧ x.2.1 ≤ s_now s) ∧ (0 ≤ x.2.2.1 ∧ x.2.2.1 ≤ 200) ∧ (0 ≤ x.2.2.2 ∧ x.2.2.2 ≤ s_now s)) ∧ (∀ x ∈ s_rea s, (0 ≤ x.1 ∧ x.1.toNatClampNeg < (s_env s).length) ∧ (0 ≤ x.2.1 ∧ x.2.1 ≤ 99999999) ∧ (0 ≤ x.2.2 ∧ x.2.2 ≤ s_now s)) ∧ (∀ x ∈ s_tel s, (0 ≤ x.1 ∧ x.1.toNatClampNeg < (s_env s).length) ∧ (0 ≤ x.2.1 ∧ x.2.1 ≤ 5) ∧ (0 ≤ x.2.2.1 ∧ x.2.2.1 ≤ s_now s) ∧ (x.2.2.2 = 0 ∨ x.2.2.2 = 1)) ∧ (∀ x ∈ s_boo s, (0 ≤ x.1 ∧ x.1.toNatClampNeg < (s_vot s).length) ∧ (0 ≤ x.2.1 ∧ x.2.1 ≤ s_now s) ∧ (0 ≤ x.2.2 ∧ x.2.2 ≤ s_now s)) ∧ ((s_vot s).length ≤ 60 ∧ (s_mov s).length ≤ 60 ∧ (s_env s).length ≤ 200 ∧ (s_evt s).length ≤ 600 ∧ (s_emp s).length ≤ 200 ∧ (s_rea s).length ≤ 400 ∧ (s_tel s).length ≤ 600 ∧ (s_boo s).length ≤ 100 ∧ (s_tap s).length ≤ 200 ∧ (s_law s).length ≤ 30 ∧ (s_wav s).length ≤ 12 ∧ (s_hea s).length ≤ 40) ∧ (∀ x ∈ s_tap s, 1 ≤ x ∧ x ≤ 255) ∧ (∀ x ∈ s_wav s, (1 ≤ x.1 ∧ x.1 ≤ 5000) ∧ (0 ≤ x.2.1 ∧ x.2.1 ≤ 400) ∧ (x.2.1 ≤ x.2.2 ∧ x.2.2 ≤ 400)) ∧ (1 ≤ s_prs s ∧ s_prs s ≤ 1000) ∧ (∀ k x, s_box s k = some x → k < 8 ∧ (0 ≤ x.1 ∧ x.1 ≤ 1440) ∧ (x.1 ≤ x.2 ∧ x.2 ≤ 1440)) ∧ (∀ a b, a < 9 → b < 9 → a ≠ b → 1 ≤ s_roa s (9 * a + b) ∧ s_roa s (9 * a + b) ≤ 300 ∧ s_roa s (9 * a + b) = s_roa s (9 * b + a)) ∧ (0 ≤ s_stp s ∧ s_stp s ≤ 30) ∧ (∀ k, k < 4 → 0 ≤ s_las s k ∧ s_las s k ≤ 400) ∧ (∀ e, s_hof s e ≤ (s_hea s).length ∧ (s_hof s e ≠ 0 → e < (s_env s).length)) ∧ (∀ x ∈ s_hea s, (0 ≤ x.1 ∧ x.1 ≤ 3) ∧ (0 ≤ x.2 ∧ x.2 ≤ s_now s)) ∧ (∀ x ∈ s_law s, (0 ≤ x.1 ∧ x.1 ≤ 3) ∧ (0 ≤ x.2.1 ∧ x.2.1 ≤ 400) ∧ (0 ≤ x.2.2.1 ∧ x.2.2.1 ≤ s_now s) ∧ 1 ≤ x.2.2.2.length ∧ ∀ r ∈ x.2.2.2, okRule r)
theorem WF.now {s : ST} (h : WF s) : 0 ≤ s_now s ∧ s_now s ≤ 400 := h.1
theorem WF.siz {s : ST} (h : WF s) : 1 ≤ s_siz s ∧ s_siz s ≤ 50 := h.2.1
theorem WF.vot {s : ST} (h : WF s) : ∀ x ∈ s_vot s, (0 ≤ x.1 ∧ x.1 ≤ 3) ∧ (0 ≤ x.2.1 ∧ x.2.1 ≤ 9) ∧ (0 ≤ x.2.2 ∧ x.2.2 ≤ 99999999) := h.2.2.1
theorem WF.mov {s : ST} (h : WF s) : ∀ x ∈ s_mov s, (0 ≤ x.1 ∧ x.1.toNatClampNeg < (s_vot s).length) ∧ (0 ≤ x.2.1 ∧ x.2.1 ≤ 3) ∧ (0 ≤ x.2.2.1 ∧ x.2.2.1 ≤ s_now s) ∧ (0 ≤ x.2.2.2 ∧ x.2.2.2 ≤ s_now s) := h.2.2.2.1
theorem WF.env {s : ST} (h : WF s) : ∀ x ∈ s_env s, (0 ≤ x.1 ∧ x.1.toNatClampNeg < (s_vot s).length) ∧ (0 ≤ x.2.1 ∧ x.2.1 ≤ s_now s) ∧ (0 ≤ x.2.2.1 ∧ x.2.2.1 ≤ s_now s) ∧ (0 ≤ x.2.2.2 ∧ x.2.2.2 ≤ 4) := h.2.2.2.2.1
theorem WF.evt {s : ST} (h : WF s) : ∀ x ∈ s_evt s, (0 ≤ x.1 ∧ x.1.toNatClampNeg < (s_env s).length) ∧ (1 ≤ x.2.1 ∧ x.2.1 ≤ 8) ∧ (0 ≤ x.2.2.1 ∧ x.2.2.1 ≤ s_now s) ∧ (0 ≤ x.2.2.2.1 ∧ x.2.2.2.1 ≤ 7) ∧ (0 ≤ x.2.2.2.2 ∧ x.2.2.2.2 ≤ s_now s) := h.2.2.2.2.2.1
theorem WF.emp {s : ST} (h : WF s) : ∀ x ∈ s_emp s, (0 ≤ x.1 ∧ x.1 ≤ 7) ∧ (0 ≤ x.2.1 ∧ x.2.1 ≤ s_now s) ∧ (0 ≤ x.2.2.1 ∧ x.2.2.1 ≤ 200) ∧ (0 ≤ x.2.2.2 ∧ x.2.2.2 ≤ s_now s) := h.2.2.2.2.2.2.1
theorem WF.rea {s : ST} (h : WF s) : ∀ x ∈ s_rea s, (0 ≤ x.1 ∧ x.1.toNatClampNeg < (s_env s).length) ∧ (0 ≤ x.2.1 ∧ x.2.1 ≤ 99999999) ∧ (0 ≤ x.2.2 ∧ x.2.2 ≤ s_now s) := h.2.2.2.2.2.2.2.1
theorem WF.tel {s : ST} (h : WF s) : ∀ x ∈ s_tel s, (0 ≤ x.1 ∧ x.1.toNatClampNeg < (s_env s).length) ∧ (0 ≤ x.2.1 ∧ x.2.1 ≤ 5) ∧ (0 ≤ x.2.2.1 ∧ x.2.2.1 ≤ s_now s) ∧ (x.2.2.2 = 0 ∨ x.2.2.2 = 1) := h.2.2.2.2.2.2.2.2.1
theorem WF.boo {s : ST} (h : WF s) : ∀ x ∈ s_boo s, (0 ≤ x.1 ∧ x.1.toNatClampNeg < (s_vot s).length) ∧ (0 ≤ x.2.1 ∧ x.2.1 ≤ s_now s) ∧ (0 ≤ x.2.2 ∧ x.2.2 ≤ s_now s) := h.2.2.2.2.2.2.2.2.2.1
theorem WF.len {s : ST} (h : WF s) : (s_vot s).length ≤ 60 ∧ (s_mov s).length ≤ 60 ∧ (s_env s).length ≤ 200 ∧ (s_evt s).length ≤ 600 ∧ (s_emp s).length ≤ 200 ∧ (s_rea s).length ≤ 400 ∧ (s_tel s).length ≤ 600 ∧ (s_boo s).length ≤ 100 ∧ (s_tap s).length ≤ 200 ∧ (s_law s).length ≤ 30 ∧ (s_wav s).length ≤ 12 ∧ (s_hea s).length ≤ 40 := h.2.2.2.2.2.2.2.2.2.2.1
theorem WF.tap {s : ST} (h : WF s) : ∀ x ∈ s_tap s, 1 ≤ x ∧ x ≤ 255 := h.2.2.2.2.2.2.2.2.2.2.2.1
theorem WF.wav {s : ST} (h : WF s) : ∀ x ∈ s_wav s, (1 ≤ x.1 ∧ x.1 ≤ 5000) ∧ (0 ≤ x.2.1 ∧ x.2.1 ≤ 400) ∧ (x.2.1 ≤ x.2.2 ∧ x.2.2 ≤ 400) := h.2.2.2.2.2.2.2.2.2.2.2.2.1
theorem WF.prs {s : ST} (h : WF s) : 1 ≤ s_prs s ∧ s_prs s ≤ 1000 := h.2.2.2.2.2.2.2.2.2.2.2.2.2.1
theorem WF.box {s : ST} (h : WF s) : ∀ k x, s_box s k = some x → k < 8 ∧ (0 ≤ x.1 ∧ x.1 ≤ 1440) ∧ (x.1 ≤ x.2 ∧ x.2 ≤ 1440) := h.2.2.2.2.2.2.2.2.2.2.2.2.2.2.1
theorem WF.roa {s : ST} (h : WF s) : ∀ a b, a < 9 → b < 9 → a ≠ b → 1 ≤ s_roa s (9 * a + b) ∧ s_roa s (9 * a + b) ≤ 300 ∧ s_roa s (9 * a + b) = s_roa s (9 * b + a) := h.2.2.2.2.2.2.2.2.2.2.2.2.2.2.2.1
theorem WF.stp {s : ST} (h : WF s) : 0 ≤ s_stp s ∧ s_stp s ≤ 30 := h.2.2.2.2.2.2.2.2.2.2.2.2.2.2.2.2.1
theorem WF.las {s : ST} (h : WF s) : ∀ k, k < 4 → 0 ≤ s_las s k ∧ s_las s k ≤ 400 := h.2.2.2.2.2.2.2.2.2.2.2.2.2.2.2.2.2.1
theorem WF.hof {s : ST} (h : WF s) : ∀ e, s_hof s e ≤ (s_hea s).length ∧ (s_hof s e ≠ 0 → e < (s_env s).length) := h.2.2.2.2.2.2.2.2.2.2.2.2.2.2.2.2.2.2.1
theorem WF.hea {s : ST} (h : WF s) : ∀ x ∈ s_hea s, (0 ≤ x.1 ∧ x.1 ≤ 3) ∧ (0 ≤ x.2 ∧ x.2 ≤ s_now s) := h.2.2.2.2.2.2.2.2.2.2.2.2.2.2.2.2.2.2.2.1
theorem WF.law {s : ST} (h : WF s) : ∀ x ∈ s_law s, (0 ≤ x.1 ∧ x.1 ≤ 3) ∧ (0 ≤ x.2.1 ∧ x.2.1 ≤ 400) ∧ (0 ≤ x.2.2.1 ∧ x.2.2.1 ≤ s_now s) ∧ 1 ≤ x.2.2.2.length ∧ ∀ r ∈ x.2.2.2, okRule r := h.2.2.2.2.2.2.2.2.2.2.2.2.2.2.2.2.2.2.2.2
theorem WF.envx {s : ST} (h : WF s) {k : Nat} {x : Int32 × Int32 × Int32 × Int32} (hx : (s_env s)[k]? = some x) : (0 ≤ x.1 ∧ x.1.toNatClampNeg < (s_vot s).length) ∧ (0 ≤ x.2.1 ∧ x.2.1 ≤ s_now s) ∧ (0 ≤ x.2.2.1 ∧ x.2.2.1 ≤ s_now s) ∧ (0 ≤ x.2.2.2 ∧ x.2.2.2 ≤ 4) := h.env x (List.mem_of_getElem? hx)
