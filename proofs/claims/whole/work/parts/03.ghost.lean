/-! the ghost heap: fields (number of the field, address), references, arrays by the field that holds them and the object that owns them, lists, kinds, sizes -/
abbrev GH : Type := (Nat → Nat → Int32) × (Nat → Nat → Option Nat) × (Nat → Nat → Nat → Int32) × (Nat → Nat → Nat → Option Nat) × (Nat → Nat → Int64) × (Nat → Nat) × (Nat → Nat) × (Nat → Nat) × (Nat → Nat) × (Nat → List Nat) × Nat × Nat
def Gi (g : GH) : Nat → Nat → Int32 := g.1
def Gr (g : GH) : Nat → Nat → Option Nat := g.2.1
def Ia (g : GH) : Nat → Nat → Nat → Int32 := g.2.2.1
def Ra (g : GH) : Nat → Nat → Nat → Option Nat := g.2.2.2.1
def La (g : GH) : Nat → Nat → Int64 := g.2.2.2.2.1
def Kd (g : GH) : Nat → Nat := g.2.2.2.2.2.1
def Co (g : GH) : Nat → Nat := g.2.2.2.2.2.2.1
def Ow (g : GH) : Nat → Nat := g.2.2.2.2.2.2.2.1
def Ln (g : GH) : Nat → Nat := g.2.2.2.2.2.2.2.2.1
def Lq (g : GH) : Nat → List Nat := g.2.2.2.2.2.2.2.2.2.1
def Hn (g : GH) : Nat := g.2.2.2.2.2.2.2.2.2.2.1
def Hu (g : GH) : Nat := g.2.2.2.2.2.2.2.2.2.2.2
def sI (g : GH) (f a : Nat) (v : Int32) : GH := ((fun f' a' => if f' = f ∧ a' = a then v else Gi g f' a'), Gr g, Ia g, Ra g, La g, Kd g, Co g, Ow g, Ln g, Lq g, Hn g, Hu g)
theorem Gi_sI (g : GH) (f a : Nat) (v : Int32) (f' a' : Nat) : Gi (sI g f a v) f' a' = if f' = f ∧ a' = a then v else Gi g f' a' := rfl
theorem Gr_sI (g : GH) (f a : Nat) (v : Int32) : Gr (sI g f a v) = Gr g := rfl
theorem Ia_sI (g : GH) (f a : Nat) (v : Int32) : Ia (sI g f a v) = Ia g := rfl
theorem Ra_sI (g : GH) (f a : Nat) (v : Int32) : Ra (sI g f a v) = Ra g := rfl
theorem La_sI (g : GH) (f a : Nat) (v : Int32) : La (sI g f a v) = La g := rfl
theorem Kd_sI (g : GH) (f a : Nat) (v : Int32) : Kd (sI g f a v) = Kd g := rfl
theorem Co_sI (g : GH) (f a : Nat) (v : Int32) : Co (sI g f a v) = Co g := rfl
theorem Ow_sI (g : GH) (f a : Nat) (v : Int32) : Ow (sI g f a v) = Ow g := rfl
theorem Ln_sI (g : GH) (f a : Nat) (v : Int32) : Ln (sI g f a v) = Ln g := rfl
theorem Lq_sI (g : GH) (f a : Nat) (v : Int32) : Lq (sI g f a v) = Lq g := rfl
theorem Hn_sI (g : GH) (f a : Nat) (v : Int32) : Hn (sI g f a v) = Hn g := rfl
theorem Hu_sI (g : GH) (f a : Nat) (v : Int32) : Hu (sI g f a v) = Hu g := rfl
def sR (g : GH) (f a : Nat) (v : Option Nat) : GH := (Gi g, (fun f' a' => if f' = f ∧ a' = a then v else Gr g f' a'), Ia g, Ra g, La g, Kd g, Co g, Ow g, Ln g, Lq g, Hn g, Hu g)
theorem Gi_sR (g : GH) (f a : Nat) (v : Option Nat) : Gi (sR g f a v) = Gi g := rfl
theorem Gr_sR (g : GH) (f a : Nat) (v : Option Nat) (f' a' : Nat) : Gr (sR g f a v) f' a' = if f' = f ∧ a' = a then v else Gr g f' a' := rfl
theorem Ia_sR (g : GH) (f a : Nat) (v : Option Nat) : Ia (sR g f a v) = Ia g := rfl
theorem Ra_sR (g : GH) (f a : Nat) (v : Option Nat) : Ra (sR g f a v) = Ra g := rfl
theorem La_sR (g : GH) (f a : Nat) (v : Option Nat) : La (sR g f a v) = La g := rfl
theorem Kd_sR (g : GH) (f a : Nat) (v : Option Nat) : Kd (sR g f a v) = Kd g := rfl
theorem Co_sR (g : GH) (f a : Nat) (v : Option Nat) : Co (sR g f a v) = Co g := rfl
theorem Ow_sR (g : GH) (f a : Nat) (v : Option Nat) : Ow (sR g f a v) = Ow g := rfl
theorem Ln_sR (g : GH) (f a : Nat) (v : Option Nat) : Ln (sR g f a v) = Ln g := rfl
theorem Lq_sR (g : GH) (f a : Nat) (v : Option Nat) : Lq (sR g f a v) = Lq g := rfl
theorem Hn_sR (g : GH) (f a : Nat) (v : Option Nat) : Hn (sR g f a v) = Hn g := rfl
theorem Hu_sR (g : GH) (f a : Nat) (v : Option Nat) : Hu (sR g f a v) = Hu g := rfl
def sA (g : GH) (c o i : Nat) (v : Int32) : GH := (Gi g, Gr g, (fun c' o' i' => if c' = c ∧ o' = o ∧ i' = i then v else Ia g c' o' i'), Ra g, La g, Kd g, Co g, Ow g, Ln g, Lq g, Hn g, Hu g)
theorem Gi_sA (g : GH) (c o i : Nat) (v : Int32) : Gi (sA g c o i v) = Gi g := rfl
theorem Gr_sA (g : GH) (c o i : Nat) (v : Int32) : Gr (sA g c o i v) = Gr g := rfl
theorem Ia_sA (g : GH) (c o i : Nat) (v : Int32) (c' o' i' : Nat) : Ia (sA g c o i v) c' o' i' = if c' = c ∧ o' = o ∧ i' = i then v else Ia g c' o' i' := rfl
theorem Ra_sA (g : GH) (c o i : Nat) (v : Int32) : Ra (sA g c o i v) = Ra g := rfl
theorem La_sA (g : GH) (c o i : Nat) (v : Int32) : La (sA g c o i v) = La g := rfl
theorem Kd_sA (g : GH) (c o i : Nat) (v : Int32) : Kd (sA g c o i v) = Kd g := rfl
theorem Co_sA (g : GH) (c o i : Nat) (v : Int32) : Co (sA g c o i v) = Co g := rfl
theorem Ow_sA (g : GH) (c o i : Nat) (v : Int32) : Ow (sA g c o i v) = Ow g := rfl
theorem Ln_sA (g : GH) (c o i : Nat) (v : Int32) : Ln (sA g c o i v) = Ln g := rfl
theorem Lq_sA (g : GH) (c o i : Nat) (v : Int32) : Lq (sA g c o i v) = Lq g := rfl
theorem Hn_sA (g : GH) (c o i : Nat) (v : Int32) : Hn (sA g c o i v) = Hn g := rfl
theorem Hu_sA (g : GH) (c o i : Nat) (v : Int32) : Hu (sA g c o i v) = Hu g := rfl
def sRA (g : GH) (c o i : Nat) (v : Option Nat) : GH := (Gi g, Gr g, Ia g, (fun c' o' i' => if c' = c ∧ o' = o ∧ i' = i then v else Ra g c' o' i'), La g, Kd g, Co g, Ow g, Ln g, Lq g, Hn g, Hu g)
theorem Gi_sRA (g : GH) (c o i : Nat) (v : Option Nat) : Gi (sRA g c o i v) = Gi g := rfl
theorem Gr_sRA (g : GH) (c o i : Nat) (v : Option Nat) : Gr (sRA g c o i v) = Gr g := rfl
theorem Ia_sRA (g : GH) (c o i : Nat) (v : Option Nat) : Ia (sRA g c o i v) = Ia g := rfl
theorem Ra_sRA (g : GH) (c o i : Nat) (v : Option Nat) (c' o' i' : Nat) : Ra (sRA g c o i v) c' o' i' = if c' = c ∧ o' = o ∧ i' = i then v else Ra g c' o' i' := rfl
theorem La_sRA (g : GH) (c o i : Nat) (v : Option Nat) : La (sRA g c o i v) = La g := rfl
theorem Kd_sRA (g : GH) (c o i : Nat) (v : Option Nat) : Kd (sRA g c o i v) = Kd g := rfl
theorem Co_sRA (g : GH) (c o i : Nat) (v : Option Nat) : Co (sRA g c o i v) = Co g := rfl
theorem Ow_sRA (g : GH) (c o i : Nat) (v : Option Nat) : Ow (sRA g c o i v) = Ow g := rfl
theorem Ln_sRA (g : GH) (c o i : Nat) (v : Option Nat) : Ln (sRA g c o i v) = Ln g := rfl
theorem Lq_sRA (g : GH) (c o i : Nat) (v : Option Nat) : Lq (sRA g c o i v) = Lq g := rfl
theorem Hn_sRA (g : GH) (c o i : Nat) (v : Option Nat) : Hn (sRA g c o i v) = Hn g := rfl
theorem Hu_sRA (g : GH) (c o i : Nat) (v : Option Nat) : Hu (sRA g c o i v) = Hu g := rfl
def sLA (g : GH) (a i : Nat) (v : Int64) : GH := (Gi g, Gr g, Ia g, Ra g, (fun a' i' => if a' = a ∧ i' = i then v else La g a' i'), Kd g, Co g, Ow g, Ln g, Lq g, Hn g, Hu g)
theorem Gi_sLA (g : GH) (a i : Nat) (v : Int64) : Gi (sLA g a i v) = Gi g := rfl
theorem Gr_sLA (g : GH) (a i : Nat) (v : Int64) : Gr (sLA g a i v) = Gr g := rfl
theorem Ia_sLA (g : GH) (a i : Nat) (v : Int64) : Ia (sLA g a i v) = Ia g := rfl
theorem Ra_sLA (g : GH) (a i : Nat) (v : Int64) : Ra (sLA g a i v) = Ra g := rfl
theorem La_sLA (g : GH) (a i : Nat) (v : Int64) (a' i' : Nat) : La (sLA g a i v) a' i' = if a' = a ∧ i' = i then v else La g a' i' := rfl
theorem Kd_sLA (g : GH) (a i : Nat) (v : Int64) : Kd (sLA g a i v) = Kd g := rfl
theorem Co_sLA (g : GH) (a i : Nat) (v : Int64) : Co (sLA g a i v) = Co g := rfl
theorem Ow_sLA (g : GH) (a i : Nat) (v : Int64) : Ow (sLA g a i v) = Ow g := rfl
theorem Ln_sLA (g : GH) (a i : Nat) (v : Int64) : Ln (sLA g a i v) = Ln g := rfl
theorem Lq_sLA (g : GH) (a i : Nat) (v : Int64) : Lq (sLA g a i v) = Lq g := rfl
theorem Hn_sLA (g : GH) (a i : Nat) (v : Int64) : Hn (sLA g a i v) = Hn g := rfl
theorem Hu_sLA (g : GH) (a i : Nat) (v : Int64) : Hu (sLA g a i v) = Hu g := rfl
def sAf (g : GH) (c o : Nat) (f : Nat → Int32) : GH := (Gi g, Gr g, (fun c' o' => if c' = c ∧ o' = o then f else Ia g c' o'), Ra g, La g, Kd g, Co g, Ow g, Ln g, Lq g, Hn g, Hu g)
theorem Gi_sAf (g : GH) (c o : Nat) (f : Nat → Int32) : Gi (sAf g c o f) = Gi g := rfl
theorem Gr_sAf (g : GH) (c o : Nat) (f : Nat → Int32) : Gr (sAf g c o f) = Gr g := rfl
theorem Ia_sAf (g : GH) (c o : Nat) (f : Nat → Int32) (c' o' : Nat) : Ia (sAf g c o f) c' o' = if c' = c ∧ o' = o then f else Ia g c' o' := rfl
theorem Ra_sAf (g : GH) (c o : Nat) (f : Nat → Int32) : Ra (sAf g c o f) = Ra g := rfl
theorem La_sAf (g : GH) (c o : Nat) (f : Nat → Int32) : La (sAf g c o f) = La g := rfl
theorem Kd_sAf (g : GH) (c o : Nat) (f : Nat → Int32) : Kd (sAf g c o f) = Kd g := rfl
theorem Co_sAf (g : GH) (c o : Nat) (f : Nat → Int32) : Co (sAf g c o f) = Co g := rfl
theorem Ow_sAf (g : GH) (c o : Nat) (f : Nat → Int32) : Ow (sAf g c o f) = Ow g := rfl
theorem Ln_sAf (g : GH) (c o : Nat) (f : Nat → Int32) : Ln (sAf g c o f) = Ln g := rfl
theorem Lq_sAf (g : GH) (c o : Nat) (f : Nat → Int32) : Lq (sAf g c o f) = Lq g := rfl
theorem Hn_sAf (g : GH) (c o : Nat) (f : Nat → Int32) : Hn (sAf g c o f) = Hn g := rfl
theorem Hu_sAf (g : GH) (c o : Nat) (f : Nat → Int32) : Hu (sAf g c o f) = Hu g := rfl
def sRAf (g : GH) (c o : Nat) (f : Nat → Option Nat) : GH := (Gi g, Gr g, Ia g, (fun c' o' => if c' = c ∧ o' = o then f else Ra g c' o'), La g, Kd g, Co g, Ow g, Ln g, Lq g, Hn g, Hu g)
theorem Gi_sRAf (g : GH) (c o : Nat) (f : Nat → Option Nat) : Gi (sRAf g c o f) = Gi g := rfl
theorem Gr_sRAf (g : GH) (c o : Nat) (f : Nat → Option Nat) : Gr (sRAf g c o f) = Gr g := rfl
theorem Ia_sRAf (g : GH) (c o : Nat) (f : Nat → Option Nat) : Ia (sRAf g c o f) = Ia g := rfl
theorem Ra_sRAf (g : GH) (c o : Nat) (f : Nat → Option Nat) (c' o' : Nat) : Ra (sRAf g c o f) c' o' = if c' = c ∧ o' = o then f else Ra g c' o' := rfl
theorem La_sRAf (g : GH) (c o : Nat) (f : Nat → Option Nat) : La (sRAf g c o f) = La g := rfl
theorem Kd_sRAf (g : GH) (c o : Nat) (f : Nat → Option Nat) : Kd (sRAf g c o f) = Kd g := rfl
theorem Co_sRAf (g : GH) (c o : Nat) (f : Nat → Option Nat) : Co (sRAf g c o f) = Co g := rfl
theorem Ow_sRAf (g : GH) (c o : Nat) (f : Nat → Option Nat) : Ow (sRAf g c o f) = Ow g := rfl
theorem Ln_sRAf (g : GH) (c o : Nat) (f : Nat → Option Nat) : Ln (sRAf g c o f) = Ln g := rfl
theorem Lq_sRAf (g : GH) (c o : Nat) (f : Nat → Option Nat) : Lq (sRAf g c o f) = Lq g := rfl
theorem Hn_sRAf (g : GH) (c o : Nat) (f : Nat → Option Nat) : Hn (sRAf g c o f) = Hn g := rfl
theorem Hu_sRAf (g : GH) (c o : Nat) (f : Nat → Option Nat) : Hu (sRAf g c o f) = Hu g := rfl
def sLq (g : GH) (a : Nat) (v : List Nat) : GH := (Gi g, Gr g, Ia g, Ra g, La g, Kd g, Co g, Ow g, Ln g, (fun a' => if a' = a then v else Lq g a'), Hn g, Hu g)
theorem Gi_sLq (g : GH) (a : Nat) (v : List Nat) : Gi (sLq g a v) = Gi g := rfl
theorem Gr_sLq (g : GH) (a : Nat) (v : List Nat) : Gr (sLq g a v) = Gr g := rfl
theorem Ia_sLq (g : GH) (a : Nat) (v : List Nat) : Ia (sLq g a v) = Ia g := rfl
theorem Ra_sLq (g : GH) (a : Nat) (v : List Nat) : Ra (sLq g a v) = Ra g := rfl
theorem La_sLq (g : GH) (a : Nat) (v : List Nat) : La (sLq g a v) = La g := rfl
theorem Kd_sLq (g : GH) (a : Nat) (v : List Nat) : Kd (sLq g a v) = Kd g := rfl
theorem Co_sLq (g : GH) (a : Nat) (v : List Nat) : Co (sLq g a v) = Co g := rfl
theorem Ow_sLq (g : GH) (a : Nat) (v : List Nat) : Ow (sLq g a v) = Ow g := rfl
theorem Ln_sLq (g : GH) (a : Nat) (v : List Nat) : Ln (sLq g a v) = Ln g := rfl
theorem Lq_sLq (g : GH) (a : Nat) (v : List Nat) (a' : Nat) : Lq (sLq g a v) a' = if a' = a then v else Lq g a' := rfl
theorem Hn_sLq (g : GH) (a : Nat) (v : List Nat) : Hn (sLq g a v) = Hn g := rfl
theorem Hu_sLq (g : GH) (a : Nat) (v : List Nat) : Hu (sLq g a v) = Hu g := rfl
def nO (g : GH) (ci N : Nat) : GH := (Gi g, Gr g, Ia g, Ra g, La g, (fun a' => if a' = Hn g then ci + 1 else Kd g a'), Co g, Ow g, Ln g, Lq g, Hn g + 1, Hu g + N)
theorem Gi_nO (g : GH) (ci N : Nat) : Gi (nO g ci N) = Gi g := rfl
theorem Gr_nO (g : GH) (ci N : Nat) : Gr (nO g ci N) = Gr g := rfl
theorem Ia_nO (g : GH) (ci N : Nat) : Ia (nO g ci N) = Ia g := rfl
theorem Ra_nO (g : GH) (ci N : Nat) : Ra (nO g ci N) = Ra g := rfl
theorem La_nO (g : GH) (ci N : Nat) : La (nO g ci N) = La g := rfl
theorem Kd_nO (g : GH) (ci N : Nat) (a' : Nat) : Kd (nO g ci N) a' = if a' = Hn g then ci + 1 else Kd g a' := rfl
theorem Co_nO (g : GH) (ci N : Nat) : Co (nO g ci N) = Co g := rfl
theorem Ow_nO (g : GH) (ci N : Nat) : Ow (nO g ci N) = Ow g := rfl
theorem Ln_nO (g : GH) (ci N : Nat) : Ln (nO g ci N) = Ln g := rfl
theorem Lq_nO (g : GH) (ci N : Nat) : Lq (nO g ci N) = Lq g := rfl
theorem Hn_nO (g : GH) (ci N : Nat) : Hn (nO g ci N) = Hn g + 1 := rfl
theorem Hu_nO (g : GH) (ci N : Nat) : Hu (nO g ci N) = Hu g + N := rfl
def nX (g : GH) (N : Nat) : GH := (Gi g, Gr g, Ia g, Ra g, La g, Kd g, Co g, Ow g, Ln g, Lq g, Hn g + 1, Hu g + N)
theorem Gi_nX (g : GH) (N : Nat) : Gi (nX g N) = Gi g := rfl
theorem Gr_nX (g : GH) (N : Nat) : Gr (nX g N) = Gr g := rfl
theorem Ia_nX (g : GH) (N : Nat) : Ia (nX g N) = Ia g := rfl
theorem Ra_nX (g : GH) (N : Nat) : Ra (nX g N) = Ra g := rfl
theorem La_nX (g : GH) (N : Nat) : La (nX g N) = La g := rfl
theorem Kd_nX (g : GH) (N : Nat) : Kd (nX g N) = Kd g := rfl
theorem Co_nX (g : GH) (N : Nat) : Co (nX g N) = Co g := rfl
theorem Ow_nX (g : GH) (N : Nat) : Ow (nX g N) = Ow g := rfl
theorem Ln_nX (g : GH) (N : Nat) : Ln (nX g N) = Ln g := rfl
theorem Lq_nX (g : GH) (N : Nat) : Lq (nX g N) = Lq g := rfl
theorem Hn_nX (g : GH) (N : Nat) : Hn (nX g N) = Hn g + 1 := rfl
theorem Hu_nX (g : GH) (N : Nat) : Hu (nX g N) = Hu g + N := rfl
def nA (g : GH) (k c o n : Nat) : GH := (Gi g, Gr g, (fun c' o' => if c' = c ∧ o' = o then (fun _ => 0) else Ia g c' o'), (fun c' o' => if c' = c ∧ o' = o then (fun _ => none) else Ra g c' o'), (fun a' => if a' = Hn g then (fun _ => 0) else La g a'), (fun a' => if a' = Hn g then k else Kd g a'), (fun a' => if a' = Hn g then c else Co g a'), (fun a' => if a' = Hn g then o else Ow g a'), (fun a' => if a' = Hn g then n else Ln g a'), Lq g, Hn g + 1, Hu g + n)
theorem Gi_nA (g : GH) (k c o n : Nat) : Gi (nA g k c o n) = Gi g := rfl
theorem Gr_nA (g : GH) (k c o n : Nat) : Gr (nA g k c o n) = Gr g := rfl
theorem Ia_nA (g : GH) (k c o n : Nat) (c' o' : Nat) : Ia (nA g k c o n) c' o' = if c' = c ∧ o' = o then (fun _ => 0) else Ia g c' o' := rfl
theorem Ra_nA (g : GH) (k c o n : Nat) (c' o' : Nat) : Ra (nA g k c o n) c' o' = if c' = c ∧ o' = o then (fun _ => none) else Ra g c' o' := rfl
theorem La_nA (g : GH) (k c o n : Nat) (a' : Nat) : La (nA g k c o n) a' = if a' = Hn g then (fun _ => 0) else La g a' := rfl
theorem Kd_nA (g : GH) (k c o n : Nat) (a' : Nat) : Kd (nA g k c o n) a' = if a' = Hn g then k else Kd g a' := rfl
theorem Co_nA (g : GH) (k c o n : Nat) (a' : Nat) : Co (nA g k c o n) a' = if a' = Hn g then c else Co g a' := rfl
theorem Ow_nA (g : GH) (k c o n : Nat) (a' : Nat) : Ow (nA g k c o n) a' = if a' = Hn g then o else Ow g a' := rfl
theorem Ln_nA (g : GH) (k c o n : Nat) (a' : Nat) : Ln (nA g k c o n) a' = if a' = Hn g then n else Ln g a' := rfl
theorem Lq_nA (g : GH) (k c o n : Nat) : Lq (nA g k c o n) = Lq g := rfl
theorem Hn_nA (g : GH) (k c o n : Nat) : Hn (nA g k c o n) = Hn g + 1 := rfl
theorem Hu_nA (g : GH) (k c o n : Nat) : Hu (nA g k c o n) = Hu g + n := rfl
def mv (g : GH) (a b c o : Nat) : GH := (Gi g, Gr g, Ia g, (fun c' o' => if c' = c ∧ o' = o then Ra g (Co g a) (Ow g a) else Ra g c' o'), La g, (fun a' => if a' = b then 0 else Kd g a'), (fun a' => if a' = a then c else Co g a'), (fun a' => if a' = a then o else Ow g a'), Ln g, Lq g, Hn g, Hu g)
theorem Gi_mv (g : GH) (a b c o : Nat) : Gi (mv g a b c o) = Gi g := rfl
theorem Gr_mv (g : GH) (a b c o : Nat) : Gr (mv g a b c o) = Gr g := rfl
theorem Ia_mv (g : GH) (a b c o : Nat) : Ia (mv g a b c o) = Ia g := rfl
theorem Ra_mv (g : GH) (a b c o : Nat) (c' o' : Nat) : Ra (mv g a b c o) c' o' = if c' = c ∧ o' = o then Ra g (Co g a) (Ow g a) else Ra g c' o' := rfl
theorem La_mv (g : GH) (a b c o : Nat) : La (mv g a b c o) = La g := rfl
theorem Kd_mv (g : GH) (a b c o : Nat) (a' : Nat) : Kd (mv g a b c o) a' = if a' = b then 0 else Kd g a' := rfl
theorem Co_mv (g : GH) (a b c o : Nat) (a' : Nat) : Co (mv g a b c o) a' = if a' = a then c else Co g a' := rfl
theorem Ow_mv (g : GH) (a b c o : Nat) (a' : Nat) : Ow (mv g a b c o) a' = if a' = a then o else Ow g a' := rfl
theorem Ln_mv (g : GH) (a b c o : Nat) : Ln (mv g a b c o) = Ln g := rfl
theorem Lq_mv (g : GH) (a b c o : Nat) : Lq (mv g a b c o) = Lq g := rfl
theorem Hn_mv (g : GH) (a b c o : Nat) : Hn (mv g a b c o) = Hn g := rfl
theorem Hu_mv (g : GH) (a b c o : Nat) : Hu (mv g a b c o) = Hu g := rfl
