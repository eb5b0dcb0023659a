/-! where a voter is on a day -/
def sShS (v d q : Int32) (a : Int32 × Int32) (x : Int32 × Int32 × Int32 × Int32) : Int32 × Int32 := if x.1 = v ∧ x.2.2.2 ≤ q ∧ x.2.2.1 ≤ d ∧ a.2 ≤ x.2.2.1 then (x.2.1, x.2.2.1) else a
def sShire (s : ST) (v : Nat) (d q : Int32) : Int32 := ((s_mov s).foldl (sShS (nI v) d q) (((s_vot s)[v]?.getD default).1, -1)).1
