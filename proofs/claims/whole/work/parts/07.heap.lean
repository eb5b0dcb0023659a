/-! instructions that read and write the heap -/
/-- a class of the table -/
def CFx (ci : Nat) (C : String) (T : u_T) (N : Nat) (ty : Nat → FieldType) : Prop :=
  vwCl[ci]? = some (C, T, N) ∧ (∀ w ∈ u_ws C T N, w ∈ gwl) ∧ (∀ k, k < N → parseFieldDescriptor (T k).2.2.1 = some (ty k)) ∧ (∀ a, a < N → ∀ b, b < N → a ≠ b → (T a).2.1 ≠ (T b).2.1) ∧ (∀ k, k < N → defaultValue (ty k) = if rfF ci k then .null else .int 0) ∧
  (∀ k, k < N → if rfF ci k then (∃ n, ty k = .object n) ∨ (∃ t, ty k = .array t) else ty k = .int) ∧ ci < 13 ∧ Cond.instantiable C N ∈ gwl
/-- a field's entry in a class's pool -/
def FAx (own : String) (idx ci k : Nat) (r fin : Bool) : Prop :=
  ∃ (C : String) (T : u_T) (N : Nat) (ty : Nat → FieldType) (ref : String), CFx ci C T N ty ∧ k < N ∧ rfF ci k = r ∧ (T k).2.2.2 = fin ∧ Cond.fieldLink own idx ref (T k).2.1 (T k).2.2.1 ∈ gwl ∧ (ref = (T k).1 ∨ Cond.sameField ref (T k).1 (T k).2.1 (T k).2.2.1 ∈ gwl) ∧ (fin = true → (T k).1 = own)
/-- the same for reading alone -/
def FGx (own : String) (idx ci k : Nat) (r : Bool) : Prop :=
  ∃ (C : String) (T : u_T) (N : Nat) (ty : Nat → FieldType) (ref : String), CFx ci C T N ty ∧ k < N ∧ rfF ci k = r ∧ Cond.fieldLink own idx ref (T k).2.1 (T k).2.2.1 ∈ gwl ∧ (ref = (T k).1 ∨ Cond.sameField ref (T k).1 (T k).2.1 (T k).2.2.1 ∈ gwl)
theorem nF_of {ci : Nat} {C : String} {T : u_T} {N : Nat} (h : vwCl[ci]? = some (C, T, N)) : nF ci = N := by unfold nF; rw [h]
section
variable {Γ : GAM} {E : EV} {cc : ByteArray} {nL : Nat} {own : String} {ret : Option FieldType} {fr lo : Nat} {K : Option Value → GH → Prop} {pc : Nat} {L : List (Option Value)} {S : List Value} {g : GH}
theorem j_get (hE : GE Γ E cc nL own ret fr lo K) {idx ci k a : Nat} {r : Bool} (hF : FGx own idx ci k r) (hk : Kd g a = ci + 1) (hd : decode cc pc = .ok (.getfield idx, 3)) (h : JW Γ E (pc + 3) L (VF g ci a k :: S) g) : JW Γ E pc L (.ref a :: S) g := by
  obtain ⟨p, l, e, R, s, m, args, below, meth, c, Q⟩ := E
  obtain ⟨hx, hb, hml, ho, hts, hret, hlk, hK, -, hQ⟩ := hE
  obtain ⟨C, T, N, ty, ref, ⟨c1, c2, c3, c4, c5, c6, c7, c8⟩, hkN, hr, hlink, hsame⟩ := hF
  intro H locs k' n ls a1 a2 a3
  obtain ⟨-, -, cell, q1, q2, q3, q4⟩ := a1.obj hk c7
  obtain ⟨hS, hfc, kC, hkC, hkind⟩ := hK.1.1 ci _ c1
  obtain ⟨cf, kf, fi, f, hi, hsl⟩ := hS k hkN
  have hi' : s.fieldFound? ref (T k).2.1 (T k).2.2.1 = some (cf, kf, fi, f) := by
    rcases hsame with hs | hs
    · rw [hs]; exact hi
    · exact u_same (hts _ hs) _ hi
  refine W.getf hx hb ho (hts _ hlink) hi' (u_facts hfc hkC (u_lays hts c2 hkN) hi).1 q1 (by rw [q3]; exact fun h => by cases h) (v := VF g ci a k) ?_ rfl rfl hd (h H locs k' n ls a1 a2 a3)
  rw [hsl, q4 k (by rw [nF_of c1]; exact hkN)]
theorem j_getI (hE : GE Γ E cc nL own ret fr lo K) {idx ci k a : Nat} (hF : FGx own idx ci k false) (hk : Kd g a = ci + 1) (hd : decode cc pc = .ok (.getfield idx, 3)) (h : JW Γ E (pc + 3) L (.int (Gi g (ci * 128 + k) a) :: S) g) : JW Γ E pc L (.ref a :: S) g := by
  refine j_get hE hF hk hd ?_
  have hr : rfF ci k = false := by obtain ⟨_, _, _, _, _, -, -, hr, -⟩ := hF; exact hr
  unfold VF
  rw [hr]
  exact h
theorem j_getR (hE : GE Γ E cc nL own ret fr lo K) {idx ci k a : Nat} (hF : FGx own idx ci k true) (hk : Kd g a = ci + 1) (hd : decode cc pc = .ok (.getfield idx, 3)) (h : JW Γ E (pc + 3) L (va_rf (Gr g (ci * 128 + k) a) :: S) g) : JW Γ E pc L (.ref a :: S) g := by
  refine j_get hE hF hk hd ?_
  have hr : rfF ci k = true := by obtain ⟨_, _, _, _, _, -, -, hr, -⟩ := hF; exact hr
  unfold VF
  rw [hr]
  exact h
theorem hap_of {Γ : GAM} {s : State} {args : Array Value} {ci : Nat} {C : String} {T : u_T} {N : Nat} {ty : Nat → FieldType} (hts : ∀ w ∈ gwl, w.before args s = true) (hK : WK Γ s) (hC : CFx ci C T N ty) : ∀ x y, x < N → y < N → x ≠ y → (Γ.1.2 ci) x ≠ (Γ.1.2 ci) y :=
  va_apart (own := C) hts hC.2.1 ty hC.2.2.1 hC.2.2.2.1 hK.1 hC.1
theorem put_any (hE : GE Γ E cc nL own ret fr lo K) {idx ci k a : Nat} {r fin : Bool} {v : Value} (hF : FAx own idx ci k r fin) (hk : Kd g a = ci + 1) (hv : ∀ ty : FieldType, (if r then (∃ n, ty = .object n) ∨ (∃ t, ty = .array t) else ty = .int) → narrow ty v = v ∧ fits ty v = true) (hin : fin = true → E.2.2.2.2.2.2.2.2.1.name = "<init>") (hd : decode cc pc = .ok (.putfield idx, 3))
    (h : ∀ (H H' : Heap) (locs : List Loc) (k' n : Nat) (ls : Array Slot) (c c' : Cell), Rep Γ g H → (∀ q ∈ locs, gB Γ ≤ q.base) → lhas ls L → ci < 13 → k < nF ci → rfF ci k = r → H[a]? = some c → H'[a]? = some c' → c'.slots.size = c.slots.size → H'.size = H.size → (∀ q, q ≠ a → H'[q]? = H[q]?) → t_OB a (Γ.1.1 ci) (nF ci) (Γ.1.2 ci) H' (updV (VF g ci a) k v) → WE E H' locs k' n (F0 (eM E) (pc + 3) ls S)) : JW Γ E pc L (v :: .ref a :: S) g := by
  obtain ⟨p, l, e, R, s, m, args, below, meth, c, Q⟩ := E
  obtain ⟨hx, hb, hml, ho, hts, hret, hlk, hK, -, hQ⟩ := hE
  obtain ⟨C, T, N, ty, ref, hC, hkN, hr, hfin, hlink, hsame, hdecl⟩ := hF
  have hap := hap_of hts hK hC
  obtain ⟨c1, c2, c3, c4, c5, c6, c7, c8⟩ := hC
  intro H locs k' n ls a1 a2 a3
  obtain ⟨hBa, hlt, cell, q1, q2, q3, q4⟩ := a1.obj hk c7
  obtain ⟨hS, hfc, kC, hkC, hkind⟩ := hK.1.1 ci _ c1
  obtain ⟨cf, kf, fi, f, hi, hsl⟩ := hS k hkN
  have hi' : s.fieldFound? ref (T k).2.1 (T k).2.2.1 = some (cf, kf, fi, f) := by
    rcases hsame with hs | hs
    · rw [hs]; exact hi
    · exact u_same (hts _ hs) _ hi
  have hNN := nF_of c1
  have hst := (u_facts hfc hkC (u_lays hts c2 hkN) hi).1
  have hlt2 : f.slot < cell.slots.size := by rw [hsl]; exact k2_hasslot (q4 k (by rw [hNN]; exact hkN))
  have hty := hv (ty k) (by have := c6 k hkN; rw [hr] at this; exact this)
  have hfits := u_fits hfc hkC hkind (u_lays hts c2 hkN) hi (c3 k hkN) hty.1 hty.2
  have hfinal : hasFlag f.accessFlags Acc.final = false ∨ (m.cls = cf ∧ meth.name = "<init>") := by
    have hlay := hts _ (c2 _ (u_in_lay hkN))
    unfold u_lay at hlay
    by_cases hf : fin = true
    · rw [hfin, if_pos hf] at hlay
      refine Or.inr ⟨?_, hin hf⟩
      obtain ⟨_, _, c', _, _, _, -, -, hf', -, -, -, hown2, -⟩ := Cond.laysFinal_spec hlay
      have e1 : c' = cf := by have := hi.symm.trans hf'; simp at this; exact this.1.symm
      rw [hdecl hf] at hown2
      rw [← e1]; exact Option.some.inj (ho.symm.trans hown2)
    · rw [hfin, if_neg hf] at hlay
      exact Or.inl (u_store hfc hkC hkind hlay hi (c3 k hkN) hty.1 hty.2).1
  refine W.putf hx hb ho (hts _ hlink) hi' hst hfinal q1 (by rw [q3]; exact fun h => by cases h) hlt2 hfits.1 (by rw [q2, q3]; exact hfits.2) rfl rfl hd ?_
  have ha : a < H.size := (Array.getElem?_eq_some_iff.mp q1).1
  have g1 : (H.setIfInBounds a (cell.setSlot f.slot v))[a]? = some (cell.setSlot f.slot v) := by simp [Array.getElem?_setIfInBounds, ha]
  have hh := h H (H.setIfInBounds a (cell.setSlot f.slot v)) (locs ++ [⟨a, f.slot⟩]) k' n ls cell _ a1 ?_ a3 c7 (by rw [hNN]; exact hkN) hr q1 g1 ?_ (by simp) (fun q hq => by simp [Array.getElem?_setIfInBounds, Ne.symm hq]) ⟨_, g1, q2, q3, ?_⟩
  · exact hh
  · intro q hq
    rcases List.mem_append.mp hq with h | h
    · exact a2 q h
    · rw [List.mem_singleton.mp h]; exact hBa
  · simp [Cell.setSlot]
  · rw [hsl]
    have := t_set (V := VF g ci a) (fun k hk => q4 k (by rw [hNN]; exact hk)) hap hkN v
    intro j hj
    exact this j (by rw [← hNN]; exact hj)
theorem j_putI (hE : GE Γ E cc nL own ret fr lo K) {idx ci k a : Nat} {fin : Bool} {v : Int32} (hF : FAx own idx ci k false fin) (hk : Kd g a = ci + 1) (hin : fin = true → E.2.2.2.2.2.2.2.2.1.name = "<init>") (hd : decode cc pc = .ok (.putfield idx, 3)) (h : JW Γ E (pc + 3) L S (sI g (ci * 128 + k) a v)) : JW Γ E pc L (.int v :: .ref a :: S) g := by
  refine put_any hE hF hk (fun ty h => by subst h; exact ⟨rfl, rfl⟩) hin hd ?_
  intro H H' locs k' n ls c c' a1 a2 a3 hci hkN hr q1 q2 q3 q4 q5 q6
  refine h H' locs k' n ls (Rep_sI a1 hk hci hkN q1 q2 q3 q4 q5 (q6.to fun j hj => ?_)) a2 a3
  unfold updV
  by_cases hjk : j = k
  · subst hjk; rw [if_pos rfl, VF_sI_self hr]
  · rw [if_neg hjk, VF_sI (by have := nF_le ci hci; omega) (by have := nF_le ci hci; omega) (fun h => hjk h.2.1)]
theorem j_putR (hE : GE Γ E cc nL own ret fr lo K) {idx ci k a : Nat} {fin : Bool} {v : Option Nat} (hF : FAx own idx ci k true fin) (hk : Kd g a = ci + 1) (hin : fin = true → E.2.2.2.2.2.2.2.2.1.name = "<init>") (hd : decode cc pc = .ok (.putfield idx, 3)) (h : JW Γ E (pc + 3) L S (sR g (ci * 128 + k) a v)) : JW Γ E pc L (va_rf v :: .ref a :: S) g := by
  refine put_any hE hF hk (fun ty h => by rcases h with ⟨n, rfl⟩ | ⟨t, rfl⟩ <;> cases v <;> exact ⟨rfl, rfl⟩) hin hd ?_
  intro H H' locs k' n ls c c' a1 a2 a3 hci hkN hr q1 q2 q3 q4 q5 q6
  refine h H' locs k' n ls (Rep_sR a1 hk hci hkN q1 q2 q3 q4 q5 (q6.to fun j hj => ?_)) a2 a3
  unfold updV
  by_cases hjk : j = k
  · subst hjk; rw [if_pos rfl, VF_sR_self hr]
  · rw [if_neg hjk, VF_sR (by have := nF_le ci hci; omega) (by have := nF_le ci hci; omega) (fun h => hjk h.2.1)]
/-- an index inside -/
def inB (i : Int32) (n : Nat) : Prop := 0 ≤ i ∧ i.toNatClampNeg < n
theorem inB_in {i : Int32} {n : Nat} (h : inB i n) : ¬ (i < 0 ∨ n ≤ i.toNatClampNeg) := by
  rintro (h1 | h1)
  · exact absurd h.1 (Int32.not_le.mpr h1)
  · have := h.2; omega
theorem acell20 {a : Nat} (hB : gB Γ ≤ a) (h : Kd g a = 20) : acell Γ g a = some (arrV (Γ.2.1 20) (Ln g a) (fun j => .int (Ia g (Co g a) (Ow g a) j))) := by unfold acell; rw [if_neg (Nat.not_lt.mpr hB)]; simp only [h]
theorem acell21 {a : Nat} (hB : gB Γ ≤ a) (h : Kd g a = 21) : acell Γ g a = some (arrV (Γ.2.1 21) (Ln g a) (fun j => .int (Ia g (Co g a) (Ow g a) j))) := by unfold acell; rw [if_neg (Nat.not_lt.mpr hB)]; simp only [h]
theorem acell22 {a : Nat} (hB : gB Γ ≤ a) (h : Kd g a = 22) : acell Γ g a = some (arrV (Γ.2.1 22) (Ln g a) (fun j => va_rf (Ra g (Co g a) (Ow g a) j))) := by unfold acell; rw [if_neg (Nat.not_lt.mpr hB)]; simp only [h]
theorem acell23 {a : Nat} (hB : gB Γ ≤ a) (h : Kd g a = 23) : acell Γ g a = some (arrV (Γ.2.1 23) (Ln g a) (fun j => .long (La g a j))) := by unfold acell; rw [if_neg (Nat.not_lt.mpr hB)]; simp only [h]
theorem j_iald (hE : GE Γ E cc nL own ret fr lo K) {a : Nat} {i : Int32} (hk : Kd g a = 20) (hi : inB i (Ln g a)) (hd : decode cc pc = .ok (.iaload, 1)) (h : JW Γ E (pc + 1) L (.int (Ia g (Co g a) (Ow g a) i.toNatClampNeg) :: S) g) : JW Γ E pc L (.int i :: .ref a :: S) g := by
  obtain ⟨p, l, e, R, s, m, args, below, meth, c, Q⟩ := E
  obtain ⟨hx, hb, hml, ho, hts, hret, hlk, hK, -, hQ⟩ := hE
  intro H locs k' n ls a1 a2 a3
  obtain ⟨-, hB, hA⟩ := a1.arr (a := a) (by omega) (by omega)
  rw [acell20 (hB (Nat.lt_of_le_of_lt (Nat.zero_le _) hi.2)) hk] at hA
  refine W.iald hx hb hA ((hK.1.2 0 _ rfl).1 _ _) (fun q => by cases q) (by rw [arrV_size]; exact inB_in hi) (arrV_read _ _ hi.2) rfl rfl hd (h H locs k' n ls a1 a2 a3)
theorem j_zald (hE : GE Γ E cc nL own ret fr lo K) {a : Nat} {i : Int32} (hk : Kd g a = 21) (hi : inB i (Ln g a)) (hd : decode cc pc = .ok (.baload, 1)) (h : JW Γ E (pc + 1) L (.int (Ia g (Co g a) (Ow g a) i.toNatClampNeg) :: S) g) : JW Γ E pc L (.int i :: .ref a :: S) g := by
  obtain ⟨p, l, e, R, s, m, args, below, meth, c, Q⟩ := E
  obtain ⟨hx, hb, hml, ho, hts, hret, hlk, hK, -, hQ⟩ := hE
  intro H locs k' n ls a1 a2 a3
  obtain ⟨-, hB, hA⟩ := a1.arr (a := a) (by omega) (by omega)
  rw [acell21 (hB (Nat.lt_of_le_of_lt (Nat.zero_le _) hi.2)) hk] at hA
  refine W.zald hx hb hA ((hK.1.2 1 _ rfl).1 _ _) (fun q => by cases q) (by rw [arrV_size]; exact inB_in hi) (arrV_read _ _ hi.2) rfl rfl hd (h H locs k' n ls a1 a2 a3)
theorem j_aald (hE : GE Γ E cc nL own ret fr lo K) {a : Nat} {i : Int32} (hk : Kd g a = 22) (hi : inB i (Ln g a)) (hd : decode cc pc = .ok (.aaload, 1)) (h : JW Γ E (pc + 1) L (va_rf (Ra g (Co g a) (Ow g a) i.toNatClampNeg) :: S) g) : JW Γ E pc L (.int i :: .ref a :: S) g := by
  obtain ⟨p, l, e, R, s, m, args, below, meth, c, Q⟩ := E
  obtain ⟨hx, hb, hml, ho, hts, hret, hlk, hK, -, hQ⟩ := hE
  intro H locs k' n ls a1 a2 a3
  obtain ⟨-, hB, hA⟩ := a1.arr (a := a) (by omega) (by omega)
  rw [acell22 (hB (Nat.lt_of_le_of_lt (Nat.zero_le _) hi.2)) hk] at hA
  refine W.aald hx hb hA ((hK.1.2 2 _ rfl).1 _ _) rfl (fun q => by cases q) (by rw [arrV_size]; exact inB_in hi) (arrV_read _ _ hi.2) rfl rfl hd (h H locs k' n ls a1 a2 a3)
theorem j_lald (hE : GE Γ E cc nL own ret fr lo K) {a : Nat} {i : Int32} (hk : Kd g a = 23) (hi : inB i (Ln g a)) (hd : decode cc pc = .ok (.laload, 1)) (h : JW Γ E (pc + 1) L (.long (La g a i.toNatClampNeg) :: S) g) : JW Γ E pc L (.int i :: .ref a :: S) g := by
  obtain ⟨p, l, e, R, s, m, args, below, meth, c, Q⟩ := E
  obtain ⟨hx, hb, hml, ho, hts, hret, hlk, hK, -, hQ⟩ := hE
  intro H locs k' n ls a1 a2 a3
  obtain ⟨-, hB, hA⟩ := a1.arr (a := a) (by omega) (by omega)
  rw [acell23 (hB (Nat.lt_of_le_of_lt (Nat.zero_le _) hi.2)) hk] at hA
  refine W.lald hx hb hA ((hK.1.2 3 _ rfl).1 _ _) (fun q => by cases q) (by rw [arrV_size]; exact inB_in hi) (arrV_read _ _ hi.2) rfl rfl hd (h H locs k' n ls a1 a2 a3)
theorem j_alen (hE : GE Γ E cc nL own ret fr lo K) {a : Nat} (hk : 20 ≤ Kd g a ∧ Kd g a < 24) (hd : decode cc pc = .ok (.arraylength, 1)) (h : JW Γ E (pc + 1) L (.int (Int32.ofNat (Ln g a)) :: S) g) : JW Γ E pc L (.ref a :: S) g := by
  obtain ⟨p, l, e, R, s, m, args, below, meth, c, Q⟩ := E
  obtain ⟨hx, hb, hml, ho, hts, hret, hlk, hK, -, hQ⟩ := hE
  intro H locs k' n ls a1 a2 a3
  have hA := (a1.arr (a := a) hk.1 hk.2).2.2
  have hnext := h H locs k' n ls a1 a2 a3
  rcases nat_cases4 hk.1 hk.2 with z | z | z | z
  · rw [acell20 (a1.arrB (by omega) (by omega)) z] at hA
    exact W.alen hx hb hA ((hK.1.2 0 _ rfl).1 _ _) (by rw [arrV_size]) rfl rfl hd hnext
  · rw [acell21 (a1.arrB (by omega) (by omega)) z] at hA
    exact W.alen hx hb hA ((hK.1.2 1 _ rfl).1 _ _) (by rw [arrV_size]) rfl rfl hd hnext
  · by_cases hq : gB Γ ≤ a
    · rw [acell22 hq z] at hA
      exact W.alen hx hb hA ((hK.1.2 2 _ rfl).1 _ _) (by rw [arrV_size]) rfl rfl hd hnext
    · have h7 := (a1.2.2.1 a (by omega)).2.resolve_left hq
      obtain ⟨s0, b0, w1, w2, w3, w4, w5, w6, w7, w8, cS, v1, v2, v3, v4⟩ := hK.2.2.2.2
      rw [← h7.2.2] at v1
      have hA' : H[a]? = some cS := by rw [a1.2.1 a (Nat.lt_of_not_le hq)]; exact v1
      exact W.alen hx hb hA' (ty := .object "java/lang/Object") ⟨v3, by rw [v4]; exact ((hK.1.2 2 _ rfl).1 0 (fun _ => .null)).2⟩ (by rw [v2, h7.2.1]) rfl rfl hd hnext
  · rw [acell23 (a1.arrB (by omega) (by omega)) z] at hA
    exact W.alen hx hb hA ((hK.1.2 3 _ rfl).1 _ _) (by rw [arrV_size]) rfl rfl hd hnext
theorem locs_put {locs : List Loc} {B a i : Nat} (h : ∀ q ∈ locs, B ≤ q.base) (ha : B ≤ a) : ∀ q ∈ locs ++ [(⟨a, i⟩ : Loc)], B ≤ q.base := by
  intro q hq
  rcases List.mem_append.mp hq with h1 | h1
  · exact h q h1
  · rw [List.mem_singleton.mp h1]; exact ha
theorem j_iast (hE : GE Γ E cc nL own ret fr lo K) {a : Nat} {i v : Int32} (hk : Kd g a = 20) (hi : inB i (Ln g a)) (hd : decode cc pc = .ok (.iastore, 1)) (h : JW Γ E (pc + 1) L S (sA g (Co g a) (Ow g a) i.toNatClampNeg v)) : JW Γ E pc L (.int v :: .int i :: .ref a :: S) g := by
  obtain ⟨p, l, e, R, s, m, args, below, meth, c, Q⟩ := E
  obtain ⟨hx, hb, hml, ho, hts, hret, hlk, hK, -, hQ⟩ := hE
  intro H locs k' n ls a1 a2 a3
  obtain ⟨hlt, hB, hA⟩ := a1.arr (a := a) (by omega) (by omega)
  have hpos : 0 < Ln g a := by have := hi.2; omega
  rw [acell20 (hB hpos) hk] at hA
  refine W.iast hx hb hA ((hK.1.2 0 _ rfl).1 _ _) (fun q => by cases q) (by rw [arrV_size]; exact inB_in hi) rfl rfl hd fun H' e1 e2 e3 => ?_
  refine h H' _ k' n ls (a1.aw (a := a) (by omega) (by omega) hpos hA e1 (by simp [Cell.setSlot]) e2 e3 rfl rfl rfl rfl rfl rfl rfl rfl (fun co ow hne => ?_) (fun _ _ _ => rfl) (fun _ _ => rfl) ?_) (locs_put a2 (hB hpos)) a3
  · funext j
    rw [Ia_sA, if_neg (fun q => hne ⟨q.1, q.2.1⟩)]
  · rw [e1, arrV_store]
    rw [acell20 (hB hpos) (by rw [Kd_sA]; exact hk)]
    congr 2
    funext j
    rw [Co_sA, Ow_sA, Ia_sA]
    unfold updV
    by_cases hj : j = i.toNatClampNeg <;> simp [hj]
theorem j_zast (hE : GE Γ E cc nL own ret fr lo K) {a : Nat} {i v : Int32} (hk : Kd g a = 21) (hi : inB i (Ln g a)) (hv : v = 0 ∨ v = 1) (hd : decode cc pc = .ok (.bastore, 1)) (h : JW Γ E (pc + 1) L S (sA g (Co g a) (Ow g a) i.toNatClampNeg v)) : JW Γ E pc L (.int v :: .int i :: .ref a :: S) g := by
  obtain ⟨p, l, e, R, s, m, args, below, meth, c, Q⟩ := E
  obtain ⟨hx, hb, hml, ho, hts, hret, hlk, hK, -, hQ⟩ := hE
  intro H locs k' n ls a1 a2 a3
  obtain ⟨hlt, hB, hA⟩ := a1.arr (a := a) (by omega) (by omega)
  have hpos : 0 < Ln g a := by have := hi.2; omega
  rw [acell21 (hB hpos) hk] at hA
  refine W.zast hx hb hA ((hK.1.2 1 _ rfl).1 _ _) (fun q => by cases q) (by rw [arrV_size]; exact inB_in hi) rfl rfl hd fun H' e1 e2 e3 => ?_
  have hnr : narrow .boolean (.int v) = .int v := by rcases hv with rfl | rfl <;> rfl
  rw [hnr] at e1
  refine h H' _ k' n ls (a1.aw (a := a) (by omega) (by omega) hpos hA e1 (by simp [Cell.setSlot]) e2 e3 rfl rfl rfl rfl rfl rfl rfl rfl (fun co ow hne => ?_) (fun _ _ _ => rfl) (fun _ _ => rfl) ?_) (locs_put a2 (hB hpos)) a3
  · funext j
    rw [Ia_sA, if_neg (fun q => hne ⟨q.1, q.2.1⟩)]
  · rw [e1, arrV_store]
    rw [acell21 (hB hpos) (by rw [Kd_sA]; exact hk)]
    congr 2
    funext j
    rw [Co_sA, Ow_sA, Ia_sA]
    unfold updV
    by_cases hj : j = i.toNatClampNeg <;> simp [hj]
theorem j_last (hE : GE Γ E cc nL own ret fr lo K) {a : Nat} {i : Int32} {v : Int64} (hk : Kd g a = 23) (hi : inB i (Ln g a)) (hd : decode cc pc = .ok (.lastore, 1)) (h : JW Γ E (pc + 1) L S (sLA g a i.toNatClampNeg v)) : JW Γ E pc L (.long v :: .int i :: .ref a :: S) g := by
  obtain ⟨p, l, e, R, s, m, args, below, meth, c, Q⟩ := E
  obtain ⟨hx, hb, hml, ho, hts, hret, hlk, hK, -, hQ⟩ := hE
  intro H locs k' n ls a1 a2 a3
  obtain ⟨hlt, hB, hA⟩ := a1.arr (a := a) (by omega) (by omega)
  have hpos : 0 < Ln g a := by have := hi.2; omega
  rw [acell23 (hB hpos) hk] at hA
  refine W.last hx hb hA ((hK.1.2 3 _ rfl).1 _ _) (fun q => by cases q) (by rw [arrV_size]; exact inB_in hi) rfl rfl hd fun H' e1 e2 e3 => ?_
  refine h H' _ k' n ls (a1.aw (a := a) (by omega) (by omega) hpos hA e1 (by simp [Cell.setSlot]) e2 e3 rfl rfl rfl rfl rfl rfl rfl rfl (fun _ _ _ => rfl) (fun _ _ _ => rfl) (fun b hb => ?_) ?_) (locs_put a2 (hB hpos)) a3
  · funext j
    rw [La_sLA, if_neg (fun q => hb q.1)]
  · rw [e1, arrV_store]
    rw [acell23 (hB hpos) (by rw [Kd_sLA]; exact hk)]
    congr 2
    funext j
    rw [La_sLA]
    unfold updV
    by_cases hj : j = i.toNatClampNeg <;> simp [hj]
end
