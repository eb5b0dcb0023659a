/-! rows of the JDK's: references into arrays, new arrays of references, the shared empty array, a class object -/
set_option maxRecDepth 100000 in
theorem xt_ao : Cond.arrayOver (.object "java/lang/Object") ∈ tables_1 := List.mem_of_getElem? (i := 399) (by decide +kernel)
set_option maxRecDepth 100000 in
theorem xt_ls : Cond.laysStatic "java/util/ArrayList" "DEFAULTCAPACITY_EMPTY_ELEMENTDATA" "[Ljava/lang/Object;" ∈ tables_1 := List.mem_of_getElem? (i := 57) (by decide +kernel)
set_option maxRecDepth 100000 in
theorem xt_ini : Cond.initialized "java/util/ArrayList" ∈ tables_1 := List.mem_of_getElem? (i := 5) (by decide +kernel)
set_option maxRecDepth 100000 in
theorem xt_dc : Cond.declares ⟨"java/lang/Object", "getClass", "()Ljava/lang/Class;"⟩ ∈ tables_1 := List.mem_of_getElem? (i := 1952) (by decide +kernel)
theorem gx_sel : Cond.selects "[Ljava/lang/Object;" ⟨"java/lang/Object", "getClass", "()Ljava/lang/Class;"⟩ ⟨"java/lang/Object", "getClass", "()Ljava/lang/Class;"⟩ ∈ gwl := gw_of ge_selects gg_sel (List.mem_of_getElem? (i := 163) rfl)
theorem gx_ins : Cond.instanceMethod ⟨"java/lang/Object", "getClass", "()Ljava/lang/Class;"⟩ ∈ gwl := gw_of ge_instanceMethod gg_im (List.mem_of_getElem? (i := 18) rfl)
theorem gx_nat : Cond.native ⟨"java/lang/Object", "getClass", "()Ljava/lang/Class;"⟩ ∈ gwl := gw_of ge_native gg_native (List.mem_of_getElem? (i := 0) rfl)
theorem cast_ok {ci : Nat} (h : ci < 13) : ∃ C T N, vwCl[ci]? = some (C, T, N) ∧ Cond.castable C "java/lang/Object" ∈ gc_castable := by
  have : ci = 0 ∨ ci = 1 ∨ ci = 2 ∨ ci = 3 ∨ ci = 4 ∨ ci = 5 ∨ ci = 6 ∨ ci = 7 ∨ ci = 8 ∨ ci = 9 ∨ ci = 10 ∨ ci = 11 ∨ ci = 12 := by omega
  rcases this with rfl | rfl | rfl | rfl | rfl | rfl | rfl | rfl | rfl | rfl | rfl | rfl | rfl
  · exact ⟨_, _, _, rfl, List.mem_of_getElem? (i := 4) rfl⟩
  · exact ⟨_, _, _, rfl, List.mem_of_getElem? (i := 12) rfl⟩
  · exact ⟨_, _, _, rfl, List.mem_of_getElem? (i := 15) rfl⟩
  · exact ⟨_, _, _, rfl, List.mem_of_getElem? (i := 5) rfl⟩
  · exact ⟨_, _, _, rfl, List.mem_of_getElem? (i := 13) rfl⟩
  · exact ⟨_, _, _, rfl, List.mem_of_getElem? (i := 3) rfl⟩
  · exact ⟨_, _, _, rfl, List.mem_of_getElem? (i := 7) rfl⟩
  · exact ⟨_, _, _, rfl, List.mem_of_getElem? (i := 6) rfl⟩
  · exact ⟨_, _, _, rfl, List.mem_of_getElem? (i := 11) rfl⟩
  · exact ⟨_, _, _, rfl, List.mem_of_getElem? (i := 8) rfl⟩
  · exact ⟨_, _, _, rfl, List.mem_of_getElem? (i := 10) rfl⟩
  · exact ⟨_, _, _, rfl, List.mem_of_getElem? (i := 2) rfl⟩
  · exact ⟨_, _, _, rfl, List.mem_of_getElem? (i := 9) rfl⟩
section
variable {Γ : GAM} {E : EV} {cc : ByteArray} {nL : Nat} {own : String} {ret : Option FieldType} {fr lo : Nat} {K : Option Value → GH → Prop} {pc : Nat} {L : List (Option Value)} {S : List Value} {g : GH}
/-- an object of a class of ours can stand in an array of objects -/
theorem obj_assg {s : State} {args : Array Value} {H : Heap} (hK : WK Γ s) (hR : Rep Γ g H) {v ci : Nat} (hv : Kd g v = ci + 1) (hci : ci < 13) : ∃ (cell : Cell) (kA : Class) (comp : ClassId) (kE kC : Class), H[v]? = some cell ∧ (∀ q, cell.vm ≠ .statics q) ∧ s.vm.classes[Γ.2.1 22]? = some kA ∧ kA.kind = .array comp (.object "java/lang/Object") ∧ s.vm.classes[comp]? = some kE ∧ s.vm.classes[cell.cls]? = some kC ∧ s.vm.assignable cell.cls comp = true := by
  obtain ⟨C, T, N, hcl, hcast⟩ := cast_ok hci
  obtain ⟨-, -, cell, q1, q2, q3, -⟩ := hR.obj hv hci
  have hcls := (hK.1.1 ci _ hcl).2
  obtain ⟨kA, comp, k1, k2, k3, -⟩ := (hK.1.2 2 _ rfl).2
  obtain ⟨kE, hkE, -⟩ := Vm.findClass_spec k3
  obtain ⟨c0, t1, f1, f2, f3⟩ := Cond.castable_spec (va_Nw.use (A := args) rfl (hK.2.2.2.1 _ hcast))
  cases hcls.1.symm.trans f1
  cases k3.symm.trans f2
  obtain ⟨kC, hkC, -⟩ := hcls.2
  exact ⟨cell, kA, comp, kE, kC, q1, fun q h => (by rw [q3] at h; cases h), k1, k2, hkE, by rw [q2]; exact hkC, by rw [q2]; exact f3⟩
theorem j_aast (hE : GE Γ E cc nL own ret fr lo K) {a v ci : Nat} {i : Int32} (hk : Kd g a = 22) (hi : inB i (Ln g a)) (hv : Kd g v = ci + 1) (hci : ci < 13) (hd : decode cc pc = .ok (.aastore, 1)) (h : JW Γ E (pc + 1) L S (sRA g (Co g a) (Ow g a) i.toNatClampNeg (some v))) : JW Γ E pc L (.ref v :: .int i :: .ref a :: S) g := by
  obtain ⟨p, l, e, R, s, m, args, below, meth, c, Q⟩ := E
  obtain ⟨hx, hb, hml, ho, hts, hret, hlk, hK, -, hQ⟩ := hE
  intro H locs k' n ls a1 a2 a3
  obtain ⟨hlt, hB, hA⟩ := a1.arr (a := a) (by omega) (by omega)
  have hpos : 0 < Ln g a := by have := hi.2; omega
  rw [acell22 (hB hpos) hk] at hA
  obtain ⟨cell, kA, comp, kE, kC, q1, q2, k1, k2, k3, k4, k5⟩ := obj_assg (args := args) hK a1 hv hci
  refine W.aast hx hb hA (fun q h => by cases h) (fun h => by cases h) k1 k2 rfl k3 ⟨Int32.not_lt.mpr hi.1, by rw [arrV_size]; exact hi.2⟩ q1 q2 k4 k5 rfl rfl hd fun H' e1 e2 e3 => ?_
  refine h H' _ k' n ls (a1.aw (a := a) (by omega) (by omega) hpos hA e1 (by simp [Cell.setSlot]) e2 e3 rfl rfl rfl rfl rfl rfl rfl rfl (fun _ _ _ => rfl) (fun co ow hne => ?_) (fun _ _ => rfl) ?_) (locs_put a2 (hB hpos)) a3
  · funext j
    rw [Ra_sRA, if_neg (fun q => hne ⟨q.1, q.2.1⟩)]
  · rw [e1, arrV_store]
    rw [acell22 (hB hpos) (by rw [Kd_sRA]; exact hk)]
    congr 2
    funext j
    rw [Co_sRA, Ow_sRA, Ra_sRA]
    unfold updV
    by_cases hj : j = i.toNatClampNeg <;> simp [hj, va_rf]
theorem j_aastN (hE : GE Γ E cc nL own ret fr lo K) {a : Nat} {i : Int32} (hk : Kd g a = 22) (hi : inB i (Ln g a)) (hd : decode cc pc = .ok (.aastore, 1)) (h : JW Γ E (pc + 1) L S (sRA g (Co g a) (Ow g a) i.toNatClampNeg none)) : JW Γ E pc L (va_rf none :: .int i :: .ref a :: S) g := by
  obtain ⟨p, l, e, R, s, m, args, below, meth, c, Q⟩ := E
  obtain ⟨hx, hb, hml, ho, hts, hret, hlk, hK, -, hQ⟩ := hE
  intro H locs k' n ls a1 a2 a3
  obtain ⟨hlt, hB, hA⟩ := a1.arr (a := a) (by omega) (by omega)
  have hpos : 0 < Ln g a := by have := hi.2; omega
  rw [acell22 (hB hpos) hk] at hA
  refine va_WaastN (C := "java/lang/Object") hx hb hA ((hK.1.2 2 _ rfl).1 _ _) (fun h => by cases h) (by rw [arrV_size]; exact inB_in hi) rfl rfl hd fun H' e1 e2 e3 => ?_
  refine h H' _ k' n ls (a1.aw (a := a) (by omega) (by omega) hpos hA e1 (by simp [Cell.setSlot]) e2 e3 rfl rfl rfl rfl rfl rfl rfl rfl (fun _ _ _ => rfl) (fun co ow hne => ?_) (fun _ _ => rfl) ?_) (locs_put a2 (hB hpos)) a3
  · funext j
    rw [Ra_sRA, if_neg (fun q => hne ⟨q.1, q.2.1⟩)]
  · rw [e1, arrV_store]
    rw [acell22 (hB hpos) (by rw [Kd_sRA]; exact hk)]
    congr 2
    funext j
    rw [Co_sRA, Ow_sRA, Ra_sRA]
    unfold updV
    by_cases hj : j = i.toNatClampNeg <;> simp [hj, va_rf]
/-- a new array of references -/
theorem j_anew (hE : GE Γ E cc nL own ret fr lo K) {idx co ow n : Nat} {x : Int32} (hcl : Cond.classLink own idx "java/lang/Object" ∈ gwl) (hn0 : 0 ≤ x) (hn : x.toNatClampNeg = n) (hn2 : n ≤ 60000000) (how : ow < Hn g) (hf : free g co ow) (hd : decode cc pc = .ok (.anewarray idx, 3)) (h1 : Hn g + 1 ≤ gB Γ + NCC) (h2 : Hu g + n ≤ NSS)
    (h : JW Γ E (pc + 3) L (.ref (Hn g) :: S) (nA g 22 co ow n)) : JW Γ E pc L (.int x :: S) g := by
  obtain ⟨p, l, e, R, s, m, args, below, meth, c, Q⟩ := E
  obtain ⟨hx, hb, hml, ho, hts, hret, hlk, hK, ⟨hfr, hlo, hcs, hB, u0, hu0, hs0⟩, hQ⟩ := hE
  intro H locs k' n' ls a1 a2 a3
  have r := a1
  obtain ⟨⟨r1, r2, r3, r4, r5⟩, -⟩ := r
  subst hn
  obtain ⟨s0, b0, w1, w2, w3, w4, -⟩ := hK.2.2.2.2
  have hao : va_AO "java/lang/Object" s := va_AO.moved w1.alike (va_AO.of (w4 _ (List.mem_append_right _ xt_ao)))
  refine W_tight fun t1 t2 => ?_
  refine W.anew hx hb ho (hts _ hcl) (va_AO.use hao) rfl hd rfl (Int32.not_lt.mpr hn0) (by omega) (by omega) (by omega) fun cA kA comp f1 f2 f3 f4 => ?_
  rw [← r1]
  refine h _ locs _ _ ls (Rep_nA a1 (by omega) (by omega) h1 h2 how hf (by simp) ?_) a2 a3
  have hc : cA = Γ.2.1 22 := by
    obtain ⟨-, -, -, -, -, k4⟩ := (hK.1.2 2 _ rfl).2
    exact Option.some.inj (f1.symm.trans k4)
  rw [acell22 r2 (by rw [Kd_nA, if_pos rfl]), Ln_nA, Co_nA, Ow_nA, Ra_nA, if_pos rfl, if_pos rfl, if_pos rfl, if_pos ⟨rfl, rfl⟩, hc]
  congr 1
  unfold arrV
  congr 1
  apply Array.ext <;> simp [va_rf]
/-- the shared empty array -/
theorem j_getE (hE : GE Γ E cc nL own ret fr lo K) {idx : Nat} (hl : Cond.fieldLink own idx "java/util/ArrayList" "DEFAULTCAPACITY_EMPTY_ELEMENTDATA" "[Ljava/lang/Object;" ∈ gwl) (hd : decode cc pc = .ok (.getstatic idx, 3)) (h : JW Γ E (pc + 3) L (.ref Γ.2.2.2 :: S) g) : JW Γ E pc L S g := by
  obtain ⟨p, l, e, R, s, m, args, below, meth, c, Q⟩ := E
  obtain ⟨hx, hb, hml, ho, hts, hret, hlk, hK, -, hQ⟩ := hE
  intro H locs k' n' ls a1 a2 a3
  obtain ⟨s0, b0, w1, w2, w3, w4, w5, -⟩ := hK.2.2.2.2
  have hz0 := va_Zof (A := fun q => s0.heap.size ≤ q) (w4 _ (List.mem_append_right _ xt_ls)) (w4 _ (List.mem_append_right _ xt_ini)) w5 (fun a h1 h2 => by omega)
  have hz := va_Z.moved (U := s) w1.alike hz0
  obtain ⟨cf, kf, fi, f, a, cell, h1, h2, h3, h4, h5, h6, h7, h8⟩ := hz
  have hlt : a < gB Γ := by
    have := (Array.getElem?_eq_some_iff.mp h5).1
    rw [w2] at this; exact this
  refine W.gets hx hb ho (hts _ hl) h1 h2 h3 h4 (by rw [a1.2.1 a hlt, ← w2]; exact h5) (fun e => by rw [e] at h6; cases h6) h7 rfl hd (h H locs k' n' ls a1 a2 a3)
/-- getClass() of an array of objects -/
theorem j_getC (hE : GE Γ E cc nL own ret fr lo K) (hnL : L.length = nL) {idx a : Nat} (hk : Kd g a = 22 ∧ 0 < Ln g a) (hl : Cond.methodLink own idx ⟨"java/lang/Object", "getClass", "()Ljava/lang/Class;"⟩ ∈ gwl) (hrest : (S.map fun v => v.category).sum ≤ 8) (hfr1 : 1 ≤ fr) (hlo1 : 30 ≤ lo) (hd : decode cc pc = .ok (.invokevirtual idx, 3)) (h : JW Γ E (pc + 3) L (.ref (Γ.2.1 99) :: S) g) : JW Γ E pc L (.ref a :: S) g := by
  obtain ⟨p, l, e, R, s, m, args, below, meth, c, Q⟩ := E
  obtain ⟨hx, hb, hml, ho, hts, hret, hlk, hK, ⟨hfr, hlo, -⟩, hQ⟩ := hE
  intro H locs k' n' ls a1 a2 a3
  obtain ⟨s0, b0, w1, w2, w3, w4, w5, w6, -⟩ := hK.2.2.2.2
  obtain ⟨-, hB, hA⟩ := a1.arr (a := a) (by omega) (by omega)
  rw [acell22 (hB hk.2) hk.1] at hA
  obtain ⟨kA, comp, k1, k2, k3, k4⟩ := (hK.1.2 2 _ rfl).2
  refine va_getC (C := "[Ljava/lang/Object;") hx hb (by rw [hml, ← hnL]; exact a3.1.symm) ho (hts _ hl) (va_Dc.use (va_Dc.moved w1.alike (va_Dc.of (w4 _ (List.mem_append_right _ xt_dc))))) (hts _ gx_sel) (hts _ gx_ins) (hts _ gx_nat) (va_Mi.moved w1.alike w6) ⟨_, hA, rfl, ?_⟩ (by omega) (by omega) hd (h H locs k' n' ls a1 a2 a3)
  exact va_nmO ⟨kA, comp, k1, k2, k3, k4⟩ (by decide)
/-- a class constant: the class of arrays of objects -/
theorem j_ldcM (hE : GE Γ E cc nL own ret fr lo K) {idx : Nat} (hl : Cond.classLink own idx "[Ljava/lang/Object;" ∈ gwl) (hd : decode cc pc = .ok (.ldc idx, 2)) (h : JW Γ E (pc + 2) L (.ref (Γ.2.1 99) :: S) g) : JW Γ E pc L S g := by
  obtain ⟨p, l, e, R, s, m, args, below, meth, c, Q⟩ := E
  obtain ⟨hx, hb, hml, ho, hts, hret, hlk, hK, -, hQ⟩ := hE
  intro H locs k' n' ls a1 a2 a3
  obtain ⟨s0, b0, w1, w2, w3, w4, w5, w6, -⟩ := hK.2.2.2.2
  exact va_ldcM hx hb ho (hts _ hl) (va_Mi.moved w1.alike w6) hd (h H locs k' n' ls a1 a2 a3)
/-- System.arraycopy of references to objects of ours (or null) -/
theorem j_copyq (hE : GE Γ E cc nL own ret fr lo K) (hnL : L.length = nL) {idx : Nat} (hw : CPx own idx) {a0 a : Nat} {sp dp n : Int32} (hk0 : Kd g a0 = 22) (hk : Kd g a = 22) (h1 : 0 ≤ sp) (h2 : 0 ≤ dp) (h3 : 0 ≤ n) (h4 : sp.toNatClampNeg + n.toNatClampNeg ≤ Ln g a0) (h5 : dp.toNatClampNeg + n.toNatClampNeg ≤ Ln g a) (hln2 : 0 < Ln g a0 ∧ 0 < Ln g a) (hel : ∀ i, i < n.toNatClampNeg → ∀ y, Ra g (Co g a0) (Ow g a0) (sp.toNatClampNeg + i) = some y → ∃ ci, Kd g y = ci + 1 ∧ ci < 13) (hrest : (S.map fun v => v.category).sum ≤ 8) (hfr1 : 1 ≤ fr) (hlo1 : 40 ≤ lo) (hd : decode cc pc = .ok (.invokestatic idx, 3))
    (h : JW Γ E (pc + 3) L S (sRAf g (Co g a) (Ow g a) (va_cpy (Ra g (Co g a0) (Ow g a0)) (Ra g (Co g a) (Ow g a)) sp.toNatClampNeg dp.toNatClampNeg n.toNatClampNeg))) : JW Γ E pc L (.int n :: .int dp :: .ref a :: .int sp :: .ref a0 :: S) g := by
  obtain ⟨p, l, e, R, s, m, args, below, meth, c, Q⟩ := E
  obtain ⟨hx, hb, hml, ho, hts, hret, hlk, hK, ⟨hfr, hlo, -⟩, hQ⟩ := hE
  obtain ⟨w1, w2, w3, w4⟩ := hw
  intro H locs k' n' ls a1 a2 a3
  have hln := hln2.2
  obtain ⟨-, hB0, hA0⟩ := a1.arr (a := a0) (by omega) (by omega)
  obtain ⟨-, hB, hA⟩ := a1.arr (a := a) (by omega) (by omega)
  rw [acell22 (hB0 hln2.1) hk0] at hA0
  rw [acell22 (hB hln) hk] at hA
  intro T hT X
  obtain ⟨-, k0, hk0', cm0, hkk0⟩ := (hK.1.2 2 _ rfl).1 (Ln g a0) (fun j => va_rf (Ra g (Co g a0) (Ow g a0) j))
  obtain ⟨-, k1, hk1, cm1, hkk1⟩ := (hK.1.2 2 _ rfl).1 (Ln g a) (fun j => va_rf (Ra g (Co g a) (Ow g a) j))
  obtain ⟨vm', X', step⟩ := X.arraycopy hx ho (hts _ w1) (hts _ w2) (hts _ w3) (hts _ w4) (src := a0) (dst := a) (srcPos := sp) (destPos := dp) (n := n) (by rw [hT]; exact hA0) (by rw [hT]; exact hA)
    (fun _ h => by cases h) (fun _ h => by cases h) (fun h => by cases h) (fun h => by cases h) hk0' hk1 hkk0 hkk1 rfl (Int32.not_lt.mpr h1) (Int32.not_lt.mpr h2) (Int32.not_lt.mpr h3)
    (by rw [nn32 h1, nn32 h3, arrV_size]; omega)
    (by rw [nn32 h2, nn32 h3, arrV_size]; omega)
    (fun vm₁ hal i hi => by
      have e : (arrV (Γ.2.1 22) (Ln g a0) (fun j => va_rf (Ra g (Co g a0) (Ow g a0) j))).slots.getD (sp.toNatClampNeg + i) .null = va_rf (Ra g (Co g a0) (Ow g a0) (sp.toNatClampNeg + i)) := by
        rw [Array.getD_eq_getD_getElem?, arrV_read _ _ (by omega)]
        rfl
      rw [e]
      cases hy : Ra g (Co g a0) (Ow g a0) (sp.toNatClampNeg + i) with
      | none => exact ⟨rfl, trivial⟩
      | some y =>
        obtain ⟨ci, c1, c2⟩ := hel i hi y hy
        obtain ⟨cell, kA, comp, kE, kC, q1, q2, r1, r2, r3, r4, r5⟩ := obj_assg (args := args) hK a1 c1 c2
        cases hk1.symm.trans r1
        cases hkk1.symm.trans r2
        obtain ⟨kC', hkC', -⟩ := hal.2.2 _ _ r4
        obtain ⟨kE', hkE', -⟩ := hal.2.2 _ _ r3
        refine ⟨rfl, cell, (show T.heap[y]? = some cell by rw [hT]; exact q1), q2, ⟨kC', hkC'⟩, ⟨kE', hkE'⟩, ?_⟩
        show vm₁.assignable _ _ = true
        rw [hal.assignable]
        exact r5)
    (g := F0 m pc ls (.int n :: .int dp :: .ref a :: .int sp :: .ref a0 :: S)) rfl (by show ls.size = _; rw [a3.1, hnL, hml]) (rest := S) rfl (by rw [hb]; exact hd) (by rw [hfr]; exact hfr1) (by
      have hz : nativeFrameWords "java/lang/System" "arraycopy" 5 + 11 ≤ 32 := by decide +kernel
      show 2 * 0 + _ + _ ≤ R.locals
      omega)
  have e1 : copied (arrV (Γ.2.1 22) (Ln g a0) (fun j => va_rf (Ra g (Co g a0) (Ow g a0) j))) (arrV (Γ.2.1 22) (Ln g a) (fun j => va_rf (Ra g (Co g a) (Ow g a) j))) sp dp n = arrV (Γ.2.1 22) (Ln g a) (fun j => va_rf (va_cpy (Ra g (Co g a0) (Ow g a0)) (Ra g (Co g a) (Ow g a)) sp.toNatClampNeg dp.toNatClampNeg n.toNatClampNeg j)) := va_copied (fun z => va_rf z) _ _ _ _ h4
  rw [e1] at X' step
  have hl : a < H.size := (Array.getElem?_eq_some_iff.mp hA).1
  have e2 : (H.setIfInBounds a (arrV (Γ.2.1 22) (Ln g a) (fun j => va_rf (va_cpy (Ra g (Co g a0) (Ow g a0)) (Ra g (Co g a) (Ow g a)) sp.toNatClampNeg dp.toNatClampNeg n.toNatClampNeg j))))[a]? = some (arrV (Γ.2.1 22) (Ln g a) (fun j => va_rf (va_cpy (Ra g (Co g a0) (Ow g a0)) (Ra g (Co g a) (Ow g a)) sp.toNatClampNeg dp.toNatClampNeg n.toNatClampNeg j))) := by simp [Array.getElem?_setIfInBounds, hl]
  obtain ⟨t, b1, b2⟩ := h _ _ _ _ ls (a1.aw (a := a) (by omega) (by omega) hln hA e2 (by rw [arrV_size, arrV_size]) (by simp) (fun q hq => by simp [Array.getElem?_setIfInBounds, Ne.symm hq]) rfl rfl rfl rfl rfl rfl rfl rfl (fun _ _ _ => rfl) (fun co ow hne => by rw [Ra_sRAf, if_neg hne]) (fun _ _ => rfl) (by rw [e2, acell22 (hB hln) (by rw [Kd_sRAf]; exact hk), Co_sRAf, Ow_sRAf, Ln_sRAf, Ra_sRAf, if_pos ⟨rfl, rfl⟩])) (fun q hq => by
      rcases List.mem_append.mp hq with h | h
      · exact a2 q h
      · obtain ⟨z, -, hz⟩ := List.mem_map.mp h
        rw [← hz]
        exact hB hln) a3 _ (by rw [← hT]; rfl) X'
  exact ⟨t, step t b1, b2⟩
end
