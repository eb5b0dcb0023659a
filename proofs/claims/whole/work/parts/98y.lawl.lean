/-! a method with a handler; a call that may throw, caught -/
def MetH (Γ : GAM) (l : Launch) (y : MethodName) (cc : ByteArray) (nL : Nat) (ret : Option FieldType) (hh : List (Nat × Nat × Nat × Nat)) (fr lo : Nat) (av : List Value) (g : GH) (K : Option Value → GH → Prop) : Prop :=
  Met l y (.codeWith y cc nL ret hh :: gwl) { frames := fr, cells := gB Γ + NCC - Hn g, slots := NSS - Hu g, locals := lo } (va_Pc av (fun U => Rep Γ g U.heap ∧ WK Γ U)) (QcK Γ K) (gB Γ + NCC - Hn g) (NSS - Hu g) (fun q => gB Γ ≤ q)
def eC (E : EV) : Code := E.2.2.2.2.2.2.2.2.2.1
theorem MetH.introL {Γ : GAM} {cc : ByteArray} {nL : Nat} {ret : Option FieldType} {hh : List (Nat × Nat × Nat × Nat)} {fr lo : Nat} {K : Option Value → GH → Prop} {g : GH} {l : Launch} {y : MethodName} {av : List Value} {Lx : List (Option Value)} (hy : plainName y.cls = true) (ha : (lg_sl av).length ≤ nL) (hLx : Lx.length = nL) (hav : lvl Lx 0 = lv_args 0 av) (h : ∀ E : EV, E.2.1 = l → GE Γ E cc nL y.cls ret fr lo K → (eC E).exceptionTable.toList = tableOf hh → JW Γ E 0 Lx [] g) : MetH Γ l y cc nL ret hh fr lo av g K := by
  unfold MetH Met
  refine MetFree.of_bodyS (code := cc) (maxLocals := nL) (ret := ret) hy ?_ ?_
  · intro args s m h hn
    obtain ⟨m9, meth, c, hn9, h1, h2, h3, h4, -, h5, h6, -⟩ := Cond.codeWith_spec (atoms_spec (ws := .codeWith y cc nL ret hh :: gwl) h _ List.mem_cons_self)
    cases hn.symm.trans hn9
    exact ⟨meth, c, h1, h2, h3, h4, h5, h6⟩
  · intro p e s m args below meth c s₁ B hml hv _
    have hh0 : s₁.heap = s.heap := by rw [B.state]; rfl
    have hts := atoms_spec (ws := .codeWith y cc nL ret hh :: gwl) B.pre
    have htab := vx_table (x := y) B (hts _ List.mem_cons_self)
    obtain ⟨rfl, hR, hK⟩ := hv
    have hown : s.vm.findClass y.cls = some m.cls := findClass_of_methodNamed B.named
    have hR1 := hR.1
    have hlen := lv_entry av (n := nL) ha
    have body : W p l e { frames := fr, cells := gB Γ + NCC - Hn g, slots := NSS - Hu g, locals := lo } s m av.toArray below meth c s.heap [] 0 0 (MQ below (QcK Γ K) av.toArray s (gB Γ + NCC - Hn g) (NSS - Hu g) (fun q => gB Γ ≤ q)) (entryFrame m av.toArray nL) := by
      rw [lg_entry_eq]
      generalize (lg_sl av ++ List.replicate (nL - (lg_sl av).length) Slot.unset).toArray = ls at hlen ⊢
      have hlh : lhas ls Lx := by
        refine ⟨by rw [hLx]; exact hlen.1, hlen.2.1, fun q hq => hlen.2.2 q ?_⟩
        rw [hav] at hq
        exact hq
      refine h (p, l, e, _, s, m, av.toArray, below, meth, c, _) rfl ⟨B.exec, B.bytes, hml, hown, fun w hw => hts w (List.mem_cons_of_mem _ hw), B.returns, B.notSynchronized, hK, ⟨rfl, rfl, ?_, ?_, Hu g, ?_, ?_⟩, fun _ h => h⟩ htab s.heap [] 0 0 ls hR (fun q hq => by cases hq) hlh
      · show gB Γ + NCC - Hn g + s.heap.size = gB Γ + NCC
        rw [← hR1.1]; have := hR1.2.2.1; omega
      · rw [← hR1.1]; exact hR1.2.1
      · show NSS - Hu g + Hu g = NSS
        have := hR1.2.2.2.1; omega
      · exact hR1.2.2.2.2
    obtain ⟨t, a1, o, b1, b2, b3⟩ := body s₁ hh0 (Stand.of_body B)
    exact ⟨t, o, a1, b1, b2, b3⟩
theorem gwl_inW {y : MethodName} {b : ByteArray} {n : Nat} {r : Option FieldType} {hh : List (Nat × Nat × Nat × Nat)} (h : Cond.codeWith y b n r hh ∈ gwl) : GoodIn gwl (.codeWith y b n r hh :: gwl) := by
  intro w hw
  rcases List.mem_cons.mp hw with e | hw
  · subst e; exact ⟨h, gwl_good _ h⟩
  · exact ⟨hw, gwl_good _ hw⟩
section
variable {Γ : GAM} {E : EV} {cc : ByteArray} {nL : Nat} {own : String} {ret : Option FieldType} {fr lo : Nat} {K : Option Value → GH → Prop} {pc : Nat} {L : List (Option Value)} {S : List Value} {g : GH}
/-- a static call of a method with a handler -/
theorem j_callSW (hE : GE Γ E cc nL own ret fr lo K) (hnL : L.length = nL) {idx : Nat} {y : MethodName} {bytes : ByteArray} {maxL n : Nat} {ret' : Option FieldType} {hh : List (Nat × Nat × Nat × Nat)} (w1 : Cond.codeWith y bytes maxL ret' hh ∈ gwl) (w2 : Cond.initialized y.cls ∈ gwl) (w3 : Cond.methodLink own idx y ∈ gwl) (w4 : y.cls ≠ "java/lang/invoke/MethodHandle" ∧ y.cls ≠ "java/lang/invoke/VarHandle" ∧ (parseMethodDescriptor y.desc).map (fun d => d.parameters.length) = some n) (hst : Cond.static y ∈ gwl) {fr' lo' : Nat} (hfl : fr' + 1 ≤ fr ∧ 8 + (maxL + 11) + lo' ≤ lo) {As rest : List Value} (hS : S = As.reverse ++ rest) (hn : As.length = n) (hrest : (rest.map fun v => v.category).sum ≤ 8) (hd : decode cc pc = .ok (.invokestatic idx, 3))
    {K' : Option Value → GH → Prop} (hM : MetH Γ E.2.1 y bytes maxL ret' hh fr' lo' As g K') (h : ∀ r g', K' r g' → JW Γ E (pc + 3) L (r.toList ++ rest) g') : JW Γ E pc L S g := by
  obtain ⟨p, l, e, R, s, m, args, below, meth, c, Q⟩ := E
  obtain ⟨hx, hb, hml, ho, hts, hret, hlk, hK, ⟨hfr, hlo, hcs, hB, u0, hu0, hs0⟩, hQ⟩ := hE
  intro H locs k' n' ls a1 a2 a3
  have r := a1
  obtain ⟨⟨r1, r2, r3, r4, r5⟩, -⟩ := r
  refine W_tight fun t1 t2 => ?_
  have hrm := room_of r1 r3 r4 r5 t1 t2 hcs hu0 hs0
  have hrun := vx_runSW (g := F0 m pc ls S) (H := H) (locs := locs) (cells := H.size - s.heap.size) (slots := ssum H - ssum s.heap) (below := below) (meth := meth) (e := e) (R := R) (hh := hh) ⟨hx, hb, hml, ho, hts⟩ hM (cw := ⟨⟨rfl, rfl, by rw [hfr]; exact hfl.1, by rw [hlo]; exact hfl.2, pay_in hts (gwl_inW w1), List.mem_cons_self⟩, hts _ w1, hts _ w2, ⟨w4.1, w4.2.1⟩, fun sig hsig => by
      have h2 := w4.2.2
      rw [hsig] at h2
      exact (Option.some.inj h2).symm, hts _ w3, hts _ hst⟩)
    ⟨blind_of, fun U hU hW => ⟨rfl, by rw [hU]; exact a1, WK.warm hW hK⟩⟩ rfl hn (by show ls.size = nL; rw [a3.1, hnL]) hS (lv_room hrest) hd hrm
  exact call_go hrun a2 a3 h
/-- a virtual call that may throw, under a handler of this body -/
theorem j_callVX (hE : GE Γ E cc nL own ret fr lo K) (hnL : L.length = nL) {idx : Nat} {y : MethodName} {bytes : ByteArray} {maxL n : Nat} {ret' : Option FieldType} (hcl : CLs own idx y bytes maxL ret' n) {ci N : Nat} {T : u_T} {ty : Nat → FieldType} (hC : CFx ci y.cls T N ty) (hin : Cond.instanceMethod y ∈ gwl) (hsel : Cond.selects y.cls y y ∈ gwl) {fr' lo' : Nat} (hfl : fr' + 1 ≤ fr ∧ 8 + (maxL + 11) + lo' ≤ lo) {As rest : List Value} {b : Nat} (hS : S = As.reverse ++ .ref b :: rest) (hn : As.length = n) (hrest : (rest.map fun v => v.category).sum ≤ 8) (hk : Kd g b = ci + 1) (hd : decode cc pc = .ok (.invokevirtual idx, 3))
    (x : ExceptionTableEntry) (htab : (eC E).exceptionTable.toList = [x]) (hcov : covers x pc = true) (hct : x.catchType ≠ 0) (hlink : Cond.classLink own x.catchType NSE ∈ gwl) (hcast : Cond.castable NSE NSE ∈ gc_castable)
    {K' : Option Value → GH → Prop} {KX : GH → Prop} (hM : MetX Γ E.2.1 y bytes maxL ret' fr' lo' (.ref b :: As) g K' KX) (h : ∀ r g', K' r g' → JW Γ E (pc + 3) L (r.toList ++ rest) g') (hx : ∀ q g', KX g' → JW Γ E x.handlerPc L [.ref q] g') : JW Γ E pc L S g := by
  obtain ⟨p, l, e, R, s, m, args, below, meth, c, Q⟩ := E
  obtain ⟨hex, hb, hml, ho, hts, hret, hlk, hK, ⟨hfr, hlo, hcs, hB, u0, hu0, hs0⟩, hQ⟩ := hE
  obtain ⟨w1, w2, w3, w4⟩ := hcl
  intro H locs k' n' ls a1 a2 a3
  have r := a1
  obtain ⟨⟨r1, r2, r3, r4, r5⟩, -⟩ := r
  obtain ⟨-, -, cell, q1, q2, q3, -⟩ := a1.obj hk hC.2.2.2.2.2.2.1
  refine W_tight fun t1 t2 => ?_
  have hrm := room_of r1 r3 r4 r5 t1 t2 hcs hu0 hs0
  have hrun := vx_runV (g := F0 m pc ls S) (H := H) (locs := locs) (cells := H.size - s.heap.size) (slots := ssum H - ssum s.heap) (below := below) (meth := meth) (e := e) (R := R) ⟨hex, hb, hml, ho, hts⟩ hM (cw := ⟨callB_of n hts (gwl_in w1) rfl rfl rfl (hts _ w2) (hts _ w3) w4 ⟨by rw [hfr]; exact hfl.1, by rw [hlo]; exact hfl.2⟩, hts _ hin, hts _ hsel⟩)
    ⟨blind_of, ⟨cell, q1, by rw [q3]; rfl, by rw [q2]; exact (hK.1.1 ci _ hC.1).2.1⟩, fun U hU hW => ⟨rfl, by rw [hU]; exact a1, WK.warm hW hK⟩⟩ rfl hn (by show ls.size = nL; rw [a3.1, hnL]) hS (lv_room hrest) hd hrm
  intro T hT X
  rcases hrun T hT X with ⟨v, st₀, t, T', L', h0, X', hL, e1, e2, ⟨r, g', hv, hK', hR'⟩, st⟩ | ⟨q, st₀, t, T', L', E, ce, h0, X', hL, e1, e2, ⟨rfl, g', hR', hK'⟩, hce, hcv, hcl, st⟩
  · cases hv
    obtain ⟨t2, b1, b2⟩ := h v g' hK' T'.heap (locs ++ L') _ _ ls (by rw [e1]; exact hR') (fun q hq => by
      rcases List.mem_append.mp hq with h | h
      · exact a2 q h
      · exact hL q h) a3 T' rfl X'
    exact ⟨t2, st t2 b1, b2⟩
  · have htab' : c.exceptionTable.toList = [] ++ x :: [] := htab
    have hw := hx q g' hK' T'.heap (locs ++ L') (H.size - s.heap.size + (gB Γ + NCC - Hn g)) (ssum H - ssum s.heap + (NSS - Hu g)) ls (by rw [e1]; exact hR') (fun q hq => by
      rcases List.mem_append.mp hq with h | h
      · exact a2 q h
      · exact hL q h) a3
    obtain ⟨t2, b1, b2⟩ := vx_catch (rest := rest) (pc := pc) ho [] x [] htab' (fun z hz => nomatch hz) hcov hct (hts _ hlink) (va_Nw.use rfl (hK.2.2.2.1 _ hcast)) (by rw [e1]; exact hce) hcv hcl hw T' rfl X'
    exact ⟨t2, st.trans b1, b2⟩
end
