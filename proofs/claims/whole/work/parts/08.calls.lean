/-! new cells, calls, returns -/
theorem W_imp {p : Program} {l : Launch} {e : Env} {R : Room} {s : State} {m : MethodId} {args : Array Value} {below : List Frame} {meth : Method} {c : Code} {H : Heap} {locs : List Loc} {k n : Nat} {Q Q' : State → Prop} {g : JFrame}
    (hQ : ∀ t, Q' t → Q t) (h : W p l e R s m args below meth c H locs k n Q' g) : W p l e R s m args below meth c H locs k n Q g := by
  intro T hT X
  obtain ⟨t, b1, b2⟩ := h T hT X
  exact ⟨t, b1, hQ t b2⟩
theorem W_tight {p : Program} {l : Launch} {e : Env} {R : Room} {s : State} {m : MethodId} {args : Array Value} {below : List Frame} {meth : Method} {c : Code} {H : Heap} {locs : List Loc} {k n : Nat} {Q : State → Prop} {g : JFrame}
    (h : s.heap.size ≤ H.size → ssum s.heap ≤ ssum H → W p l e R s m args below meth c H locs (H.size - s.heap.size) (ssum H - ssum s.heap) Q g) : W p l e R s m args below meth c H locs k n Q g := by
  intro T hT X
  have hb := X.book
  have hs0 : s.slotsTrue = true := by
    have h := X.room
    simp only [State.hasRoom, Bool.and_eq_true] at h
    exact h.2
  have e1 : T.slotsUsed = ssum T.heap := by
    simp only [State.slotsTrue, beq_iff_eq] at hb
    exact hb
  have e2 : s.slotsUsed = ssum s.heap := by
    simp only [State.slotsTrue, beq_iff_eq] at hs0
    exact hs0
  obtain ⟨h1, h2, h3, h4, h5, h6⟩ := X.same
  have h2' : s.heap.size ≤ T.heap.size := h2
  have h4' : T.slotsUsed = s.slotsUsed + ((T.heap.toList.drop s.heap.size).map (·.slots.size)).sum := h4
  rw [e1, e2, hT] at h4'
  rw [hT] at h2'
  refine h h2' (by omega) T hT { X with same := ⟨h1, h2, ?_, h4, ?_, h6⟩ }
  · show T.heap.size ≤ s.heap.size + (H.size - s.heap.size)
    rw [hT]; omega
  · show ((T.heap.toList.drop s.heap.size).map (·.slots.size)).sum ≤ ssum H - ssum s.heap
    rw [hT]
    omega
section
variable {Γ : GAM} {E : EV} {cc : ByteArray} {nL : Nat} {own : String} {ret : Option FieldType} {fr lo : Nat} {K : Option Value → GH → Prop} {pc : Nat} {L : List (Option Value)} {S : List Value} {g : GH}
theorem j_new (hE : GE Γ E cc nL own ret fr lo K) {idx ci N : Nat} {C : String} {T : u_T} {ty : Nat → FieldType} (hC : CFx ci C T N ty) (hl : Cond.classLink own idx C ∈ gwl) (hini : Cond.initialized C ∈ gwl) (hd : decode cc pc = .ok (.new idx, 3)) (h1 : Hn g + 1 ≤ gB Γ + NCC) (h2 : Hu g + N ≤ NSS)
    (h : (∀ f, Gi g f (Hn g) = 0) → (∀ f, Gr g f (Hn g) = none) → (∀ c, free g c (Hn g)) → (∀ a, Hn g ≤ a → Kd g a = 0) → JW Γ E (pc + 3) L (.ref (Hn g) :: S) (nO g ci N)) : JW Γ E pc L S g := by
  obtain ⟨p, l, e, R, s, m, args, below, meth, c, Q⟩ := E
  obtain ⟨hx, hb, hml, ho, hts, hret, hlk, hK, ⟨hfr, hlo, hcs, hB, u0, hu0, hs0⟩, hQ⟩ := hE
  intro H locs k n ls a1 a2 a3
  obtain ⟨c1, c2, c3, c4, c5, c6, c7, c8⟩ := hC
  have r := a1
  obtain ⟨⟨r1, r2, r3, r4, r5⟩, r6, r7, r8, r9, r10, r11, r12⟩ := r
  refine W_tight fun t1 t2 => ?_
  refine W.newc hx hb ho (hts _ hl) (hts _ c8) (hts _ hini) rfl hd (by omega) (by omega) fun cC kC f1 f2 f3 f4 => ?_
  rw [← r1]
  have hpush : (H.push { cls := cC, slots := kC.instanceTypes.map defaultValue, vm := .none })[Hn g]? = some (blank cC kC) := by rw [r1, Array.getElem?_push]; simp; rfl
  have hKn := hK.1.1 ci _ c1
  have hcC : Γ.1.1 ci = cC := by have := hKn.2.1; exact Option.some.inj (this.symm.trans f1)
  rw [← hcC] at f2 hpush ⊢
  have hborn := u_born ty hts c2 hKn f2 hpush c3
  refine h (r11 _ (Nat.le_refl _)).1 (r11 _ (Nat.le_refl _)).2 (fun co b hb ho => ?_) (fun a ha => Classical.byContradiction fun hz => ?_) _ locs _ _ ls (Rep_nO a1 c7 h1 h2 (by simp [f4]) ?_) a2 a3
  · have := r12 b hb; omega
  · have := (r7 a hz).1; omega
  · rw [nF_of c1]
    refine hborn.to fun k hk => ?_
    rw [c5 k hk]
    unfold VF
    rw [(r11 _ (Nat.le_refl _)).1, (r11 _ (Nat.le_refl _)).2]
    rfl
/-- a new array of ints, booleans or longs: k its kind -/
theorem j_newarray (hE : GE Γ E cc nL own ret fr lo K) {atype : ArrayType} {k co ow n : Nat} {x : Int32} (hat : Cond.arrayClass (newarray.typeOf atype) ∈ gwl) (hk : (k = 20 ∧ atype = .int) ∨ (k = 21 ∧ atype = .boolean) ∨ (k = 23 ∧ atype = .long)) (hn0 : 0 ≤ x) (hn : x.toNatClampNeg = n) (hn2 : n ≤ 60000000) (how : ow < Hn g) (hf : free g co ow) (hd : decode cc pc = .ok (.newarray atype, 2)) (h1 : Hn g + 1 ≤ gB Γ + NCC) (h2 : Hu g + n ≤ NSS)
    (h : JW Γ E (pc + 2) L (.ref (Hn g) :: S) (nA g k co ow n)) : JW Γ E pc L (.int x :: S) g := by
  obtain ⟨p, l, e, R, s, m, args, below, meth, c, Q⟩ := E
  obtain ⟨hx, hb, hml, ho, hts, hret, hlk, hK, ⟨hfr, hlo, hcs, hB, u0, hu0, hs0⟩, hQ⟩ := hE
  intro H locs k' n' ls a1 a2 a3
  have r := a1
  obtain ⟨⟨r1, r2, r3, r4, r5⟩, -⟩ := r
  subst hn
  refine W_tight fun t1 t2 => ?_
  refine W.newa hx hb (hts _ hat) rfl hd rfl (Int32.not_lt.mpr hn0) ?_ (by omega) (by omega) fun cA kA comp f1 f2 f3 => ?_
  · rcases hk with ⟨_, rfl⟩ | ⟨_, rfl⟩ | ⟨_, rfl⟩ <;> simp [componentBytes, newarray.typeOf] <;> omega
  rw [← r1]
  refine h _ locs _ _ ls (Rep_nA a1 (by omega) (by omega) h1 h2 how hf (by simp) ?_) a2 a3
  rcases hk with ⟨rfl, rfl⟩ | ⟨rfl, rfl⟩ | ⟨rfl, rfl⟩
  · have hc : cA = Γ.2.1 20 := by have := (hK.1.2 0 _ rfl).2; exact Option.some.inj (f1.symm.trans this)
    rw [acell20 r2 (by rw [Kd_nA, if_pos rfl]), Ln_nA, Co_nA, Ow_nA, Ia_nA, if_pos rfl, if_pos rfl, if_pos rfl, if_pos ⟨rfl, rfl⟩, hc]
    congr 1
    unfold arrV
    congr 1
    apply Array.ext <;> simp [newarray.typeOf, defaultValue]
  · have hc : cA = Γ.2.1 21 := by have := (hK.1.2 1 _ rfl).2; exact Option.some.inj (f1.symm.trans this)
    rw [acell21 r2 (by rw [Kd_nA, if_pos rfl]), Ln_nA, Co_nA, Ow_nA, Ia_nA, if_pos rfl, if_pos rfl, if_pos rfl, if_pos ⟨rfl, rfl⟩, hc]
    congr 1
    unfold arrV
    congr 1
    apply Array.ext <;> simp [newarray.typeOf, defaultValue]
  · have hc : cA = Γ.2.1 23 := by have := (hK.1.2 3 _ rfl).2; exact Option.some.inj (f1.symm.trans this)
    rw [acell23 r2 (by rw [Kd_nA, if_pos rfl]), Ln_nA, La_nA, if_pos rfl, if_pos rfl, hc]
    congr 1
    unfold arrV
    congr 1
    apply Array.ext <;> simp [newarray.typeOf, defaultValue]
/-- Object.<init> -/
theorem j_objInit (hE : GE Γ E cc nL own ret fr lo K) (hnL : L.length = nL) {idx : Nat} {a : Nat} (hl : Cond.methodLink own idx Lib.objectInit ∈ gwl) (hi : Cond.instanceMethod Lib.objectInit ∈ gwl) (hc : Cond.code Lib.objectInit ⟨#[0xb1]⟩ 1 none ∈ gwl) (hS : (S.map fun v => v.category).sum ≤ 8) (hfr1 : 1 ≤ fr) (hlo1 : 20 ≤ lo) (hd : decode cc pc = .ok (.invokespecial idx, 3)) (h : JW Γ E (pc + 3) L S g) : JW Γ E pc L (.ref a :: S) g := by
  obtain ⟨p, l, e, R, s, m, args, below, meth, c, Q⟩ := E
  obtain ⟨hx, hb, hml, ho, hts, hret, hlk, hK, ⟨hfr, hlo, hcs, hB, u0, hu0, hs0⟩, hQ⟩ := hE
  intro H locs k n ls a1 a2 a3
  refine W.objInit hx hb ho (hts _ hl) (hts _ hi) (hts _ hc) rfl (by show ls.size = _; rw [hml, a3.1, hnL]) rfl hd (by omega) ?_ (h H locs k n ls a1 a2 a3)
  show 2 * 0 + (S.map fun v => v.category).sum + 12 ≤ R.locals
  omega
/-- a method's contract at arguments, a ghost heap and a goal for its end -/
def MetA (Γ : GAM) (l : Launch) (y : MethodName) (cc : ByteArray) (nL : Nat) (ret : Option FieldType) (fr lo : Nat) (av : List Value) (g : GH) (K : Option Value → GH → Prop) : Prop :=
  Met l y (.code y cc nL ret :: gwl) { frames := fr, cells := gB Γ + NCC - Hn g, slots := NSS - Hu g, locals := lo } (va_Pc av (fun U => Rep Γ g U.heap ∧ WK Γ U)) (QcK Γ K) (gB Γ + NCC - Hn g) (NSS - Hu g) (fun q => gB Γ ≤ q)
theorem MetA.intro {l : Launch} {y : MethodName} {av : List Value} (hy : plainName y.cls = true) (ha : (lg_sl av).length ≤ nL) {Lx : List (Option Value)} (hLx : Lx.length = nL) (hav : lvl Lx 0 = lv_args 0 av) (h : ∀ E : EV, GE Γ E cc nL y.cls ret fr lo K → E.2.2.2.2.2.2.2.2.1.name = y.name → JW Γ E 0 Lx [] g) : MetA Γ l y cc nL ret fr lo av g K := by
  refine Met.ofW (cc := cc) (maxL := nL) (ret := ret) hy rfl ?_
  intro p e s m args below meth c s₁ B hml hv
  obtain ⟨rfl, hR, hK⟩ := hv
  have hts := atoms_spec (ws := .code y cc nL ret :: gwl) B.pre
  have hown : s.vm.findClass y.cls = some m.cls := findClass_of_methodNamed B.named
  have hR1 := hR.1
  have hlen := lv_entry av (n := nL) ha
  rw [lg_entry_eq]
  generalize (lg_sl av ++ List.replicate (nL - (lg_sl av).length) Slot.unset).toArray = ls at hlen ⊢
  have hlh : lhas ls Lx := by
    refine ⟨by rw [hLx]; exact hlen.1, hlen.2.1, fun q hq => hlen.2.2 q ?_⟩
    rw [hav] at hq
    exact hq
  refine h (p, l, e, _, s, m, av.toArray, below, meth, c, _) ⟨B.exec, B.bytes, hml, hown, fun w hw => hts w (List.mem_cons_of_mem _ hw), B.returns, B.notSynchronized, hK, ⟨rfl, rfl, ?_, ?_, Hu g, ?_, ?_⟩, fun _ h => h⟩ (name_of_methodNamed B.named B.method).1 s.heap [] 0 0 ls hR (fun q hq => by cases hq) hlh
  · show gB Γ + NCC - Hn g + s.heap.size = gB Γ + NCC
    rw [← hR1.1]; have := hR1.2.2.1; omega
  · rw [← hR1.1]; exact hR1.2.1
  · show NSS - Hu g + Hu g = NSS
    have := hR1.2.2.2.1; omega
  · exact hR1.2.2.2.2
/-- returns -/
theorem j_iret (hE : GE Γ E cc nL own (some .int) fr lo K) {v : Int32} (hd : decode cc pc = .ok (.ireturn, 1)) (h : K (some (.int v)) g) : JW Γ E pc L [.int v] g := by
  obtain ⟨p, l, e, R, s, m, args, below, meth, c, Q⟩ := E
  obtain ⟨hx, hb, hml, ho, hts, hret, hlk, hK, ⟨hfr, hlo, hcs, hB, u0, hu0, hs0⟩, hQ⟩ := hE
  intro H locs k n ls a1 a2 a3
  have r := a1
  obtain ⟨⟨r1, r2, r3, r4, r5⟩, -⟩ := r
  refine W_tight fun t1 t2 => ?_
  refine W_imp hQ ?_
  refine W.widen (k := R.cells) (n := R.slots) (by omega) (by omega) ?_
  exact W.iret hx hb hret (fun t ht hW => ⟨_, g, rfl, h, by rw [ht]; exact a1⟩) a2 hd
theorem j_zret (hE : GE Γ E cc nL own (some .boolean) fr lo K) {v : Int32} (hv : v = 0 ∨ v = 1) (hd : decode cc pc = .ok (.ireturn, 1)) (h : K (some (.int v)) g) : JW Γ E pc L [.int v] g := by
  obtain ⟨p, l, e, R, s, m, args, below, meth, c, Q⟩ := E
  obtain ⟨hx, hb, hml, ho, hts, hret, hlk, hK, ⟨hfr, hlo, hcs, hB, u0, hu0, hs0⟩, hQ⟩ := hE
  intro H locs k n ls a1 a2 a3
  have r := a1
  obtain ⟨⟨r1, r2, r3, r4, r5⟩, -⟩ := r
  refine W_tight fun t1 t2 => ?_
  refine W_imp hQ ?_
  refine W.widen (k := R.cells) (n := R.slots) (by omega) (by omega) ?_
  exact W.zret hx hb hret (by rcases hv with rfl | rfl <;> rfl) (fun t ht hW => ⟨_, g, rfl, h, by rw [ht]; exact a1⟩) a2 hd
theorem j_vret (hE : GE Γ E cc nL own none fr lo K) (hd : decode cc pc = .ok (.return_, 1)) (h : K none g) : JW Γ E pc L [] g := by
  obtain ⟨p, l, e, R, s, m, args, below, meth, c, Q⟩ := E
  obtain ⟨hx, hb, hml, ho, hts, hret, hlk, hK, ⟨hfr, hlo, hcs, hB, u0, hu0, hs0⟩, hQ⟩ := hE
  intro H locs k n ls a1 a2 a3
  have r := a1
  obtain ⟨⟨r1, r2, r3, r4, r5⟩, -⟩ := r
  refine W_tight fun t1 t2 => ?_
  refine W_imp hQ ?_
  refine W.widen (k := R.cells) (n := R.slots) (by omega) (by omega) ?_
  exact W.vret hx hb hret (fun t ht hW => ⟨_, g, rfl, h, by rw [ht]; exact a1⟩) a2 hd
theorem j_aret {rt : FieldType} (hE : GE Γ E cc nL own (some rt) fr lo K) (hrt : (∃ n, rt = .object n) ∨ ∃ t, rt = .array t) {v : Option Nat} (hd : decode cc pc = .ok (.areturn, 1)) (h : K (some (va_rf v)) g) : JW Γ E pc L [va_rf v] g := by
  obtain ⟨p, l, e, R, s, m, args, below, meth, c, Q⟩ := E
  obtain ⟨hx, hb, hml, ho, hts, hret, hlk, hK, ⟨hfr, hlo, hcs, hB, u0, hu0, hs0⟩, hQ⟩ := hE
  intro H locs k n ls a1 a2 a3
  have r := a1
  obtain ⟨⟨r1, r2, r3, r4, r5⟩, -⟩ := r
  refine W_tight fun t1 t2 => ?_
  refine W_imp hQ ?_
  refine W.widen (k := R.cells) (n := R.slots) (by omega) (by omega) ?_
  exact W.aret hx hb hret hrt (by cases v; exact Or.inl rfl; exact Or.inr ⟨_, rfl⟩) (fun t ht hW => ⟨_, g, rfl, h, by rw [ht]; exact a1⟩) a2 hd
end
