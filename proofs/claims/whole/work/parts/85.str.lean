/-! String.indexOf over the constant of the letters -/
def inA (w : Jvm.Cond) : Jvm.Cond → Bool
  | .and a b => inA w a || inA w b
  | c => decide (c = w)
theorem inA_of {args : Array Value} {s : State} {w : Jvm.Cond} : ∀ {c : Jvm.Cond}, inA w c = true → c.before args s = true → w.before args s = true := by
  intro c
  induction c with
  | and a b iha ihb =>
    intro h hb
    rw [Cond.before_and, Bool.and_eq_true] at hb
    have h' : (inA w a || inA w b) = true := h
    rw [Bool.or_eq_true] at h'
    rcases h' with z | z
    · exact iha z hb.1
    · exact ihb z hb.2
  | _ =>
    intro h hb
    simp only [inA, decide_eq_true_eq] at h
    rw [← h]; exact hb
abbrev narW : Jvm.Cond := Jvm.Cond.and given_1 narrow_1
abbrev sT : String := "java/lang/String"
abbrev T361 : Term := .string "PostVotes" 361
abbrev V361 : Term := .field T361 sT "value" "[B"
def ltC : List Int32 := [116, 111, 109, 99, 120, 108, 102, 112, 114, 98, 105, 115, 121, 122, 110, 101, 107]
set_option maxRecDepth 100000 in
theorem na_ex : inA (.exactly T361 sT) narW = true := by decide +kernel
set_option maxRecDepth 100000 in
theorem na_co : inA (.eq (.field T361 sT "coder" "B") (.int 0)) narW = true := by decide +kernel
set_option maxRecDepth 100000 in
theorem na_ar : inA (.arrayOf V361 .byte) narW = true := by decide +kernel
set_option maxRecDepth 100000 in
theorem na_le : inA (.eq (.length V361) (.int 17)) narW = true := by decide +kernel
set_option maxRecDepth 100000 in
theorem na_cs : inA (.eq (.static sT "COMPACT_STRINGS" "Z") (.int 1)) narW = true := by decide +kernel
set_option maxRecDepth 100000 in
theorem na_el : ∀ i, i < 17 → inA (.eq (.elem V361 (.int (nI i))) (.int (ltC.getD i 0))) narW = true := by decide +kernel
set_option maxRecDepth 100000 in
theorem xt_cs : Cond.laysStatic "java/lang/String" "COMPACT_STRINGS" "Z" ∈ tables_1 := List.mem_of_getElem? (i := 710) (by decide +kernel)
set_option maxRecDepth 100000 in
theorem xt_st : Cond.initialized "java/lang/String" ∈ tables_1 := List.mem_of_getElem? (i := 20) (by decide +kernel)
set_option maxRecDepth 100000 in
theorem xt_sr : Cond.stringRef "PostVotes" 361 "tomcxlfprbisyznek" ∈ tables_1 := List.mem_of_getElem? (i := 696) (by decide +kernel)
theorem ev_eqi {args : Array Value} {s : State} {t : Term} {z : Int32} (h : (Cond.eq t (.int z)).before args s = true) : t.eval args s none [] s = some (.int z) := by
  cases hv : t.eval args s none [] s with
  | none => simp [Cond.before, Cond.holds, Cond.value, hv] at h
  | some w =>
    have hz : (Term.int z).eval args s none [] s = some (.int z) := rfl
    simp only [Cond.before, Cond.holds, Cond.value, hv, hz] at h
    cases w <;> simp_all
theorem ev_field {args : Array Value} {s : State} {t : Term} {a : Nat} {c n d : String} (ht : t.eval args s none [] s = some (.ref a)) : (Term.field t c n d).eval args s none [] s = s.fieldOf? a c n d := by
  rw [Term.eval, ht]; rfl
/-- what lies at a text of the class's -/
def STR (a : Nat) (s : State) : Prop := ∃ d arr c cell k, s.fieldOf? a sT "coder" "B" = some (.int 0) ∧ s.fieldOf? a sT "value" "[B" = some (.ref d) ∧ s.heap[d]? = some arr ∧ s.isArrayOf arr .byte ∧ arr.vm ≠ .unknown ∧ arr.slots.size = 17 ∧ (∀ i, i < 17 → arr.slots[i]? = some (.int (ltC.getD i 0))) ∧
  (s.vm.findClass sT = some c ∧ s.heap[a]? = some cell ∧ s.vm.classes[c]? = some k ∧ cell.vm.isStatics = false ∧ cell.cls = c ∧ (k.kind = .ordinary → cell.slots.size = k.instanceTypes.size))
theorem str_s0 {s : State} {b a : Nat} (h : narW.before #[Value.ref b] s = true) (ha : T361.eval #[Value.ref b] s none [] s = some (.ref a)) : STR a s := by
  obtain ⟨a', c, cell, k, e1, e2, e3, e4, e5, e6, e7⟩ := Cond.exactly_spec (inA_of na_ex h)
  rw [ha] at e1; cases e1
  have hco := ev_eqi (inA_of na_co h)
  rw [ev_field ha] at hco
  have hle := ev_eqi (inA_of na_le h)
  obtain ⟨d, arr, g1, g2, g3⟩ := Term.length_spec hle
  have hsz : arr.slots.size < 2 ^ 31 := by
    rw [Term.eval, g1] at hle
    simp only [Option.bind_eq_bind, Option.bind_some, g2] at hle
    by_cases z : arr.slots.size < 2 ^ 31
    · exact z
    · rw [if_neg z] at hle; cases hle
  have hv := g1
  rw [ev_field ha] at hv
  obtain ⟨hh, -⟩ := arrayAt_spec g2
  obtain ⟨hb, hu⟩ := Cond.arrayOf_spec (inA_of na_ar h) g1 hh
  have h17 : arr.slots.size = 17 := by
    have e : (17 : Int32) = arr.slots.size.toInt32 := by
      have := Value.int.inj g3
      exact this
    have e1 : (nI 17) = nI arr.slots.size := e
    exact ((nj_eq (by omega) (by omega)).mp e1).symm
  refine ⟨d, arr, c, cell, k, hco, hv, hh, hb, hu, h17, fun i hi => ?_, e2, e3, e4, e5, e6, e7⟩
  obtain ⟨a2, j, cl, f1, f2, f3, f4, f5⟩ := Term.elem_spec (ev_eqi (inA_of (na_el i hi) h))
  rw [g1] at f1; cases f1
  rw [g2] at f3; cases f3
  have : nI i = j := by cases f2; rfl
  subst this
  rw [nj_cl (by omega)] at f5
  exact f5
theorem STR.kept {a : Nat} {s u : State} (h : STR a s) (hal : s.vm.Alike u.vm) (stay : ∀ (y : Addr) (cy : Cell), s.heap[y]? = some cy → u.heap[y]? = some cy) : STR a u := by
  obtain ⟨d, arr, c, cell, k, h1, h2, h3, h4, h5, h6, h7, h8, h9, h10, h11, h12, h13⟩ := h
  obtain ⟨k', hk', he⟩ := hal.2.2 _ _ h10
  exact ⟨d, arr, c, cell, k', LOB.fieldOf?_kept hal stay h1, LOB.fieldOf?_kept hal stay h2, stay _ _ h3, State.isArrayOf_alike hal h4, h5, h6, h7, by rw [hal.findClass]; exact h8, stay _ _ h9, hk', h11, h12, by rw [he]; exact h13⟩
/-- the world's text, at any heap of the world's -/
theorem WX.str {Γ : GAM} {g : GH} {U : State} (hX : WX Γ U) (hR : Rep Γ g U.heap) : STR (Γ.2.1 98) U ∧ Cold.StaticIs U sT "COMPACT_STRINGS" "Z" (.int 1) := by
  obtain ⟨s0, b, w1, w2, w3, w4, w5, w6, w7, -⟩ := hX
  have stay : ∀ (y : Addr) (cy : Cell), s0.heap[y]? = some cy → U.heap[y]? = some cy := fun y cy hy => by
    have hlt : y < gB Γ := by
      have := (Array.getElem?_eq_some_iff.mp hy).1
      rw [w2] at this; exact this
    rw [hR.2.1 y hlt, ← w2]; exact hy
  refine ⟨(str_s0 w3 w7).kept w1.alike stay, ?_⟩
  have hz0 := va_Zof (A := fun q => s0.heap.size ≤ q) (w4 _ (List.mem_append_right _ xt_cs)) (w4 _ (List.mem_append_right _ xt_st)) (ev_eqi (inA_of na_cs w3)) (fun a h1 h2 => by omega)
  obtain ⟨cf, kf, fi, f, a, cell, h1, h2, h3, h4, h5, h6, h7, h8⟩ := va_Z.moved (U := U) w1.alike hz0
  exact ⟨cf, fi, kf, f, a, cell, h1, h2, h3, h4, stay _ _ h5, (fun e => by rw [e] at h6; cases h6), h7⟩
theorem dec_of {args : Array Value} {s : State} {x : MethodName} {bytes : ByteArray} {n : Nat} {r : Option FieldType} (h1 : (Cond.code x bytes n r).before args s = true) (h2 : (Cond.instanceMethod x).before args s = true) : (Cond.declares x).before args s = true := by
  obtain ⟨m, meth, a1, a2, a3, a4⟩ := Cond.instanceMethod_spec h2
  obtain ⟨meth', c, b1, b2, b3, b4, b5, b6, b7, b8⟩ := Cond.code_spec a1 h1
  rw [a2] at b1; cases b1
  simp only [Cond.before, Cond.holds, Cond.value, a1, a2, Option.bind_some, Option.map_some, a3, b8]
  decide
theorem gwU {Γ : GAM} {U : State} (hK : WK Γ U) {w : Jvm.Cond} (hw : w ∈ gwl) (a' : Array Value) : w.before a' U = true := word_at (State.WarmedH.refl U) (gwl_good w hw) (hK.2.2.1 w hw)
abbrev gCode {w : Jvm.Cond} (h : w ∈ gc_code) : w ∈ gwl := gw_of ge_code gg_code h
theorem qC (i : Nat) {w : Jvm.Cond} (h : gc_code[i]? = some w) : w ∈ gwl := gw_of ge_code gg_code (List.mem_of_getElem? h)
theorem qM (i : Nat) {w : Jvm.Cond} (h : gc_methodLink[i]? = some w) : w ∈ gwl := gw_of ge_methodLink gg_ml (List.mem_of_getElem? h)
theorem qI (i : Nat) {w : Jvm.Cond} (h : gc_instanceMethod[i]? = some w) : w ∈ gwl := gw_of ge_instanceMethod gg_im (List.mem_of_getElem? h)
theorem qS (i : Nat) {w : Jvm.Cond} (h : gc_selects[i]? = some w) : w ∈ gwl := gw_of ge_selects gg_sel (List.mem_of_getElem? h)
theorem qT (i : Nat) {w : Jvm.Cond} (h : gc_static[i]? = some w) : w ∈ gwl := gw_of ge_static gg_static (List.mem_of_getElem? h)
theorem qD (i : Nat) {w : Jvm.Cond} (h : gc_initialized[i]? = some w) : w ∈ gwl := gw_of ge_initialized gg_initd (List.mem_of_getElem? h)
theorem qF (i : Nat) {w : Jvm.Cond} (h : gc_fieldLink[i]? = some w) : w ∈ gwl := gw_of ge_fieldLink gg_fl (List.mem_of_getElem? h)
theorem ex_of {a : Nat} {s : State} {args : Array Value} (h0 : args[0]? = some (.ref a)) (h : STR a s) : (Cond.exactly (.arg 0) "java/lang/String").before args s = true := by
  obtain ⟨d, arr, c, cell, k, -, -, -, -, -, -, -, h8, h9, h10, h11, h12, h13⟩ := h
  have e : (Term.arg 0).eval args s none [] s = some (.ref a) := h0
  have h8' : s.vm.findClass "java/lang/String" = some c := h8
  simp only [Cond.before, Cond.holds, Cond.value, e, h8', h9, h10, Option.bind_eq_bind, Option.bind_some]
  cases hk : k.kind <;> simp_all
theorem cd_str : Cond.code StrIndexOf.indexOf1N StrIndexOf.indexOf1B 2 (some .int) ∈ gwl := qC 73 rfl
theorem cd_str2 : Cond.code StrIndexOf.indexOf2N StrIndexOf.indexOf2B 3 (some .int) ∈ gwl := qC 74 rfl
theorem cd_isL : Cond.code Str.isLatin1.name String.isLatin1.code 1 (some .boolean) ∈ gwl := qC 75 rfl
theorem cd_len : Cond.code Str.length.name String.length.code 1 (some .int) ∈ gwl := qC 76 rfl
theorem cd_cod : Cond.code String.coder.name String.coder.code 1 (some .byte) ∈ gwl := qC 77 rfl
theorem s1_pre {Γ : GAM} {U : State} {a : Nat} {ch : Int32} (hK : WK Γ U) (hS : STR a U) : StrIndexOf.S1.spec.pre.before #[.ref a, .int ch] U = true := by
  simp only [StrIndexOf.S1.spec, Cond.before_and, Bool.and_eq_true]
  exact ⟨gwU hK cd_str _, rfl, ex_of rfl hS, gwU hK (qM 94 rfl) _, dec_of (gwU hK cd_str2 _) (gwU hK (qI 56 rfl) _), gwU hK (qS 46 rfl) _, gwU hK (qI 56 rfl) _, gwU hK (qD 20 rfl) _⟩
theorem idx_tab {Γ : GAM} {U : State} {args : Array Value} (hK : WK Γ U) : SL1IndexOf.Idx.tab.before args U = true := by
  simp only [SL1IndexOf.Idx.tab, SL1IndexOf.Can.tab, SL1IndexOf.Chr.tab, Cond.before_and, Bool.and_eq_true]
  exact ⟨gwU hK (qC 78 rfl) _, gwU hK (qM 99 rfl) _, gwU hK (qT 21 rfl) _, gwU hK (qC 79 rfl) _, gwU hK (qM 100 rfl) _, gwU hK (qT 6 rfl) _, gwU hK (qC 24 rfl) _, gwU hK (qM 101 rfl) _, gwU hK (qT 10 rfl) _, gwU hK (qC 28 rfl) _, gwU hK (qD 14 rfl) _, gwU hK (qM 102 rfl) _, gwU hK (qT 22 rfl) _, gwU hK (qC 80 rfl) _⟩
theorem s2_pre {Γ : GAM} {U : State} {a : Nat} {ch f : Int32} (hK : WK Γ U) (hS : STR a U) : StrIndexOf.S2.spec.pre.before #[.ref a, .int ch, .int f] U = true := by
  simp only [StrIndexOf.S2.spec, Cond.before_and, Bool.and_eq_true]
  exact ⟨gwU hK cd_str2 _, rfl, ex_of rfl hS, gwU hK (qM 95 rfl) _, dec_of (gwU hK cd_isL _) (gwU hK (qI 57 rfl) _), gwU hK (qS 47 rfl) _, gwU hK (qI 57 rfl) _, gwU hK (qF 283 rfl) _, gwU hK (qM 96 rfl) _, dec_of (gwU hK cd_len _) (gwU hK (qI 58 rfl) _), gwU hK (qS 48 rfl) _, gwU hK (qI 58 rfl) _, gwU hK (qM 98 rfl) _, gwU hK (qT 20 rfl) _, idx_tab hK, gwU hK (qD 21 rfl) _, gwU hK (qD 20 rfl) _⟩
theorem il_pre {Γ : GAM} {U : State} {a : Nat} (hK : WK Γ U) : Cold.isLatin1.spec.pre.before #[.ref a] U = true := by
  simp only [Cold.isLatin1.spec, Cond.before_and, Bool.and_eq_true]
  exact ⟨gwU hK cd_isL _, rfl, gwU hK (qF 152 rfl) _, gwU hK (qF 282 rfl) _⟩
theorem co_pre {Γ : GAM} {U : State} {a : Nat} (hK : WK Γ U) : Cold.coder.spec.pre.before #[.ref a] U = true := by
  simp only [Cold.coder.spec, Cond.before_and, Bool.and_eq_true]
  exact ⟨gwU hK cd_cod _, rfl, gwU hK (qF 152 rfl) _, gwU hK (qF 282 rfl) _⟩
theorem ln_pre {Γ : GAM} {U : State} {a : Nat} (hK : WK Γ U) (hS : STR a U) : Cold.length.spec.pre.before #[.ref a] U = true := by
  simp only [Cold.length.spec, Cond.before_and, Bool.and_eq_true]
  exact ⟨gwU hK cd_len _, rfl, ex_of rfl hS, gwU hK (qF 283 rfl) _, gwU hK (qM 97 rfl) _, dec_of (gwU hK cd_cod _) (gwU hK (qI 59 rfl) _), gwU hK (qS 49 rfl) _, gwU hK (qI 59 rfl) _, gwU hK (qD 20 rfl) _⟩
/-- what indexOf says of a char -/
def IX (c x : Int32) : Prop := ∃ arr : Cell, arr.slots.size = 17 ∧ (∀ i, i < 17 → arr.slots[i]? = some (.int (ltC.getD i 0))) ∧ x = SL1IndexOf.Idx.answer arr c 0 17
theorem mt_StrIx {Γ : GAM} {l : Launch} (ch : Int32) (g : GH) (K : Int32 → GH → Prop) (h : ∀ x, IX ch x → K x g) : MetA Γ l StrIndexOf.indexOf1N StrIndexOf.indexOf1B 2 (some .int) 4 160 [.ref (Γ.2.1 98), .int ch] g (fun r g' => ∃ x, r = some (.int x) ∧ K x g') := by
  unfold MetA Met MetFree
  intro p e ha hc hk s m args below hf happ hP _
  obtain ⟨rfl, hR, hK⟩ := hP
  obtain ⟨hS, hst⟩ := hK.2.2.2.2.str hR
  obtain ⟨d, arr, c, cell, k, h1, h2, h3, h4, h5, h6, h7, hrest⟩ := id hS
  have hint : ∀ i, i < arr.slots.size → arr.slots[i]? = some (.int (StringLatin1.equals.intAt arr i)) := fun i hi => by
    have := h7 i (by omega)
    unfold StringLatin1.equals.intAt
    rw [this]
  have happ' : StrIndexOf.S1.spec.appliesLoose StrIndexOf.indexOf1N e.platform s = true := by
    rw [Spec.appliesLoose_iff hf] at happ ⊢
    obtain ⟨a1, a2, a3, a4, a5, a6, a7, a8⟩ := happ
    refine ⟨a1, a2, a3, a4, a5, a6, ?_, s1_pre hK hS⟩
    simp only [State.hasRoom, Bool.and_eq_true, decide_eq_true_eq] at a7 ⊢
    obtain ⟨⟨⟨⟨b1, b2⟩, b3⟩, b4⟩, b5⟩ := a7
    exact ⟨⟨⟨⟨b1, b2⟩, Nat.le_trans (Nat.add_le_add_left (Nat.zero_le _) _) b3⟩, Nat.le_trans (Nat.add_le_add_left (Nat.zero_le _) _) b4⟩, b5⟩
  have hcd : Cold.coder.P (Γ.2.1 98) 1 #[.ref (Γ.2.1 98)] s := ⟨rfl, hst, by decide, by rw [Cold.coder.coderOf, ev_field (a := Γ.2.1 98) rfl]; exact h1⟩
  have hPP : StrIndexOf.S1.P (Γ.2.1 98) d ch 1 arr #[.ref (Γ.2.1 98), .int ch] s := by
    refine ⟨rfl, s2_pre hK hS, rfl, ?_, il_pre hK, ⟨rfl, hst, by decide, ?_⟩, ln_pre hK hS, ⟨rfl, ?_, h3, h4, co_pre hK, hcd⟩, h5, by omega, hint⟩
    · rw [StrIndexOf.S2.valueOf, ev_field (a := Γ.2.1 98) rfl]; exact h2
    · rw [Cold.isLatin1.coderOf, ev_field (a := Γ.2.1 98) rfl]; exact h1
    · rw [Cold.length.valueOf, ev_field (a := Γ.2.1 98) rfl]; exact h2
  obtain ⟨n, o, k1, k2, k3, ⟨⟨v, hv⟩, hW, hsb⟩, ho⟩ := StrIndexOf.S1.met l (Γ.2.1 98) d ch 1 arr p e ha hc hk s m _ below hf happ' hPP trivial
  have hheap := State.sameBut_nil.mp hsb
  refine ⟨n, o, k1, k2, k3, ⟨some (.int _), g, ho, ⟨_, rfl, h _ ⟨arr, h6, h7, by rw [h6]; rfl⟩⟩, ?_⟩, [], ⟨⟨v, hv⟩, hW, hsb.sameButNew _ _⟩, fun q hq => by cases hq⟩
  have e1 : (Jvm.stepsAlone p.tables e n s).heap = s.heap := by
    have := congrArg State.heap hheap
    exact this
  rw [e1]; exact hR
section
variable {Γ : GAM} {E : EV} {cc : ByteArray} {nL : Nat} {own : String} {ret : Option FieldType} {fr lo : Nat} {K : Option Value → GH → Prop} {pc : Nat} {L : List (Option Value)} {S : List Value} {g : GH}
theorem ldcSW {p : Program} {l : Launch} {e : Env} {R : Room} {s : State} {m : MethodId} {args : Array Value} {below : List Frame} {meth : Method} {c : Code} {T : State} {locs : List Loc} {cells slots : Nat}
    (X : Stand p l e R s m args below meth c T locs cells slots) (hexec : p.tables.exec = Jvm.exec) {index i a : Nat} {k : Class} {cf : ClassFile} (hk : T.vm.classes[m.cls]? = some k) (hcf : k.cf = some cf) (hcp : cf.constantPool[index]? = some (.string i)) (hr : k.resolved[index]? = some (some (.string a))) {g : JFrame} (hg : g.method = m) (hdg : decode c.code g.pc = .ok (.ldc_w index, 3)) :
    ∀ target, Steps p.tables e below (T.setTop { g with pc := g.pc + 3, stack := .ref a :: g.stack }) target → Steps p.tables e below (T.setTop g) target := by
  intro target hrest
  subst hg
  jvm_step X.here [hexec, hdg, ldc_w.wp_string (e := e) (s := T) (f := g) X.here.top hk hcf hcp hr]
  exact hrest
/-- the text of the letters -/
theorem j_ldcwS (hE : GE Γ E cc nL "PostVotes" ret fr lo K) (hd : decode cc pc = .ok (.ldc_w 361, 3)) (h : JW Γ E (pc + 3) L (.ref (Γ.2.1 98) :: S) g) : JW Γ E pc L S g := by
  obtain ⟨p, l, e, R, s, m, args, below, meth, c, Q⟩ := E
  obtain ⟨hx, hb, hml, ho, hts, hret, hlk, hK, -, hQ⟩ := hE
  intro H locs k n ls a1 a2 a3
  obtain ⟨s0, b0, w1, w2, w3, w4, w5, w6, w7, -⟩ := hK.2.2.2.2
  intro T hT X
  obtain ⟨t2, b1, b2⟩ := h H locs k n ls a1 a2 a3 T hT X
  obtain ⟨c0, hc0⟩ : ∃ c0, s0.vm.findClass "PostVotes" = some c0 := by
    cases hc0 : s0.vm.findClass "PostVotes" with
    | some c0 => exact ⟨c0, rfl⟩
    | none =>
      have := (w1.alike.findClass "PostVotes" none).trans hc0
      rw [ho] at this; cases this
  obtain ⟨k0, cf, i, a', q1, q2, q3, q4, q5, q6⟩ := Cond.stringRef_spec hc0 (w4 _ (List.mem_append_right _ xt_sr))
  cases w7.symm.trans q6
  have hcm : m.cls = c0 := Option.some.inj (ho.symm.trans ((w1.alike.findClass "PostVotes" none).trans hc0))
  obtain ⟨k', hk', he⟩ := (State.WarmedH.trans w1 X.warmed).alike.2.2 _ _ q1
  have hr' : k'.resolved[361]? = some (some (.string (Γ.2.1 98))) := by
    rcases (State.WarmedH.trans w1 X.warmed).entry q1 hk' 361 with z | ⟨z, -⟩
    · rw [z]; exact q5
    · rw [q5] at z; cases z
  refine ⟨t2, ?_, b2⟩
  rw [← hcm] at hk'
  exact ldcSW X hx hk' (by rw [he]; exact q2) q3 hr' (g := F0 m pc ls S) rfl (by show decode c.code pc = _; rw [hb]; exact hd) t2 b1
/-- String.indexOf on it -/
theorem j_ixof (hE : GE Γ E cc nL own ret fr lo K) (hnL : L.length = nL) {idx : Nat} (hl : Cond.methodLink own idx StrIndexOf.indexOf1N ∈ gwl) {c : Int32} (hfr : 5 ≤ fr) (hlo : 181 ≤ lo) (hrest : (S.map fun v => v.category).sum ≤ 8) (hd : decode cc pc = .ok (.invokevirtual idx, 3)) (h : ∀ x, IX c x → JW Γ E (pc + 3) L (.int x :: S) g) : JW Γ E pc L (.int c :: .ref (Γ.2.1 98) :: S) g := by
  obtain ⟨p, l, e, R, s, m, args, below, meth, cd, Q⟩ := E
  obtain ⟨hx, hb, hml, ho, hts, hret, hlk, hK, ⟨hfr', hlo', hcs, hB, u0, hu0, hs0⟩, hQ⟩ := hE
  intro H locs k' n' ls a1 a2 a3
  have r := a1
  obtain ⟨⟨r1, r2, r3, r4, r5⟩, -⟩ := r
  refine W_tight fun t1 t2 => ?_
  have hrm := room_of r1 r3 r4 r5 t1 t2 hcs hu0 hs0
  obtain ⟨cell, kc, q1, q2, q3⟩ : ∃ (cell : Cell) (kc : ClassId), H[Γ.2.1 98]? = some cell ∧ cell.vm.isStatics = false ∧ s.vm.findClass "java/lang/String" = some cell.cls := by
    obtain ⟨s0, b, w1, w2, w3, w4, w5, w6, w7, -⟩ := hK.2.2.2.2
    obtain ⟨d, arr, c', cell, k, -, -, -, -, -, -, -, h8, h9, h10, h11, h12, h13⟩ := str_s0 w3 w7
    have hlt : Γ.2.1 98 < gB Γ := by
      have := (Array.getElem?_eq_some_iff.mp h9).1
      rw [w2] at this; exact this
    refine ⟨cell, c', by rw [a1.2.1 _ hlt, ← w2]; exact h9, h11, ?_⟩
    rw [h12]; exact (w1.alike.findClass "java/lang/String" none).trans h8
  have hrun := va_runV (g := F0 m pc ls (.int c :: .ref (Γ.2.1 98) :: S)) (H := H) (locs := locs) (cells := H.size - s.heap.size) (slots := ssum H - ssum s.heap) (below := below) (meth := meth) (e := e) (R := R) (As := [.int c]) (rest := S) ⟨hx, hb, hml, ho, hts⟩ (mt_StrIx (Γ := Γ) (l := l) c g (fun x g' => IX c x ∧ g' = g) (fun x hx => ⟨hx, rfl⟩)) (cw := ⟨callB_of 1 hts (gwl_in cd_str) rfl rfl rfl (hts _ (qD 20 rfl)) (hts _ hl) ⟨by decide +kernel, by decide +kernel, by decide +kernel⟩ ⟨by rw [hfr']; exact hfr, by rw [hlo']; exact hlo⟩, hts _ (qI 55 rfl), hts _ (qS 45 rfl)⟩)
    ⟨blind_of, ⟨cell, q1, q2, q3⟩, fun U hU hW => ⟨rfl, by rw [hU]; exact a1, WK.warm hW hK⟩⟩ rfl rfl (by show ls.size = nL; rw [a3.1, hnL]) rfl (lv_room hrest) hd hrm
  exact call_go hrun a2 a3 (fun r g' hr => by
    obtain ⟨x, rfl, hx, rfl⟩ := hr
    exact h x hx)
end
theorem n26 {c : Int32} (h1 : 97 ≤ c) (h2 : c ≤ 122) : ∃ n, c = nI n ∧ 97 ≤ n ∧ n < 123 := by
  have hn := nj_of (Int32.le_trans (by decide) h1)
  rw [hn.1] at h1 h2
  have a1 := (nj_le (a := 97) (by omega) hn.2).mp h1
  have a2 := (nj_le (b := 122) hn.2 (by omega)).mp h2
  exact ⟨_, hn.1, a1, by omega⟩
theorem lt26 : ∀ n, n < 123 → (nI n).toInt8.toInt32 = nI n := by decide +kernel
theorem lt_ok {c : Int32} : (ltC.any (fun x => decide (x = c)) = true) ↔ okLt c := by
  unfold ltC okLt
  simp only [List.any_cons, List.any_nil, Bool.or_eq_true, decide_eq_true_eq, Bool.false_eq_true, or_false, @eq_comm _ _ c]
theorem lt_any {c : Int32} : (ltC.any (fun x => decide (x = c)) = true) ↔ ∃ k, k < 17 ∧ ltC.getD k 0 = c := by
  rw [List.any_eq_true]
  constructor
  · rintro ⟨x, hx, he⟩
    obtain ⟨k, hk⟩ := List.mem_iff_getElem?.mp hx
    refine ⟨k, (List.getElem?_eq_some_iff.mp hk).1, ?_⟩
    rw [List.getD_eq_getElem?_getD, hk]
    exact of_decide_eq_true he
  · rintro ⟨k, hk, he⟩
    obtain ⟨x, hx⟩ := get_lt (show k < ltC.length from hk)
    refine ⟨x, List.mem_of_getElem? hx, ?_⟩
    rw [List.getD_eq_getElem?_getD, hx] at he
    exact decide_eq_true he
theorem ix_neg {c x : Int32} (h : IX c x) (h1 : 97 ≤ c) (h2 : c ≤ 122) : x < 0 ↔ ¬ okLt c := by
  obtain ⟨arr, ha, hb, rfl⟩ := h
  obtain ⟨n, rfl, hn1, hn2⟩ := n26 h1 h2
  have e1 := lt26 n hn2
  have e2 := (lt_any (c := nI n)).symm.trans lt_ok
  have hi : ∀ i, i < 17 → StringLatin1.equals.intAt arr i = ltC.getD i 0 := fun i hi => by
    unfold StringLatin1.equals.intAt
    rw [hb i hi]
  have hcan : SL1IndexOf.Can.can (nI n) = 1 := by
    unfold SL1IndexOf.Can.can
    rw [if_pos ⟨nj_nneg (by omega), (nj_le (b := 255) (by omega) (by omega)).mpr (by omega)⟩]
  have hlo : SL1IndexOf.Idx.lo 0 = 0 := by decide
  have hhi : SL1IndexOf.Idx.hi arr 17 = 17 := by
    unfold SL1IndexOf.Idx.hi
    rw [ha]; decide
  unfold SL1IndexOf.Idx.answer
  rw [hcan, if_neg (by decide), hlo, hhi, if_pos (by decide), e1, ← e2, show (0 : Int32).toNatClampNeg = 0 by decide, show (17 : Int32).toNatClampNeg - 0 = 17 by decide]
  rcases SL1IndexOf.Chr.firstIdx_spec (StringLatin1.equals.intAt arr) (nI n) 17 0 with ⟨q1, q2⟩ | ⟨k, q1, q2, q3, q4, -⟩
  · rw [q1]
    refine ⟨fun _ ⟨k, hk, he⟩ => q2 k (Nat.zero_le _) (by omega) ((hi k hk).trans he), fun _ => by decide⟩
  · rw [q3]
    refine ⟨fun z => absurd z (Int32.not_lt.mpr (nj_nneg (k := k) (by omega))), fun z => absurd ⟨k, by omega, (hi k (by omega)).symm.trans q4⟩ z⟩
def Sp_PV_isLetter (_ : GAM) (c : Int32) (g : GH) (K : Int32 → GH → Prop) : Prop := K (if okLt c then 1 else 0) g
-- the walk of PV_isLetter
set_option maxRecDepth 100000 in
def B_PV_isLetter_27 (Γ : GAM) (K : Int32 → GH → Prop) (s0 : Int32) (g : GH) : Prop :=
  ((s0 = 0 ∨ s0 = 1) ∧ K s0 g)
set_option maxHeartbeats 4000000 in
set_option maxRecDepth 100000 in
theorem S_PV_isLetter_27 {Γ : GAM} {E : EV} {K : Int32 → GH → Prop} (hE : GE Γ E cX10_isLetter 1 RX10 (some (.boolean)) 5 181 (fun r g' => ∃ x, r = some (.int x) ∧ K x g')) (s0 : Int32) (g : GH) (h : B_PV_isLetter_27 Γ K s0 g) : JW Γ E 27 [none] [.int s0] g := by
  unfold B_PV_isLetter_27 at h
  exact j_zret hE h.1 (by decide +kernel : decode cX10_isLetter 27 = .ok (.ireturn, 1)) ⟨_, rfl, h.2⟩
set_option maxRecDepth 100000 in
def B_PV_isLetter_26 (Γ : GAM) (K : Int32 → GH → Prop)  (g : GH) : Prop :=
  B_PV_isLetter_27 Γ K (0 : Int32) g
set_option maxHeartbeats 4000000 in
set_option maxRecDepth 100000 in
theorem S_PV_isLetter_26 {Γ : GAM} {E : EV} {K : Int32 → GH → Prop} (hE : GE Γ E cX10_isLetter 1 RX10 (some (.boolean)) 5 181 (fun r g' => ∃ x, r = some (.int x) ∧ K x g'))  (g : GH) (h : B_PV_isLetter_26 Γ K  g) : JW Γ E 26 [none] [] g := by
  unfold B_PV_isLetter_26 at h
  refine j_iconst hE (by decide +kernel : decode cX10_isLetter 26 = .ok (.iconst 0, 1)) (v := (0 : Int32)) (by decide) ?_
  exact S_PV_isLetter_27 hE _ _ h
set_option maxRecDepth 100000 in
def B_PV_isLetter_0 (Γ : GAM) (K : Int32 → GH → Prop) (p0 : Int32) (g : GH) : Prop :=
  Sp_PV_isWithin Γ p0 (97 : Int32) (122 : Int32) g (fun (x2 : Int32) (g1 : GH) => ((x2 = 0 → B_PV_isLetter_26 Γ K g1) ∧ (¬ (x2 = 0) → ∀ x3 : Int32, IX ((p0.toUInt32 % 65536).toInt32) x3 → ((x3 < 0 → B_PV_isLetter_26 Γ K g1) ∧ (¬ (x3 < 0) → B_PV_isLetter_27 Γ K (1 : Int32) g1)))))
set_option maxHeartbeats 4000000 in
set_option maxRecDepth 100000 in
theorem S_PV_isLetter_0 {Γ : GAM} {E : EV} {K : Int32 → GH → Prop} (hE : GE Γ E cX10_isLetter 1 RX10 (some (.boolean)) 5 181 (fun r g' => ∃ x, r = some (.int x) ∧ K x g')) (p0 : Int32) (g : GH) (h : B_PV_isLetter_0 Γ K p0 g) : JW Γ E 0 [some (.int p0)] [] g := by
  unfold B_PV_isLetter_0 at h
  refine j_iload_n hE (by decide +kernel : decode cX10_isLetter 0 = .ok (.iload_n 0, 1)) rfl rfl ?_
  refine j_bipush hE (by decide +kernel : decode cX10_isLetter 1 = .ok (.bipush 97, 2)) (v := (97 : Int32)) (by decide) ?_
  refine j_bipush hE (by decide +kernel : decode cX10_isLetter 3 = .ok (.bipush 122, 2)) (v := (122 : Int32)) (by decide) ?_
  refine j_callS hE rfl cl_X10_64 st_X10_isWithin ⟨by omega, by omega⟩ (As := [.int p0, .int (97 : Int32), .int (122 : Int32)]) (rest := []) rfl rfl (Nat.le_of_ble_eq_true rfl) (by decide +kernel : decode cX10_isLetter 5 = .ok (.invokestatic 64, 3)) (mt_PV_isWithin _ _ _ _ _ h) ?_
  rintro _ g1 ⟨x2, rfl, h⟩
  refine j_if_eq hE (by decide +kernel : decode cX10_isLetter 8 = .ok (.ifCond .eq 18, 3)) (tgt := 26) (by decide) (fun q => ?_) (fun q => ?_)
  · replace h := h.1 q
    refine j_weak [none] trivial ?_
    exact S_PV_isLetter_26 hE _ h
  · replace h := h.2 q
    refine j_ldcwS hE (by decide +kernel : decode cX10_isLetter 11 = .ok (.ldc_w 361, 3)) ?_
    refine j_iload_n hE (by decide +kernel : decode cX10_isLetter 14 = .ok (.iload_n 0, 1)) rfl rfl ?_
    refine j_i2c hE (by decide +kernel : decode cX10_isLetter 15 = .ok (.i2c, 1)) ?_
    refine j_ixof hE rfl (qM 93 rfl) (by omega) (by omega) (Nat.le_of_ble_eq_true rfl) (by decide +kernel : decode cX10_isLetter 16 = .ok (.invokevirtual 363, 3)) (fun x3 hx => ?_); replace h := h x3 hx
    refine j_if_lt hE (by decide +kernel : decode cX10_isLetter 19 = .ok (.ifCond .lt 7, 3)) (tgt := 26) (by decide) (fun q => ?_) (fun q => ?_)
    · replace h := h.1 q
      refine j_weak [none] trivial ?_
      exact S_PV_isLetter_26 hE _ h
    · replace h := h.2 q
      refine j_iconst hE (by decide +kernel : decode cX10_isLetter 22 = .ok (.iconst 1, 1)) (v := (1 : Int32)) (by decide) ?_
      refine j_goto hE (by decide +kernel : decode cX10_isLetter 23 = .ok (.goto 4, 3)) (tgt := 27) (by decide) ?_
      refine j_weak [none] trivial ?_
      exact S_PV_isLetter_27 hE _ _ h
set_option maxHeartbeats 4000000 in
set_option maxRecDepth 100000 in
theorem rl_PV_isLetter {Γ : GAM} {l : Launch} {p0 : Int32} {g : GH} {K : Int32 → GH → Prop} (h0 : B_PV_isLetter_0 Γ K p0 g) : MetA Γ l yX10_isLetter cX10_isLetter 1 (some (.boolean)) 5 181 [.int p0] g (fun r g' => ∃ x, r = some (.int x) ∧ K x g') := by
  refine MetA.introL (Lx := [some (.int p0)]) (by decide) (Nat.le_of_ble_eq_true rfl) rfl rfl ?_
  intro E hEl hE hnm
  exact S_PV_isLetter_0 hE p0 g h0
theorem mt_PV_isLetter {Γ : GAM} {l : Launch} (p0 : Int32) (g : GH) (K : Int32 → GH → Prop) (h : Sp_PV_isLetter Γ p0 g K) : MetA Γ l yX10_isLetter cX10_isLetter 1 (some (.boolean)) 5 181 [.int p0] g (fun r g' => ∃ x, r = some (.int x) ∧ K x g') := by
  have hK : K (if okLt p0 then 1 else 0) g := h
  refine rl_PV_isLetter ?_
  unfold B_PV_isLetter_0 B_PV_isLetter_26 B_PV_isLetter_27 Sp_PV_isWithin
  have hno : ¬ (97 ≤ p0 ∧ p0 ≤ 122) → ¬ okLt p0 := fun z q => z (by rcases q with rfl | rfl | rfl | rfl | rfl | rfl | rfl | rfl | rfl | rfl | rfl | rfl | rfl | rfl | rfl | rfl | rfl <;> decide)
  refine ⟨fun u => ?_, fun u => fun x hx => ?_⟩
  · have hn : ¬ (97 ≤ p0 ∧ p0 ≤ 122) := fun z => by rw [if_pos z] at u; exact absurd u (by decide)
    rw [if_neg (hno hn)] at hK
    exact ⟨.inl rfl, hK⟩
  · have hin : 97 ≤ p0 ∧ p0 ≤ 122 := Classical.byContradiction (fun z => u (if_neg z))
    have hch : (p0.toUInt32 % 65536).toInt32 = p0 := by
      obtain ⟨n, rfl, hn1, hn2⟩ := n26 hin.1 hin.2
      exact (by decide +kernel : ∀ n, n < 123 → 97 ≤ n → ((nI n).toUInt32 % 65536).toInt32 = nI n) n hn2 hn1
    rw [hch] at hx
    have hi := ix_neg hx hin.1 hin.2
    refine ⟨fun z => ?_, fun z => ?_⟩
    · rw [if_neg (hi.mp z)] at hK
      exact ⟨.inl rfl, hK⟩
    · rw [if_pos (Classical.byContradiction (fun w => z (hi.mpr w)))] at hK
      exact ⟨.inr rfl, hK⟩
