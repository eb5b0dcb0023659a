/-! calls -/
theorem gg_sel : gc_selects.all goodWord = true := by decide +kernel
theorem gg_sf : gc_sameField.all goodWord = true := by decide +kernel
theorem gg_sm : gc_sameMethod.all goodWord = true := by decide +kernel
theorem nest_form : ∀ w ∈ gc_methodLinkNest, ∃ (a : String) (i : Nat) (x : MethodName) (h : String), w = .methodLinkNest a i x h := by
  intro w hw
  rw [← ge_methodLinkNest] at hw
  have h := (List.mem_filter.mp hw).2
  cases w <;> first | (simp [gp_methodLinkNest] at h; done) | exact ⟨_, _, _, _, rfl⟩
theorem cast_form : ∀ w ∈ gc_castable, ∃ (a b : String), w = .castable a b := by
  intro w hw
  rw [← ge_castable] at hw
  have h := (List.mem_filter.mp hw).2
  cases w <;> first | (simp [gp_castable] at h; done) | exact ⟨_, _, rfl⟩
theorem WK.warm {Γ : GAM} {s U : State} (hW : s.WarmedH U.vm) (h : WK Γ s) : WK Γ U := by
  refine ⟨va_K.moved hW.alike h.1, fun w hw => ?_, fun w hw => word_at hW (gwl_good w hw) (h.2.2.1 w hw), fun w hw => ?_, ?_⟩
  · obtain ⟨a, i, x, ho, rfl⟩ := nest_form w hw
    exact va_Nw.warmM hW (h.2.1 _ hw)
  · obtain ⟨a, b, rfl⟩ := cast_form w hw
    exact va_Nw.warmC hW (h.2.2.2.1 _ hw)
  · obtain ⟨s0, b, h1, h2⟩ := h.2.2.2.2
    exact ⟨s0, b, State.WarmedH.trans h1 hW, h2⟩
/-- a static call's, a virtual call's and a constructor's words -/
def CLs (own : String) (idx : Nat) (y : MethodName) (bytes : ByteArray) (maxL : Nat) (ret : Option FieldType) (n : Nat) : Prop :=
  Cond.code y bytes maxL ret ∈ gwl ∧ Cond.initialized y.cls ∈ gwl ∧ Cond.methodLink own idx y ∈ gwl ∧ (y.cls ≠ "java/lang/invoke/MethodHandle" ∧ y.cls ≠ "java/lang/invoke/VarHandle" ∧ (parseMethodDescriptor y.desc).map (fun d => d.parameters.length) = some n)
def CLn (own : String) (idx : Nat) (y : MethodName) (bytes : ByteArray) (maxL : Nat) (ret : Option FieldType) (n : Nat) : Prop :=
  Cond.code y bytes maxL ret ∈ gwl ∧ Cond.initialized y.cls ∈ gwl ∧ (∃ host, Cond.methodLinkNest own idx y host ∈ gc_methodLinkNest) ∧ (y.cls ≠ "java/lang/invoke/MethodHandle" ∧ y.cls ≠ "java/lang/invoke/VarHandle" ∧ (parseMethodDescriptor y.desc).map (fun d => d.parameters.length) = some n)
section
variable {Γ : GAM} {E : EV} {cc : ByteArray} {nL : Nat} {own : String} {ret : Option FieldType} {fr lo : Nat} {K : Option Value → GH → Prop} {pc : Nat} {L : List (Option Value)} {S : List Value} {g : GH}
theorem blind_of {av : List Value} : FrameBlind (va_Pc av (fun U => Rep Γ g U.heap ∧ WK Γ U)) := by
  intro a U g' mk hq
  obtain ⟨q0, q1, q2⟩ := hq
  exact ⟨q0, q1, WK.warm (s := U) (U := U.calling g' mk a) (State.WarmedH.refl U) q2⟩
theorem call_go {p : Program} {l : Launch} {e : Env} {R : Room} {s : State} {m : MethodId} {args : Array Value} {below : List Frame} {meth : Method} {c : Code} {Q : State → Prop} {H : Heap} {locs : List Loc} {k n mc ms : Nat} {ls : Array Slot} {st0 rest : List Value} {K' : Option Value → GH → Prop} {a : Array Value}
    (hr : va_Run p l e R s m args below meth c H locs k n mc ms (F0 m pc ls st0) rest (QcK Γ K' a) (fun q => gB Γ ≤ q)) (a2 : ∀ q ∈ locs, gB Γ ≤ q.base) (a3 : lhas ls L)
    (h : ∀ r g', K' r g' → JW Γ (p, l, e, R, s, m, args, below, meth, c, Q) (pc + 3) L (r.toList ++ rest) g') : W p l e R s m args below meth c H locs k n Q (F0 m pc ls st0) := by
  intro T hT X
  obtain ⟨v, st₀, t, T', L', h0, X', hL, e1, e2, ⟨r, g', hv, hK', hR'⟩, st⟩ := hr T hT X
  cases hv
  obtain ⟨t2, b1, b2⟩ := h v g' hK' T'.heap (locs ++ L') (k + mc) (n + ms) ls (by rw [e1]; exact hR') (fun q hq => by
    rcases List.mem_append.mp hq with h | h
    · exact a2 q h
    · exact hL q h) a3 T' rfl X'
  exact ⟨t2, st t2 b1, b2⟩
theorem room_of {R : Room} {s : State} {H : Heap} {u0 : Nat} (r1 : Hn g = H.size) (r3 : Hn g ≤ gB Γ + NCC) (r4 : Hu g ≤ NSS) (r5 : ssum H = gS Γ + Hu g) (t1 : s.heap.size ≤ H.size) (t2 : ssum s.heap ≤ ssum H) (hcs : R.cells + s.heap.size = gB Γ + NCC) (hu0 : R.slots + u0 = NSS) (hs0 : ssum s.heap = gS Γ + u0) :
    (H.size - s.heap.size) + (gB Γ + NCC - Hn g) ≤ R.cells ∧ (ssum H - ssum s.heap) + (NSS - Hu g) ≤ R.slots := by
  constructor <;> omega
theorem j_callV (hE : GE Γ E cc nL own ret fr lo K) (hnL : L.length = nL) {idx : Nat} {y : MethodName} {bytes : ByteArray} {maxL n : Nat} {ret' : Option FieldType} (hcl : CLs own idx y bytes maxL ret' n) {ci N : Nat} {T : u_T} {ty : Nat → FieldType} (hC : CFx ci y.cls T N ty) (hin : Cond.instanceMethod y ∈ gwl) (hsel : Cond.selects y.cls y y ∈ gwl) {fr' lo' : Nat} (hfl : fr' + 1 ≤ fr ∧ 8 + (maxL + 11) + lo' ≤ lo) {As rest : List Value} {b : Nat} (hS : S = As.reverse ++ .ref b :: rest) (hn : As.length = n) (hrest : (rest.map fun v => v.category).sum ≤ 8) (hk : Kd g b = ci + 1) (hd : decode cc pc = .ok (.invokevirtual idx, 3))
    {K' : Option Value → GH → Prop} (hM : MetA Γ E.2.1 y bytes maxL ret' fr' lo' (.ref b :: As) g K') (h : ∀ r g', K' r g' → JW Γ E (pc + 3) L (r.toList ++ rest) g') : JW Γ E pc L S g := by
  obtain ⟨p, l, e, R, s, m, args, below, meth, c, Q⟩ := E
  obtain ⟨hx, hb, hml, ho, hts, hret, hlk, hK, ⟨hfr, hlo, hcs, hB, u0, hu0, hs0⟩, hQ⟩ := hE
  obtain ⟨w1, w2, w3, w4⟩ := hcl
  intro H locs k' n' ls a1 a2 a3
  have r := a1
  obtain ⟨⟨r1, r2, r3, r4, r5⟩, -⟩ := r
  obtain ⟨-, -, cell, q1, q2, q3, -⟩ := a1.obj hk hC.2.2.2.2.2.2.1
  refine W_tight fun t1 t2 => ?_
  have hrm := room_of r1 r3 r4 r5 t1 t2 hcs hu0 hs0
  have hrun := va_runV (g := F0 m pc ls S) (H := H) (locs := locs) (cells := H.size - s.heap.size) (slots := ssum H - ssum s.heap) (below := below) (meth := meth) (e := e) (R := R) ⟨hx, hb, hml, ho, hts⟩ hM (cw := ⟨callB_of n hts (gwl_in w1) rfl rfl rfl (hts _ w2) (hts _ w3) w4 ⟨by rw [hfr]; exact hfl.1, by rw [hlo]; exact hfl.2⟩, hts _ hin, hts _ hsel⟩)
    ⟨blind_of, ⟨cell, q1, by rw [q3]; rfl, by rw [q2]; exact (hK.1.1 ci _ hC.1).2.1⟩, fun U hU hW => ⟨rfl, by rw [hU]; exact a1, WK.warm hW hK⟩⟩ rfl hn (by show ls.size = nL; rw [a3.1, hnL]) hS (lv_room hrest) hd hrm
  exact call_go hrun a2 a3 h
theorem j_callS (hE : GE Γ E cc nL own ret fr lo K) (hnL : L.length = nL) {idx : Nat} {y : MethodName} {bytes : ByteArray} {maxL n : Nat} {ret' : Option FieldType} (hcl : CLs own idx y bytes maxL ret' n) (hst : Cond.static y ∈ gwl) {fr' lo' : Nat} (hfl : fr' + 1 ≤ fr ∧ 8 + (maxL + 11) + lo' ≤ lo) {As rest : List Value} (hS : S = As.reverse ++ rest) (hn : As.length = n) (hrest : (rest.map fun v => v.category).sum ≤ 8) (hd : decode cc pc = .ok (.invokestatic idx, 3))
    {K' : Option Value → GH → Prop} (hM : MetA Γ E.2.1 y bytes maxL ret' fr' lo' As g K') (h : ∀ r g', K' r g' → JW Γ E (pc + 3) L (r.toList ++ rest) g') : JW Γ E pc L S g := by
  obtain ⟨p, l, e, R, s, m, args, below, meth, c, Q⟩ := E
  obtain ⟨hx, hb, hml, ho, hts, hret, hlk, hK, ⟨hfr, hlo, hcs, hB, u0, hu0, hs0⟩, hQ⟩ := hE
  obtain ⟨w1, w2, w3, w4⟩ := hcl
  intro H locs k' n' ls a1 a2 a3
  have r := a1
  obtain ⟨⟨r1, r2, r3, r4, r5⟩, -⟩ := r
  refine W_tight fun t1 t2 => ?_
  have hrm := room_of r1 r3 r4 r5 t1 t2 hcs hu0 hs0
  have hrun := va_runS (g := F0 m pc ls S) (H := H) (locs := locs) (cells := H.size - s.heap.size) (slots := ssum H - ssum s.heap) (below := below) (meth := meth) (e := e) (R := R) ⟨hx, hb, hml, ho, hts⟩ hM (cw := ⟨callB_of n hts (gwl_in w1) rfl rfl rfl (hts _ w2) (hts _ w3) w4 ⟨by rw [hfr]; exact hfl.1, by rw [hlo]; exact hfl.2⟩, hts _ hst⟩)
    ⟨blind_of, fun U hU hW => ⟨rfl, by rw [hU]; exact a1, WK.warm hW hK⟩⟩ rfl hn (by show ls.size = nL; rw [a3.1, hnL]) hS (lv_room hrest) hd hrm
  exact call_go hrun a2 a3 h
theorem j_callI (hE : GE Γ E cc nL own ret fr lo K) (hnL : L.length = nL) {idx : Nat} {y : MethodName} {bytes : ByteArray} {maxL n : Nat} (hcl : CLs own idx y bytes maxL none n) (hin : Cond.instanceMethod y ∈ gwl) (hyi : y.name = "<init>") {fr' lo' : Nat} (hfl : fr' + 1 ≤ fr ∧ 8 + (maxL + 11) + lo' ≤ lo) {As rest : List Value} {b : Nat} (hS : S = As.reverse ++ .ref b :: rest) (hn : As.length = n) (hrest : (rest.map fun v => v.category).sum ≤ 8) (hd : decode cc pc = .ok (.invokespecial idx, 3))
    {K' : Option Value → GH → Prop} (hM : MetA Γ E.2.1 y bytes maxL none fr' lo' (.ref b :: As) g K') (h : ∀ r g', K' r g' → JW Γ E (pc + 3) L (r.toList ++ rest) g') : JW Γ E pc L S g := by
  obtain ⟨p, l, e, R, s, m, args, below, meth, c, Q⟩ := E
  obtain ⟨hx, hb, hml, ho, hts, hret, hlk, hK, ⟨hfr, hlo, hcs, hB, u0, hu0, hs0⟩, hQ⟩ := hE
  obtain ⟨w1, w2, w3, w4⟩ := hcl
  intro H locs k' n' ls a1 a2 a3
  have r := a1
  obtain ⟨⟨r1, r2, r3, r4, r5⟩, -⟩ := r
  refine W_tight fun t1 t2 => ?_
  have hrm := room_of r1 r3 r4 r5 t1 t2 hcs hu0 hs0
  have hrun := va_runI (g := F0 m pc ls S) (H := H) (locs := locs) (cells := H.size - s.heap.size) (slots := ssum H - ssum s.heap) (below := below) (meth := meth) (e := e) (R := R) ⟨hx, hb, hml, ho, hts⟩ hM (cw := ⟨callB_of n hts (gwl_in w1) rfl rfl rfl (hts _ w2) (hts _ w3) w4 ⟨by rw [hfr]; exact hfl.1, by rw [hlo]; exact hfl.2⟩, hyi, hts _ hin⟩)
    ⟨blind_of, fun U hU hW => ⟨rfl, by rw [hU]; exact a1, WK.warm hW hK⟩⟩ rfl hn (by show ls.size = nL; rw [a3.1, hnL]) hS (lv_room hrest) hd hrm
  exact call_go hrun a2 a3 h
theorem j_callIN (hE : GE Γ E cc nL own ret fr lo K) (hnL : L.length = nL) {idx : Nat} {y : MethodName} {bytes : ByteArray} {maxL n : Nat} (hcl : CLn own idx y bytes maxL none n) (hin : Cond.instanceMethod y ∈ gwl) (hyi : y.name = "<init>") {fr' lo' : Nat} (hfl : fr' + 1 ≤ fr ∧ 8 + (maxL + 11) + lo' ≤ lo) {As rest : List Value} {b : Nat} (hS : S = As.reverse ++ .ref b :: rest) (hn : As.length = n) (hrest : (rest.map fun v => v.category).sum ≤ 8) (hd : decode cc pc = .ok (.invokespecial idx, 3))
    {K' : Option Value → GH → Prop} (hM : MetA Γ E.2.1 y bytes maxL none fr' lo' (.ref b :: As) g K') (h : ∀ r g', K' r g' → JW Γ E (pc + 3) L (r.toList ++ rest) g') : JW Γ E pc L S g := by
  obtain ⟨p, l, e, R, s, m, args, below, meth, c, Q⟩ := E
  obtain ⟨hx, hb, hml, ho, hts, hret, hlk, hK, ⟨hfr, hlo, hcs, hB, u0, hu0, hs0⟩, hQ⟩ := hE
  obtain ⟨w1, w2, ⟨host, w3⟩, w4⟩ := hcl
  intro H locs k' n' ls a1 a2 a3
  have r := a1
  obtain ⟨⟨r1, r2, r3, r4, r5⟩, -⟩ := r
  refine W_tight fun t1 t2 => ?_
  have hrm := room_of r1 r3 r4 r5 t1 t2 hcs hu0 hs0
  have hrun := va_runIN (g := F0 m pc ls S) (H := H) (locs := locs) (cells := H.size - s.heap.size) (slots := ssum H - ssum s.heap) (below := below) (meth := meth) (e := e) (R := R) ⟨hx, hb, hml, ho, hts⟩ hM (cw := ⟨va_cnB n hts (gwl_in w1) rfl rfl rfl (hK.2.1 _ w3) (hts _ w2) w4 ⟨by rw [hfr]; exact hfl.1, by rw [hlo]; exact hfl.2⟩, hyi, hts _ hin⟩)
    ⟨blind_of, fun U hU hW => ⟨rfl, by rw [hU]; exact a1, WK.warm hW hK⟩⟩ rfl hn (by show ls.size = nL; rw [a3.1, hnL]) hS (lv_room hrest) hd hrm
  exact call_go hrun a2 a3 h
theorem j_callSN (hE : GE Γ E cc nL own ret fr lo K) (hnL : L.length = nL) {idx : Nat} {y : MethodName} {bytes : ByteArray} {maxL n : Nat} {ret' : Option FieldType} (hcl : CLn own idx y bytes maxL ret' n) (hst : Cond.static y ∈ gwl) {fr' lo' : Nat} (hfl : fr' + 1 ≤ fr ∧ 8 + (maxL + 11) + lo' ≤ lo) {As rest : List Value} (hS : S = As.reverse ++ rest) (hn : As.length = n) (hrest : (rest.map fun v => v.category).sum ≤ 8) (hd : decode cc pc = .ok (.invokestatic idx, 3))
    {K' : Option Value → GH → Prop} (hM : MetA Γ E.2.1 y bytes maxL ret' fr' lo' As g K') (h : ∀ r g', K' r g' → JW Γ E (pc + 3) L (r.toList ++ rest) g') : JW Γ E pc L S g := by
  obtain ⟨p, l, e, R, s, m, args, below, meth, c, Q⟩ := E
  obtain ⟨hx, hb, hml, ho, hts, hret, hlk, hK, ⟨hfr, hlo, hcs, hB, u0, hu0, hs0⟩, hQ⟩ := hE
  obtain ⟨w1, w2, ⟨host, w3⟩, w4⟩ := hcl
  intro H locs k' n' ls a1 a2 a3
  have r := a1
  obtain ⟨⟨r1, r2, r3, r4, r5⟩, -⟩ := r
  refine W_tight fun t1 t2 => ?_
  have hrm := room_of r1 r3 r4 r5 t1 t2 hcs hu0 hs0
  have hrun := va_runSN (g := F0 m pc ls S) (H := H) (locs := locs) (cells := H.size - s.heap.size) (slots := ssum H - ssum s.heap) (below := below) (meth := meth) (e := e) (R := R) ⟨hx, hb, hml, ho, hts⟩ hM (cw := ⟨va_cnB n hts (gwl_in w1) rfl rfl rfl (hK.2.1 _ w3) (hts _ w2) w4 ⟨by rw [hfr]; exact hfl.1, by rw [hlo]; exact hfl.2⟩, hts _ hst, trivial⟩)
    ⟨blind_of, fun U hU hW => ⟨rfl, by rw [hU]; exact a1, WK.warm hW hK⟩⟩ rfl hn (by show ls.size = nL; rw [a3.1, hnL]) hS (lv_room hrest) hd hrm
  exact call_go hrun a2 a3 h
end
/-! fewer known locals; references that are there; casts -/
def lle : List (Option Value) → List (Option Value) → Prop
  | [], [] => True
  | none :: a, _ :: b => lle a b
  | some v :: a, some w :: b => v = w ∧ lle a b
  | _, _ => False
theorem lle_ok : ∀ (a b : List (Option Value)), lle a b → a.length = b.length ∧ ∀ (j : Nat) (v : Value), a[j]? = some (some v) → b[j]? = some (some v)
  | [], [], _ => ⟨rfl, fun j v h => by simp at h⟩
  | [], _ :: _, h => by simp [lle] at h
  | none :: a, [], h => by simp [lle] at h
  | some v :: a, [], h => by simp [lle] at h
  | none :: a, o :: b, h => by
    have ih := lle_ok a b (by cases o <;> simpa [lle] using h)
    refine ⟨by simp [ih.1], fun j w hj => ?_⟩
    cases j with
    | zero => simp at hj
    | succ j => simpa using ih.2 j w (by simpa using hj)
  | some v :: a, none :: b, h => by simp [lle] at h
  | some v :: a, some w :: b, h => by
    have h1 : v = w ∧ lle a b := by simpa [lle] using h
    have ih := lle_ok a b h1.2
    refine ⟨by simp [ih.1], fun j u hj => ?_⟩
    cases j with
    | zero => rw [h1.1] at hj; simpa using hj
    | succ j => simpa using ih.2 j u (by simpa using hj)
theorem j_weak {Γ : GAM} {E : EV} {pc : Nat} {L : List (Option Value)} {S : List Value} {g : GH} (L' : List (Option Value)) (hl : lle L' L) (h : JW Γ E pc L' S g) : JW Γ E pc L S g :=
  fun H locs k n ls a1 a2 a3 => h H locs k n ls a1 a2 (lhas_weak a3 (lle_ok _ _ hl).1 (lle_ok _ _ hl).2)
section
variable {Γ : GAM} {E : EV} {cc : ByteArray} {nL : Nat} {own : String} {ret : Option FieldType} {fr lo : Nat} {K : Option Value → GH → Prop} {pc : Nat} {L : List (Option Value)} {S : List Value} {g : GH}
theorem j_getRn (hE : GE Γ E cc nL own ret fr lo K) {idx ci k a b : Nat} (hF : FGx own idx ci k true) (hk : Kd g a = ci + 1) (hb : Gr g (ci * 128 + k) a = some b) (hd : decode cc pc = .ok (.getfield idx, 3)) (h : JW Γ E (pc + 3) L (.ref b :: S) g) : JW Γ E pc L (.ref a :: S) g := by
  refine j_getR hE hF hk hd ?_
  rw [hb]
  exact h
theorem j_cast (hE : GE Γ E cc nL own ret fr lo K) {idx ci N a : Nat} {C : String} {T : u_T} {ty : Nat → FieldType} (hC : CFx ci C T N ty) (hl : Cond.classLink own idx C ∈ gwl) (hk : Kd g a = ci + 1) (hd : decode cc pc = .ok (.checkcast idx, 3)) (h : JW Γ E (pc + 3) L (.ref a :: S) g) : JW Γ E pc L (.ref a :: S) g := by
  obtain ⟨p, l, e, R, s, m, args, below, meth, c, Q⟩ := E
  obtain ⟨hx, hb, hml, ho, hts, hret, hlk, hK, -, hQ⟩ := hE
  intro H locs k' n' ls a1 a2 a3
  obtain ⟨-, -, cell, q1, q2, q3, -⟩ := a1.obj hk hC.2.2.2.2.2.2.1
  exact va_castS hx hb ho (hts _ hl) (hK.1.1 ci _ hC.1).2 ⟨cell, q1, by rw [q3]; rfl, by rw [q2]; exact (hK.1.1 ci _ hC.1).2.1⟩ hd (h H locs k' n' ls a1 a2 a3)
/-- the words of System.arraycopy -/
def CPx (own : String) (idx : Nat) : Prop := Cond.methodLink own idx arraycopyName ∈ gwl ∧ Cond.native arraycopyName ∈ gwl ∧ Cond.static arraycopyName ∈ gwl ∧ Cond.initialized "java/lang/System" ∈ gwl
theorem nn32 {z : Int32} (hz : 0 ≤ z) : z.toInt = (z.toNatClampNeg : Int) := by
  have hz0 : (0 : Int) ≤ z.toInt := by simpa using Int32.le_iff_toInt_le.mp hz
  show z.toInt = ((z.toInt.toNat : Nat) : Int)
  omega
theorem j_copyi (hE : GE Γ E cc nL own ret fr lo K) (hnL : L.length = nL) {idx : Nat} (hw : CPx own idx) {a0 a : Nat} {sp dp n : Int32} (hk0 : Kd g a0 = 20) (hk : Kd g a = 20) (h1 : 0 ≤ sp) (h2 : 0 ≤ dp) (h3 : 0 ≤ n) (h4 : sp.toNatClampNeg + n.toNatClampNeg ≤ Ln g a0) (h5 : dp.toNatClampNeg + n.toNatClampNeg ≤ Ln g a) (hln : 0 < Ln g a) (hrest : (S.map fun v => v.category).sum ≤ 8) (hfr1 : 1 ≤ fr) (hlo1 : 40 ≤ lo) (hd : decode cc pc = .ok (.invokestatic idx, 3))
    (h : JW Γ E (pc + 3) L S (sAf g (Co g a) (Ow g a) (va_cpy (Ia g (Co g a0) (Ow g a0)) (Ia g (Co g a) (Ow g a)) sp.toNatClampNeg dp.toNatClampNeg n.toNatClampNeg))) : JW Γ E pc L (.int n :: .int dp :: .ref a :: .int sp :: .ref a0 :: S) g := by
  obtain ⟨p, l, e, R, s, m, args, below, meth, c, Q⟩ := E
  obtain ⟨hx, hb, hml, ho, hts, hret, hlk, hK, ⟨hfr, hlo, -⟩, hQ⟩ := hE
  obtain ⟨w1, w2, w3, w4⟩ := hw
  intro H locs k' n' ls a1 a2 a3
  have hA0 := (a1.arr (a := a0) (by omega) (by omega)).2.2
  obtain ⟨-, hB, hA⟩ := a1.arr (a := a) (by omega) (by omega)
  rw [acell20 (a1.arrB (by omega) (by omega)) hk0] at hA0
  rw [acell20 (hB hln) hk] at hA
  intro T hT X
  obtain ⟨-, k0, hk0', cm0, hkk0⟩ := (hK.1.2 0 _ rfl).1 (Ln g a0) (fun j => .int (Ia g (Co g a0) (Ow g a0) j))
  obtain ⟨-, k1, hk1, cm1, hkk1⟩ := (hK.1.2 0 _ rfl).1 (Ln g a) (fun j => .int (Ia g (Co g a) (Ow g a) j))
  obtain ⟨vm', X', step⟩ := X.arraycopy hx ho (hts _ w1) (hts _ w2) (hts _ w3) (hts _ w4) (src := a0) (dst := a) (srcPos := sp) (destPos := dp) (n := n) (by rw [hT]; exact hA0) (by rw [hT]; exact hA)
    (fun _ h => by cases h) (fun _ h => by cases h) (fun h => by cases h) (fun h => by cases h) hk0' hk1 hkk0 hkk1 (by simp [refKind]) (Int32.not_lt.mpr h1) (Int32.not_lt.mpr h2) (Int32.not_lt.mpr h3)
    (by rw [nn32 h1, nn32 h3, arrV_size]; omega)
    (by rw [nn32 h2, nn32 h3, arrV_size]; omega)
    (fun vm₁ _ i hi => by
      have e : (arrV (Γ.2.1 20) (Ln g a0) (fun j => .int (Ia g (Co g a0) (Ow g a0) j))).slots.getD (sp.toNatClampNeg + i) .null = .int (Ia g (Co g a0) (Ow g a0) (sp.toNatClampNeg + i)) := by
        rw [Array.getD_eq_getD_getElem?, arrV_read _ _ (by omega)]
        rfl
      rw [e]
      exact ⟨rfl, trivial⟩)
    (g := F0 m pc ls (.int n :: .int dp :: .ref a :: .int sp :: .ref a0 :: S)) rfl (by show ls.size = _; rw [a3.1, hnL, hml]) (rest := S) rfl (by rw [hb]; exact hd) (by rw [hfr]; exact hfr1) (by
      have hz : nativeFrameWords "java/lang/System" "arraycopy" 5 + 11 ≤ 32 := by decide +kernel
      show 2 * 0 + _ + _ ≤ R.locals
      omega)
  have e1 : copied (arrV (Γ.2.1 20) (Ln g a0) (fun j => .int (Ia g (Co g a0) (Ow g a0) j))) (arrV (Γ.2.1 20) (Ln g a) (fun j => .int (Ia g (Co g a) (Ow g a) j))) sp dp n = arrV (Γ.2.1 20) (Ln g a) (fun j => .int (va_cpy (Ia g (Co g a0) (Ow g a0)) (Ia g (Co g a) (Ow g a)) sp.toNatClampNeg dp.toNatClampNeg n.toNatClampNeg j)) := va_copied (fun z => .int z) _ _ _ _ h4
  rw [e1] at X' step
  have hl : a < H.size := (Array.getElem?_eq_some_iff.mp hA).1
  have e2 : (H.setIfInBounds a (arrV (Γ.2.1 20) (Ln g a) (fun j => .int (va_cpy (Ia g (Co g a0) (Ow g a0)) (Ia g (Co g a) (Ow g a)) sp.toNatClampNeg dp.toNatClampNeg n.toNatClampNeg j))))[a]? = some (arrV (Γ.2.1 20) (Ln g a) (fun j => .int (va_cpy (Ia g (Co g a0) (Ow g a0)) (Ia g (Co g a) (Ow g a)) sp.toNatClampNeg dp.toNatClampNeg n.toNatClampNeg j))) := by simp [Array.getElem?_setIfInBounds, hl]
  obtain ⟨t, b1, b2⟩ := h _ _ _ _ ls (a1.aw (a := a) (by omega) (by omega) hln hA e2 (by rw [arrV_size, arrV_size]) (by simp) (fun q hq => by simp [Array.getElem?_setIfInBounds, Ne.symm hq]) rfl rfl rfl rfl rfl rfl rfl rfl (fun co ow hne => by rw [Ia_sAf, if_neg hne]) (fun _ _ _ => rfl) (fun _ _ => rfl) (by rw [e2, acell20 (hB hln) (by rw [Kd_sAf]; exact hk), Co_sAf, Ow_sAf, Ln_sAf, Ia_sAf, if_pos ⟨rfl, rfl⟩])) (fun q hq => by
      rcases List.mem_append.mp hq with h | h
      · exact a2 q h
      · obtain ⟨z, -, hz⟩ := List.mem_map.mp h
        rw [← hz]
        exact hB hln) a3 _ (by rw [← hT]; rfl) X'
  exact ⟨t, step t b1, b2⟩
theorem j_mmax (hE : GE Γ E cc nL own ret fr lo K) (hnL : L.length = nL) {idx : Nat} (w1 : Cond.methodLink own idx Lib.Math.max.name ∈ gwl) (w2 : Cond.static Lib.Math.max.name ∈ gwl) (w3 : Cond.initialized "java/lang/Math" ∈ gwl) (w4 : Cond.code Lib.Math.max.name Lib.Math.max.code 2 (some .int) ∈ gwl) {x y : Int32} (hrest : (S.map fun v => v.category).sum ≤ 8) (hfr1 : 1 ≤ fr) (hlo1 : 30 ≤ lo) (hd : decode cc pc = .ok (.invokestatic idx, 3)) (h : JW Γ E (pc + 3) L (.int (if x < y then y else x) :: S) g) : JW Γ E pc L (.int y :: .int x :: S) g := by
  obtain ⟨p, l, e, R, s, m, args, below, meth, c, Q⟩ := E
  obtain ⟨hx, hb, hml, ho, hts, hret, hlk, hK, ⟨hfr, hlo, hcs, hB, u0, hu0, hs0⟩, hQ⟩ := hE
  intro H locs k n ls a1 a2 a3
  have r := a1
  obtain ⟨⟨r1, r2, r3, r4, r5⟩, -⟩ := r
  refine W_tight fun t1 t2 => ?_
  exact va_mmax hx hb (by rw [hml, ← hnL]; exact a3.1.symm) ho (hts _ w1) (hts _ w2) (hts _ w3) (hts _ w4) (by rw [hfr]; exact hfr1) (by rw [hlo]; omega) (by omega) (by omega) hd (h H locs _ _ ls a1 a2 a3)
theorem j_mmin (hE : GE Γ E cc nL own ret fr lo K) (hnL : L.length = nL) {idx : Nat} (w1 : Cond.methodLink own idx Lib.Math.min.name ∈ gwl) (w2 : Cond.static Lib.Math.min.name ∈ gwl) (w3 : Cond.initialized "java/lang/Math" ∈ gwl) (w4 : Cond.code Lib.Math.min.name Lib.Math.min.code 2 (some .int) ∈ gwl) {x y : Int32} (hrest : (S.map fun v => v.category).sum ≤ 8) (hfr1 : 1 ≤ fr) (hlo1 : 30 ≤ lo) (hd : decode cc pc = .ok (.invokestatic idx, 3)) (h : JW Γ E (pc + 3) L (.int (if y < x then y else x) :: S) g) : JW Γ E pc L (.int y :: .int x :: S) g := by
  obtain ⟨p, l, e, R, s, m, args, below, meth, c, Q⟩ := E
  obtain ⟨hx, hb, hml, ho, hts, hret, hlk, hK, ⟨hfr, hlo, hcs, hB, u0, hu0, hs0⟩, hQ⟩ := hE
  intro H locs k n ls a1 a2 a3
  have r := a1
  obtain ⟨⟨r1, r2, r3, r4, r5⟩, -⟩ := r
  refine W_tight fun t1 t2 => ?_
  exact va_mmin hx hb (by rw [hml, ← hnL]; exact a3.1.symm) ho (hts _ w1) (hts _ w2) (hts _ w3) (hts _ w4) (by rw [hfr]; exact hfr1) (by rw [hlo]; omega) (by omega) (by omega) hd (h H locs _ _ ls a1 a2 a3)
theorem j_mmax_long (hE : GE Γ E cc nL own ret fr lo K) (hnL : L.length = nL) {idx : Nat} (w1 : Cond.methodLink own idx Lib.MathLoose.max_long.x ∈ gwl) (w2 : Cond.static Lib.MathLoose.max_long.x ∈ gwl) (w3 : Cond.initialized "java/lang/Math" ∈ gwl) (w4 : Cond.code Lib.MathLoose.max_long.x Lib.MathLoose.max_long.code 4 (some .long) ∈ gwl) {x y : Int64} (hrest : (S.map fun v => v.category).sum ≤ 8) (hfr1 : 1 ≤ fr) (hlo1 : 30 ≤ lo) (hd : decode cc pc = .ok (.invokestatic idx, 3)) (h : JW Γ E (pc + 3) L (.long (if y < x then x else y) :: S) g) : JW Γ E pc L (.long y :: .long x :: S) g := by
  obtain ⟨p, l, e, R, s, m, args, below, meth, c, Q⟩ := E
  obtain ⟨hx, hb, hml, ho, hts, hret, hlk, hK, ⟨hfr, hlo, hcs, hB, u0, hu0, hs0⟩, hQ⟩ := hE
  intro H locs k n ls a1 a2 a3
  have r := a1
  obtain ⟨⟨r1, r2, r3, r4, r5⟩, -⟩ := r
  refine W_tight fun t1 t2 => ?_
  exact va_mmax_long hx hb (by rw [hml, ← hnL]; exact a3.1.symm) ho (hts _ w1) (hts _ w2) (hts _ w3) (hts _ w4) (by rw [hfr]; exact hfr1) (by rw [hlo]; omega) (by omega) (by omega) hd (h H locs _ _ ls a1 a2 a3)
theorem j_mmin_long (hE : GE Γ E cc nL own ret fr lo K) (hnL : L.length = nL) {idx : Nat} (w1 : Cond.methodLink own idx Lib.MathLoose.min_long.x ∈ gwl) (w2 : Cond.static Lib.MathLoose.min_long.x ∈ gwl) (w3 : Cond.initialized "java/lang/Math" ∈ gwl) (w4 : Cond.code Lib.MathLoose.min_long.x Lib.MathLoose.min_long.code 4 (some .long) ∈ gwl) {x y : Int64} (hrest : (S.map fun v => v.category).sum ≤ 8) (hfr1 : 1 ≤ fr) (hlo1 : 30 ≤ lo) (hd : decode cc pc = .ok (.invokestatic idx, 3)) (h : JW Γ E (pc + 3) L (.long (if y < x then y else x) :: S) g) : JW Γ E pc L (.long y :: .long x :: S) g := by
  obtain ⟨p, l, e, R, s, m, args, below, meth, c, Q⟩ := E
  obtain ⟨hx, hb, hml, ho, hts, hret, hlk, hK, ⟨hfr, hlo, hcs, hB, u0, hu0, hs0⟩, hQ⟩ := hE
  intro H locs k n ls a1 a2 a3
  have r := a1
  obtain ⟨⟨r1, r2, r3, r4, r5⟩, -⟩ := r
  refine W_tight fun t1 t2 => ?_
  exact va_mmin_long hx hb (by rw [hml, ← hnL]; exact a3.1.symm) ho (hts _ w1) (hts _ w2) (hts _ w3) (hts _ w4) (by rw [hfr]; exact hfr1) (by rw [hlo]; omega) (by omega) (by omega) hd (h H locs _ _ ls a1 a2 a3)
end
theorem MetA.introL {Γ : GAM} {cc : ByteArray} {nL : Nat} {ret : Option FieldType} {fr lo : Nat} {K : Option Value → GH → Prop} {g : GH} {l : Launch} {y : MethodName} {av : List Value} {Lx : List (Option Value)} (hy : plainName y.cls = true) (ha : (lg_sl av).length ≤ nL) (hLx : Lx.length = nL) (hav : lvl Lx 0 = lv_args 0 av) (h : ∀ E : EV, E.2.1 = l → GE Γ E cc nL y.cls ret fr lo K → E.2.2.2.2.2.2.2.2.1.name = y.name → JW Γ E 0 Lx [] g) : MetA Γ l y cc nL ret fr lo av g K := by
  refine Met.ofW (cc := cc) (maxL := nL) (ret := ret) hy rfl ?_
  intro p e s m args below meth c s₁ B hml hv
  obtain ⟨rfl, hR, hK⟩ := hv
  have hts := atoms_spec (ws := .code y cc nL ret :: gwl) B.pre
  have hown : s.vm.findClass y.cls = some m.cls := findClass_of_methodNamed B.named
  have hR1 := hR.1
  have hlen := lv_entry av (n := nL) ha
  rw [lg_entry_eq]
  generalize (lg_sl av ++ List.replicate (nL - (lg_sl av).length) Slot.unset).toArray = ls at hlen ⊢
  have hlh : lhas ls Lx := by
    refine ⟨by rw [hLx]; exact hlen.1, hlen.2.1, fun q hq => hlen.2.2 q ?_⟩
    rw [hav] at hq
    exact hq
  refine h (p, l, e, _, s, m, av.toArray, below, meth, c, _) rfl ⟨B.exec, B.bytes, hml, hown, fun w hw => hts w (List.mem_cons_of_mem _ hw), B.returns, B.notSynchronized, hK, ⟨rfl, rfl, ?_, ?_, Hu g, ?_, ?_⟩, fun _ h => h⟩ (name_of_methodNamed B.named B.method).1 s.heap [] 0 0 ls hR (fun q hq => by cases hq) hlh
  · show gB Γ + NCC - Hn g + s.heap.size = gB Γ + NCC
    rw [← hR1.1]; have := hR1.2.2.1; omega
  · rw [← hR1.1]; exact hR1.2.1
  · show NSS - Hu g + Hu g = NSS
    have := hR1.2.2.2.1; omega
  · exact hR1.2.2.2.2
