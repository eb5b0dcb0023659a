/-! the world: which concrete heaps a ghost heap speaks of; the judgement JW at a place of a method's body -/
theorem gg_fl : gc_fieldLink.all goodWord = true := by decide +kernel
theorem gg_ml : gc_methodLink.all goodWord = true := by decide +kernel
theorem gg_code : gc_code.all goodWord = true := by decide +kernel
theorem gg_im : gc_instanceMethod.all goodWord = true := by decide +kernel
theorem gg_lays : gc_lays.all goodWord = true := by decide +kernel
theorem gg_laysF : gc_laysFinal.all goodWord = true := by decide +kernel
theorem gg_static : gc_static.all goodWord = true := by decide +kernel
theorem gg_initd : gc_initialized.all goodWord = true := by decide +kernel
theorem gg_cl : gc_classLink.all goodWord = true := by decide +kernel
theorem gg_inst : gc_instantiable.all goodWord = true := by decide +kernel
theorem gg_const : gc_constant.all goodWord = true := by decide +kernel
theorem gg_constL : gc_constantLong.all goodWord = true := by decide +kernel
theorem gg_ac : gc_arrayClass.all goodWord = true := by decide +kernel
theorem gg_super : gc_superclass.all goodWord = true := by decide +kernel
def gwl : List Cond := lw_tbl.filter goodWord
theorem gw_of {w : Cond} {gp : Cond → Bool} {gc : List Cond} (he : tables_1.filter gp = gc) (hg : gc.all goodWord = true) (h : w ∈ gc) : w ∈ gwl := by
  have h1 := List.all_eq_true.mp hg w h
  rw [← he] at h
  exact List.mem_filter.mpr ⟨List.mem_append_right _ (List.mem_filter.mp h).1, h1⟩
theorem gwl_good : ∀ w ∈ gwl, (w.onTables && w.keeps) = true ∨ ∃ ty, w = .arrayClass ty := fun w h => good_of_word (List.mem_filter.mp h).2
theorem gwl_in {y : MethodName} {b : ByteArray} {n : Nat} {r : Option FieldType} (h : Cond.code y b n r ∈ gwl) : GoodIn gwl (.code y b n r :: gwl) := by
  intro w hw
  rcases List.mem_cons.mp hw with e | hw
  · subst e; exact ⟨h, gwl_good _ h⟩
  · exact ⟨hw, gwl_good _ hw⟩
/-- the parameters: where classes and fields lie, the classes of arrays by kind, the heap at the start and its slots, the shared empty array -/
abbrev GAM : Type := va_G × (Nat → ClassId) × Heap × Nat
def ssum (H : Heap) : Nat := H.foldl (fun n c => n + c.slots.size) 0
def gB (Γ : GAM) : Nat := Γ.2.2.1.size
def gS (Γ : GAM) : Nat := ssum Γ.2.2.1
def NCC : Nat := room_1.cells
def NSS : Nat := room_1.slots
def nF (ci : Nat) : Nat := match vwCl[ci]? with
  | some (_, _, n) => n
  | none => 0
def rfF (ci k : Nat) : Bool := match vwCl[ci]? with
  | some (_, T, _) => !((T k).2.2.1 == "I" || (T k).2.2.1 == "Z")
  | none => false
def VF (g : GH) (ci a k : Nat) : Value := if rfF ci k then va_rf (Gr g (ci * 128 + k) a) else .int (Gi g (ci * 128 + k) a)
def acell (Γ : GAM) (g : GH) (a : Nat) : Option Cell := if a < gB Γ then Γ.2.2.1[a]? else match Kd g a with
  | 20 => some (arrV (Γ.2.1 20) (Ln g a) (fun j => .int (Ia g (Co g a) (Ow g a) j)))
  | 21 => some (arrV (Γ.2.1 21) (Ln g a) (fun j => .int (Ia g (Co g a) (Ow g a) j)))
  | 22 => some (arrV (Γ.2.1 22) (Ln g a) (fun j => va_rf (Ra g (Co g a) (Ow g a) j)))
  | 23 => some (arrV (Γ.2.1 23) (Ln g a) (fun j => .long (La g a j)))
  | _ => none
def Rep (Γ : GAM) (g : GH) (H : Heap) : Prop :=
  (Hn g = H.size ∧ gB Γ ≤ Hn g ∧ Hn g ≤ gB Γ + NCC ∧ Hu g ≤ NSS ∧ ssum H = gS Γ + Hu g) ∧ (∀ q, q < gB Γ → H[q]? = Γ.2.2.1[q]?) ∧
  (∀ a, Kd g a ≠ 0 → a < Hn g ∧ (gB Γ ≤ a ∨ (Kd g a = 22 ∧ Ln g a = 0 ∧ a = Γ.2.2.2))) ∧
  (∀ a ci, Kd g a = ci + 1 → ci < 13 → t_OB a (Γ.1.1 ci) (nF ci) (Γ.1.2 ci) H (VF g ci a)) ∧
  (∀ a, 20 ≤ Kd g a → Kd g a < 24 → H[a]? = acell Γ g a) ∧
  (∀ a b, 20 ≤ Kd g a → 20 ≤ Kd g b → Co g a = Co g b → Ow g a = Ow g b → a = b) ∧
  (∀ a, Hn g ≤ a → (∀ f, Gi g f a = 0) ∧ (∀ f, Gr g f a = none)) ∧ (∀ a, 20 ≤ Kd g a → Ow g a < Hn g)
abbrev gTys (Γ : GAM) : List (ClassId × FieldType) := [(Γ.2.1 20, .int), (Γ.2.1 21, .boolean), (Γ.2.1 22, .object "java/lang/Object"), (Γ.2.1 23, .long)]
/-- what the start says of what nobody writes: the statics, the text constants, the class objects; and where the shared empty array lies -/
def WX (Γ : GAM) (U : State) : Prop := ∃ (s0 : State) (b : Nat), s0.WarmedH U.vm ∧ s0.heap = Γ.2.2.1 ∧ (Jvm.Cond.and given_1 narrow_1).before #[Value.ref b] s0 = true ∧ (∀ w ∈ lw_tbl, w.before #[Value.ref b] s0 = true) ∧ (Term.static "java/util/ArrayList" "DEFAULTCAPACITY_EMPTY_ELEMENTDATA" "[Ljava/lang/Object;").eval #[Value.ref b] s0 none [] s0 = some (.ref Γ.2.2.2) ∧ va_Mi "[Ljava/lang/Object;" (Γ.2.1 99) s0 ∧ (Term.string "PostVotes" 361).eval #[Value.ref b] s0 none [] s0 = some (.ref (Γ.2.1 98)) ∧ (Term.string "PostVotes" 213).eval #[Value.ref b] s0 none [] s0 = some (.ref (Γ.2.1 97)) ∧ ∃ c, Γ.2.2.1[Γ.2.2.2]? = some c ∧ c.slots.size = 0 ∧ (∀ k, c.vm ≠ .statics k) ∧ c.cls = Γ.2.1 22
def WK (Γ : GAM) (U : State) : Prop := va_K Γ.1 vwCl (gTys Γ) U ∧ (∀ w ∈ gc_methodLinkNest, va_Nw w U) ∧ (∀ w ∈ gwl, w.before #[] U = true) ∧ (∀ w ∈ gc_castable, va_Nw w U) ∧ WX Γ U
/-- the locals: what is known of each -/
def lvl : List (Option Value) → Nat → List (Nat × Value)
  | [], _ => []
  | none :: L, i => lvl L (i + 1)
  | some v :: L, i => (i, v) :: lvl L (i + 1)
def lhas (ls : Array Slot) (L : List (Option Value)) : Prop := lv_has ls L.length (lvl L 0)
theorem lvl_mem : ∀ (L : List (Option Value)) (i k : Nat) (v : Value), (k, v) ∈ lvl L i ↔ ∃ j, k = i + j ∧ L[j]? = some (some v)
  | [], i, k, v => by simp [lvl]
  | o :: L, i, k, v => by
    have ih := lvl_mem L (i + 1) k v
    cases o with
    | none =>
      simp only [lvl, ih]
      constructor
      · rintro ⟨j, rfl, h⟩
        exact ⟨j + 1, by omega, by simpa using h⟩
      · rintro ⟨j, rfl, h⟩
        cases j with
        | zero => simp at h
        | succ j => exact ⟨j, by omega, by simpa using h⟩
    | some w =>
      simp only [lvl, List.mem_cons, ih, Prod.mk.injEq]
      constructor
      · rintro (⟨rfl, rfl⟩ | ⟨j, rfl, h⟩)
        · exact ⟨0, by omega, by simp⟩
        · exact ⟨j + 1, by omega, by simpa using h⟩
      · rintro ⟨j, rfl, h⟩
        cases j with
        | zero => simp at h; exact Or.inl ⟨by omega, h.symm⟩
        | succ j => exact Or.inr ⟨j, by omega, by simpa using h⟩
theorem lhas_at {ls : Array Slot} {L : List (Option Value)} (h : lhas ls L) {k : Nat} {v : Value} (hk : L[k]? = some (some v)) : ls[k]? = some (.val v) :=
  h.2.2 (k, v) ((lvl_mem L 0 k v).mpr ⟨k, by omega, hk⟩)
/-- the local ahead is no long -/
def nl2 : Option (Option Value) → Bool
  | some (some (.long _)) => false
  | some (some (.double _)) => false
  | _ => true
theorem nl2_rf (r : Option Nat) : nl2 (some (some (va_rf r))) = true := by cases r <;> rfl
theorem nl2_cat {v : Value} (h : nl2 (some (some v)) = true) : v.category = 1 := by cases v <;> first | rfl | (simp [nl2] at h)
theorem lhas_st {ls : Array Slot} {L : List (Option Value)} (h : lhas ls L) {k : Nat} {v : Value} (hk : k < L.length) (hv : v.category = 1) (hn : ∀ j, k = j + 1 → nl2 L[j]? = true) :
    ∃ ls', storeLocals ls k v = some ls' ∧ lhas ls' (L.set k (some v)) := by
  obtain ⟨ls', e, h'⟩ := lv_store1 (v := v) h hk hv
  refine ⟨ls', e, ?_⟩
  refine ⟨by rw [List.length_set]; exact h'.1, h'.2.1, fun q hq => h'.2.2 q ?_⟩
  obtain ⟨j, e1, e2⟩ := (lvl_mem _ 0 q.1 q.2).mp hq
  rw [Nat.zero_add] at e1
  by_cases hj : j = k
  · subst hj
    rw [List.getElem?_set_self hk] at e2
    have : q.2 = v := (Option.some.inj (Option.some.inj e2)).symm
    exact List.mem_cons.mpr (Or.inl (Prod.ext e1 this))
  · rw [List.getElem?_set_ne (Ne.symm hj)] at e2
    refine List.mem_cons.mpr (Or.inr (List.mem_filter.mpr ⟨(lvl_mem _ 0 q.1 q.2).mpr ⟨j, by omega, e2⟩, ?_⟩))
    have h1 : (q.1 == k) = false := by simp; omega
    by_cases h2 : q.1 + 1 = k
    · have h3 := hn j (by omega)
      rw [e2] at h3
      have h4 := nl2_cat h3
      simp [h1, h4]
    · simp [h1, h2]
theorem lhas_st2 {ls : Array Slot} {L : List (Option Value)} (h : lhas ls L) {k : Nat} {v : Value} (hk : k + 1 < L.length) (hv : v.category = 2) (hn : ∀ j, k = j + 1 → nl2 L[j]? = true) :
    ∃ ls', storeLocals ls k v = some ls' ∧ lhas ls' ((L.set k (some v)).set (k + 1) none) := by
  obtain ⟨ls', e, h'⟩ := lv_store2 (v := v) h hk hv
  refine ⟨ls', e, ?_⟩
  refine ⟨by rw [List.length_set, List.length_set]; exact h'.1, h'.2.1, fun q hq => h'.2.2 q ?_⟩
  obtain ⟨j, e1, e2⟩ := (lvl_mem _ 0 q.1 q.2).mp hq
  rw [Nat.zero_add] at e1
  by_cases hj1 : j = k + 1
  · subst hj1
    rw [List.getElem?_set_self (by rw [List.length_set]; exact hk)] at e2
    cases e2
  rw [List.getElem?_set_ne (Ne.symm hj1)] at e2
  by_cases hj : j = k
  · subst hj
    rw [List.getElem?_set_self (by omega)] at e2
    have : q.2 = v := (Option.some.inj (Option.some.inj e2)).symm
    exact List.mem_cons.mpr (Or.inl (Prod.ext e1 this))
  · rw [List.getElem?_set_ne (Ne.symm hj)] at e2
    refine List.mem_cons.mpr (Or.inr (List.mem_filter.mpr ⟨(lvl_mem _ 0 q.1 q.2).mpr ⟨j, by omega, e2⟩, ?_⟩))
    have h1 : (q.1 == k) = false := by simp; omega
    have h0 : (q.1 == k + 1) = false := by simp; omega
    by_cases h2 : q.1 + 1 = k
    · have h3 := hn j (by omega)
      rw [e2] at h3
      have h4 := nl2_cat h3
      simp [h1, h0, h4]
    · simp [h1, h0, h2]
/-- fewer known locals -/
theorem lhas_weak {ls : Array Slot} {L L' : List (Option Value)} (h : lhas ls L) (hl : L'.length = L.length) (hw : ∀ (j : Nat) (v : Value), L'[j]? = some (some v) → L[j]? = some (some v)) : lhas ls L' := by
  refine ⟨by rw [hl]; exact h.1, h.2.1, fun q hq => ?_⟩
  obtain ⟨j, e1, e2⟩ := (lvl_mem _ 0 q.1 q.2).mp hq
  rw [Nat.zero_add] at e1
  rw [e1]
  exact lhas_at h (hw j q.2 e2)
abbrev EV : Type := Program × Launch × Env × Room × State × MethodId × Array Value × List Frame × Method × Code × (State → Prop)
def WE (E : EV) (H : Heap) (locs : List Loc) (k n : Nat) (g : JFrame) : Prop :=
  match E with
  | (p, l, e, R, s, m, args, below, meth, c, Q) => W p l e R s m args below meth c H locs k n Q g
def eM (E : EV) : MethodId := E.2.2.2.2.2.1
def JW (Γ : GAM) (E : EV) (pc : Nat) (L : List (Option Value)) (S : List Value) (g : GH) : Prop :=
  ∀ (H : Heap) (locs : List Loc) (k n : Nat) (ls : Array Slot), Rep Γ g H → (∀ q ∈ locs, gB Γ ≤ q.base) → lhas ls L → WE E H locs k n (F0 (eM E) pc ls S)
def QcK (Γ : GAM) (K : Option Value → GH → Prop) : Array Value → State → Outcome → State → Prop := fun _ _ o t => ∃ (r : Option Value) (g' : GH), o = .returned r ∧ K r g' ∧ Rep Γ g' t.heap
/-- what is given in a method's body -/
def GE (Γ : GAM) (E : EV) (cc : ByteArray) (nL : Nat) (own : String) (ret : Option FieldType) (fr lo : Nat) (K : Option Value → GH → Prop) : Prop :=
  match E with
  | (p, l, e, R, s, m, args, below, meth, c, Q) =>
    p.tables.exec = Jvm.exec ∧ c.code = cc ∧ c.maxLocals = nL ∧ s.vm.findClass own = some m.cls ∧ (∀ w ∈ gwl, w.before args s = true) ∧ meth.sig.returnType = ret ∧ meth.locks = false ∧ WK Γ s ∧
    (R.frames = fr ∧ R.locals = lo ∧ R.cells + s.heap.size = gB Γ + NCC ∧ gB Γ ≤ s.heap.size ∧ ∃ u0, R.slots + u0 = NSS ∧ ssum s.heap = gS Γ + u0) ∧
    ∀ t, MQ below (QcK Γ K) args s R.cells R.slots (fun q => gB Γ ≤ q) t → Q t
