/-! the reference: the plan of the press -/
theorem nwS_some {lf : Nat → Int32} {d : Int32} {a : Option (Nat × Wv)} {p : Wv × Nat} (h : nwS lf d a p = none) : a = none ∧ (lf p.2 ≤ 0 ∨ d < p.1.2.1) := by
  unfold nwS at h
  split at h
  · exact ⟨h, .inl ‹_›⟩
  · split at h
    · exact ⟨h, .inr ‹_›⟩
    · cases a with
      | none => simp at h
      | some b => simp only at h; split at h <;> cases h
theorem nw_none {lf : Nat → Int32} {d : Int32} : ∀ (l : List (Wv × Nat)) (a : Option (Nat × Wv)), l.foldl (nwS lf d) a = none → ∀ p ∈ l, lf p.2 ≤ 0 ∨ d < p.1.2.1 := by
  intro l
  induction l with
  | nil => intro _ _ p hp; cases hp
  | cons x t ih =>
    intro a h p hp
    rw [List.foldl_cons] at h
    rcases List.mem_cons.mp hp with rfl | hp
    · have : nwS lf d a p = none := by
        cases hn : nwS lf d a p with
        | none => rfl
        | some b =>
          rw [hn] at h
          exfalso
          have := fold_inv (fun o : Option (Nat × Wv) => o ≠ none) (nwS lf d) t (some b) (by simp) (fun a y _ ha z => ha (nwS_some z).1)
          exact this h
      exact (nwS_some this).2
    · exact ih _ h p hp
theorem sNx_none {s : ST} {lf : Nat → Int32} {d : Int32} (h : sNx s lf d = none) {w : Nat} {x : Wv} (hx : (s_wav s)[w]? = some x) : lf w ≤ 0 ∨ d < x.2.1 :=
  nw_none _ _ h (x, w) (List.mem_of_getElem? (zip_get hx))
theorem sNx_some {s : ST} {lf : Nat → Int32} {d : Int32} {w : Nat} {x : Wv} (h : sNx s lf d = some (w, x)) : ¬ lf w ≤ 0 ∧ ¬ d < x.2.1 := by
  have := fold_inv (fun o : Option (Nat × Wv) => ∀ w x, o = some (w, x) → ¬ lf w ≤ 0 ∧ ¬ d < x.2.1) (nwS lf d) (s_wav s).zipIdx none (fun _ _ z => by cases z) (fun a p _ ha w x hw => by
    unfold nwS at hw
    split at hw
    · exact ha w x hw
    · split at hw
      · exact ha w x hw
      · rename_i h1 h2
        cases a with
        | none => cases hw; exact ⟨h1, h2⟩
        | some b =>
          simp only at hw
          split at hw
          · exact ha w x hw
          · cases hw; exact ⟨h1, h2⟩)
  exact this w x h
theorem nwS_cg {lf lf' : Nat → Int32} {d : Int32} {a : Option (Nat × Wv)} {p : Wv × Nat} (h : lf p.2 = lf' p.2) : nwS lf d a p = nwS lf' d a p := by
  unfold nwS
  rw [h]
theorem foldl_cg {α β : Type} {f f' : β → α → β} : ∀ (l : List α) (a : β), (∀ p ∈ l, ∀ b, f b p = f' b p) → l.foldl f a = l.foldl f' a
  | [], _, _ => rfl
  | x :: l, a, h => by
    rw [List.foldl_cons, List.foldl_cons, h x List.mem_cons_self a]
    exact foldl_cg l _ (fun p hp => h p (List.mem_cons_of_mem _ hp))
theorem zip_lt {α : Type} {l : List α} {p : α × Nat} (hp : p ∈ l.zipIdx) : p.2 < l.length := by
  obtain ⟨i, hi⟩ := List.getElem?_of_mem hp
  rw [List.getElem?_zipIdx] at hi
  obtain ⟨y, hy, hyp⟩ := Option.map_eq_some_iff.mp hi
  have h1 := (List.getElem?_eq_some_iff.mp hy).1
  rw [← hyp]
  show 0 + i < _
  omega
theorem sNx_cg {s : ST} {lf lf' : Nat → Int32} {d : Int32} (h : ∀ i, i < (s_wav s).length → lf i = lf' i) : sNx s lf d = sNx s lf' d :=
  foldl_cg (s_wav s).zipIdx none (fun p hp b => nwS_cg (h p.2 (zip_lt hp)))
abbrev PS : Type := (Nat → Int32) × Int32 × Int32 × (Nat → Int32)
def prS (s : ST) (a : PS) : PS := match sNx s a.1 a.2.1 with
  | none => (a.1, a.2.1 + 1, s_prs s, a.2.2.2)
  | some (w, _) => if a.1 w ≤ a.2.2.1 then (fun i => if i = w then 0 else a.1 i, a.2.1, a.2.2.1 - a.1 w, fun i => if i = w then a.2.1 else a.2.2.2 i) else (fun i => if i = w then a.1 w - a.2.2.1 else a.1 i, a.2.1 + 1, s_prs s, a.2.2.2)
def pr0 (s : ST) : PS := (fun i => ((s_wav s)[i]?.getD default).1, 0, s_prs s, fun _ => 0)
def prI (s : ST) : Nat → PS
  | 0 => pr0 s
  | n + 1 => prS s (prI s n)
def prD (s : ST) (a : PS) : Prop := ∀ i, i < (s_wav s).length → a.1 i ≤ 0
noncomputable def prE (s : ST) (w : Nat) : Int32 := Classical.epsilon (fun v => ∃ k, prD s (prI s k) ∧ (prI s k).2.2.2 w = v)
theorem prS_done {s : ST} {a : PS} (h : prD s a) : prD s (prS s a) ∧ (prS s a).2.2.2 = a.2.2.2 := by
  unfold prS
  cases hn : sNx s a.1 a.2.1 with
  | none => exact ⟨h, rfl⟩
  | some p =>
    obtain ⟨w, x⟩ := p
    exfalso
    exact (sNx_some hn).1 (h w (List.getElem?_eq_some_iff.mp (sNx_get hn)).1)
theorem prI_done {s : ST} {k : Nat} (h : prD s (prI s k)) : ∀ j, prD s (prI s (k + j)) ∧ (prI s (k + j)).2.2.2 = (prI s k).2.2.2 := by
  intro j
  induction j with
  | zero => exact ⟨h, rfl⟩
  | succ j ih =>
    obtain ⟨h1, h2⟩ := prS_done ih.1
    exact ⟨h1, h2.trans ih.2⟩
theorem prE_eq {s : ST} {k : Nat} (h : prD s (prI s k)) (w : Nat) : prE s w = (prI s k).2.2.2 w := by
  have := Classical.epsilon_spec (p := fun v => ∃ k, prD s (prI s k) ∧ (prI s k).2.2.2 w = v) ⟨_, k, h, rfl⟩
  obtain ⟨k0, h0, h1⟩ := this
  have e : prE s w = (prI s k0).2.2.2 w := h1.symm
  rw [e, ← (prI_done h k0).2, ← (prI_done h0 k).2, Nat.add_comm]
/-- all that is left, and how many waves have something left -/
def prT (f : Nat → Int32) : Nat → Nat
  | 0 => 0
  | n + 1 => prT f n + (f n).toNatClampNeg
def prC (f : Nat → Int32) : Nat → Nat
  | 0 => 0
  | n + 1 => prC f n + (if f n ≤ 0 then 0 else 1)
theorem prT_cg {f f' : Nat → Int32} : ∀ {n : Nat}, (∀ i, i < n → f i = f' i) → prT f n = prT f' n := by
  intro n
  induction n with
  | zero => intro _; rfl
  | succ n ih => intro h; show prT f n + _ = prT f' n + _; rw [ih (fun i hi => h i (by omega)), h n (by omega)]
theorem prC_cg {f f' : Nat → Int32} : ∀ {n : Nat}, (∀ i, i < n → f i = f' i) → prC f n = prC f' n := by
  intro n
  induction n with
  | zero => intro _; rfl
  | succ n ih => intro h; show prC f n + _ = prC f' n + _; rw [ih (fun i hi => h i (by omega)), h n (by omega)]
theorem prT_up {f f' : Nat → Int32} {w : Nat} (ho : ∀ i, i ≠ w → f' i = f i) : ∀ {n : Nat}, w < n → prT f' n + (f w).toNatClampNeg = prT f n + (f' w).toNatClampNeg := by
  intro n
  induction n with
  | zero => intro h; omega
  | succ n ih =>
    intro h
    show prT f' n + (f' n).toNatClampNeg + _ = prT f n + (f n).toNatClampNeg + _
    by_cases u : w = n
    · subst u
      rw [prT_cg (n := w) (f := f') (f' := f) (fun i hi => ho i (by omega))]; omega
    · have := ih (by omega)
      rw [ho n (fun z => u z.symm)]; omega
theorem prC_up {f f' : Nat → Int32} {w : Nat} (ho : ∀ i, i ≠ w → f' i = f i) : ∀ {n : Nat}, w < n → prC f' n + (if f w ≤ 0 then 0 else 1) = prC f n + (if f' w ≤ 0 then 0 else 1) := by
  intro n
  induction n with
  | zero => intro h; omega
  | succ n ih =>
    intro h
    show prC f' n + (if f' n ≤ 0 then 0 else 1) + _ = prC f n + (if f n ≤ 0 then 0 else 1) + _
    by_cases u : w = n
    · subst u
      rw [prC_cg (n := w) (f := f') (f' := f) (fun i hi => ho i (by omega))]; omega
    · have := ih (by omega)
      rw [ho n (fun z => u z.symm)]; omega
theorem prC_0 {f : Nat → Int32} : ∀ {n : Nat}, prC f n = 0 ↔ ∀ i, i < n → f i ≤ 0 := by
  intro n
  induction n with
  | zero => simp [prC]
  | succ n ih =>
    show prC f n + _ = 0 ↔ _
    constructor
    · intro h i hi
      have h1 : prC f n = 0 := by omega
      by_cases u : i = n
      · subst u
        refine Classical.byContradiction (fun q => ?_)
        rw [if_neg q] at h; omega
      · exact ih.mp h1 i (by omega)
    · intro h
      have h1 := ih.mpr (fun i hi => h i (by omega))
      rw [h1, if_pos (h n (by omega))]
theorem prC_le {f : Nat → Int32} : ∀ {n : Nat}, prC f n ≤ n := by
  intro n
  induction n with
  | zero => exact Nat.le_refl _
  | succ n ih => show prC f n + _ ≤ _; split <;> omega
theorem prT_le {f : Nat → Int32} : ∀ {n : Nat}, (∀ i, i < n → (f i).toNatClampNeg ≤ 5000) → prT f n ≤ 5000 * n := by
  intro n
  induction n with
  | zero => intro _; exact Nat.le_refl _
  | succ n ih => intro h; show prT f n + _ ≤ _; have := ih (fun i hi => h i (by omega)); have := h n (by omega); omega
theorem nj_sub {a b : Nat} (h : b ≤ a) : nI a - nI b = nI (a - b) := by
  have : nI a = nI (a - b) + nI b := by rw [nI_add, Nat.sub_add_cancel h]
  rw [this]; exact Int32.add_sub_cancel _ _
/-- what the reference's rows hold of a step of the plan -/
def PX (m : Nat) (g : GH) (s : ST) (lf en : Nat → Int32) : Prop := ∀ i, i < (s_wav s).length → Ia g 1613 m i = lf i ∧ (lf i ≤ 0 → Ia g 1614 m i = en i) ∧ ∃ a, a ≤ 5000 ∧ lf i = nI a
theorem PX.T {m : Nat} {g : GH} {s : ST} {lf en : Nat → Int32} (h : PX m g s lf en) : prT lf (s_wav s).length ≤ 5000 * (s_wav s).length := prT_le (fun i hi => by
  obtain ⟨_, _, a, ha, e⟩ := h i hi
  rw [e, nj_cl (by omega)]; exact ha)
def Sp_M_print (Γ : GAM) (m : Nat) (g : GH) (K : GH → Prop) : Prop := ∃ ma s, RefI m ma g s ∧ WF s ∧ ∀ g', FrX m [] [1613, 1614] g g' → (∀ w, w < (s_wav s).length → Ia g' 1614 m w = prE s w) → K g'
-- the walk of M_print
set_option maxRecDepth 100000 in
def B_M_print_122 (Γ : GAM) (K7 : Nat → Int32 → Int32 → GH → Prop) (K35 : Nat → Int32 → Int32 → GH → Prop) (K51 : Nat → Int32 → Int32 → Int32 → Int32 → GH → Prop) (K : GH → Prop) (l0 : Nat) (l1 : Int32) (l2 : Int32) (g : GH) : Prop :=
  K35 l0 l1 (l2 + (1 : Int32)) g
set_option maxHeartbeats 4000000 in
set_option maxRecDepth 100000 in
theorem S_M_print_122 {Γ : GAM} {E : EV} {K : GH → Prop} (hE : GE Γ E cX11_print 6 RX11 none 1 30 (fun r g' => r = none ∧ K g')) {K7 : Nat → Int32 → Int32 → GH → Prop} {K35 : Nat → Int32 → Int32 → GH → Prop} {K51 : Nat → Int32 → Int32 → Int32 → Int32 → GH → Prop} (hK7 : ∀ (l0 : Nat) (l1 : Int32) (l2 : Int32) (g : GH), K7 l0 l1 l2 g → JW Γ E 7 [some (.ref l0), some (.int l1), some (.int l2), none, none, none] [] g) (hK35 : ∀ (l0 : Nat) (l1 : Int32) (l2 : Int32) (g : GH), K35 l0 l1 l2 g → JW Γ E 35 [some (.ref l0), some (.int l1), some (.int l2), none, none, none] [] g) (hK51 : ∀ (l0 : Nat) (l1 : Int32) (l2 : Int32) (l3 : Int32) (l4 : Int32) (g : GH), K51 l0 l1 l2 l3 l4 g → JW Γ E 51 [some (.ref l0), some (.int l1), some (.int l2), some (.int l3), some (.int l4), none] [] g) (l0 : Nat) (l1 : Int32) (l2 : Int32) (g : GH) (h : B_M_print_122 Γ K7 K35 K51 K l0 l1 l2 g) : JW Γ E 122 [some (.ref l0), some (.int l1), some (.int l2), none, none, none] [] g := by
  unfold B_M_print_122 at h
  refine j_iinc hE (by decide +kernel : decode cX11_print 122 = .ok (.iinc 2 1, 3)) (v := (1 : Int32)) (by decide) rfl (Nat.le_of_ble_eq_true rfl) rfl ?_
  refine j_goto hE (by decide +kernel : decode cX11_print 125 = .ok (.goto (-90), 3)) (tgt := 35) (by decide) ?_
  exact hK35 _ _ _ _ h
set_option maxRecDepth 100000 in
def B_M_print_112 (Γ : GAM) (K7 : Nat → Int32 → Int32 → GH → Prop) (K35 : Nat → Int32 → Int32 → GH → Prop) (K51 : Nat → Int32 → Int32 → Int32 → Int32 → GH → Prop) (K : GH → Prop) (l0 : Nat) (l1 : Int32) (l2 : Int32) (l3 : Int32) (g : GH) : Prop :=
  Kd g l0 = 13 ∧ Sp_M_nextWave Γ l0 l2 g (fun (x2 : Int32) (g1 : GH) => K51 l0 l1 l2 l3 x2 g1)
set_option maxHeartbeats 4000000 in
set_option maxRecDepth 100000 in
theorem S_M_print_112 {Γ : GAM} {E : EV} {K : GH → Prop} (hE : GE Γ E cX11_print 6 RX11 none 1 30 (fun r g' => r = none ∧ K g')) {K7 : Nat → Int32 → Int32 → GH → Prop} {K35 : Nat → Int32 → Int32 → GH → Prop} {K51 : Nat → Int32 → Int32 → Int32 → Int32 → GH → Prop} (hK7 : ∀ (l0 : Nat) (l1 : Int32) (l2 : Int32) (g : GH), K7 l0 l1 l2 g → JW Γ E 7 [some (.ref l0), some (.int l1), some (.int l2), none, none, none] [] g) (hK35 : ∀ (l0 : Nat) (l1 : Int32) (l2 : Int32) (g : GH), K35 l0 l1 l2 g → JW Γ E 35 [some (.ref l0), some (.int l1), some (.int l2), none, none, none] [] g) (hK51 : ∀ (l0 : Nat) (l1 : Int32) (l2 : Int32) (l3 : Int32) (l4 : Int32) (g : GH), K51 l0 l1 l2 l3 l4 g → JW Γ E 51 [some (.ref l0), some (.int l1), some (.int l2), some (.int l3), some (.int l4), none] [] g) (l0 : Nat) (l1 : Int32) (l2 : Int32) (l3 : Int32) (g : GH) (h : B_M_print_112 Γ K7 K35 K51 K l0 l1 l2 l3 g) : JW Γ E 112 [some (.ref l0), some (.int l1), some (.int l2), some (.int l3), none, none] [] g := by
  unfold B_M_print_112 at h
  refine j_aload_n hE (by decide +kernel : decode cX11_print 112 = .ok (.aload_n 0, 1)) rfl rfl ?_
  refine j_iload_n hE (by decide +kernel : decode cX11_print 113 = .ok (.iload_n 2, 1)) rfl rfl ?_
  obtain ⟨hk, h⟩ := h
  refine j_callV hE rfl cl_X11_462 cf_12 im_X11_nextWave se_X11_nextWave ⟨by omega, by omega⟩ (As := [.int l2]) (rest := []) rfl rfl (Nat.le_of_ble_eq_true rfl) hk (by decide +kernel : decode cX11_print 114 = .ok (.invokevirtual 462, 3)) (mt_M_nextWave _ _ _ _ h) ?_
  rintro _ g1 ⟨x2, rfl, h⟩
  refine j_istore hE (by decide +kernel : decode cX11_print 117 = .ok (.istore 4, 2)) (Nat.le_of_ble_eq_true rfl) rfl ?_
  refine j_goto hE (by decide +kernel : decode cX11_print 119 = .ok (.goto (-68), 3)) (tgt := 51) (by decide) ?_
  exact hK51 _ _ _ _ _ _ h
set_option maxRecDepth 100000 in
def B_M_print_51 (Γ : GAM) (K7 : Nat → Int32 → Int32 → GH → Prop) (K35 : Nat → Int32 → Int32 → GH → Prop) (K51 : Nat → Int32 → Int32 → Int32 → Int32 → GH → Prop) (K : GH → Prop) (l0 : Nat) (l1 : Int32) (l2 : Int32) (l3 : Int32) (l4 : Int32) (g : GH) : Prop :=
  ((l3 ≤ 0 → B_M_print_122 Γ K7 K35 K51 K l0 l1 l2 g) ∧ (¬ (l3 ≤ 0) → ((l4 = (-1 : Int32) → B_M_print_122 Γ K7 K35 K51 K l0 l1 l2 g) ∧ (¬ (l4 = (-1 : Int32)) → Kd g l0 = 13 ∧ ∃ a1 : Nat, Gr g 1613 l0 = some a1 ∧ Kd g a1 = 20 ∧ inB l4 (Ln g a1) ∧ ∀ x2 : Int32, x2 = (if (Ia g (Co g a1) (Ow g a1) l4.toNatClampNeg) < l3 then (Ia g (Co g a1) (Ow g a1) l4.toNatClampNeg) else l3) → Kd g l0 = 13 ∧ ∃ a3 : Nat, Gr g 1613 l0 = some a3 ∧ Kd g a3 = 20 ∧ inB l4 (Ln g a3) ∧ Kd g a3 = 20 ∧ inB l4 (Ln g a3) ∧ ∀ g4 : GH, g4 = sA g (Co g a3) (Ow g a3) l4.toNatClampNeg ((Ia g (Co g a3) (Ow g a3) l4.toNatClampNeg) - x2) → ∀ x5 : Int32, x5 = (l3 - x2) → Kd g4 l0 = 13 ∧ ∃ a6 : Nat, Gr g4 1613 l0 = some a6 ∧ Kd g4 a6 = 20 ∧ inB l4 (Ln g4 a6) ∧ ((¬ ((Ia g4 (Co g4 a6) (Ow g4 a6) l4.toNatClampNeg) = 0) → B_M_print_112 Γ K7 K35 K51 K l0 l1 l2 x5 g4) ∧ ((Ia g4 (Co g4 a6) (Ow g4 a6) l4.toNatClampNeg) = 0 → Kd g4 l0 = 13 ∧ ∃ a7 : Nat, Gr g4 1614 l0 = some a7 ∧ Kd g4 a7 = 20 ∧ inB l4 (Ln g4 a7) ∧ ∀ g8 : GH, g8 = sA g4 (Co g4 a7) (Ow g4 a7) l4.toNatClampNeg l2 → B_M_print_112 Γ K7 K35 K51 K l0 (l1 + (-1 : Int32)) l2 x5 g8))))))
set_option maxHeartbeats 4000000 in
set_option maxRecDepth 100000 in
theorem S_M_print_51 {Γ : GAM} {E : EV} {K : GH → Prop} (hE : GE Γ E cX11_print 6 RX11 none 1 30 (fun r g' => r = none ∧ K g')) {K7 : Nat → Int32 → Int32 → GH → Prop} {K35 : Nat → Int32 → Int32 → GH → Prop} {K51 : Nat → Int32 → Int32 → Int32 → Int32 → GH → Prop} (hK7 : ∀ (l0 : Nat) (l1 : Int32) (l2 : Int32) (g : GH), K7 l0 l1 l2 g → JW Γ E 7 [some (.ref l0), some (.int l1), some (.int l2), none, none, none] [] g) (hK35 : ∀ (l0 : Nat) (l1 : Int32) (l2 : Int32) (g : GH), K35 l0 l1 l2 g → JW Γ E 35 [some (.ref l0), some (.int l1), some (.int l2), none, none, none] [] g) (hK51 : ∀ (l0 : Nat) (l1 : Int32) (l2 : Int32) (l3 : Int32) (l4 : Int32) (g : GH), K51 l0 l1 l2 l3 l4 g → JW Γ E 51 [some (.ref l0), some (.int l1), some (.int l2), some (.int l3), some (.int l4), none] [] g) (l0 : Nat) (l1 : Int32) (l2 : Int32) (l3 : Int32) (l4 : Int32) (g : GH) (h : B_M_print_51 Γ K7 K35 K51 K l0 l1 l2 l3 l4 g) : JW Γ E 51 [some (.ref l0), some (.int l1), some (.int l2), some (.int l3), some (.int l4), none] [] g := by
  unfold B_M_print_51 at h
  refine j_iload_n hE (by decide +kernel : decode cX11_print 51 = .ok (.iload_n 3, 1)) rfl rfl ?_
  refine j_if_le hE (by decide +kernel : decode cX11_print 52 = .ok (.ifCond .le 70, 3)) (tgt := 122) (by decide) (fun q => ?_) (fun q => ?_)
  · replace h := h.1 q
    refine j_weak [some (.ref l0), some (.int l1), some (.int l2), none, none, none] ⟨rfl, ⟨rfl, ⟨rfl, trivial⟩⟩⟩ ?_
    exact S_M_print_122 hE hK7 hK35 hK51 _ _ _ _ h
  · replace h := h.2 q
    refine j_iload hE (by decide +kernel : decode cX11_print 55 = .ok (.iload 4, 2)) rfl ?_
    refine j_iconst hE (by decide +kernel : decode cX11_print 57 = .ok (.iconst (-1), 1)) (v := (-1 : Int32)) (by decide) ?_
    refine j_icmp_eq hE (by decide +kernel : decode cX11_print 58 = .ok (.if_icmp .eq 64, 3)) (tgt := 122) (by decide) (fun q => ?_) (fun q => ?_)
    · replace h := h.1 q
      refine j_weak [some (.ref l0), some (.int l1), some (.int l2), none, none, none] ⟨rfl, ⟨rfl, ⟨rfl, trivial⟩⟩⟩ ?_
      exact S_M_print_122 hE hK7 hK35 hK51 _ _ _ _ h
    · replace h := h.2 q
      refine j_iload_n hE (by decide +kernel : decode cX11_print 61 = .ok (.iload_n 3, 1)) rfl rfl ?_
      refine j_aload_n hE (by decide +kernel : decode cX11_print 62 = .ok (.aload_n 0, 1)) rfl rfl ?_
      obtain ⟨hk, h⟩ := h
      obtain ⟨a1, ha, h⟩ := h
      refine j_getRn hE fg_X11_165 hk ha (by decide +kernel : decode cX11_print 63 = .ok (.getfield 165, 3)) ?_
      refine j_iload hE (by decide +kernel : decode cX11_print 66 = .ok (.iload 4, 2)) rfl ?_
      obtain ⟨hk, hb, h⟩ := h
      refine j_iald hE hk hb (by decide +kernel : decode cX11_print 68 = .ok (.iaload, 1)) ?_
      refine j_mmin hE rfl ml_X11_466 st_J9_min_7cf53 in_Math co_J9_min_7cf53 (Nat.le_of_ble_eq_true rfl) (by omega) (by omega) (by decide +kernel : decode cX11_print 69 = .ok (.invokestatic 466, 3)) ?_
      obtain ⟨x2, hx⟩ : ∃ z, z = (if (Ia g (Co g a1) (Ow g a1) l4.toNatClampNeg) < l3 then (Ia g (Co g a1) (Ow g a1) l4.toNatClampNeg) else l3) := ⟨_, rfl⟩; replace h := h x2 hx; rw [← hx]
      refine j_istore hE (by decide +kernel : decode cX11_print 72 = .ok (.istore 5, 2)) (Nat.le_of_ble_eq_true rfl) rfl ?_
      refine j_aload_n hE (by decide +kernel : decode cX11_print 74 = .ok (.aload_n 0, 1)) rfl rfl ?_
      obtain ⟨hk, h⟩ := h
      obtain ⟨a3, ha, h⟩ := h
      refine j_getRn hE fg_X11_165 hk ha (by decide +kernel : decode cX11_print 75 = .ok (.getfield 165, 3)) ?_
      refine j_iload hE (by decide +kernel : decode cX11_print 78 = .ok (.iload 4, 2)) rfl ?_
      refine j_dup2 hE (by decide +kernel : decode cX11_print 80 = .ok (.dup2, 1)) rfl rfl ?_
      obtain ⟨hk, hb, h⟩ := h
      refine j_iald hE hk hb (by decide +kernel : decode cX11_print 81 = .ok (.iaload, 1)) ?_
      refine j_iload hE (by decide +kernel : decode cX11_print 82 = .ok (.iload 5, 2)) rfl ?_
      refine j_isub hE (by decide +kernel : decode cX11_print 84 = .ok (.isub, 1)) ?_
      obtain ⟨hk, hb, h⟩ := h
      obtain ⟨g4, hg⟩ : ∃ z, z = sA g (Co g a3) (Ow g a3) l4.toNatClampNeg ((Ia g (Co g a3) (Ow g a3) l4.toNatClampNeg) - x2) := ⟨_, rfl⟩; replace h := h g4 hg
      refine j_iast hE hk hb (by decide +kernel : decode cX11_print 85 = .ok (.iastore, 1)) ?_
      rw [← hg]
      refine j_iload_n hE (by decide +kernel : decode cX11_print 86 = .ok (.iload_n 3, 1)) rfl rfl ?_
      refine j_iload hE (by decide +kernel : decode cX11_print 87 = .ok (.iload 5, 2)) rfl ?_
      refine j_isub hE (by decide +kernel : decode cX11_print 89 = .ok (.isub, 1)) ?_
      obtain ⟨x5, hx⟩ : ∃ z, z = (l3 - x2) := ⟨_, rfl⟩; replace h := h x5 hx; rw [← hx]
      refine j_istore_n hE (by decide +kernel : decode cX11_print 90 = .ok (.istore_n 3, 1)) rfl (Nat.le_of_ble_eq_true rfl) rfl ?_
      refine j_aload_n hE (by decide +kernel : decode cX11_print 91 = .ok (.aload_n 0, 1)) rfl rfl ?_
      obtain ⟨hk, h⟩ := h
      obtain ⟨a6, ha, h⟩ := h
      refine j_getRn hE fg_X11_165 hk ha (by decide +kernel : decode cX11_print 92 = .ok (.getfield 165, 3)) ?_
      refine j_iload hE (by decide +kernel : decode cX11_print 95 = .ok (.iload 4, 2)) rfl ?_
      obtain ⟨hk, hb, h⟩ := h
      refine j_iald hE hk hb (by decide +kernel : decode cX11_print 97 = .ok (.iaload, 1)) ?_
      refine j_if_ne hE (by decide +kernel : decode cX11_print 98 = .ok (.ifCond .ne 14, 3)) (tgt := 112) (by decide) (fun q => ?_) (fun q => ?_)
      · replace h := h.1 q
        refine j_weak [some (.ref l0), some (.int l1), some (.int l2), some (.int x5), none, none] ⟨rfl, ⟨rfl, ⟨rfl, ⟨rfl, trivial⟩⟩⟩⟩ ?_
        exact S_M_print_112 hE hK7 hK35 hK51 _ _ _ _ _ h
      · replace h := h.2 q
        refine j_aload_n hE (by decide +kernel : decode cX11_print 101 = .ok (.aload_n 0, 1)) rfl rfl ?_
        obtain ⟨hk, h⟩ := h
        obtain ⟨a7, ha, h⟩ := h
        refine j_getRn hE fg_X11_168 hk ha (by decide +kernel : decode cX11_print 102 = .ok (.getfield 168, 3)) ?_
        refine j_iload hE (by decide +kernel : decode cX11_print 105 = .ok (.iload 4, 2)) rfl ?_
        refine j_iload_n hE (by decide +kernel : decode cX11_print 107 = .ok (.iload_n 2, 1)) rfl rfl ?_
        obtain ⟨hk, hb, h⟩ := h
        obtain ⟨g8, hg⟩ : ∃ z, z = sA g4 (Co g4 a7) (Ow g4 a7) l4.toNatClampNeg l2 := ⟨_, rfl⟩; replace h := h g8 hg
        refine j_iast hE hk hb (by decide +kernel : decode cX11_print 108 = .ok (.iastore, 1)) ?_
        rw [← hg]
        refine j_iinc hE (by decide +kernel : decode cX11_print 109 = .ok (.iinc 1 (-1), 3)) (v := (-1 : Int32)) (by decide) rfl (Nat.le_of_ble_eq_true rfl) rfl ?_
        refine j_weak [some (.ref l0), some (.int (l1 + (-1 : Int32))), some (.int l2), some (.int x5), none, none] ⟨rfl, ⟨rfl, ⟨rfl, ⟨rfl, trivial⟩⟩⟩⟩ ?_
        exact S_M_print_112 hE hK7 hK35 hK51 _ _ _ _ _ h
set_option maxRecDepth 100000 in
def B_M_print_35 (Γ : GAM) (K7 : Nat → Int32 → Int32 → GH → Prop) (K35 : Nat → Int32 → Int32 → GH → Prop) (K51 : Nat → Int32 → Int32 → Int32 → Int32 → GH → Prop) (K : GH → Prop) (l0 : Nat) (l1 : Int32) (l2 : Int32) (g : GH) : Prop :=
  ((l1 ≤ 0 → K g) ∧ (¬ (l1 ≤ 0) → Kd g l0 = 13 ∧ ∀ x1 : Int32, x1 = (Gi g 1615 l0) → Kd g l0 = 13 ∧ Sp_M_nextWave Γ l0 l2 g (fun (x3 : Int32) (g2 : GH) => K51 l0 l1 l2 x1 x3 g2)))
set_option maxHeartbeats 4000000 in
set_option maxRecDepth 100000 in
theorem S_M_print_35 {Γ : GAM} {E : EV} {K : GH → Prop} (hE : GE Γ E cX11_print 6 RX11 none 1 30 (fun r g' => r = none ∧ K g')) {K7 : Nat → Int32 → Int32 → GH → Prop} {K35 : Nat → Int32 → Int32 → GH → Prop} {K51 : Nat → Int32 → Int32 → Int32 → Int32 → GH → Prop} (hK7 : ∀ (l0 : Nat) (l1 : Int32) (l2 : Int32) (g : GH), K7 l0 l1 l2 g → JW Γ E 7 [some (.ref l0), some (.int l1), some (.int l2), none, none, none] [] g) (hK35 : ∀ (l0 : Nat) (l1 : Int32) (l2 : Int32) (g : GH), K35 l0 l1 l2 g → JW Γ E 35 [some (.ref l0), some (.int l1), some (.int l2), none, none, none] [] g) (hK51 : ∀ (l0 : Nat) (l1 : Int32) (l2 : Int32) (l3 : Int32) (l4 : Int32) (g : GH), K51 l0 l1 l2 l3 l4 g → JW Γ E 51 [some (.ref l0), some (.int l1), some (.int l2), some (.int l3), some (.int l4), none] [] g) (l0 : Nat) (l1 : Int32) (l2 : Int32) (g : GH) (h : B_M_print_35 Γ K7 K35 K51 K l0 l1 l2 g) : JW Γ E 35 [some (.ref l0), some (.int l1), some (.int l2), none, none, none] [] g := by
  unfold B_M_print_35 at h
  refine j_iload_n hE (by decide +kernel : decode cX11_print 35 = .ok (.iload_n 1, 1)) rfl rfl ?_
  refine j_if_le hE (by decide +kernel : decode cX11_print 36 = .ok (.ifCond .le 92, 3)) (tgt := 128) (by decide) (fun q => ?_) (fun q => ?_)
  · replace h := h.1 q
    exact j_vret hE (by decide +kernel : decode cX11_print 128 = .ok (.return_, 1)) ⟨rfl, h⟩
  · replace h := h.2 q
    refine j_aload_n hE (by decide +kernel : decode cX11_print 39 = .ok (.aload_n 0, 1)) rfl rfl ?_
    obtain ⟨hk, h⟩ := h
    refine j_getI hE fg_X11_171 hk (by decide +kernel : decode cX11_print 40 = .ok (.getfield 171, 3)) ?_
    obtain ⟨x1, hx⟩ : ∃ z, z = (Gi g 1615 l0) := ⟨_, rfl⟩; replace h := h x1 hx; rw [← hx]
    refine j_istore_n hE (by decide +kernel : decode cX11_print 43 = .ok (.istore_n 3, 1)) rfl (Nat.le_of_ble_eq_true rfl) rfl ?_
    refine j_aload_n hE (by decide +kernel : decode cX11_print 44 = .ok (.aload_n 0, 1)) rfl rfl ?_
    refine j_iload_n hE (by decide +kernel : decode cX11_print 45 = .ok (.iload_n 2, 1)) rfl rfl ?_
    obtain ⟨hk, h⟩ := h
    refine j_callV hE rfl cl_X11_462 cf_12 im_X11_nextWave se_X11_nextWave ⟨by omega, by omega⟩ (As := [.int l2]) (rest := []) rfl rfl (Nat.le_of_ble_eq_true rfl) hk (by decide +kernel : decode cX11_print 46 = .ok (.invokevirtual 462, 3)) (mt_M_nextWave _ _ _ _ h) ?_
    rintro _ g2 ⟨x3, rfl, h⟩
    refine j_istore hE (by decide +kernel : decode cX11_print 49 = .ok (.istore 4, 2)) (Nat.le_of_ble_eq_true rfl) rfl ?_
    exact hK51 _ _ _ _ _ _ h
set_option maxRecDepth 100000 in
def B_M_print_7 (Γ : GAM) (K7 : Nat → Int32 → Int32 → GH → Prop) (K35 : Nat → Int32 → Int32 → GH → Prop) (K51 : Nat → Int32 → Int32 → Int32 → Int32 → GH → Prop) (K : GH → Prop) (l0 : Nat) (l1 : Int32) (l2 : Int32) (g : GH) : Prop :=
  Kd g l0 = 13 ∧ (((Gi g 1546 l0) ≤ l2 → K35 l0 l1 (0 : Int32) g) ∧ (¬ ((Gi g 1546 l0) ≤ l2) → Kd g l0 = 13 ∧ ∃ a1 : Nat, Gr g 1613 l0 = some a1 ∧ Kd g l0 = 13 ∧ ∃ a2 : Nat, Gr g 1610 l0 = some a2 ∧ Kd g a2 = 20 ∧ inB l2 (Ln g a2) ∧ Kd g a1 = 20 ∧ inB l2 (Ln g a1) ∧ ∀ g3 : GH, g3 = sA g (Co g a1) (Ow g a1) l2.toNatClampNeg (Ia g (Co g a2) (Ow g a2) l2.toNatClampNeg) → K7 l0 l1 (l2 + (1 : Int32)) g3))
set_option maxHeartbeats 4000000 in
set_option maxRecDepth 100000 in
theorem S_M_print_7 {Γ : GAM} {E : EV} {K : GH → Prop} (hE : GE Γ E cX11_print 6 RX11 none 1 30 (fun r g' => r = none ∧ K g')) {K7 : Nat → Int32 → Int32 → GH → Prop} {K35 : Nat → Int32 → Int32 → GH → Prop} {K51 : Nat → Int32 → Int32 → Int32 → Int32 → GH → Prop} (hK7 : ∀ (l0 : Nat) (l1 : Int32) (l2 : Int32) (g : GH), K7 l0 l1 l2 g → JW Γ E 7 [some (.ref l0), some (.int l1), some (.int l2), none, none, none] [] g) (hK35 : ∀ (l0 : Nat) (l1 : Int32) (l2 : Int32) (g : GH), K35 l0 l1 l2 g → JW Γ E 35 [some (.ref l0), some (.int l1), some (.int l2), none, none, none] [] g) (hK51 : ∀ (l0 : Nat) (l1 : Int32) (l2 : Int32) (l3 : Int32) (l4 : Int32) (g : GH), K51 l0 l1 l2 l3 l4 g → JW Γ E 51 [some (.ref l0), some (.int l1), some (.int l2), some (.int l3), some (.int l4), none] [] g) (l0 : Nat) (l1 : Int32) (l2 : Int32) (g : GH) (h : B_M_print_7 Γ K7 K35 K51 K l0 l1 l2 g) : JW Γ E 7 [some (.ref l0), some (.int l1), some (.int l2), none, none, none] [] g := by
  unfold B_M_print_7 at h
  refine j_iload_n hE (by decide +kernel : decode cX11_print 7 = .ok (.iload_n 2, 1)) rfl rfl ?_
  refine j_aload_n hE (by decide +kernel : decode cX11_print 8 = .ok (.aload_n 0, 1)) rfl rfl ?_
  obtain ⟨hk, h⟩ := h
  refine j_getI hE fg_X11_459 hk (by decide +kernel : decode cX11_print 9 = .ok (.getfield 459, 3)) ?_
  refine j_icmp_ge hE (by decide +kernel : decode cX11_print 12 = .ok (.if_icmp .ge 21, 3)) (tgt := 33) (by decide) (fun q => ?_) (fun q => ?_)
  · replace h := h.1 q
    refine j_iconst hE (by decide +kernel : decode cX11_print 33 = .ok (.iconst 0, 1)) (v := (0 : Int32)) (by decide) ?_
    refine j_istore_n hE (by decide +kernel : decode cX11_print 34 = .ok (.istore_n 2, 1)) rfl (Nat.le_of_ble_eq_true rfl) rfl ?_
    exact hK35 _ _ _ _ h
  · replace h := h.2 q
    refine j_aload_n hE (by decide +kernel : decode cX11_print 15 = .ok (.aload_n 0, 1)) rfl rfl ?_
    obtain ⟨hk, h⟩ := h
    obtain ⟨a1, ha, h⟩ := h
    refine j_getRn hE fg_X11_165 hk ha (by decide +kernel : decode cX11_print 16 = .ok (.getfield 165, 3)) ?_
    refine j_iload_n hE (by decide +kernel : decode cX11_print 19 = .ok (.iload_n 2, 1)) rfl rfl ?_
    refine j_aload_n hE (by decide +kernel : decode cX11_print 20 = .ok (.aload_n 0, 1)) rfl rfl ?_
    obtain ⟨hk, h⟩ := h
    obtain ⟨a2, ha, h⟩ := h
    refine j_getRn hE fg_X11_156 hk ha (by decide +kernel : decode cX11_print 21 = .ok (.getfield 156, 3)) ?_
    refine j_iload_n hE (by decide +kernel : decode cX11_print 24 = .ok (.iload_n 2, 1)) rfl rfl ?_
    obtain ⟨hk, hb, h⟩ := h
    refine j_iald hE hk hb (by decide +kernel : decode cX11_print 25 = .ok (.iaload, 1)) ?_
    obtain ⟨hk, hb, h⟩ := h
    obtain ⟨g3, hg⟩ : ∃ z, z = sA g (Co g a1) (Ow g a1) l2.toNatClampNeg (Ia g (Co g a2) (Ow g a2) l2.toNatClampNeg) := ⟨_, rfl⟩; replace h := h g3 hg
    refine j_iast hE hk hb (by decide +kernel : decode cX11_print 26 = .ok (.iastore, 1)) ?_
    rw [← hg]
    refine j_iinc hE (by decide +kernel : decode cX11_print 27 = .ok (.iinc 2 1, 3)) (v := (1 : Int32)) (by decide) rfl (Nat.le_of_ble_eq_true rfl) rfl ?_
    refine j_goto hE (by decide +kernel : decode cX11_print 30 = .ok (.goto (-23), 3)) (tgt := 7) (by decide) ?_
    exact hK7 _ _ _ _ h
set_option maxRecDepth 100000 in
def B_M_print_0 (Γ : GAM) (K7 : Nat → Int32 → Int32 → GH → Prop) (K35 : Nat → Int32 → Int32 → GH → Prop) (K51 : Nat → Int32 → Int32 → Int32 → Int32 → GH → Prop) (K : GH → Prop) (th : Nat) (g : GH) : Prop :=
  Kd g th = 13 ∧ ∀ x1 : Int32, x1 = (Gi g 1546 th) → K7 th x1 (0 : Int32) g
set_option maxHeartbeats 4000000 in
set_option maxRecDepth 100000 in
theorem S_M_print_0 {Γ : GAM} {E : EV} {K : GH → Prop} (hE : GE Γ E cX11_print 6 RX11 none 1 30 (fun r g' => r = none ∧ K g')) {K7 : Nat → Int32 → Int32 → GH → Prop} {K35 : Nat → Int32 → Int32 → GH → Prop} {K51 : Nat → Int32 → Int32 → Int32 → Int32 → GH → Prop} (hK7 : ∀ (l0 : Nat) (l1 : Int32) (l2 : Int32) (g : GH), K7 l0 l1 l2 g → JW Γ E 7 [some (.ref l0), some (.int l1), some (.int l2), none, none, none] [] g) (hK35 : ∀ (l0 : Nat) (l1 : Int32) (l2 : Int32) (g : GH), K35 l0 l1 l2 g → JW Γ E 35 [some (.ref l0), some (.int l1), some (.int l2), none, none, none] [] g) (hK51 : ∀ (l0 : Nat) (l1 : Int32) (l2 : Int32) (l3 : Int32) (l4 : Int32) (g : GH), K51 l0 l1 l2 l3 l4 g → JW Γ E 51 [some (.ref l0), some (.int l1), some (.int l2), some (.int l3), some (.int l4), none] [] g) (th : Nat) (g : GH) (h : B_M_print_0 Γ K7 K35 K51 K th g) : JW Γ E 0 [some (.ref th), none, none, none, none, none] [] g := by
  unfold B_M_print_0 at h
  refine j_aload_n hE (by decide +kernel : decode cX11_print 0 = .ok (.aload_n 0, 1)) rfl rfl ?_
  obtain ⟨hk, h⟩ := h
  refine j_getI hE fg_X11_459 hk (by decide +kernel : decode cX11_print 1 = .ok (.getfield 459, 3)) ?_
  obtain ⟨x1, hx⟩ : ∃ z, z = (Gi g 1546 th) := ⟨_, rfl⟩; replace h := h x1 hx; rw [← hx]
  refine j_istore_n hE (by decide +kernel : decode cX11_print 4 = .ok (.istore_n 1, 1)) rfl (Nat.le_of_ble_eq_true rfl) rfl ?_
  refine j_iconst hE (by decide +kernel : decode cX11_print 5 = .ok (.iconst 0, 1)) (v := (0 : Int32)) (by decide) ?_
  refine j_istore_n hE (by decide +kernel : decode cX11_print 6 = .ok (.istore_n 2, 1)) rfl (Nat.le_of_ble_eq_true rfl) rfl ?_
  exact hK7 _ _ _ _ h
set_option maxHeartbeats 4000000 in
set_option maxRecDepth 100000 in
theorem rl_M_print {Γ : GAM} {l : Launch} {th : Nat} {g : GH} {K : GH → Prop} (I7 : Nat → Nat → Int32 → Int32 → GH → Prop) (I35 : Nat → Nat → Int32 → Int32 → GH → Prop) (I51 : Nat → Nat → Int32 → Int32 → Int32 → Int32 → GH → Prop) (hh7 : ∀ n (l0 : Nat) (l1 : Int32) (l2 : Int32) (g : GH), I7 n l0 l1 l2 g → B_M_print_7 Γ (fun l0 l1 l2 g => ∃ m, m < n ∧ I7 m l0 l1 l2 g) (fun l0 l1 l2 g => ∃ m, m < n ∧ I35 m l0 l1 l2 g) (fun l0 l1 l2 l3 l4 g => ∃ m, m < n ∧ I51 m l0 l1 l2 l3 l4 g) K l0 l1 l2 g) (hh35 : ∀ n (l0 : Nat) (l1 : Int32) (l2 : Int32) (g : GH), I35 n l0 l1 l2 g → B_M_print_35 Γ (fun l0 l1 l2 g => ∃ m, m < n ∧ I7 m l0 l1 l2 g) (fun l0 l1 l2 g => ∃ m, m < n ∧ I35 m l0 l1 l2 g) (fun l0 l1 l2 l3 l4 g => ∃ m, m < n ∧ I51 m l0 l1 l2 l3 l4 g) K l0 l1 l2 g) (hh51 : ∀ n (l0 : Nat) (l1 : Int32) (l2 : Int32) (l3 : Int32) (l4 : Int32) (g : GH), I51 n l0 l1 l2 l3 l4 g → B_M_print_51 Γ (fun l0 l1 l2 g => ∃ m, m < n ∧ I7 m l0 l1 l2 g) (fun l0 l1 l2 g => ∃ m, m < n ∧ I35 m l0 l1 l2 g) (fun l0 l1 l2 l3 l4 g => ∃ m, m < n ∧ I51 m l0 l1 l2 l3 l4 g) K l0 l1 l2 l3 l4 g) (h0 : B_M_print_0 Γ (fun l0 l1 l2 g => ∃ m, I7 m l0 l1 l2 g) (fun l0 l1 l2 g => ∃ m, I35 m l0 l1 l2 g) (fun l0 l1 l2 l3 l4 g => ∃ m, I51 m l0 l1 l2 l3 l4 g) K th g) : MetA Γ l yX11_print cX11_print 6 none 1 30 [.ref th] g (fun r g' => r = none ∧ K g') := by
  refine MetA.introL (Lx := [some (.ref th), none, none, none, none, none]) (by decide) (Nat.le_of_ble_eq_true rfl) rfl rfl ?_
  intro E hEl hE hnm
  have hall : ∀ n, (∀ (l0 : Nat) (l1 : Int32) (l2 : Int32) (g : GH), I7 n l0 l1 l2 g → JW Γ E 7 [some (.ref l0), some (.int l1), some (.int l2), none, none, none] [] g) ∧ (∀ (l0 : Nat) (l1 : Int32) (l2 : Int32) (g : GH), I35 n l0 l1 l2 g → JW Γ E 35 [some (.ref l0), some (.int l1), some (.int l2), none, none, none] [] g) ∧ (∀ (l0 : Nat) (l1 : Int32) (l2 : Int32) (l3 : Int32) (l4 : Int32) (g : GH), I51 n l0 l1 l2 l3 l4 g → JW Γ E 51 [some (.ref l0), some (.int l1), some (.int l2), some (.int l3), some (.int l4), none] [] g) := by
    intro n
    induction n using Nat.strongRecOn with
    | ind n ih =>
      exact ⟨fun l0 l1 l2 g hi => S_M_print_7 hE (fun l0 l1 l2 g hm => by obtain ⟨m, hm, h⟩ := hm; exact (ih m hm).1 l0 l1 l2 g h) (fun l0 l1 l2 g hm => by obtain ⟨m, hm, h⟩ := hm; exact (ih m hm).2.1 l0 l1 l2 g h) (fun l0 l1 l2 l3 l4 g hm => by obtain ⟨m, hm, h⟩ := hm; exact (ih m hm).2.2 l0 l1 l2 l3 l4 g h) l0 l1 l2 g (hh7 n l0 l1 l2 g hi), fun l0 l1 l2 g hi => S_M_print_35 hE (fun l0 l1 l2 g hm => by obtain ⟨m, hm, h⟩ := hm; exact (ih m hm).1 l0 l1 l2 g h) (fun l0 l1 l2 g hm => by obtain ⟨m, hm, h⟩ := hm; exact (ih m hm).2.1 l0 l1 l2 g h) (fun l0 l1 l2 l3 l4 g hm => by obtain ⟨m, hm, h⟩ := hm; exact (ih m hm).2.2 l0 l1 l2 l3 l4 g h) l0 l1 l2 g (hh35 n l0 l1 l2 g hi), fun l0 l1 l2 l3 l4 g hi => S_M_print_51 hE (fun l0 l1 l2 g hm => by obtain ⟨m, hm, h⟩ := hm; exact (ih m hm).1 l0 l1 l2 g h) (fun l0 l1 l2 g hm => by obtain ⟨m, hm, h⟩ := hm; exact (ih m hm).2.1 l0 l1 l2 g h) (fun l0 l1 l2 l3 l4 g hm => by obtain ⟨m, hm, h⟩ := hm; exact (ih m hm).2.2 l0 l1 l2 l3 l4 g h) l0 l1 l2 l3 l4 g (hh51 n l0 l1 l2 l3 l4 g hi)⟩
  exact S_M_print_0 hE (fun l0 l1 l2 g hm => by obtain ⟨m, h⟩ := hm; exact (hall m).1 l0 l1 l2 g h) (fun l0 l1 l2 g hm => by obtain ⟨m, h⟩ := hm; exact (hall m).2.1 l0 l1 l2 g h) (fun l0 l1 l2 l3 l4 g hm => by obtain ⟨m, h⟩ := hm; exact (hall m).2.2 l0 l1 l2 l3 l4 g h) th g h0
theorem mt_M_print {Γ : GAM} {l : Launch} (th : Nat) (g : GH) (K : GH → Prop) (h : Sp_M_print Γ th g K) : MetA Γ l yX11_print cX11_print 6 none 1 30 [.ref th] g (fun r g' => r = none ∧ K g') := by
  obtain ⟨ma, s, hI, hw, hK⟩ := h
  have hlen := hw.len.2.2.2.2.2.2.2.2.2.2.1
  have hprs := nj_of (show 0 ≤ s_prs s from by have := hw.prs.1; grind)
  have hprs2 : 1 ≤ (s_prs s).toNatClampNeg ∧ (s_prs s).toNatClampNeg ≤ 1000 := by
    have h1 := hw.prs
    rw [hprs.1] at h1
    exact ⟨(nj_le (a := 1) (by omega) hprs.2).mp h1.1, (nj_le (b := 1000) hprs.2 (by omega)).mp h1.2⟩
  generalize hP : (s_prs s).toNatClampNeg = P at hprs hprs2
  refine rl_M_print (fun n l0 l1 l2 g' => th = l0 ∧ l1 = nI (s_wav s).length ∧ ∃ k, k ≤ (s_wav s).length ∧ n = 1000000 + ((s_wav s).length - k) ∧ l2 = nI k ∧ FrX th [] [1613, 1614] g g' ∧ ∀ i, i < k → Ia g' 1613 th i = (pr0 s).1 i)
    (fun n l0 l1 l2 g' => th = l0 ∧ ∃ k lf en d, prI s k = (lf, nI d, s_prs s, en) ∧ PX th g' s lf en ∧ FrX th [] [1613, 1614] g g' ∧ l2 = nI d ∧ l1 = nI (prC lf (s_wav s).length) ∧ d + prT lf (s_wav s).length ≤ 60400 ∧ n = 3 * (prT lf (s_wav s).length + (400 - d)) + 2)
    (fun n l0 l1 l2 l3 l4 g' => th = l0 ∧ ∃ k lf en d r c, (prI s k = (lf, nI d, nI r, en) ∨ (r = 0 ∧ prI s k = (lf, nI (d + 1), s_prs s, en))) ∧ PX th g' s lf en ∧ FrX th [] [1613, 1614] g g' ∧ l2 = nI d ∧ l3 = nI r ∧ r ≤ 1000 ∧ l4 = oI (sNx s lf (nI d)) ∧ l1 = nI (prC lf (s_wav s).length) ∧ ((c = 0 ∧ 1 ≤ r ∧ 1 ≤ prC lf (s_wav s).length ∧ d + prT lf (s_wav s).length ≤ 60400) ∨ (c = 1 ∧ d + 1 + prT lf (s_wav s).length ≤ 60400)) ∧ n = 3 * (prT lf (s_wav s).length + (400 - d)) + 1 + 2 * c) ?_ ?_ ?_ ?_
  · rintro n l0 l1 l2 g' ⟨rfl, rfl, k, hk, rfl, rfl, hfx, hL⟩
    have hI' := hI.x hfx (by decide +kernel)
    obtain ⟨hkd, hS⟩ := hI'.1
    obtain ⟨f1, f2, f3⟩ := hI'.wav
    obtain ⟨z_waveLeft1, z_waveLeft2, z_waveLeft3, z_waveLeft4, z_waveLeft5⟩ := hS 1613 20 12 rfl
    obtain ⟨z_waveMany1, z_waveMany2, z_waveMany3, z_waveMany4, z_waveMany5⟩ := hS 1610 20 12 rfl
    suffices H : ∀ (K7 : Nat → Int32 → Int32 → GH → Prop) (K35 : Nat → Int32 → Int32 → GH → Prop) (K51 : Nat → Int32 → Int32 → Int32 → Int32 → GH → Prop), (∀ g2, k < (s_wav s).length → FrX th [] [1613, 1614] g g2 → (∀ i, i < k + 1 → Ia g2 1613 th i = (pr0 s).1 i) → K7 th (nI (s_wav s).length) (nI (k + 1)) g2) → (k = (s_wav s).length → K35 th (nI (s_wav s).length) 0 g') → B_M_print_7 Γ K7 K35 K51 K th (nI (s_wav s).length) (nI k) g' from
      H _ _ _ (fun g2 hlt h1 h2 => ⟨1000000 + ((s_wav s).length - (k + 1)), by omega, rfl, rfl, k + 1, by omega, rfl, rfl, h1, h2⟩) (fun he => by
        subst he
        have hall : ∀ i, i < (s_wav s).length → ∃ a, 1 ≤ a ∧ a ≤ 5000 ∧ (pr0 s).1 i = nI a := fun i hi => by
          obtain ⟨x, hx⟩ := get_lt hi
          obtain ⟨h1, h2⟩ := (hw.wav x (List.mem_of_getElem? hx)).1
          have hn := nj_of (show 0 ≤ x.1 by grind)
          rw [hn.1] at h1 h2
          refine ⟨x.1.toNatClampNeg, (nj_le (a := 1) (by omega) hn.2).mp h1, (nj_le (b := 5000) hn.2 (by omega)).mp h2, ?_⟩
          show ((s_wav s)[i]?.getD default).1 = _
          rw [hx]; exact hn.1
        have hx : PX th g' s (pr0 s).1 (fun _ => 0) := fun i hi => by
          obtain ⟨a, a1, a2, a3⟩ := hall i hi
          refine ⟨hL i hi, fun z => ?_, a, a2, a3⟩
          rw [a3] at z
          have := (nj_le (b := 0) (show a < 2147483648 by omega) (by omega)).mp z
          omega
        have hc : prC (pr0 s).1 (s_wav s).length = (s_wav s).length := by
          have key : ∀ m, m ≤ (s_wav s).length → prC (pr0 s).1 m = m := by
            intro m
            induction m with
            | zero => intro _; rfl
            | succ m ih =>
              intro hm
              show prC _ m + _ = _
              obtain ⟨a, a1, a2, a3⟩ := hall m (by omega)
              rw [ih (by omega), a3, if_neg]
              intro z
              have := (nj_le (b := 0) (show a < 2147483648 by omega) (by omega)).mp z
              omega
          exact key _ (Nat.le_refl _)
        have ht := hx.T
        refine ⟨3 * (prT (pr0 s).1 (s_wav s).length + (400 - 0)) + 2, by omega, rfl, 0, (pr0 s).1, fun _ => 0, 0, rfl, hx, hfx, nj_0, by rw [hc], by omega, rfl⟩)
    intro K7 K35 K51 h7 h35
    unfold B_M_print_7
    simp only [hkd, f1, z_waveLeft1, z_waveLeft2, z_waveLeft3, z_waveLeft4, z_waveLeft5, z_waveMany1, z_waveMany2, z_waveMany3, z_waveMany4, z_waveMany5, Option.some.injEq, exists_eq_left', true_and, nj_s, nj_cl (show k < 2147483648 by omega), nj_le (show (s_wav s).length < 2147483648 by omega) (show k < 2147483648 by omega)]
    refine ⟨fun z => h35 (by omega), fun z => ?_⟩
    have hlt : k < (s_wav s).length := by omega
    obtain ⟨x, hx⟩ := get_lt hlt
    refine ⟨inB_nI (by omega) (by omega), inB_nI (by omega) (by omega), fun g2 hg2 => ?_⟩
    refine h7 g2 hlt (hfx.tr (by rw [hg2]; exact FrX.sA (by decide))) (fun i hi => ?_)
    rw [hg2, Ia_sA]
    by_cases u : i = k
    · subst u
      rw [if_pos ⟨rfl, rfl, rfl⟩, (f3 i x hx).1]
      show _ = ((s_wav s)[i]?.getD default).1
      rw [hx]; rfl
    · rw [if_neg (fun q => u q.2.2)]; exact hL i (by omega)
  · rintro n l0 l1 l2 g' ⟨rfl, k, lf, en, d, hp, hx, hfx, rfl, rfl, hd, rfl⟩
    have hI' := hI.x hfx (by decide +kernel)
    have hkd := hI'.1.1
    have hcl := prC_le (f := lf) (n := (s_wav s).length)
    suffices H : ∀ (K7 : Nat → Int32 → Int32 → GH → Prop) (K35 : Nat → Int32 → Int32 → GH → Prop) (K51 : Nat → Int32 → Int32 → Int32 → Int32 → GH → Prop), (1 ≤ prC lf (s_wav s).length → K51 th (nI (prC lf (s_wav s).length)) (nI d) (nI P) (oI (sNx s lf (nI d))) g') → B_M_print_35 Γ K7 K35 K51 K th (nI (prC lf (s_wav s).length)) (nI d) g' from
      H _ _ _ (fun hc => ⟨3 * (prT lf (s_wav s).length + (400 - d)) + 1 + 2 * 0, by omega, rfl, k, lf, en, d, P, 0, .inl (by rw [hp, hprs.1]), hx, hfx, rfl, rfl, hprs2.2, rfl, rfl, .inl ⟨rfl, hprs2.1, hc, hd⟩, rfl⟩)
    intro K7 K35 K51 h51
    unfold B_M_print_35
    refine ⟨fun z => ?_, fun z => ?_⟩
    · have h0 := (nj_le (b := 0) (show prC lf (s_wav s).length < 2147483648 by omega) (by omega)).mp z
      have hdn : prD s (prI s k) := by rw [hp]; exact (prC_0 (f := lf)).mp (by omega)
      refine hK g' hfx (fun w hww => ?_)
      rw [prE_eq hdn, hp, (hx w hww).2.1 (prC_0.mp (by omega) w hww)]
    · have h0 : ¬ prC lf (s_wav s).length ≤ 0 := fun q => z ((nj_le (b := 0) (show prC lf (s_wav s).length < 2147483648 by omega) (by omega)).mpr q)
      refine ⟨hkd, fun x1 hx1 => ⟨hkd, ma, s, hI', hw, ?_⟩⟩
      rw [hI'.prs, hprs.1] at hx1
      subst hx1
      rw [sNx_cg (lf' := lf) (fun i hi => (hx i hi).1)]
      exact h51 (by omega)
  · rintro n l0 l1 l2 l3 l4 g' ⟨rfl, k, lf, en, d, r, c, hp, hx, hfx, rfl, rfl, hr, rfl, rfl, hc, rfl⟩
    have hI' := hI.x hfx (by decide +kernel)
    obtain ⟨hkd, hS⟩ := hI'.1
    have hcl := prC_le (f := lf) (n := (s_wav s).length)
    have ht := hx.T
    obtain ⟨z_waveLeft1, z_waveLeft2, z_waveLeft3, z_waveLeft4, z_waveLeft5⟩ := hS 1613 20 12 rfl
    obtain ⟨z_waveEnd1, z_waveEnd2, z_waveEnd3, z_waveEnd4, z_waveEnd5⟩ := hS 1614 20 12 rfl
    suffices H : ∀ (K7 : Nat → Int32 → Int32 → GH → Prop) (K35 : Nat → Int32 → Int32 → GH → Prop) (K51 : Nat → Int32 → Int32 → Int32 → Int32 → GH → Prop), (∀ k2, prI s k2 = (lf, nI (d + 1), s_prs s, en) → (c = 1 ∨ d < 400) → K35 th (nI (prC lf (s_wav s).length)) (nI (d + 1)) g') → (∀ k2 lf2 en2 r2 g2, (prI s k2 = (lf2, nI d, nI r2, en2) ∨ (r2 = 0 ∧ prI s k2 = (lf2, nI (d + 1), s_prs s, en2))) → PX th g2 s lf2 en2 → FrX th [] [1613, 1614] g g2 → r2 ≤ 1000 → prT lf2 (s_wav s).length + 1 ≤ prT lf (s_wav s).length → K51 th (nI (prC lf2 (s_wav s).length)) (nI d) (nI r2) (oI (sNx s lf2 (nI d))) g2) → B_M_print_51 Γ K7 K35 K51 K th (nI (prC lf (s_wav s).length)) (nI d) (nI r) (oI (sNx s lf (nI d))) g' from
      H _ _ _ (fun k2 h1 h2 => ⟨3 * (prT lf (s_wav s).length + (400 - (d + 1))) + 2, by omega, rfl, k2, lf, en, d + 1, h1, hx, hfx, rfl, rfl, by omega, rfl⟩)
        (fun k2 lf2 en2 r2 g2 h1 h2 h3 h4 h5 => ⟨3 * (prT lf2 (s_wav s).length + (400 - d)) + 1 + 2 * 1, by omega, rfl, k2, lf2, en2, d, r2, 1, h1, h2, h3, rfl, rfl, h4, rfl, rfl, .inr ⟨rfl, by omega⟩, rfl⟩)
    intro K7 K35 K51 h35 h51
    unfold B_M_print_51 B_M_print_122
    have hr0 : (nI r ≤ (0 : Int32)) ↔ r = 0 := (nj_le (b := 0) (by omega) (by omega)).trans Nat.le_zero
    rw [hr0, nj_s]
    refine ⟨fun z => ?_, fun z => ⟨fun z2 => ?_, fun z2 => ?_⟩⟩
    · subst z
      rcases hc with ⟨_, q, _⟩ | ⟨rfl, hd⟩
      · omega
      · rcases hp with hp | ⟨_, hp⟩
        · refine h35 (k + 1) ?_ (.inl rfl)
          show prS s (prI s k) = _
          rw [hp]
          unfold prS
          simp only
          cases hn : sNx s lf (nI d) with
          | none => simp only [nj_s]
          | some p =>
            obtain ⟨w, x⟩ := p
            have := (sNx_some hn).1
            simp only
            rw [if_neg (by rw [← nj_0]; exact this), nj_s, ← nj_0]
            have : (fun i => if i = w then lf w - 0 else lf i) = lf := by
              funext i
              split
              · rename_i u; rw [u, Int32.sub_zero]
              · rfl
            rw [this]
        · exact h35 k hp (.inl rfl)
    · have hn : sNx s lf (nI d) = none := by
        cases hn : sNx s lf (nI d) with
        | none => rfl
        | some p =>
          rw [hn, oI_s] at z2
          have := (List.getElem?_eq_some_iff.mp (sNx_get (j := p.1) (x := p.2) hn)).1
          exact absurd z2 (nI_nm1 (by omega))
      rcases hp with hp | ⟨q, _⟩
      · refine h35 (k + 1) ?_ ?_
        · show prS s (prI s k) = _
          rw [hp]
          unfold prS
          simp only [hn, nj_s]
        · rcases hc with ⟨_, _, q, _⟩ | ⟨q, _⟩
          · refine .inr ?_
            refine Classical.byContradiction (fun u => ?_)
            have : prC lf (s_wav s).length = 0 := prC_0.mpr (fun i hi => by
              obtain ⟨x, hxx⟩ := get_lt hi
              rcases sNx_none hn hxx with h | h
              · exact h
              · exfalso
                have h2 := (hw.wav x (List.mem_of_getElem? hxx)).2.1
                have h3 := nj_of h2.1
                have h4 := h2.2
                rw [h3.1] at h h4
                have h5 := (nj_lt (by omega) h3.2).mp h
                have h6 := (nj_le (b := 400) h3.2 (by omega)).mp h4
                omega)
            omega
          · exact .inl q
      · exact absurd q z
    · cases hn : sNx s lf (nI d) with
      | none => rw [hn, oI_n] at z2; exact absurd rfl z2
      | some p =>
        obtain ⟨w, x⟩ := p
        obtain ⟨hs1, hs2⟩ := sNx_some hn
        have hwn := (List.getElem?_eq_some_iff.mp (sNx_get hn)).1
        obtain ⟨hxw, hxe, a, ha, hla⟩ := hx w hwn
        have hb : inB (oI (some (w, x))) 12 := by rw [oI_s]; exact inB_nI (by omega) (by omega)
        have hcw : (oI (some (w, x))).toNatClampNeg = w := by rw [oI_s]; exact nj_cl (by omega)
        have hp : prI s k = (lf, nI d, nI r, en) := by
          rcases hp with hp | ⟨q, _⟩
          · exact hp
          · exact absurd q z
        have ha1 : 1 ≤ a := by
          rw [hla] at hs1
          refine Classical.byContradiction (fun q => hs1 ?_)
          exact (nj_le (b := 0) (by omega) (by omega)).mpr (by omega)
        refine ⟨hkd, _, z_waveLeft1, z_waveLeft2, by rw [z_waveLeft5]; exact hb, ?_⟩
        rw [z_waveLeft3, z_waveLeft4, hcw, hxw, hla]
        intro x2 hx2
        have hx2' : x2 = nI (min a r) := by
          rw [hx2]
          split
          · rename_i u; have := (nj_lt (by omega) (by omega)).mp u; rw [Nat.min_eq_left (by omega)]
          · rename_i u
            have : ¬ a < r := fun v => u ((nj_lt (by omega) (by omega)).mpr v)
            rw [Nat.min_eq_right (by omega)]
        rw [hx2', nj_sub (Nat.min_le_right a r)]
        refine ⟨hkd, _, z_waveLeft1, z_waveLeft2, by rw [z_waveLeft5]; exact hb, z_waveLeft2, by rw [z_waveLeft5]; exact hb, ?_⟩
        rw [z_waveLeft3, z_waveLeft4, hxw, hla, nj_sub (Nat.min_le_left _ _)]
        intro g4 hg4 x5 hx5
        have hf4 : FrX th [] [1613, 1614] g g4 := hfx.tr (by rw [hg4]; exact FrX.sA (by decide))
        have hI4 := hI.x hf4 (by decide +kernel)
        obtain ⟨hkd4, hS4⟩ := hI4.1
        obtain ⟨z_waveLeft1, z_waveLeft2, z_waveLeft3, z_waveLeft4, z_waveLeft5⟩ := hS4 1613 20 12 rfl
        obtain ⟨z_waveEnd1, z_waveEnd2, z_waveEnd3, z_waveEnd4, z_waveEnd5⟩ := hS4 1614 20 12 rfl
        have hl4 : ∀ i, Ia g4 1613 th i = if i = w then nI (a - min a r) else Ia g' 1613 th i := fun i => by rw [hg4, Ia_sA]; simp
        have he4 : ∀ i, Ia g4 1614 th i = Ia g' 1614 th i := fun i => by rw [hg4, Ia_sA]; simp
        have hps : prI s (k + 1) = prS s (lf, nI d, nI r, en) := by show prS s (prI s k) = _; rw [hp]
        unfold prS at hps
        simp only [hn] at hps
        refine ⟨hkd4, _, z_waveLeft1, z_waveLeft2, by rw [z_waveLeft5]; exact hb, ?_⟩
        rw [z_waveLeft3, z_waveLeft4, hl4 w, if_pos rfl, hx5]
        by_cases hfull : a ≤ r
        · rw [if_pos (by rw [hla]; exact (nj_le (by omega) (by omega)).mpr hfull)] at hps
          rw [Nat.min_eq_left hfull, Nat.sub_self]
          refine ⟨fun q => absurd rfl q, fun _ => ⟨hkd4, _, z_waveEnd1, z_waveEnd2, by rw [z_waveEnd5]; exact hb, ?_⟩⟩
          rw [z_waveEnd3, z_waveEnd4]
          intro g8 hg8
          have hf8 : FrX th [] [1613, 1614] g g8 := hf4.tr (by rw [hg8]; exact FrX.sA (by decide))
          have hI8 := hI.x hf8 (by decide +kernel)
          have hl8 : ∀ i, Ia g8 1613 th i = if i = w then 0 else Ia g' 1613 th i := fun i => by
            rw [hg8, Ia_sA, if_neg (fun q => absurd q.1 (by decide)), hl4 i, Nat.min_eq_left hfull, Nat.sub_self]; rfl
          have he8 : ∀ i, Ia g8 1614 th i = if i = w then nI d else Ia g' 1614 th i := fun i => by rw [hg8, Ia_sA, he4 i]; simp
          have hX8 : PX th g8 s (fun i => if i = w then 0 else lf i) (fun i => if i = w then nI d else en i) := fun i hi => by
            obtain ⟨y1, y2, y3⟩ := hx i hi
            rw [hl8 i, he8 i]
            by_cases u : i = w
            · simp only [if_pos u]; exact ⟨trivial, fun _ => trivial, 0, by omega, rfl⟩
            · simp only [if_neg u]; exact ⟨y1, y2, y3⟩
          have hT := prT_up (f := lf) (f' := fun i => if i = w then 0 else lf i) (w := w) (fun i hi => if_neg hi) (n := (s_wav s).length) hwn
          have hCc := prC_up (f := lf) (f' := fun i => if i = w then 0 else lf i) (w := w) (fun i hi => if_neg hi) (n := (s_wav s).length) hwn
          rw [if_neg hs1] at hCc
          simp only [if_true] at hT hCc
          rw [if_pos (by decide)] at hCc
          rw [hla, nj_cl (by omega), show (0 : Int32).toNatClampNeg = 0 by decide] at hT
          have := h51 (k + 1) _ _ (r - a) g8 (.inl (by rw [hps, hla, nj_sub hfull])) hX8 hf8 (by omega) (by omega)
          unfold B_M_print_112
          refine ⟨hI8.1.1, ma, s, hI8, hw, ?_⟩
          rw [sNx_cg (lf' := fun i => if i = w then 0 else lf i) (fun i hi => (hX8 i hi).1)]
          have h1 : nI (prC lf (s_wav s).length) + (-1) = nI (prC (fun i => if i = w then 0 else lf i) (s_wav s).length) := by
            rw [show prC lf (s_wav s).length = prC (fun i => if i = w then 0 else lf i) (s_wav s).length + 1 by omega, ← nj_s, Int32.add_assoc]
            have : (1 : Int32) + -1 = 0 := by decide
            rw [this, Int32.add_zero]
          rw [h1]
          exact this
        · rw [if_neg (by rw [hla, nj_le (by omega) (by omega)]; exact hfull)] at hps
          rw [Nat.min_eq_right (by omega), Nat.sub_self]
          have hl4' : ∀ i, Ia g4 1613 th i = if i = w then nI (a - r) else Ia g' 1613 th i := fun i => by rw [hl4 i, Nat.min_eq_right (by omega)]
          have hX4 : PX th g4 s (fun i => if i = w then nI (a - r) else lf i) en := fun i hi => by
            obtain ⟨y1, y2, y3⟩ := hx i hi
            rw [hl4' i, he4 i]
            by_cases u : i = w
            · simp only [if_pos u]
              refine ⟨trivial, fun z => ?_, a - r, by omega, rfl⟩
              have := (nj_le (b := 0) (show a - r < 2147483648 by omega) (by omega)).mp z
              omega
            · simp only [if_neg u]; exact ⟨y1, y2, y3⟩
          have hT := prT_up (f := lf) (f' := fun i => if i = w then nI (a - r) else lf i) (w := w) (fun i hi => if_neg hi) (n := (s_wav s).length) hwn
          have hCc := prC_up (f := lf) (f' := fun i => if i = w then nI (a - r) else lf i) (w := w) (fun i hi => if_neg hi) (n := (s_wav s).length) hwn
          rw [if_neg hs1] at hCc
          simp only [if_true] at hT hCc
          rw [if_neg (by rw [← hr0] at z; intro q; have := (nj_le (b := 0) (show a - r < 2147483648 by omega) (by omega)).mp q; omega)] at hCc
          rw [hla, nj_cl (by omega), nj_cl (by omega)] at hT
          have hps2 : prI s (k + 1) = (fun i => if i = w then nI (a - r) else lf i, nI (d + 1), s_prs s, en) := by
            rw [hps, hla, nj_sub (by omega), nj_s]
          have := h51 (k + 1) _ _ 0 g4 (.inr ⟨rfl, hps2⟩) hX4 hf4 (by omega) (by omega)
          refine ⟨fun _ => ?_, fun q => ?_⟩
          · unfold B_M_print_112
            refine ⟨hkd4, ma, s, hI4, hw, ?_⟩
            rw [sNx_cg (lf' := fun i => if i = w then nI (a - r) else lf i) (fun i hi => (hX4 i hi).1)]
            rw [show prC lf (s_wav s).length = prC (fun i => if i = w then nI (a - r) else lf i) (s_wav s).length by omega]
            exact this
          · exfalso
            have := (nj_eq (b := 0) (show a - r < 2147483648 by omega) (by omega)).mp q
            omega
  · unfold B_M_print_0
    rw [hI.wav.1]
    refine ⟨hI.1.1, fun x1 hx1 => ?_⟩
    exact ⟨_, rfl, hx1, 0, Nat.zero_le _, rfl, nj_0, FrX.rf, fun i hi => absurd hi (Nat.not_lt_zero _)⟩
abbrev ok_printed (s : ST) (p0 : Int32) : Prop := 0 ≤ p0 ∧ p0 ≤ nI (s_wav s).length - 1
noncomputable def p_printed (s : ST) (p0 : Int32) : Int32 := if ok_printed s p0 then prE s p0.toNatClampNeg else -1
def Sp_M_printed (Γ : GAM) (m : Nat) (p0 : Int32) (g : GH) (K : Int32 → GH → Prop) : Prop := ∃ ma s, RefI m ma g s ∧ WF s ∧ ∀ g', FrX m [] [1613, 1614] g g' → K (p_printed s p0) g'
-- the walk of M_printed
set_option maxRecDepth 100000 in
def B_M_printed_0 (Γ : GAM) (K : Int32 → GH → Prop) (th : Nat) (p0 : Int32) (g : GH) : Prop :=
  Kd g th = 13 ∧ Sp_M_in Γ p0 (0 : Int32) ((Gi g 1546 th) - (1 : Int32)) g (fun (x2 : Int32) (g1 : GH) => ((¬ (x2 = 0) → Kd g1 th = 13 ∧ Sp_M_print Γ th g1 (fun (g3 : GH) => Kd g3 th = 13 ∧ ∃ a4 : Nat, Gr g3 1614 th = some a4 ∧ Kd g3 a4 = 20 ∧ inB p0 (Ln g3 a4) ∧ K (Ia g3 (Co g3 a4) (Ow g3 a4) p0.toNatClampNeg) g3)) ∧ (x2 = 0 → K (-1 : Int32) g1)))
set_option maxHeartbeats 4000000 in
set_option maxRecDepth 100000 in
theorem S_M_printed_0 {Γ : GAM} {E : EV} {K : Int32 → GH → Prop} (hE : GE Γ E cX11_printed 2 RX11 (some (.int)) 2 55 (fun r g' => ∃ x, r = some (.int x) ∧ K x g')) (th : Nat) (p0 : Int32) (g : GH) (h : B_M_printed_0 Γ K th p0 g) : JW Γ E 0 [some (.ref th), some (.int p0)] [] g := by
  unfold B_M_printed_0 at h
  refine j_iload_n hE (by decide +kernel : decode cX11_printed 0 = .ok (.iload_n 1, 1)) rfl rfl ?_
  refine j_iconst hE (by decide +kernel : decode cX11_printed 1 = .ok (.iconst 0, 1)) (v := (0 : Int32)) (by decide) ?_
  refine j_aload_n hE (by decide +kernel : decode cX11_printed 2 = .ok (.aload_n 0, 1)) rfl rfl ?_
  obtain ⟨hk, h⟩ := h
  refine j_getI hE fg_X11_459 hk (by decide +kernel : decode cX11_printed 3 = .ok (.getfield 459, 3)) ?_
  refine j_iconst hE (by decide +kernel : decode cX11_printed 6 = .ok (.iconst 1, 1)) (v := (1 : Int32)) (by decide) ?_
  refine j_isub hE (by decide +kernel : decode cX11_printed 7 = .ok (.isub, 1)) ?_
  refine j_callS hE rfl cl_X11_213 st_X11_in ⟨by omega, by omega⟩ (As := [.int p0, .int (0 : Int32), .int ((Gi g 1546 th) - (1 : Int32))]) (rest := []) rfl rfl (Nat.le_of_ble_eq_true rfl) (by decide +kernel : decode cX11_printed 8 = .ok (.invokestatic 213, 3)) (mt_M_in _ _ _ _ _ h) ?_
  rintro _ g1 ⟨x2, rfl, h⟩
  refine j_if_ne hE (by decide +kernel : decode cX11_printed 11 = .ok (.ifCond .ne 5, 3)) (tgt := 16) (by decide) (fun q => ?_) (fun q => ?_)
  · replace h := h.1 q
    refine j_aload_n hE (by decide +kernel : decode cX11_printed 16 = .ok (.aload_n 0, 1)) rfl rfl ?_
    obtain ⟨hk, h⟩ := h
    refine j_callV hE rfl cl_X11_468 cf_12 im_X11_print se_X11_print ⟨by omega, by omega⟩ (As := []) (rest := []) rfl rfl (Nat.le_of_ble_eq_true rfl) hk (by decide +kernel : decode cX11_printed 17 = .ok (.invokevirtual 468, 3)) (mt_M_print _ _ _ h) ?_
    rintro _ g3 ⟨rfl, h⟩
    refine j_aload_n hE (by decide +kernel : decode cX11_printed 20 = .ok (.aload_n 0, 1)) rfl rfl ?_
    obtain ⟨hk, h⟩ := h
    obtain ⟨a4, ha, h⟩ := h
    refine j_getRn hE fg_X11_168 hk ha (by decide +kernel : decode cX11_printed 21 = .ok (.getfield 168, 3)) ?_
    refine j_iload_n hE (by decide +kernel : decode cX11_printed 24 = .ok (.iload_n 1, 1)) rfl rfl ?_
    obtain ⟨hk, hb, h⟩ := h
    refine j_iald hE hk hb (by decide +kernel : decode cX11_printed 25 = .ok (.iaload, 1)) ?_
    exact j_iret hE (by decide +kernel : decode cX11_printed 26 = .ok (.ireturn, 1)) ⟨_, rfl, h⟩
  · replace h := h.2 q
    refine j_iconst hE (by decide +kernel : decode cX11_printed 14 = .ok (.iconst (-1), 1)) (v := (-1 : Int32)) (by decide) ?_
    exact j_iret hE (by decide +kernel : decode cX11_printed 15 = .ok (.ireturn, 1)) ⟨_, rfl, h⟩
set_option maxHeartbeats 4000000 in
set_option maxRecDepth 100000 in
theorem rl_M_printed {Γ : GAM} {l : Launch} {th : Nat} {p0 : Int32} {g : GH} {K : Int32 → GH → Prop} (h0 : B_M_printed_0 Γ K th p0 g) : MetA Γ l yX11_printed cX11_printed 2 (some (.int)) 2 55 [.ref th, .int p0] g (fun r g' => ∃ x, r = some (.int x) ∧ K x g') := by
  refine MetA.introL (Lx := [some (.ref th), some (.int p0)]) (by decide) (Nat.le_of_ble_eq_true rfl) rfl rfl ?_
  intro E hEl hE hnm
  exact S_M_printed_0 hE th p0 g h0
theorem mt_M_printed {Γ : GAM} {l : Launch} (th : Nat) (p0 : Int32) (g : GH) (K : Int32 → GH → Prop) (h : Sp_M_printed Γ th p0 g K) : MetA Γ l yX11_printed cX11_printed 2 (some (.int)) 2 55 [.ref th, .int p0] g (fun r g' => ∃ x, r = some (.int x) ∧ K x g') := by
  obtain ⟨ma, s, hI, hw, hK⟩ := h
  have hkd := hI.1.1
  have hlen := hw.len.2.2.2.2.2.2.2.2.2.2.1
  refine rl_M_printed ?_
  unfold B_M_printed_0 Sp_M_in
  rw [hI.wav.1]
  refine ⟨hkd, fun u => ?_, fun u => ?_⟩
  · have hok : ok_printed s p0 := Classical.byContradiction (fun q => u (by rw [if_neg q]))
    have hlt := lt_of_in (by omega) hok
    refine ⟨hkd, ma, s, hI, hw, fun g2 hx2 he => ?_⟩
    have hI2 := hI.x hx2 (by decide +kernel)
    obtain ⟨hkd2, hS2⟩ := hI2.1
    obtain ⟨z_waveEnd1, z_waveEnd2, z_waveEnd3, z_waveEnd4, z_waveEnd5⟩ := hS2 1614 20 12 rfl
    refine ⟨hkd2, _, z_waveEnd1, z_waveEnd2, by rw [z_waveEnd5]; exact ⟨hok.1, by omega⟩, ?_⟩
    rw [z_waveEnd3, z_waveEnd4, he _ hlt]
    have := hK g2 hx2
    unfold p_printed at this
    rw [if_pos hok] at this
    exact this
  · have := hK g FrX.rf
    unfold p_printed at this
    rw [if_neg (fun q => by rw [if_pos q] at u; exact absurd u (by decide))] at this
    exact this
noncomputable def ltS (s : ST) (a : Int32) (p : Wv × Nat) : Int32 := if a < prE s p.2 - p.1.2.2 then prE s p.2 - p.1.2.2 else a
noncomputable def p_latest (s : ST) : Int32 := (s_wav s).zipIdx.foldl (ltS s) 0
def Sp_M_latest (Γ : GAM) (m : Nat) (g : GH) (K : Int32 → GH → Prop) : Prop := ∃ ma s, RefI m ma g s ∧ WF s ∧ ∀ g', FrX m [] [1613, 1614] g g' → K (p_latest s) g'
-- the walk of M_latest
set_option maxRecDepth 100000 in
def B_M_latest_8 (Γ : GAM) (K8 : Nat → Int32 → Int32 → GH → Prop) (K : Int32 → GH → Prop) (l0 : Nat) (l1 : Int32) (l2 : Int32) (g : GH) : Prop :=
  Kd g l0 = 13 ∧ (((Gi g 1546 l0) ≤ l2 → K l1 g) ∧ (¬ ((Gi g 1546 l0) ≤ l2) → Kd g l0 = 13 ∧ ∃ a1 : Nat, Gr g 1614 l0 = some a1 ∧ Kd g a1 = 20 ∧ inB l2 (Ln g a1) ∧ Kd g l0 = 13 ∧ ∃ a2 : Nat, Gr g 1612 l0 = some a2 ∧ Kd g a2 = 20 ∧ inB l2 (Ln g a2) ∧ ∀ x3 : Int32, x3 = (if l1 < ((Ia g (Co g a1) (Ow g a1) l2.toNatClampNeg) - (Ia g (Co g a2) (Ow g a2) l2.toNatClampNeg)) then ((Ia g (Co g a1) (Ow g a1) l2.toNatClampNeg) - (Ia g (Co g a2) (Ow g a2) l2.toNatClampNeg)) else l1) → K8 l0 x3 (l2 + (1 : Int32)) g))
set_option maxHeartbeats 4000000 in
set_option maxRecDepth 100000 in
theorem S_M_latest_8 {Γ : GAM} {E : EV} {K : Int32 → GH → Prop} (hE : GE Γ E cX11_latest 3 RX11 (some (.int)) 2 55 (fun r g' => ∃ x, r = some (.int x) ∧ K x g')) {K8 : Nat → Int32 → Int32 → GH → Prop} (hK8 : ∀ (l0 : Nat) (l1 : Int32) (l2 : Int32) (g : GH), K8 l0 l1 l2 g → JW Γ E 8 [some (.ref l0), some (.int l1), some (.int l2)] [] g) (l0 : Nat) (l1 : Int32) (l2 : Int32) (g : GH) (h : B_M_latest_8 Γ K8 K l0 l1 l2 g) : JW Γ E 8 [some (.ref l0), some (.int l1), some (.int l2)] [] g := by
  unfold B_M_latest_8 at h
  refine j_iload_n hE (by decide +kernel : decode cX11_latest 8 = .ok (.iload_n 2, 1)) rfl rfl ?_
  refine j_aload_n hE (by decide +kernel : decode cX11_latest 9 = .ok (.aload_n 0, 1)) rfl rfl ?_
  obtain ⟨hk, h⟩ := h
  refine j_getI hE fg_X11_459 hk (by decide +kernel : decode cX11_latest 10 = .ok (.getfield 459, 3)) ?_
  refine j_icmp_ge hE (by decide +kernel : decode cX11_latest 13 = .ok (.if_icmp .ge 27, 3)) (tgt := 40) (by decide) (fun q => ?_) (fun q => ?_)
  · replace h := h.1 q
    refine j_iload_n hE (by decide +kernel : decode cX11_latest 40 = .ok (.iload_n 1, 1)) rfl rfl ?_
    exact j_iret hE (by decide +kernel : decode cX11_latest 41 = .ok (.ireturn, 1)) ⟨_, rfl, h⟩
  · replace h := h.2 q
    refine j_iload_n hE (by decide +kernel : decode cX11_latest 16 = .ok (.iload_n 1, 1)) rfl rfl ?_
    refine j_aload_n hE (by decide +kernel : decode cX11_latest 17 = .ok (.aload_n 0, 1)) rfl rfl ?_
    obtain ⟨hk, h⟩ := h
    obtain ⟨a1, ha, h⟩ := h
    refine j_getRn hE fg_X11_168 hk ha (by decide +kernel : decode cX11_latest 18 = .ok (.getfield 168, 3)) ?_
    refine j_iload_n hE (by decide +kernel : decode cX11_latest 21 = .ok (.iload_n 2, 1)) rfl rfl ?_
    obtain ⟨hk, hb, h⟩ := h
    refine j_iald hE hk hb (by decide +kernel : decode cX11_latest 22 = .ok (.iaload, 1)) ?_
    refine j_aload_n hE (by decide +kernel : decode cX11_latest 23 = .ok (.aload_n 0, 1)) rfl rfl ?_
    obtain ⟨hk, h⟩ := h
    obtain ⟨a2, ha, h⟩ := h
    refine j_getRn hE fg_X11_162 hk ha (by decide +kernel : decode cX11_latest 24 = .ok (.getfield 162, 3)) ?_
    refine j_iload_n hE (by decide +kernel : decode cX11_latest 27 = .ok (.iload_n 2, 1)) rfl rfl ?_
    obtain ⟨hk, hb, h⟩ := h
    refine j_iald hE hk hb (by decide +kernel : decode cX11_latest 28 = .ok (.iaload, 1)) ?_
    refine j_isub hE (by decide +kernel : decode cX11_latest 29 = .ok (.isub, 1)) ?_
    refine j_mmax hE rfl ml_X11_269 st_J9_max_7cf53 in_Math co_J9_max_7cf53 (Nat.le_of_ble_eq_true rfl) (by omega) (by omega) (by decide +kernel : decode cX11_latest 30 = .ok (.invokestatic 269, 3)) ?_
    obtain ⟨x3, hx⟩ : ∃ z, z = (if l1 < ((Ia g (Co g a1) (Ow g a1) l2.toNatClampNeg) - (Ia g (Co g a2) (Ow g a2) l2.toNatClampNeg)) then ((Ia g (Co g a1) (Ow g a1) l2.toNatClampNeg) - (Ia g (Co g a2) (Ow g a2) l2.toNatClampNeg)) else l1) := ⟨_, rfl⟩; replace h := h x3 hx; rw [← hx]
    refine j_istore_n hE (by decide +kernel : decode cX11_latest 33 = .ok (.istore_n 1, 1)) rfl (Nat.le_of_ble_eq_true rfl) rfl ?_
    refine j_iinc hE (by decide +kernel : decode cX11_latest 34 = .ok (.iinc 2 1, 3)) (v := (1 : Int32)) (by decide) rfl (Nat.le_of_ble_eq_true rfl) rfl ?_
    refine j_goto hE (by decide +kernel : decode cX11_latest 37 = .ok (.goto (-29), 3)) (tgt := 8) (by decide) ?_
    exact hK8 _ _ _ _ h
set_option maxRecDepth 100000 in
def B_M_latest_0 (Γ : GAM) (K8 : Nat → Int32 → Int32 → GH → Prop) (K : Int32 → GH → Prop) (th : Nat) (g : GH) : Prop :=
  Kd g th = 13 ∧ Sp_M_print Γ th g (fun (g1 : GH) => K8 th (0 : Int32) (0 : Int32) g1)
set_option maxHeartbeats 4000000 in
set_option maxRecDepth 100000 in
theorem S_M_latest_0 {Γ : GAM} {E : EV} {K : Int32 → GH → Prop} (hE : GE Γ E cX11_latest 3 RX11 (some (.int)) 2 55 (fun r g' => ∃ x, r = some (.int x) ∧ K x g')) {K8 : Nat → Int32 → Int32 → GH → Prop} (hK8 : ∀ (l0 : Nat) (l1 : Int32) (l2 : Int32) (g : GH), K8 l0 l1 l2 g → JW Γ E 8 [some (.ref l0), some (.int l1), some (.int l2)] [] g) (th : Nat) (g : GH) (h : B_M_latest_0 Γ K8 K th g) : JW Γ E 0 [some (.ref th), none, none] [] g := by
  unfold B_M_latest_0 at h
  refine j_aload_n hE (by decide +kernel : decode cX11_latest 0 = .ok (.aload_n 0, 1)) rfl rfl ?_
  obtain ⟨hk, h⟩ := h
  refine j_callV hE rfl cl_X11_468 cf_12 im_X11_print se_X11_print ⟨by omega, by omega⟩ (As := []) (rest := []) rfl rfl (Nat.le_of_ble_eq_true rfl) hk (by decide +kernel : decode cX11_latest 1 = .ok (.invokevirtual 468, 3)) (mt_M_print _ _ _ h) ?_
  rintro _ g1 ⟨rfl, h⟩
  refine j_iconst hE (by decide +kernel : decode cX11_latest 4 = .ok (.iconst 0, 1)) (v := (0 : Int32)) (by decide) ?_
  refine j_istore_n hE (by decide +kernel : decode cX11_latest 5 = .ok (.istore_n 1, 1)) rfl (Nat.le_of_ble_eq_true rfl) rfl ?_
  refine j_iconst hE (by decide +kernel : decode cX11_latest 6 = .ok (.iconst 0, 1)) (v := (0 : Int32)) (by decide) ?_
  refine j_istore_n hE (by decide +kernel : decode cX11_latest 7 = .ok (.istore_n 2, 1)) rfl (Nat.le_of_ble_eq_true rfl) rfl ?_
  exact hK8 _ _ _ _ h
set_option maxHeartbeats 4000000 in
set_option maxRecDepth 100000 in
theorem rl_M_latest {Γ : GAM} {l : Launch} {th : Nat} {g : GH} {K : Int32 → GH → Prop} (I8 : Nat → Nat → Int32 → Int32 → GH → Prop) (hh8 : ∀ n (l0 : Nat) (l1 : Int32) (l2 : Int32) (g : GH), I8 n l0 l1 l2 g → B_M_latest_8 Γ (fun l0 l1 l2 g => ∃ m, m < n ∧ I8 m l0 l1 l2 g) K l0 l1 l2 g) (h0 : B_M_latest_0 Γ (fun l0 l1 l2 g => ∃ m, I8 m l0 l1 l2 g) K th g) : MetA Γ l yX11_latest cX11_latest 3 (some (.int)) 2 55 [.ref th] g (fun r g' => ∃ x, r = some (.int x) ∧ K x g') := by
  refine MetA.introL (Lx := [some (.ref th), none, none]) (by decide) (Nat.le_of_ble_eq_true rfl) rfl rfl ?_
  intro E hEl hE hnm
  have hall : ∀ n, (∀ (l0 : Nat) (l1 : Int32) (l2 : Int32) (g : GH), I8 n l0 l1 l2 g → JW Γ E 8 [some (.ref l0), some (.int l1), some (.int l2)] [] g) := by
    intro n
    induction n using Nat.strongRecOn with
    | ind n ih =>
      exact fun l0 l1 l2 g hi => S_M_latest_8 hE (fun l0 l1 l2 g hm => by obtain ⟨m, hm, h⟩ := hm; exact (ih m hm) l0 l1 l2 g h) l0 l1 l2 g (hh8 n l0 l1 l2 g hi)
  exact S_M_latest_0 hE (fun l0 l1 l2 g hm => by obtain ⟨m, h⟩ := hm; exact (hall m) l0 l1 l2 g h) th g h0
theorem mt_M_latest {Γ : GAM} {l : Launch} (th : Nat) (g : GH) (K : Int32 → GH → Prop) (h : Sp_M_latest Γ th g K) : MetA Γ l yX11_latest cX11_latest 3 (some (.int)) 2 55 [.ref th] g (fun r g' => ∃ x, r = some (.int x) ∧ K x g') := by
  obtain ⟨ma, s, hI, hw, hK⟩ := h
  have hkd := hI.1.1
  have hlen := hw.len.2.2.2.2.2.2.2.2.2.2.1
  refine rl_M_latest (fun n l0 l1 l2 g' => th = l0 ∧ ∃ k, k ≤ (s_wav s).length ∧ n = (s_wav s).length - k ∧ l2 = nI k ∧ FrX th [] [1613, 1614] g g' ∧ (∀ w, w < (s_wav s).length → Ia g' 1614 th w = prE s w) ∧ l1 = ((s_wav s).zipIdx.take k).foldl (ltS s) 0) ?_ ?_
  · rintro n l0 l1 l2 g' ⟨rfl, k, hk, rfl, rfl, hfx, he, rfl⟩
    have hI' := hI.x hfx (by decide +kernel)
    obtain ⟨hkd', hS⟩ := hI'.1
    obtain ⟨f1, f2, f3⟩ := hI'.wav
    obtain ⟨z_waveEnd1, z_waveEnd2, z_waveEnd3, z_waveEnd4, z_waveEnd5⟩ := hS 1614 20 12 rfl
    obtain ⟨z_waveDue1, z_waveDue2, z_waveDue3, z_waveDue4, z_waveDue5⟩ := hS 1612 20 12 rfl
    suffices H : ∀ (K8 : Nat → Int32 → Int32 → GH → Prop), (k < (s_wav s).length → K8 th (((s_wav s).zipIdx.take (k + 1)).foldl (ltS s) 0) (nI (k + 1)) g') → B_M_latest_8 Γ K8 K th (((s_wav s).zipIdx.take k).foldl (ltS s) 0) (nI k) g' from
      H _ (fun hlt => ⟨(s_wav s).length - (k + 1), by omega, rfl, k + 1, by omega, rfl, rfl, hfx, he, rfl⟩)
    intro K8 h8
    unfold B_M_latest_8
    simp only [hkd', f1, z_waveEnd1, z_waveEnd2, z_waveEnd3, z_waveEnd4, z_waveEnd5, z_waveDue1, z_waveDue2, z_waveDue3, z_waveDue4, z_waveDue5, Option.some.injEq, exists_eq_left', true_and, nj_s, nj_cl (show k < 2147483648 by omega), nj_le (show (s_wav s).length < 2147483648 by omega) (show k < 2147483648 by omega)]
    refine ⟨fun z => ?_, fun z => ?_⟩
    · have hz : (s_wav s).zipIdx.take k = (s_wav s).zipIdx := List.take_of_length_le (by rw [List.length_zipIdx]; exact z)
      rw [hz]
      exact hK g' hfx
    · have hlt : k < (s_wav s).length := by omega
      obtain ⟨x, hx⟩ := get_lt hlt
      refine ⟨inB_nI (by omega) (by omega), inB_nI (by omega) (by omega), fun x3 hx3 => ?_⟩
      have := h8 hlt
      rw [fold_take _ _ _ (zip_get hx)] at this
      rw [hx3, he k hlt, (f3 k x hx).2.2]
      exact this
  · unfold B_M_latest_0
    refine ⟨hkd, ma, s, hI, hw, fun g2 hx2 he => ?_⟩
    exact ⟨_, rfl, 0, Nat.zero_le _, rfl, nj_0, hx2, he, rfl⟩
