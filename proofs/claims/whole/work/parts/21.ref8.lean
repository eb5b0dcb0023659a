/-! the reference: laws in force; shire; sealed -/
abbrev La5 : Type := Int32 × Int32 × Int32 × List (List Int32 × Int32 × List Int32)
def laB (a : Option (Nat × La5)) (d : Int32) : Bool := match a with
  | none => true
  | some b => decide (b.2.2.1 ≤ d)
def laS (sh d q : Int32) (a : Option (Nat × La5)) (p : La5 × Nat) : Option (Nat × La5) := if p.1.1 = sh ∧ p.1.2.2.1 ≤ q ∧ p.1.2.1 ≤ d ∧ laB a p.1.2.1 = true then some (p.2, p.1) else a
def sLaw (s : ST) (sh d q : Int32) : Option (Nat × La5) := (s_law s).zipIdx.foldl (laS sh d q) none
theorem sLaw_get {s : ST} {e k q : Int32} {j : Nat} {x : La5} (h : sLaw s e k q = some (j, x)) : (s_law s)[j]? = some x :=
  fold_row _ (laS e k q) (fun a p => by unfold laS; split <;> simp) h
def Sp_M_lawOn (Γ : GAM) (m : Nat) (sh d q : Int32) (g : GH) (K : Int32 → GH → Prop) : Prop := ∃ ma s, RefI m ma g s ∧ K (oI (sLaw s sh d q)) g
-- the walk of M_lawOn
set_option maxRecDepth 100000 in
def B_M_lawOn_75 (Γ : GAM) (K6 : Nat → Int32 → Int32 → Int32 → Int32 → Int32 → GH → Prop) (K : Int32 → GH → Prop) (l0 : Nat) (l1 : Int32) (l2 : Int32) (l3 : Int32) (l4 : Int32) (l5 : Int32) (g : GH) : Prop :=
  K6 l0 l1 l2 l3 l4 (l5 + (1 : Int32)) g
set_option maxHeartbeats 4000000 in
set_option maxRecDepth 100000 in
theorem S_M_lawOn_75 {Γ : GAM} {E : EV} {K : Int32 → GH → Prop} (hE : GE Γ E cX11_lawOn 6 RX11 (some (.int)) 0 0 (fun r g' => ∃ x, r = some (.int x) ∧ K x g')) {K6 : Nat → Int32 → Int32 → Int32 → Int32 → Int32 → GH → Prop} (hK6 : ∀ (l0 : Nat) (l1 : Int32) (l2 : Int32) (l3 : Int32) (l4 : Int32) (l5 : Int32) (g : GH), K6 l0 l1 l2 l3 l4 l5 g → JW Γ E 6 [some (.ref l0), some (.int l1), some (.int l2), some (.int l3), some (.int l4), some (.int l5)] [] g) (l0 : Nat) (l1 : Int32) (l2 : Int32) (l3 : Int32) (l4 : Int32) (l5 : Int32) (g : GH) (h : B_M_lawOn_75 Γ K6 K l0 l1 l2 l3 l4 l5 g) : JW Γ E 75 [some (.ref l0), some (.int l1), some (.int l2), some (.int l3), some (.int l4), some (.int l5)] [] g := by
  unfold B_M_lawOn_75 at h
  refine j_iinc hE (by decide +kernel : decode cX11_lawOn 75 = .ok (.iinc 5 1, 3)) (v := (1 : Int32)) (by decide) rfl (Nat.le_of_ble_eq_true rfl) rfl ?_
  refine j_goto hE (by decide +kernel : decode cX11_lawOn 78 = .ok (.goto (-72), 3)) (tgt := 6) (by decide) ?_
  exact hK6 _ _ _ _ _ _ _ h
set_option maxRecDepth 100000 in
def B_M_lawOn_71 (Γ : GAM) (K6 : Nat → Int32 → Int32 → Int32 → Int32 → Int32 → GH → Prop) (K : Int32 → GH → Prop) (l0 : Nat) (l1 : Int32) (l2 : Int32) (l3 : Int32) (l5 : Int32) (g : GH) : Prop :=
  B_M_lawOn_75 Γ K6 K l0 l1 l2 l3 l5 l5 g
set_option maxHeartbeats 4000000 in
set_option maxRecDepth 100000 in
theorem S_M_lawOn_71 {Γ : GAM} {E : EV} {K : Int32 → GH → Prop} (hE : GE Γ E cX11_lawOn 6 RX11 (some (.int)) 0 0 (fun r g' => ∃ x, r = some (.int x) ∧ K x g')) {K6 : Nat → Int32 → Int32 → Int32 → Int32 → Int32 → GH → Prop} (hK6 : ∀ (l0 : Nat) (l1 : Int32) (l2 : Int32) (l3 : Int32) (l4 : Int32) (l5 : Int32) (g : GH), K6 l0 l1 l2 l3 l4 l5 g → JW Γ E 6 [some (.ref l0), some (.int l1), some (.int l2), some (.int l3), some (.int l4), some (.int l5)] [] g) (l0 : Nat) (l1 : Int32) (l2 : Int32) (l3 : Int32) (l5 : Int32) (g : GH) (h : B_M_lawOn_71 Γ K6 K l0 l1 l2 l3 l5 g) : JW Γ E 71 [some (.ref l0), some (.int l1), some (.int l2), some (.int l3), none, some (.int l5)] [] g := by
  unfold B_M_lawOn_71 at h
  refine j_iload hE (by decide +kernel : decode cX11_lawOn 71 = .ok (.iload 5, 2)) rfl ?_
  refine j_istore hE (by decide +kernel : decode cX11_lawOn 73 = .ok (.istore 4, 2)) (Nat.le_of_ble_eq_true rfl) rfl ?_
  exact S_M_lawOn_75 hE hK6 _ _ _ _ _ _ _ h
set_option maxRecDepth 100000 in
def B_M_lawOn_6 (Γ : GAM) (K6 : Nat → Int32 → Int32 → Int32 → Int32 → Int32 → GH → Prop) (K : Int32 → GH → Prop) (l0 : Nat) (l1 : Int32) (l2 : Int32) (l3 : Int32) (l4 : Int32) (l5 : Int32) (g : GH) : Prop :=
  Kd g l0 = 13 ∧ (((Gi g 1545 l0) ≤ l5 → K l4 g) ∧ (¬ ((Gi g 1545 l0) ≤ l5) → Kd g l0 = 13 ∧ ∃ a1 : Nat, Gr g 1584 l0 = some a1 ∧ Kd g a1 = 20 ∧ inB l5 (Ln g a1) ∧ ((¬ ((Ia g (Co g a1) (Ow g a1) l5.toNatClampNeg) = l1) → B_M_lawOn_75 Γ K6 K l0 l1 l2 l3 l4 l5 g) ∧ ((Ia g (Co g a1) (Ow g a1) l5.toNatClampNeg) = l1 → Kd g l0 = 13 ∧ ∃ a2 : Nat, Gr g 1586 l0 = some a2 ∧ Kd g a2 = 20 ∧ inB l5 (Ln g a2) ∧ ((l3 < (Ia g (Co g a2) (Ow g a2) l5.toNatClampNeg) → B_M_lawOn_75 Γ K6 K l0 l1 l2 l3 l4 l5 g) ∧ (¬ (l3 < (Ia g (Co g a2) (Ow g a2) l5.toNatClampNeg)) → Kd g l0 = 13 ∧ ∃ a3 : Nat, Gr g 1585 l0 = some a3 ∧ Kd g a3 = 20 ∧ inB l5 (Ln g a3) ∧ ((l2 < (Ia g (Co g a3) (Ow g a3) l5.toNatClampNeg) → B_M_lawOn_75 Γ K6 K l0 l1 l2 l3 l4 l5 g) ∧ (¬ (l2 < (Ia g (Co g a3) (Ow g a3) l5.toNatClampNeg)) → ((l4 = (-1 : Int32) → B_M_lawOn_71 Γ K6 K l0 l1 l2 l3 l5 g) ∧ (¬ (l4 = (-1 : Int32)) → Kd g l0 = 13 ∧ ∃ a4 : Nat, Gr g 1585 l0 = some a4 ∧ Kd g a4 = 20 ∧ inB l5 (Ln g a4) ∧ Kd g l0 = 13 ∧ ∃ a5 : Nat, Gr g 1585 l0 = some a5 ∧ Kd g a5 = 20 ∧ inB l4 (Ln g a5) ∧ (((Ia g (Co g a4) (Ow g a4) l5.toNatClampNeg) < (Ia g (Co g a5) (Ow g a5) l4.toNatClampNeg) → B_M_lawOn_75 Γ K6 K l0 l1 l2 l3 l4 l5 g) ∧ (¬ ((Ia g (Co g a4) (Ow g a4) l5.toNatClampNeg) < (Ia g (Co g a5) (Ow g a5) l4.toNatClampNeg)) → B_M_lawOn_71 Γ K6 K l0 l1 l2 l3 l5 g))))))))))))
set_option maxHeartbeats 4000000 in
set_option maxRecDepth 100000 in
theorem S_M_lawOn_6 {Γ : GAM} {E : EV} {K : Int32 → GH → Prop} (hE : GE Γ E cX11_lawOn 6 RX11 (some (.int)) 0 0 (fun r g' => ∃ x, r = some (.int x) ∧ K x g')) {K6 : Nat → Int32 → Int32 → Int32 → Int32 → Int32 → GH → Prop} (hK6 : ∀ (l0 : Nat) (l1 : Int32) (l2 : Int32) (l3 : Int32) (l4 : Int32) (l5 : Int32) (g : GH), K6 l0 l1 l2 l3 l4 l5 g → JW Γ E 6 [some (.ref l0), some (.int l1), some (.int l2), some (.int l3), some (.int l4), some (.int l5)] [] g) (l0 : Nat) (l1 : Int32) (l2 : Int32) (l3 : Int32) (l4 : Int32) (l5 : Int32) (g : GH) (h : B_M_lawOn_6 Γ K6 K l0 l1 l2 l3 l4 l5 g) : JW Γ E 6 [some (.ref l0), some (.int l1), some (.int l2), some (.int l3), some (.int l4), some (.int l5)] [] g := by
  unfold B_M_lawOn_6 at h
  refine j_iload hE (by decide +kernel : decode cX11_lawOn 6 = .ok (.iload 5, 2)) rfl ?_
  refine j_aload_n hE (by decide +kernel : decode cX11_lawOn 8 = .ok (.aload_n 0, 1)) rfl rfl ?_
  obtain ⟨hk, h⟩ := h
  refine j_getI hE fg_X11_364 hk (by decide +kernel : decode cX11_lawOn 9 = .ok (.getfield 364, 3)) ?_
  refine j_icmp_ge hE (by decide +kernel : decode cX11_lawOn 12 = .ok (.if_icmp .ge 69, 3)) (tgt := 81) (by decide) (fun q => ?_) (fun q => ?_)
  · replace h := h.1 q
    refine j_iload hE (by decide +kernel : decode cX11_lawOn 81 = .ok (.iload 4, 2)) rfl ?_
    exact j_iret hE (by decide +kernel : decode cX11_lawOn 83 = .ok (.ireturn, 1)) ⟨_, rfl, h⟩
  · replace h := h.2 q
    refine j_aload_n hE (by decide +kernel : decode cX11_lawOn 15 = .ok (.aload_n 0, 1)) rfl rfl ?_
    obtain ⟨hk, h⟩ := h
    obtain ⟨a1, ha, h⟩ := h
    refine j_getRn hE fg_X11_114 hk ha (by decide +kernel : decode cX11_lawOn 16 = .ok (.getfield 114, 3)) ?_
    refine j_iload hE (by decide +kernel : decode cX11_lawOn 19 = .ok (.iload 5, 2)) rfl ?_
    obtain ⟨hk, hb, h⟩ := h
    refine j_iald hE hk hb (by decide +kernel : decode cX11_lawOn 21 = .ok (.iaload, 1)) ?_
    refine j_iload_n hE (by decide +kernel : decode cX11_lawOn 22 = .ok (.iload_n 1, 1)) rfl rfl ?_
    refine j_icmp_ne hE (by decide +kernel : decode cX11_lawOn 23 = .ok (.if_icmp .ne 52, 3)) (tgt := 75) (by decide) (fun q => ?_) (fun q => ?_)
    · replace h := h.1 q
      exact S_M_lawOn_75 hE hK6 _ _ _ _ _ _ _ h
    · replace h := h.2 q
      refine j_aload_n hE (by decide +kernel : decode cX11_lawOn 26 = .ok (.aload_n 0, 1)) rfl rfl ?_
      obtain ⟨hk, h⟩ := h
      obtain ⟨a2, ha, h⟩ := h
      refine j_getRn hE fg_X11_120 hk ha (by decide +kernel : decode cX11_lawOn 27 = .ok (.getfield 120, 3)) ?_
      refine j_iload hE (by decide +kernel : decode cX11_lawOn 30 = .ok (.iload 5, 2)) rfl ?_
      obtain ⟨hk, hb, h⟩ := h
      refine j_iald hE hk hb (by decide +kernel : decode cX11_lawOn 32 = .ok (.iaload, 1)) ?_
      refine j_iload_n hE (by decide +kernel : decode cX11_lawOn 33 = .ok (.iload_n 3, 1)) rfl rfl ?_
      refine j_icmp_gt hE (by decide +kernel : decode cX11_lawOn 34 = .ok (.if_icmp .gt 41, 3)) (tgt := 75) (by decide) (fun q => ?_) (fun q => ?_)
      · replace h := h.1 q
        exact S_M_lawOn_75 hE hK6 _ _ _ _ _ _ _ h
      · replace h := h.2 q
        refine j_aload_n hE (by decide +kernel : decode cX11_lawOn 37 = .ok (.aload_n 0, 1)) rfl rfl ?_
        obtain ⟨hk, h⟩ := h
        obtain ⟨a3, ha, h⟩ := h
        refine j_getRn hE fg_X11_117 hk ha (by decide +kernel : decode cX11_lawOn 38 = .ok (.getfield 117, 3)) ?_
        refine j_iload hE (by decide +kernel : decode cX11_lawOn 41 = .ok (.iload 5, 2)) rfl ?_
        obtain ⟨hk, hb, h⟩ := h
        refine j_iald hE hk hb (by decide +kernel : decode cX11_lawOn 43 = .ok (.iaload, 1)) ?_
        refine j_iload_n hE (by decide +kernel : decode cX11_lawOn 44 = .ok (.iload_n 2, 1)) rfl rfl ?_
        refine j_icmp_gt hE (by decide +kernel : decode cX11_lawOn 45 = .ok (.if_icmp .gt 30, 3)) (tgt := 75) (by decide) (fun q => ?_) (fun q => ?_)
        · replace h := h.1 q
          exact S_M_lawOn_75 hE hK6 _ _ _ _ _ _ _ h
        · replace h := h.2 q
          refine j_iload hE (by decide +kernel : decode cX11_lawOn 48 = .ok (.iload 4, 2)) rfl ?_
          refine j_iconst hE (by decide +kernel : decode cX11_lawOn 50 = .ok (.iconst (-1), 1)) (v := (-1 : Int32)) (by decide) ?_
          refine j_icmp_eq hE (by decide +kernel : decode cX11_lawOn 51 = .ok (.if_icmp .eq 20, 3)) (tgt := 71) (by decide) (fun q => ?_) (fun q => ?_)
          · replace h := h.1 q
            refine j_weak [some (.ref l0), some (.int l1), some (.int l2), some (.int l3), none, some (.int l5)] ⟨rfl, ⟨rfl, ⟨rfl, ⟨rfl, ⟨rfl, trivial⟩⟩⟩⟩⟩ ?_
            exact S_M_lawOn_71 hE hK6 _ _ _ _ _ _ h
          · replace h := h.2 q
            refine j_aload_n hE (by decide +kernel : decode cX11_lawOn 54 = .ok (.aload_n 0, 1)) rfl rfl ?_
            obtain ⟨hk, h⟩ := h
            obtain ⟨a4, ha, h⟩ := h
            refine j_getRn hE fg_X11_117 hk ha (by decide +kernel : decode cX11_lawOn 55 = .ok (.getfield 117, 3)) ?_
            refine j_iload hE (by decide +kernel : decode cX11_lawOn 58 = .ok (.iload 5, 2)) rfl ?_
            obtain ⟨hk, hb, h⟩ := h
            refine j_iald hE hk hb (by decide +kernel : decode cX11_lawOn 60 = .ok (.iaload, 1)) ?_
            refine j_aload_n hE (by decide +kernel : decode cX11_lawOn 61 = .ok (.aload_n 0, 1)) rfl rfl ?_
            obtain ⟨hk, h⟩ := h
            obtain ⟨a5, ha, h⟩ := h
            refine j_getRn hE fg_X11_117 hk ha (by decide +kernel : decode cX11_lawOn 62 = .ok (.getfield 117, 3)) ?_
            refine j_iload hE (by decide +kernel : decode cX11_lawOn 65 = .ok (.iload 4, 2)) rfl ?_
            obtain ⟨hk, hb, h⟩ := h
            refine j_iald hE hk hb (by decide +kernel : decode cX11_lawOn 67 = .ok (.iaload, 1)) ?_
            refine j_icmp_lt hE (by decide +kernel : decode cX11_lawOn 68 = .ok (.if_icmp .lt 7, 3)) (tgt := 75) (by decide) (fun q => ?_) (fun q => ?_)
            · replace h := h.1 q
              exact S_M_lawOn_75 hE hK6 _ _ _ _ _ _ _ h
            · replace h := h.2 q
              refine j_weak [some (.ref l0), some (.int l1), some (.int l2), some (.int l3), none, some (.int l5)] ⟨rfl, ⟨rfl, ⟨rfl, ⟨rfl, ⟨rfl, trivial⟩⟩⟩⟩⟩ ?_
              exact S_M_lawOn_71 hE hK6 _ _ _ _ _ _ h
set_option maxRecDepth 100000 in
def B_M_lawOn_0 (Γ : GAM) (K6 : Nat → Int32 → Int32 → Int32 → Int32 → Int32 → GH → Prop) (K : Int32 → GH → Prop) (th : Nat) (p0 : Int32) (p1 : Int32) (p2 : Int32) (g : GH) : Prop :=
  K6 th p0 p1 p2 (-1 : Int32) (0 : Int32) g
set_option maxHeartbeats 4000000 in
set_option maxRecDepth 100000 in
theorem S_M_lawOn_0 {Γ : GAM} {E : EV} {K : Int32 → GH → Prop} (hE : GE Γ E cX11_lawOn 6 RX11 (some (.int)) 0 0 (fun r g' => ∃ x, r = some (.int x) ∧ K x g')) {K6 : Nat → Int32 → Int32 → Int32 → Int32 → Int32 → GH → Prop} (hK6 : ∀ (l0 : Nat) (l1 : Int32) (l2 : Int32) (l3 : Int32) (l4 : Int32) (l5 : Int32) (g : GH), K6 l0 l1 l2 l3 l4 l5 g → JW Γ E 6 [some (.ref l0), some (.int l1), some (.int l2), some (.int l3), some (.int l4), some (.int l5)] [] g) (th : Nat) (p0 : Int32) (p1 : Int32) (p2 : Int32) (g : GH) (h : B_M_lawOn_0 Γ K6 K th p0 p1 p2 g) : JW Γ E 0 [some (.ref th), some (.int p0), some (.int p1), some (.int p2), none, none] [] g := by
  unfold B_M_lawOn_0 at h
  refine j_iconst hE (by decide +kernel : decode cX11_lawOn 0 = .ok (.iconst (-1), 1)) (v := (-1 : Int32)) (by decide) ?_
  refine j_istore hE (by decide +kernel : decode cX11_lawOn 1 = .ok (.istore 4, 2)) (Nat.le_of_ble_eq_true rfl) rfl ?_
  refine j_iconst hE (by decide +kernel : decode cX11_lawOn 3 = .ok (.iconst 0, 1)) (v := (0 : Int32)) (by decide) ?_
  refine j_istore hE (by decide +kernel : decode cX11_lawOn 4 = .ok (.istore 5, 2)) (Nat.le_of_ble_eq_true rfl) rfl ?_
  exact hK6 _ _ _ _ _ _ _ h
set_option maxHeartbeats 4000000 in
set_option maxRecDepth 100000 in
theorem rl_M_lawOn {Γ : GAM} {l : Launch} {th : Nat} {p0 : Int32} {p1 : Int32} {p2 : Int32} {g : GH} {K : Int32 → GH → Prop} (I6 : Nat → Nat → Int32 → Int32 → Int32 → Int32 → Int32 → GH → Prop) (hh6 : ∀ n (l0 : Nat) (l1 : Int32) (l2 : Int32) (l3 : Int32) (l4 : Int32) (l5 : Int32) (g : GH), I6 n l0 l1 l2 l3 l4 l5 g → B_M_lawOn_6 Γ (fun l0 l1 l2 l3 l4 l5 g => ∃ m, m < n ∧ I6 m l0 l1 l2 l3 l4 l5 g) K l0 l1 l2 l3 l4 l5 g) (h0 : B_M_lawOn_0 Γ (fun l0 l1 l2 l3 l4 l5 g => ∃ m, I6 m l0 l1 l2 l3 l4 l5 g) K th p0 p1 p2 g) : MetA Γ l yX11_lawOn cX11_lawOn 6 (some (.int)) 0 0 [.ref th, .int p0, .int p1, .int p2] g (fun r g' => ∃ x, r = some (.int x) ∧ K x g') := by
  refine MetA.introL (Lx := [some (.ref th), some (.int p0), some (.int p1), some (.int p2), none, none]) (by decide) (Nat.le_of_ble_eq_true rfl) rfl rfl ?_
  intro E hEl hE hnm
  have hall : ∀ n, (∀ (l0 : Nat) (l1 : Int32) (l2 : Int32) (l3 : Int32) (l4 : Int32) (l5 : Int32) (g : GH), I6 n l0 l1 l2 l3 l4 l5 g → JW Γ E 6 [some (.ref l0), some (.int l1), some (.int l2), some (.int l3), some (.int l4), some (.int l5)] [] g) := by
    intro n
    induction n using Nat.strongRecOn with
    | ind n ih =>
      exact fun l0 l1 l2 l3 l4 l5 g hi => S_M_lawOn_6 hE (fun l0 l1 l2 l3 l4 l5 g hm => by obtain ⟨m, hm, h⟩ := hm; exact (ih m hm) l0 l1 l2 l3 l4 l5 g h) l0 l1 l2 l3 l4 l5 g (hh6 n l0 l1 l2 l3 l4 l5 g hi)
  exact S_M_lawOn_0 hE (fun l0 l1 l2 l3 l4 l5 g hm => by obtain ⟨m, h⟩ := hm; exact (hall m) l0 l1 l2 l3 l4 l5 g h) th p0 p1 p2 g h0
theorem mt_M_lawOn {Γ : GAM} {l : Launch} (th : Nat) (p0 : Int32) (p1 : Int32) (p2 : Int32) (g : GH) (K : Int32 → GH → Prop) (h : Sp_M_lawOn Γ th p0 p1 p2 g K) : MetA Γ l yX11_lawOn cX11_lawOn 6 (some (.int)) 0 0 [.ref th, .int p0, .int p1, .int p2] g (fun r g' => ∃ x, r = some (.int x) ∧ K x g') := by
  obtain ⟨ma, s, hI, hK⟩ := h
  obtain ⟨hkd, hS⟩ := hI.1
  obtain ⟨f1, f2, f3⟩ := hI.law
  obtain ⟨z_lawShire1, z_lawShire2, z_lawShire3, z_lawShire4, z_lawShire5⟩ := hS 1584 20 30 rfl
  obtain ⟨z_lawDay1, z_lawDay2, z_lawDay3, z_lawDay4, z_lawDay5⟩ := hS 1585 20 30 rfl
  obtain ⟨z_lawTold1, z_lawTold2, z_lawTold3, z_lawTold4, z_lawTold5⟩ := hS 1586 20 30 rfl
  refine rl_M_lawOn (fun n l0 l1 l2 l3 l4 l5 g' => g = g' ∧ th = l0 ∧ p0 = l1 ∧ p1 = l2 ∧ p2 = l3 ∧ ∃ k, k ≤ (s_law s).length ∧ n = (s_law s).length - k ∧ l5 = nI k ∧ l4 = oI (((s_law s).zipIdx.take k).foldl (laS p0 p1 p2) none)) ?_ ?_
  · rintro n l0 l1 l2 l3 l4 l5 g' ⟨rfl, rfl, rfl, rfl, rfl, k, hk, hn, rfl, hf⟩
    simp only [B_M_lawOn_6, B_M_lawOn_71, hkd, f1, z_lawShire1, z_lawShire2, z_lawShire3, z_lawShire4, z_lawShire5, z_lawDay1, z_lawDay2, z_lawDay3, z_lawDay4, z_lawDay5, z_lawTold1, z_lawTold2, z_lawTold3, z_lawTold4, z_lawTold5, Option.some.injEq, exists_eq_left', true_and, nj_le (show (s_law s).length < 2147483648 by omega) (show k < 2147483648 by omega), nj_cl (show k < 2147483648 by omega)]
    refine ⟨fun q => ?_, fun q => ?_⟩
    · have hz : (s_law s).zipIdx.take k = (s_law s).zipIdx := List.take_of_length_le (by rw [List.length_zipIdx]; exact q)
      rw [hz] at hf
      rw [hf]; exact hK
    · obtain ⟨x, hx⟩ := get_lt (show k < (s_law s).length by omega)
      obtain ⟨x1, x2, x3, x4⟩ := f3 k x hx
      have hb := inB_nI (show k < 30 by omega) (by omega)
      have hnext : ∀ a : Int32, a = oI (laS p0 p1 p2 (((s_law s).zipIdx.take k).foldl (laS p0 p1 p2) none) (x, k)) → B_M_lawOn_75 Γ (fun l0' l1' l2' l3' l4 l5 g' => ∃ m, m < n ∧ g = g' ∧ th = l0' ∧ p0 = l1' ∧ p1 = l2' ∧ p2 = l3' ∧ ∃ k, k ≤ (s_law s).length ∧ m = (s_law s).length - k ∧ l5 = nI k ∧ l4 = oI (((s_law s).zipIdx.take k).foldl (laS p0 p1 p2) none)) K th p0 p1 p2 a (nI k) g := by
        intro a hab
        unfold B_M_lawOn_75
        refine ⟨(s_law s).length - (k + 1), by omega, rfl, rfl, rfl, rfl, rfl, k + 1, by omega, rfl, nj_s k, ?_⟩
        rw [fold_take _ _ _ (zip_get hx)]
        exact hab
      generalize hF : ((s_law s).zipIdx.take k).foldl (laS p0 p1 p2) none = F at hf hnext
      simp only [x1, x2, x3, hb, true_and]
      cases F with
      | none =>
        rw [oI_n] at hf
        subst hf
        simp only [laS, laB, and_true] at hnext
        repeat' with_reducible first | apply And.intro | intro _
        all_goals first | (exfalso; grind; done) | (refine hnext _ ?_; first | (rw [if_neg (by grind)]; rfl) | (rw [if_pos (by grind)]; rfl))
      | some b =>
        obtain ⟨i, y⟩ := b
        rw [oI_s] at hf
        subst hf
        have hy : (s_law s)[i]? = some y := by
          refine fold_row (s_law s) (fun a p => if p.2 < k then laS p0 p1 p2 a p else a) (fun a p => ?_) (j := i) (x := y) ?_
          · unfold laS; split
            · split <;> simp
            · simp
          · rw [← hF, fold_ltake]
        have hi := (List.getElem?_eq_some_iff.mp hy).1
        have hbi := inB_nI (show i < 30 by omega) (by omega)
        simp only [laS, laB, decide_eq_true_eq] at hnext
        simp only [hbi, true_and, nj_cl (show i < 2147483648 by omega), (f3 i y hy).2.1]
        have hne := nI_nm1 (show i < 2147483648 by omega)
        repeat' with_reducible first | apply And.intro | intro _
        all_goals first | (exfalso; grind; done) | (refine hnext _ ?_; first | (rw [if_neg (by grind)]; rfl) | (rw [if_pos (by grind)]; rfl))
  · unfold B_M_lawOn_0
    exact ⟨_, rfl, rfl, rfl, rfl, rfl, 0, Nat.zero_le _, rfl, rfl, rfl⟩
abbrev ok_lawful (s : ST) (p0 p1 p2 : Int32) : Prop := (0 ≤ p0 ∧ p0 ≤ 3) ∧ (0 ≤ p1 ∧ p1 ≤ 400) ∧ (0 ≤ p2 ∧ p2 ≤ s_now s)
def p_lawful (s : ST) (p0 p1 p2 : Int32) : Int32 := if ok_lawful s p0 p1 p2 then oI (sLaw s p0 p1 p2) else -1
def Sp_M_lawful (Γ : GAM) (m : Nat) (p0 p1 p2 : Int32) (g : GH) (K : Int32 → GH → Prop) : Prop := ∃ ma s, RefI m ma g s ∧ K (p_lawful s p0 p1 p2) g
-- the walk of M_lawful
set_option maxRecDepth 100000 in
def B_M_lawful_37 (Γ : GAM) (K : Int32 → GH → Prop) (s0 : Int32) (g : GH) : Prop :=
  K s0 g
set_option maxHeartbeats 4000000 in
set_option maxRecDepth 100000 in
theorem S_M_lawful_37 {Γ : GAM} {E : EV} {K : Int32 → GH → Prop} (hE : GE Γ E cX11_lawful 4 RX11 (some (.int)) 2 43 (fun r g' => ∃ x, r = some (.int x) ∧ K x g')) (s0 : Int32) (g : GH) (h : B_M_lawful_37 Γ K s0 g) : JW Γ E 37 [none, none, none, none] [.int s0] g := by
  unfold B_M_lawful_37 at h
  exact j_iret hE (by decide +kernel : decode cX11_lawful 37 = .ok (.ireturn, 1)) ⟨_, rfl, h⟩
set_option maxRecDepth 100000 in
def B_M_lawful_36 (Γ : GAM) (K : Int32 → GH → Prop)  (g : GH) : Prop :=
  B_M_lawful_37 Γ K (-1 : Int32) g
set_option maxHeartbeats 4000000 in
set_option maxRecDepth 100000 in
theorem S_M_lawful_36 {Γ : GAM} {E : EV} {K : Int32 → GH → Prop} (hE : GE Γ E cX11_lawful 4 RX11 (some (.int)) 2 43 (fun r g' => ∃ x, r = some (.int x) ∧ K x g'))  (g : GH) (h : B_M_lawful_36 Γ K  g) : JW Γ E 36 [none, none, none, none] [] g := by
  unfold B_M_lawful_36 at h
  refine j_iconst hE (by decide +kernel : decode cX11_lawful 36 = .ok (.iconst (-1), 1)) (v := (-1 : Int32)) (by decide) ?_
  exact S_M_lawful_37 hE _ _ h
set_option maxRecDepth 100000 in
def B_M_lawful_0 (Γ : GAM) (K : Int32 → GH → Prop) (th : Nat) (p0 : Int32) (p1 : Int32) (p2 : Int32) (g : GH) : Prop :=
  Sp_M_isShire Γ p0 g (fun (x2 : Int32) (g1 : GH) => ((x2 = 0 → B_M_lawful_36 Γ K g1) ∧ (¬ (x2 = 0) → Sp_M_in Γ p1 (0 : Int32) (400 : Int32) g1 (fun (x4 : Int32) (g3 : GH) => ((x4 = 0 → B_M_lawful_36 Γ K g3) ∧ (¬ (x4 = 0) → Kd g3 th = 13 ∧ Sp_M_isKnowing Γ th p2 g3 (fun (x6 : Int32) (g5 : GH) => ((x6 = 0 → B_M_lawful_36 Γ K g5) ∧ (¬ (x6 = 0) → Kd g5 th = 13 ∧ Sp_M_lawOn Γ th p0 p1 p2 g5 (fun (x8 : Int32) (g7 : GH) => B_M_lawful_37 Γ K x8 g7))))))))))
set_option maxHeartbeats 4000000 in
set_option maxRecDepth 100000 in
theorem S_M_lawful_0 {Γ : GAM} {E : EV} {K : Int32 → GH → Prop} (hE : GE Γ E cX11_lawful 4 RX11 (some (.int)) 2 43 (fun r g' => ∃ x, r = some (.int x) ∧ K x g')) (th : Nat) (p0 : Int32) (p1 : Int32) (p2 : Int32) (g : GH) (h : B_M_lawful_0 Γ K th p0 p1 p2 g) : JW Γ E 0 [some (.ref th), some (.int p0), some (.int p1), some (.int p2)] [] g := by
  unfold B_M_lawful_0 at h
  refine j_iload_n hE (by decide +kernel : decode cX11_lawful 0 = .ok (.iload_n 1, 1)) rfl rfl ?_
  refine j_callS hE rfl cl_X11_223 st_X11_isShire ⟨by omega, by omega⟩ (As := [.int p0]) (rest := []) rfl rfl (Nat.le_of_ble_eq_true rfl) (by decide +kernel : decode cX11_lawful 1 = .ok (.invokestatic 223, 3)) (mt_M_isShire _ _ _ h) ?_
  rintro _ g1 ⟨x2, rfl, h⟩
  refine j_if_eq hE (by decide +kernel : decode cX11_lawful 4 = .ok (.ifCond .eq 32, 3)) (tgt := 36) (by decide) (fun q => ?_) (fun q => ?_)
  · replace h := h.1 q
    refine j_weak [none, none, none, none] trivial ?_
    exact S_M_lawful_36 hE _ h
  · replace h := h.2 q
    refine j_iload_n hE (by decide +kernel : decode cX11_lawful 7 = .ok (.iload_n 2, 1)) rfl rfl ?_
    refine j_iconst hE (by decide +kernel : decode cX11_lawful 8 = .ok (.iconst 0, 1)) (v := (0 : Int32)) (by decide) ?_
    refine j_sipush hE (by decide +kernel : decode cX11_lawful 9 = .ok (.sipush 400, 3)) (v := (400 : Int32)) (by decide) ?_
    refine j_callS hE rfl cl_X11_213 st_X11_in ⟨by omega, by omega⟩ (As := [.int p1, .int (0 : Int32), .int (400 : Int32)]) (rest := []) rfl rfl (Nat.le_of_ble_eq_true rfl) (by decide +kernel : decode cX11_lawful 12 = .ok (.invokestatic 213, 3)) (mt_M_in _ _ _ _ _ h) ?_
    rintro _ g3 ⟨x4, rfl, h⟩
    refine j_if_eq hE (by decide +kernel : decode cX11_lawful 15 = .ok (.ifCond .eq 21, 3)) (tgt := 36) (by decide) (fun q => ?_) (fun q => ?_)
    · replace h := h.1 q
      refine j_weak [none, none, none, none] trivial ?_
      exact S_M_lawful_36 hE _ h
    · replace h := h.2 q
      refine j_aload_n hE (by decide +kernel : decode cX11_lawful 18 = .ok (.aload_n 0, 1)) rfl rfl ?_
      refine j_iload_n hE (by decide +kernel : decode cX11_lawful 19 = .ok (.iload_n 3, 1)) rfl rfl ?_
      obtain ⟨hk, h⟩ := h
      refine j_callV hE rfl cl_X11_234 cf_12 im_X11_isKnowing se_X11_isKnowing ⟨by omega, by omega⟩ (As := [.int p2]) (rest := []) rfl rfl (Nat.le_of_ble_eq_true rfl) hk (by decide +kernel : decode cX11_lawful 20 = .ok (.invokevirtual 234, 3)) (mt_M_isKnowing _ _ _ _ h) ?_
      rintro _ g5 ⟨x6, rfl, h⟩
      refine j_if_eq hE (by decide +kernel : decode cX11_lawful 23 = .ok (.ifCond .eq 13, 3)) (tgt := 36) (by decide) (fun q => ?_) (fun q => ?_)
      · replace h := h.1 q
        refine j_weak [none, none, none, none] trivial ?_
        exact S_M_lawful_36 hE _ h
      · replace h := h.2 q
        refine j_aload_n hE (by decide +kernel : decode cX11_lawful 26 = .ok (.aload_n 0, 1)) rfl rfl ?_
        refine j_iload_n hE (by decide +kernel : decode cX11_lawful 27 = .ok (.iload_n 1, 1)) rfl rfl ?_
        refine j_iload_n hE (by decide +kernel : decode cX11_lawful 28 = .ok (.iload_n 2, 1)) rfl rfl ?_
        refine j_iload_n hE (by decide +kernel : decode cX11_lawful 29 = .ok (.iload_n 3, 1)) rfl rfl ?_
        obtain ⟨hk, h⟩ := h
        refine j_callV hE rfl cl_X11_370 cf_12 im_X11_lawOn se_X11_lawOn ⟨by omega, by omega⟩ (As := [.int p0, .int p1, .int p2]) (rest := []) rfl rfl (Nat.le_of_ble_eq_true rfl) hk (by decide +kernel : decode cX11_lawful 30 = .ok (.invokevirtual 370, 3)) (mt_M_lawOn _ _ _ _ _ _ h) ?_
        rintro _ g7 ⟨x8, rfl, h⟩
        refine j_goto hE (by decide +kernel : decode cX11_lawful 33 = .ok (.goto 4, 3)) (tgt := 37) (by decide) ?_
        refine j_weak [none, none, none, none] trivial ?_
        exact S_M_lawful_37 hE _ _ h
set_option maxHeartbeats 4000000 in
set_option maxRecDepth 100000 in
theorem rl_M_lawful {Γ : GAM} {l : Launch} {th : Nat} {p0 : Int32} {p1 : Int32} {p2 : Int32} {g : GH} {K : Int32 → GH → Prop} (h0 : B_M_lawful_0 Γ K th p0 p1 p2 g) : MetA Γ l yX11_lawful cX11_lawful 4 (some (.int)) 2 43 [.ref th, .int p0, .int p1, .int p2] g (fun r g' => ∃ x, r = some (.int x) ∧ K x g') := by
  refine MetA.introL (Lx := [some (.ref th), some (.int p0), some (.int p1), some (.int p2)]) (by decide) (Nat.le_of_ble_eq_true rfl) rfl rfl ?_
  intro E hEl hE hnm
  exact S_M_lawful_0 hE th p0 p1 p2 g h0
theorem mt_M_lawful {Γ : GAM} {l : Launch} (th : Nat) (p0 : Int32) (p1 : Int32) (p2 : Int32) (g : GH) (K : Int32 → GH → Prop) (h : Sp_M_lawful Γ th p0 p1 p2 g K) : MetA Γ l yX11_lawful cX11_lawful 4 (some (.int)) 2 43 [.ref th, .int p0, .int p1, .int p2] g (fun r g' => ∃ x, r = some (.int x) ∧ K x g') := by
  obtain ⟨ma, s, hI, hK⟩ := h
  have hkd := hI.1.1
  have hnow := hI.now
  refine rl_M_lawful ?_
  have hno : ¬ ok_lawful s p0 p1 p2 → K (-1) g := fun hn => by unfold p_lawful at hK; rw [if_neg hn] at hK; exact hK
  have hyes : ok_lawful s p0 p1 p2 → Sp_M_lawOn Γ th p0 p1 p2 g K := fun hn => ⟨ma, s, hI, by unfold p_lawful at hK; rw [if_pos hn] at hK; exact hK⟩
  simp only [B_M_lawful_37, B_M_lawful_36, B_M_lawful_0, Sp_M_in, Sp_M_isShire, Sp_M_isKnowing, ifz, hkd, hnow, true_and]
  repeat' with_reducible first | apply And.intro | intro _
  all_goals first | exact hno (by grind) | exact hyes (by grind)
def Sp_M_shire (Γ : GAM) (m : Nat) (p0 p1 p2 : Int32) (g : GH) (K : Int32 → GH → Prop) : Prop := ∃ ma s, RefI m ma g s ∧ K (p_shire s p0 p1 p2) g
-- the walk of M_shire
set_option maxRecDepth 100000 in
def B_M_shire_38 (Γ : GAM) (K : Int32 → GH → Prop) (s0 : Int32) (g : GH) : Prop :=
  K s0 g
set_option maxHeartbeats 4000000 in
set_option maxRecDepth 100000 in
theorem S_M_shire_38 {Γ : GAM} {E : EV} {K : Int32 → GH → Prop} (hE : GE Γ E cX11_shire 4 RX11 (some (.int)) 2 43 (fun r g' => ∃ x, r = some (.int x) ∧ K x g')) (s0 : Int32) (g : GH) (h : B_M_shire_38 Γ K s0 g) : JW Γ E 38 [none, none, none, none] [.int s0] g := by
  unfold B_M_shire_38 at h
  exact j_iret hE (by decide +kernel : decode cX11_shire 38 = .ok (.ireturn, 1)) ⟨_, rfl, h⟩
set_option maxRecDepth 100000 in
def B_M_shire_37 (Γ : GAM) (K : Int32 → GH → Prop)  (g : GH) : Prop :=
  B_M_shire_38 Γ K (-1 : Int32) g
set_option maxHeartbeats 4000000 in
set_option maxRecDepth 100000 in
theorem S_M_shire_37 {Γ : GAM} {E : EV} {K : Int32 → GH → Prop} (hE : GE Γ E cX11_shire 4 RX11 (some (.int)) 2 43 (fun r g' => ∃ x, r = some (.int x) ∧ K x g'))  (g : GH) (h : B_M_shire_37 Γ K  g) : JW Γ E 37 [none, none, none, none] [] g := by
  unfold B_M_shire_37 at h
  refine j_iconst hE (by decide +kernel : decode cX11_shire 37 = .ok (.iconst (-1), 1)) (v := (-1 : Int32)) (by decide) ?_
  exact S_M_shire_38 hE _ _ h
set_option maxRecDepth 100000 in
def B_M_shire_0 (Γ : GAM) (K : Int32 → GH → Prop) (th : Nat) (p0 : Int32) (p1 : Int32) (p2 : Int32) (g : GH) : Prop :=
  Kd g th = 13 ∧ Sp_M_isVoter Γ th p0 g (fun (x2 : Int32) (g1 : GH) => ((x2 = 0 → B_M_shire_37 Γ K g1) ∧ (¬ (x2 = 0) → Sp_M_in Γ p1 (0 : Int32) (400 : Int32) g1 (fun (x4 : Int32) (g3 : GH) => ((x4 = 0 → B_M_shire_37 Γ K g3) ∧ (¬ (x4 = 0) → Kd g3 th = 13 ∧ Sp_M_isKnowing Γ th p2 g3 (fun (x6 : Int32) (g5 : GH) => ((x6 = 0 → B_M_shire_37 Γ K g5) ∧ (¬ (x6 = 0) → Kd g5 th = 13 ∧ Sp_M_shireOn Γ th p0 p1 p2 g5 (fun (x8 : Int32) (g7 : GH) => B_M_shire_38 Γ K x8 g7))))))))))
set_option maxHeartbeats 4000000 in
set_option maxRecDepth 100000 in
theorem S_M_shire_0 {Γ : GAM} {E : EV} {K : Int32 → GH → Prop} (hE : GE Γ E cX11_shire 4 RX11 (some (.int)) 2 43 (fun r g' => ∃ x, r = some (.int x) ∧ K x g')) (th : Nat) (p0 : Int32) (p1 : Int32) (p2 : Int32) (g : GH) (h : B_M_shire_0 Γ K th p0 p1 p2 g) : JW Γ E 0 [some (.ref th), some (.int p0), some (.int p1), some (.int p2)] [] g := by
  unfold B_M_shire_0 at h
  refine j_aload_n hE (by decide +kernel : decode cX11_shire 0 = .ok (.aload_n 0, 1)) rfl rfl ?_
  refine j_iload_n hE (by decide +kernel : decode cX11_shire 1 = .ok (.iload_n 1, 1)) rfl rfl ?_
  obtain ⟨hk, h⟩ := h
  refine j_callV hE rfl cl_X11_228 cf_12 im_X11_isVoter se_X11_isVoter ⟨by omega, by omega⟩ (As := [.int p0]) (rest := []) rfl rfl (Nat.le_of_ble_eq_true rfl) hk (by decide +kernel : decode cX11_shire 2 = .ok (.invokevirtual 228, 3)) (mt_M_isVoter _ _ _ _ h) ?_
  rintro _ g1 ⟨x2, rfl, h⟩
  refine j_if_eq hE (by decide +kernel : decode cX11_shire 5 = .ok (.ifCond .eq 32, 3)) (tgt := 37) (by decide) (fun q => ?_) (fun q => ?_)
  · replace h := h.1 q
    refine j_weak [none, none, none, none] trivial ?_
    exact S_M_shire_37 hE _ h
  · replace h := h.2 q
    refine j_iload_n hE (by decide +kernel : decode cX11_shire 8 = .ok (.iload_n 2, 1)) rfl rfl ?_
    refine j_iconst hE (by decide +kernel : decode cX11_shire 9 = .ok (.iconst 0, 1)) (v := (0 : Int32)) (by decide) ?_
    refine j_sipush hE (by decide +kernel : decode cX11_shire 10 = .ok (.sipush 400, 3)) (v := (400 : Int32)) (by decide) ?_
    refine j_callS hE rfl cl_X11_213 st_X11_in ⟨by omega, by omega⟩ (As := [.int p1, .int (0 : Int32), .int (400 : Int32)]) (rest := []) rfl rfl (Nat.le_of_ble_eq_true rfl) (by decide +kernel : decode cX11_shire 13 = .ok (.invokestatic 213, 3)) (mt_M_in _ _ _ _ _ h) ?_
    rintro _ g3 ⟨x4, rfl, h⟩
    refine j_if_eq hE (by decide +kernel : decode cX11_shire 16 = .ok (.ifCond .eq 21, 3)) (tgt := 37) (by decide) (fun q => ?_) (fun q => ?_)
    · replace h := h.1 q
      refine j_weak [none, none, none, none] trivial ?_
      exact S_M_shire_37 hE _ h
    · replace h := h.2 q
      refine j_aload_n hE (by decide +kernel : decode cX11_shire 19 = .ok (.aload_n 0, 1)) rfl rfl ?_
      refine j_iload_n hE (by decide +kernel : decode cX11_shire 20 = .ok (.iload_n 3, 1)) rfl rfl ?_
      obtain ⟨hk, h⟩ := h
      refine j_callV hE rfl cl_X11_234 cf_12 im_X11_isKnowing se_X11_isKnowing ⟨by omega, by omega⟩ (As := [.int p2]) (rest := []) rfl rfl (Nat.le_of_ble_eq_true rfl) hk (by decide +kernel : decode cX11_shire 21 = .ok (.invokevirtual 234, 3)) (mt_M_isKnowing _ _ _ _ h) ?_
      rintro _ g5 ⟨x6, rfl, h⟩
      refine j_if_eq hE (by decide +kernel : decode cX11_shire 24 = .ok (.ifCond .eq 13, 3)) (tgt := 37) (by decide) (fun q => ?_) (fun q => ?_)
      · replace h := h.1 q
        refine j_weak [none, none, none, none] trivial ?_
        exact S_M_shire_37 hE _ h
      · replace h := h.2 q
        refine j_aload_n hE (by decide +kernel : decode cX11_shire 27 = .ok (.aload_n 0, 1)) rfl rfl ?_
        refine j_iload_n hE (by decide +kernel : decode cX11_shire 28 = .ok (.iload_n 1, 1)) rfl rfl ?_
        refine j_iload_n hE (by decide +kernel : decode cX11_shire 29 = .ok (.iload_n 2, 1)) rfl rfl ?_
        refine j_iload_n hE (by decide +kernel : decode cX11_shire 30 = .ok (.iload_n 3, 1)) rfl rfl ?_
        obtain ⟨hk, h⟩ := h
        refine j_callV hE rfl cl_X11_237 cf_12 im_X11_shireOn se_X11_shireOn ⟨by omega, by omega⟩ (As := [.int p0, .int p1, .int p2]) (rest := []) rfl rfl (Nat.le_of_ble_eq_true rfl) hk (by decide +kernel : decode cX11_shire 31 = .ok (.invokevirtual 237, 3)) (mt_M_shireOn _ _ _ _ _ _ h) ?_
        rintro _ g7 ⟨x8, rfl, h⟩
        refine j_goto hE (by decide +kernel : decode cX11_shire 34 = .ok (.goto 4, 3)) (tgt := 38) (by decide) ?_
        refine j_weak [none, none, none, none] trivial ?_
        exact S_M_shire_38 hE _ _ h
set_option maxHeartbeats 4000000 in
set_option maxRecDepth 100000 in
theorem rl_M_shire {Γ : GAM} {l : Launch} {th : Nat} {p0 : Int32} {p1 : Int32} {p2 : Int32} {g : GH} {K : Int32 → GH → Prop} (h0 : B_M_shire_0 Γ K th p0 p1 p2 g) : MetA Γ l yX11_shire cX11_shire 4 (some (.int)) 2 43 [.ref th, .int p0, .int p1, .int p2] g (fun r g' => ∃ x, r = some (.int x) ∧ K x g') := by
  refine MetA.introL (Lx := [some (.ref th), some (.int p0), some (.int p1), some (.int p2)]) (by decide) (Nat.le_of_ble_eq_true rfl) rfl rfl ?_
  intro E hEl hE hnm
  exact S_M_shire_0 hE th p0 p1 p2 g h0
theorem mt_M_shire {Γ : GAM} {l : Launch} (th : Nat) (p0 : Int32) (p1 : Int32) (p2 : Int32) (g : GH) (K : Int32 → GH → Prop) (h : Sp_M_shire Γ th p0 p1 p2 g K) : MetA Γ l yX11_shire cX11_shire 4 (some (.int)) 2 43 [.ref th, .int p0, .int p1, .int p2] g (fun r g' => ∃ x, r = some (.int x) ∧ K x g') := by
  obtain ⟨ma, s, hI, hK⟩ := h
  have hkd := hI.1.1
  have hnow := hI.now
  have hv := hI.vot.1
  have hl := hI.vot.2.1
  refine rl_M_shire ?_
  have hno : ¬ ok_shire s p0 p1 p2 → K (-1) g := fun hn => by unfold p_shire at hK; rw [if_neg hn] at hK; exact hK
  have hyes : ok_shire s p0 p1 p2 → Sp_M_shireOn Γ th p0 p1 p2 g K := fun hn => ⟨ma, s, hI, hn.1.1, lt_of_in (by omega) hn.1, by unfold p_shire at hK; rw [if_pos hn] at hK; exact hK⟩
  simp only [B_M_shire_38, B_M_shire_37, B_M_shire_0, Sp_M_in, Sp_M_isVoter, Sp_M_isKnowing, ifz, hkd, hnow, hv, true_and]
  repeat' with_reducible first | apply And.intro | intro _
  all_goals first | exact hno (by grind) | exact hyes (by grind)
/-! sealed -/
def slS (s : ST) (m q : Int32) (a : Int32) (p : Em × Nat) : Int32 := if p.1.2.2.1 ≤ q ∧ (sCome s (nI p.2) q).2 = m then a + 1 else a
def sMany (s : ST) (m q : Int32) : Int32 := (s_env s).zipIdx.foldl (slS s m q) 0
def sEmpt (s : ST) (m : Int32) : Em := (s_emp s)[m.toNatClampNeg]?.getD default
abbrev ok_sealed (s : ST) (p0 p1 : Int32) : Prop := (0 ≤ p0 ∧ p0 ≤ nI (s_emp s).length - 1) ∧ (0 ≤ p1 ∧ p1 ≤ s_now s) ∧ (sEmpt s p0).2.2.2 ≤ p1
def p_sealed (s : ST) (p0 p1 : Int32) : Int32 := if ok_sealed s p0 p1 then (if sMany s p0 p1 = (sEmpt s p0).2.2.1 then 0 else 1) else -1
def Sp_M_sealed (Γ : GAM) (m : Nat) (p0 p1 : Int32) (g : GH) (K : Int32 → GH → Prop) : Prop := ∃ ma s, RefI m ma g s ∧ ∀ g', FrX m [1569, 1570] [] g g' → K (p_sealed s p0 p1) g'
-- the walk of M_sealed
set_option maxRecDepth 100000 in
def B_M_sealed_102 (Γ : GAM) (K39 : Nat → Int32 → Int32 → Int32 → Int32 → GH → Prop) (K : Int32 → GH → Prop) (s0 : Int32) (g : GH) : Prop :=
  K s0 g
set_option maxHeartbeats 4000000 in
set_option maxRecDepth 100000 in
theorem S_M_sealed_102 {Γ : GAM} {E : EV} {K : Int32 → GH → Prop} (hE : GE Γ E cX11_sealed 5 RX11 (some (.int)) 3 77 (fun r g' => ∃ x, r = some (.int x) ∧ K x g')) {K39 : Nat → Int32 → Int32 → Int32 → Int32 → GH → Prop} (hK39 : ∀ (l0 : Nat) (l1 : Int32) (l2 : Int32) (l3 : Int32) (l4 : Int32) (g : GH), K39 l0 l1 l2 l3 l4 g → JW Γ E 39 [some (.ref l0), some (.int l1), some (.int l2), some (.int l3), some (.int l4)] [] g) (s0 : Int32) (g : GH) (h : B_M_sealed_102 Γ K39 K s0 g) : JW Γ E 102 [none, none, none, none, none] [.int s0] g := by
  unfold B_M_sealed_102 at h
  exact j_iret hE (by decide +kernel : decode cX11_sealed 102 = .ok (.ireturn, 1)) ⟨_, rfl, h⟩
set_option maxRecDepth 100000 in
def B_M_sealed_81 (Γ : GAM) (K39 : Nat → Int32 → Int32 → Int32 → Int32 → GH → Prop) (K : Int32 → GH → Prop) (l0 : Nat) (l1 : Int32) (l2 : Int32) (l3 : Int32) (l4 : Int32) (g : GH) : Prop :=
  K39 l0 l1 l2 l3 (l4 + (1 : Int32)) g
set_option maxHeartbeats 4000000 in
set_option maxRecDepth 100000 in
theorem S_M_sealed_81 {Γ : GAM} {E : EV} {K : Int32 → GH → Prop} (hE : GE Γ E cX11_sealed 5 RX11 (some (.int)) 3 77 (fun r g' => ∃ x, r = some (.int x) ∧ K x g')) {K39 : Nat → Int32 → Int32 → Int32 → Int32 → GH → Prop} (hK39 : ∀ (l0 : Nat) (l1 : Int32) (l2 : Int32) (l3 : Int32) (l4 : Int32) (g : GH), K39 l0 l1 l2 l3 l4 g → JW Γ E 39 [some (.ref l0), some (.int l1), some (.int l2), some (.int l3), some (.int l4)] [] g) (l0 : Nat) (l1 : Int32) (l2 : Int32) (l3 : Int32) (l4 : Int32) (g : GH) (h : B_M_sealed_81 Γ K39 K l0 l1 l2 l3 l4 g) : JW Γ E 81 [some (.ref l0), some (.int l1), some (.int l2), some (.int l3), some (.int l4)] [] g := by
  unfold B_M_sealed_81 at h
  refine j_iinc hE (by decide +kernel : decode cX11_sealed 81 = .ok (.iinc 4 1, 3)) (v := (1 : Int32)) (by decide) rfl (Nat.le_of_ble_eq_true rfl) rfl ?_
  refine j_goto hE (by decide +kernel : decode cX11_sealed 84 = .ok (.goto (-45), 3)) (tgt := 39) (by decide) ?_
  exact hK39 _ _ _ _ _ _ h
set_option maxRecDepth 100000 in
def B_M_sealed_79 (Γ : GAM) (K39 : Nat → Int32 → Int32 → Int32 → Int32 → GH → Prop) (K : Int32 → GH → Prop) (l0 : Nat) (l1 : Int32) (l2 : Int32) (l4 : Int32) (s0 : Int32) (s1 : Int32) (g : GH) : Prop :=
  ∀ x1 : Int32, x1 = (s1 + s0) → B_M_sealed_81 Γ K39 K l0 l1 l2 x1 l4 g
set_option maxHeartbeats 4000000 in
set_option maxRecDepth 100000 in
theorem S_M_sealed_79 {Γ : GAM} {E : EV} {K : Int32 → GH → Prop} (hE : GE Γ E cX11_sealed 5 RX11 (some (.int)) 3 77 (fun r g' => ∃ x, r = some (.int x) ∧ K x g')) {K39 : Nat → Int32 → Int32 → Int32 → Int32 → GH → Prop} (hK39 : ∀ (l0 : Nat) (l1 : Int32) (l2 : Int32) (l3 : Int32) (l4 : Int32) (g : GH), K39 l0 l1 l2 l3 l4 g → JW Γ E 39 [some (.ref l0), some (.int l1), some (.int l2), some (.int l3), some (.int l4)] [] g) (l0 : Nat) (l1 : Int32) (l2 : Int32) (l4 : Int32) (s0 : Int32) (s1 : Int32) (g : GH) (h : B_M_sealed_79 Γ K39 K l0 l1 l2 l4 s0 s1 g) : JW Γ E 79 [some (.ref l0), some (.int l1), some (.int l2), none, some (.int l4)] [.int s0, .int s1] g := by
  unfold B_M_sealed_79 at h
  refine j_iadd hE (by decide +kernel : decode cX11_sealed 79 = .ok (.iadd, 1)) ?_
  obtain ⟨x1, hx⟩ : ∃ z, z = (s1 + s0) := ⟨_, rfl⟩; replace h := h x1 hx; rw [← hx]
  refine j_istore_n hE (by decide +kernel : decode cX11_sealed 80 = .ok (.istore_n 3, 1)) rfl (Nat.le_of_ble_eq_true rfl) rfl ?_
  exact S_M_sealed_81 hE hK39 _ _ _ _ _ _ h
set_option maxRecDepth 100000 in
def B_M_sealed_39 (Γ : GAM) (K39 : Nat → Int32 → Int32 → Int32 → Int32 → GH → Prop) (K : Int32 → GH → Prop) (l0 : Nat) (l1 : Int32) (l2 : Int32) (l3 : Int32) (l4 : Int32) (g : GH) : Prop :=
  Kd g l0 = 13 ∧ (((Gi g 1539 l0) ≤ l4 → Kd g l0 = 13 ∧ ∃ a1 : Nat, Gr g 1567 l0 = some a1 ∧ Kd g a1 = 20 ∧ inB l1 (Ln g a1) ∧ ((l3 = (Ia g (Co g a1) (Ow g a1) l1.toNatClampNeg) → B_M_sealed_102 Γ K39 K (0 : Int32) g) ∧ (¬ (l3 = (Ia g (Co g a1) (Ow g a1) l1.toNatClampNeg)) → B_M_sealed_102 Γ K39 K (1 : Int32) g))) ∧ (¬ ((Gi g 1539 l0) ≤ l4) → Kd g l0 = 13 ∧ Sp_M_isSent Γ l0 l4 l2 g (fun (x3 : Int32) (g2 : GH) => ((x3 = 0 → B_M_sealed_81 Γ K39 K l0 l1 l2 l3 l4 g2) ∧ (¬ (x3 = 0) → Kd g2 l0 = 13 ∧ Sp_M_ask Γ l0 l4 l2 g2 (fun (g4 : GH) => Kd g4 l0 = 13 ∧ ((¬ ((Gi g4 1570 l0) = l1) → B_M_sealed_79 Γ K39 K l0 l1 l2 l4 (0 : Int32) l3 g4) ∧ ((Gi g4 1570 l0) = l1 → B_M_sealed_79 Γ K39 K l0 l1 l2 l4 (1 : Int32) l3 g4))))))))
set_option maxHeartbeats 4000000 in
set_option maxRecDepth 100000 in
theorem S_M_sealed_39 {Γ : GAM} {E : EV} {K : Int32 → GH → Prop} (hE : GE Γ E cX11_sealed 5 RX11 (some (.int)) 3 77 (fun r g' => ∃ x, r = some (.int x) ∧ K x g')) {K39 : Nat → Int32 → Int32 → Int32 → Int32 → GH → Prop} (hK39 : ∀ (l0 : Nat) (l1 : Int32) (l2 : Int32) (l3 : Int32) (l4 : Int32) (g : GH), K39 l0 l1 l2 l3 l4 g → JW Γ E 39 [some (.ref l0), some (.int l1), some (.int l2), some (.int l3), some (.int l4)] [] g) (l0 : Nat) (l1 : Int32) (l2 : Int32) (l3 : Int32) (l4 : Int32) (g : GH) (h : B_M_sealed_39 Γ K39 K l0 l1 l2 l3 l4 g) : JW Γ E 39 [some (.ref l0), some (.int l1), some (.int l2), some (.int l3), some (.int l4)] [] g := by
  unfold B_M_sealed_39 at h
  refine j_iload hE (by decide +kernel : decode cX11_sealed 39 = .ok (.iload 4, 2)) rfl ?_
  refine j_aload_n hE (by decide +kernel : decode cX11_sealed 41 = .ok (.aload_n 0, 1)) rfl rfl ?_
  obtain ⟨hk, h⟩ := h
  refine j_getI hE fg_X11_241 hk (by decide +kernel : decode cX11_sealed 42 = .ok (.getfield 241, 3)) ?_
  refine j_icmp_ge hE (by decide +kernel : decode cX11_sealed 45 = .ok (.if_icmp .ge 42, 3)) (tgt := 87) (by decide) (fun q => ?_) (fun q => ?_)
  · replace h := h.1 q
    refine j_iload_n hE (by decide +kernel : decode cX11_sealed 87 = .ok (.iload_n 3, 1)) rfl rfl ?_
    refine j_aload_n hE (by decide +kernel : decode cX11_sealed 88 = .ok (.aload_n 0, 1)) rfl rfl ?_
    obtain ⟨hk, h⟩ := h
    obtain ⟨a1, ha, h⟩ := h
    refine j_getRn hE fg_X11_68 hk ha (by decide +kernel : decode cX11_sealed 89 = .ok (.getfield 68, 3)) ?_
    refine j_iload_n hE (by decide +kernel : decode cX11_sealed 92 = .ok (.iload_n 1, 1)) rfl rfl ?_
    obtain ⟨hk, hb, h⟩ := h
    refine j_iald hE hk hb (by decide +kernel : decode cX11_sealed 93 = .ok (.iaload, 1)) ?_
    refine j_icmp_eq hE (by decide +kernel : decode cX11_sealed 94 = .ok (.if_icmp .eq 7, 3)) (tgt := 101) (by decide) (fun q => ?_) (fun q => ?_)
    · replace h := h.1 q
      refine j_iconst hE (by decide +kernel : decode cX11_sealed 101 = .ok (.iconst 0, 1)) (v := (0 : Int32)) (by decide) ?_
      refine j_weak [none, none, none, none, none] trivial ?_
      exact S_M_sealed_102 hE hK39 _ _ h
    · replace h := h.2 q
      refine j_iconst hE (by decide +kernel : decode cX11_sealed 97 = .ok (.iconst 1, 1)) (v := (1 : Int32)) (by decide) ?_
      refine j_goto hE (by decide +kernel : decode cX11_sealed 98 = .ok (.goto 4, 3)) (tgt := 102) (by decide) ?_
      refine j_weak [none, none, none, none, none] trivial ?_
      exact S_M_sealed_102 hE hK39 _ _ h
  · replace h := h.2 q
    refine j_aload_n hE (by decide +kernel : decode cX11_sealed 48 = .ok (.aload_n 0, 1)) rfl rfl ?_
    refine j_iload hE (by decide +kernel : decode cX11_sealed 49 = .ok (.iload 4, 2)) rfl ?_
    refine j_iload_n hE (by decide +kernel : decode cX11_sealed 51 = .ok (.iload_n 2, 1)) rfl rfl ?_
    obtain ⟨hk, h⟩ := h
    refine j_callV hE rfl cl_X11_278 cf_12 im_X11_isSent se_X11_isSent ⟨by omega, by omega⟩ (As := [.int l4, .int l2]) (rest := []) rfl rfl (Nat.le_of_ble_eq_true rfl) hk (by decide +kernel : decode cX11_sealed 52 = .ok (.invokevirtual 278, 3)) (mt_M_isSent _ _ _ _ _ h) ?_
    rintro _ g2 ⟨x3, rfl, h⟩
    refine j_if_eq hE (by decide +kernel : decode cX11_sealed 55 = .ok (.ifCond .eq 26, 3)) (tgt := 81) (by decide) (fun q => ?_) (fun q => ?_)
    · replace h := h.1 q
      exact S_M_sealed_81 hE hK39 _ _ _ _ _ _ h
    · replace h := h.2 q
      refine j_aload_n hE (by decide +kernel : decode cX11_sealed 58 = .ok (.aload_n 0, 1)) rfl rfl ?_
      refine j_iload hE (by decide +kernel : decode cX11_sealed 59 = .ok (.iload 4, 2)) rfl ?_
      refine j_iload_n hE (by decide +kernel : decode cX11_sealed 61 = .ok (.iload_n 2, 1)) rfl rfl ?_
      obtain ⟨hk, h⟩ := h
      refine j_callV hE rfl cl_X11_274 cf_12 im_X11_ask se_X11_ask ⟨by omega, by omega⟩ (As := [.int l4, .int l2]) (rest := []) rfl rfl (Nat.le_of_ble_eq_true rfl) hk (by decide +kernel : decode cX11_sealed 62 = .ok (.invokevirtual 274, 3)) (mt_M_ask _ _ _ _ _ h) ?_
      rintro _ g4 ⟨rfl, h⟩
      refine j_iload_n hE (by decide +kernel : decode cX11_sealed 65 = .ok (.iload_n 3, 1)) rfl rfl ?_
      refine j_aload_n hE (by decide +kernel : decode cX11_sealed 66 = .ok (.aload_n 0, 1)) rfl rfl ?_
      obtain ⟨hk, h⟩ := h
      refine j_getI hE fg_X11_263 hk (by decide +kernel : decode cX11_sealed 67 = .ok (.getfield 263, 3)) ?_
      refine j_iload_n hE (by decide +kernel : decode cX11_sealed 70 = .ok (.iload_n 1, 1)) rfl rfl ?_
      refine j_icmp_ne hE (by decide +kernel : decode cX11_sealed 71 = .ok (.if_icmp .ne 7, 3)) (tgt := 78) (by decide) (fun q => ?_) (fun q => ?_)
      · replace h := h.1 q
        refine j_iconst hE (by decide +kernel : decode cX11_sealed 78 = .ok (.iconst 0, 1)) (v := (0 : Int32)) (by decide) ?_
        refine j_weak [some (.ref l0), some (.int l1), some (.int l2), none, some (.int l4)] ⟨rfl, ⟨rfl, ⟨rfl, ⟨rfl, trivial⟩⟩⟩⟩ ?_
        exact S_M_sealed_79 hE hK39 _ _ _ _ _ _ _ h
      · replace h := h.2 q
        refine j_iconst hE (by decide +kernel : decode cX11_sealed 74 = .ok (.iconst 1, 1)) (v := (1 : Int32)) (by decide) ?_
        refine j_goto hE (by decide +kernel : decode cX11_sealed 75 = .ok (.goto 4, 3)) (tgt := 79) (by decide) ?_
        refine j_weak [some (.ref l0), some (.int l1), some (.int l2), none, some (.int l4)] ⟨rfl, ⟨rfl, ⟨rfl, ⟨rfl, trivial⟩⟩⟩⟩ ?_
        exact S_M_sealed_79 hE hK39 _ _ _ _ _ _ _ h
set_option maxRecDepth 100000 in
def B_M_sealed_32 (Γ : GAM) (K39 : Nat → Int32 → Int32 → Int32 → Int32 → GH → Prop) (K : Int32 → GH → Prop)  (g : GH) : Prop :=
  K (-1 : Int32) g
set_option maxHeartbeats 4000000 in
set_option maxRecDepth 100000 in
theorem S_M_sealed_32 {Γ : GAM} {E : EV} {K : Int32 → GH → Prop} (hE : GE Γ E cX11_sealed 5 RX11 (some (.int)) 3 77 (fun r g' => ∃ x, r = some (.int x) ∧ K x g')) {K39 : Nat → Int32 → Int32 → Int32 → Int32 → GH → Prop} (hK39 : ∀ (l0 : Nat) (l1 : Int32) (l2 : Int32) (l3 : Int32) (l4 : Int32) (g : GH), K39 l0 l1 l2 l3 l4 g → JW Γ E 39 [some (.ref l0), some (.int l1), some (.int l2), some (.int l3), some (.int l4)] [] g)  (g : GH) (h : B_M_sealed_32 Γ K39 K  g) : JW Γ E 32 [none, none, none, none, none] [] g := by
  unfold B_M_sealed_32 at h
  refine j_iconst hE (by decide +kernel : decode cX11_sealed 32 = .ok (.iconst (-1), 1)) (v := (-1 : Int32)) (by decide) ?_
  exact j_iret hE (by decide +kernel : decode cX11_sealed 33 = .ok (.ireturn, 1)) ⟨_, rfl, h⟩
set_option maxRecDepth 100000 in
def B_M_sealed_0 (Γ : GAM) (K39 : Nat → Int32 → Int32 → Int32 → Int32 → GH → Prop) (K : Int32 → GH → Prop) (th : Nat) (p0 : Int32) (p1 : Int32) (g : GH) : Prop :=
  Kd g th = 13 ∧ Sp_M_in Γ p0 (0 : Int32) ((Gi g 1541 th) - (1 : Int32)) g (fun (x2 : Int32) (g1 : GH) => ((x2 = 0 → B_M_sealed_32 Γ K39 K g1) ∧ (¬ (x2 = 0) → Kd g1 th = 13 ∧ Sp_M_isKnowing Γ th p1 g1 (fun (x4 : Int32) (g3 : GH) => ((x4 = 0 → B_M_sealed_32 Γ K39 K g3) ∧ (¬ (x4 = 0) → Kd g3 th = 13 ∧ ∃ a5 : Nat, Gr g3 1568 th = some a5 ∧ Kd g3 a5 = 20 ∧ inB p0 (Ln g3 a5) ∧ (((Ia g3 (Co g3 a5) (Ow g3 a5) p0.toNatClampNeg) ≤ p1 → K39 th p0 p1 (0 : Int32) (0 : Int32) g3) ∧ (¬ ((Ia g3 (Co g3 a5) (Ow g3 a5) p0.toNatClampNeg) ≤ p1) → B_M_sealed_32 Γ K39 K g3))))))))
set_option maxHeartbeats 4000000 in
set_option maxRecDepth 100000 in
theorem S_M_sealed_0 {Γ : GAM} {E : EV} {K : Int32 → GH → Prop} (hE : GE Γ E cX11_sealed 5 RX11 (some (.int)) 3 77 (fun r g' => ∃ x, r = some (.int x) ∧ K x g')) {K39 : Nat → Int32 → Int32 → Int32 → Int32 → GH → Prop} (hK39 : ∀ (l0 : Nat) (l1 : Int32) (l2 : Int32) (l3 : Int32) (l4 : Int32) (g : GH), K39 l0 l1 l2 l3 l4 g → JW Γ E 39 [some (.ref l0), some (.int l1), some (.int l2), some (.int l3), some (.int l4)] [] g) (th : Nat) (p0 : Int32) (p1 : Int32) (g : GH) (h : B_M_sealed_0 Γ K39 K th p0 p1 g) : JW Γ E 0 [some (.ref th), some (.int p0), some (.int p1), none, none] [] g := by
  unfold B_M_sealed_0 at h
  refine j_iload_n hE (by decide +kernel : decode cX11_sealed 0 = .ok (.iload_n 1, 1)) rfl rfl ?_
  refine j_iconst hE (by decide +kernel : decode cX11_sealed 1 = .ok (.iconst 0, 1)) (v := (0 : Int32)) (by decide) ?_
  refine j_aload_n hE (by decide +kernel : decode cX11_sealed 2 = .ok (.aload_n 0, 1)) rfl rfl ?_
  obtain ⟨hk, h⟩ := h
  refine j_getI hE fg_X11_250 hk (by decide +kernel : decode cX11_sealed 3 = .ok (.getfield 250, 3)) ?_
  refine j_iconst hE (by decide +kernel : decode cX11_sealed 6 = .ok (.iconst 1, 1)) (v := (1 : Int32)) (by decide) ?_
  refine j_isub hE (by decide +kernel : decode cX11_sealed 7 = .ok (.isub, 1)) ?_
  refine j_callS hE rfl cl_X11_213 st_X11_in ⟨by omega, by omega⟩ (As := [.int p0, .int (0 : Int32), .int ((Gi g 1541 th) - (1 : Int32))]) (rest := []) rfl rfl (Nat.le_of_ble_eq_true rfl) (by decide +kernel : decode cX11_sealed 8 = .ok (.invokestatic 213, 3)) (mt_M_in _ _ _ _ _ h) ?_
  rintro _ g1 ⟨x2, rfl, h⟩
  refine j_if_eq hE (by decide +kernel : decode cX11_sealed 11 = .ok (.ifCond .eq 21, 3)) (tgt := 32) (by decide) (fun q => ?_) (fun q => ?_)
  · replace h := h.1 q
    refine j_weak [none, none, none, none, none] trivial ?_
    exact S_M_sealed_32 hE hK39 _ h
  · replace h := h.2 q
    refine j_aload_n hE (by decide +kernel : decode cX11_sealed 14 = .ok (.aload_n 0, 1)) rfl rfl ?_
    refine j_iload_n hE (by decide +kernel : decode cX11_sealed 15 = .ok (.iload_n 2, 1)) rfl rfl ?_
    obtain ⟨hk, h⟩ := h
    refine j_callV hE rfl cl_X11_234 cf_12 im_X11_isKnowing se_X11_isKnowing ⟨by omega, by omega⟩ (As := [.int p1]) (rest := []) rfl rfl (Nat.le_of_ble_eq_true rfl) hk (by decide +kernel : decode cX11_sealed 16 = .ok (.invokevirtual 234, 3)) (mt_M_isKnowing _ _ _ _ h) ?_
    rintro _ g3 ⟨x4, rfl, h⟩
    refine j_if_eq hE (by decide +kernel : decode cX11_sealed 19 = .ok (.ifCond .eq 13, 3)) (tgt := 32) (by decide) (fun q => ?_) (fun q => ?_)
    · replace h := h.1 q
      refine j_weak [none, none, none, none, none] trivial ?_
      exact S_M_sealed_32 hE hK39 _ h
    · replace h := h.2 q
      refine j_aload_n hE (by decide +kernel : decode cX11_sealed 22 = .ok (.aload_n 0, 1)) rfl rfl ?_
      obtain ⟨hk, h⟩ := h
      obtain ⟨a5, ha, h⟩ := h
      refine j_getRn hE fg_X11_71 hk ha (by decide +kernel : decode cX11_sealed 23 = .ok (.getfield 71, 3)) ?_
      refine j_iload_n hE (by decide +kernel : decode cX11_sealed 26 = .ok (.iload_n 1, 1)) rfl rfl ?_
      obtain ⟨hk, hb, h⟩ := h
      refine j_iald hE hk hb (by decide +kernel : decode cX11_sealed 27 = .ok (.iaload, 1)) ?_
      refine j_iload_n hE (by decide +kernel : decode cX11_sealed 28 = .ok (.iload_n 2, 1)) rfl rfl ?_
      refine j_icmp_le hE (by decide +kernel : decode cX11_sealed 29 = .ok (.if_icmp .le 5, 3)) (tgt := 34) (by decide) (fun q => ?_) (fun q => ?_)
      · replace h := h.1 q
        refine j_iconst hE (by decide +kernel : decode cX11_sealed 34 = .ok (.iconst 0, 1)) (v := (0 : Int32)) (by decide) ?_
        refine j_istore_n hE (by decide +kernel : decode cX11_sealed 35 = .ok (.istore_n 3, 1)) rfl (Nat.le_of_ble_eq_true rfl) rfl ?_
        refine j_iconst hE (by decide +kernel : decode cX11_sealed 36 = .ok (.iconst 0, 1)) (v := (0 : Int32)) (by decide) ?_
        refine j_istore hE (by decide +kernel : decode cX11_sealed 37 = .ok (.istore 4, 2)) (Nat.le_of_ble_eq_true rfl) rfl ?_
        exact hK39 _ _ _ _ _ _ h
      · replace h := h.2 q
        refine j_weak [none, none, none, none, none] trivial ?_
        exact S_M_sealed_32 hE hK39 _ h
set_option maxHeartbeats 4000000 in
set_option maxRecDepth 100000 in
theorem rl_M_sealed {Γ : GAM} {l : Launch} {th : Nat} {p0 : Int32} {p1 : Int32} {g : GH} {K : Int32 → GH → Prop} (I39 : Nat → Nat → Int32 → Int32 → Int32 → Int32 → GH → Prop) (hh39 : ∀ n (l0 : Nat) (l1 : Int32) (l2 : Int32) (l3 : Int32) (l4 : Int32) (g : GH), I39 n l0 l1 l2 l3 l4 g → B_M_sealed_39 Γ (fun l0 l1 l2 l3 l4 g => ∃ m, m < n ∧ I39 m l0 l1 l2 l3 l4 g) K l0 l1 l2 l3 l4 g) (h0 : B_M_sealed_0 Γ (fun l0 l1 l2 l3 l4 g => ∃ m, I39 m l0 l1 l2 l3 l4 g) K th p0 p1 g) : MetA Γ l yX11_sealed cX11_sealed 5 (some (.int)) 3 77 [.ref th, .int p0, .int p1] g (fun r g' => ∃ x, r = some (.int x) ∧ K x g') := by
  refine MetA.introL (Lx := [some (.ref th), some (.int p0), some (.int p1), none, none]) (by decide) (Nat.le_of_ble_eq_true rfl) rfl rfl ?_
  intro E hEl hE hnm
  have hall : ∀ n, (∀ (l0 : Nat) (l1 : Int32) (l2 : Int32) (l3 : Int32) (l4 : Int32) (g : GH), I39 n l0 l1 l2 l3 l4 g → JW Γ E 39 [some (.ref l0), some (.int l1), some (.int l2), some (.int l3), some (.int l4)] [] g) := by
    intro n
    induction n using Nat.strongRecOn with
    | ind n ih =>
      exact fun l0 l1 l2 l3 l4 g hi => S_M_sealed_39 hE (fun l0 l1 l2 l3 l4 g hm => by obtain ⟨m, hm, h⟩ := hm; exact (ih m hm) l0 l1 l2 l3 l4 g h) l0 l1 l2 l3 l4 g (hh39 n l0 l1 l2 l3 l4 g hi)
  exact S_M_sealed_0 hE (fun l0 l1 l2 l3 l4 g hm => by obtain ⟨m, h⟩ := hm; exact (hall m) l0 l1 l2 l3 l4 g h) th p0 p1 g h0
theorem mt_M_sealed {Γ : GAM} {l : Launch} (th : Nat) (p0 : Int32) (p1 : Int32) (g : GH) (K : Int32 → GH → Prop) (h : Sp_M_sealed Γ th p0 p1 g K) : MetA Γ l yX11_sealed cX11_sealed 5 (some (.int)) 3 77 [.ref th, .int p0, .int p1] g (fun r g' => ∃ x, r = some (.int x) ∧ K x g') := by
  obtain ⟨ma, s, hI, hK⟩ := h
  obtain ⟨hkd, hS⟩ := hI.1
  obtain ⟨f1, f2, f3⟩ := hI.emp
  obtain ⟨e1, e2, e3⟩ := hI.env
  have hnow := hI.now
  obtain ⟨z_emptyTold1, z_emptyTold2, z_emptyTold3, z_emptyTold4, z_emptyTold5⟩ := hS 1568 20 200 rfl
  obtain ⟨z_emptyMany1, z_emptyMany2, z_emptyMany3, z_emptyMany4, z_emptyMany5⟩ := hS 1567 20 200 rfl
  obtain ⟨z_sentTold1, z_sentTold2, z_sentTold3, z_sentTold4, z_sentTold5⟩ := hS 1558 20 200 rfl
  have hno : ¬ ok_sealed s p0 p1 → K (-1) g := fun hn => by
    have := hK g FrX.rf
    unfold p_sealed at this; rw [if_neg hn] at this; exact this
  refine rl_M_sealed (fun n l0 l1 l2 l3 l4 g' => FrX th [1569, 1570] [] g g' ∧ ok_sealed s p0 p1 ∧ th = l0 ∧ p0 = l1 ∧ p1 = l2 ∧ ∃ k, k ≤ (s_env s).length ∧ n = (s_env s).length - k ∧ l4 = nI k ∧ l3 = ((s_env s).zipIdx.take k).foldl (slS s p0 p1) 0) ?_ ?_
  · rintro n l0 l1 l2 l3 l4 g' ⟨hx, hok, rfl, rfl, rfl, k, hk, hn, rfl, hf⟩
    have hI' := hI.x hx (by decide +kernel)
    obtain ⟨hkd', hS'⟩ := hI'.1
    obtain ⟨z_emptyTold1, z_emptyTold2, z_emptyTold3, z_emptyTold4, z_emptyTold5⟩ := hS' 1568 20 200 rfl
    obtain ⟨z_emptyMany1, z_emptyMany2, z_emptyMany3, z_emptyMany4, z_emptyMany5⟩ := hS' 1567 20 200 rfl
    obtain ⟨z_sentTold1, z_sentTold2, z_sentTold3, z_sentTold4, z_sentTold5⟩ := hS' 1558 20 200 rfl
    have hm := lt_of_in (by omega) hok.1
    obtain ⟨em, hem⟩ := get_lt hm
    have hemv : sEmpt s p0 = em := by unfold sEmpt; rw [hem]; rfl
    have hbm : inB p0 200 := ⟨hok.1.1, by omega⟩
    simp only [B_M_sealed_39, B_M_sealed_102, B_M_sealed_79, B_M_sealed_81, Sp_M_isSent, ifz, hkd', hI'.env.1, z_emptyTold1, z_emptyTold2, z_emptyTold3, z_emptyTold4, z_emptyTold5, z_emptyMany1, z_emptyMany2, z_emptyMany3, z_emptyMany4, z_emptyMany5, z_sentTold1, z_sentTold2, z_sentTold3, z_sentTold4, z_sentTold5, Option.some.injEq, exists_eq_left', true_and, forall_eq, nj_s, nj_le (show (s_env s).length < 2147483648 by omega) (show k < 2147483648 by omega), nj_cl (show k < 2147483648 by omega), hbm, (hI'.emp.2.2 _ em hem).2.2.1]
    refine ⟨fun q => ?_, fun q => ?_⟩
    · have hz : (s_env s).zipIdx.take k = (s_env s).zipIdx := List.take_of_length_le (by rw [List.length_zipIdx]; exact q)
      rw [hz] at hf
      have := hK g' hx
      unfold p_sealed sMany at this
      rw [if_pos hok, ← hf, hemv] at this
      refine ⟨fun q2 => ?_, fun q2 => ?_⟩
      · rw [if_pos q2] at this; exact this
      · rw [if_neg q2] at this; exact this
    · obtain ⟨x, hx2⟩ := get_lt (show k < (s_env s).length by omega)
      have hrow := hI'.env.2.2 k x hx2
      have hb := inB_nI (show k < 200 by omega) (by omega)
      have hnext : ∀ g4 c, FrX th [1569, 1570] [] g g4 → c = slS s p0 p1 l3 (x, k) → ∃ m, m < n ∧ FrX th [1569, 1570] [] g g4 ∧ ok_sealed s p0 p1 ∧ ∃ k_1, k_1 ≤ (s_env s).length ∧ m = (s_env s).length - k_1 ∧ nI (k + 1) = nI k_1 ∧ c = ((s_env s).zipIdx.take k_1).foldl (slS s p0 p1) 0 := by
        intro g4 c hx4 hc
        refine ⟨(s_env s).length - (k + 1), by omega, hx4, hok, k + 1, by omega, rfl, rfl, ?_⟩
        rw [fold_take _ _ _ (zip_get hx2), ← hf]; exact hc
      unfold slS at hnext
      simp only [hrow, hb, true_and]
      refine ⟨fun q2 => hnext g' _ hx (by rw [if_neg (fun z => q2 z.1)]), fun q2 => ⟨ma, s, hI', fun g4 hx4 h1 h2 => ?_⟩⟩
      have hx5 := hx.tr hx4
      dsimp only
      rw [h2]
      refine ⟨by rw [hx5.1.2.2.2.2.2.1]; exact hkd, fun q3 => hnext g4 _ hx5 ?_, fun q3 => hnext g4 _ hx5 ?_⟩
      · rw [if_neg (fun z => q3 z.2)]; exact Int32.add_zero _
      · rw [if_pos ⟨Classical.not_not.mp q2, q3⟩]
  · unfold B_M_sealed_0 B_M_sealed_32
    simp only [hkd, Sp_M_in, Sp_M_isKnowing, ifz, hnow, f1, true_and, z_emptyTold1, z_emptyTold2, z_emptyTold3, z_emptyTold4, z_emptyTold5, z_emptyMany1, z_emptyMany2, z_emptyMany3, z_emptyMany4, z_emptyMany5, z_sentTold1, z_sentTold2, z_sentTold3, z_sentTold4, z_sentTold5, Option.some.injEq, exists_eq_left']
    refine ⟨fun q => hno (fun z => q z.1), fun q => ⟨fun q2 => hno (fun z => q2 z.2.1), fun q2 => ?_⟩⟩
    have q := Classical.not_not.mp q
    have hm := lt_of_in (by omega) q
    obtain ⟨em, hem⟩ := get_lt hm
    have hemv : sEmpt s p0 = em := by unfold sEmpt; rw [hem]; rfl
    have hbm : inB p0 200 := ⟨q.1, by omega⟩
    rw [(f3 _ em hem).2.2.2]
    refine ⟨hbm, fun q3 => ⟨_, FrX.rf, ⟨q, Classical.not_not.mp q2, by rw [hemv]; exact q3⟩, 0, Nat.zero_le _, rfl, rfl, rfl⟩, fun q3 => hno (fun z => q3 (by rw [← hemv]; exact z.2.2))⟩
