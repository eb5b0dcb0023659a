/-! the reference: usualOf, usual -/
def TK (th : Nat) (g : GH) (L : List Int32) : Prop := ∀ i v, L[i]? = some v → Ia g 1627 th i = v
theorem sTk_le {s : ST} {st : Int32} : ∀ k, k ≤ (s_env s).length → (sTk s st k).length ≤ k := by
  intro k
  induction k with
  | zero => intro _; simp [sTk]
  | succ k ih =>
    intro h
    obtain ⟨x, hx⟩ := get_lt (show k < (s_env s).length by omega)
    have : sTk s st (k + 1) = tkS s st (sTk s st k) (x, k) := fold_take _ _ _ (zip_get hx)
    rw [this]
    have := ih (by omega)
    unfold tkS
    split
    · rw [List.length_append, List.length_singleton]; omega
    · omega
def Sp_M_usualOf (Γ : GAM) (m : Nat) (p0 p1 : Int32) (g : GH) (K : Int32 → GH → Prop) : Prop := ∃ ma s, RefI m ma g s ∧ WF s ∧ (1 ≤ p1 ∧ p1 ≤ 1000) ∧ ∀ g', FrX m [1569, 1570] [1627] g g' → K (sUs s p0 p1) g'
-- the walk of M_usualOf
set_option maxRecDepth 100000 in
def B_M_usualOf_125 (Γ : GAM) (K5 : Nat → Int32 → Int32 → Int32 → Int32 → GH → Prop) (K94 : Nat → Int32 → Int32 → Int32 → GH → Prop) (K100 : Nat → Int32 → Int32 → Int32 → Int32 → Int32 → GH → Prop) (K : Int32 → GH → Prop) (l0 : Nat) (l2 : Int32) (l3 : Int32) (l4 : Int32) (l6 : Int32) (s0 : Int32) (s1 : Int32) (g : GH) : Prop :=
  ∀ x1 : Int32, x1 = (s1 + s0) → K100 l0 l2 l3 l4 x1 (l6 + (1 : Int32)) g
set_option maxHeartbeats 4000000 in
set_option maxRecDepth 100000 in
theorem S_M_usualOf_125 {Γ : GAM} {E : EV} {K : Int32 → GH → Prop} (hE : GE Γ E cX11_usualOf 7 RX11 (some (.int)) 4 99 (fun r g' => ∃ x, r = some (.int x) ∧ K x g')) {K5 : Nat → Int32 → Int32 → Int32 → Int32 → GH → Prop} {K94 : Nat → Int32 → Int32 → Int32 → GH → Prop} {K100 : Nat → Int32 → Int32 → Int32 → Int32 → Int32 → GH → Prop} (hK5 : ∀ (l0 : Nat) (l1 : Int32) (l2 : Int32) (l3 : Int32) (l4 : Int32) (g : GH), K5 l0 l1 l2 l3 l4 g → JW Γ E 5 [some (.ref l0), some (.int l1), some (.int l2), some (.int l3), some (.int l4), none, none] [] g) (hK94 : ∀ (l0 : Nat) (l2 : Int32) (l3 : Int32) (l4 : Int32) (g : GH), K94 l0 l2 l3 l4 g → JW Γ E 94 [some (.ref l0), none, some (.int l2), some (.int l3), some (.int l4), none, none] [] g) (hK100 : ∀ (l0 : Nat) (l2 : Int32) (l3 : Int32) (l4 : Int32) (l5 : Int32) (l6 : Int32) (g : GH), K100 l0 l2 l3 l4 l5 l6 g → JW Γ E 100 [some (.ref l0), none, some (.int l2), some (.int l3), some (.int l4), some (.int l5), some (.int l6)] [] g) (l0 : Nat) (l2 : Int32) (l3 : Int32) (l4 : Int32) (l6 : Int32) (s0 : Int32) (s1 : Int32) (g : GH) (h : B_M_usualOf_125 Γ K5 K94 K100 K l0 l2 l3 l4 l6 s0 s1 g) : JW Γ E 125 [some (.ref l0), none, some (.int l2), some (.int l3), some (.int l4), none, some (.int l6)] [.int s0, .int s1] g := by
  unfold B_M_usualOf_125 at h
  refine j_iadd hE (by decide +kernel : decode cX11_usualOf 125 = .ok (.iadd, 1)) ?_
  obtain ⟨x1, hx⟩ : ∃ z, z = (s1 + s0) := ⟨_, rfl⟩; replace h := h x1 hx; rw [← hx]
  refine j_istore hE (by decide +kernel : decode cX11_usualOf 126 = .ok (.istore 5, 2)) (Nat.le_of_ble_eq_true rfl) rfl ?_
  refine j_iinc hE (by decide +kernel : decode cX11_usualOf 128 = .ok (.iinc 6 1, 3)) (v := (1 : Int32)) (by decide) rfl (Nat.le_of_ble_eq_true rfl) rfl ?_
  refine j_goto hE (by decide +kernel : decode cX11_usualOf 131 = .ok (.goto (-31), 3)) (tgt := 100) (by decide) ?_
  exact hK100 _ _ _ _ _ _ _ h
set_option maxRecDepth 100000 in
def B_M_usualOf_100 (Γ : GAM) (K5 : Nat → Int32 → Int32 → Int32 → Int32 → GH → Prop) (K94 : Nat → Int32 → Int32 → Int32 → GH → Prop) (K100 : Nat → Int32 → Int32 → Int32 → Int32 → Int32 → GH → Prop) (K : Int32 → GH → Prop) (l0 : Nat) (l2 : Int32) (l3 : Int32) (l4 : Int32) (l5 : Int32) (l6 : Int32) (g : GH) : Prop :=
  ((l3 ≤ l6 → ((((1000 : Int32) * l5) < (l2 * l3) → K94 l0 l2 l3 (l4 + (1 : Int32)) g) ∧ (¬ (((1000 : Int32) * l5) < (l2 * l3)) → K l4 g))) ∧ (¬ (l3 ≤ l6) → Kd g l0 = 13 ∧ ∃ a1 : Nat, Gr g 1627 l0 = some a1 ∧ Kd g a1 = 20 ∧ inB l6 (Ln g a1) ∧ ((l4 < (Ia g (Co g a1) (Ow g a1) l6.toNatClampNeg) → B_M_usualOf_125 Γ K5 K94 K100 K l0 l2 l3 l4 l6 (0 : Int32) l5 g) ∧ (¬ (l4 < (Ia g (Co g a1) (Ow g a1) l6.toNatClampNeg)) → B_M_usualOf_125 Γ K5 K94 K100 K l0 l2 l3 l4 l6 (1 : Int32) l5 g))))
set_option maxHeartbeats 4000000 in
set_option maxRecDepth 100000 in
theorem S_M_usualOf_100 {Γ : GAM} {E : EV} {K : Int32 → GH → Prop} (hE : GE Γ E cX11_usualOf 7 RX11 (some (.int)) 4 99 (fun r g' => ∃ x, r = some (.int x) ∧ K x g')) {K5 : Nat → Int32 → Int32 → Int32 → Int32 → GH → Prop} {K94 : Nat → Int32 → Int32 → Int32 → GH → Prop} {K100 : Nat → Int32 → Int32 → Int32 → Int32 → Int32 → GH → Prop} (hK5 : ∀ (l0 : Nat) (l1 : Int32) (l2 : Int32) (l3 : Int32) (l4 : Int32) (g : GH), K5 l0 l1 l2 l3 l4 g → JW Γ E 5 [some (.ref l0), some (.int l1), some (.int l2), some (.int l3), some (.int l4), none, none] [] g) (hK94 : ∀ (l0 : Nat) (l2 : Int32) (l3 : Int32) (l4 : Int32) (g : GH), K94 l0 l2 l3 l4 g → JW Γ E 94 [some (.ref l0), none, some (.int l2), some (.int l3), some (.int l4), none, none] [] g) (hK100 : ∀ (l0 : Nat) (l2 : Int32) (l3 : Int32) (l4 : Int32) (l5 : Int32) (l6 : Int32) (g : GH), K100 l0 l2 l3 l4 l5 l6 g → JW Γ E 100 [some (.ref l0), none, some (.int l2), some (.int l3), some (.int l4), some (.int l5), some (.int l6)] [] g) (l0 : Nat) (l2 : Int32) (l3 : Int32) (l4 : Int32) (l5 : Int32) (l6 : Int32) (g : GH) (h : B_M_usualOf_100 Γ K5 K94 K100 K l0 l2 l3 l4 l5 l6 g) : JW Γ E 100 [some (.ref l0), none, some (.int l2), some (.int l3), some (.int l4), some (.int l5), some (.int l6)] [] g := by
  unfold B_M_usualOf_100 at h
  refine j_iload hE (by decide +kernel : decode cX11_usualOf 100 = .ok (.iload 6, 2)) rfl ?_
  refine j_iload_n hE (by decide +kernel : decode cX11_usualOf 102 = .ok (.iload_n 3, 1)) rfl rfl ?_
  refine j_icmp_ge hE (by decide +kernel : decode cX11_usualOf 103 = .ok (.if_icmp .ge 31, 3)) (tgt := 134) (by decide) (fun q => ?_) (fun q => ?_)
  · replace h := h.1 q
    refine j_sipush hE (by decide +kernel : decode cX11_usualOf 134 = .ok (.sipush 1000, 3)) (v := (1000 : Int32)) (by decide) ?_
    refine j_iload hE (by decide +kernel : decode cX11_usualOf 137 = .ok (.iload 5, 2)) rfl ?_
    refine j_imul hE (by decide +kernel : decode cX11_usualOf 139 = .ok (.imul, 1)) ?_
    refine j_iload_n hE (by decide +kernel : decode cX11_usualOf 140 = .ok (.iload_n 2, 1)) rfl rfl ?_
    refine j_iload_n hE (by decide +kernel : decode cX11_usualOf 141 = .ok (.iload_n 3, 1)) rfl rfl ?_
    refine j_imul hE (by decide +kernel : decode cX11_usualOf 142 = .ok (.imul, 1)) ?_
    refine j_icmp_lt hE (by decide +kernel : decode cX11_usualOf 143 = .ok (.if_icmp .lt 6, 3)) (tgt := 149) (by decide) (fun q => ?_) (fun q => ?_)
    · replace h := h.1 q
      refine j_iinc hE (by decide +kernel : decode cX11_usualOf 149 = .ok (.iinc 4 1, 3)) (v := (1 : Int32)) (by decide) rfl (Nat.le_of_ble_eq_true rfl) rfl ?_
      refine j_goto hE (by decide +kernel : decode cX11_usualOf 152 = .ok (.goto (-58), 3)) (tgt := 94) (by decide) ?_
      refine j_weak [some (.ref l0), none, some (.int l2), some (.int l3), some (.int (l4 + (1 : Int32))), none, none] ⟨rfl, ⟨rfl, ⟨rfl, ⟨rfl, trivial⟩⟩⟩⟩ ?_
      exact hK94 _ _ _ _ _ h
    · replace h := h.2 q
      refine j_iload hE (by decide +kernel : decode cX11_usualOf 146 = .ok (.iload 4, 2)) rfl ?_
      exact j_iret hE (by decide +kernel : decode cX11_usualOf 148 = .ok (.ireturn, 1)) ⟨_, rfl, h⟩
  · replace h := h.2 q
    refine j_iload hE (by decide +kernel : decode cX11_usualOf 106 = .ok (.iload 5, 2)) rfl ?_
    refine j_aload_n hE (by decide +kernel : decode cX11_usualOf 108 = .ok (.aload_n 0, 1)) rfl rfl ?_
    obtain ⟨hk, h⟩ := h
    obtain ⟨a1, ha, h⟩ := h
    refine j_getRn hE fg_X11_201 hk ha (by decide +kernel : decode cX11_usualOf 109 = .ok (.getfield 201, 3)) ?_
    refine j_iload hE (by decide +kernel : decode cX11_usualOf 112 = .ok (.iload 6, 2)) rfl ?_
    obtain ⟨hk, hb, h⟩ := h
    refine j_iald hE hk hb (by decide +kernel : decode cX11_usualOf 114 = .ok (.iaload, 1)) ?_
    refine j_iload hE (by decide +kernel : decode cX11_usualOf 115 = .ok (.iload 4, 2)) rfl ?_
    refine j_icmp_gt hE (by decide +kernel : decode cX11_usualOf 117 = .ok (.if_icmp .gt 7, 3)) (tgt := 124) (by decide) (fun q => ?_) (fun q => ?_)
    · replace h := h.1 q
      refine j_iconst hE (by decide +kernel : decode cX11_usualOf 124 = .ok (.iconst 0, 1)) (v := (0 : Int32)) (by decide) ?_
      refine j_weak [some (.ref l0), none, some (.int l2), some (.int l3), some (.int l4), none, some (.int l6)] ⟨rfl, ⟨rfl, ⟨rfl, ⟨rfl, ⟨rfl, trivial⟩⟩⟩⟩⟩ ?_
      exact S_M_usualOf_125 hE hK5 hK94 hK100 _ _ _ _ _ _ _ _ h
    · replace h := h.2 q
      refine j_iconst hE (by decide +kernel : decode cX11_usualOf 120 = .ok (.iconst 1, 1)) (v := (1 : Int32)) (by decide) ?_
      refine j_goto hE (by decide +kernel : decode cX11_usualOf 121 = .ok (.goto 4, 3)) (tgt := 125) (by decide) ?_
      refine j_weak [some (.ref l0), none, some (.int l2), some (.int l3), some (.int l4), none, some (.int l6)] ⟨rfl, ⟨rfl, ⟨rfl, ⟨rfl, ⟨rfl, trivial⟩⟩⟩⟩⟩ ?_
      exact S_M_usualOf_125 hE hK5 hK94 hK100 _ _ _ _ _ _ _ _ h
set_option maxRecDepth 100000 in
def B_M_usualOf_94 (Γ : GAM) (K5 : Nat → Int32 → Int32 → Int32 → Int32 → GH → Prop) (K94 : Nat → Int32 → Int32 → Int32 → GH → Prop) (K100 : Nat → Int32 → Int32 → Int32 → Int32 → Int32 → GH → Prop) (K : Int32 → GH → Prop) (l0 : Nat) (l2 : Int32) (l3 : Int32) (l4 : Int32) (g : GH) : Prop :=
  K100 l0 l2 l3 l4 (0 : Int32) (0 : Int32) g
set_option maxHeartbeats 4000000 in
set_option maxRecDepth 100000 in
theorem S_M_usualOf_94 {Γ : GAM} {E : EV} {K : Int32 → GH → Prop} (hE : GE Γ E cX11_usualOf 7 RX11 (some (.int)) 4 99 (fun r g' => ∃ x, r = some (.int x) ∧ K x g')) {K5 : Nat → Int32 → Int32 → Int32 → Int32 → GH → Prop} {K94 : Nat → Int32 → Int32 → Int32 → GH → Prop} {K100 : Nat → Int32 → Int32 → Int32 → Int32 → Int32 → GH → Prop} (hK5 : ∀ (l0 : Nat) (l1 : Int32) (l2 : Int32) (l3 : Int32) (l4 : Int32) (g : GH), K5 l0 l1 l2 l3 l4 g → JW Γ E 5 [some (.ref l0), some (.int l1), some (.int l2), some (.int l3), some (.int l4), none, none] [] g) (hK94 : ∀ (l0 : Nat) (l2 : Int32) (l3 : Int32) (l4 : Int32) (g : GH), K94 l0 l2 l3 l4 g → JW Γ E 94 [some (.ref l0), none, some (.int l2), some (.int l3), some (.int l4), none, none] [] g) (hK100 : ∀ (l0 : Nat) (l2 : Int32) (l3 : Int32) (l4 : Int32) (l5 : Int32) (l6 : Int32) (g : GH), K100 l0 l2 l3 l4 l5 l6 g → JW Γ E 100 [some (.ref l0), none, some (.int l2), some (.int l3), some (.int l4), some (.int l5), some (.int l6)] [] g) (l0 : Nat) (l2 : Int32) (l3 : Int32) (l4 : Int32) (g : GH) (h : B_M_usualOf_94 Γ K5 K94 K100 K l0 l2 l3 l4 g) : JW Γ E 94 [some (.ref l0), none, some (.int l2), some (.int l3), some (.int l4), none, none] [] g := by
  unfold B_M_usualOf_94 at h
  refine j_iconst hE (by decide +kernel : decode cX11_usualOf 94 = .ok (.iconst 0, 1)) (v := (0 : Int32)) (by decide) ?_
  refine j_istore hE (by decide +kernel : decode cX11_usualOf 95 = .ok (.istore 5, 2)) (Nat.le_of_ble_eq_true rfl) rfl ?_
  refine j_iconst hE (by decide +kernel : decode cX11_usualOf 97 = .ok (.iconst 0, 1)) (v := (0 : Int32)) (by decide) ?_
  refine j_istore hE (by decide +kernel : decode cX11_usualOf 98 = .ok (.istore 6, 2)) (Nat.le_of_ble_eq_true rfl) rfl ?_
  exact hK100 _ _ _ _ _ _ _ h
set_option maxRecDepth 100000 in
def B_M_usualOf_74 (Γ : GAM) (K5 : Nat → Int32 → Int32 → Int32 → Int32 → GH → Prop) (K94 : Nat → Int32 → Int32 → Int32 → GH → Prop) (K100 : Nat → Int32 → Int32 → Int32 → Int32 → Int32 → GH → Prop) (K : Int32 → GH → Prop) (l0 : Nat) (l1 : Int32) (l2 : Int32) (l3 : Int32) (l4 : Int32) (g : GH) : Prop :=
  K5 l0 l1 l2 l3 (l4 + (1 : Int32)) g
set_option maxHeartbeats 4000000 in
set_option maxRecDepth 100000 in
theorem S_M_usualOf_74 {Γ : GAM} {E : EV} {K : Int32 → GH → Prop} (hE : GE Γ E cX11_usualOf 7 RX11 (some (.int)) 4 99 (fun r g' => ∃ x, r = some (.int x) ∧ K x g')) {K5 : Nat → Int32 → Int32 → Int32 → Int32 → GH → Prop} {K94 : Nat → Int32 → Int32 → Int32 → GH → Prop} {K100 : Nat → Int32 → Int32 → Int32 → Int32 → Int32 → GH → Prop} (hK5 : ∀ (l0 : Nat) (l1 : Int32) (l2 : Int32) (l3 : Int32) (l4 : Int32) (g : GH), K5 l0 l1 l2 l3 l4 g → JW Γ E 5 [some (.ref l0), some (.int l1), some (.int l2), some (.int l3), some (.int l4), none, none] [] g) (hK94 : ∀ (l0 : Nat) (l2 : Int32) (l3 : Int32) (l4 : Int32) (g : GH), K94 l0 l2 l3 l4 g → JW Γ E 94 [some (.ref l0), none, some (.int l2), some (.int l3), some (.int l4), none, none] [] g) (hK100 : ∀ (l0 : Nat) (l2 : Int32) (l3 : Int32) (l4 : Int32) (l5 : Int32) (l6 : Int32) (g : GH), K100 l0 l2 l3 l4 l5 l6 g → JW Γ E 100 [some (.ref l0), none, some (.int l2), some (.int l3), some (.int l4), some (.int l5), some (.int l6)] [] g) (l0 : Nat) (l1 : Int32) (l2 : Int32) (l3 : Int32) (l4 : Int32) (g : GH) (h : B_M_usualOf_74 Γ K5 K94 K100 K l0 l1 l2 l3 l4 g) : JW Γ E 74 [some (.ref l0), some (.int l1), some (.int l2), some (.int l3), some (.int l4), none, none] [] g := by
  unfold B_M_usualOf_74 at h
  refine j_iinc hE (by decide +kernel : decode cX11_usualOf 74 = .ok (.iinc 4 1, 3)) (v := (1 : Int32)) (by decide) rfl (Nat.le_of_ble_eq_true rfl) rfl ?_
  refine j_goto hE (by decide +kernel : decode cX11_usualOf 77 = .ok (.goto (-72), 3)) (tgt := 5) (by decide) ?_
  exact hK5 _ _ _ _ _ _ h
set_option maxRecDepth 100000 in
def B_M_usualOf_5 (Γ : GAM) (K5 : Nat → Int32 → Int32 → Int32 → Int32 → GH → Prop) (K94 : Nat → Int32 → Int32 → Int32 → GH → Prop) (K100 : Nat → Int32 → Int32 → Int32 → Int32 → Int32 → GH → Prop) (K : Int32 → GH → Prop) (l0 : Nat) (l1 : Int32) (l2 : Int32) (l3 : Int32) (l4 : Int32) (g : GH) : Prop :=
  Kd g l0 = 13 ∧ (((Gi g 1539 l0) ≤ l4 → Kd g l0 = 13 ∧ (((Gi g 1548 l0) ≤ l3 → K94 l0 l2 l3 (0 : Int32) g) ∧ (¬ ((Gi g 1548 l0) ≤ l3) → K (-2 : Int32) g))) ∧ (¬ ((Gi g 1539 l0) ≤ l4) → Kd g l0 = 13 ∧ ∃ a1 : Nat, Gr g 1550 l0 = some a1 ∧ Kd g l0 = 13 ∧ ∃ a2 : Nat, Gr g 1556 l0 = some a2 ∧ Kd g a2 = 20 ∧ inB l4 (Ln g a2) ∧ Kd g a1 = 20 ∧ inB (Ia g (Co g a2) (Ow g a2) l4.toNatClampNeg) (Ln g a1) ∧ (((Ia g (Co g a1) (Ow g a1) (Ia g (Co g a2) (Ow g a2) l4.toNatClampNeg).toNatClampNeg) = l1 → Kd g l0 = 13 ∧ Kd g l0 = 13 ∧ Sp_M_comesOn Γ l0 l4 (Gi g 1536 l0) g (fun (x4 : Int32) (g3 : GH) => ((x4 = (-1 : Int32) → B_M_usualOf_74 Γ K5 K94 K100 K l0 l1 l2 l3 l4 g3) ∧ (¬ (x4 = (-1 : Int32)) → Kd g3 l0 = 13 ∧ ∃ a5 : Nat, Gr g3 1627 l0 = some a5 ∧ Kd g3 l0 = 13 ∧ ∃ a6 : Nat, Gr g3 1557 l0 = some a6 ∧ Kd g3 a6 = 20 ∧ inB l4 (Ln g3 a6) ∧ Kd g3 a5 = 20 ∧ inB l3 (Ln g3 a5) ∧ ∀ g7 : GH, g7 = sA g3 (Co g3 a5) (Ow g3 a5) l3.toNatClampNeg (if (0 : Int32) < (x4 - (Ia g3 (Co g3 a6) (Ow g3 a6) l4.toNatClampNeg)) then (x4 - (Ia g3 (Co g3 a6) (Ow g3 a6) l4.toNatClampNeg)) else (0 : Int32)) → B_M_usualOf_74 Γ K5 K94 K100 K l0 l1 l2 (l3 + (1 : Int32)) l4 g7)))) ∧ (¬ ((Ia g (Co g a1) (Ow g a1) (Ia g (Co g a2) (Ow g a2) l4.toNatClampNeg).toNatClampNeg) = l1) → B_M_usualOf_74 Γ K5 K94 K100 K l0 l1 l2 l3 l4 g))))
set_option maxHeartbeats 4000000 in
set_option maxRecDepth 100000 in
theorem S_M_usualOf_5 {Γ : GAM} {E : EV} {K : Int32 → GH → Prop} (hE : GE Γ E cX11_usualOf 7 RX11 (some (.int)) 4 99 (fun r g' => ∃ x, r = some (.int x) ∧ K x g')) {K5 : Nat → Int32 → Int32 → Int32 → Int32 → GH → Prop} {K94 : Nat → Int32 → Int32 → Int32 → GH → Prop} {K100 : Nat → Int32 → Int32 → Int32 → Int32 → Int32 → GH → Prop} (hK5 : ∀ (l0 : Nat) (l1 : Int32) (l2 : Int32) (l3 : Int32) (l4 : Int32) (g : GH), K5 l0 l1 l2 l3 l4 g → JW Γ E 5 [some (.ref l0), some (.int l1), some (.int l2), some (.int l3), some (.int l4), none, none] [] g) (hK94 : ∀ (l0 : Nat) (l2 : Int32) (l3 : Int32) (l4 : Int32) (g : GH), K94 l0 l2 l3 l4 g → JW Γ E 94 [some (.ref l0), none, some (.int l2), some (.int l3), some (.int l4), none, none] [] g) (hK100 : ∀ (l0 : Nat) (l2 : Int32) (l3 : Int32) (l4 : Int32) (l5 : Int32) (l6 : Int32) (g : GH), K100 l0 l2 l3 l4 l5 l6 g → JW Γ E 100 [some (.ref l0), none, some (.int l2), some (.int l3), some (.int l4), some (.int l5), some (.int l6)] [] g) (l0 : Nat) (l1 : Int32) (l2 : Int32) (l3 : Int32) (l4 : Int32) (g : GH) (h : B_M_usualOf_5 Γ K5 K94 K100 K l0 l1 l2 l3 l4 g) : JW Γ E 5 [some (.ref l0), some (.int l1), some (.int l2), some (.int l3), some (.int l4), none, none] [] g := by
  unfold B_M_usualOf_5 at h
  refine j_iload hE (by decide +kernel : decode cX11_usualOf 5 = .ok (.iload 4, 2)) rfl ?_
  refine j_aload_n hE (by decide +kernel : decode cX11_usualOf 7 = .ok (.aload_n 0, 1)) rfl rfl ?_
  obtain ⟨hk, h⟩ := h
  refine j_getI hE fg_X11_241 hk (by decide +kernel : decode cX11_usualOf 8 = .ok (.getfield 241, 3)) ?_
  refine j_icmp_ge hE (by decide +kernel : decode cX11_usualOf 11 = .ok (.if_icmp .ge 69, 3)) (tgt := 80) (by decide) (fun q => ?_) (fun q => ?_)
  · replace h := h.1 q
    refine j_iload_n hE (by decide +kernel : decode cX11_usualOf 80 = .ok (.iload_n 3, 1)) rfl rfl ?_
    refine j_aload_n hE (by decide +kernel : decode cX11_usualOf 81 = .ok (.aload_n 0, 1)) rfl rfl ?_
    obtain ⟨hk, h⟩ := h
    refine j_getI hE fg_X11_7 hk (by decide +kernel : decode cX11_usualOf 82 = .ok (.getfield 7, 3)) ?_
    refine j_icmp_ge hE (by decide +kernel : decode cX11_usualOf 85 = .ok (.if_icmp .ge 6, 3)) (tgt := 91) (by decide) (fun q => ?_) (fun q => ?_)
    · replace h := h.1 q
      refine j_iconst hE (by decide +kernel : decode cX11_usualOf 91 = .ok (.iconst 0, 1)) (v := (0 : Int32)) (by decide) ?_
      refine j_istore hE (by decide +kernel : decode cX11_usualOf 92 = .ok (.istore 4, 2)) (Nat.le_of_ble_eq_true rfl) rfl ?_
      refine j_weak [some (.ref l0), none, some (.int l2), some (.int l3), some (.int (0 : Int32)), none, none] ⟨rfl, ⟨rfl, ⟨rfl, ⟨rfl, trivial⟩⟩⟩⟩ ?_
      exact hK94 _ _ _ _ _ h
    · replace h := h.2 q
      refine j_bipush hE (by decide +kernel : decode cX11_usualOf 88 = .ok (.bipush (-2), 2)) (v := (-2 : Int32)) (by decide) ?_
      exact j_iret hE (by decide +kernel : decode cX11_usualOf 90 = .ok (.ireturn, 1)) ⟨_, rfl, h⟩
  · replace h := h.2 q
    refine j_aload_n hE (by decide +kernel : decode cX11_usualOf 14 = .ok (.aload_n 0, 1)) rfl rfl ?_
    obtain ⟨hk, h⟩ := h
    obtain ⟨a1, ha, h⟩ := h
    refine j_getRn hE fg_X11_17 hk ha (by decide +kernel : decode cX11_usualOf 15 = .ok (.getfield 17, 3)) ?_
    refine j_aload_n hE (by decide +kernel : decode cX11_usualOf 18 = .ok (.aload_n 0, 1)) rfl rfl ?_
    obtain ⟨hk, h⟩ := h
    obtain ⟨a2, ha, h⟩ := h
    refine j_getRn hE fg_X11_35 hk ha (by decide +kernel : decode cX11_usualOf 19 = .ok (.getfield 35, 3)) ?_
    refine j_iload hE (by decide +kernel : decode cX11_usualOf 22 = .ok (.iload 4, 2)) rfl ?_
    obtain ⟨hk, hb, h⟩ := h
    refine j_iald hE hk hb (by decide +kernel : decode cX11_usualOf 24 = .ok (.iaload, 1)) ?_
    obtain ⟨hk, hb, h⟩ := h
    refine j_iald hE hk hb (by decide +kernel : decode cX11_usualOf 25 = .ok (.iaload, 1)) ?_
    refine j_iload_n hE (by decide +kernel : decode cX11_usualOf 26 = .ok (.iload_n 1, 1)) rfl rfl ?_
    refine j_icmp_eq hE (by decide +kernel : decode cX11_usualOf 27 = .ok (.if_icmp .eq 6, 3)) (tgt := 33) (by decide) (fun q => ?_) (fun q => ?_)
    · replace h := h.1 q
      refine j_aload_n hE (by decide +kernel : decode cX11_usualOf 33 = .ok (.aload_n 0, 1)) rfl rfl ?_
      refine j_iload hE (by decide +kernel : decode cX11_usualOf 34 = .ok (.iload 4, 2)) rfl ?_
      refine j_aload_n hE (by decide +kernel : decode cX11_usualOf 36 = .ok (.aload_n 0, 1)) rfl rfl ?_
      obtain ⟨hk, h⟩ := h
      refine j_getI hE fg_X11_217 hk (by decide +kernel : decode cX11_usualOf 37 = .ok (.getfield 217, 3)) ?_
      obtain ⟨hk, h⟩ := h
      refine j_callV hE rfl cl_X11_373 cf_12 im_X11_comesOn se_X11_comesOn ⟨by omega, by omega⟩ (As := [.int l4, .int (Gi g 1536 l0)]) (rest := []) rfl rfl (Nat.le_of_ble_eq_true rfl) hk (by decide +kernel : decode cX11_usualOf 40 = .ok (.invokevirtual 373, 3)) (mt_M_comesOn _ _ _ _ _ h) ?_
      rintro _ g3 ⟨x4, rfl, h⟩
      refine j_istore hE (by decide +kernel : decode cX11_usualOf 43 = .ok (.istore 5, 2)) (Nat.le_of_ble_eq_true rfl) rfl ?_
      refine j_iload hE (by decide +kernel : decode cX11_usualOf 45 = .ok (.iload 5, 2)) rfl ?_
      refine j_iconst hE (by decide +kernel : decode cX11_usualOf 47 = .ok (.iconst (-1), 1)) (v := (-1 : Int32)) (by decide) ?_
      refine j_icmp_eq hE (by decide +kernel : decode cX11_usualOf 48 = .ok (.if_icmp .eq 26, 3)) (tgt := 74) (by decide) (fun q => ?_) (fun q => ?_)
      · replace h := h.1 q
        refine j_weak [some (.ref l0), some (.int l1), some (.int l2), some (.int l3), some (.int l4), none, none] ⟨rfl, ⟨rfl, ⟨rfl, ⟨rfl, ⟨rfl, trivial⟩⟩⟩⟩⟩ ?_
        exact S_M_usualOf_74 hE hK5 hK94 hK100 _ _ _ _ _ _ h
      · replace h := h.2 q
        refine j_aload_n hE (by decide +kernel : decode cX11_usualOf 51 = .ok (.aload_n 0, 1)) rfl rfl ?_
        obtain ⟨hk, h⟩ := h
        obtain ⟨a5, ha, h⟩ := h
        refine j_getRn hE fg_X11_201 hk ha (by decide +kernel : decode cX11_usualOf 52 = .ok (.getfield 201, 3)) ?_
        refine j_iload_n hE (by decide +kernel : decode cX11_usualOf 55 = .ok (.iload_n 3, 1)) rfl rfl ?_
        refine j_iconst hE (by decide +kernel : decode cX11_usualOf 56 = .ok (.iconst 0, 1)) (v := (0 : Int32)) (by decide) ?_
        refine j_iload hE (by decide +kernel : decode cX11_usualOf 57 = .ok (.iload 5, 2)) rfl ?_
        refine j_aload_n hE (by decide +kernel : decode cX11_usualOf 59 = .ok (.aload_n 0, 1)) rfl rfl ?_
        obtain ⟨hk, h⟩ := h
        obtain ⟨a6, ha, h⟩ := h
        refine j_getRn hE fg_X11_38 hk ha (by decide +kernel : decode cX11_usualOf 60 = .ok (.getfield 38, 3)) ?_
        refine j_iload hE (by decide +kernel : decode cX11_usualOf 63 = .ok (.iload 4, 2)) rfl ?_
        obtain ⟨hk, hb, h⟩ := h
        refine j_iald hE hk hb (by decide +kernel : decode cX11_usualOf 65 = .ok (.iaload, 1)) ?_
        refine j_isub hE (by decide +kernel : decode cX11_usualOf 66 = .ok (.isub, 1)) ?_
        refine j_mmax hE rfl ml_X11_269 st_J9_max_7cf53 in_Math co_J9_max_7cf53 (Nat.le_of_ble_eq_true rfl) (by omega) (by omega) (by decide +kernel : decode cX11_usualOf 67 = .ok (.invokestatic 269, 3)) ?_
        obtain ⟨hk, hb, h⟩ := h
        obtain ⟨g7, hg⟩ : ∃ z, z = sA g3 (Co g3 a5) (Ow g3 a5) l3.toNatClampNeg (if (0 : Int32) < (x4 - (Ia g3 (Co g3 a6) (Ow g3 a6) l4.toNatClampNeg)) then (x4 - (Ia g3 (Co g3 a6) (Ow g3 a6) l4.toNatClampNeg)) else (0 : Int32)) := ⟨_, rfl⟩; replace h := h g7 hg
        refine j_iast hE hk hb (by decide +kernel : decode cX11_usualOf 70 = .ok (.iastore, 1)) ?_
        rw [← hg]
        refine j_iinc hE (by decide +kernel : decode cX11_usualOf 71 = .ok (.iinc 3 1, 3)) (v := (1 : Int32)) (by decide) rfl (Nat.le_of_ble_eq_true rfl) rfl ?_
        refine j_weak [some (.ref l0), some (.int l1), some (.int l2), some (.int (l3 + (1 : Int32))), some (.int l4), none, none] ⟨rfl, ⟨rfl, ⟨rfl, ⟨rfl, ⟨rfl, trivial⟩⟩⟩⟩⟩ ?_
        exact S_M_usualOf_74 hE hK5 hK94 hK100 _ _ _ _ _ _ h
    · replace h := h.2 q
      refine j_goto hE (by decide +kernel : decode cX11_usualOf 30 = .ok (.goto 44, 3)) (tgt := 74) (by decide) ?_
      exact S_M_usualOf_74 hE hK5 hK94 hK100 _ _ _ _ _ _ h
set_option maxRecDepth 100000 in
def B_M_usualOf_0 (Γ : GAM) (K5 : Nat → Int32 → Int32 → Int32 → Int32 → GH → Prop) (K94 : Nat → Int32 → Int32 → Int32 → GH → Prop) (K100 : Nat → Int32 → Int32 → Int32 → Int32 → Int32 → GH → Prop) (K : Int32 → GH → Prop) (th : Nat) (p0 : Int32) (p1 : Int32) (g : GH) : Prop :=
  K5 th p0 p1 (0 : Int32) (0 : Int32) g
set_option maxHeartbeats 4000000 in
set_option maxRecDepth 100000 in
theorem S_M_usualOf_0 {Γ : GAM} {E : EV} {K : Int32 → GH → Prop} (hE : GE Γ E cX11_usualOf 7 RX11 (some (.int)) 4 99 (fun r g' => ∃ x, r = some (.int x) ∧ K x g')) {K5 : Nat → Int32 → Int32 → Int32 → Int32 → GH → Prop} {K94 : Nat → Int32 → Int32 → Int32 → GH → Prop} {K100 : Nat → Int32 → Int32 → Int32 → Int32 → Int32 → GH → Prop} (hK5 : ∀ (l0 : Nat) (l1 : Int32) (l2 : Int32) (l3 : Int32) (l4 : Int32) (g : GH), K5 l0 l1 l2 l3 l4 g → JW Γ E 5 [some (.ref l0), some (.int l1), some (.int l2), some (.int l3), some (.int l4), none, none] [] g) (hK94 : ∀ (l0 : Nat) (l2 : Int32) (l3 : Int32) (l4 : Int32) (g : GH), K94 l0 l2 l3 l4 g → JW Γ E 94 [some (.ref l0), none, some (.int l2), some (.int l3), some (.int l4), none, none] [] g) (hK100 : ∀ (l0 : Nat) (l2 : Int32) (l3 : Int32) (l4 : Int32) (l5 : Int32) (l6 : Int32) (g : GH), K100 l0 l2 l3 l4 l5 l6 g → JW Γ E 100 [some (.ref l0), none, some (.int l2), some (.int l3), some (.int l4), some (.int l5), some (.int l6)] [] g) (th : Nat) (p0 : Int32) (p1 : Int32) (g : GH) (h : B_M_usualOf_0 Γ K5 K94 K100 K th p0 p1 g) : JW Γ E 0 [some (.ref th), some (.int p0), some (.int p1), none, none, none, none] [] g := by
  unfold B_M_usualOf_0 at h
  refine j_iconst hE (by decide +kernel : decode cX11_usualOf 0 = .ok (.iconst 0, 1)) (v := (0 : Int32)) (by decide) ?_
  refine j_istore_n hE (by decide +kernel : decode cX11_usualOf 1 = .ok (.istore_n 3, 1)) rfl (Nat.le_of_ble_eq_true rfl) rfl ?_
  refine j_iconst hE (by decide +kernel : decode cX11_usualOf 2 = .ok (.iconst 0, 1)) (v := (0 : Int32)) (by decide) ?_
  refine j_istore hE (by decide +kernel : decode cX11_usualOf 3 = .ok (.istore 4, 2)) (Nat.le_of_ble_eq_true rfl) rfl ?_
  exact hK5 _ _ _ _ _ _ h
set_option maxHeartbeats 4000000 in
set_option maxRecDepth 100000 in
theorem rl_M_usualOf {Γ : GAM} {l : Launch} {th : Nat} {p0 : Int32} {p1 : Int32} {g : GH} {K : Int32 → GH → Prop} (I5 : Nat → Nat → Int32 → Int32 → Int32 → Int32 → GH → Prop) (I94 : Nat → Nat → Int32 → Int32 → Int32 → GH → Prop) (I100 : Nat → Nat → Int32 → Int32 → Int32 → Int32 → Int32 → GH → Prop) (hh5 : ∀ n (l0 : Nat) (l1 : Int32) (l2 : Int32) (l3 : Int32) (l4 : Int32) (g : GH), I5 n l0 l1 l2 l3 l4 g → B_M_usualOf_5 Γ (fun l0 l1 l2 l3 l4 g => ∃ m, m < n ∧ I5 m l0 l1 l2 l3 l4 g) (fun l0 l2 l3 l4 g => ∃ m, m < n ∧ I94 m l0 l2 l3 l4 g) (fun l0 l2 l3 l4 l5 l6 g => ∃ m, m < n ∧ I100 m l0 l2 l3 l4 l5 l6 g) K l0 l1 l2 l3 l4 g) (hh94 : ∀ n (l0 : Nat) (l2 : Int32) (l3 : Int32) (l4 : Int32) (g : GH), I94 n l0 l2 l3 l4 g → B_M_usualOf_94 Γ (fun l0 l1 l2 l3 l4 g => ∃ m, m < n ∧ I5 m l0 l1 l2 l3 l4 g) (fun l0 l2 l3 l4 g => ∃ m, m < n ∧ I94 m l0 l2 l3 l4 g) (fun l0 l2 l3 l4 l5 l6 g => ∃ m, m < n ∧ I100 m l0 l2 l3 l4 l5 l6 g) K l0 l2 l3 l4 g) (hh100 : ∀ n (l0 : Nat) (l2 : Int32) (l3 : Int32) (l4 : Int32) (l5 : Int32) (l6 : Int32) (g : GH), I100 n l0 l2 l3 l4 l5 l6 g → B_M_usualOf_100 Γ (fun l0 l1 l2 l3 l4 g => ∃ m, m < n ∧ I5 m l0 l1 l2 l3 l4 g) (fun l0 l2 l3 l4 g => ∃ m, m < n ∧ I94 m l0 l2 l3 l4 g) (fun l0 l2 l3 l4 l5 l6 g => ∃ m, m < n ∧ I100 m l0 l2 l3 l4 l5 l6 g) K l0 l2 l3 l4 l5 l6 g) (h0 : B_M_usualOf_0 Γ (fun l0 l1 l2 l3 l4 g => ∃ m, I5 m l0 l1 l2 l3 l4 g) (fun l0 l2 l3 l4 g => ∃ m, I94 m l0 l2 l3 l4 g) (fun l0 l2 l3 l4 l5 l6 g => ∃ m, I100 m l0 l2 l3 l4 l5 l6 g) K th p0 p1 g) : MetA Γ l yX11_usualOf cX11_usualOf 7 (some (.int)) 4 99 [.ref th, .int p0, .int p1] g (fun r g' => ∃ x, r = some (.int x) ∧ K x g') := by
  refine MetA.introL (Lx := [some (.ref th), some (.int p0), some (.int p1), none, none, none, none]) (by decide) (Nat.le_of_ble_eq_true rfl) rfl rfl ?_
  intro E hEl hE hnm
  have hall : ∀ n, (∀ (l0 : Nat) (l1 : Int32) (l2 : Int32) (l3 : Int32) (l4 : Int32) (g : GH), I5 n l0 l1 l2 l3 l4 g → JW Γ E 5 [some (.ref l0), some (.int l1), some (.int l2), some (.int l3), some (.int l4), none, none] [] g) ∧ (∀ (l0 : Nat) (l2 : Int32) (l3 : Int32) (l4 : Int32) (g : GH), I94 n l0 l2 l3 l4 g → JW Γ E 94 [some (.ref l0), none, some (.int l2), some (.int l3), some (.int l4), none, none] [] g) ∧ (∀ (l0 : Nat) (l2 : Int32) (l3 : Int32) (l4 : Int32) (l5 : Int32) (l6 : Int32) (g : GH), I100 n l0 l2 l3 l4 l5 l6 g → JW Γ E 100 [some (.ref l0), none, some (.int l2), some (.int l3), some (.int l4), some (.int l5), some (.int l6)] [] g) := by
    intro n
    induction n using Nat.strongRecOn with
    | ind n ih =>
      exact ⟨fun l0 l1 l2 l3 l4 g hi => S_M_usualOf_5 hE (fun l0 l1 l2 l3 l4 g hm => by obtain ⟨m, hm, h⟩ := hm; exact (ih m hm).1 l0 l1 l2 l3 l4 g h) (fun l0 l2 l3 l4 g hm => by obtain ⟨m, hm, h⟩ := hm; exact (ih m hm).2.1 l0 l2 l3 l4 g h) (fun l0 l2 l3 l4 l5 l6 g hm => by obtain ⟨m, hm, h⟩ := hm; exact (ih m hm).2.2 l0 l2 l3 l4 l5 l6 g h) l0 l1 l2 l3 l4 g (hh5 n l0 l1 l2 l3 l4 g hi), fun l0 l2 l3 l4 g hi => S_M_usualOf_94 hE (fun l0 l1 l2 l3 l4 g hm => by obtain ⟨m, hm, h⟩ := hm; exact (ih m hm).1 l0 l1 l2 l3 l4 g h) (fun l0 l2 l3 l4 g hm => by obtain ⟨m, hm, h⟩ := hm; exact (ih m hm).2.1 l0 l2 l3 l4 g h) (fun l0 l2 l3 l4 l5 l6 g hm => by obtain ⟨m, hm, h⟩ := hm; exact (ih m hm).2.2 l0 l2 l3 l4 l5 l6 g h) l0 l2 l3 l4 g (hh94 n l0 l2 l3 l4 g hi), fun l0 l2 l3 l4 l5 l6 g hi => S_M_usualOf_100 hE (fun l0 l1 l2 l3 l4 g hm => by obtain ⟨m, hm, h⟩ := hm; exact (ih m hm).1 l0 l1 l2 l3 l4 g h) (fun l0 l2 l3 l4 g hm => by obtain ⟨m, hm, h⟩ := hm; exact (ih m hm).2.1 l0 l2 l3 l4 g h) (fun l0 l2 l3 l4 l5 l6 g hm => by obtain ⟨m, hm, h⟩ := hm; exact (ih m hm).2.2 l0 l2 l3 l4 l5 l6 g h) l0 l2 l3 l4 l5 l6 g (hh100 n l0 l2 l3 l4 l5 l6 g hi)⟩
  exact S_M_usualOf_0 hE (fun l0 l1 l2 l3 l4 g hm => by obtain ⟨m, h⟩ := hm; exact (hall m).1 l0 l1 l2 l3 l4 g h) (fun l0 l2 l3 l4 g hm => by obtain ⟨m, h⟩ := hm; exact (hall m).2.1 l0 l2 l3 l4 g h) (fun l0 l2 l3 l4 l5 l6 g hm => by obtain ⟨m, h⟩ := hm; exact (hall m).2.2 l0 l2 l3 l4 l5 l6 g h) th p0 p1 g h0
theorem mt_M_usualOf {Γ : GAM} {l : Launch} (th : Nat) (p0 : Int32) (p1 : Int32) (g : GH) (K : Int32 → GH → Prop) (h : Sp_M_usualOf Γ th p0 p1 g K) : MetA Γ l yX11_usualOf cX11_usualOf 7 (some (.int)) 4 99 [.ref th, .int p0, .int p1] g (fun r g' => ∃ x, r = some (.int x) ∧ K x g') := by
  obtain ⟨ma, s, hI, hw, hp, hK⟩ := h
  have hN := hw.len.2.2.1
  have hV := hw.len.1
  have hLl := sTk_le (s := s) (st := p0) _ (Nat.le_refl _)
  refine rl_M_usualOf (fun n l0 l1 l2 l3 l4 g' => th = l0 ∧ p0 = l1 ∧ p1 = l2 ∧ ∃ k, k ≤ (s_env s).length ∧ n = 1000000 + ((s_env s).length - k) ∧ l4 = nI k ∧ l3 = nI (sTk s p0 k).length ∧ FrX th [1569, 1570] [1627] g g' ∧ TK th g' (sTk s p0 k))
    (fun n l0 l2 l3 l4 g' => th = l0 ∧ p1 = l2 ∧ ∃ d f, 1 ≤ f ∧ d + f = 401 ∧ n = 300 * f + 250 ∧ l3 = nI (sTk s p0 (s_env s).length).length ∧ l4 = nI d ∧ sUs s p0 p1 = usF (sTk s p0 (s_env s).length) p1 f d ∧ FrX th [1569, 1570] [1627] g g' ∧ TK th g' (sTk s p0 (s_env s).length))
    (fun n l0 l2 l3 l4 l5 l6 g' => th = l0 ∧ p1 = l2 ∧ ∃ d f i, 1 ≤ f ∧ d + f = 401 ∧ i ≤ (sTk s p0 (s_env s).length).length ∧ n = 300 * f + ((sTk s p0 (s_env s).length).length - i) ∧ l3 = nI (sTk s p0 (s_env s).length).length ∧ l4 = nI d ∧ l5 = cntD (sTk s p0 (s_env s).length) d i ∧ l6 = nI i ∧ sUs s p0 p1 = usF (sTk s p0 (s_env s).length) p1 f d ∧ FrX th [1569, 1570] [1627] g g' ∧ TK th g' (sTk s p0 (s_env s).length)) ?_ ?_ ?_ ?_
  · rintro n l0 l1 l2 l3 l4 g' ⟨rfl, rfl, rfl, k, hk, rfl, rfl, rfl, hfx, hT⟩
    have hI' := hI.x hfx (by decide +kernel)
    obtain ⟨hkd, hS⟩ := hI'.1
    obtain ⟨w1, w2, w3⟩ := hI'.env
    obtain ⟨v1, v2, v3⟩ := hI'.vot
    have hle := sTk_le (s := s) (st := p0) k hk
    obtain ⟨z_streetOf1, z_streetOf2, z_streetOf3, z_streetOf4, z_streetOf5⟩ := hS 1550 20 60 rfl
    obtain ⟨z_voterOf1, z_voterOf2, z_voterOf3, z_voterOf4, z_voterOf5⟩ := hS 1556 20 200 rfl
    suffices H : ∀ (K5 : Nat → Int32 → Int32 → Int32 → Int32 → GH → Prop) (K94 : Nat → Int32 → Int32 → Int32 → GH → Prop) (K100 : Nat → Int32 → Int32 → Int32 → Int32 → Int32 → GH → Prop), (∀ a g2, k < (s_env s).length → a = nI (sTk s p0 (k + 1)).length → FrX th [1569, 1570] [1627] g g2 → TK th g2 (sTk s p0 (k + 1)) → K5 th p0 p1 a (nI (k + 1)) g2) → (k = (s_env s).length → s_siz s ≤ nI (sTk s p0 (s_env s).length).length → K94 th p1 (nI (sTk s p0 k).length) 0 g') → B_M_usualOf_5 Γ K5 K94 K100 K th p0 p1 (nI (sTk s p0 k).length) (nI k) g' from
      H _ _ _ (fun a g2 hlt h1 h2 h3 => ⟨1000000 + ((s_env s).length - (k + 1)), by omega, rfl, rfl, rfl, k + 1, by omega, rfl, rfl, h1, h2, h3⟩)
        (fun hk' hz => ⟨300 * 401 + 250, by omega, rfl, rfl, 0, 401, by omega, by omega, rfl, by rw [hk'], nj_0, by unfold sUs; rw [if_pos hz], hfx, by rw [← hk']; exact hT⟩)
    intro K5 K94 K100 h5 h94
    unfold B_M_usualOf_5
    simp only [hkd, w1, hI'.siz, hI'.now, z_streetOf1, z_streetOf2, z_streetOf3, z_streetOf4, z_streetOf5, z_voterOf1, z_voterOf2, z_voterOf3, z_voterOf4, z_voterOf5, Option.some.injEq, exists_eq_left', true_and, nj_cl (show k < 2147483648 by omega), nj_le (show (s_env s).length < 2147483648 by omega) (show k < 2147483648 by omega)]
    refine ⟨fun z => ?_, fun z => ?_⟩
    · have hk' : k = (s_env s).length := by omega
      refine ⟨fun u => h94 hk' (by rw [← hk']; exact u), fun u => ?_⟩
      have := hK g' hfx
      unfold sUs at this
      rw [← hk', if_neg u] at this
      exact this
    · have hlt : k < (s_env s).length := by omega
      obtain ⟨x, hx⟩ := get_lt hlt
      obtain ⟨y, hy, hvy, hv0, hvl⟩ := vOk_get hw hx
      have hb := inB_nI (show k < 200 by omega) (by omega)
      have hbv : inB x.1 60 := ⟨hv0, by omega⟩
      have hst : sTk s p0 (k + 1) = tkS s p0 (sTk s p0 k) (x, k) := fold_take _ _ _ (zip_get hx)
      unfold tkS at hst
      simp only [hvy] at hst
      have hno : ∀ g2, ¬ (y.2.1 = p0 ∧ ¬ (sCome s (nI k) (s_now s)).1 = -1) → FrX th [1569, 1570] [] g' g2 → B_M_usualOf_74 Γ K5 K94 K100 K th p0 p1 (nI (sTk s p0 k).length) (nI k) g2 := by
        intro g2 hn hx2
        rw [if_neg hn] at hst
        unfold B_M_usualOf_74
        rw [nj_s]
        exact h5 _ g2 hlt (by rw [hst]) (hfx.tr (hx2.up (by decide) (by decide))) (by rw [hst]; intro i v hv; rw [hx2.2.2 1627 (by decide)]; exact hT i v hv)
      simp only [hb, hbv, (w3 k x hx).1, (v3 _ y hy).2.1, true_and]
      refine ⟨fun u => ⟨ma, s, hI', fun g2 hx2 hby => ?_⟩, fun u => hno g' (fun q => u q.1) FrX.rf⟩
      have hI2 := hI'.x hx2 (by decide +kernel)
      obtain ⟨hkd2, hS2⟩ := hI2.1
      refine ⟨fun u2 => hno g2 (fun q => q.2 u2) hx2, fun u2 => ?_⟩
      rw [if_pos ⟨u, u2⟩] at hst
      obtain ⟨z_took1, z_took2, z_took3, z_took4, z_took5⟩ := hS2 1627 20 200 rfl
      obtain ⟨z_sentOn1, z_sentOn2, z_sentOn3, z_sentOn4, z_sentOn5⟩ := hS2 1557 20 200 rfl
      have hbl := inB_nI (show (sTk s p0 k).length < 200 by omega) (by omega)
      simp only [hkd2, z_took1, z_took2, z_took3, z_took4, z_took5, z_sentOn1, z_sentOn2, z_sentOn3, z_sentOn4, z_sentOn5, hb, hbl, (hI2.env.2.2 k x hx).2.1, Option.some.injEq, exists_eq_left', true_and, nj_cl (show k < 2147483648 by omega), nj_cl (show (sTk s p0 k).length < 2147483648 by omega)]
      intro g7 hg7
      unfold B_M_usualOf_74
      rw [nj_s, nj_s]
      refine h5 _ g7 hlt (by rw [hst, List.length_append, List.length_singleton]) (hfx.tr ((hx2.up (by decide) (by decide)).tr (by rw [hg7]; exact FrX.sA (by decide)))) ?_
      rw [hst]
      intro i v hv
      rw [List.getElem?_append] at hv
      split at hv
      · rename_i hi
        have := hT i v hv
        rw [← hx2.2.2 1627 (by decide)] at this
        rw [hg7, ← this]
        simp [Ia_sA, show i ≠ (sTk s p0 k).length by omega]
      · rename_i hi
        by_cases q : i = (sTk s p0 k).length
        · rw [q] at hv ⊢
          simp at hv
          rw [hg7, ← hv]
          simp [Ia_sA, tkV]
        · rw [List.getElem?_eq_none (by simp; omega)] at hv; cases hv
  · rintro n l0 l2 l3 l4 g' ⟨rfl, rfl, d, f, hf, hdf, rfl, rfl, rfl, hu, hfx, hT⟩
    unfold B_M_usualOf_94
    exact ⟨300 * f + ((sTk s p0 (s_env s).length).length - 0), by omega, rfl, rfl, d, f, 0, hf, hdf, Nat.zero_le _, rfl, rfl, rfl, rfl, nj_0, hu, hfx, hT⟩
  · rintro n l0 l2 l3 l4 l5 l6 g' ⟨rfl, rfl, d, f, i, hf, hdf, hi, rfl, rfl, rfl, rfl, rfl, hu, hfx, hT⟩
    have hI' := hI.x hfx (by decide +kernel)
    obtain ⟨hkd, hS⟩ := hI'.1
    have hB := sTk_b hw (st := p0) (s_env s).length
    generalize hL : sTk s p0 (s_env s).length = L at *
    obtain ⟨z_took1, z_took2, z_took3, z_took4, z_took5⟩ := hS 1627 20 200 rfl
    obtain ⟨f, rfl⟩ : ∃ f', f = f' + 1 := ⟨f - 1, by omega⟩
    unfold B_M_usualOf_100
    rw [nj_le (show L.length < 2147483648 by omega) (show i < 2147483648 by omega)]
    refine ⟨fun z => ?_, fun z => ?_⟩
    · have : i = L.length := by omega
      subst this
      have hu2 : sUs s p0 p1 = if 1000 * cntD L d L.length < p1 * nI L.length then usF L p1 f (d + 1) else nI d := hu
      refine ⟨fun u => ?_, fun u => ?_⟩
      · rw [if_pos u] at hu2
        have hf0 : f ≠ 0 := by
          intro q
          have hd : d = 400 := by omega
          have hc := cnt_all (d := d) L 0 (fun t ht => by
            have := (hB t ht).2
            rw [hd]
            intro q2
            have a1 := Int32.lt_iff_toInt_lt.mp q2
            have a2 := Int32.le_iff_toInt_le.mp this
            have a3 : (nI 400).toInt = 400 := rfl
            have a4 : (400 : Int32).toInt = 400 := rfl
            omega)
          rw [Nat.zero_add] at hc
          have hc2 : cntD L d L.length = nI L.length := by unfold cntD; rw [List.take_length]; exact hc
          rw [hc2] at u
          exact us_end hp.1 hp.2 (by omega) u
        rw [nj_s]
        exact ⟨300 * f + 250, by omega, rfl, rfl, d + 1, f, by omega, by omega, rfl, rfl, rfl, hu2, hfx, hT⟩
      · rw [if_neg u] at hu2
        have := hK g' hfx
        rw [hu2] at this
        exact this
    · obtain ⟨t, ht⟩ := get_lt (show i < L.length by omega)
      have hb := inB_nI (show i < 200 by omega) (by omega)
      have hc : cntD L d (i + 1) = cntD L d i + (if nI d < t then 0 else 1) := fold_take (cnS2 d) 0 L ht
      simp only [B_M_usualOf_125, hkd, z_took1, z_took2, z_took3, z_took4, z_took5, hb, hT i t ht, forall_eq, Option.some.injEq, exists_eq_left', true_and, nj_s, nj_cl (show i < 2147483648 by omega)]
      exact ⟨fun u => ⟨300 * (f + 1) + (L.length - (i + 1)), by omega, d, f + 1, i + 1, hf, hdf, by omega, rfl, rfl, by rw [hc, if_pos u], rfl, hu, hfx, hT⟩, fun u => ⟨300 * (f + 1) + (L.length - (i + 1)), by omega, d, f + 1, i + 1, hf, hdf, by omega, rfl, rfl, by rw [hc, if_neg u], rfl, hu, hfx, hT⟩⟩
  · unfold B_M_usualOf_0
    exact ⟨_, rfl, rfl, rfl, 0, Nat.zero_le _, rfl, nj_0, nj_0, FrX.rf, fun i v hv => by simp [sTk] at hv⟩
