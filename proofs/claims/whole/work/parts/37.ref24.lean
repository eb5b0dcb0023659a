/-! the reference: street -/
def stS (s : ST) (sh st c : Int32) (a : Tr) (p : Em × Nat) : Tr := if s_hof s p.2 = 0 then a else if (sHea s (nI (s_hof s p.2 - 1))).1 = sh then (if (sVoter s p.1.1).2.1 = st then (a.1 + 1, a.2.1 + 0, a.2.2 + if p.1.2.2.2 = c then 1 else 0) else (a.1 + 0, a.2.1 + 1, a.2.2 + 0)) else a
def sStk (s : ST) (sh st c : Int32) (k : Nat) : Tr := ((s_env s).zipIdx.take k).foldl (stS s sh st c) (0, 0, 0)
def stE (s : ST) (a : Tr) : Int32 := if a.1 < s_siz s then -2 else if a.2.1 ≤ 0 then a.2.2 else if s_siz s ≤ a.2.1 then a.2.2 else -2
abbrev ok_street (p0 p1 p2 : Int32) : Prop := (0 ≤ p0 ∧ p0 ≤ 3) ∧ (0 ≤ p1 ∧ p1 ≤ 9) ∧ (0 ≤ p2 ∧ p2 ≤ 4)
def p_street (s : ST) (p0 p1 p2 : Int32) : Int32 := if ok_street p0 p1 p2 then stE s (sStk s p0 p1 p2 (s_env s).length) else -1
def Sp_M_street (Γ : GAM) (m : Nat) (p0 p1 p2 : Int32) (g : GH) (K : Int32 → GH → Prop) : Prop := ∃ ma s, RefI m ma g s ∧ WF s ∧ K (p_street s p0 p1 p2) g
-- the walk of M_street
set_option maxRecDepth 100000 in
def B_M_street_195 (Γ : GAM) (K40 : Nat → Int32 → Int32 → Int32 → Int32 → Int32 → Int32 → Int32 → GH → Prop) (K : Int32 → GH → Prop) (s0 : Int32) (g : GH) : Prop :=
  K s0 g
set_option maxHeartbeats 4000000 in
set_option maxRecDepth 100000 in
theorem S_M_street_195 {Γ : GAM} {E : EV} {K : Int32 → GH → Prop} (hE : GE Γ E cX11_street 9 RX11 (some (.int)) 2 42 (fun r g' => ∃ x, r = some (.int x) ∧ K x g')) {K40 : Nat → Int32 → Int32 → Int32 → Int32 → Int32 → Int32 → Int32 → GH → Prop} (hK40 : ∀ (l0 : Nat) (l1 : Int32) (l2 : Int32) (l3 : Int32) (l4 : Int32) (l5 : Int32) (l6 : Int32) (l7 : Int32) (g : GH), K40 l0 l1 l2 l3 l4 l5 l6 l7 g → JW Γ E 40 [some (.ref l0), some (.int l1), some (.int l2), some (.int l3), some (.int l4), some (.int l5), some (.int l6), some (.int l7), none] [] g) (s0 : Int32) (g : GH) (h : B_M_street_195 Γ K40 K s0 g) : JW Γ E 195 [none, none, none, none, none, none, none, none, none] [.int s0] g := by
  unfold B_M_street_195 at h
  exact j_iret hE (by decide +kernel : decode cX11_street 195 = .ok (.ireturn, 1)) ⟨_, rfl, h⟩
set_option maxRecDepth 100000 in
def B_M_street_193 (Γ : GAM) (K40 : Nat → Int32 → Int32 → Int32 → Int32 → Int32 → Int32 → Int32 → GH → Prop) (K : Int32 → GH → Prop) (l6 : Int32) (g : GH) : Prop :=
  B_M_street_195 Γ K40 K l6 g
set_option maxHeartbeats 4000000 in
set_option maxRecDepth 100000 in
theorem S_M_street_193 {Γ : GAM} {E : EV} {K : Int32 → GH → Prop} (hE : GE Γ E cX11_street 9 RX11 (some (.int)) 2 42 (fun r g' => ∃ x, r = some (.int x) ∧ K x g')) {K40 : Nat → Int32 → Int32 → Int32 → Int32 → Int32 → Int32 → Int32 → GH → Prop} (hK40 : ∀ (l0 : Nat) (l1 : Int32) (l2 : Int32) (l3 : Int32) (l4 : Int32) (l5 : Int32) (l6 : Int32) (l7 : Int32) (g : GH), K40 l0 l1 l2 l3 l4 l5 l6 l7 g → JW Γ E 40 [some (.ref l0), some (.int l1), some (.int l2), some (.int l3), some (.int l4), some (.int l5), some (.int l6), some (.int l7), none] [] g) (l6 : Int32) (g : GH) (h : B_M_street_193 Γ K40 K l6 g) : JW Γ E 193 [none, none, none, none, none, none, some (.int l6), none, none] [] g := by
  unfold B_M_street_193 at h
  refine j_iload hE (by decide +kernel : decode cX11_street 193 = .ok (.iload 6, 2)) rfl ?_
  refine j_weak [none, none, none, none, none, none, none, none, none] trivial ?_
  exact S_M_street_195 hE hK40 _ _ h
set_option maxRecDepth 100000 in
def B_M_street_188 (Γ : GAM) (K40 : Nat → Int32 → Int32 → Int32 → Int32 → Int32 → Int32 → Int32 → GH → Prop) (K : Int32 → GH → Prop)  (g : GH) : Prop :=
  B_M_street_195 Γ K40 K (-2 : Int32) g
set_option maxHeartbeats 4000000 in
set_option maxRecDepth 100000 in
theorem S_M_street_188 {Γ : GAM} {E : EV} {K : Int32 → GH → Prop} (hE : GE Γ E cX11_street 9 RX11 (some (.int)) 2 42 (fun r g' => ∃ x, r = some (.int x) ∧ K x g')) {K40 : Nat → Int32 → Int32 → Int32 → Int32 → Int32 → Int32 → Int32 → GH → Prop} (hK40 : ∀ (l0 : Nat) (l1 : Int32) (l2 : Int32) (l3 : Int32) (l4 : Int32) (l5 : Int32) (l6 : Int32) (l7 : Int32) (g : GH), K40 l0 l1 l2 l3 l4 l5 l6 l7 g → JW Γ E 40 [some (.ref l0), some (.int l1), some (.int l2), some (.int l3), some (.int l4), some (.int l5), some (.int l6), some (.int l7), none] [] g)  (g : GH) (h : B_M_street_188 Γ K40 K  g) : JW Γ E 188 [none, none, none, none, none, none, none, none, none] [] g := by
  unfold B_M_street_188 at h
  refine j_bipush hE (by decide +kernel : decode cX11_street 188 = .ok (.bipush (-2), 2)) (v := (-2 : Int32)) (by decide) ?_
  refine j_goto hE (by decide +kernel : decode cX11_street 190 = .ok (.goto 5, 3)) (tgt := 195) (by decide) ?_
  exact S_M_street_195 hE hK40 _ _ h
set_option maxRecDepth 100000 in
def B_M_street_159 (Γ : GAM) (K40 : Nat → Int32 → Int32 → Int32 → Int32 → Int32 → Int32 → Int32 → GH → Prop) (K : Int32 → GH → Prop) (l0 : Nat) (l1 : Int32) (l2 : Int32) (l3 : Int32) (l4 : Int32) (l5 : Int32) (l6 : Int32) (l7 : Int32) (g : GH) : Prop :=
  K40 l0 l1 l2 l3 l4 l5 l6 (l7 + (1 : Int32)) g
set_option maxHeartbeats 4000000 in
set_option maxRecDepth 100000 in
theorem S_M_street_159 {Γ : GAM} {E : EV} {K : Int32 → GH → Prop} (hE : GE Γ E cX11_street 9 RX11 (some (.int)) 2 42 (fun r g' => ∃ x, r = some (.int x) ∧ K x g')) {K40 : Nat → Int32 → Int32 → Int32 → Int32 → Int32 → Int32 → Int32 → GH → Prop} (hK40 : ∀ (l0 : Nat) (l1 : Int32) (l2 : Int32) (l3 : Int32) (l4 : Int32) (l5 : Int32) (l6 : Int32) (l7 : Int32) (g : GH), K40 l0 l1 l2 l3 l4 l5 l6 l7 g → JW Γ E 40 [some (.ref l0), some (.int l1), some (.int l2), some (.int l3), some (.int l4), some (.int l5), some (.int l6), some (.int l7), none] [] g) (l0 : Nat) (l1 : Int32) (l2 : Int32) (l3 : Int32) (l4 : Int32) (l5 : Int32) (l6 : Int32) (l7 : Int32) (g : GH) (h : B_M_street_159 Γ K40 K l0 l1 l2 l3 l4 l5 l6 l7 g) : JW Γ E 159 [some (.ref l0), some (.int l1), some (.int l2), some (.int l3), some (.int l4), some (.int l5), some (.int l6), some (.int l7), none] [] g := by
  unfold B_M_street_159 at h
  refine j_iinc hE (by decide +kernel : decode cX11_street 159 = .ok (.iinc 7 1, 3)) (v := (1 : Int32)) (by decide) rfl (Nat.le_of_ble_eq_true rfl) rfl ?_
  refine j_goto hE (by decide +kernel : decode cX11_street 162 = .ok (.goto (-122), 3)) (tgt := 40) (by decide) ?_
  exact hK40 _ _ _ _ _ _ _ _ _ h
set_option maxRecDepth 100000 in
def B_M_street_156 (Γ : GAM) (K40 : Nat → Int32 → Int32 → Int32 → Int32 → Int32 → Int32 → Int32 → GH → Prop) (K : Int32 → GH → Prop) (l0 : Nat) (l1 : Int32) (l2 : Int32) (l3 : Int32) (l4 : Int32) (l5 : Int32) (l7 : Int32) (s0 : Int32) (s1 : Int32) (g : GH) : Prop :=
  ∀ x1 : Int32, x1 = (s1 + s0) → B_M_street_159 Γ K40 K l0 l1 l2 l3 l4 l5 x1 l7 g
set_option maxHeartbeats 4000000 in
set_option maxRecDepth 100000 in
theorem S_M_street_156 {Γ : GAM} {E : EV} {K : Int32 → GH → Prop} (hE : GE Γ E cX11_street 9 RX11 (some (.int)) 2 42 (fun r g' => ∃ x, r = some (.int x) ∧ K x g')) {K40 : Nat → Int32 → Int32 → Int32 → Int32 → Int32 → Int32 → Int32 → GH → Prop} (hK40 : ∀ (l0 : Nat) (l1 : Int32) (l2 : Int32) (l3 : Int32) (l4 : Int32) (l5 : Int32) (l6 : Int32) (l7 : Int32) (g : GH), K40 l0 l1 l2 l3 l4 l5 l6 l7 g → JW Γ E 40 [some (.ref l0), some (.int l1), some (.int l2), some (.int l3), some (.int l4), some (.int l5), some (.int l6), some (.int l7), none] [] g) (l0 : Nat) (l1 : Int32) (l2 : Int32) (l3 : Int32) (l4 : Int32) (l5 : Int32) (l7 : Int32) (s0 : Int32) (s1 : Int32) (g : GH) (h : B_M_street_156 Γ K40 K l0 l1 l2 l3 l4 l5 l7 s0 s1 g) : JW Γ E 156 [some (.ref l0), some (.int l1), some (.int l2), some (.int l3), some (.int l4), some (.int l5), none, some (.int l7), none] [.int s0, .int s1] g := by
  unfold B_M_street_156 at h
  refine j_iadd hE (by decide +kernel : decode cX11_street 156 = .ok (.iadd, 1)) ?_
  obtain ⟨x1, hx⟩ : ∃ z, z = (s1 + s0) := ⟨_, rfl⟩; replace h := h x1 hx; rw [← hx]
  refine j_istore hE (by decide +kernel : decode cX11_street 157 = .ok (.istore 6, 2)) (Nat.le_of_ble_eq_true rfl) rfl ?_
  exact S_M_street_159 hE hK40 _ _ _ _ _ _ _ _ _ h
set_option maxRecDepth 100000 in
def B_M_street_155 (Γ : GAM) (K40 : Nat → Int32 → Int32 → Int32 → Int32 → Int32 → Int32 → Int32 → GH → Prop) (K : Int32 → GH → Prop) (l0 : Nat) (l1 : Int32) (l2 : Int32) (l3 : Int32) (l4 : Int32) (l5 : Int32) (l7 : Int32) (s0 : Int32) (g : GH) : Prop :=
  B_M_street_156 Γ K40 K l0 l1 l2 l3 l4 l5 l7 (0 : Int32) s0 g
set_option maxHeartbeats 4000000 in
set_option maxRecDepth 100000 in
theorem S_M_street_155 {Γ : GAM} {E : EV} {K : Int32 → GH → Prop} (hE : GE Γ E cX11_street 9 RX11 (some (.int)) 2 42 (fun r g' => ∃ x, r = some (.int x) ∧ K x g')) {K40 : Nat → Int32 → Int32 → Int32 → Int32 → Int32 → Int32 → Int32 → GH → Prop} (hK40 : ∀ (l0 : Nat) (l1 : Int32) (l2 : Int32) (l3 : Int32) (l4 : Int32) (l5 : Int32) (l6 : Int32) (l7 : Int32) (g : GH), K40 l0 l1 l2 l3 l4 l5 l6 l7 g → JW Γ E 40 [some (.ref l0), some (.int l1), some (.int l2), some (.int l3), some (.int l4), some (.int l5), some (.int l6), some (.int l7), none] [] g) (l0 : Nat) (l1 : Int32) (l2 : Int32) (l3 : Int32) (l4 : Int32) (l5 : Int32) (l7 : Int32) (s0 : Int32) (g : GH) (h : B_M_street_155 Γ K40 K l0 l1 l2 l3 l4 l5 l7 s0 g) : JW Γ E 155 [some (.ref l0), some (.int l1), some (.int l2), some (.int l3), some (.int l4), some (.int l5), none, some (.int l7), none] [.int s0] g := by
  unfold B_M_street_155 at h
  refine j_iconst hE (by decide +kernel : decode cX11_street 155 = .ok (.iconst 0, 1)) (v := (0 : Int32)) (by decide) ?_
  exact S_M_street_156 hE hK40 _ _ _ _ _ _ _ _ _ _ h
set_option maxRecDepth 100000 in
def B_M_street_130 (Γ : GAM) (K40 : Nat → Int32 → Int32 → Int32 → Int32 → Int32 → Int32 → Int32 → GH → Prop) (K : Int32 → GH → Prop) (l0 : Nat) (l1 : Int32) (l2 : Int32) (l3 : Int32) (l4 : Int32) (l6 : Int32) (l7 : Int32) (l8 : Int32) (s0 : Int32) (s1 : Int32) (g : GH) : Prop :=
  ∀ x1 : Int32, x1 = (s1 + s0) → ((l8 = 0 → B_M_street_155 Γ K40 K l0 l1 l2 l3 l4 x1 l7 l6 g) ∧ (¬ (l8 = 0) → Kd g l0 = 13 ∧ ∃ a2 : Nat, Gr g 1559 l0 = some a2 ∧ Kd g a2 = 20 ∧ inB l7 (Ln g a2) ∧ ((¬ ((Ia g (Co g a2) (Ow g a2) l7.toNatClampNeg) = l3) → B_M_street_155 Γ K40 K l0 l1 l2 l3 l4 x1 l7 l6 g) ∧ ((Ia g (Co g a2) (Ow g a2) l7.toNatClampNeg) = l3 → B_M_street_156 Γ K40 K l0 l1 l2 l3 l4 x1 l7 (1 : Int32) l6 g))))
set_option maxHeartbeats 4000000 in
set_option maxRecDepth 100000 in
theorem S_M_street_130 {Γ : GAM} {E : EV} {K : Int32 → GH → Prop} (hE : GE Γ E cX11_street 9 RX11 (some (.int)) 2 42 (fun r g' => ∃ x, r = some (.int x) ∧ K x g')) {K40 : Nat → Int32 → Int32 → Int32 → Int32 → Int32 → Int32 → Int32 → GH → Prop} (hK40 : ∀ (l0 : Nat) (l1 : Int32) (l2 : Int32) (l3 : Int32) (l4 : Int32) (l5 : Int32) (l6 : Int32) (l7 : Int32) (g : GH), K40 l0 l1 l2 l3 l4 l5 l6 l7 g → JW Γ E 40 [some (.ref l0), some (.int l1), some (.int l2), some (.int l3), some (.int l4), some (.int l5), some (.int l6), some (.int l7), none] [] g) (l0 : Nat) (l1 : Int32) (l2 : Int32) (l3 : Int32) (l4 : Int32) (l6 : Int32) (l7 : Int32) (l8 : Int32) (s0 : Int32) (s1 : Int32) (g : GH) (h : B_M_street_130 Γ K40 K l0 l1 l2 l3 l4 l6 l7 l8 s0 s1 g) : JW Γ E 130 [some (.ref l0), some (.int l1), some (.int l2), some (.int l3), some (.int l4), none, some (.int l6), some (.int l7), some (.int l8)] [.int s0, .int s1] g := by
  unfold B_M_street_130 at h
  refine j_iadd hE (by decide +kernel : decode cX11_street 130 = .ok (.iadd, 1)) ?_
  obtain ⟨x1, hx⟩ : ∃ z, z = (s1 + s0) := ⟨_, rfl⟩; replace h := h x1 hx; rw [← hx]
  refine j_istore hE (by decide +kernel : decode cX11_street 131 = .ok (.istore 5, 2)) (Nat.le_of_ble_eq_true rfl) rfl ?_
  refine j_iload hE (by decide +kernel : decode cX11_street 133 = .ok (.iload 6, 2)) rfl ?_
  refine j_iload hE (by decide +kernel : decode cX11_street 135 = .ok (.iload 8, 2)) rfl ?_
  refine j_if_eq hE (by decide +kernel : decode cX11_street 137 = .ok (.ifCond .eq 18, 3)) (tgt := 155) (by decide) (fun q => ?_) (fun q => ?_)
  · replace h := h.1 q
    refine j_weak [some (.ref l0), some (.int l1), some (.int l2), some (.int l3), some (.int l4), some (.int x1), none, some (.int l7), none] ⟨rfl, ⟨rfl, ⟨rfl, ⟨rfl, ⟨rfl, ⟨rfl, ⟨rfl, trivial⟩⟩⟩⟩⟩⟩⟩ ?_
    exact S_M_street_155 hE hK40 _ _ _ _ _ _ _ _ _ h
  · replace h := h.2 q
    refine j_aload_n hE (by decide +kernel : decode cX11_street 140 = .ok (.aload_n 0, 1)) rfl rfl ?_
    obtain ⟨hk, h⟩ := h
    obtain ⟨a2, ha, h⟩ := h
    refine j_getRn hE fg_X11_44 hk ha (by decide +kernel : decode cX11_street 141 = .ok (.getfield 44, 3)) ?_
    refine j_iload hE (by decide +kernel : decode cX11_street 144 = .ok (.iload 7, 2)) rfl ?_
    obtain ⟨hk, hb, h⟩ := h
    refine j_iald hE hk hb (by decide +kernel : decode cX11_street 146 = .ok (.iaload, 1)) ?_
    refine j_iload_n hE (by decide +kernel : decode cX11_street 147 = .ok (.iload_n 3, 1)) rfl rfl ?_
    refine j_icmp_ne hE (by decide +kernel : decode cX11_street 148 = .ok (.if_icmp .ne 7, 3)) (tgt := 155) (by decide) (fun q => ?_) (fun q => ?_)
    · replace h := h.1 q
      refine j_weak [some (.ref l0), some (.int l1), some (.int l2), some (.int l3), some (.int l4), some (.int x1), none, some (.int l7), none] ⟨rfl, ⟨rfl, ⟨rfl, ⟨rfl, ⟨rfl, ⟨rfl, ⟨rfl, trivial⟩⟩⟩⟩⟩⟩⟩ ?_
      exact S_M_street_155 hE hK40 _ _ _ _ _ _ _ _ _ h
    · replace h := h.2 q
      refine j_iconst hE (by decide +kernel : decode cX11_street 151 = .ok (.iconst 1, 1)) (v := (1 : Int32)) (by decide) ?_
      refine j_goto hE (by decide +kernel : decode cX11_street 152 = .ok (.goto 4, 3)) (tgt := 156) (by decide) ?_
      refine j_weak [some (.ref l0), some (.int l1), some (.int l2), some (.int l3), some (.int l4), some (.int x1), none, some (.int l7), none] ⟨rfl, ⟨rfl, ⟨rfl, ⟨rfl, ⟨rfl, ⟨rfl, ⟨rfl, trivial⟩⟩⟩⟩⟩⟩⟩ ?_
      exact S_M_street_156 hE hK40 _ _ _ _ _ _ _ _ _ _ h
set_option maxRecDepth 100000 in
def B_M_street_115 (Γ : GAM) (K40 : Nat → Int32 → Int32 → Int32 → Int32 → Int32 → Int32 → Int32 → GH → Prop) (K : Int32 → GH → Prop) (l0 : Nat) (l1 : Int32) (l2 : Int32) (l3 : Int32) (l5 : Int32) (l6 : Int32) (l7 : Int32) (l8 : Int32) (s0 : Int32) (s1 : Int32) (g : GH) : Prop :=
  ∀ x1 : Int32, x1 = (s1 + s0) → ((l8 = 0 → B_M_street_130 Γ K40 K l0 l1 l2 l3 x1 l6 l7 l8 (1 : Int32) l5 g) ∧ (¬ (l8 = 0) → B_M_street_130 Γ K40 K l0 l1 l2 l3 x1 l6 l7 l8 (0 : Int32) l5 g))
set_option maxHeartbeats 4000000 in
set_option maxRecDepth 100000 in
theorem S_M_street_115 {Γ : GAM} {E : EV} {K : Int32 → GH → Prop} (hE : GE Γ E cX11_street 9 RX11 (some (.int)) 2 42 (fun r g' => ∃ x, r = some (.int x) ∧ K x g')) {K40 : Nat → Int32 → Int32 → Int32 → Int32 → Int32 → Int32 → Int32 → GH → Prop} (hK40 : ∀ (l0 : Nat) (l1 : Int32) (l2 : Int32) (l3 : Int32) (l4 : Int32) (l5 : Int32) (l6 : Int32) (l7 : Int32) (g : GH), K40 l0 l1 l2 l3 l4 l5 l6 l7 g → JW Γ E 40 [some (.ref l0), some (.int l1), some (.int l2), some (.int l3), some (.int l4), some (.int l5), some (.int l6), some (.int l7), none] [] g) (l0 : Nat) (l1 : Int32) (l2 : Int32) (l3 : Int32) (l5 : Int32) (l6 : Int32) (l7 : Int32) (l8 : Int32) (s0 : Int32) (s1 : Int32) (g : GH) (h : B_M_street_115 Γ K40 K l0 l1 l2 l3 l5 l6 l7 l8 s0 s1 g) : JW Γ E 115 [some (.ref l0), some (.int l1), some (.int l2), some (.int l3), none, some (.int l5), some (.int l6), some (.int l7), some (.int l8)] [.int s0, .int s1] g := by
  unfold B_M_street_115 at h
  refine j_iadd hE (by decide +kernel : decode cX11_street 115 = .ok (.iadd, 1)) ?_
  obtain ⟨x1, hx⟩ : ∃ z, z = (s1 + s0) := ⟨_, rfl⟩; replace h := h x1 hx; rw [← hx]
  refine j_istore hE (by decide +kernel : decode cX11_street 116 = .ok (.istore 4, 2)) (Nat.le_of_ble_eq_true rfl) rfl ?_
  refine j_iload hE (by decide +kernel : decode cX11_street 118 = .ok (.iload 5, 2)) rfl ?_
  refine j_iload hE (by decide +kernel : decode cX11_street 120 = .ok (.iload 8, 2)) rfl ?_
  refine j_if_eq hE (by decide +kernel : decode cX11_street 122 = .ok (.ifCond .eq 7, 3)) (tgt := 129) (by decide) (fun q => ?_) (fun q => ?_)
  · replace h := h.1 q
    refine j_iconst hE (by decide +kernel : decode cX11_street 129 = .ok (.iconst 1, 1)) (v := (1 : Int32)) (by decide) ?_
    refine j_weak [some (.ref l0), some (.int l1), some (.int l2), some (.int l3), some (.int x1), none, some (.int l6), some (.int l7), some (.int l8)] ⟨rfl, ⟨rfl, ⟨rfl, ⟨rfl, ⟨rfl, ⟨rfl, ⟨rfl, ⟨rfl, trivial⟩⟩⟩⟩⟩⟩⟩⟩ ?_
    exact S_M_street_130 hE hK40 _ _ _ _ _ _ _ _ _ _ _ h
  · replace h := h.2 q
    refine j_iconst hE (by decide +kernel : decode cX11_street 125 = .ok (.iconst 0, 1)) (v := (0 : Int32)) (by decide) ?_
    refine j_goto hE (by decide +kernel : decode cX11_street 126 = .ok (.goto 4, 3)) (tgt := 130) (by decide) ?_
    refine j_weak [some (.ref l0), some (.int l1), some (.int l2), some (.int l3), some (.int x1), none, some (.int l6), some (.int l7), some (.int l8)] ⟨rfl, ⟨rfl, ⟨rfl, ⟨rfl, ⟨rfl, ⟨rfl, ⟨rfl, ⟨rfl, trivial⟩⟩⟩⟩⟩⟩⟩⟩ ?_
    exact S_M_street_130 hE hK40 _ _ _ _ _ _ _ _ _ _ _ h
set_option maxRecDepth 100000 in
def B_M_street_101 (Γ : GAM) (K40 : Nat → Int32 → Int32 → Int32 → Int32 → Int32 → Int32 → Int32 → GH → Prop) (K : Int32 → GH → Prop) (l0 : Nat) (l1 : Int32) (l2 : Int32) (l3 : Int32) (l4 : Int32) (l5 : Int32) (l6 : Int32) (l7 : Int32) (s0 : Int32) (g : GH) : Prop :=
  ((s0 = 0 → B_M_street_115 Γ K40 K l0 l1 l2 l3 l5 l6 l7 s0 (0 : Int32) l4 g) ∧ (¬ (s0 = 0) → B_M_street_115 Γ K40 K l0 l1 l2 l3 l5 l6 l7 s0 (1 : Int32) l4 g))
set_option maxHeartbeats 4000000 in
set_option maxRecDepth 100000 in
theorem S_M_street_101 {Γ : GAM} {E : EV} {K : Int32 → GH → Prop} (hE : GE Γ E cX11_street 9 RX11 (some (.int)) 2 42 (fun r g' => ∃ x, r = some (.int x) ∧ K x g')) {K40 : Nat → Int32 → Int32 → Int32 → Int32 → Int32 → Int32 → Int32 → GH → Prop} (hK40 : ∀ (l0 : Nat) (l1 : Int32) (l2 : Int32) (l3 : Int32) (l4 : Int32) (l5 : Int32) (l6 : Int32) (l7 : Int32) (g : GH), K40 l0 l1 l2 l3 l4 l5 l6 l7 g → JW Γ E 40 [some (.ref l0), some (.int l1), some (.int l2), some (.int l3), some (.int l4), some (.int l5), some (.int l6), some (.int l7), none] [] g) (l0 : Nat) (l1 : Int32) (l2 : Int32) (l3 : Int32) (l4 : Int32) (l5 : Int32) (l6 : Int32) (l7 : Int32) (s0 : Int32) (g : GH) (h : B_M_street_101 Γ K40 K l0 l1 l2 l3 l4 l5 l6 l7 s0 g) : JW Γ E 101 [some (.ref l0), some (.int l1), some (.int l2), some (.int l3), some (.int l4), some (.int l5), some (.int l6), some (.int l7), none] [.int s0] g := by
  unfold B_M_street_101 at h
  refine j_istore hE (by decide +kernel : decode cX11_street 101 = .ok (.istore 8, 2)) (Nat.le_of_ble_eq_true rfl) rfl ?_
  refine j_iload hE (by decide +kernel : decode cX11_street 103 = .ok (.iload 4, 2)) rfl ?_
  refine j_iload hE (by decide +kernel : decode cX11_street 105 = .ok (.iload 8, 2)) rfl ?_
  refine j_if_eq hE (by decide +kernel : decode cX11_street 107 = .ok (.ifCond .eq 7, 3)) (tgt := 114) (by decide) (fun q => ?_) (fun q => ?_)
  · replace h := h.1 q
    refine j_iconst hE (by decide +kernel : decode cX11_street 114 = .ok (.iconst 0, 1)) (v := (0 : Int32)) (by decide) ?_
    refine j_weak [some (.ref l0), some (.int l1), some (.int l2), some (.int l3), none, some (.int l5), some (.int l6), some (.int l7), some (.int s0)] ⟨rfl, ⟨rfl, ⟨rfl, ⟨rfl, ⟨rfl, ⟨rfl, ⟨rfl, ⟨rfl, trivial⟩⟩⟩⟩⟩⟩⟩⟩ ?_
    exact S_M_street_115 hE hK40 _ _ _ _ _ _ _ _ _ _ _ h
  · replace h := h.2 q
    refine j_iconst hE (by decide +kernel : decode cX11_street 110 = .ok (.iconst 1, 1)) (v := (1 : Int32)) (by decide) ?_
    refine j_goto hE (by decide +kernel : decode cX11_street 111 = .ok (.goto 4, 3)) (tgt := 115) (by decide) ?_
    refine j_weak [some (.ref l0), some (.int l1), some (.int l2), some (.int l3), none, some (.int l5), some (.int l6), some (.int l7), some (.int s0)] ⟨rfl, ⟨rfl, ⟨rfl, ⟨rfl, ⟨rfl, ⟨rfl, ⟨rfl, ⟨rfl, trivial⟩⟩⟩⟩⟩⟩⟩⟩ ?_
    exact S_M_street_115 hE hK40 _ _ _ _ _ _ _ _ _ _ _ h
set_option maxRecDepth 100000 in
def B_M_street_40 (Γ : GAM) (K40 : Nat → Int32 → Int32 → Int32 → Int32 → Int32 → Int32 → Int32 → GH → Prop) (K : Int32 → GH → Prop) (l0 : Nat) (l1 : Int32) (l2 : Int32) (l3 : Int32) (l4 : Int32) (l5 : Int32) (l6 : Int32) (l7 : Int32) (g : GH) : Prop :=
  Kd g l0 = 13 ∧ (((Gi g 1539 l0) ≤ l7 → Kd g l0 = 13 ∧ ((l4 < (Gi g 1548 l0) → B_M_street_188 Γ K40 K g) ∧ (¬ (l4 < (Gi g 1548 l0)) → ((l5 ≤ 0 → B_M_street_193 Γ K40 K l6 g) ∧ (¬ (l5 ≤ 0) → Kd g l0 = 13 ∧ (((Gi g 1548 l0) ≤ l5 → B_M_street_193 Γ K40 K l6 g) ∧ (¬ ((Gi g 1548 l0) ≤ l5) → B_M_street_188 Γ K40 K g))))))) ∧ (¬ ((Gi g 1539 l0) ≤ l7) → Kd g l0 = 13 ∧ ∃ a1 : Nat, Gr g 1628 l0 = some a1 ∧ Kd g a1 = 20 ∧ inB l7 (Ln g a1) ∧ (((Ia g (Co g a1) (Ow g a1) l7.toNatClampNeg) = 0 → B_M_street_159 Γ K40 K l0 l1 l2 l3 l4 l5 l6 l7 g) ∧ (¬ ((Ia g (Co g a1) (Ow g a1) l7.toNatClampNeg) = 0) → Kd g l0 = 13 ∧ ∃ a2 : Nat, Gr g 1629 l0 = some a2 ∧ Kd g l0 = 13 ∧ ∃ a3 : Nat, Gr g 1628 l0 = some a3 ∧ Kd g a3 = 20 ∧ inB l7 (Ln g a3) ∧ Kd g a2 = 20 ∧ inB ((Ia g (Co g a3) (Ow g a3) l7.toNatClampNeg) - (1 : Int32)) (Ln g a2) ∧ (((Ia g (Co g a2) (Ow g a2) ((Ia g (Co g a3) (Ow g a3) l7.toNatClampNeg) - (1 : Int32)).toNatClampNeg) = l1 → Kd g l0 = 13 ∧ ∃ a4 : Nat, Gr g 1550 l0 = some a4 ∧ Kd g l0 = 13 ∧ ∃ a5 : Nat, Gr g 1556 l0 = some a5 ∧ Kd g a5 = 20 ∧ inB l7 (Ln g a5) ∧ Kd g a4 = 20 ∧ inB (Ia g (Co g a5) (Ow g a5) l7.toNatClampNeg) (Ln g a4) ∧ ((¬ ((Ia g (Co g a4) (Ow g a4) (Ia g (Co g a5) (Ow g a5) l7.toNatClampNeg).toNatClampNeg) = l2) → B_M_street_101 Γ K40 K l0 l1 l2 l3 l4 l5 l6 l7 (0 : Int32) g) ∧ ((Ia g (Co g a4) (Ow g a4) (Ia g (Co g a5) (Ow g a5) l7.toNatClampNeg).toNatClampNeg) = l2 → B_M_street_101 Γ K40 K l0 l1 l2 l3 l4 l5 l6 l7 (1 : Int32) g))) ∧ (¬ ((Ia g (Co g a2) (Ow g a2) ((Ia g (Co g a3) (Ow g a3) l7.toNatClampNeg) - (1 : Int32)).toNatClampNeg) = l1) → B_M_street_159 Γ K40 K l0 l1 l2 l3 l4 l5 l6 l7 g))))))
set_option maxHeartbeats 4000000 in
set_option maxRecDepth 100000 in
theorem S_M_street_40 {Γ : GAM} {E : EV} {K : Int32 → GH → Prop} (hE : GE Γ E cX11_street 9 RX11 (some (.int)) 2 42 (fun r g' => ∃ x, r = some (.int x) ∧ K x g')) {K40 : Nat → Int32 → Int32 → Int32 → Int32 → Int32 → Int32 → Int32 → GH → Prop} (hK40 : ∀ (l0 : Nat) (l1 : Int32) (l2 : Int32) (l3 : Int32) (l4 : Int32) (l5 : Int32) (l6 : Int32) (l7 : Int32) (g : GH), K40 l0 l1 l2 l3 l4 l5 l6 l7 g → JW Γ E 40 [some (.ref l0), some (.int l1), some (.int l2), some (.int l3), some (.int l4), some (.int l5), some (.int l6), some (.int l7), none] [] g) (l0 : Nat) (l1 : Int32) (l2 : Int32) (l3 : Int32) (l4 : Int32) (l5 : Int32) (l6 : Int32) (l7 : Int32) (g : GH) (h : B_M_street_40 Γ K40 K l0 l1 l2 l3 l4 l5 l6 l7 g) : JW Γ E 40 [some (.ref l0), some (.int l1), some (.int l2), some (.int l3), some (.int l4), some (.int l5), some (.int l6), some (.int l7), none] [] g := by
  unfold B_M_street_40 at h
  refine j_iload hE (by decide +kernel : decode cX11_street 40 = .ok (.iload 7, 2)) rfl ?_
  refine j_aload_n hE (by decide +kernel : decode cX11_street 42 = .ok (.aload_n 0, 1)) rfl rfl ?_
  obtain ⟨hk, h⟩ := h
  refine j_getI hE fg_X11_241 hk (by decide +kernel : decode cX11_street 43 = .ok (.getfield 241, 3)) ?_
  refine j_icmp_ge hE (by decide +kernel : decode cX11_street 46 = .ok (.if_icmp .ge 119, 3)) (tgt := 165) (by decide) (fun q => ?_) (fun q => ?_)
  · replace h := h.1 q
    refine j_iload hE (by decide +kernel : decode cX11_street 165 = .ok (.iload 4, 2)) rfl ?_
    refine j_aload_n hE (by decide +kernel : decode cX11_street 167 = .ok (.aload_n 0, 1)) rfl rfl ?_
    obtain ⟨hk, h⟩ := h
    refine j_getI hE fg_X11_7 hk (by decide +kernel : decode cX11_street 168 = .ok (.getfield 7, 3)) ?_
    refine j_icmp_lt hE (by decide +kernel : decode cX11_street 171 = .ok (.if_icmp .lt 17, 3)) (tgt := 188) (by decide) (fun q => ?_) (fun q => ?_)
    · replace h := h.1 q
      refine j_weak [none, none, none, none, none, none, none, none, none] trivial ?_
      exact S_M_street_188 hE hK40 _ h
    · replace h := h.2 q
      refine j_iload hE (by decide +kernel : decode cX11_street 174 = .ok (.iload 5, 2)) rfl ?_
      refine j_if_le hE (by decide +kernel : decode cX11_street 176 = .ok (.ifCond .le 17, 3)) (tgt := 193) (by decide) (fun q => ?_) (fun q => ?_)
      · replace h := h.1 q
        refine j_weak [none, none, none, none, none, none, some (.int l6), none, none] ⟨rfl, trivial⟩ ?_
        exact S_M_street_193 hE hK40 _ _ h
      · replace h := h.2 q
        refine j_iload hE (by decide +kernel : decode cX11_street 179 = .ok (.iload 5, 2)) rfl ?_
        refine j_aload_n hE (by decide +kernel : decode cX11_street 181 = .ok (.aload_n 0, 1)) rfl rfl ?_
        obtain ⟨hk, h⟩ := h
        refine j_getI hE fg_X11_7 hk (by decide +kernel : decode cX11_street 182 = .ok (.getfield 7, 3)) ?_
        refine j_icmp_ge hE (by decide +kernel : decode cX11_street 185 = .ok (.if_icmp .ge 8, 3)) (tgt := 193) (by decide) (fun q => ?_) (fun q => ?_)
        · replace h := h.1 q
          refine j_weak [none, none, none, none, none, none, some (.int l6), none, none] ⟨rfl, trivial⟩ ?_
          exact S_M_street_193 hE hK40 _ _ h
        · replace h := h.2 q
          refine j_weak [none, none, none, none, none, none, none, none, none] trivial ?_
          exact S_M_street_188 hE hK40 _ h
  · replace h := h.2 q
    refine j_aload_n hE (by decide +kernel : decode cX11_street 49 = .ok (.aload_n 0, 1)) rfl rfl ?_
    obtain ⟨hk, h⟩ := h
    obtain ⟨a1, ha, h⟩ := h
    refine j_getRn hE fg_X11_204 hk ha (by decide +kernel : decode cX11_street 50 = .ok (.getfield 204, 3)) ?_
    refine j_iload hE (by decide +kernel : decode cX11_street 53 = .ok (.iload 7, 2)) rfl ?_
    obtain ⟨hk, hb, h⟩ := h
    refine j_iald hE hk hb (by decide +kernel : decode cX11_street 55 = .ok (.iaload, 1)) ?_
    refine j_if_eq hE (by decide +kernel : decode cX11_street 56 = .ok (.ifCond .eq 103, 3)) (tgt := 159) (by decide) (fun q => ?_) (fun q => ?_)
    · replace h := h.1 q
      exact S_M_street_159 hE hK40 _ _ _ _ _ _ _ _ _ h
    · replace h := h.2 q
      refine j_aload_n hE (by decide +kernel : decode cX11_street 59 = .ok (.aload_n 0, 1)) rfl rfl ?_
      obtain ⟨hk, h⟩ := h
      obtain ⟨a2, ha, h⟩ := h
      refine j_getRn hE fg_X11_207 hk ha (by decide +kernel : decode cX11_street 60 = .ok (.getfield 207, 3)) ?_
      refine j_aload_n hE (by decide +kernel : decode cX11_street 63 = .ok (.aload_n 0, 1)) rfl rfl ?_
      obtain ⟨hk, h⟩ := h
      obtain ⟨a3, ha, h⟩ := h
      refine j_getRn hE fg_X11_204 hk ha (by decide +kernel : decode cX11_street 64 = .ok (.getfield 204, 3)) ?_
      refine j_iload hE (by decide +kernel : decode cX11_street 67 = .ok (.iload 7, 2)) rfl ?_
      obtain ⟨hk, hb, h⟩ := h
      refine j_iald hE hk hb (by decide +kernel : decode cX11_street 69 = .ok (.iaload, 1)) ?_
      refine j_iconst hE (by decide +kernel : decode cX11_street 70 = .ok (.iconst 1, 1)) (v := (1 : Int32)) (by decide) ?_
      refine j_isub hE (by decide +kernel : decode cX11_street 71 = .ok (.isub, 1)) ?_
      obtain ⟨hk, hb, h⟩ := h
      refine j_iald hE hk hb (by decide +kernel : decode cX11_street 72 = .ok (.iaload, 1)) ?_
      refine j_iload_n hE (by decide +kernel : decode cX11_street 73 = .ok (.iload_n 1, 1)) rfl rfl ?_
      refine j_icmp_eq hE (by decide +kernel : decode cX11_street 74 = .ok (.if_icmp .eq 6, 3)) (tgt := 80) (by decide) (fun q => ?_) (fun q => ?_)
      · replace h := h.1 q
        refine j_aload_n hE (by decide +kernel : decode cX11_street 80 = .ok (.aload_n 0, 1)) rfl rfl ?_
        obtain ⟨hk, h⟩ := h
        obtain ⟨a4, ha, h⟩ := h
        refine j_getRn hE fg_X11_17 hk ha (by decide +kernel : decode cX11_street 81 = .ok (.getfield 17, 3)) ?_
        refine j_aload_n hE (by decide +kernel : decode cX11_street 84 = .ok (.aload_n 0, 1)) rfl rfl ?_
        obtain ⟨hk, h⟩ := h
        obtain ⟨a5, ha, h⟩ := h
        refine j_getRn hE fg_X11_35 hk ha (by decide +kernel : decode cX11_street 85 = .ok (.getfield 35, 3)) ?_
        refine j_iload hE (by decide +kernel : decode cX11_street 88 = .ok (.iload 7, 2)) rfl ?_
        obtain ⟨hk, hb, h⟩ := h
        refine j_iald hE hk hb (by decide +kernel : decode cX11_street 90 = .ok (.iaload, 1)) ?_
        obtain ⟨hk, hb, h⟩ := h
        refine j_iald hE hk hb (by decide +kernel : decode cX11_street 91 = .ok (.iaload, 1)) ?_
        refine j_iload_n hE (by decide +kernel : decode cX11_street 92 = .ok (.iload_n 2, 1)) rfl rfl ?_
        refine j_icmp_ne hE (by decide +kernel : decode cX11_street 93 = .ok (.if_icmp .ne 7, 3)) (tgt := 100) (by decide) (fun q => ?_) (fun q => ?_)
        · replace h := h.1 q
          refine j_iconst hE (by decide +kernel : decode cX11_street 100 = .ok (.iconst 0, 1)) (v := (0 : Int32)) (by decide) ?_
          exact S_M_street_101 hE hK40 _ _ _ _ _ _ _ _ _ _ h
        · replace h := h.2 q
          refine j_iconst hE (by decide +kernel : decode cX11_street 96 = .ok (.iconst 1, 1)) (v := (1 : Int32)) (by decide) ?_
          refine j_goto hE (by decide +kernel : decode cX11_street 97 = .ok (.goto 4, 3)) (tgt := 101) (by decide) ?_
          exact S_M_street_101 hE hK40 _ _ _ _ _ _ _ _ _ _ h
      · replace h := h.2 q
        refine j_goto hE (by decide +kernel : decode cX11_street 77 = .ok (.goto 82, 3)) (tgt := 159) (by decide) ?_
        exact S_M_street_159 hE hK40 _ _ _ _ _ _ _ _ _ h
set_option maxRecDepth 100000 in
def B_M_street_26 (Γ : GAM) (K40 : Nat → Int32 → Int32 → Int32 → Int32 → Int32 → Int32 → Int32 → GH → Prop) (K : Int32 → GH → Prop)  (g : GH) : Prop :=
  K (-1 : Int32) g
set_option maxHeartbeats 4000000 in
set_option maxRecDepth 100000 in
theorem S_M_street_26 {Γ : GAM} {E : EV} {K : Int32 → GH → Prop} (hE : GE Γ E cX11_street 9 RX11 (some (.int)) 2 42 (fun r g' => ∃ x, r = some (.int x) ∧ K x g')) {K40 : Nat → Int32 → Int32 → Int32 → Int32 → Int32 → Int32 → Int32 → GH → Prop} (hK40 : ∀ (l0 : Nat) (l1 : Int32) (l2 : Int32) (l3 : Int32) (l4 : Int32) (l5 : Int32) (l6 : Int32) (l7 : Int32) (g : GH), K40 l0 l1 l2 l3 l4 l5 l6 l7 g → JW Γ E 40 [some (.ref l0), some (.int l1), some (.int l2), some (.int l3), some (.int l4), some (.int l5), some (.int l6), some (.int l7), none] [] g)  (g : GH) (h : B_M_street_26 Γ K40 K  g) : JW Γ E 26 [none, none, none, none, none, none, none, none, none] [] g := by
  unfold B_M_street_26 at h
  refine j_iconst hE (by decide +kernel : decode cX11_street 26 = .ok (.iconst (-1), 1)) (v := (-1 : Int32)) (by decide) ?_
  exact j_iret hE (by decide +kernel : decode cX11_street 27 = .ok (.ireturn, 1)) ⟨_, rfl, h⟩
set_option maxRecDepth 100000 in
def B_M_street_0 (Γ : GAM) (K40 : Nat → Int32 → Int32 → Int32 → Int32 → Int32 → Int32 → Int32 → GH → Prop) (K : Int32 → GH → Prop) (th : Nat) (p0 : Int32) (p1 : Int32) (p2 : Int32) (g : GH) : Prop :=
  Sp_M_isShire Γ p0 g (fun (x2 : Int32) (g1 : GH) => ((x2 = 0 → B_M_street_26 Γ K40 K g1) ∧ (¬ (x2 = 0) → Sp_M_in Γ p1 (0 : Int32) (9 : Int32) g1 (fun (x4 : Int32) (g3 : GH) => ((x4 = 0 → B_M_street_26 Γ K40 K g3) ∧ (¬ (x4 = 0) → Sp_M_in Γ p2 (0 : Int32) (4 : Int32) g3 (fun (x6 : Int32) (g5 : GH) => ((¬ (x6 = 0) → K40 th p0 p1 p2 (0 : Int32) (0 : Int32) (0 : Int32) (0 : Int32) g5) ∧ (x6 = 0 → B_M_street_26 Γ K40 K g5)))))))))
set_option maxHeartbeats 4000000 in
set_option maxRecDepth 100000 in
theorem S_M_street_0 {Γ : GAM} {E : EV} {K : Int32 → GH → Prop} (hE : GE Γ E cX11_street 9 RX11 (some (.int)) 2 42 (fun r g' => ∃ x, r = some (.int x) ∧ K x g')) {K40 : Nat → Int32 → Int32 → Int32 → Int32 → Int32 → Int32 → Int32 → GH → Prop} (hK40 : ∀ (l0 : Nat) (l1 : Int32) (l2 : Int32) (l3 : Int32) (l4 : Int32) (l5 : Int32) (l6 : Int32) (l7 : Int32) (g : GH), K40 l0 l1 l2 l3 l4 l5 l6 l7 g → JW Γ E 40 [some (.ref l0), some (.int l1), some (.int l2), some (.int l3), some (.int l4), some (.int l5), some (.int l6), some (.int l7), none] [] g) (th : Nat) (p0 : Int32) (p1 : Int32) (p2 : Int32) (g : GH) (h : B_M_street_0 Γ K40 K th p0 p1 p2 g) : JW Γ E 0 [some (.ref th), some (.int p0), some (.int p1), some (.int p2), none, none, none, none, none] [] g := by
  unfold B_M_street_0 at h
  refine j_iload_n hE (by decide +kernel : decode cX11_street 0 = .ok (.iload_n 1, 1)) rfl rfl ?_
  refine j_callS hE rfl cl_X11_223 st_X11_isShire ⟨by omega, by omega⟩ (As := [.int p0]) (rest := []) rfl rfl (Nat.le_of_ble_eq_true rfl) (by decide +kernel : decode cX11_street 1 = .ok (.invokestatic 223, 3)) (mt_M_isShire _ _ _ h) ?_
  rintro _ g1 ⟨x2, rfl, h⟩
  refine j_if_eq hE (by decide +kernel : decode cX11_street 4 = .ok (.ifCond .eq 22, 3)) (tgt := 26) (by decide) (fun q => ?_) (fun q => ?_)
  · replace h := h.1 q
    refine j_weak [none, none, none, none, none, none, none, none, none] trivial ?_
    exact S_M_street_26 hE hK40 _ h
  · replace h := h.2 q
    refine j_iload_n hE (by decide +kernel : decode cX11_street 7 = .ok (.iload_n 2, 1)) rfl rfl ?_
    refine j_iconst hE (by decide +kernel : decode cX11_street 8 = .ok (.iconst 0, 1)) (v := (0 : Int32)) (by decide) ?_
    refine j_bipush hE (by decide +kernel : decode cX11_street 9 = .ok (.bipush 9, 2)) (v := (9 : Int32)) (by decide) ?_
    refine j_callS hE rfl cl_X11_213 st_X11_in ⟨by omega, by omega⟩ (As := [.int p1, .int (0 : Int32), .int (9 : Int32)]) (rest := []) rfl rfl (Nat.le_of_ble_eq_true rfl) (by decide +kernel : decode cX11_street 11 = .ok (.invokestatic 213, 3)) (mt_M_in _ _ _ _ _ h) ?_
    rintro _ g3 ⟨x4, rfl, h⟩
    refine j_if_eq hE (by decide +kernel : decode cX11_street 14 = .ok (.ifCond .eq 12, 3)) (tgt := 26) (by decide) (fun q => ?_) (fun q => ?_)
    · replace h := h.1 q
      refine j_weak [none, none, none, none, none, none, none, none, none] trivial ?_
      exact S_M_street_26 hE hK40 _ h
    · replace h := h.2 q
      refine j_iload_n hE (by decide +kernel : decode cX11_street 17 = .ok (.iload_n 3, 1)) rfl rfl ?_
      refine j_iconst hE (by decide +kernel : decode cX11_street 18 = .ok (.iconst 0, 1)) (v := (0 : Int32)) (by decide) ?_
      refine j_iconst hE (by decide +kernel : decode cX11_street 19 = .ok (.iconst 4, 1)) (v := (4 : Int32)) (by decide) ?_
      refine j_callS hE rfl cl_X11_213 st_X11_in ⟨by omega, by omega⟩ (As := [.int p2, .int (0 : Int32), .int (4 : Int32)]) (rest := []) rfl rfl (Nat.le_of_ble_eq_true rfl) (by decide +kernel : decode cX11_street 20 = .ok (.invokestatic 213, 3)) (mt_M_in _ _ _ _ _ h) ?_
      rintro _ g5 ⟨x6, rfl, h⟩
      refine j_if_ne hE (by decide +kernel : decode cX11_street 23 = .ok (.ifCond .ne 5, 3)) (tgt := 28) (by decide) (fun q => ?_) (fun q => ?_)
      · replace h := h.1 q
        refine j_iconst hE (by decide +kernel : decode cX11_street 28 = .ok (.iconst 0, 1)) (v := (0 : Int32)) (by decide) ?_
        refine j_istore hE (by decide +kernel : decode cX11_street 29 = .ok (.istore 4, 2)) (Nat.le_of_ble_eq_true rfl) rfl ?_
        refine j_iconst hE (by decide +kernel : decode cX11_street 31 = .ok (.iconst 0, 1)) (v := (0 : Int32)) (by decide) ?_
        refine j_istore hE (by decide +kernel : decode cX11_street 32 = .ok (.istore 5, 2)) (Nat.le_of_ble_eq_true rfl) rfl ?_
        refine j_iconst hE (by decide +kernel : decode cX11_street 34 = .ok (.iconst 0, 1)) (v := (0 : Int32)) (by decide) ?_
        refine j_istore hE (by decide +kernel : decode cX11_street 35 = .ok (.istore 6, 2)) (Nat.le_of_ble_eq_true rfl) rfl ?_
        refine j_iconst hE (by decide +kernel : decode cX11_street 37 = .ok (.iconst 0, 1)) (v := (0 : Int32)) (by decide) ?_
        refine j_istore hE (by decide +kernel : decode cX11_street 38 = .ok (.istore 7, 2)) (Nat.le_of_ble_eq_true rfl) rfl ?_
        exact hK40 _ _ _ _ _ _ _ _ _ h
      · replace h := h.2 q
        refine j_weak [none, none, none, none, none, none, none, none, none] trivial ?_
        exact S_M_street_26 hE hK40 _ h
set_option maxHeartbeats 4000000 in
set_option maxRecDepth 100000 in
theorem rl_M_street {Γ : GAM} {l : Launch} {th : Nat} {p0 : Int32} {p1 : Int32} {p2 : Int32} {g : GH} {K : Int32 → GH → Prop} (I40 : Nat → Nat → Int32 → Int32 → Int32 → Int32 → Int32 → Int32 → Int32 → GH → Prop) (hh40 : ∀ n (l0 : Nat) (l1 : Int32) (l2 : Int32) (l3 : Int32) (l4 : Int32) (l5 : Int32) (l6 : Int32) (l7 : Int32) (g : GH), I40 n l0 l1 l2 l3 l4 l5 l6 l7 g → B_M_street_40 Γ (fun l0 l1 l2 l3 l4 l5 l6 l7 g => ∃ m, m < n ∧ I40 m l0 l1 l2 l3 l4 l5 l6 l7 g) K l0 l1 l2 l3 l4 l5 l6 l7 g) (h0 : B_M_street_0 Γ (fun l0 l1 l2 l3 l4 l5 l6 l7 g => ∃ m, I40 m l0 l1 l2 l3 l4 l5 l6 l7 g) K th p0 p1 p2 g) : MetA Γ l yX11_street cX11_street 9 (some (.int)) 2 42 [.ref th, .int p0, .int p1, .int p2] g (fun r g' => ∃ x, r = some (.int x) ∧ K x g') := by
  refine MetA.introL (Lx := [some (.ref th), some (.int p0), some (.int p1), some (.int p2), none, none, none, none, none]) (by decide) (Nat.le_of_ble_eq_true rfl) rfl rfl ?_
  intro E hEl hE hnm
  have hall : ∀ n, (∀ (l0 : Nat) (l1 : Int32) (l2 : Int32) (l3 : Int32) (l4 : Int32) (l5 : Int32) (l6 : Int32) (l7 : Int32) (g : GH), I40 n l0 l1 l2 l3 l4 l5 l6 l7 g → JW Γ E 40 [some (.ref l0), some (.int l1), some (.int l2), some (.int l3), some (.int l4), some (.int l5), some (.int l6), some (.int l7), none] [] g) := by
    intro n
    induction n using Nat.strongRecOn with
    | ind n ih =>
      exact fun l0 l1 l2 l3 l4 l5 l6 l7 g hi => S_M_street_40 hE (fun l0 l1 l2 l3 l4 l5 l6 l7 g hm => by obtain ⟨m, hm, h⟩ := hm; exact (ih m hm) l0 l1 l2 l3 l4 l5 l6 l7 g h) l0 l1 l2 l3 l4 l5 l6 l7 g (hh40 n l0 l1 l2 l3 l4 l5 l6 l7 g hi)
  exact S_M_street_0 hE (fun l0 l1 l2 l3 l4 l5 l6 l7 g hm => by obtain ⟨m, h⟩ := hm; exact (hall m) l0 l1 l2 l3 l4 l5 l6 l7 g h) th p0 p1 p2 g h0
theorem mt_M_street {Γ : GAM} {l : Launch} (th : Nat) (p0 : Int32) (p1 : Int32) (p2 : Int32) (g : GH) (K : Int32 → GH → Prop) (h : Sp_M_street Γ th p0 p1 p2 g K) : MetA Γ l yX11_street cX11_street 9 (some (.int)) 2 42 [.ref th, .int p0, .int p1, .int p2] g (fun r g' => ∃ x, r = some (.int x) ∧ K x g') := by
  obtain ⟨ma, s, hI, hw, hK⟩ := h
  obtain ⟨hkd, hS⟩ := hI.1
  have hN := hw.len.2.2.1
  have hV := hw.len.1
  obtain ⟨f1, f2, f3⟩ := hI.hea
  obtain ⟨w1, w2, w3⟩ := hI.env
  obtain ⟨v1, v2, v3⟩ := hI.vot
  obtain ⟨z_heapOf1, z_heapOf2, z_heapOf3, z_heapOf4, z_heapOf5⟩ := hS 1628 20 200 rfl
  obtain ⟨z_heapShire1, z_heapShire2, z_heapShire3, z_heapShire4, z_heapShire5⟩ := hS 1629 20 40 rfl
  obtain ⟨z_streetOf1, z_streetOf2, z_streetOf3, z_streetOf4, z_streetOf5⟩ := hS 1550 20 60 rfl
  obtain ⟨z_voterOf1, z_voterOf2, z_voterOf3, z_voterOf4, z_voterOf5⟩ := hS 1556 20 200 rfl
  obtain ⟨z_choiceOf1, z_choiceOf2, z_choiceOf3, z_choiceOf4, z_choiceOf5⟩ := hS 1559 20 200 rfl
  have hno : ¬ ok_street p0 p1 p2 → K (-1) g := fun hn => by unfold p_street at hK; rw [if_neg hn] at hK; exact hK
  have hyes : ok_street p0 p1 p2 → K (stE s (sStk s p0 p1 p2 (s_env s).length)) g := fun hn => by unfold p_street at hK; rw [if_pos hn] at hK; exact hK
  refine rl_M_street (fun n l0 l1 l2 l3 l4 l5 l6 l7 g' => g = g' ∧ ok_street p0 p1 p2 ∧ th = l0 ∧ p0 = l1 ∧ p1 = l2 ∧ p2 = l3 ∧ ∃ k, k ≤ (s_env s).length ∧ n = (s_env s).length - k ∧ l7 = nI k ∧ (l4, l5, l6) = sStk s p0 p1 p2 k) ?_ ?_
  · rintro n l0 l1 l2 l3 l4 l5 l6 l7 g' ⟨rfl, hok, rfl, rfl, rfl, rfl, k, hk, rfl, rfl, hf⟩
    suffices H : ∀ K40 : Nat → Int32 → Int32 → Int32 → Int32 → Int32 → Int32 → Int32 → GH → Prop, (∀ a b c x, (s_env s)[k]? = some x → (a, b, c) = stS s p0 p1 p2 (l4, l5, l6) (x, k) → K40 th p0 p1 p2 a b c (nI (k + 1)) g) → B_M_street_40 Γ K40 K th p0 p1 p2 l4 l5 l6 (nI k) g from
      H _ (fun a b c x hx ha => ⟨(s_env s).length - (k + 1), by have := (List.getElem?_eq_some_iff.mp hx).1; omega, rfl, hok, rfl, rfl, rfl, rfl, k + 1, (List.getElem?_eq_some_iff.mp hx).1, rfl, rfl, by unfold sStk at hf ⊢; rw [fold_take _ _ _ (zip_get hx), ← hf]; exact ha⟩)
    intro K40 hnext
    unfold B_M_street_40
    simp only [hkd, w1, hI.siz, z_heapOf1, z_heapOf2, z_heapOf3, z_heapOf4, z_heapOf5, z_heapShire1, z_heapShire2, z_heapShire3, z_heapShire4, z_heapShire5, z_streetOf1, z_streetOf2, z_streetOf3, z_streetOf4, z_streetOf5, z_voterOf1, z_voterOf2, z_voterOf3, z_voterOf4, z_voterOf5, z_choiceOf1, z_choiceOf2, z_choiceOf3, z_choiceOf4, z_choiceOf5, Option.some.injEq, exists_eq_left', true_and, nj_cl (show k < 2147483648 by omega), nj_le (show (s_env s).length < 2147483648 by omega) (show k < 2147483648 by omega)]
    refine ⟨fun z => ?_, fun z => ?_⟩
    · have : k = (s_env s).length := by omega
      subst this
      have hK' := hyes hok
      rw [← hf] at hK'
      unfold stE at hK'
      simp only [B_M_street_188, B_M_street_193, B_M_street_195]
      refine ⟨fun u => ?_, fun u => ⟨fun u2 => ?_, fun u2 => ⟨fun u3 => ?_, fun u3 => ?_⟩⟩⟩
      · rw [if_pos u] at hK'; exact hK'
      · rw [if_neg u, if_pos u2] at hK'; exact hK'
      · rw [if_neg u, if_neg u2, if_pos u3] at hK'; exact hK'
      · rw [if_neg u, if_neg u2, if_neg u3] at hK'; exact hK'
    · obtain ⟨x, hx⟩ := get_lt (show k < (s_env s).length by omega)
      obtain ⟨y, hy, hvy, hv0, hvl⟩ := vOk_get hw hx
      have hb := inB_nI (show k < 200 by omega) (by omega)
      have hbv : inB x.1 60 := ⟨hv0, by omega⟩
      have hho := hI.hof k (by omega)
      have hhl := (hw.hof k).1
      have hn := fun a b c => hnext a b c x hx
      unfold stS at hn
      simp only [hvy] at hn
      have hh0 : (nI (s_hof s k) = (0 : Int32)) ↔ s_hof s k = 0 := nj_eq (b := 0) (by omega) (by omega)
      simp only [B_M_street_159, B_M_street_101, B_M_street_115, B_M_street_130, B_M_street_155, B_M_street_156, hkd, hho, hh0, hb, hbv, z_heapOf1, z_heapOf2, z_heapOf3, z_heapOf4, z_heapOf5, z_heapShire1, z_heapShire2, z_heapShire3, z_heapShire4, z_heapShire5, z_streetOf1, z_streetOf2, z_streetOf3, z_streetOf4, z_streetOf5, z_voterOf1, z_voterOf2, z_voterOf3, z_voterOf4, z_voterOf5, z_choiceOf1, z_choiceOf2, z_choiceOf3, z_choiceOf4, z_choiceOf5, forall_eq, Option.some.injEq, exists_eq_left', (w3 k x hx).1, (w3 k x hx).2.2.2, (v3 _ y hy).2.1, true_and, nj_s, nj_cl (show k < 2147483648 by omega)]
      refine ⟨fun u => hn _ _ _ (by rw [if_pos u]), fun u => ?_⟩
      obtain ⟨j, hj⟩ : ∃ j, s_hof s k = j + 1 := ⟨s_hof s k - 1, by omega⟩
      obtain ⟨w, hw2⟩ := get_lt (show j < (s_hea s).length by omega)
      have hbj := inB_nI (show j < 40 by omega) (by omega)
      have hse : (sHea s (nI (s_hof s k - 1))).1 = w.1 := by
        unfold sHea
        rw [hj, Nat.add_sub_cancel, nj_cl (by omega), hw2]; rfl
      rw [hse] at hn
      rw [hj, nj_p, nj_cl (show j < 2147483648 by omega), (f3 j w hw2).1]
      refine ⟨hbj, fun u2 => ?_, fun u2 => hn _ _ _ (by rw [if_neg u, if_neg u2])⟩
      rw [if_neg u, if_pos u2] at hn
      simp (decide := true) only [true_and, true_implies, false_implies, and_true, not_true_eq_false, not_false_eq_true]
      refine ⟨fun u3 => ?_, fun u3 => ?_⟩
      · rw [if_neg u3] at hn
        exact hn _ _ _ rfl
      · rw [if_pos u3] at hn
        exact ⟨fun u4 => hn _ _ _ (by rw [if_neg u4]), fun u4 => hn _ _ _ (by rw [if_pos u4])⟩
  · simp only [B_M_street_0, B_M_street_26, Sp_M_isShire, Sp_M_in, ifz, true_and]
    repeat' with_reducible first | apply And.intro | intro _
    all_goals first | exact hno (by grind) | exact ⟨_, rfl, by grind, rfl, rfl, rfl, rfl, 0, Nat.zero_le _, rfl, nj_0, rfl⟩ | exact ⟨_, by grind, 0, Nat.zero_le _, rfl, nj_0, rfl⟩
