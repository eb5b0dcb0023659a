/-! the reference: what hands tell of the same envelopes -/
abbrev Tr : Type := Int32 × Int32 × Int32
def TR (m : Nat) (g : GH) (a : Tr) : Prop := Gi g 1604 m = a.1 ∧ Gi g 1605 m = a.2.1 ∧ Gi g 1606 m = a.2.2
def mtO (s : ST) (e h : Int32) (j : Nat) : Int32 := if nI j = h then -1 else sWord s e (nI j) (s_now s)
def mt1 (s : ST) (e h own : Int32) (a : Tr) (j : Nat) : Tr := if mtO s e h j = -1 then a else (a.1 + 1, a.2.1 + (if own = 0 ∧ mtO s e h j = 1 then 1 else 0), a.2.2 + (if own = 1 ∧ mtO s e h j = 0 then 1 else 0))
def mtE (s : ST) (h st : Int32) (a : Tr) (p : Em × Nat) : Tr := if (st = -1 ∨ (sVoter s p.1.1).2.1 = st) ∧ ¬ sWord s (nI p.2) h (s_now s) = -1 then (List.range 6).foldl (mt1 s (nI p.2) h (sWord s (nI p.2) h (s_now s))) a else a
def sMtk (s : ST) (h st : Int32) (k : Nat) : Tr := ((s_env s).zipIdx.take k).foldl (mtE s h st) (0, 0, 0)
def sMt (s : ST) (h st : Int32) : Tr := sMtk s h st (s_env s).length
def Sp_M_meet (Γ : GAM) (m : Nat) (h st : Int32) (g : GH) (K : GH → Prop) : Prop := ∃ ma s, RefI m ma g s ∧ WF s ∧ ∀ g', FrX m [1604, 1605, 1606] [] g g' → TR m g' (sMt s h st) → K g'
-- the walk of M_meet
set_option maxRecDepth 100000 in
def B_M_meet_174 (Γ : GAM) (K17 : Nat → Int32 → Int32 → Int32 → GH → Prop) (K63 : Nat → Int32 → Int32 → Int32 → Int32 → Int32 → GH → Prop) (K : GH → Prop) (l0 : Nat) (l1 : Int32) (l2 : Int32) (l3 : Int32) (g : GH) : Prop :=
  K17 l0 l1 l2 (l3 + (1 : Int32)) g
set_option maxHeartbeats 4000000 in
set_option maxRecDepth 100000 in
theorem S_M_meet_174 {Γ : GAM} {E : EV} {K : GH → Prop} (hE : GE Γ E cX11_meet 7 RX11 none 1 25 (fun r g' => r = none ∧ K g')) {K17 : Nat → Int32 → Int32 → Int32 → GH → Prop} {K63 : Nat → Int32 → Int32 → Int32 → Int32 → Int32 → GH → Prop} (hK17 : ∀ (l0 : Nat) (l1 : Int32) (l2 : Int32) (l3 : Int32) (g : GH), K17 l0 l1 l2 l3 g → JW Γ E 17 [some (.ref l0), some (.int l1), some (.int l2), some (.int l3), none, none, none] [] g) (hK63 : ∀ (l0 : Nat) (l1 : Int32) (l2 : Int32) (l3 : Int32) (l4 : Int32) (l5 : Int32) (g : GH), K63 l0 l1 l2 l3 l4 l5 g → JW Γ E 63 [some (.ref l0), some (.int l1), some (.int l2), some (.int l3), some (.int l4), some (.int l5), none] [] g) (l0 : Nat) (l1 : Int32) (l2 : Int32) (l3 : Int32) (g : GH) (h : B_M_meet_174 Γ K17 K63 K l0 l1 l2 l3 g) : JW Γ E 174 [some (.ref l0), some (.int l1), some (.int l2), some (.int l3), none, none, none] [] g := by
  unfold B_M_meet_174 at h
  refine j_iinc hE (by decide +kernel : decode cX11_meet 174 = .ok (.iinc 3 1, 3)) (v := (1 : Int32)) (by decide) rfl (Nat.le_of_ble_eq_true rfl) rfl ?_
  refine j_goto hE (by decide +kernel : decode cX11_meet 177 = .ok (.goto (-160), 3)) (tgt := 17) (by decide) ?_
  exact hK17 _ _ _ _ _ h
set_option maxRecDepth 100000 in
def B_M_meet_168 (Γ : GAM) (K17 : Nat → Int32 → Int32 → Int32 → GH → Prop) (K63 : Nat → Int32 → Int32 → Int32 → Int32 → Int32 → GH → Prop) (K : GH → Prop) (l0 : Nat) (l1 : Int32) (l2 : Int32) (l3 : Int32) (l4 : Int32) (l5 : Int32) (g : GH) : Prop :=
  K63 l0 l1 l2 l3 l4 (l5 + (1 : Int32)) g
set_option maxHeartbeats 4000000 in
set_option maxRecDepth 100000 in
theorem S_M_meet_168 {Γ : GAM} {E : EV} {K : GH → Prop} (hE : GE Γ E cX11_meet 7 RX11 none 1 25 (fun r g' => r = none ∧ K g')) {K17 : Nat → Int32 → Int32 → Int32 → GH → Prop} {K63 : Nat → Int32 → Int32 → Int32 → Int32 → Int32 → GH → Prop} (hK17 : ∀ (l0 : Nat) (l1 : Int32) (l2 : Int32) (l3 : Int32) (g : GH), K17 l0 l1 l2 l3 g → JW Γ E 17 [some (.ref l0), some (.int l1), some (.int l2), some (.int l3), none, none, none] [] g) (hK63 : ∀ (l0 : Nat) (l1 : Int32) (l2 : Int32) (l3 : Int32) (l4 : Int32) (l5 : Int32) (g : GH), K63 l0 l1 l2 l3 l4 l5 g → JW Γ E 63 [some (.ref l0), some (.int l1), some (.int l2), some (.int l3), some (.int l4), some (.int l5), none] [] g) (l0 : Nat) (l1 : Int32) (l2 : Int32) (l3 : Int32) (l4 : Int32) (l5 : Int32) (g : GH) (h : B_M_meet_168 Γ K17 K63 K l0 l1 l2 l3 l4 l5 g) : JW Γ E 168 [some (.ref l0), some (.int l1), some (.int l2), some (.int l3), some (.int l4), some (.int l5), none] [] g := by
  unfold B_M_meet_168 at h
  refine j_iinc hE (by decide +kernel : decode cX11_meet 168 = .ok (.iinc 5 1, 3)) (v := (1 : Int32)) (by decide) rfl (Nat.le_of_ble_eq_true rfl) rfl ?_
  refine j_goto hE (by decide +kernel : decode cX11_meet 171 = .ok (.goto (-108), 3)) (tgt := 63) (by decide) ?_
  exact hK63 _ _ _ _ _ _ _ h
set_option maxRecDepth 100000 in
def B_M_meet_164 (Γ : GAM) (K17 : Nat → Int32 → Int32 → Int32 → GH → Prop) (K63 : Nat → Int32 → Int32 → Int32 → Int32 → Int32 → GH → Prop) (K : GH → Prop) (l0 : Nat) (l1 : Int32) (l2 : Int32) (l3 : Int32) (l4 : Int32) (l5 : Int32) (s0 : Int32) (s1 : Int32) (s2 : Nat) (g : GH) : Prop :=
  Kd g s2 = 13 ∧ ∀ g1 : GH, g1 = sI g 1606 s2 (s1 + s0) → B_M_meet_168 Γ K17 K63 K l0 l1 l2 l3 l4 l5 g1
set_option maxHeartbeats 4000000 in
set_option maxRecDepth 100000 in
theorem S_M_meet_164 {Γ : GAM} {E : EV} {K : GH → Prop} (hE : GE Γ E cX11_meet 7 RX11 none 1 25 (fun r g' => r = none ∧ K g')) {K17 : Nat → Int32 → Int32 → Int32 → GH → Prop} {K63 : Nat → Int32 → Int32 → Int32 → Int32 → Int32 → GH → Prop} (hK17 : ∀ (l0 : Nat) (l1 : Int32) (l2 : Int32) (l3 : Int32) (g : GH), K17 l0 l1 l2 l3 g → JW Γ E 17 [some (.ref l0), some (.int l1), some (.int l2), some (.int l3), none, none, none] [] g) (hK63 : ∀ (l0 : Nat) (l1 : Int32) (l2 : Int32) (l3 : Int32) (l4 : Int32) (l5 : Int32) (g : GH), K63 l0 l1 l2 l3 l4 l5 g → JW Γ E 63 [some (.ref l0), some (.int l1), some (.int l2), some (.int l3), some (.int l4), some (.int l5), none] [] g) (l0 : Nat) (l1 : Int32) (l2 : Int32) (l3 : Int32) (l4 : Int32) (l5 : Int32) (s0 : Int32) (s1 : Int32) (s2 : Nat) (g : GH) (h : B_M_meet_164 Γ K17 K63 K l0 l1 l2 l3 l4 l5 s0 s1 s2 g) : JW Γ E 164 [some (.ref l0), some (.int l1), some (.int l2), some (.int l3), some (.int l4), some (.int l5), none] [.int s0, .int s1, .ref s2] g := by
  unfold B_M_meet_164 at h
  refine j_iadd hE (by decide +kernel : decode cX11_meet 164 = .ok (.iadd, 1)) ?_
  obtain ⟨hk, h⟩ := h
  obtain ⟨g1, hg⟩ : ∃ z, z = sI g 1606 s2 (s1 + s0) := ⟨_, rfl⟩; replace h := h g1 hg
  refine j_putI hE fa_X11_443 hk (fun q => by cases q) (by decide +kernel : decode cX11_meet 165 = .ok (.putfield 443, 3)) ?_
  rw [← hg]
  exact S_M_meet_168 hE hK17 hK63 _ _ _ _ _ _ _ h
set_option maxRecDepth 100000 in
def B_M_meet_163 (Γ : GAM) (K17 : Nat → Int32 → Int32 → Int32 → GH → Prop) (K63 : Nat → Int32 → Int32 → Int32 → Int32 → Int32 → GH → Prop) (K : GH → Prop) (l0 : Nat) (l1 : Int32) (l2 : Int32) (l3 : Int32) (l4 : Int32) (l5 : Int32) (s0 : Int32) (s1 : Nat) (g : GH) : Prop :=
  B_M_meet_164 Γ K17 K63 K l0 l1 l2 l3 l4 l5 (0 : Int32) s0 s1 g
set_option maxHeartbeats 4000000 in
set_option maxRecDepth 100000 in
theorem S_M_meet_163 {Γ : GAM} {E : EV} {K : GH → Prop} (hE : GE Γ E cX11_meet 7 RX11 none 1 25 (fun r g' => r = none ∧ K g')) {K17 : Nat → Int32 → Int32 → Int32 → GH → Prop} {K63 : Nat → Int32 → Int32 → Int32 → Int32 → Int32 → GH → Prop} (hK17 : ∀ (l0 : Nat) (l1 : Int32) (l2 : Int32) (l3 : Int32) (g : GH), K17 l0 l1 l2 l3 g → JW Γ E 17 [some (.ref l0), some (.int l1), some (.int l2), some (.int l3), none, none, none] [] g) (hK63 : ∀ (l0 : Nat) (l1 : Int32) (l2 : Int32) (l3 : Int32) (l4 : Int32) (l5 : Int32) (g : GH), K63 l0 l1 l2 l3 l4 l5 g → JW Γ E 63 [some (.ref l0), some (.int l1), some (.int l2), some (.int l3), some (.int l4), some (.int l5), none] [] g) (l0 : Nat) (l1 : Int32) (l2 : Int32) (l3 : Int32) (l4 : Int32) (l5 : Int32) (s0 : Int32) (s1 : Nat) (g : GH) (h : B_M_meet_163 Γ K17 K63 K l0 l1 l2 l3 l4 l5 s0 s1 g) : JW Γ E 163 [some (.ref l0), some (.int l1), some (.int l2), some (.int l3), some (.int l4), some (.int l5), none] [.int s0, .ref s1] g := by
  unfold B_M_meet_163 at h
  refine j_iconst hE (by decide +kernel : decode cX11_meet 163 = .ok (.iconst 0, 1)) (v := (0 : Int32)) (by decide) ?_
  exact S_M_meet_164 hE hK17 hK63 _ _ _ _ _ _ _ _ _ _ h
set_option maxRecDepth 100000 in
def B_M_meet_139 (Γ : GAM) (K17 : Nat → Int32 → Int32 → Int32 → GH → Prop) (K63 : Nat → Int32 → Int32 → Int32 → Int32 → Int32 → GH → Prop) (K : GH → Prop) (l0 : Nat) (l1 : Int32) (l2 : Int32) (l3 : Int32) (l4 : Int32) (l5 : Int32) (l6 : Int32) (s0 : Int32) (s1 : Int32) (s2 : Nat) (g : GH) : Prop :=
  Kd g s2 = 13 ∧ ∀ g1 : GH, g1 = sI g 1605 s2 (s1 + s0) → Kd g1 l0 = 13 ∧ ((¬ (l4 = (1 : Int32)) → B_M_meet_163 Γ K17 K63 K l0 l1 l2 l3 l4 l5 (Gi g1 1606 l0) l0 g1) ∧ (l4 = (1 : Int32) → ((¬ (l6 = 0) → B_M_meet_163 Γ K17 K63 K l0 l1 l2 l3 l4 l5 (Gi g1 1606 l0) l0 g1) ∧ (l6 = 0 → B_M_meet_164 Γ K17 K63 K l0 l1 l2 l3 l4 l5 (1 : Int32) (Gi g1 1606 l0) l0 g1))))
set_option maxHeartbeats 4000000 in
set_option maxRecDepth 100000 in
theorem S_M_meet_139 {Γ : GAM} {E : EV} {K : GH → Prop} (hE : GE Γ E cX11_meet 7 RX11 none 1 25 (fun r g' => r = none ∧ K g')) {K17 : Nat → Int32 → Int32 → Int32 → GH → Prop} {K63 : Nat → Int32 → Int32 → Int32 → Int32 → Int32 → GH → Prop} (hK17 : ∀ (l0 : Nat) (l1 : Int32) (l2 : Int32) (l3 : Int32) (g : GH), K17 l0 l1 l2 l3 g → JW Γ E 17 [some (.ref l0), some (.int l1), some (.int l2), some (.int l3), none, none, none] [] g) (hK63 : ∀ (l0 : Nat) (l1 : Int32) (l2 : Int32) (l3 : Int32) (l4 : Int32) (l5 : Int32) (g : GH), K63 l0 l1 l2 l3 l4 l5 g → JW Γ E 63 [some (.ref l0), some (.int l1), some (.int l2), some (.int l3), some (.int l4), some (.int l5), none] [] g) (l0 : Nat) (l1 : Int32) (l2 : Int32) (l3 : Int32) (l4 : Int32) (l5 : Int32) (l6 : Int32) (s0 : Int32) (s1 : Int32) (s2 : Nat) (g : GH) (h : B_M_meet_139 Γ K17 K63 K l0 l1 l2 l3 l4 l5 l6 s0 s1 s2 g) : JW Γ E 139 [some (.ref l0), some (.int l1), some (.int l2), some (.int l3), some (.int l4), some (.int l5), some (.int l6)] [.int s0, .int s1, .ref s2] g := by
  unfold B_M_meet_139 at h
  refine j_iadd hE (by decide +kernel : decode cX11_meet 139 = .ok (.iadd, 1)) ?_
  obtain ⟨hk, h⟩ := h
  obtain ⟨g1, hg⟩ : ∃ z, z = sI g 1605 s2 (s1 + s0) := ⟨_, rfl⟩; replace h := h g1 hg
  refine j_putI hE fa_X11_440 hk (fun q => by cases q) (by decide +kernel : decode cX11_meet 140 = .ok (.putfield 440, 3)) ?_
  rw [← hg]
  refine j_aload_n hE (by decide +kernel : decode cX11_meet 143 = .ok (.aload_n 0, 1)) rfl rfl ?_
  refine j_dup hE (by decide +kernel : decode cX11_meet 144 = .ok (.dup, 1)) rfl ?_
  obtain ⟨hk, h⟩ := h
  refine j_getI hE fg_X11_443 hk (by decide +kernel : decode cX11_meet 145 = .ok (.getfield 443, 3)) ?_
  refine j_iload hE (by decide +kernel : decode cX11_meet 148 = .ok (.iload 4, 2)) rfl ?_
  refine j_iconst hE (by decide +kernel : decode cX11_meet 150 = .ok (.iconst 1, 1)) (v := (1 : Int32)) (by decide) ?_
  refine j_icmp_ne hE (by decide +kernel : decode cX11_meet 151 = .ok (.if_icmp .ne 12, 3)) (tgt := 163) (by decide) (fun q => ?_) (fun q => ?_)
  · replace h := h.1 q
    refine j_weak [some (.ref l0), some (.int l1), some (.int l2), some (.int l3), some (.int l4), some (.int l5), none] ⟨rfl, ⟨rfl, ⟨rfl, ⟨rfl, ⟨rfl, ⟨rfl, trivial⟩⟩⟩⟩⟩⟩ ?_
    exact S_M_meet_163 hE hK17 hK63 _ _ _ _ _ _ _ _ _ h
  · replace h := h.2 q
    refine j_iload hE (by decide +kernel : decode cX11_meet 154 = .ok (.iload 6, 2)) rfl ?_
    refine j_if_ne hE (by decide +kernel : decode cX11_meet 156 = .ok (.ifCond .ne 7, 3)) (tgt := 163) (by decide) (fun q => ?_) (fun q => ?_)
    · replace h := h.1 q
      refine j_weak [some (.ref l0), some (.int l1), some (.int l2), some (.int l3), some (.int l4), some (.int l5), none] ⟨rfl, ⟨rfl, ⟨rfl, ⟨rfl, ⟨rfl, ⟨rfl, trivial⟩⟩⟩⟩⟩⟩ ?_
      exact S_M_meet_163 hE hK17 hK63 _ _ _ _ _ _ _ _ _ h
    · replace h := h.2 q
      refine j_iconst hE (by decide +kernel : decode cX11_meet 159 = .ok (.iconst 1, 1)) (v := (1 : Int32)) (by decide) ?_
      refine j_goto hE (by decide +kernel : decode cX11_meet 160 = .ok (.goto 4, 3)) (tgt := 164) (by decide) ?_
      refine j_weak [some (.ref l0), some (.int l1), some (.int l2), some (.int l3), some (.int l4), some (.int l5), none] ⟨rfl, ⟨rfl, ⟨rfl, ⟨rfl, ⟨rfl, ⟨rfl, trivial⟩⟩⟩⟩⟩⟩ ?_
      exact S_M_meet_164 hE hK17 hK63 _ _ _ _ _ _ _ _ _ _ h
set_option maxRecDepth 100000 in
def B_M_meet_138 (Γ : GAM) (K17 : Nat → Int32 → Int32 → Int32 → GH → Prop) (K63 : Nat → Int32 → Int32 → Int32 → Int32 → Int32 → GH → Prop) (K : GH → Prop) (l0 : Nat) (l1 : Int32) (l2 : Int32) (l3 : Int32) (l4 : Int32) (l5 : Int32) (l6 : Int32) (s0 : Int32) (s1 : Nat) (g : GH) : Prop :=
  B_M_meet_139 Γ K17 K63 K l0 l1 l2 l3 l4 l5 l6 (0 : Int32) s0 s1 g
set_option maxHeartbeats 4000000 in
set_option maxRecDepth 100000 in
theorem S_M_meet_138 {Γ : GAM} {E : EV} {K : GH → Prop} (hE : GE Γ E cX11_meet 7 RX11 none 1 25 (fun r g' => r = none ∧ K g')) {K17 : Nat → Int32 → Int32 → Int32 → GH → Prop} {K63 : Nat → Int32 → Int32 → Int32 → Int32 → Int32 → GH → Prop} (hK17 : ∀ (l0 : Nat) (l1 : Int32) (l2 : Int32) (l3 : Int32) (g : GH), K17 l0 l1 l2 l3 g → JW Γ E 17 [some (.ref l0), some (.int l1), some (.int l2), some (.int l3), none, none, none] [] g) (hK63 : ∀ (l0 : Nat) (l1 : Int32) (l2 : Int32) (l3 : Int32) (l4 : Int32) (l5 : Int32) (g : GH), K63 l0 l1 l2 l3 l4 l5 g → JW Γ E 63 [some (.ref l0), some (.int l1), some (.int l2), some (.int l3), some (.int l4), some (.int l5), none] [] g) (l0 : Nat) (l1 : Int32) (l2 : Int32) (l3 : Int32) (l4 : Int32) (l5 : Int32) (l6 : Int32) (s0 : Int32) (s1 : Nat) (g : GH) (h : B_M_meet_138 Γ K17 K63 K l0 l1 l2 l3 l4 l5 l6 s0 s1 g) : JW Γ E 138 [some (.ref l0), some (.int l1), some (.int l2), some (.int l3), some (.int l4), some (.int l5), some (.int l6)] [.int s0, .ref s1] g := by
  unfold B_M_meet_138 at h
  refine j_iconst hE (by decide +kernel : decode cX11_meet 138 = .ok (.iconst 0, 1)) (v := (0 : Int32)) (by decide) ?_
  exact S_M_meet_139 hE hK17 hK63 _ _ _ _ _ _ _ _ _ _ _ h
set_option maxRecDepth 100000 in
def B_M_meet_97 (Γ : GAM) (K17 : Nat → Int32 → Int32 → Int32 → GH → Prop) (K63 : Nat → Int32 → Int32 → Int32 → Int32 → Int32 → GH → Prop) (K : GH → Prop) (l0 : Nat) (l1 : Int32) (l2 : Int32) (l3 : Int32) (l4 : Int32) (l5 : Int32) (s0 : Int32) (g : GH) : Prop :=
  ((¬ (s0 = (-1 : Int32)) → Kd g l0 = 13 ∧ Kd g l0 = 13 ∧ ∀ g1 : GH, g1 = sI g 1604 l0 ((Gi g 1604 l0) + (1 : Int32)) → Kd g1 l0 = 13 ∧ ((¬ (l4 = 0) → B_M_meet_138 Γ K17 K63 K l0 l1 l2 l3 l4 l5 s0 (Gi g1 1605 l0) l0 g1) ∧ (l4 = 0 → ((¬ (s0 = (1 : Int32)) → B_M_meet_138 Γ K17 K63 K l0 l1 l2 l3 l4 l5 s0 (Gi g1 1605 l0) l0 g1) ∧ (s0 = (1 : Int32) → B_M_meet_139 Γ K17 K63 K l0 l1 l2 l3 l4 l5 s0 (1 : Int32) (Gi g1 1605 l0) l0 g1))))) ∧ (s0 = (-1 : Int32) → B_M_meet_168 Γ K17 K63 K l0 l1 l2 l3 l4 l5 g))
set_option maxHeartbeats 4000000 in
set_option maxRecDepth 100000 in
theorem S_M_meet_97 {Γ : GAM} {E : EV} {K : GH → Prop} (hE : GE Γ E cX11_meet 7 RX11 none 1 25 (fun r g' => r = none ∧ K g')) {K17 : Nat → Int32 → Int32 → Int32 → GH → Prop} {K63 : Nat → Int32 → Int32 → Int32 → Int32 → Int32 → GH → Prop} (hK17 : ∀ (l0 : Nat) (l1 : Int32) (l2 : Int32) (l3 : Int32) (g : GH), K17 l0 l1 l2 l3 g → JW Γ E 17 [some (.ref l0), some (.int l1), some (.int l2), some (.int l3), none, none, none] [] g) (hK63 : ∀ (l0 : Nat) (l1 : Int32) (l2 : Int32) (l3 : Int32) (l4 : Int32) (l5 : Int32) (g : GH), K63 l0 l1 l2 l3 l4 l5 g → JW Γ E 63 [some (.ref l0), some (.int l1), some (.int l2), some (.int l3), some (.int l4), some (.int l5), none] [] g) (l0 : Nat) (l1 : Int32) (l2 : Int32) (l3 : Int32) (l4 : Int32) (l5 : Int32) (s0 : Int32) (g : GH) (h : B_M_meet_97 Γ K17 K63 K l0 l1 l2 l3 l4 l5 s0 g) : JW Γ E 97 [some (.ref l0), some (.int l1), some (.int l2), some (.int l3), some (.int l4), some (.int l5), none] [.int s0] g := by
  unfold B_M_meet_97 at h
  refine j_istore hE (by decide +kernel : decode cX11_meet 97 = .ok (.istore 6, 2)) (Nat.le_of_ble_eq_true rfl) rfl ?_
  refine j_iload hE (by decide +kernel : decode cX11_meet 99 = .ok (.iload 6, 2)) rfl ?_
  refine j_iconst hE (by decide +kernel : decode cX11_meet 101 = .ok (.iconst (-1), 1)) (v := (-1 : Int32)) (by decide) ?_
  refine j_icmp_ne hE (by decide +kernel : decode cX11_meet 102 = .ok (.if_icmp .ne 6, 3)) (tgt := 108) (by decide) (fun q => ?_) (fun q => ?_)
  · replace h := h.1 q
    refine j_aload_n hE (by decide +kernel : decode cX11_meet 108 = .ok (.aload_n 0, 1)) rfl rfl ?_
    refine j_dup hE (by decide +kernel : decode cX11_meet 109 = .ok (.dup, 1)) rfl ?_
    obtain ⟨hk, h⟩ := h
    refine j_getI hE fg_X11_437 hk (by decide +kernel : decode cX11_meet 110 = .ok (.getfield 437, 3)) ?_
    refine j_iconst hE (by decide +kernel : decode cX11_meet 113 = .ok (.iconst 1, 1)) (v := (1 : Int32)) (by decide) ?_
    refine j_iadd hE (by decide +kernel : decode cX11_meet 114 = .ok (.iadd, 1)) ?_
    obtain ⟨hk, h⟩ := h
    obtain ⟨g1, hg⟩ : ∃ z, z = sI g 1604 l0 ((Gi g 1604 l0) + (1 : Int32)) := ⟨_, rfl⟩; replace h := h g1 hg
    refine j_putI hE fa_X11_437 hk (fun q => by cases q) (by decide +kernel : decode cX11_meet 115 = .ok (.putfield 437, 3)) ?_
    rw [← hg]
    refine j_aload_n hE (by decide +kernel : decode cX11_meet 118 = .ok (.aload_n 0, 1)) rfl rfl ?_
    refine j_dup hE (by decide +kernel : decode cX11_meet 119 = .ok (.dup, 1)) rfl ?_
    obtain ⟨hk, h⟩ := h
    refine j_getI hE fg_X11_440 hk (by decide +kernel : decode cX11_meet 120 = .ok (.getfield 440, 3)) ?_
    refine j_iload hE (by decide +kernel : decode cX11_meet 123 = .ok (.iload 4, 2)) rfl ?_
    refine j_if_ne hE (by decide +kernel : decode cX11_meet 125 = .ok (.ifCond .ne 13, 3)) (tgt := 138) (by decide) (fun q => ?_) (fun q => ?_)
    · replace h := h.1 q
      exact S_M_meet_138 hE hK17 hK63 _ _ _ _ _ _ _ _ _ _ h
    · replace h := h.2 q
      refine j_iload hE (by decide +kernel : decode cX11_meet 128 = .ok (.iload 6, 2)) rfl ?_
      refine j_iconst hE (by decide +kernel : decode cX11_meet 130 = .ok (.iconst 1, 1)) (v := (1 : Int32)) (by decide) ?_
      refine j_icmp_ne hE (by decide +kernel : decode cX11_meet 131 = .ok (.if_icmp .ne 7, 3)) (tgt := 138) (by decide) (fun q => ?_) (fun q => ?_)
      · replace h := h.1 q
        exact S_M_meet_138 hE hK17 hK63 _ _ _ _ _ _ _ _ _ _ h
      · replace h := h.2 q
        refine j_iconst hE (by decide +kernel : decode cX11_meet 134 = .ok (.iconst 1, 1)) (v := (1 : Int32)) (by decide) ?_
        refine j_goto hE (by decide +kernel : decode cX11_meet 135 = .ok (.goto 4, 3)) (tgt := 139) (by decide) ?_
        exact S_M_meet_139 hE hK17 hK63 _ _ _ _ _ _ _ _ _ _ _ h
  · replace h := h.2 q
    refine j_goto hE (by decide +kernel : decode cX11_meet 105 = .ok (.goto 63, 3)) (tgt := 168) (by decide) ?_
    refine j_weak [some (.ref l0), some (.int l1), some (.int l2), some (.int l3), some (.int l4), some (.int l5), none] ⟨rfl, ⟨rfl, ⟨rfl, ⟨rfl, ⟨rfl, ⟨rfl, trivial⟩⟩⟩⟩⟩⟩ ?_
    exact S_M_meet_168 hE hK17 hK63 _ _ _ _ _ _ _ h
set_option maxRecDepth 100000 in
def B_M_meet_63 (Γ : GAM) (K17 : Nat → Int32 → Int32 → Int32 → GH → Prop) (K63 : Nat → Int32 → Int32 → Int32 → Int32 → Int32 → GH → Prop) (K : GH → Prop) (l0 : Nat) (l1 : Int32) (l2 : Int32) (l3 : Int32) (l4 : Int32) (l5 : Int32) (g : GH) : Prop :=
  (((6 : Int32) ≤ l5 → B_M_meet_174 Γ K17 K63 K l0 l1 l2 l3 g) ∧ (¬ ((6 : Int32) ≤ l5) → ((l4 = (-1 : Int32) → B_M_meet_174 Γ K17 K63 K l0 l1 l2 l3 g) ∧ (¬ (l4 = (-1 : Int32)) → ((¬ (l5 = l1) → Kd g l0 = 13 ∧ Kd g l0 = 13 ∧ Sp_M_wordOf Γ l0 l3 l5 (Gi g 1536 l0) g (fun (x2 : Int32) (g1 : GH) => B_M_meet_97 Γ K17 K63 K l0 l1 l2 l3 l4 l5 x2 g1)) ∧ (l5 = l1 → B_M_meet_97 Γ K17 K63 K l0 l1 l2 l3 l4 l5 (-1 : Int32) g))))))
set_option maxHeartbeats 4000000 in
set_option maxRecDepth 100000 in
theorem S_M_meet_63 {Γ : GAM} {E : EV} {K : GH → Prop} (hE : GE Γ E cX11_meet 7 RX11 none 1 25 (fun r g' => r = none ∧ K g')) {K17 : Nat → Int32 → Int32 → Int32 → GH → Prop} {K63 : Nat → Int32 → Int32 → Int32 → Int32 → Int32 → GH → Prop} (hK17 : ∀ (l0 : Nat) (l1 : Int32) (l2 : Int32) (l3 : Int32) (g : GH), K17 l0 l1 l2 l3 g → JW Γ E 17 [some (.ref l0), some (.int l1), some (.int l2), some (.int l3), none, none, none] [] g) (hK63 : ∀ (l0 : Nat) (l1 : Int32) (l2 : Int32) (l3 : Int32) (l4 : Int32) (l5 : Int32) (g : GH), K63 l0 l1 l2 l3 l4 l5 g → JW Γ E 63 [some (.ref l0), some (.int l1), some (.int l2), some (.int l3), some (.int l4), some (.int l5), none] [] g) (l0 : Nat) (l1 : Int32) (l2 : Int32) (l3 : Int32) (l4 : Int32) (l5 : Int32) (g : GH) (h : B_M_meet_63 Γ K17 K63 K l0 l1 l2 l3 l4 l5 g) : JW Γ E 63 [some (.ref l0), some (.int l1), some (.int l2), some (.int l3), some (.int l4), some (.int l5), none] [] g := by
  unfold B_M_meet_63 at h
  refine j_iload hE (by decide +kernel : decode cX11_meet 63 = .ok (.iload 5, 2)) rfl ?_
  refine j_bipush hE (by decide +kernel : decode cX11_meet 65 = .ok (.bipush 6, 2)) (v := (6 : Int32)) (by decide) ?_
  refine j_icmp_ge hE (by decide +kernel : decode cX11_meet 67 = .ok (.if_icmp .ge 107, 3)) (tgt := 174) (by decide) (fun q => ?_) (fun q => ?_)
  · replace h := h.1 q
    refine j_weak [some (.ref l0), some (.int l1), some (.int l2), some (.int l3), none, none, none] ⟨rfl, ⟨rfl, ⟨rfl, ⟨rfl, trivial⟩⟩⟩⟩ ?_
    exact S_M_meet_174 hE hK17 hK63 _ _ _ _ _ h
  · replace h := h.2 q
    refine j_iload hE (by decide +kernel : decode cX11_meet 70 = .ok (.iload 4, 2)) rfl ?_
    refine j_iconst hE (by decide +kernel : decode cX11_meet 72 = .ok (.iconst (-1), 1)) (v := (-1 : Int32)) (by decide) ?_
    refine j_icmp_eq hE (by decide +kernel : decode cX11_meet 73 = .ok (.if_icmp .eq 101, 3)) (tgt := 174) (by decide) (fun q => ?_) (fun q => ?_)
    · replace h := h.1 q
      refine j_weak [some (.ref l0), some (.int l1), some (.int l2), some (.int l3), none, none, none] ⟨rfl, ⟨rfl, ⟨rfl, ⟨rfl, trivial⟩⟩⟩⟩ ?_
      exact S_M_meet_174 hE hK17 hK63 _ _ _ _ _ h
    · replace h := h.2 q
      refine j_iload hE (by decide +kernel : decode cX11_meet 76 = .ok (.iload 5, 2)) rfl ?_
      refine j_iload_n hE (by decide +kernel : decode cX11_meet 78 = .ok (.iload_n 1, 1)) rfl rfl ?_
      refine j_icmp_ne hE (by decide +kernel : decode cX11_meet 79 = .ok (.if_icmp .ne 7, 3)) (tgt := 86) (by decide) (fun q => ?_) (fun q => ?_)
      · replace h := h.1 q
        refine j_aload_n hE (by decide +kernel : decode cX11_meet 86 = .ok (.aload_n 0, 1)) rfl rfl ?_
        refine j_iload_n hE (by decide +kernel : decode cX11_meet 87 = .ok (.iload_n 3, 1)) rfl rfl ?_
        refine j_iload hE (by decide +kernel : decode cX11_meet 88 = .ok (.iload 5, 2)) rfl ?_
        refine j_aload_n hE (by decide +kernel : decode cX11_meet 90 = .ok (.aload_n 0, 1)) rfl rfl ?_
        obtain ⟨hk, h⟩ := h
        refine j_getI hE fg_X11_217 hk (by decide +kernel : decode cX11_meet 91 = .ok (.getfield 217, 3)) ?_
        obtain ⟨hk, h⟩ := h
        refine j_callV hE rfl cl_X11_291 cf_12 im_X11_wordOf se_X11_wordOf ⟨by omega, by omega⟩ (As := [.int l3, .int l5, .int (Gi g 1536 l0)]) (rest := []) rfl rfl (Nat.le_of_ble_eq_true rfl) hk (by decide +kernel : decode cX11_meet 94 = .ok (.invokevirtual 291, 3)) (mt_M_wordOf _ _ _ _ _ _ h) ?_
        rintro _ g1 ⟨x2, rfl, h⟩
        exact S_M_meet_97 hE hK17 hK63 _ _ _ _ _ _ _ _ h
      · replace h := h.2 q
        refine j_iconst hE (by decide +kernel : decode cX11_meet 82 = .ok (.iconst (-1), 1)) (v := (-1 : Int32)) (by decide) ?_
        refine j_goto hE (by decide +kernel : decode cX11_meet 83 = .ok (.goto 14, 3)) (tgt := 97) (by decide) ?_
        exact S_M_meet_97 hE hK17 hK63 _ _ _ _ _ _ _ _ h
set_option maxRecDepth 100000 in
def B_M_meet_48 (Γ : GAM) (K17 : Nat → Int32 → Int32 → Int32 → GH → Prop) (K63 : Nat → Int32 → Int32 → Int32 → Int32 → Int32 → GH → Prop) (K : GH → Prop) (l0 : Nat) (l1 : Int32) (l2 : Int32) (l3 : Int32) (g : GH) : Prop :=
  Kd g l0 = 13 ∧ Kd g l0 = 13 ∧ Sp_M_wordOf Γ l0 l3 l1 (Gi g 1536 l0) g (fun (x2 : Int32) (g1 : GH) => K63 l0 l1 l2 l3 x2 (0 : Int32) g1)
set_option maxHeartbeats 4000000 in
set_option maxRecDepth 100000 in
theorem S_M_meet_48 {Γ : GAM} {E : EV} {K : GH → Prop} (hE : GE Γ E cX11_meet 7 RX11 none 1 25 (fun r g' => r = none ∧ K g')) {K17 : Nat → Int32 → Int32 → Int32 → GH → Prop} {K63 : Nat → Int32 → Int32 → Int32 → Int32 → Int32 → GH → Prop} (hK17 : ∀ (l0 : Nat) (l1 : Int32) (l2 : Int32) (l3 : Int32) (g : GH), K17 l0 l1 l2 l3 g → JW Γ E 17 [some (.ref l0), some (.int l1), some (.int l2), some (.int l3), none, none, none] [] g) (hK63 : ∀ (l0 : Nat) (l1 : Int32) (l2 : Int32) (l3 : Int32) (l4 : Int32) (l5 : Int32) (g : GH), K63 l0 l1 l2 l3 l4 l5 g → JW Γ E 63 [some (.ref l0), some (.int l1), some (.int l2), some (.int l3), some (.int l4), some (.int l5), none] [] g) (l0 : Nat) (l1 : Int32) (l2 : Int32) (l3 : Int32) (g : GH) (h : B_M_meet_48 Γ K17 K63 K l0 l1 l2 l3 g) : JW Γ E 48 [some (.ref l0), some (.int l1), some (.int l2), some (.int l3), none, none, none] [] g := by
  unfold B_M_meet_48 at h
  refine j_aload_n hE (by decide +kernel : decode cX11_meet 48 = .ok (.aload_n 0, 1)) rfl rfl ?_
  refine j_iload_n hE (by decide +kernel : decode cX11_meet 49 = .ok (.iload_n 3, 1)) rfl rfl ?_
  refine j_iload_n hE (by decide +kernel : decode cX11_meet 50 = .ok (.iload_n 1, 1)) rfl rfl ?_
  refine j_aload_n hE (by decide +kernel : decode cX11_meet 51 = .ok (.aload_n 0, 1)) rfl rfl ?_
  obtain ⟨hk, h⟩ := h
  refine j_getI hE fg_X11_217 hk (by decide +kernel : decode cX11_meet 52 = .ok (.getfield 217, 3)) ?_
  obtain ⟨hk, h⟩ := h
  refine j_callV hE rfl cl_X11_291 cf_12 im_X11_wordOf se_X11_wordOf ⟨by omega, by omega⟩ (As := [.int l3, .int l1, .int (Gi g 1536 l0)]) (rest := []) rfl rfl (Nat.le_of_ble_eq_true rfl) hk (by decide +kernel : decode cX11_meet 55 = .ok (.invokevirtual 291, 3)) (mt_M_wordOf _ _ _ _ _ _ h) ?_
  rintro _ g1 ⟨x2, rfl, h⟩
  refine j_istore hE (by decide +kernel : decode cX11_meet 58 = .ok (.istore 4, 2)) (Nat.le_of_ble_eq_true rfl) rfl ?_
  refine j_iconst hE (by decide +kernel : decode cX11_meet 60 = .ok (.iconst 0, 1)) (v := (0 : Int32)) (by decide) ?_
  refine j_istore hE (by decide +kernel : decode cX11_meet 61 = .ok (.istore 5, 2)) (Nat.le_of_ble_eq_true rfl) rfl ?_
  exact hK63 _ _ _ _ _ _ _ h
set_option maxRecDepth 100000 in
def B_M_meet_17 (Γ : GAM) (K17 : Nat → Int32 → Int32 → Int32 → GH → Prop) (K63 : Nat → Int32 → Int32 → Int32 → Int32 → Int32 → GH → Prop) (K : GH → Prop) (l0 : Nat) (l1 : Int32) (l2 : Int32) (l3 : Int32) (g : GH) : Prop :=
  Kd g l0 = 13 ∧ (((Gi g 1539 l0) ≤ l3 → K g) ∧ (¬ ((Gi g 1539 l0) ≤ l3) → ((l2 = (-1 : Int32) → B_M_meet_48 Γ K17 K63 K l0 l1 l2 l3 g) ∧ (¬ (l2 = (-1 : Int32)) → Kd g l0 = 13 ∧ ∃ a1 : Nat, Gr g 1550 l0 = some a1 ∧ Kd g l0 = 13 ∧ ∃ a2 : Nat, Gr g 1556 l0 = some a2 ∧ Kd g a2 = 20 ∧ inB l3 (Ln g a2) ∧ Kd g a1 = 20 ∧ inB (Ia g (Co g a2) (Ow g a2) l3.toNatClampNeg) (Ln g a1) ∧ (((Ia g (Co g a1) (Ow g a1) (Ia g (Co g a2) (Ow g a2) l3.toNatClampNeg).toNatClampNeg) = l2 → B_M_meet_48 Γ K17 K63 K l0 l1 l2 l3 g) ∧ (¬ ((Ia g (Co g a1) (Ow g a1) (Ia g (Co g a2) (Ow g a2) l3.toNatClampNeg).toNatClampNeg) = l2) → B_M_meet_174 Γ K17 K63 K l0 l1 l2 l3 g))))))
set_option maxHeartbeats 4000000 in
set_option maxRecDepth 100000 in
theorem S_M_meet_17 {Γ : GAM} {E : EV} {K : GH → Prop} (hE : GE Γ E cX11_meet 7 RX11 none 1 25 (fun r g' => r = none ∧ K g')) {K17 : Nat → Int32 → Int32 → Int32 → GH → Prop} {K63 : Nat → Int32 → Int32 → Int32 → Int32 → Int32 → GH → Prop} (hK17 : ∀ (l0 : Nat) (l1 : Int32) (l2 : Int32) (l3 : Int32) (g : GH), K17 l0 l1 l2 l3 g → JW Γ E 17 [some (.ref l0), some (.int l1), some (.int l2), some (.int l3), none, none, none] [] g) (hK63 : ∀ (l0 : Nat) (l1 : Int32) (l2 : Int32) (l3 : Int32) (l4 : Int32) (l5 : Int32) (g : GH), K63 l0 l1 l2 l3 l4 l5 g → JW Γ E 63 [some (.ref l0), some (.int l1), some (.int l2), some (.int l3), some (.int l4), some (.int l5), none] [] g) (l0 : Nat) (l1 : Int32) (l2 : Int32) (l3 : Int32) (g : GH) (h : B_M_meet_17 Γ K17 K63 K l0 l1 l2 l3 g) : JW Γ E 17 [some (.ref l0), some (.int l1), some (.int l2), some (.int l3), none, none, none] [] g := by
  unfold B_M_meet_17 at h
  refine j_iload_n hE (by decide +kernel : decode cX11_meet 17 = .ok (.iload_n 3, 1)) rfl rfl ?_
  refine j_aload_n hE (by decide +kernel : decode cX11_meet 18 = .ok (.aload_n 0, 1)) rfl rfl ?_
  obtain ⟨hk, h⟩ := h
  refine j_getI hE fg_X11_241 hk (by decide +kernel : decode cX11_meet 19 = .ok (.getfield 241, 3)) ?_
  refine j_icmp_ge hE (by decide +kernel : decode cX11_meet 22 = .ok (.if_icmp .ge 158, 3)) (tgt := 180) (by decide) (fun q => ?_) (fun q => ?_)
  · replace h := h.1 q
    exact j_vret hE (by decide +kernel : decode cX11_meet 180 = .ok (.return_, 1)) ⟨rfl, h⟩
  · replace h := h.2 q
    refine j_iload_n hE (by decide +kernel : decode cX11_meet 25 = .ok (.iload_n 2, 1)) rfl rfl ?_
    refine j_iconst hE (by decide +kernel : decode cX11_meet 26 = .ok (.iconst (-1), 1)) (v := (-1 : Int32)) (by decide) ?_
    refine j_icmp_eq hE (by decide +kernel : decode cX11_meet 27 = .ok (.if_icmp .eq 21, 3)) (tgt := 48) (by decide) (fun q => ?_) (fun q => ?_)
    · replace h := h.1 q
      exact S_M_meet_48 hE hK17 hK63 _ _ _ _ _ h
    · replace h := h.2 q
      refine j_aload_n hE (by decide +kernel : decode cX11_meet 30 = .ok (.aload_n 0, 1)) rfl rfl ?_
      obtain ⟨hk, h⟩ := h
      obtain ⟨a1, ha, h⟩ := h
      refine j_getRn hE fg_X11_17 hk ha (by decide +kernel : decode cX11_meet 31 = .ok (.getfield 17, 3)) ?_
      refine j_aload_n hE (by decide +kernel : decode cX11_meet 34 = .ok (.aload_n 0, 1)) rfl rfl ?_
      obtain ⟨hk, h⟩ := h
      obtain ⟨a2, ha, h⟩ := h
      refine j_getRn hE fg_X11_35 hk ha (by decide +kernel : decode cX11_meet 35 = .ok (.getfield 35, 3)) ?_
      refine j_iload_n hE (by decide +kernel : decode cX11_meet 38 = .ok (.iload_n 3, 1)) rfl rfl ?_
      obtain ⟨hk, hb, h⟩ := h
      refine j_iald hE hk hb (by decide +kernel : decode cX11_meet 39 = .ok (.iaload, 1)) ?_
      obtain ⟨hk, hb, h⟩ := h
      refine j_iald hE hk hb (by decide +kernel : decode cX11_meet 40 = .ok (.iaload, 1)) ?_
      refine j_iload_n hE (by decide +kernel : decode cX11_meet 41 = .ok (.iload_n 2, 1)) rfl rfl ?_
      refine j_icmp_eq hE (by decide +kernel : decode cX11_meet 42 = .ok (.if_icmp .eq 6, 3)) (tgt := 48) (by decide) (fun q => ?_) (fun q => ?_)
      · replace h := h.1 q
        exact S_M_meet_48 hE hK17 hK63 _ _ _ _ _ h
      · replace h := h.2 q
        refine j_goto hE (by decide +kernel : decode cX11_meet 45 = .ok (.goto 129, 3)) (tgt := 174) (by decide) ?_
        exact S_M_meet_174 hE hK17 hK63 _ _ _ _ _ h
set_option maxRecDepth 100000 in
def B_M_meet_0 (Γ : GAM) (K17 : Nat → Int32 → Int32 → Int32 → GH → Prop) (K63 : Nat → Int32 → Int32 → Int32 → Int32 → Int32 → GH → Prop) (K : GH → Prop) (th : Nat) (p0 : Int32) (p1 : Int32) (g : GH) : Prop :=
  Kd g th = 13 ∧ ∀ g1 : GH, g1 = sI g 1604 th (0 : Int32) → Kd g1 th = 13 ∧ ∀ g2 : GH, g2 = sI g1 1605 th (0 : Int32) → Kd g2 th = 13 ∧ ∀ g3 : GH, g3 = sI g2 1606 th (0 : Int32) → K17 th p0 p1 (0 : Int32) g3
set_option maxHeartbeats 4000000 in
set_option maxRecDepth 100000 in
theorem S_M_meet_0 {Γ : GAM} {E : EV} {K : GH → Prop} (hE : GE Γ E cX11_meet 7 RX11 none 1 25 (fun r g' => r = none ∧ K g')) {K17 : Nat → Int32 → Int32 → Int32 → GH → Prop} {K63 : Nat → Int32 → Int32 → Int32 → Int32 → Int32 → GH → Prop} (hK17 : ∀ (l0 : Nat) (l1 : Int32) (l2 : Int32) (l3 : Int32) (g : GH), K17 l0 l1 l2 l3 g → JW Γ E 17 [some (.ref l0), some (.int l1), some (.int l2), some (.int l3), none, none, none] [] g) (hK63 : ∀ (l0 : Nat) (l1 : Int32) (l2 : Int32) (l3 : Int32) (l4 : Int32) (l5 : Int32) (g : GH), K63 l0 l1 l2 l3 l4 l5 g → JW Γ E 63 [some (.ref l0), some (.int l1), some (.int l2), some (.int l3), some (.int l4), some (.int l5), none] [] g) (th : Nat) (p0 : Int32) (p1 : Int32) (g : GH) (h : B_M_meet_0 Γ K17 K63 K th p0 p1 g) : JW Γ E 0 [some (.ref th), some (.int p0), some (.int p1), none, none, none, none] [] g := by
  unfold B_M_meet_0 at h
  refine j_aload_n hE (by decide +kernel : decode cX11_meet 0 = .ok (.aload_n 0, 1)) rfl rfl ?_
  refine j_iconst hE (by decide +kernel : decode cX11_meet 1 = .ok (.iconst 0, 1)) (v := (0 : Int32)) (by decide) ?_
  obtain ⟨hk, h⟩ := h
  obtain ⟨g1, hg⟩ : ∃ z, z = sI g 1604 th (0 : Int32) := ⟨_, rfl⟩; replace h := h g1 hg
  refine j_putI hE fa_X11_437 hk (fun q => by cases q) (by decide +kernel : decode cX11_meet 2 = .ok (.putfield 437, 3)) ?_
  rw [← hg]
  refine j_aload_n hE (by decide +kernel : decode cX11_meet 5 = .ok (.aload_n 0, 1)) rfl rfl ?_
  refine j_iconst hE (by decide +kernel : decode cX11_meet 6 = .ok (.iconst 0, 1)) (v := (0 : Int32)) (by decide) ?_
  obtain ⟨hk, h⟩ := h
  obtain ⟨g2, hg⟩ : ∃ z, z = sI g1 1605 th (0 : Int32) := ⟨_, rfl⟩; replace h := h g2 hg
  refine j_putI hE fa_X11_440 hk (fun q => by cases q) (by decide +kernel : decode cX11_meet 7 = .ok (.putfield 440, 3)) ?_
  rw [← hg]
  refine j_aload_n hE (by decide +kernel : decode cX11_meet 10 = .ok (.aload_n 0, 1)) rfl rfl ?_
  refine j_iconst hE (by decide +kernel : decode cX11_meet 11 = .ok (.iconst 0, 1)) (v := (0 : Int32)) (by decide) ?_
  obtain ⟨hk, h⟩ := h
  obtain ⟨g3, hg⟩ : ∃ z, z = sI g2 1606 th (0 : Int32) := ⟨_, rfl⟩; replace h := h g3 hg
  refine j_putI hE fa_X11_443 hk (fun q => by cases q) (by decide +kernel : decode cX11_meet 12 = .ok (.putfield 443, 3)) ?_
  rw [← hg]
  refine j_iconst hE (by decide +kernel : decode cX11_meet 15 = .ok (.iconst 0, 1)) (v := (0 : Int32)) (by decide) ?_
  refine j_istore_n hE (by decide +kernel : decode cX11_meet 16 = .ok (.istore_n 3, 1)) rfl (Nat.le_of_ble_eq_true rfl) rfl ?_
  exact hK17 _ _ _ _ _ h
set_option maxHeartbeats 4000000 in
set_option maxRecDepth 100000 in
theorem rl_M_meet {Γ : GAM} {l : Launch} {th : Nat} {p0 : Int32} {p1 : Int32} {g : GH} {K : GH → Prop} (I17 : Nat → Nat → Int32 → Int32 → Int32 → GH → Prop) (I63 : Nat → Nat → Int32 → Int32 → Int32 → Int32 → Int32 → GH → Prop) (hh17 : ∀ n (l0 : Nat) (l1 : Int32) (l2 : Int32) (l3 : Int32) (g : GH), I17 n l0 l1 l2 l3 g → B_M_meet_17 Γ (fun l0 l1 l2 l3 g => ∃ m, m < n ∧ I17 m l0 l1 l2 l3 g) (fun l0 l1 l2 l3 l4 l5 g => ∃ m, m < n ∧ I63 m l0 l1 l2 l3 l4 l5 g) K l0 l1 l2 l3 g) (hh63 : ∀ n (l0 : Nat) (l1 : Int32) (l2 : Int32) (l3 : Int32) (l4 : Int32) (l5 : Int32) (g : GH), I63 n l0 l1 l2 l3 l4 l5 g → B_M_meet_63 Γ (fun l0 l1 l2 l3 g => ∃ m, m < n ∧ I17 m l0 l1 l2 l3 g) (fun l0 l1 l2 l3 l4 l5 g => ∃ m, m < n ∧ I63 m l0 l1 l2 l3 l4 l5 g) K l0 l1 l2 l3 l4 l5 g) (h0 : B_M_meet_0 Γ (fun l0 l1 l2 l3 g => ∃ m, I17 m l0 l1 l2 l3 g) (fun l0 l1 l2 l3 l4 l5 g => ∃ m, I63 m l0 l1 l2 l3 l4 l5 g) K th p0 p1 g) : MetA Γ l yX11_meet cX11_meet 7 none 1 25 [.ref th, .int p0, .int p1] g (fun r g' => r = none ∧ K g') := by
  refine MetA.introL (Lx := [some (.ref th), some (.int p0), some (.int p1), none, none, none, none]) (by decide) (Nat.le_of_ble_eq_true rfl) rfl rfl ?_
  intro E hEl hE hnm
  have hall : ∀ n, (∀ (l0 : Nat) (l1 : Int32) (l2 : Int32) (l3 : Int32) (g : GH), I17 n l0 l1 l2 l3 g → JW Γ E 17 [some (.ref l0), some (.int l1), some (.int l2), some (.int l3), none, none, none] [] g) ∧ (∀ (l0 : Nat) (l1 : Int32) (l2 : Int32) (l3 : Int32) (l4 : Int32) (l5 : Int32) (g : GH), I63 n l0 l1 l2 l3 l4 l5 g → JW Γ E 63 [some (.ref l0), some (.int l1), some (.int l2), some (.int l3), some (.int l4), some (.int l5), none] [] g) := by
    intro n
    induction n using Nat.strongRecOn with
    | ind n ih =>
      exact ⟨fun l0 l1 l2 l3 g hi => S_M_meet_17 hE (fun l0 l1 l2 l3 g hm => by obtain ⟨m, hm, h⟩ := hm; exact (ih m hm).1 l0 l1 l2 l3 g h) (fun l0 l1 l2 l3 l4 l5 g hm => by obtain ⟨m, hm, h⟩ := hm; exact (ih m hm).2 l0 l1 l2 l3 l4 l5 g h) l0 l1 l2 l3 g (hh17 n l0 l1 l2 l3 g hi), fun l0 l1 l2 l3 l4 l5 g hi => S_M_meet_63 hE (fun l0 l1 l2 l3 g hm => by obtain ⟨m, hm, h⟩ := hm; exact (ih m hm).1 l0 l1 l2 l3 g h) (fun l0 l1 l2 l3 l4 l5 g hm => by obtain ⟨m, hm, h⟩ := hm; exact (ih m hm).2 l0 l1 l2 l3 l4 l5 g h) l0 l1 l2 l3 l4 l5 g (hh63 n l0 l1 l2 l3 l4 l5 g hi)⟩
  exact S_M_meet_0 hE (fun l0 l1 l2 l3 g hm => by obtain ⟨m, h⟩ := hm; exact (hall m).1 l0 l1 l2 l3 g h) (fun l0 l1 l2 l3 l4 l5 g hm => by obtain ⟨m, h⟩ := hm; exact (hall m).2 l0 l1 l2 l3 l4 l5 g h) th p0 p1 g h0
theorem mt_M_meet {Γ : GAM} {l : Launch} (th : Nat) (p0 : Int32) (p1 : Int32) (g : GH) (K : GH → Prop) (h : Sp_M_meet Γ th p0 p1 g K) : MetA Γ l yX11_meet cX11_meet 7 none 1 25 [.ref th, .int p0, .int p1] g (fun r g' => r = none ∧ K g') := by
  obtain ⟨ma, s, hI, hw, hK⟩ := h
  have hN := hw.len.2.2.1
  have hV := hw.len.1
  refine rl_M_meet (fun n l0 l1 l2 l3 g' => th = l0 ∧ p0 = l1 ∧ p1 = l2 ∧ ∃ k, k ≤ (s_env s).length ∧ n = 10 * ((s_env s).length - k) ∧ l3 = nI k ∧ FrX th [1604, 1605, 1606] [] g g' ∧ TR th g' (sMtk s p0 p1 k))
    (fun n l0 l1 l2 l3 l4 l5 g' => th = l0 ∧ p0 = l1 ∧ p1 = l2 ∧ ∃ k j x, (s_env s)[k]? = some x ∧ j ≤ 6 ∧ n = 10 * ((s_env s).length - (k + 1)) + (6 - j) + 1 ∧ l3 = nI k ∧ l4 = sWord s (nI k) p0 (s_now s) ∧ l5 = nI j ∧ (p1 = -1 ∨ (sVoter s x.1).2.1 = p1) ∧ (l4 = -1 → j = 0) ∧ FrX th [1604, 1605, 1606] [] g g' ∧ TR th g' (((List.range 6).take j).foldl (mt1 s (nI k) p0 l4) (sMtk s p0 p1 k))) ?_ ?_ ?_
  · rintro n l0 l1 l2 l3 g' ⟨rfl, rfl, rfl, k, hk, rfl, rfl, hfx, hT⟩
    have hI' := hI.x hfx (by decide +kernel)
    obtain ⟨hkd, hS⟩ := hI'.1
    obtain ⟨w1, w2, w3⟩ := hI'.env
    obtain ⟨v1, v2, v3⟩ := hI'.vot
    obtain ⟨z_streetOf1, z_streetOf2, z_streetOf3, z_streetOf4, z_streetOf5⟩ := hS 1550 20 60 rfl
    obtain ⟨z_voterOf1, z_voterOf2, z_voterOf3, z_voterOf4, z_voterOf5⟩ := hS 1556 20 200 rfl
    suffices H : ∀ (K17 : Nat → Int32 → Int32 → Int32 → GH → Prop) (K63 : Nat → Int32 → Int32 → Int32 → Int32 → Int32 → GH → Prop), (k < (s_env s).length → TR th g' (sMtk s p0 p1 (k + 1)) → K17 th p0 p1 (nI (k + 1)) g') → (∀ x, (s_env s)[k]? = some x → (p1 = -1 ∨ (sVoter s x.1).2.1 = p1) → K63 th p0 p1 (nI k) (sWord s (nI k) p0 (s_now s)) 0 g') → B_M_meet_17 Γ K17 K63 K th p0 p1 (nI k) g' from
      H _ _ (fun hlt h => ⟨10 * ((s_env s).length - (k + 1)), by omega, rfl, rfl, rfl, k + 1, by omega, rfl, rfl, hfx, h⟩)
        (fun x hx hs => ⟨10 * ((s_env s).length - (k + 1)) + (6 - 0) + 1, by have := (List.getElem?_eq_some_iff.mp hx).1; omega, rfl, rfl, rfl, k, 0, x, hx, by omega, rfl, rfl, rfl, nj_0, hs, fun _ => rfl, hfx, hT⟩)
    intro K17 K63 h17 h63
    unfold B_M_meet_17
    simp only [hkd, w1, z_streetOf1, z_streetOf2, z_streetOf3, z_streetOf4, z_streetOf5, z_voterOf1, z_voterOf2, z_voterOf3, z_voterOf4, z_voterOf5, Option.some.injEq, exists_eq_left', true_and, nj_le (show (s_env s).length < 2147483648 by omega) (show k < 2147483648 by omega)]
    refine ⟨fun z => ?_, fun z => ?_⟩
    · have : k = (s_env s).length := by omega
      subst this
      exact hK g' hfx hT
    · have hlt : k < (s_env s).length := by omega
      obtain ⟨x, hx⟩ := get_lt hlt
      obtain ⟨y, hy, hvy, hv0, hvl⟩ := vOk_get hw hx
      have hb := inB_nI (show k < 200 by omega) (by omega)
      have hbv : inB x.1 60 := ⟨hv0, by omega⟩
      have hgo : (p1 = -1 ∨ (sVoter s x.1).2.1 = p1) → B_M_meet_48 Γ K17 K63 K th p0 p1 (nI k) g' := by
        intro hs
        unfold B_M_meet_48
        refine ⟨hkd, hkd, ma, s, hI', ?_⟩
        rw [hI'.now]
        exact h63 x hx hs
      simp only [hb, (w3 k x hx).1, hbv, (v3 _ y hy).2.1, true_and, nj_cl (show k < 2147483648 by omega)]
      refine ⟨fun u => hgo (.inl u), fun u => ⟨fun u2 => hgo (.inr (by rw [hvy]; exact u2)), fun u2 => ?_⟩⟩
      unfold B_M_meet_174
      rw [nj_s]
      refine h17 hlt ?_
      have : sMtk s p0 p1 (k + 1) = mtE s p0 p1 (sMtk s p0 p1 k) (x, k) := fold_take _ _ _ (zip_get hx)
      rw [this]
      unfold mtE
      rw [if_neg (fun q => by rcases q.1 with q | q; exact u q; rw [hvy] at q; exact u2 q)]
      exact hT
  · rintro n l0 l1 l2 l3 l4 l5 g' ⟨rfl, rfl, rfl, k, j, x, hx, hj, rfl, rfl, rfl, rfl, hs, hj0, hfx, hT⟩
    have hlt := (List.getElem?_eq_some_iff.mp hx).1
    have hI' := hI.x hfx (by decide +kernel)
    have hkd := hI'.1.1
    have hsk : sMtk s p0 p1 (k + 1) = mtE s p0 p1 (sMtk s p0 p1 k) (x, k) := fold_take _ _ _ (zip_get hx)
    generalize hown : sWord s (nI k) p0 (s_now s) = own at hT hj0 ⊢
    suffices H : ∀ (K17 : Nat → Int32 → Int32 → Int32 → GH → Prop) (K63 : Nat → Int32 → Int32 → Int32 → Int32 → Int32 → GH → Prop), (TR th g' (sMtk s p0 p1 (k + 1)) → K17 th p0 p1 (nI (k + 1)) g') → (∀ g2, j < 6 → ¬ own = -1 → FrX th [1604, 1605, 1606] [] g g2 → TR th g2 (mt1 s (nI k) p0 own (((List.range 6).take j).foldl (mt1 s (nI k) p0 own) (sMtk s p0 p1 k)) j) → K63 th p0 p1 (nI k) own (nI (j + 1)) g2) → B_M_meet_63 Γ K17 K63 K th p0 p1 (nI k) own (nI j) g' from
      H _ _ (fun h => ⟨10 * ((s_env s).length - (k + 1)), by omega, rfl, rfl, rfl, k + 1, by omega, rfl, rfl, hfx, h⟩)
        (fun g2 hj6 ho h1 h2 => ⟨10 * ((s_env s).length - (k + 1)) + (6 - (j + 1)) + 1, by omega, rfl, rfl, rfl, k, j + 1, x, hx, by omega, rfl, rfl, hown.symm, rfl, hs, fun z => absurd z ho, h1, by rw [fold_take _ _ _ (range_get hj6)]; exact h2⟩)
    intro K17 K63 h17 h63
    have h6 : ((6 : Int32) ≤ nI j) ↔ 6 ≤ j := nj_le (a := 6) (by omega) (by omega)
    unfold B_M_meet_63
    rw [h6]
    refine ⟨fun z => ?_, fun z => ⟨fun y => ?_, fun y => ?_⟩⟩
    · have hj6 : j = 6 := by omega
      subst hj6
      unfold B_M_meet_174
      rw [nj_s]
      refine h17 ?_
      rw [hsk]
      unfold mtE
      rw [hown, if_pos ⟨hs, fun q => absurd (hj0 q) (by decide)⟩]
      exact hT
    · unfold B_M_meet_174
      rw [nj_s]
      refine h17 ?_
      rw [hsk]
      unfold mtE
      rw [hown, if_neg (fun q => q.2 y)]
      rw [hj0 y] at hT
      exact hT
    · have hj6 : j < 6 := by omega
      obtain ⟨t1, t2, t3⟩ := hT
      have hgo : ∀ o, o = mtO s (nI k) p0 j → B_M_meet_97 Γ K17 K63 K th p0 p1 (nI k) own (nI j) o g' := by
        intro o ho
        have hno : o = -1 → K63 th p0 p1 (nI k) own (nI (j + 1)) g' := fun q => h63 g' hj6 y hfx (by unfold mt1; rw [if_pos (ho.symm.trans q)]; exact ⟨t1, t2, t3⟩)
        have hp : ∀ c d : Int32, ¬ o = -1 → c = (if own = 0 ∧ o = 1 then 1 else 0) → d = (if own = 1 ∧ o = 0 then 1 else 0) → K63 th p0 p1 (nI k) own (nI (j + 1)) (sI (sI (sI g' 1604 th (Gi g' 1604 th + 1)) 1605 th (Gi g' 1605 th + c)) 1606 th (Gi g' 1606 th + d)) := by
          intro c d hn hc hd
          refine h63 _ hj6 y (hfx.tr (((FrX.sI (by decide)).tr (FrX.sI (by decide))).tr (FrX.sI (by decide)))) ?_
          generalize List.foldl (mt1 s (nI k) p0 own) (sMtk s p0 p1 k) ((List.range 6).take j) = A at t1 t2 t3 ⊢
          unfold mt1
          rw [← ho, if_neg hn, ← hc, ← hd, ← t1, ← t2, ← t3]
          refine ⟨?_, ?_, ?_⟩ <;> simp [Gi_sI]
        simp (decide := true) only [B_M_meet_97, B_M_meet_138, B_M_meet_139, B_M_meet_163, B_M_meet_164, B_M_meet_168, Gi_sI, Gr_sI, Ia_sI, Ra_sI, La_sI, Kd_sI, Co_sI, Ow_sI, Ln_sI, Lq_sI, Hn_sI, Hu_sI, Gi_sR, Gr_sR, Ia_sR, Ra_sR, La_sR, Kd_sR, Co_sR, Ow_sR, Ln_sR, Lq_sR, Hn_sR, Hu_sR, Gi_sA, Gr_sA, Ia_sA, Ra_sA, La_sA, Kd_sA, Co_sA, Ow_sA, Ln_sA, Lq_sA, Hn_sA, Hu_sA, Gi_sRA, Gr_sRA, Ia_sRA, Ra_sRA, La_sRA, Kd_sRA, Co_sRA, Ow_sRA, Ln_sRA, Lq_sRA, Hn_sRA, Hu_sRA, Gi_sLA, Gr_sLA, Ia_sLA, Ra_sLA, La_sLA, Kd_sLA, Co_sLA, Ow_sLA, Ln_sLA, Lq_sLA, Hn_sLA, Hu_sLA, Gi_sAf, Gr_sAf, Ia_sAf, Ra_sAf, La_sAf, Kd_sAf, Co_sAf, Ow_sAf, Ln_sAf, Lq_sAf, Hn_sAf, Hu_sAf, Gi_sRAf, Gr_sRAf, Ia_sRAf, Ra_sRAf, La_sRAf, Kd_sRAf, Co_sRAf, Ow_sRAf, Ln_sRAf, Lq_sRAf, Hn_sRAf, Hu_sRAf, Gi_sLq, Gr_sLq, Ia_sLq, Ra_sLq, La_sLq, Kd_sLq, Co_sLq, Ow_sLq, Ln_sLq, Lq_sLq, Hn_sLq, Hu_sLq, Gi_nO, Gr_nO, Ia_nO, Ra_nO, La_nO, Kd_nO, Co_nO, Ow_nO, Ln_nO, Lq_nO, Hn_nO, Hu_nO, Gi_nX, Gr_nX, Ia_nX, Ra_nX, La_nX, Kd_nX, Co_nX, Ow_nX, Ln_nX, Lq_nX, Hn_nX, Hu_nX, Gi_nA, Gr_nA, Ia_nA, Ra_nA, La_nA, Kd_nA, Co_nA, Ow_nA, Ln_nA, Lq_nA, Hn_nA, Hu_nA, Gi_mv, Gr_mv, Ia_mv, Ra_mv, La_mv, Kd_mv, Co_mv, Ow_mv, Ln_mv, Lq_mv, Hn_mv, Hu_mv, hkd, forall_eq, true_and, and_self, if_true, if_false, nj_s]
        repeat' with_reducible first | apply And.intro | intro _
        all_goals first | exact hno (by assumption) | exact hp _ _ (by assumption) (by grind) (by grind)
      refine ⟨fun q => ⟨hkd, hkd, ma, s, hI', ?_⟩, fun q => hgo _ (by unfold mtO; rw [if_pos q])⟩
      rw [hI'.now]
      exact hgo _ (by unfold mtO; rw [if_neg q])
  · unfold B_M_meet_0
    refine ⟨hI.1.1, ?_⟩
    rintro g1 rfl
    refine ⟨hI.1.1, ?_⟩
    rintro g2 rfl
    refine ⟨hI.1.1, ?_⟩
    rintro g3 rfl
    refine ⟨_, rfl, rfl, rfl, 0, Nat.zero_le _, rfl, nj_0, ((FrX.sI (by decide)).tr (FrX.sI (by decide))).tr (FrX.sI (by decide)), ?_⟩
    have h0 : sMtk s p0 p1 0 = (0, 0, 0) := by simp [sMtk]
    rw [h0]
    refine ⟨?_, ?_, ?_⟩ <;> simp [Gi_sI]
abbrev ok_habit (p0 p1 p2 : Int32) : Prop := (0 ≤ p0 ∧ p0 ≤ 5) ∧ (-1 ≤ p1 ∧ p1 ≤ 9) ∧ (0 ≤ p2 ∧ p2 ≤ 2)
def p_habit (s : ST) (p0 p1 p2 : Int32) : Int32 := if ok_habit p0 p1 p2 then (if p2 = 0 then (sMt s p0 p1).1 else if s_siz s ≤ (sMt s p0 p1).1 then (if p2 = 1 then (sMt s p0 p1).2.1 else (sMt s p0 p1).2.2) else -2) else -1
def Sp_M_habit (Γ : GAM) (m : Nat) (p0 p1 p2 : Int32) (g : GH) (K : Int32 → GH → Prop) : Prop := ∃ ma s, RefI m ma g s ∧ WF s ∧ ∀ g', FrX m [1604, 1605, 1606] [] g g' → K (p_habit s p0 p1 p2) g'
-- the walk of M_habit
set_option maxRecDepth 100000 in
def B_M_habit_77 (Γ : GAM) (K : Int32 → GH → Prop) (s0 : Int32) (g : GH) : Prop :=
  K s0 g
set_option maxHeartbeats 4000000 in
set_option maxRecDepth 100000 in
theorem S_M_habit_77 {Γ : GAM} {E : EV} {K : Int32 → GH → Prop} (hE : GE Γ E cX11_habit 4 RX11 (some (.int)) 2 51 (fun r g' => ∃ x, r = some (.int x) ∧ K x g')) (s0 : Int32) (g : GH) (h : B_M_habit_77 Γ K s0 g) : JW Γ E 77 [none, none, none, none] [.int s0] g := by
  unfold B_M_habit_77 at h
  exact j_iret hE (by decide +kernel : decode cX11_habit 77 = .ok (.ireturn, 1)) ⟨_, rfl, h⟩
set_option maxRecDepth 100000 in
def B_M_habit_28 (Γ : GAM) (K : Int32 → GH → Prop)  (g : GH) : Prop :=
  K (-1 : Int32) g
set_option maxHeartbeats 4000000 in
set_option maxRecDepth 100000 in
theorem S_M_habit_28 {Γ : GAM} {E : EV} {K : Int32 → GH → Prop} (hE : GE Γ E cX11_habit 4 RX11 (some (.int)) 2 51 (fun r g' => ∃ x, r = some (.int x) ∧ K x g'))  (g : GH) (h : B_M_habit_28 Γ K  g) : JW Γ E 28 [none, none, none, none] [] g := by
  unfold B_M_habit_28 at h
  refine j_iconst hE (by decide +kernel : decode cX11_habit 28 = .ok (.iconst (-1), 1)) (v := (-1 : Int32)) (by decide) ?_
  exact j_iret hE (by decide +kernel : decode cX11_habit 29 = .ok (.ireturn, 1)) ⟨_, rfl, h⟩
set_option maxRecDepth 100000 in
def B_M_habit_0 (Γ : GAM) (K : Int32 → GH → Prop) (th : Nat) (p0 : Int32) (p1 : Int32) (p2 : Int32) (g : GH) : Prop :=
  Sp_M_in Γ p0 (0 : Int32) (5 : Int32) g (fun (x2 : Int32) (g1 : GH) => ((x2 = 0 → B_M_habit_28 Γ K g1) ∧ (¬ (x2 = 0) → Sp_M_in Γ p1 (-1 : Int32) (9 : Int32) g1 (fun (x4 : Int32) (g3 : GH) => ((x4 = 0 → B_M_habit_28 Γ K g3) ∧ (¬ (x4 = 0) → Sp_M_in Γ p2 (0 : Int32) (2 : Int32) g3 (fun (x6 : Int32) (g5 : GH) => ((¬ (x6 = 0) → Kd g5 th = 13 ∧ Sp_M_meet Γ th p0 p1 g5 (fun (g7 : GH) => ((¬ (p2 = 0) → Kd g7 th = 13 ∧ Kd g7 th = 13 ∧ (((Gi g7 1548 th) ≤ (Gi g7 1604 th) → ((¬ (p2 = (1 : Int32)) → Kd g7 th = 13 ∧ B_M_habit_77 Γ K (Gi g7 1606 th) g7) ∧ (p2 = (1 : Int32) → Kd g7 th = 13 ∧ B_M_habit_77 Γ K (Gi g7 1605 th) g7))) ∧ (¬ ((Gi g7 1548 th) ≤ (Gi g7 1604 th)) → B_M_habit_77 Γ K (-2 : Int32) g7))) ∧ (p2 = 0 → Kd g7 th = 13 ∧ K (Gi g7 1604 th) g7)))) ∧ (x6 = 0 → B_M_habit_28 Γ K g5)))))))))
set_option maxHeartbeats 4000000 in
set_option maxRecDepth 100000 in
theorem S_M_habit_0 {Γ : GAM} {E : EV} {K : Int32 → GH → Prop} (hE : GE Γ E cX11_habit 4 RX11 (some (.int)) 2 51 (fun r g' => ∃ x, r = some (.int x) ∧ K x g')) (th : Nat) (p0 : Int32) (p1 : Int32) (p2 : Int32) (g : GH) (h : B_M_habit_0 Γ K th p0 p1 p2 g) : JW Γ E 0 [some (.ref th), some (.int p0), some (.int p1), some (.int p2)] [] g := by
  unfold B_M_habit_0 at h
  refine j_iload_n hE (by decide +kernel : decode cX11_habit 0 = .ok (.iload_n 1, 1)) rfl rfl ?_
  refine j_iconst hE (by decide +kernel : decode cX11_habit 1 = .ok (.iconst 0, 1)) (v := (0 : Int32)) (by decide) ?_
  refine j_iconst hE (by decide +kernel : decode cX11_habit 2 = .ok (.iconst 5, 1)) (v := (5 : Int32)) (by decide) ?_
  refine j_callS hE rfl cl_X11_213 st_X11_in ⟨by omega, by omega⟩ (As := [.int p0, .int (0 : Int32), .int (5 : Int32)]) (rest := []) rfl rfl (Nat.le_of_ble_eq_true rfl) (by decide +kernel : decode cX11_habit 3 = .ok (.invokestatic 213, 3)) (mt_M_in _ _ _ _ _ h) ?_
  rintro _ g1 ⟨x2, rfl, h⟩
  refine j_if_eq hE (by decide +kernel : decode cX11_habit 6 = .ok (.ifCond .eq 22, 3)) (tgt := 28) (by decide) (fun q => ?_) (fun q => ?_)
  · replace h := h.1 q
    refine j_weak [none, none, none, none] trivial ?_
    exact S_M_habit_28 hE _ h
  · replace h := h.2 q
    refine j_iload_n hE (by decide +kernel : decode cX11_habit 9 = .ok (.iload_n 2, 1)) rfl rfl ?_
    refine j_iconst hE (by decide +kernel : decode cX11_habit 10 = .ok (.iconst (-1), 1)) (v := (-1 : Int32)) (by decide) ?_
    refine j_bipush hE (by decide +kernel : decode cX11_habit 11 = .ok (.bipush 9, 2)) (v := (9 : Int32)) (by decide) ?_
    refine j_callS hE rfl cl_X11_213 st_X11_in ⟨by omega, by omega⟩ (As := [.int p1, .int (-1 : Int32), .int (9 : Int32)]) (rest := []) rfl rfl (Nat.le_of_ble_eq_true rfl) (by decide +kernel : decode cX11_habit 13 = .ok (.invokestatic 213, 3)) (mt_M_in _ _ _ _ _ h) ?_
    rintro _ g3 ⟨x4, rfl, h⟩
    refine j_if_eq hE (by decide +kernel : decode cX11_habit 16 = .ok (.ifCond .eq 12, 3)) (tgt := 28) (by decide) (fun q => ?_) (fun q => ?_)
    · replace h := h.1 q
      refine j_weak [none, none, none, none] trivial ?_
      exact S_M_habit_28 hE _ h
    · replace h := h.2 q
      refine j_iload_n hE (by decide +kernel : decode cX11_habit 19 = .ok (.iload_n 3, 1)) rfl rfl ?_
      refine j_iconst hE (by decide +kernel : decode cX11_habit 20 = .ok (.iconst 0, 1)) (v := (0 : Int32)) (by decide) ?_
      refine j_iconst hE (by decide +kernel : decode cX11_habit 21 = .ok (.iconst 2, 1)) (v := (2 : Int32)) (by decide) ?_
      refine j_callS hE rfl cl_X11_213 st_X11_in ⟨by omega, by omega⟩ (As := [.int p2, .int (0 : Int32), .int (2 : Int32)]) (rest := []) rfl rfl (Nat.le_of_ble_eq_true rfl) (by decide +kernel : decode cX11_habit 22 = .ok (.invokestatic 213, 3)) (mt_M_in _ _ _ _ _ h) ?_
      rintro _ g5 ⟨x6, rfl, h⟩
      refine j_if_ne hE (by decide +kernel : decode cX11_habit 25 = .ok (.ifCond .ne 5, 3)) (tgt := 30) (by decide) (fun q => ?_) (fun q => ?_)
      · replace h := h.1 q
        refine j_aload_n hE (by decide +kernel : decode cX11_habit 30 = .ok (.aload_n 0, 1)) rfl rfl ?_
        refine j_iload_n hE (by decide +kernel : decode cX11_habit 31 = .ok (.iload_n 1, 1)) rfl rfl ?_
        refine j_iload_n hE (by decide +kernel : decode cX11_habit 32 = .ok (.iload_n 2, 1)) rfl rfl ?_
        obtain ⟨hk, h⟩ := h
        refine j_callV hE rfl cl_X11_446 cf_12 im_X11_meet se_X11_meet ⟨by omega, by omega⟩ (As := [.int p0, .int p1]) (rest := []) rfl rfl (Nat.le_of_ble_eq_true rfl) hk (by decide +kernel : decode cX11_habit 33 = .ok (.invokevirtual 446, 3)) (mt_M_meet _ _ _ _ _ h) ?_
        rintro _ g7 ⟨rfl, h⟩
        refine j_iload_n hE (by decide +kernel : decode cX11_habit 36 = .ok (.iload_n 3, 1)) rfl rfl ?_
        refine j_if_ne hE (by decide +kernel : decode cX11_habit 37 = .ok (.ifCond .ne 8, 3)) (tgt := 45) (by decide) (fun q => ?_) (fun q => ?_)
        · replace h := h.1 q
          refine j_aload_n hE (by decide +kernel : decode cX11_habit 45 = .ok (.aload_n 0, 1)) rfl rfl ?_
          obtain ⟨hk, h⟩ := h
          refine j_getI hE fg_X11_437 hk (by decide +kernel : decode cX11_habit 46 = .ok (.getfield 437, 3)) ?_
          refine j_aload_n hE (by decide +kernel : decode cX11_habit 49 = .ok (.aload_n 0, 1)) rfl rfl ?_
          obtain ⟨hk, h⟩ := h
          refine j_getI hE fg_X11_7 hk (by decide +kernel : decode cX11_habit 50 = .ok (.getfield 7, 3)) ?_
          refine j_icmp_ge hE (by decide +kernel : decode cX11_habit 53 = .ok (.if_icmp .ge 8, 3)) (tgt := 61) (by decide) (fun q => ?_) (fun q => ?_)
          · replace h := h.1 q
            refine j_iload_n hE (by decide +kernel : decode cX11_habit 61 = .ok (.iload_n 3, 1)) rfl rfl ?_
            refine j_iconst hE (by decide +kernel : decode cX11_habit 62 = .ok (.iconst 1, 1)) (v := (1 : Int32)) (by decide) ?_
            refine j_icmp_ne hE (by decide +kernel : decode cX11_habit 63 = .ok (.if_icmp .ne 10, 3)) (tgt := 73) (by decide) (fun q => ?_) (fun q => ?_)
            · replace h := h.1 q
              refine j_aload_n hE (by decide +kernel : decode cX11_habit 73 = .ok (.aload_n 0, 1)) rfl rfl ?_
              obtain ⟨hk, h⟩ := h
              refine j_getI hE fg_X11_443 hk (by decide +kernel : decode cX11_habit 74 = .ok (.getfield 443, 3)) ?_
              refine j_weak [none, none, none, none] trivial ?_
              exact S_M_habit_77 hE _ _ h
            · replace h := h.2 q
              refine j_aload_n hE (by decide +kernel : decode cX11_habit 66 = .ok (.aload_n 0, 1)) rfl rfl ?_
              obtain ⟨hk, h⟩ := h
              refine j_getI hE fg_X11_440 hk (by decide +kernel : decode cX11_habit 67 = .ok (.getfield 440, 3)) ?_
              refine j_goto hE (by decide +kernel : decode cX11_habit 70 = .ok (.goto 7, 3)) (tgt := 77) (by decide) ?_
              refine j_weak [none, none, none, none] trivial ?_
              exact S_M_habit_77 hE _ _ h
          · replace h := h.2 q
            refine j_bipush hE (by decide +kernel : decode cX11_habit 56 = .ok (.bipush (-2), 2)) (v := (-2 : Int32)) (by decide) ?_
            refine j_goto hE (by decide +kernel : decode cX11_habit 58 = .ok (.goto 19, 3)) (tgt := 77) (by decide) ?_
            refine j_weak [none, none, none, none] trivial ?_
            exact S_M_habit_77 hE _ _ h
        · replace h := h.2 q
          refine j_aload_n hE (by decide +kernel : decode cX11_habit 40 = .ok (.aload_n 0, 1)) rfl rfl ?_
          obtain ⟨hk, h⟩ := h
          refine j_getI hE fg_X11_437 hk (by decide +kernel : decode cX11_habit 41 = .ok (.getfield 437, 3)) ?_
          exact j_iret hE (by decide +kernel : decode cX11_habit 44 = .ok (.ireturn, 1)) ⟨_, rfl, h⟩
      · replace h := h.2 q
        refine j_weak [none, none, none, none] trivial ?_
        exact S_M_habit_28 hE _ h
set_option maxHeartbeats 4000000 in
set_option maxRecDepth 100000 in
theorem rl_M_habit {Γ : GAM} {l : Launch} {th : Nat} {p0 : Int32} {p1 : Int32} {p2 : Int32} {g : GH} {K : Int32 → GH → Prop} (h0 : B_M_habit_0 Γ K th p0 p1 p2 g) : MetA Γ l yX11_habit cX11_habit 4 (some (.int)) 2 51 [.ref th, .int p0, .int p1, .int p2] g (fun r g' => ∃ x, r = some (.int x) ∧ K x g') := by
  refine MetA.introL (Lx := [some (.ref th), some (.int p0), some (.int p1), some (.int p2)]) (by decide) (Nat.le_of_ble_eq_true rfl) rfl rfl ?_
  intro E hEl hE hnm
  exact S_M_habit_0 hE th p0 p1 p2 g h0
theorem mt_M_habit {Γ : GAM} {l : Launch} (th : Nat) (p0 : Int32) (p1 : Int32) (p2 : Int32) (g : GH) (K : Int32 → GH → Prop) (h : Sp_M_habit Γ th p0 p1 p2 g K) : MetA Γ l yX11_habit cX11_habit 4 (some (.int)) 2 51 [.ref th, .int p0, .int p1, .int p2] g (fun r g' => ∃ x, r = some (.int x) ∧ K x g') := by
  obtain ⟨ma, s, hI, hw, hK⟩ := h
  have hkd := hI.1.1
  refine rl_M_habit ?_
  have hno : ¬ ok_habit p0 p1 p2 → K (-1) g := fun hn => by have := hK g FrX.rf; unfold p_habit at this; rw [if_neg hn] at this; exact this
  have hyes : ok_habit p0 p1 p2 → ∀ K', (∀ g2, FrX th [1604, 1605, 1606] [] g g2 → Kd g2 th = 13 → Gi g2 1548 th = s_siz s → TR th g2 (sMt s p0 p1) → K (if p2 = 0 then (sMt s p0 p1).1 else if s_siz s ≤ (sMt s p0 p1).1 then (if p2 = 1 then (sMt s p0 p1).2.1 else (sMt s p0 p1).2.2) else -2) g2 → K' g2) → Sp_M_meet Γ th p0 p1 g K' := fun hn K' h => ⟨ma, s, hI, hw, fun g2 hx2 hT => h g2 hx2 (hI.x hx2 (by decide +kernel)).1.1 (hI.x hx2 (by decide +kernel)).siz hT (by have := hK g2 hx2; unfold p_habit at this; rw [if_pos hn] at this; exact this)⟩
  simp only [B_M_habit_77, B_M_habit_28, B_M_habit_0, Sp_M_in, ifz, hkd, true_and]
  repeat' with_reducible first | apply And.intro | intro _
  all_goals first
    | exact hno (by grind)
    | (refine hyes (by grind) _ ?_
       rintro g2 hx2 hkd2 hz ⟨t1, t2, t3⟩ hk
       simp only [hkd2, hz, t1, t2, t3, true_and]
       refine ⟨fun u => ⟨fun u2 => ⟨fun u3 => ?_, fun u3 => ?_⟩, fun u2 => ?_⟩, fun u => ?_⟩
       · rw [if_neg u, if_pos u2, if_neg u3] at hk; exact hk
       · rw [if_neg u, if_pos u2, if_pos u3] at hk; exact hk
       · rw [if_neg u, if_neg u2] at hk; exact hk
       · rw [if_pos u] at hk; exact hk)
def hrS (s : ST) (a : Tr) (h : Nat) : Tr := if (sMt s (nI h) (-1)).1 < s_siz s then a else if a.1 = -1 then (nI h, (sMt s (nI h) (-1)).2.1, (sMt s (nI h) (-1)).1) else if (sMt s (nI h) (-1)).2.1 * a.2.2 ≤ a.2.1 * (sMt s (nI h) (-1)).1 then a else (nI h, (sMt s (nI h) (-1)).2.1, (sMt s (nI h) (-1)).1)
def p_harshest (s : ST) : Int32 := ((List.range 6).foldl (hrS s) (-1, 0, 1)).1
def Sp_M_harshest (Γ : GAM) (m : Nat) (g : GH) (K : Int32 → GH → Prop) : Prop := ∃ ma s, RefI m ma g s ∧ WF s ∧ ∀ g', FrX m [1604, 1605, 1606] [] g g' → K (p_harshest s) g'
-- the walk of M_harshest
set_option maxRecDepth 100000 in
def B_M_harshest_67 (Γ : GAM) (K9 : Nat → Int32 → Int32 → Int32 → Int32 → GH → Prop) (K : Int32 → GH → Prop) (l0 : Nat) (l1 : Int32) (l2 : Int32) (l3 : Int32) (l4 : Int32) (g : GH) : Prop :=
  K9 l0 l1 l2 l3 (l4 + (1 : Int32)) g
set_option maxHeartbeats 4000000 in
set_option maxRecDepth 100000 in
theorem S_M_harshest_67 {Γ : GAM} {E : EV} {K : Int32 → GH → Prop} (hE : GE Γ E cX11_harshest 5 RX11 (some (.int)) 2 51 (fun r g' => ∃ x, r = some (.int x) ∧ K x g')) {K9 : Nat → Int32 → Int32 → Int32 → Int32 → GH → Prop} (hK9 : ∀ (l0 : Nat) (l1 : Int32) (l2 : Int32) (l3 : Int32) (l4 : Int32) (g : GH), K9 l0 l1 l2 l3 l4 g → JW Γ E 9 [some (.ref l0), some (.int l1), some (.int l2), some (.int l3), some (.int l4)] [] g) (l0 : Nat) (l1 : Int32) (l2 : Int32) (l3 : Int32) (l4 : Int32) (g : GH) (h : B_M_harshest_67 Γ K9 K l0 l1 l2 l3 l4 g) : JW Γ E 67 [some (.ref l0), some (.int l1), some (.int l2), some (.int l3), some (.int l4)] [] g := by
  unfold B_M_harshest_67 at h
  refine j_iinc hE (by decide +kernel : decode cX11_harshest 67 = .ok (.iinc 4 1, 3)) (v := (1 : Int32)) (by decide) rfl (Nat.le_of_ble_eq_true rfl) rfl ?_
  refine j_goto hE (by decide +kernel : decode cX11_harshest 70 = .ok (.goto (-61), 3)) (tgt := 9) (by decide) ?_
  exact hK9 _ _ _ _ _ _ h
set_option maxRecDepth 100000 in
def B_M_harshest_54 (Γ : GAM) (K9 : Nat → Int32 → Int32 → Int32 → Int32 → GH → Prop) (K : Int32 → GH → Prop) (l0 : Nat) (l4 : Int32) (g : GH) : Prop :=
  Kd g l0 = 13 ∧ ∀ x1 : Int32, x1 = (Gi g 1605 l0) → Kd g l0 = 13 ∧ ∀ x2 : Int32, x2 = (Gi g 1604 l0) → B_M_harshest_67 Γ K9 K l0 l4 x1 x2 l4 g
set_option maxHeartbeats 4000000 in
set_option maxRecDepth 100000 in
theorem S_M_harshest_54 {Γ : GAM} {E : EV} {K : Int32 → GH → Prop} (hE : GE Γ E cX11_harshest 5 RX11 (some (.int)) 2 51 (fun r g' => ∃ x, r = some (.int x) ∧ K x g')) {K9 : Nat → Int32 → Int32 → Int32 → Int32 → GH → Prop} (hK9 : ∀ (l0 : Nat) (l1 : Int32) (l2 : Int32) (l3 : Int32) (l4 : Int32) (g : GH), K9 l0 l1 l2 l3 l4 g → JW Γ E 9 [some (.ref l0), some (.int l1), some (.int l2), some (.int l3), some (.int l4)] [] g) (l0 : Nat) (l4 : Int32) (g : GH) (h : B_M_harshest_54 Γ K9 K l0 l4 g) : JW Γ E 54 [some (.ref l0), none, none, none, some (.int l4)] [] g := by
  unfold B_M_harshest_54 at h
  refine j_iload hE (by decide +kernel : decode cX11_harshest 54 = .ok (.iload 4, 2)) rfl ?_
  refine j_istore_n hE (by decide +kernel : decode cX11_harshest 56 = .ok (.istore_n 1, 1)) rfl (Nat.le_of_ble_eq_true rfl) rfl ?_
  refine j_aload_n hE (by decide +kernel : decode cX11_harshest 57 = .ok (.aload_n 0, 1)) rfl rfl ?_
  obtain ⟨hk, h⟩ := h
  refine j_getI hE fg_X11_440 hk (by decide +kernel : decode cX11_harshest 58 = .ok (.getfield 440, 3)) ?_
  obtain ⟨x1, hx⟩ : ∃ z, z = (Gi g 1605 l0) := ⟨_, rfl⟩; replace h := h x1 hx; rw [← hx]
  refine j_istore_n hE (by decide +kernel : decode cX11_harshest 61 = .ok (.istore_n 2, 1)) rfl (Nat.le_of_ble_eq_true rfl) rfl ?_
  refine j_aload_n hE (by decide +kernel : decode cX11_harshest 62 = .ok (.aload_n 0, 1)) rfl rfl ?_
  obtain ⟨hk, h⟩ := h
  refine j_getI hE fg_X11_437 hk (by decide +kernel : decode cX11_harshest 63 = .ok (.getfield 437, 3)) ?_
  obtain ⟨x2, hx⟩ : ∃ z, z = (Gi g 1604 l0) := ⟨_, rfl⟩; replace h := h x2 hx; rw [← hx]
  refine j_istore_n hE (by decide +kernel : decode cX11_harshest 66 = .ok (.istore_n 3, 1)) rfl (Nat.le_of_ble_eq_true rfl) rfl ?_
  exact S_M_harshest_67 hE hK9 _ _ _ _ _ _ h
set_option maxRecDepth 100000 in
def B_M_harshest_9 (Γ : GAM) (K9 : Nat → Int32 → Int32 → Int32 → Int32 → GH → Prop) (K : Int32 → GH → Prop) (l0 : Nat) (l1 : Int32) (l2 : Int32) (l3 : Int32) (l4 : Int32) (g : GH) : Prop :=
  (((6 : Int32) ≤ l4 → K l1 g) ∧ (¬ ((6 : Int32) ≤ l4) → Kd g l0 = 13 ∧ Sp_M_meet Γ l0 l4 (-1 : Int32) g (fun (g1 : GH) => Kd g1 l0 = 13 ∧ Kd g1 l0 = 13 ∧ (((Gi g1 1604 l0) < (Gi g1 1548 l0) → B_M_harshest_67 Γ K9 K l0 l1 l2 l3 l4 g1) ∧ (¬ ((Gi g1 1604 l0) < (Gi g1 1548 l0)) → ((l1 = (-1 : Int32) → B_M_harshest_54 Γ K9 K l0 l4 g1) ∧ (¬ (l1 = (-1 : Int32)) → Kd g1 l0 = 13 ∧ Kd g1 l0 = 13 ∧ ((((Gi g1 1605 l0) * l3) ≤ (l2 * (Gi g1 1604 l0)) → B_M_harshest_67 Γ K9 K l0 l1 l2 l3 l4 g1) ∧ (¬ (((Gi g1 1605 l0) * l3) ≤ (l2 * (Gi g1 1604 l0))) → B_M_harshest_54 Γ K9 K l0 l4 g1)))))))))
set_option maxHeartbeats 4000000 in
set_option maxRecDepth 100000 in
theorem S_M_harshest_9 {Γ : GAM} {E : EV} {K : Int32 → GH → Prop} (hE : GE Γ E cX11_harshest 5 RX11 (some (.int)) 2 51 (fun r g' => ∃ x, r = some (.int x) ∧ K x g')) {K9 : Nat → Int32 → Int32 → Int32 → Int32 → GH → Prop} (hK9 : ∀ (l0 : Nat) (l1 : Int32) (l2 : Int32) (l3 : Int32) (l4 : Int32) (g : GH), K9 l0 l1 l2 l3 l4 g → JW Γ E 9 [some (.ref l0), some (.int l1), some (.int l2), some (.int l3), some (.int l4)] [] g) (l0 : Nat) (l1 : Int32) (l2 : Int32) (l3 : Int32) (l4 : Int32) (g : GH) (h : B_M_harshest_9 Γ K9 K l0 l1 l2 l3 l4 g) : JW Γ E 9 [some (.ref l0), some (.int l1), some (.int l2), some (.int l3), some (.int l4)] [] g := by
  unfold B_M_harshest_9 at h
  refine j_iload hE (by decide +kernel : decode cX11_harshest 9 = .ok (.iload 4, 2)) rfl ?_
  refine j_bipush hE (by decide +kernel : decode cX11_harshest 11 = .ok (.bipush 6, 2)) (v := (6 : Int32)) (by decide) ?_
  refine j_icmp_ge hE (by decide +kernel : decode cX11_harshest 13 = .ok (.if_icmp .ge 60, 3)) (tgt := 73) (by decide) (fun q => ?_) (fun q => ?_)
  · replace h := h.1 q
    refine j_iload_n hE (by decide +kernel : decode cX11_harshest 73 = .ok (.iload_n 1, 1)) rfl rfl ?_
    exact j_iret hE (by decide +kernel : decode cX11_harshest 74 = .ok (.ireturn, 1)) ⟨_, rfl, h⟩
  · replace h := h.2 q
    refine j_aload_n hE (by decide +kernel : decode cX11_harshest 16 = .ok (.aload_n 0, 1)) rfl rfl ?_
    refine j_iload hE (by decide +kernel : decode cX11_harshest 17 = .ok (.iload 4, 2)) rfl ?_
    refine j_iconst hE (by decide +kernel : decode cX11_harshest 19 = .ok (.iconst (-1), 1)) (v := (-1 : Int32)) (by decide) ?_
    obtain ⟨hk, h⟩ := h
    refine j_callV hE rfl cl_X11_446 cf_12 im_X11_meet se_X11_meet ⟨by omega, by omega⟩ (As := [.int l4, .int (-1 : Int32)]) (rest := []) rfl rfl (Nat.le_of_ble_eq_true rfl) hk (by decide +kernel : decode cX11_harshest 20 = .ok (.invokevirtual 446, 3)) (mt_M_meet _ _ _ _ _ h) ?_
    rintro _ g1 ⟨rfl, h⟩
    refine j_aload_n hE (by decide +kernel : decode cX11_harshest 23 = .ok (.aload_n 0, 1)) rfl rfl ?_
    obtain ⟨hk, h⟩ := h
    refine j_getI hE fg_X11_437 hk (by decide +kernel : decode cX11_harshest 24 = .ok (.getfield 437, 3)) ?_
    refine j_aload_n hE (by decide +kernel : decode cX11_harshest 27 = .ok (.aload_n 0, 1)) rfl rfl ?_
    obtain ⟨hk, h⟩ := h
    refine j_getI hE fg_X11_7 hk (by decide +kernel : decode cX11_harshest 28 = .ok (.getfield 7, 3)) ?_
    refine j_icmp_lt hE (by decide +kernel : decode cX11_harshest 31 = .ok (.if_icmp .lt 36, 3)) (tgt := 67) (by decide) (fun q => ?_) (fun q => ?_)
    · replace h := h.1 q
      exact S_M_harshest_67 hE hK9 _ _ _ _ _ _ h
    · replace h := h.2 q
      refine j_iload_n hE (by decide +kernel : decode cX11_harshest 34 = .ok (.iload_n 1, 1)) rfl rfl ?_
      refine j_iconst hE (by decide +kernel : decode cX11_harshest 35 = .ok (.iconst (-1), 1)) (v := (-1 : Int32)) (by decide) ?_
      refine j_icmp_eq hE (by decide +kernel : decode cX11_harshest 36 = .ok (.if_icmp .eq 18, 3)) (tgt := 54) (by decide) (fun q => ?_) (fun q => ?_)
      · replace h := h.1 q
        refine j_weak [some (.ref l0), none, none, none, some (.int l4)] ⟨rfl, ⟨rfl, trivial⟩⟩ ?_
        exact S_M_harshest_54 hE hK9 _ _ _ h
      · replace h := h.2 q
        refine j_aload_n hE (by decide +kernel : decode cX11_harshest 39 = .ok (.aload_n 0, 1)) rfl rfl ?_
        obtain ⟨hk, h⟩ := h
        refine j_getI hE fg_X11_440 hk (by decide +kernel : decode cX11_harshest 40 = .ok (.getfield 440, 3)) ?_
        refine j_iload_n hE (by decide +kernel : decode cX11_harshest 43 = .ok (.iload_n 3, 1)) rfl rfl ?_
        refine j_imul hE (by decide +kernel : decode cX11_harshest 44 = .ok (.imul, 1)) ?_
        refine j_iload_n hE (by decide +kernel : decode cX11_harshest 45 = .ok (.iload_n 2, 1)) rfl rfl ?_
        refine j_aload_n hE (by decide +kernel : decode cX11_harshest 46 = .ok (.aload_n 0, 1)) rfl rfl ?_
        obtain ⟨hk, h⟩ := h
        refine j_getI hE fg_X11_437 hk (by decide +kernel : decode cX11_harshest 47 = .ok (.getfield 437, 3)) ?_
        refine j_imul hE (by decide +kernel : decode cX11_harshest 50 = .ok (.imul, 1)) ?_
        refine j_icmp_le hE (by decide +kernel : decode cX11_harshest 51 = .ok (.if_icmp .le 16, 3)) (tgt := 67) (by decide) (fun q => ?_) (fun q => ?_)
        · replace h := h.1 q
          exact S_M_harshest_67 hE hK9 _ _ _ _ _ _ h
        · replace h := h.2 q
          refine j_weak [some (.ref l0), none, none, none, some (.int l4)] ⟨rfl, ⟨rfl, trivial⟩⟩ ?_
          exact S_M_harshest_54 hE hK9 _ _ _ h
set_option maxRecDepth 100000 in
def B_M_harshest_0 (Γ : GAM) (K9 : Nat → Int32 → Int32 → Int32 → Int32 → GH → Prop) (K : Int32 → GH → Prop) (th : Nat) (g : GH) : Prop :=
  K9 th (-1 : Int32) (0 : Int32) (1 : Int32) (0 : Int32) g
set_option maxHeartbeats 4000000 in
set_option maxRecDepth 100000 in
theorem S_M_harshest_0 {Γ : GAM} {E : EV} {K : Int32 → GH → Prop} (hE : GE Γ E cX11_harshest 5 RX11 (some (.int)) 2 51 (fun r g' => ∃ x, r = some (.int x) ∧ K x g')) {K9 : Nat → Int32 → Int32 → Int32 → Int32 → GH → Prop} (hK9 : ∀ (l0 : Nat) (l1 : Int32) (l2 : Int32) (l3 : Int32) (l4 : Int32) (g : GH), K9 l0 l1 l2 l3 l4 g → JW Γ E 9 [some (.ref l0), some (.int l1), some (.int l2), some (.int l3), some (.int l4)] [] g) (th : Nat) (g : GH) (h : B_M_harshest_0 Γ K9 K th g) : JW Γ E 0 [some (.ref th), none, none, none, none] [] g := by
  unfold B_M_harshest_0 at h
  refine j_iconst hE (by decide +kernel : decode cX11_harshest 0 = .ok (.iconst (-1), 1)) (v := (-1 : Int32)) (by decide) ?_
  refine j_istore_n hE (by decide +kernel : decode cX11_harshest 1 = .ok (.istore_n 1, 1)) rfl (Nat.le_of_ble_eq_true rfl) rfl ?_
  refine j_iconst hE (by decide +kernel : decode cX11_harshest 2 = .ok (.iconst 0, 1)) (v := (0 : Int32)) (by decide) ?_
  refine j_istore_n hE (by decide +kernel : decode cX11_harshest 3 = .ok (.istore_n 2, 1)) rfl (Nat.le_of_ble_eq_true rfl) rfl ?_
  refine j_iconst hE (by decide +kernel : decode cX11_harshest 4 = .ok (.iconst 1, 1)) (v := (1 : Int32)) (by decide) ?_
  refine j_istore_n hE (by decide +kernel : decode cX11_harshest 5 = .ok (.istore_n 3, 1)) rfl (Nat.le_of_ble_eq_true rfl) rfl ?_
  refine j_iconst hE (by decide +kernel : decode cX11_harshest 6 = .ok (.iconst 0, 1)) (v := (0 : Int32)) (by decide) ?_
  refine j_istore hE (by decide +kernel : decode cX11_harshest 7 = .ok (.istore 4, 2)) (Nat.le_of_ble_eq_true rfl) rfl ?_
  exact hK9 _ _ _ _ _ _ h
set_option maxHeartbeats 4000000 in
set_option maxRecDepth 100000 in
theorem rl_M_harshest {Γ : GAM} {l : Launch} {th : Nat} {g : GH} {K : Int32 → GH → Prop} (I9 : Nat → Nat → Int32 → Int32 → Int32 → Int32 → GH → Prop) (hh9 : ∀ n (l0 : Nat) (l1 : Int32) (l2 : Int32) (l3 : Int32) (l4 : Int32) (g : GH), I9 n l0 l1 l2 l3 l4 g → B_M_harshest_9 Γ (fun l0 l1 l2 l3 l4 g => ∃ m, m < n ∧ I9 m l0 l1 l2 l3 l4 g) K l0 l1 l2 l3 l4 g) (h0 : B_M_harshest_0 Γ (fun l0 l1 l2 l3 l4 g => ∃ m, I9 m l0 l1 l2 l3 l4 g) K th g) : MetA Γ l yX11_harshest cX11_harshest 5 (some (.int)) 2 51 [.ref th] g (fun r g' => ∃ x, r = some (.int x) ∧ K x g') := by
  refine MetA.introL (Lx := [some (.ref th), none, none, none, none]) (by decide) (Nat.le_of_ble_eq_true rfl) rfl rfl ?_
  intro E hEl hE hnm
  have hall : ∀ n, (∀ (l0 : Nat) (l1 : Int32) (l2 : Int32) (l3 : Int32) (l4 : Int32) (g : GH), I9 n l0 l1 l2 l3 l4 g → JW Γ E 9 [some (.ref l0), some (.int l1), some (.int l2), some (.int l3), some (.int l4)] [] g) := by
    intro n
    induction n using Nat.strongRecOn with
    | ind n ih =>
      exact fun l0 l1 l2 l3 l4 g hi => S_M_harshest_9 hE (fun l0 l1 l2 l3 l4 g hm => by obtain ⟨m, hm, h⟩ := hm; exact (ih m hm) l0 l1 l2 l3 l4 g h) l0 l1 l2 l3 l4 g (hh9 n l0 l1 l2 l3 l4 g hi)
  exact S_M_harshest_0 hE (fun l0 l1 l2 l3 l4 g hm => by obtain ⟨m, h⟩ := hm; exact (hall m) l0 l1 l2 l3 l4 g h) th g h0
theorem mt_M_harshest {Γ : GAM} {l : Launch} (th : Nat) (g : GH) (K : Int32 → GH → Prop) (h : Sp_M_harshest Γ th g K) : MetA Γ l yX11_harshest cX11_harshest 5 (some (.int)) 2 51 [.ref th] g (fun r g' => ∃ x, r = some (.int x) ∧ K x g') := by
  obtain ⟨ma, s, hI, hw, hK⟩ := h
  refine rl_M_harshest (fun n l0 l1 l2 l3 l4 g' => th = l0 ∧ ∃ j, j ≤ 6 ∧ n = 6 - j ∧ l4 = nI j ∧ (l1, l2, l3) = ((List.range 6).take j).foldl (hrS s) (-1, 0, 1) ∧ FrX th [1604, 1605, 1606] [] g g') ?_ ?_
  · rintro n l0 l1 l2 l3 l4 g' ⟨rfl, j, hj, rfl, rfl, hf, hfx⟩
    have hI' := hI.x hfx (by decide +kernel)
    have hkd := hI'.1.1
    have h6 : ((6 : Int32) ≤ nI j) ↔ 6 ≤ j := nj_le (a := 6) (by omega) (by omega)
    suffices H : ∀ K9 : Nat → Int32 → Int32 → Int32 → Int32 → GH → Prop, (∀ a b c g2, j < 6 → (a, b, c) = hrS s (l1, l2, l3) j → FrX th [1604, 1605, 1606] [] g g2 → K9 th a b c (nI (j + 1)) g2) → B_M_harshest_9 Γ K9 K th l1 l2 l3 (nI j) g' from
      H _ (fun a b c g2 hj6 h1 h2 => ⟨6 - (j + 1), by omega, rfl, j + 1, by omega, rfl, rfl, by rw [fold_take _ _ _ (range_get hj6), ← hf]; exact h1, h2⟩)
    intro K9 hnext
    unfold B_M_harshest_9
    rw [h6]
    refine ⟨fun z => ?_, fun z => ⟨hkd, ma, s, hI', hw, fun g2 hx2 hT => ?_⟩⟩
    · have hj6 : j = 6 := by omega
      subst hj6
      have := hK g' hfx
      unfold p_harshest at this
      rw [show (List.range 6) = (List.range 6).take 6 from rfl, ← hf] at this
      exact this
    · have hI2 := hI'.x hx2 (by decide +kernel)
      obtain ⟨t1, t2, t3⟩ := hT
      have hn : ∀ a b c, (a, b, c) = hrS s (l1, l2, l3) j → K9 th a b c (nI (j + 1)) g2 := fun a b c h => hnext a b c g2 (by omega) h (hfx.tr hx2)
      unfold hrS at hn
      simp only [B_M_harshest_67, B_M_harshest_54, hI2.1.1, hI2.siz, t1, t2, t3, forall_eq, true_and, nj_s]
      refine ⟨fun u => hn _ _ _ (by rw [if_pos u]), fun u => ⟨fun u2 => hn _ _ _ (by rw [if_neg u, if_pos u2]), fun u2 => ⟨fun u3 => hn _ _ _ (by rw [if_neg u, if_neg u2, if_pos u3]), fun u3 => hn _ _ _ (by rw [if_neg u, if_neg u2, if_neg u3])⟩⟩⟩
  · unfold B_M_harshest_0
    exact ⟨6, rfl, 0, by omega, rfl, nj_0, rfl, FrX.rf⟩
