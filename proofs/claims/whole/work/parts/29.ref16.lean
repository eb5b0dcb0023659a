/-! the reference: doubles, many -/
def sGd (s : ST) (v q : Int32) (k : Nat) : Int32 := ((sRow s v q).take k).foldl (fun a e => a + if (sJ s v q e).1 = 2 then 1 else 0) 0
def sDb (s : ST) (q : Int32) (k : Nat) : Int32 := ((List.range (s_vot s).length).take k).foldl (fun a v => a + if sGd s (nI v) q (sRow s (nI v) q).length ≤ 1 then 0 else 1) 0
def p_doubles (s : ST) (p0 : Int32) : Int32 := if 0 ≤ p0 ∧ p0 ≤ s_now s then sDb s p0 (s_vot s).length else -1
theorem range_get {n k : Nat} (h : k < n) : (List.range n)[k]? = some k := by rw [List.getElem?_range h]
def Sp_M_doubles (Γ : GAM) (m : Nat) (p0 : Int32) (g : GH) (K : Int32 → GH → Prop) : Prop := ∃ ma s, RefI m ma g s ∧ WF s ∧ ∀ g', FrX m [1569, 1570, 1595, 1602] [1594, 1596, 1597, 1598, 1599, 1600, 1601] g g' → K (p_doubles s p0) g'
-- the walk of M_doubles
set_option maxRecDepth 100000 in
def B_M_doubles_87 (Γ : GAM) (K14 : Nat → Int32 → Int32 → Int32 → GH → Prop) (K34 : Nat → Int32 → Int32 → Int32 → Int32 → Int32 → GH → Prop) (K : Int32 → GH → Prop) (l0 : Nat) (l1 : Int32) (l3 : Int32) (s0 : Int32) (s1 : Int32) (g : GH) : Prop :=
  ∀ x1 : Int32, x1 = (s1 + s0) → K14 l0 l1 x1 (l3 + (1 : Int32)) g
set_option maxHeartbeats 4000000 in
set_option maxRecDepth 100000 in
theorem S_M_doubles_87 {Γ : GAM} {E : EV} {K : Int32 → GH → Prop} (hE : GE Γ E cX11_doubles 6 RX11 (some (.int)) 8 203 (fun r g' => ∃ x, r = some (.int x) ∧ K x g')) {K14 : Nat → Int32 → Int32 → Int32 → GH → Prop} {K34 : Nat → Int32 → Int32 → Int32 → Int32 → Int32 → GH → Prop} (hK14 : ∀ (l0 : Nat) (l1 : Int32) (l2 : Int32) (l3 : Int32) (g : GH), K14 l0 l1 l2 l3 g → JW Γ E 14 [some (.ref l0), some (.int l1), some (.int l2), some (.int l3), none, none] [] g) (hK34 : ∀ (l0 : Nat) (l1 : Int32) (l2 : Int32) (l3 : Int32) (l4 : Int32) (l5 : Int32) (g : GH), K34 l0 l1 l2 l3 l4 l5 g → JW Γ E 34 [some (.ref l0), some (.int l1), some (.int l2), some (.int l3), some (.int l4), some (.int l5)] [] g) (l0 : Nat) (l1 : Int32) (l3 : Int32) (s0 : Int32) (s1 : Int32) (g : GH) (h : B_M_doubles_87 Γ K14 K34 K l0 l1 l3 s0 s1 g) : JW Γ E 87 [some (.ref l0), some (.int l1), none, some (.int l3), none, none] [.int s0, .int s1] g := by
  unfold B_M_doubles_87 at h
  refine j_iadd hE (by decide +kernel : decode cX11_doubles 87 = .ok (.iadd, 1)) ?_
  obtain ⟨x1, hx⟩ : ∃ z, z = (s1 + s0) := ⟨_, rfl⟩; replace h := h x1 hx; rw [← hx]
  refine j_istore_n hE (by decide +kernel : decode cX11_doubles 88 = .ok (.istore_n 2, 1)) rfl (Nat.le_of_ble_eq_true rfl) rfl ?_
  refine j_iinc hE (by decide +kernel : decode cX11_doubles 89 = .ok (.iinc 3 1, 3)) (v := (1 : Int32)) (by decide) rfl (Nat.le_of_ble_eq_true rfl) rfl ?_
  refine j_goto hE (by decide +kernel : decode cX11_doubles 92 = .ok (.goto (-78), 3)) (tgt := 14) (by decide) ?_
  exact hK14 _ _ _ _ _ h
set_option maxRecDepth 100000 in
def B_M_doubles_66 (Γ : GAM) (K14 : Nat → Int32 → Int32 → Int32 → GH → Prop) (K34 : Nat → Int32 → Int32 → Int32 → Int32 → Int32 → GH → Prop) (K : Int32 → GH → Prop) (l0 : Nat) (l1 : Int32) (l2 : Int32) (l3 : Int32) (l5 : Int32) (s0 : Int32) (s1 : Int32) (g : GH) : Prop :=
  ∀ x1 : Int32, x1 = (s1 + s0) → K34 l0 l1 l2 l3 x1 (l5 + (1 : Int32)) g
set_option maxHeartbeats 4000000 in
set_option maxRecDepth 100000 in
theorem S_M_doubles_66 {Γ : GAM} {E : EV} {K : Int32 → GH → Prop} (hE : GE Γ E cX11_doubles 6 RX11 (some (.int)) 8 203 (fun r g' => ∃ x, r = some (.int x) ∧ K x g')) {K14 : Nat → Int32 → Int32 → Int32 → GH → Prop} {K34 : Nat → Int32 → Int32 → Int32 → Int32 → Int32 → GH → Prop} (hK14 : ∀ (l0 : Nat) (l1 : Int32) (l2 : Int32) (l3 : Int32) (g : GH), K14 l0 l1 l2 l3 g → JW Γ E 14 [some (.ref l0), some (.int l1), some (.int l2), some (.int l3), none, none] [] g) (hK34 : ∀ (l0 : Nat) (l1 : Int32) (l2 : Int32) (l3 : Int32) (l4 : Int32) (l5 : Int32) (g : GH), K34 l0 l1 l2 l3 l4 l5 g → JW Γ E 34 [some (.ref l0), some (.int l1), some (.int l2), some (.int l3), some (.int l4), some (.int l5)] [] g) (l0 : Nat) (l1 : Int32) (l2 : Int32) (l3 : Int32) (l5 : Int32) (s0 : Int32) (s1 : Int32) (g : GH) (h : B_M_doubles_66 Γ K14 K34 K l0 l1 l2 l3 l5 s0 s1 g) : JW Γ E 66 [some (.ref l0), some (.int l1), some (.int l2), some (.int l3), none, some (.int l5)] [.int s0, .int s1] g := by
  unfold B_M_doubles_66 at h
  refine j_iadd hE (by decide +kernel : decode cX11_doubles 66 = .ok (.iadd, 1)) ?_
  obtain ⟨x1, hx⟩ : ∃ z, z = (s1 + s0) := ⟨_, rfl⟩; replace h := h x1 hx; rw [← hx]
  refine j_istore hE (by decide +kernel : decode cX11_doubles 67 = .ok (.istore 4, 2)) (Nat.le_of_ble_eq_true rfl) rfl ?_
  refine j_iinc hE (by decide +kernel : decode cX11_doubles 69 = .ok (.iinc 5 1, 3)) (v := (1 : Int32)) (by decide) rfl (Nat.le_of_ble_eq_true rfl) rfl ?_
  refine j_goto hE (by decide +kernel : decode cX11_doubles 72 = .ok (.goto (-38), 3)) (tgt := 34) (by decide) ?_
  exact hK34 _ _ _ _ _ _ _ h
set_option maxRecDepth 100000 in
def B_M_doubles_34 (Γ : GAM) (K14 : Nat → Int32 → Int32 → Int32 → GH → Prop) (K34 : Nat → Int32 → Int32 → Int32 → Int32 → Int32 → GH → Prop) (K : Int32 → GH → Prop) (l0 : Nat) (l1 : Int32) (l2 : Int32) (l3 : Int32) (l4 : Int32) (l5 : Int32) (g : GH) : Prop :=
  Kd g l0 = 13 ∧ (((Gi g 1602 l0) ≤ l5 → ((l4 ≤ (1 : Int32) → B_M_doubles_87 Γ K14 K34 K l0 l1 l3 (0 : Int32) l2 g) ∧ (¬ (l4 ≤ (1 : Int32)) → B_M_doubles_87 Γ K14 K34 K l0 l1 l3 (1 : Int32) l2 g))) ∧ (¬ ((Gi g 1602 l0) ≤ l5) → Kd g l0 = 13 ∧ ∃ a1 : Nat, Gr g 1596 l0 = some a1 ∧ Kd g l0 = 13 ∧ ∃ a2 : Nat, Gr g 1601 l0 = some a2 ∧ Kd g a2 = 20 ∧ inB l5 (Ln g a2) ∧ Kd g a1 = 20 ∧ inB (Ia g (Co g a2) (Ow g a2) l5.toNatClampNeg) (Ln g a1) ∧ ((¬ ((Ia g (Co g a1) (Ow g a1) (Ia g (Co g a2) (Ow g a2) l5.toNatClampNeg).toNatClampNeg) = (2 : Int32)) → B_M_doubles_66 Γ K14 K34 K l0 l1 l2 l3 l5 (0 : Int32) l4 g) ∧ ((Ia g (Co g a1) (Ow g a1) (Ia g (Co g a2) (Ow g a2) l5.toNatClampNeg).toNatClampNeg) = (2 : Int32) → B_M_doubles_66 Γ K14 K34 K l0 l1 l2 l3 l5 (1 : Int32) l4 g))))
set_option maxHeartbeats 4000000 in
set_option maxRecDepth 100000 in
theorem S_M_doubles_34 {Γ : GAM} {E : EV} {K : Int32 → GH → Prop} (hE : GE Γ E cX11_doubles 6 RX11 (some (.int)) 8 203 (fun r g' => ∃ x, r = some (.int x) ∧ K x g')) {K14 : Nat → Int32 → Int32 → Int32 → GH → Prop} {K34 : Nat → Int32 → Int32 → Int32 → Int32 → Int32 → GH → Prop} (hK14 : ∀ (l0 : Nat) (l1 : Int32) (l2 : Int32) (l3 : Int32) (g : GH), K14 l0 l1 l2 l3 g → JW Γ E 14 [some (.ref l0), some (.int l1), some (.int l2), some (.int l3), none, none] [] g) (hK34 : ∀ (l0 : Nat) (l1 : Int32) (l2 : Int32) (l3 : Int32) (l4 : Int32) (l5 : Int32) (g : GH), K34 l0 l1 l2 l3 l4 l5 g → JW Γ E 34 [some (.ref l0), some (.int l1), some (.int l2), some (.int l3), some (.int l4), some (.int l5)] [] g) (l0 : Nat) (l1 : Int32) (l2 : Int32) (l3 : Int32) (l4 : Int32) (l5 : Int32) (g : GH) (h : B_M_doubles_34 Γ K14 K34 K l0 l1 l2 l3 l4 l5 g) : JW Γ E 34 [some (.ref l0), some (.int l1), some (.int l2), some (.int l3), some (.int l4), some (.int l5)] [] g := by
  unfold B_M_doubles_34 at h
  refine j_iload hE (by decide +kernel : decode cX11_doubles 34 = .ok (.iload 5, 2)) rfl ?_
  refine j_aload_n hE (by decide +kernel : decode cX11_doubles 36 = .ok (.aload_n 0, 1)) rfl rfl ?_
  obtain ⟨hk, h⟩ := h
  refine j_getI hE fg_X11_412 hk (by decide +kernel : decode cX11_doubles 37 = .ok (.getfield 412, 3)) ?_
  refine j_icmp_ge hE (by decide +kernel : decode cX11_doubles 40 = .ok (.if_icmp .ge 35, 3)) (tgt := 75) (by decide) (fun q => ?_) (fun q => ?_)
  · replace h := h.1 q
    refine j_iload_n hE (by decide +kernel : decode cX11_doubles 75 = .ok (.iload_n 2, 1)) rfl rfl ?_
    refine j_iload hE (by decide +kernel : decode cX11_doubles 76 = .ok (.iload 4, 2)) rfl ?_
    refine j_iconst hE (by decide +kernel : decode cX11_doubles 78 = .ok (.iconst 1, 1)) (v := (1 : Int32)) (by decide) ?_
    refine j_icmp_le hE (by decide +kernel : decode cX11_doubles 79 = .ok (.if_icmp .le 7, 3)) (tgt := 86) (by decide) (fun q => ?_) (fun q => ?_)
    · replace h := h.1 q
      refine j_iconst hE (by decide +kernel : decode cX11_doubles 86 = .ok (.iconst 0, 1)) (v := (0 : Int32)) (by decide) ?_
      refine j_weak [some (.ref l0), some (.int l1), none, some (.int l3), none, none] ⟨rfl, ⟨rfl, ⟨rfl, trivial⟩⟩⟩ ?_
      exact S_M_doubles_87 hE hK14 hK34 _ _ _ _ _ _ h
    · replace h := h.2 q
      refine j_iconst hE (by decide +kernel : decode cX11_doubles 82 = .ok (.iconst 1, 1)) (v := (1 : Int32)) (by decide) ?_
      refine j_goto hE (by decide +kernel : decode cX11_doubles 83 = .ok (.goto 4, 3)) (tgt := 87) (by decide) ?_
      refine j_weak [some (.ref l0), some (.int l1), none, some (.int l3), none, none] ⟨rfl, ⟨rfl, ⟨rfl, trivial⟩⟩⟩ ?_
      exact S_M_doubles_87 hE hK14 hK34 _ _ _ _ _ _ h
  · replace h := h.2 q
    refine j_iload hE (by decide +kernel : decode cX11_doubles 43 = .ok (.iload 4, 2)) rfl ?_
    refine j_aload_n hE (by decide +kernel : decode cX11_doubles 45 = .ok (.aload_n 0, 1)) rfl rfl ?_
    obtain ⟨hk, h⟩ := h
    obtain ⟨a1, ha, h⟩ := h
    refine j_getRn hE fg_X11_129 hk ha (by decide +kernel : decode cX11_doubles 46 = .ok (.getfield 129, 3)) ?_
    refine j_aload_n hE (by decide +kernel : decode cX11_doubles 49 = .ok (.aload_n 0, 1)) rfl rfl ?_
    obtain ⟨hk, h⟩ := h
    obtain ⟨a2, ha, h⟩ := h
    refine j_getRn hE fg_X11_144 hk ha (by decide +kernel : decode cX11_doubles 50 = .ok (.getfield 144, 3)) ?_
    refine j_iload hE (by decide +kernel : decode cX11_doubles 53 = .ok (.iload 5, 2)) rfl ?_
    obtain ⟨hk, hb, h⟩ := h
    refine j_iald hE hk hb (by decide +kernel : decode cX11_doubles 55 = .ok (.iaload, 1)) ?_
    obtain ⟨hk, hb, h⟩ := h
    refine j_iald hE hk hb (by decide +kernel : decode cX11_doubles 56 = .ok (.iaload, 1)) ?_
    refine j_iconst hE (by decide +kernel : decode cX11_doubles 57 = .ok (.iconst 2, 1)) (v := (2 : Int32)) (by decide) ?_
    refine j_icmp_ne hE (by decide +kernel : decode cX11_doubles 58 = .ok (.if_icmp .ne 7, 3)) (tgt := 65) (by decide) (fun q => ?_) (fun q => ?_)
    · replace h := h.1 q
      refine j_iconst hE (by decide +kernel : decode cX11_doubles 65 = .ok (.iconst 0, 1)) (v := (0 : Int32)) (by decide) ?_
      refine j_weak [some (.ref l0), some (.int l1), some (.int l2), some (.int l3), none, some (.int l5)] ⟨rfl, ⟨rfl, ⟨rfl, ⟨rfl, ⟨rfl, trivial⟩⟩⟩⟩⟩ ?_
      exact S_M_doubles_66 hE hK14 hK34 _ _ _ _ _ _ _ _ h
    · replace h := h.2 q
      refine j_iconst hE (by decide +kernel : decode cX11_doubles 61 = .ok (.iconst 1, 1)) (v := (1 : Int32)) (by decide) ?_
      refine j_goto hE (by decide +kernel : decode cX11_doubles 62 = .ok (.goto 4, 3)) (tgt := 66) (by decide) ?_
      refine j_weak [some (.ref l0), some (.int l1), some (.int l2), some (.int l3), none, some (.int l5)] ⟨rfl, ⟨rfl, ⟨rfl, ⟨rfl, ⟨rfl, trivial⟩⟩⟩⟩⟩ ?_
      exact S_M_doubles_66 hE hK14 hK34 _ _ _ _ _ _ _ _ h
set_option maxRecDepth 100000 in
def B_M_doubles_14 (Γ : GAM) (K14 : Nat → Int32 → Int32 → Int32 → GH → Prop) (K34 : Nat → Int32 → Int32 → Int32 → Int32 → Int32 → GH → Prop) (K : Int32 → GH → Prop) (l0 : Nat) (l1 : Int32) (l2 : Int32) (l3 : Int32) (g : GH) : Prop :=
  Kd g l0 = 13 ∧ (((Gi g 1537 l0) ≤ l3 → K l2 g) ∧ (¬ ((Gi g 1537 l0) ≤ l3) → Kd g l0 = 13 ∧ Sp_M_judge Γ l0 l3 l1 g (fun (g1 : GH) => K34 l0 l1 l2 l3 (0 : Int32) (0 : Int32) g1)))
set_option maxHeartbeats 4000000 in
set_option maxRecDepth 100000 in
theorem S_M_doubles_14 {Γ : GAM} {E : EV} {K : Int32 → GH → Prop} (hE : GE Γ E cX11_doubles 6 RX11 (some (.int)) 8 203 (fun r g' => ∃ x, r = some (.int x) ∧ K x g')) {K14 : Nat → Int32 → Int32 → Int32 → GH → Prop} {K34 : Nat → Int32 → Int32 → Int32 → Int32 → Int32 → GH → Prop} (hK14 : ∀ (l0 : Nat) (l1 : Int32) (l2 : Int32) (l3 : Int32) (g : GH), K14 l0 l1 l2 l3 g → JW Γ E 14 [some (.ref l0), some (.int l1), some (.int l2), some (.int l3), none, none] [] g) (hK34 : ∀ (l0 : Nat) (l1 : Int32) (l2 : Int32) (l3 : Int32) (l4 : Int32) (l5 : Int32) (g : GH), K34 l0 l1 l2 l3 l4 l5 g → JW Γ E 34 [some (.ref l0), some (.int l1), some (.int l2), some (.int l3), some (.int l4), some (.int l5)] [] g) (l0 : Nat) (l1 : Int32) (l2 : Int32) (l3 : Int32) (g : GH) (h : B_M_doubles_14 Γ K14 K34 K l0 l1 l2 l3 g) : JW Γ E 14 [some (.ref l0), some (.int l1), some (.int l2), some (.int l3), none, none] [] g := by
  unfold B_M_doubles_14 at h
  refine j_iload_n hE (by decide +kernel : decode cX11_doubles 14 = .ok (.iload_n 3, 1)) rfl rfl ?_
  refine j_aload_n hE (by decide +kernel : decode cX11_doubles 15 = .ok (.aload_n 0, 1)) rfl rfl ?_
  obtain ⟨hk, h⟩ := h
  refine j_getI hE fg_X11_220 hk (by decide +kernel : decode cX11_doubles 16 = .ok (.getfield 220, 3)) ?_
  refine j_icmp_ge hE (by decide +kernel : decode cX11_doubles 19 = .ok (.if_icmp .ge 76, 3)) (tgt := 95) (by decide) (fun q => ?_) (fun q => ?_)
  · replace h := h.1 q
    refine j_iload_n hE (by decide +kernel : decode cX11_doubles 95 = .ok (.iload_n 2, 1)) rfl rfl ?_
    exact j_iret hE (by decide +kernel : decode cX11_doubles 96 = .ok (.ireturn, 1)) ⟨_, rfl, h⟩
  · replace h := h.2 q
    refine j_aload_n hE (by decide +kernel : decode cX11_doubles 22 = .ok (.aload_n 0, 1)) rfl rfl ?_
    refine j_iload_n hE (by decide +kernel : decode cX11_doubles 23 = .ok (.iload_n 3, 1)) rfl rfl ?_
    refine j_iload_n hE (by decide +kernel : decode cX11_doubles 24 = .ok (.iload_n 1, 1)) rfl rfl ?_
    obtain ⟨hk, h⟩ := h
    refine j_callV hE rfl cl_X11_431 cf_12 im_X11_judge se_X11_judge ⟨by omega, by omega⟩ (As := [.int l3, .int l1]) (rest := []) rfl rfl (Nat.le_of_ble_eq_true rfl) hk (by decide +kernel : decode cX11_doubles 25 = .ok (.invokevirtual 431, 3)) (mt_M_judge _ _ _ _ _ h) ?_
    rintro _ g1 ⟨rfl, h⟩
    refine j_iconst hE (by decide +kernel : decode cX11_doubles 28 = .ok (.iconst 0, 1)) (v := (0 : Int32)) (by decide) ?_
    refine j_istore hE (by decide +kernel : decode cX11_doubles 29 = .ok (.istore 4, 2)) (Nat.le_of_ble_eq_true rfl) rfl ?_
    refine j_iconst hE (by decide +kernel : decode cX11_doubles 31 = .ok (.iconst 0, 1)) (v := (0 : Int32)) (by decide) ?_
    refine j_istore hE (by decide +kernel : decode cX11_doubles 32 = .ok (.istore 5, 2)) (Nat.le_of_ble_eq_true rfl) rfl ?_
    exact hK34 _ _ _ _ _ _ _ h
set_option maxRecDepth 100000 in
def B_M_doubles_0 (Γ : GAM) (K14 : Nat → Int32 → Int32 → Int32 → GH → Prop) (K34 : Nat → Int32 → Int32 → Int32 → Int32 → Int32 → GH → Prop) (K : Int32 → GH → Prop) (th : Nat) (p0 : Int32) (g : GH) : Prop :=
  Kd g th = 13 ∧ Sp_M_isKnowing Γ th p0 g (fun (x2 : Int32) (g1 : GH) => ((¬ (x2 = 0) → K14 th p0 (0 : Int32) (0 : Int32) g1) ∧ (x2 = 0 → K (-1 : Int32) g1)))
set_option maxHeartbeats 4000000 in
set_option maxRecDepth 100000 in
theorem S_M_doubles_0 {Γ : GAM} {E : EV} {K : Int32 → GH → Prop} (hE : GE Γ E cX11_doubles 6 RX11 (some (.int)) 8 203 (fun r g' => ∃ x, r = some (.int x) ∧ K x g')) {K14 : Nat → Int32 → Int32 → Int32 → GH → Prop} {K34 : Nat → Int32 → Int32 → Int32 → Int32 → Int32 → GH → Prop} (hK14 : ∀ (l0 : Nat) (l1 : Int32) (l2 : Int32) (l3 : Int32) (g : GH), K14 l0 l1 l2 l3 g → JW Γ E 14 [some (.ref l0), some (.int l1), some (.int l2), some (.int l3), none, none] [] g) (hK34 : ∀ (l0 : Nat) (l1 : Int32) (l2 : Int32) (l3 : Int32) (l4 : Int32) (l5 : Int32) (g : GH), K34 l0 l1 l2 l3 l4 l5 g → JW Γ E 34 [some (.ref l0), some (.int l1), some (.int l2), some (.int l3), some (.int l4), some (.int l5)] [] g) (th : Nat) (p0 : Int32) (g : GH) (h : B_M_doubles_0 Γ K14 K34 K th p0 g) : JW Γ E 0 [some (.ref th), some (.int p0), none, none, none, none] [] g := by
  unfold B_M_doubles_0 at h
  refine j_aload_n hE (by decide +kernel : decode cX11_doubles 0 = .ok (.aload_n 0, 1)) rfl rfl ?_
  refine j_iload_n hE (by decide +kernel : decode cX11_doubles 1 = .ok (.iload_n 1, 1)) rfl rfl ?_
  obtain ⟨hk, h⟩ := h
  refine j_callV hE rfl cl_X11_234 cf_12 im_X11_isKnowing se_X11_isKnowing ⟨by omega, by omega⟩ (As := [.int p0]) (rest := []) rfl rfl (Nat.le_of_ble_eq_true rfl) hk (by decide +kernel : decode cX11_doubles 2 = .ok (.invokevirtual 234, 3)) (mt_M_isKnowing _ _ _ _ h) ?_
  rintro _ g1 ⟨x2, rfl, h⟩
  refine j_if_ne hE (by decide +kernel : decode cX11_doubles 5 = .ok (.ifCond .ne 5, 3)) (tgt := 10) (by decide) (fun q => ?_) (fun q => ?_)
  · replace h := h.1 q
    refine j_iconst hE (by decide +kernel : decode cX11_doubles 10 = .ok (.iconst 0, 1)) (v := (0 : Int32)) (by decide) ?_
    refine j_istore_n hE (by decide +kernel : decode cX11_doubles 11 = .ok (.istore_n 2, 1)) rfl (Nat.le_of_ble_eq_true rfl) rfl ?_
    refine j_iconst hE (by decide +kernel : decode cX11_doubles 12 = .ok (.iconst 0, 1)) (v := (0 : Int32)) (by decide) ?_
    refine j_istore_n hE (by decide +kernel : decode cX11_doubles 13 = .ok (.istore_n 3, 1)) rfl (Nat.le_of_ble_eq_true rfl) rfl ?_
    exact hK14 _ _ _ _ _ h
  · replace h := h.2 q
    refine j_iconst hE (by decide +kernel : decode cX11_doubles 8 = .ok (.iconst (-1), 1)) (v := (-1 : Int32)) (by decide) ?_
    exact j_iret hE (by decide +kernel : decode cX11_doubles 9 = .ok (.ireturn, 1)) ⟨_, rfl, h⟩
set_option maxHeartbeats 4000000 in
set_option maxRecDepth 100000 in
theorem rl_M_doubles {Γ : GAM} {l : Launch} {th : Nat} {p0 : Int32} {g : GH} {K : Int32 → GH → Prop} (I14 : Nat → Nat → Int32 → Int32 → Int32 → GH → Prop) (I34 : Nat → Nat → Int32 → Int32 → Int32 → Int32 → Int32 → GH → Prop) (hh14 : ∀ n (l0 : Nat) (l1 : Int32) (l2 : Int32) (l3 : Int32) (g : GH), I14 n l0 l1 l2 l3 g → B_M_doubles_14 Γ (fun l0 l1 l2 l3 g => ∃ m, m < n ∧ I14 m l0 l1 l2 l3 g) (fun l0 l1 l2 l3 l4 l5 g => ∃ m, m < n ∧ I34 m l0 l1 l2 l3 l4 l5 g) K l0 l1 l2 l3 g) (hh34 : ∀ n (l0 : Nat) (l1 : Int32) (l2 : Int32) (l3 : Int32) (l4 : Int32) (l5 : Int32) (g : GH), I34 n l0 l1 l2 l3 l4 l5 g → B_M_doubles_34 Γ (fun l0 l1 l2 l3 g => ∃ m, m < n ∧ I14 m l0 l1 l2 l3 g) (fun l0 l1 l2 l3 l4 l5 g => ∃ m, m < n ∧ I34 m l0 l1 l2 l3 l4 l5 g) K l0 l1 l2 l3 l4 l5 g) (h0 : B_M_doubles_0 Γ (fun l0 l1 l2 l3 g => ∃ m, I14 m l0 l1 l2 l3 g) (fun l0 l1 l2 l3 l4 l5 g => ∃ m, I34 m l0 l1 l2 l3 l4 l5 g) K th p0 g) : MetA Γ l yX11_doubles cX11_doubles 6 (some (.int)) 8 203 [.ref th, .int p0] g (fun r g' => ∃ x, r = some (.int x) ∧ K x g') := by
  refine MetA.introL (Lx := [some (.ref th), some (.int p0), none, none, none, none]) (by decide) (Nat.le_of_ble_eq_true rfl) rfl rfl ?_
  intro E hEl hE hnm
  have hall : ∀ n, (∀ (l0 : Nat) (l1 : Int32) (l2 : Int32) (l3 : Int32) (g : GH), I14 n l0 l1 l2 l3 g → JW Γ E 14 [some (.ref l0), some (.int l1), some (.int l2), some (.int l3), none, none] [] g) ∧ (∀ (l0 : Nat) (l1 : Int32) (l2 : Int32) (l3 : Int32) (l4 : Int32) (l5 : Int32) (g : GH), I34 n l0 l1 l2 l3 l4 l5 g → JW Γ E 34 [some (.ref l0), some (.int l1), some (.int l2), some (.int l3), some (.int l4), some (.int l5)] [] g) := by
    intro n
    induction n using Nat.strongRecOn with
    | ind n ih =>
      exact ⟨fun l0 l1 l2 l3 g hi => S_M_doubles_14 hE (fun l0 l1 l2 l3 g hm => by obtain ⟨m, hm, h⟩ := hm; exact (ih m hm).1 l0 l1 l2 l3 g h) (fun l0 l1 l2 l3 l4 l5 g hm => by obtain ⟨m, hm, h⟩ := hm; exact (ih m hm).2 l0 l1 l2 l3 l4 l5 g h) l0 l1 l2 l3 g (hh14 n l0 l1 l2 l3 g hi), fun l0 l1 l2 l3 l4 l5 g hi => S_M_doubles_34 hE (fun l0 l1 l2 l3 g hm => by obtain ⟨m, hm, h⟩ := hm; exact (ih m hm).1 l0 l1 l2 l3 g h) (fun l0 l1 l2 l3 l4 l5 g hm => by obtain ⟨m, hm, h⟩ := hm; exact (ih m hm).2 l0 l1 l2 l3 l4 l5 g h) l0 l1 l2 l3 l4 l5 g (hh34 n l0 l1 l2 l3 l4 l5 g hi)⟩
  exact S_M_doubles_0 hE (fun l0 l1 l2 l3 g hm => by obtain ⟨m, h⟩ := hm; exact (hall m).1 l0 l1 l2 l3 g h) (fun l0 l1 l2 l3 l4 l5 g hm => by obtain ⟨m, h⟩ := hm; exact (hall m).2 l0 l1 l2 l3 l4 l5 g h) th p0 g h0
theorem mt_M_doubles {Γ : GAM} {l : Launch} (th : Nat) (p0 : Int32) (g : GH) (K : Int32 → GH → Prop) (h : Sp_M_doubles Γ th p0 g K) : MetA Γ l yX11_doubles cX11_doubles 6 (some (.int)) 8 203 [.ref th, .int p0] g (fun r g' => ∃ x, r = some (.int x) ∧ K x g') := by
  obtain ⟨ma, s, hI, hw, hK⟩ := h
  have hN := hw.len.2.2.1
  have hV := hw.len.1
  by_cases hok : 0 ≤ p0 ∧ p0 ≤ s_now s
  · have hK1 : ∀ g', FrX th [1569, 1570, 1595, 1602] [1594, 1596, 1597, 1598, 1599, 1600, 1601] g g' → K (sDb s p0 (s_vot s).length) g' := fun g' hx => by have := hK g' hx; unfold p_doubles at this; rw [if_pos hok] at this; exact this
    refine rl_M_doubles (fun n l0 l1 l2 l3 g' => th = l0 ∧ p0 = l1 ∧ ∃ k, k ≤ (s_vot s).length ∧ n = 1000 * ((s_vot s).length - k) ∧ l3 = nI k ∧ l2 = sDb s p0 k ∧ FrX th [1569, 1570, 1595, 1602] [1594, 1596, 1597, 1598, 1599, 1600, 1601] g g')
      (fun n l0 l1 l2 l3 l4 l5 g' => th = l0 ∧ p0 = l1 ∧ ∃ k i, k < (s_vot s).length ∧ i ≤ (sRow s (nI k) p0).length ∧ n = 1000 * ((s_vot s).length - (k + 1)) + ((sRow s (nI k) p0).length - i) + 1 ∧ l3 = nI k ∧ l2 = sDb s p0 k ∧ l5 = nI i ∧ l4 = sGd s (nI k) p0 i ∧ FrX th [1569, 1570, 1595, 1602] [1594, 1596, 1597, 1598, 1599, 1600, 1601] g g' ∧ JD th g' s (nI k) p0) ?_ ?_ ?_
    · rintro n l0 l1 l2 l3 g' ⟨rfl, rfl, k, hk, rfl, rfl, rfl, hfx⟩
      have hI' := hI.x hfx (by decide +kernel)
      obtain ⟨hkd, hS⟩ := hI'.1
      have hln := (sRow_ok s (nI k) p0).2.1
      unfold B_M_doubles_14
      simp only [hkd, hI'.vot.1, true_and, nj_le (show (s_vot s).length < 2147483648 by omega) (show k < 2147483648 by omega)]
      refine ⟨fun z => ?_, fun z => ⟨ma, s, hI', hw, fun g2 hx2 hJ => ?_⟩⟩
      · have : k = (s_vot s).length := by omega
        rw [this]; exact hK1 g' hfx
      · exact ⟨1000 * ((s_vot s).length - (k + 1)) + ((sRow s (nI k) p0).length - 0) + 1, by omega, k, 0, by omega, Nat.zero_le _, rfl, rfl, rfl, nj_0, rfl, hfx.tr hx2, hJ⟩
    · rintro n l0 l1 l2 l3 l4 l5 g' ⟨rfl, rfl, k, i, hk, hi, rfl, rfl, rfl, rfl, rfl, hfx, hJ⟩
      have hI' := hI.x hfx (by decide +kernel)
      obtain ⟨hkd, hS⟩ := hI'.1
      obtain ⟨hm, hln, hnd⟩ := sRow_ok s (nI k) p0
      obtain ⟨z_row1, z_row2, z_row3, z_row4, z_row5⟩ := hS 1601 20 200 rfl
      obtain ⟨z_states1, z_states2, z_states3, z_states4, z_states5⟩ := hS 1596 20 200 rfl
      obtain ⟨h1, h2, h3⟩ := hJ
      suffices H : ∀ (K14 : Nat → Int32 → Int32 → Int32 → GH → Prop) (K34 : Nat → Int32 → Int32 → Int32 → Int32 → Int32 → GH → Prop), (∀ a, a = sDb s p0 (k + 1) → K14 th p0 a (nI (k + 1)) g') → (∀ a, i < (sRow s (nI k) p0).length → a = sGd s (nI k) p0 (i + 1) → K34 th p0 (sDb s p0 k) (nI k) a (nI (i + 1)) g') → B_M_doubles_34 Γ K14 K34 K th p0 (sDb s p0 k) (nI k) (sGd s (nI k) p0 i) (nI i) g' from
        H _ _ (fun a ha => ⟨1000 * ((s_vot s).length - (k + 1)), by omega, rfl, rfl, k + 1, by omega, rfl, rfl, ha, hfx⟩)
          (fun a hlt ha => ⟨1000 * ((s_vot s).length - (k + 1)) + ((sRow s (nI k) p0).length - (i + 1)) + 1, by omega, rfl, rfl, k, i + 1, hk, by omega, rfl, rfl, rfl, rfl, ha, hfx, ⟨h1, h2, h3⟩⟩)
      intro K14 K34 h14 h34
      have hsb : sDb s p0 (k + 1) = sDb s p0 k + (if sGd s (nI k) p0 (sRow s (nI k) p0).length ≤ 1 then 0 else 1) := fold_take _ _ _ (range_get hk)
      unfold B_M_doubles_34
      simp only [B_M_doubles_87, B_M_doubles_66, hkd, h1, z_row1, z_row2, z_row3, z_row4, z_row5, z_states1, z_states2, z_states3, z_states4, z_states5, Option.some.injEq, exists_eq_left', true_and, forall_eq, nj_s, nj_cl (show i < 2147483648 by omega), nj_le (show (sRow s (nI k) p0).length < 2147483648 by omega) (show i < 2147483648 by omega)]
      refine ⟨fun z => ?_, fun z => ?_⟩
      · have hi' : i = (sRow s (nI k) p0).length := by omega
        subst hi'
        exact ⟨fun y => h14 _ (by rw [hsb, if_pos y]), fun y => h14 _ (by rw [hsb, if_neg y])⟩
      · have hlt : i < (sRow s (nI k) p0).length := by omega
        obtain ⟨e, he⟩ := get_lt hlt
        obtain ⟨he1, he2, he3⟩ := (hm e).mp (List.mem_of_getElem? he)
        have hb := inB_nI (show i < 200 by omega) (by omega)
        have hbe := inB_nI (show e < 200 by omega) (by omega)
        have hsg : sGd s (nI k) p0 (i + 1) = sGd s (nI k) p0 i + (if (sJ s (nI k) p0 e).1 = 2 then 1 else 0) := fold_take _ _ _ he
        simp only [h2 i e he, (h3 e he2).2.1, hb, hbe, true_and, nj_cl (show e < 2147483648 by omega)]
        exact ⟨fun y => h34 _ hlt (by rw [hsg, if_neg y]), fun y => h34 _ hlt (by rw [hsg, if_pos y])⟩
    · unfold B_M_doubles_0
      simp only [Sp_M_isKnowing, ifz, hI.1.1, hI.now, true_and]
      refine ⟨fun _ => ?_, fun z => absurd hok z⟩
      exact ⟨_, 0, Nat.zero_le _, rfl, nj_0, rfl, FrX.rf⟩
  · refine rl_M_doubles (fun n l0 l1 l2 l3 g' => False) (fun n l0 l1 l2 l3 l4 l5 g' => False) (fun _ _ _ _ _ _ h => h.elim) (fun _ _ _ _ _ _ _ _ h => h.elim) ?_
    unfold B_M_doubles_0
    simp only [Sp_M_isKnowing, ifz, hI.1.1, hI.now, true_and]
    refine ⟨fun z => absurd (Classical.not_not.mp z) hok, fun _ => ?_⟩
    have := hK g FrX.rf
    unfold p_doubles at this
    rw [if_neg hok] at this
    exact this
/-- many -/
def sDf (s : ST) (p : Em × Nat) (q : Int32) : Int32 := if (sCome s (nI p.2) q).1 = -1 then p.1.2.1 else (sCome s (nI p.2) q).1
def mS (s : ST) (sh st q : Int32) (v : Nat) (a : Int32) (p : Em × Nat) : Int32 := if p.1.1 = nI v ∧ p.1.2.2.1 ≤ q ∧ (sJ s (nI v) q p.2).1 = st then a + (if sShire s v (sDf s p q) q = sh then 1 else 0) else a
def sMv (s : ST) (sh st q : Int32) (v : Nat) (a : Int32) (k : Nat) : Int32 := ((s_env s).zipIdx.take k).foldl (mS s sh st q v) a
def sMn (s : ST) (sh st q : Int32) (k : Nat) : Int32 := ((List.range (s_vot s).length).take k).foldl (fun a v => sMv s sh st q v a (s_env s).length) 0
abbrev ok_many (s : ST) (p0 p1 p2 : Int32) : Prop := (0 ≤ p0 ∧ p0 ≤ 3) ∧ (0 ≤ p1 ∧ p1 ≤ 4) ∧ (0 ≤ p2 ∧ p2 ≤ s_now s)
def p_many (s : ST) (p0 p1 p2 : Int32) : Int32 := if ok_many s p0 p1 p2 then sMn s p0 p1 p2 (s_vot s).length else -1
def Sp_M_many (Γ : GAM) (m : Nat) (p0 p1 p2 : Int32) (g : GH) (K : Int32 → GH → Prop) : Prop := ∃ ma s, RefI m ma g s ∧ WF s ∧ ∀ g', FrX m [1569, 1570, 1595, 1602] [1594, 1596, 1597, 1598, 1599, 1600, 1601] g g' → K (p_many s p0 p1 p2) g'
-- the walk of M_many
set_option maxRecDepth 100000 in
def B_M_many_145 (Γ : GAM) (K32 : Nat → Int32 → Int32 → Int32 → Int32 → Int32 → GH → Prop) (K51 : Nat → Int32 → Int32 → Int32 → Int32 → Int32 → Int32 → GH → Prop) (K : Int32 → GH → Prop) (l0 : Nat) (l1 : Int32) (l2 : Int32) (l3 : Int32) (l4 : Int32) (l5 : Int32) (l6 : Int32) (g : GH) : Prop :=
  K51 l0 l1 l2 l3 l4 l5 (l6 + (1 : Int32)) g
set_option maxHeartbeats 4000000 in
set_option maxRecDepth 100000 in
theorem S_M_many_145 {Γ : GAM} {E : EV} {K : Int32 → GH → Prop} (hE : GE Γ E cX11_many 7 RX11 (some (.int)) 8 203 (fun r g' => ∃ x, r = some (.int x) ∧ K x g')) {K32 : Nat → Int32 → Int32 → Int32 → Int32 → Int32 → GH → Prop} {K51 : Nat → Int32 → Int32 → Int32 → Int32 → Int32 → Int32 → GH → Prop} (hK32 : ∀ (l0 : Nat) (l1 : Int32) (l2 : Int32) (l3 : Int32) (l4 : Int32) (l5 : Int32) (g : GH), K32 l0 l1 l2 l3 l4 l5 g → JW Γ E 32 [some (.ref l0), some (.int l1), some (.int l2), some (.int l3), some (.int l4), some (.int l5), none] [] g) (hK51 : ∀ (l0 : Nat) (l1 : Int32) (l2 : Int32) (l3 : Int32) (l4 : Int32) (l5 : Int32) (l6 : Int32) (g : GH), K51 l0 l1 l2 l3 l4 l5 l6 g → JW Γ E 51 [some (.ref l0), some (.int l1), some (.int l2), some (.int l3), some (.int l4), some (.int l5), some (.int l6)] [] g) (l0 : Nat) (l1 : Int32) (l2 : Int32) (l3 : Int32) (l4 : Int32) (l5 : Int32) (l6 : Int32) (g : GH) (h : B_M_many_145 Γ K32 K51 K l0 l1 l2 l3 l4 l5 l6 g) : JW Γ E 145 [some (.ref l0), some (.int l1), some (.int l2), some (.int l3), some (.int l4), some (.int l5), some (.int l6)] [] g := by
  unfold B_M_many_145 at h
  refine j_iinc hE (by decide +kernel : decode cX11_many 145 = .ok (.iinc 6 1, 3)) (v := (1 : Int32)) (by decide) rfl (Nat.le_of_ble_eq_true rfl) rfl ?_
  refine j_goto hE (by decide +kernel : decode cX11_many 148 = .ok (.goto (-97), 3)) (tgt := 51) (by decide) ?_
  exact hK51 _ _ _ _ _ _ _ _ h
set_option maxRecDepth 100000 in
def B_M_many_142 (Γ : GAM) (K32 : Nat → Int32 → Int32 → Int32 → Int32 → Int32 → GH → Prop) (K51 : Nat → Int32 → Int32 → Int32 → Int32 → Int32 → Int32 → GH → Prop) (K : Int32 → GH → Prop) (l0 : Nat) (l1 : Int32) (l2 : Int32) (l3 : Int32) (l5 : Int32) (l6 : Int32) (s0 : Int32) (s1 : Int32) (g : GH) : Prop :=
  ∀ x1 : Int32, x1 = (s1 + s0) → B_M_many_145 Γ K32 K51 K l0 l1 l2 l3 x1 l5 l6 g
set_option maxHeartbeats 4000000 in
set_option maxRecDepth 100000 in
theorem S_M_many_142 {Γ : GAM} {E : EV} {K : Int32 → GH → Prop} (hE : GE Γ E cX11_many 7 RX11 (some (.int)) 8 203 (fun r g' => ∃ x, r = some (.int x) ∧ K x g')) {K32 : Nat → Int32 → Int32 → Int32 → Int32 → Int32 → GH → Prop} {K51 : Nat → Int32 → Int32 → Int32 → Int32 → Int32 → Int32 → GH → Prop} (hK32 : ∀ (l0 : Nat) (l1 : Int32) (l2 : Int32) (l3 : Int32) (l4 : Int32) (l5 : Int32) (g : GH), K32 l0 l1 l2 l3 l4 l5 g → JW Γ E 32 [some (.ref l0), some (.int l1), some (.int l2), some (.int l3), some (.int l4), some (.int l5), none] [] g) (hK51 : ∀ (l0 : Nat) (l1 : Int32) (l2 : Int32) (l3 : Int32) (l4 : Int32) (l5 : Int32) (l6 : Int32) (g : GH), K51 l0 l1 l2 l3 l4 l5 l6 g → JW Γ E 51 [some (.ref l0), some (.int l1), some (.int l2), some (.int l3), some (.int l4), some (.int l5), some (.int l6)] [] g) (l0 : Nat) (l1 : Int32) (l2 : Int32) (l3 : Int32) (l5 : Int32) (l6 : Int32) (s0 : Int32) (s1 : Int32) (g : GH) (h : B_M_many_142 Γ K32 K51 K l0 l1 l2 l3 l5 l6 s0 s1 g) : JW Γ E 142 [some (.ref l0), some (.int l1), some (.int l2), some (.int l3), none, some (.int l5), some (.int l6)] [.int s0, .int s1] g := by
  unfold B_M_many_142 at h
  refine j_iadd hE (by decide +kernel : decode cX11_many 142 = .ok (.iadd, 1)) ?_
  obtain ⟨x1, hx⟩ : ∃ z, z = (s1 + s0) := ⟨_, rfl⟩; replace h := h x1 hx; rw [← hx]
  refine j_istore hE (by decide +kernel : decode cX11_many 143 = .ok (.istore 4, 2)) (Nat.le_of_ble_eq_true rfl) rfl ?_
  exact S_M_many_145 hE hK32 hK51 _ _ _ _ _ _ _ _ h
set_option maxRecDepth 100000 in
def B_M_many_129 (Γ : GAM) (K32 : Nat → Int32 → Int32 → Int32 → Int32 → Int32 → GH → Prop) (K51 : Nat → Int32 → Int32 → Int32 → Int32 → Int32 → Int32 → GH → Prop) (K : Int32 → GH → Prop) (l0 : Nat) (l1 : Int32) (l2 : Int32) (l3 : Int32) (l5 : Int32) (l6 : Int32) (s0 : Int32) (s1 : Int32) (s2 : Nat) (s3 : Int32) (g : GH) : Prop :=
  Kd g s2 = 13 ∧ Sp_M_shireOn Γ s2 s1 s0 l3 g (fun (x2 : Int32) (g1 : GH) => ((¬ (x2 = l1) → B_M_many_142 Γ K32 K51 K l0 l1 l2 l3 l5 l6 (0 : Int32) s3 g1) ∧ (x2 = l1 → B_M_many_142 Γ K32 K51 K l0 l1 l2 l3 l5 l6 (1 : Int32) s3 g1)))
set_option maxHeartbeats 4000000 in
set_option maxRecDepth 100000 in
theorem S_M_many_129 {Γ : GAM} {E : EV} {K : Int32 → GH → Prop} (hE : GE Γ E cX11_many 7 RX11 (some (.int)) 8 203 (fun r g' => ∃ x, r = some (.int x) ∧ K x g')) {K32 : Nat → Int32 → Int32 → Int32 → Int32 → Int32 → GH → Prop} {K51 : Nat → Int32 → Int32 → Int32 → Int32 → Int32 → Int32 → GH → Prop} (hK32 : ∀ (l0 : Nat) (l1 : Int32) (l2 : Int32) (l3 : Int32) (l4 : Int32) (l5 : Int32) (g : GH), K32 l0 l1 l2 l3 l4 l5 g → JW Γ E 32 [some (.ref l0), some (.int l1), some (.int l2), some (.int l3), some (.int l4), some (.int l5), none] [] g) (hK51 : ∀ (l0 : Nat) (l1 : Int32) (l2 : Int32) (l3 : Int32) (l4 : Int32) (l5 : Int32) (l6 : Int32) (g : GH), K51 l0 l1 l2 l3 l4 l5 l6 g → JW Γ E 51 [some (.ref l0), some (.int l1), some (.int l2), some (.int l3), some (.int l4), some (.int l5), some (.int l6)] [] g) (l0 : Nat) (l1 : Int32) (l2 : Int32) (l3 : Int32) (l5 : Int32) (l6 : Int32) (s0 : Int32) (s1 : Int32) (s2 : Nat) (s3 : Int32) (g : GH) (h : B_M_many_129 Γ K32 K51 K l0 l1 l2 l3 l5 l6 s0 s1 s2 s3 g) : JW Γ E 129 [some (.ref l0), some (.int l1), some (.int l2), some (.int l3), none, some (.int l5), some (.int l6)] [.int s0, .int s1, .ref s2, .int s3] g := by
  unfold B_M_many_129 at h
  refine j_iload_n hE (by decide +kernel : decode cX11_many 129 = .ok (.iload_n 3, 1)) rfl rfl ?_
  obtain ⟨hk, h⟩ := h
  refine j_callV hE rfl cl_X11_237 cf_12 im_X11_shireOn se_X11_shireOn ⟨by omega, by omega⟩ (As := [.int s1, .int s0, .int l3]) (rest := [.int s3]) rfl rfl (Nat.le_of_ble_eq_true rfl) hk (by decide +kernel : decode cX11_many 130 = .ok (.invokevirtual 237, 3)) (mt_M_shireOn _ _ _ _ _ _ h) ?_
  rintro _ g1 ⟨x2, rfl, h⟩
  refine j_iload_n hE (by decide +kernel : decode cX11_many 133 = .ok (.iload_n 1, 1)) rfl rfl ?_
  refine j_icmp_ne hE (by decide +kernel : decode cX11_many 134 = .ok (.if_icmp .ne 7, 3)) (tgt := 141) (by decide) (fun q => ?_) (fun q => ?_)
  · replace h := h.1 q
    refine j_iconst hE (by decide +kernel : decode cX11_many 141 = .ok (.iconst 0, 1)) (v := (0 : Int32)) (by decide) ?_
    exact S_M_many_142 hE hK32 hK51 _ _ _ _ _ _ _ _ _ h
  · replace h := h.2 q
    refine j_iconst hE (by decide +kernel : decode cX11_many 137 = .ok (.iconst 1, 1)) (v := (1 : Int32)) (by decide) ?_
    refine j_goto hE (by decide +kernel : decode cX11_many 138 = .ok (.goto 4, 3)) (tgt := 142) (by decide) ?_
    exact S_M_many_142 hE hK32 hK51 _ _ _ _ _ _ _ _ _ h
set_option maxRecDepth 100000 in
def B_M_many_51 (Γ : GAM) (K32 : Nat → Int32 → Int32 → Int32 → Int32 → Int32 → GH → Prop) (K51 : Nat → Int32 → Int32 → Int32 → Int32 → Int32 → Int32 → GH → Prop) (K : Int32 → GH → Prop) (l0 : Nat) (l1 : Int32) (l2 : Int32) (l3 : Int32) (l4 : Int32) (l5 : Int32) (l6 : Int32) (g : GH) : Prop :=
  Kd g l0 = 13 ∧ (((Gi g 1539 l0) ≤ l6 → K32 l0 l1 l2 l3 l4 (l5 + (1 : Int32)) g) ∧ (¬ ((Gi g 1539 l0) ≤ l6) → Kd g l0 = 13 ∧ ∃ a1 : Nat, Gr g 1556 l0 = some a1 ∧ Kd g a1 = 20 ∧ inB l6 (Ln g a1) ∧ ((¬ ((Ia g (Co g a1) (Ow g a1) l6.toNatClampNeg) = l5) → B_M_many_145 Γ K32 K51 K l0 l1 l2 l3 l4 l5 l6 g) ∧ ((Ia g (Co g a1) (Ow g a1) l6.toNatClampNeg) = l5 → Kd g l0 = 13 ∧ Sp_M_isSent Γ l0 l6 l3 g (fun (x3 : Int32) (g2 : GH) => ((x3 = 0 → B_M_many_145 Γ K32 K51 K l0 l1 l2 l3 l4 l5 l6 g2) ∧ (¬ (x3 = 0) → Kd g2 l0 = 13 ∧ ∃ a4 : Nat, Gr g2 1596 l0 = some a4 ∧ Kd g2 a4 = 20 ∧ inB l6 (Ln g2 a4) ∧ (((Ia g2 (Co g2 a4) (Ow g2 a4) l6.toNatClampNeg) = l2 → Kd g2 l0 = 13 ∧ ∃ a5 : Nat, Gr g2 1600 l0 = some a5 ∧ Kd g2 a5 = 20 ∧ inB l6 (Ln g2 a5) ∧ ((¬ ((Ia g2 (Co g2 a5) (Ow g2 a5) l6.toNatClampNeg) = (-1 : Int32)) → Kd g2 l0 = 13 ∧ ∃ a6 : Nat, Gr g2 1600 l0 = some a6 ∧ Kd g2 a6 = 20 ∧ inB l6 (Ln g2 a6) ∧ B_M_many_129 Γ K32 K51 K l0 l1 l2 l3 l5 l6 (Ia g2 (Co g2 a6) (Ow g2 a6) l6.toNatClampNeg) l5 l0 l4 g2) ∧ ((Ia g2 (Co g2 a5) (Ow g2 a5) l6.toNatClampNeg) = (-1 : Int32) → Kd g2 l0 = 13 ∧ ∃ a7 : Nat, Gr g2 1557 l0 = some a7 ∧ Kd g2 a7 = 20 ∧ inB l6 (Ln g2 a7) ∧ B_M_many_129 Γ K32 K51 K l0 l1 l2 l3 l5 l6 (Ia g2 (Co g2 a7) (Ow g2 a7) l6.toNatClampNeg) l5 l0 l4 g2))) ∧ (¬ ((Ia g2 (Co g2 a4) (Ow g2 a4) l6.toNatClampNeg) = l2) → B_M_many_145 Γ K32 K51 K l0 l1 l2 l3 l4 l5 l6 g2)))))))))
set_option maxHeartbeats 4000000 in
set_option maxRecDepth 100000 in
theorem S_M_many_51 {Γ : GAM} {E : EV} {K : Int32 → GH → Prop} (hE : GE Γ E cX11_many 7 RX11 (some (.int)) 8 203 (fun r g' => ∃ x, r = some (.int x) ∧ K x g')) {K32 : Nat → Int32 → Int32 → Int32 → Int32 → Int32 → GH → Prop} {K51 : Nat → Int32 → Int32 → Int32 → Int32 → Int32 → Int32 → GH → Prop} (hK32 : ∀ (l0 : Nat) (l1 : Int32) (l2 : Int32) (l3 : Int32) (l4 : Int32) (l5 : Int32) (g : GH), K32 l0 l1 l2 l3 l4 l5 g → JW Γ E 32 [some (.ref l0), some (.int l1), some (.int l2), some (.int l3), some (.int l4), some (.int l5), none] [] g) (hK51 : ∀ (l0 : Nat) (l1 : Int32) (l2 : Int32) (l3 : Int32) (l4 : Int32) (l5 : Int32) (l6 : Int32) (g : GH), K51 l0 l1 l2 l3 l4 l5 l6 g → JW Γ E 51 [some (.ref l0), some (.int l1), some (.int l2), some (.int l3), some (.int l4), some (.int l5), some (.int l6)] [] g) (l0 : Nat) (l1 : Int32) (l2 : Int32) (l3 : Int32) (l4 : Int32) (l5 : Int32) (l6 : Int32) (g : GH) (h : B_M_many_51 Γ K32 K51 K l0 l1 l2 l3 l4 l5 l6 g) : JW Γ E 51 [some (.ref l0), some (.int l1), some (.int l2), some (.int l3), some (.int l4), some (.int l5), some (.int l6)] [] g := by
  unfold B_M_many_51 at h
  refine j_iload hE (by decide +kernel : decode cX11_many 51 = .ok (.iload 6, 2)) rfl ?_
  refine j_aload_n hE (by decide +kernel : decode cX11_many 53 = .ok (.aload_n 0, 1)) rfl rfl ?_
  obtain ⟨hk, h⟩ := h
  refine j_getI hE fg_X11_241 hk (by decide +kernel : decode cX11_many 54 = .ok (.getfield 241, 3)) ?_
  refine j_icmp_ge hE (by decide +kernel : decode cX11_many 57 = .ok (.if_icmp .ge 94, 3)) (tgt := 151) (by decide) (fun q => ?_) (fun q => ?_)
  · replace h := h.1 q
    refine j_iinc hE (by decide +kernel : decode cX11_many 151 = .ok (.iinc 5 1, 3)) (v := (1 : Int32)) (by decide) rfl (Nat.le_of_ble_eq_true rfl) rfl ?_
    refine j_goto hE (by decide +kernel : decode cX11_many 154 = .ok (.goto (-122), 3)) (tgt := 32) (by decide) ?_
    refine j_weak [some (.ref l0), some (.int l1), some (.int l2), some (.int l3), some (.int l4), some (.int (l5 + (1 : Int32))), none] ⟨rfl, ⟨rfl, ⟨rfl, ⟨rfl, ⟨rfl, ⟨rfl, trivial⟩⟩⟩⟩⟩⟩ ?_
    exact hK32 _ _ _ _ _ _ _ h
  · replace h := h.2 q
    refine j_aload_n hE (by decide +kernel : decode cX11_many 60 = .ok (.aload_n 0, 1)) rfl rfl ?_
    obtain ⟨hk, h⟩ := h
    obtain ⟨a1, ha, h⟩ := h
    refine j_getRn hE fg_X11_35 hk ha (by decide +kernel : decode cX11_many 61 = .ok (.getfield 35, 3)) ?_
    refine j_iload hE (by decide +kernel : decode cX11_many 64 = .ok (.iload 6, 2)) rfl ?_
    obtain ⟨hk, hb, h⟩ := h
    refine j_iald hE hk hb (by decide +kernel : decode cX11_many 66 = .ok (.iaload, 1)) ?_
    refine j_iload hE (by decide +kernel : decode cX11_many 67 = .ok (.iload 5, 2)) rfl ?_
    refine j_icmp_ne hE (by decide +kernel : decode cX11_many 69 = .ok (.if_icmp .ne 76, 3)) (tgt := 145) (by decide) (fun q => ?_) (fun q => ?_)
    · replace h := h.1 q
      exact S_M_many_145 hE hK32 hK51 _ _ _ _ _ _ _ _ h
    · replace h := h.2 q
      refine j_aload_n hE (by decide +kernel : decode cX11_many 72 = .ok (.aload_n 0, 1)) rfl rfl ?_
      refine j_iload hE (by decide +kernel : decode cX11_many 73 = .ok (.iload 6, 2)) rfl ?_
      refine j_iload_n hE (by decide +kernel : decode cX11_many 75 = .ok (.iload_n 3, 1)) rfl rfl ?_
      obtain ⟨hk, h⟩ := h
      refine j_callV hE rfl cl_X11_278 cf_12 im_X11_isSent se_X11_isSent ⟨by omega, by omega⟩ (As := [.int l6, .int l3]) (rest := []) rfl rfl (Nat.le_of_ble_eq_true rfl) hk (by decide +kernel : decode cX11_many 76 = .ok (.invokevirtual 278, 3)) (mt_M_isSent _ _ _ _ _ h) ?_
      rintro _ g2 ⟨x3, rfl, h⟩
      refine j_if_eq hE (by decide +kernel : decode cX11_many 79 = .ok (.ifCond .eq 66, 3)) (tgt := 145) (by decide) (fun q => ?_) (fun q => ?_)
      · replace h := h.1 q
        exact S_M_many_145 hE hK32 hK51 _ _ _ _ _ _ _ _ h
      · replace h := h.2 q
        refine j_aload_n hE (by decide +kernel : decode cX11_many 82 = .ok (.aload_n 0, 1)) rfl rfl ?_
        obtain ⟨hk, h⟩ := h
        obtain ⟨a4, ha, h⟩ := h
        refine j_getRn hE fg_X11_129 hk ha (by decide +kernel : decode cX11_many 83 = .ok (.getfield 129, 3)) ?_
        refine j_iload hE (by decide +kernel : decode cX11_many 86 = .ok (.iload 6, 2)) rfl ?_
        obtain ⟨hk, hb, h⟩ := h
        refine j_iald hE hk hb (by decide +kernel : decode cX11_many 88 = .ok (.iaload, 1)) ?_
        refine j_iload_n hE (by decide +kernel : decode cX11_many 89 = .ok (.iload_n 2, 1)) rfl rfl ?_
        refine j_icmp_eq hE (by decide +kernel : decode cX11_many 90 = .ok (.if_icmp .eq 6, 3)) (tgt := 96) (by decide) (fun q => ?_) (fun q => ?_)
        · replace h := h.1 q
          refine j_iload hE (by decide +kernel : decode cX11_many 96 = .ok (.iload 4, 2)) rfl ?_
          refine j_aload_n hE (by decide +kernel : decode cX11_many 98 = .ok (.aload_n 0, 1)) rfl rfl ?_
          refine j_iload hE (by decide +kernel : decode cX11_many 99 = .ok (.iload 5, 2)) rfl ?_
          refine j_aload_n hE (by decide +kernel : decode cX11_many 101 = .ok (.aload_n 0, 1)) rfl rfl ?_
          obtain ⟨hk, h⟩ := h
          obtain ⟨a5, ha, h⟩ := h
          refine j_getRn hE fg_X11_141 hk ha (by decide +kernel : decode cX11_many 102 = .ok (.getfield 141, 3)) ?_
          refine j_iload hE (by decide +kernel : decode cX11_many 105 = .ok (.iload 6, 2)) rfl ?_
          obtain ⟨hk, hb, h⟩ := h
          refine j_iald hE hk hb (by decide +kernel : decode cX11_many 107 = .ok (.iaload, 1)) ?_
          refine j_iconst hE (by decide +kernel : decode cX11_many 108 = .ok (.iconst (-1), 1)) (v := (-1 : Int32)) (by decide) ?_
          refine j_icmp_ne hE (by decide +kernel : decode cX11_many 109 = .ok (.if_icmp .ne 13, 3)) (tgt := 122) (by decide) (fun q => ?_) (fun q => ?_)
          · replace h := h.1 q
            refine j_aload_n hE (by decide +kernel : decode cX11_many 122 = .ok (.aload_n 0, 1)) rfl rfl ?_
            obtain ⟨hk, h⟩ := h
            obtain ⟨a6, ha, h⟩ := h
            refine j_getRn hE fg_X11_141 hk ha (by decide +kernel : decode cX11_many 123 = .ok (.getfield 141, 3)) ?_
            refine j_iload hE (by decide +kernel : decode cX11_many 126 = .ok (.iload 6, 2)) rfl ?_
            obtain ⟨hk, hb, h⟩ := h
            refine j_iald hE hk hb (by decide +kernel : decode cX11_many 128 = .ok (.iaload, 1)) ?_
            refine j_weak [some (.ref l0), some (.int l1), some (.int l2), some (.int l3), none, some (.int l5), some (.int l6)] ⟨rfl, ⟨rfl, ⟨rfl, ⟨rfl, ⟨rfl, ⟨rfl, trivial⟩⟩⟩⟩⟩⟩ ?_
            exact S_M_many_129 hE hK32 hK51 _ _ _ _ _ _ _ _ _ _ _ h
          · replace h := h.2 q
            refine j_aload_n hE (by decide +kernel : decode cX11_many 112 = .ok (.aload_n 0, 1)) rfl rfl ?_
            obtain ⟨hk, h⟩ := h
            obtain ⟨a7, ha, h⟩ := h
            refine j_getRn hE fg_X11_38 hk ha (by decide +kernel : decode cX11_many 113 = .ok (.getfield 38, 3)) ?_
            refine j_iload hE (by decide +kernel : decode cX11_many 116 = .ok (.iload 6, 2)) rfl ?_
            obtain ⟨hk, hb, h⟩ := h
            refine j_iald hE hk hb (by decide +kernel : decode cX11_many 118 = .ok (.iaload, 1)) ?_
            refine j_goto hE (by decide +kernel : decode cX11_many 119 = .ok (.goto 10, 3)) (tgt := 129) (by decide) ?_
            refine j_weak [some (.ref l0), some (.int l1), some (.int l2), some (.int l3), none, some (.int l5), some (.int l6)] ⟨rfl, ⟨rfl, ⟨rfl, ⟨rfl, ⟨rfl, ⟨rfl, trivial⟩⟩⟩⟩⟩⟩ ?_
            exact S_M_many_129 hE hK32 hK51 _ _ _ _ _ _ _ _ _ _ _ h
        · replace h := h.2 q
          refine j_goto hE (by decide +kernel : decode cX11_many 93 = .ok (.goto 52, 3)) (tgt := 145) (by decide) ?_
          exact S_M_many_145 hE hK32 hK51 _ _ _ _ _ _ _ _ h
set_option maxRecDepth 100000 in
def B_M_many_32 (Γ : GAM) (K32 : Nat → Int32 → Int32 → Int32 → Int32 → Int32 → GH → Prop) (K51 : Nat → Int32 → Int32 → Int32 → Int32 → Int32 → Int32 → GH → Prop) (K : Int32 → GH → Prop) (l0 : Nat) (l1 : Int32) (l2 : Int32) (l3 : Int32) (l4 : Int32) (l5 : Int32) (g : GH) : Prop :=
  Kd g l0 = 13 ∧ (((Gi g 1537 l0) ≤ l5 → K l4 g) ∧ (¬ ((Gi g 1537 l0) ≤ l5) → Kd g l0 = 13 ∧ Sp_M_judge Γ l0 l5 l3 g (fun (g1 : GH) => K51 l0 l1 l2 l3 l4 l5 (0 : Int32) g1)))
set_option maxHeartbeats 4000000 in
set_option maxRecDepth 100000 in
theorem S_M_many_32 {Γ : GAM} {E : EV} {K : Int32 → GH → Prop} (hE : GE Γ E cX11_many 7 RX11 (some (.int)) 8 203 (fun r g' => ∃ x, r = some (.int x) ∧ K x g')) {K32 : Nat → Int32 → Int32 → Int32 → Int32 → Int32 → GH → Prop} {K51 : Nat → Int32 → Int32 → Int32 → Int32 → Int32 → Int32 → GH → Prop} (hK32 : ∀ (l0 : Nat) (l1 : Int32) (l2 : Int32) (l3 : Int32) (l4 : Int32) (l5 : Int32) (g : GH), K32 l0 l1 l2 l3 l4 l5 g → JW Γ E 32 [some (.ref l0), some (.int l1), some (.int l2), some (.int l3), some (.int l4), some (.int l5), none] [] g) (hK51 : ∀ (l0 : Nat) (l1 : Int32) (l2 : Int32) (l3 : Int32) (l4 : Int32) (l5 : Int32) (l6 : Int32) (g : GH), K51 l0 l1 l2 l3 l4 l5 l6 g → JW Γ E 51 [some (.ref l0), some (.int l1), some (.int l2), some (.int l3), some (.int l4), some (.int l5), some (.int l6)] [] g) (l0 : Nat) (l1 : Int32) (l2 : Int32) (l3 : Int32) (l4 : Int32) (l5 : Int32) (g : GH) (h : B_M_many_32 Γ K32 K51 K l0 l1 l2 l3 l4 l5 g) : JW Γ E 32 [some (.ref l0), some (.int l1), some (.int l2), some (.int l3), some (.int l4), some (.int l5), none] [] g := by
  unfold B_M_many_32 at h
  refine j_iload hE (by decide +kernel : decode cX11_many 32 = .ok (.iload 5, 2)) rfl ?_
  refine j_aload_n hE (by decide +kernel : decode cX11_many 34 = .ok (.aload_n 0, 1)) rfl rfl ?_
  obtain ⟨hk, h⟩ := h
  refine j_getI hE fg_X11_220 hk (by decide +kernel : decode cX11_many 35 = .ok (.getfield 220, 3)) ?_
  refine j_icmp_ge hE (by decide +kernel : decode cX11_many 38 = .ok (.if_icmp .ge 119, 3)) (tgt := 157) (by decide) (fun q => ?_) (fun q => ?_)
  · replace h := h.1 q
    refine j_iload hE (by decide +kernel : decode cX11_many 157 = .ok (.iload 4, 2)) rfl ?_
    exact j_iret hE (by decide +kernel : decode cX11_many 159 = .ok (.ireturn, 1)) ⟨_, rfl, h⟩
  · replace h := h.2 q
    refine j_aload_n hE (by decide +kernel : decode cX11_many 41 = .ok (.aload_n 0, 1)) rfl rfl ?_
    refine j_iload hE (by decide +kernel : decode cX11_many 42 = .ok (.iload 5, 2)) rfl ?_
    refine j_iload_n hE (by decide +kernel : decode cX11_many 44 = .ok (.iload_n 3, 1)) rfl rfl ?_
    obtain ⟨hk, h⟩ := h
    refine j_callV hE rfl cl_X11_431 cf_12 im_X11_judge se_X11_judge ⟨by omega, by omega⟩ (As := [.int l5, .int l3]) (rest := []) rfl rfl (Nat.le_of_ble_eq_true rfl) hk (by decide +kernel : decode cX11_many 45 = .ok (.invokevirtual 431, 3)) (mt_M_judge _ _ _ _ _ h) ?_
    rintro _ g1 ⟨rfl, h⟩
    refine j_iconst hE (by decide +kernel : decode cX11_many 48 = .ok (.iconst 0, 1)) (v := (0 : Int32)) (by decide) ?_
    refine j_istore hE (by decide +kernel : decode cX11_many 49 = .ok (.istore 6, 2)) (Nat.le_of_ble_eq_true rfl) rfl ?_
    exact hK51 _ _ _ _ _ _ _ _ h
set_option maxRecDepth 100000 in
def B_M_many_24 (Γ : GAM) (K32 : Nat → Int32 → Int32 → Int32 → Int32 → Int32 → GH → Prop) (K51 : Nat → Int32 → Int32 → Int32 → Int32 → Int32 → Int32 → GH → Prop) (K : Int32 → GH → Prop)  (g : GH) : Prop :=
  K (-1 : Int32) g
set_option maxHeartbeats 4000000 in
set_option maxRecDepth 100000 in
theorem S_M_many_24 {Γ : GAM} {E : EV} {K : Int32 → GH → Prop} (hE : GE Γ E cX11_many 7 RX11 (some (.int)) 8 203 (fun r g' => ∃ x, r = some (.int x) ∧ K x g')) {K32 : Nat → Int32 → Int32 → Int32 → Int32 → Int32 → GH → Prop} {K51 : Nat → Int32 → Int32 → Int32 → Int32 → Int32 → Int32 → GH → Prop} (hK32 : ∀ (l0 : Nat) (l1 : Int32) (l2 : Int32) (l3 : Int32) (l4 : Int32) (l5 : Int32) (g : GH), K32 l0 l1 l2 l3 l4 l5 g → JW Γ E 32 [some (.ref l0), some (.int l1), some (.int l2), some (.int l3), some (.int l4), some (.int l5), none] [] g) (hK51 : ∀ (l0 : Nat) (l1 : Int32) (l2 : Int32) (l3 : Int32) (l4 : Int32) (l5 : Int32) (l6 : Int32) (g : GH), K51 l0 l1 l2 l3 l4 l5 l6 g → JW Γ E 51 [some (.ref l0), some (.int l1), some (.int l2), some (.int l3), some (.int l4), some (.int l5), some (.int l6)] [] g)  (g : GH) (h : B_M_many_24 Γ K32 K51 K  g) : JW Γ E 24 [none, none, none, none, none, none, none] [] g := by
  unfold B_M_many_24 at h
  refine j_iconst hE (by decide +kernel : decode cX11_many 24 = .ok (.iconst (-1), 1)) (v := (-1 : Int32)) (by decide) ?_
  exact j_iret hE (by decide +kernel : decode cX11_many 25 = .ok (.ireturn, 1)) ⟨_, rfl, h⟩
set_option maxRecDepth 100000 in
def B_M_many_0 (Γ : GAM) (K32 : Nat → Int32 → Int32 → Int32 → Int32 → Int32 → GH → Prop) (K51 : Nat → Int32 → Int32 → Int32 → Int32 → Int32 → Int32 → GH → Prop) (K : Int32 → GH → Prop) (th : Nat) (p0 : Int32) (p1 : Int32) (p2 : Int32) (g : GH) : Prop :=
  Sp_M_isShire Γ p0 g (fun (x2 : Int32) (g1 : GH) => ((x2 = 0 → B_M_many_24 Γ K32 K51 K g1) ∧ (¬ (x2 = 0) → Sp_M_in Γ p1 (0 : Int32) (4 : Int32) g1 (fun (x4 : Int32) (g3 : GH) => ((x4 = 0 → B_M_many_24 Γ K32 K51 K g3) ∧ (¬ (x4 = 0) → Kd g3 th = 13 ∧ Sp_M_isKnowing Γ th p2 g3 (fun (x6 : Int32) (g5 : GH) => ((¬ (x6 = 0) → K32 th p0 p1 p2 (0 : Int32) (0 : Int32) g5) ∧ (x6 = 0 → B_M_many_24 Γ K32 K51 K g5)))))))))
set_option maxHeartbeats 4000000 in
set_option maxRecDepth 100000 in
theorem S_M_many_0 {Γ : GAM} {E : EV} {K : Int32 → GH → Prop} (hE : GE Γ E cX11_many 7 RX11 (some (.int)) 8 203 (fun r g' => ∃ x, r = some (.int x) ∧ K x g')) {K32 : Nat → Int32 → Int32 → Int32 → Int32 → Int32 → GH → Prop} {K51 : Nat → Int32 → Int32 → Int32 → Int32 → Int32 → Int32 → GH → Prop} (hK32 : ∀ (l0 : Nat) (l1 : Int32) (l2 : Int32) (l3 : Int32) (l4 : Int32) (l5 : Int32) (g : GH), K32 l0 l1 l2 l3 l4 l5 g → JW Γ E 32 [some (.ref l0), some (.int l1), some (.int l2), some (.int l3), some (.int l4), some (.int l5), none] [] g) (hK51 : ∀ (l0 : Nat) (l1 : Int32) (l2 : Int32) (l3 : Int32) (l4 : Int32) (l5 : Int32) (l6 : Int32) (g : GH), K51 l0 l1 l2 l3 l4 l5 l6 g → JW Γ E 51 [some (.ref l0), some (.int l1), some (.int l2), some (.int l3), some (.int l4), some (.int l5), some (.int l6)] [] g) (th : Nat) (p0 : Int32) (p1 : Int32) (p2 : Int32) (g : GH) (h : B_M_many_0 Γ K32 K51 K th p0 p1 p2 g) : JW Γ E 0 [some (.ref th), some (.int p0), some (.int p1), some (.int p2), none, none, none] [] g := by
  unfold B_M_many_0 at h
  refine j_iload_n hE (by decide +kernel : decode cX11_many 0 = .ok (.iload_n 1, 1)) rfl rfl ?_
  refine j_callS hE rfl cl_X11_223 st_X11_isShire ⟨by omega, by omega⟩ (As := [.int p0]) (rest := []) rfl rfl (Nat.le_of_ble_eq_true rfl) (by decide +kernel : decode cX11_many 1 = .ok (.invokestatic 223, 3)) (mt_M_isShire _ _ _ h) ?_
  rintro _ g1 ⟨x2, rfl, h⟩
  refine j_if_eq hE (by decide +kernel : decode cX11_many 4 = .ok (.ifCond .eq 20, 3)) (tgt := 24) (by decide) (fun q => ?_) (fun q => ?_)
  · replace h := h.1 q
    refine j_weak [none, none, none, none, none, none, none] trivial ?_
    exact S_M_many_24 hE hK32 hK51 _ h
  · replace h := h.2 q
    refine j_iload_n hE (by decide +kernel : decode cX11_many 7 = .ok (.iload_n 2, 1)) rfl rfl ?_
    refine j_iconst hE (by decide +kernel : decode cX11_many 8 = .ok (.iconst 0, 1)) (v := (0 : Int32)) (by decide) ?_
    refine j_iconst hE (by decide +kernel : decode cX11_many 9 = .ok (.iconst 4, 1)) (v := (4 : Int32)) (by decide) ?_
    refine j_callS hE rfl cl_X11_213 st_X11_in ⟨by omega, by omega⟩ (As := [.int p1, .int (0 : Int32), .int (4 : Int32)]) (rest := []) rfl rfl (Nat.le_of_ble_eq_true rfl) (by decide +kernel : decode cX11_many 10 = .ok (.invokestatic 213, 3)) (mt_M_in _ _ _ _ _ h) ?_
    rintro _ g3 ⟨x4, rfl, h⟩
    refine j_if_eq hE (by decide +kernel : decode cX11_many 13 = .ok (.ifCond .eq 11, 3)) (tgt := 24) (by decide) (fun q => ?_) (fun q => ?_)
    · replace h := h.1 q
      refine j_weak [none, none, none, none, none, none, none] trivial ?_
      exact S_M_many_24 hE hK32 hK51 _ h
    · replace h := h.2 q
      refine j_aload_n hE (by decide +kernel : decode cX11_many 16 = .ok (.aload_n 0, 1)) rfl rfl ?_
      refine j_iload_n hE (by decide +kernel : decode cX11_many 17 = .ok (.iload_n 3, 1)) rfl rfl ?_
      obtain ⟨hk, h⟩ := h
      refine j_callV hE rfl cl_X11_234 cf_12 im_X11_isKnowing se_X11_isKnowing ⟨by omega, by omega⟩ (As := [.int p2]) (rest := []) rfl rfl (Nat.le_of_ble_eq_true rfl) hk (by decide +kernel : decode cX11_many 18 = .ok (.invokevirtual 234, 3)) (mt_M_isKnowing _ _ _ _ h) ?_
      rintro _ g5 ⟨x6, rfl, h⟩
      refine j_if_ne hE (by decide +kernel : decode cX11_many 21 = .ok (.ifCond .ne 5, 3)) (tgt := 26) (by decide) (fun q => ?_) (fun q => ?_)
      · replace h := h.1 q
        refine j_iconst hE (by decide +kernel : decode cX11_many 26 = .ok (.iconst 0, 1)) (v := (0 : Int32)) (by decide) ?_
        refine j_istore hE (by decide +kernel : decode cX11_many 27 = .ok (.istore 4, 2)) (Nat.le_of_ble_eq_true rfl) rfl ?_
        refine j_iconst hE (by decide +kernel : decode cX11_many 29 = .ok (.iconst 0, 1)) (v := (0 : Int32)) (by decide) ?_
        refine j_istore hE (by decide +kernel : decode cX11_many 30 = .ok (.istore 5, 2)) (Nat.le_of_ble_eq_true rfl) rfl ?_
        exact hK32 _ _ _ _ _ _ _ h
      · replace h := h.2 q
        refine j_weak [none, none, none, none, none, none, none] trivial ?_
        exact S_M_many_24 hE hK32 hK51 _ h
set_option maxHeartbeats 4000000 in
set_option maxRecDepth 100000 in
theorem rl_M_many {Γ : GAM} {l : Launch} {th : Nat} {p0 : Int32} {p1 : Int32} {p2 : Int32} {g : GH} {K : Int32 → GH → Prop} (I32 : Nat → Nat → Int32 → Int32 → Int32 → Int32 → Int32 → GH → Prop) (I51 : Nat → Nat → Int32 → Int32 → Int32 → Int32 → Int32 → Int32 → GH → Prop) (hh32 : ∀ n (l0 : Nat) (l1 : Int32) (l2 : Int32) (l3 : Int32) (l4 : Int32) (l5 : Int32) (g : GH), I32 n l0 l1 l2 l3 l4 l5 g → B_M_many_32 Γ (fun l0 l1 l2 l3 l4 l5 g => ∃ m, m < n ∧ I32 m l0 l1 l2 l3 l4 l5 g) (fun l0 l1 l2 l3 l4 l5 l6 g => ∃ m, m < n ∧ I51 m l0 l1 l2 l3 l4 l5 l6 g) K l0 l1 l2 l3 l4 l5 g) (hh51 : ∀ n (l0 : Nat) (l1 : Int32) (l2 : Int32) (l3 : Int32) (l4 : Int32) (l5 : Int32) (l6 : Int32) (g : GH), I51 n l0 l1 l2 l3 l4 l5 l6 g → B_M_many_51 Γ (fun l0 l1 l2 l3 l4 l5 g => ∃ m, m < n ∧ I32 m l0 l1 l2 l3 l4 l5 g) (fun l0 l1 l2 l3 l4 l5 l6 g => ∃ m, m < n ∧ I51 m l0 l1 l2 l3 l4 l5 l6 g) K l0 l1 l2 l3 l4 l5 l6 g) (h0 : B_M_many_0 Γ (fun l0 l1 l2 l3 l4 l5 g => ∃ m, I32 m l0 l1 l2 l3 l4 l5 g) (fun l0 l1 l2 l3 l4 l5 l6 g => ∃ m, I51 m l0 l1 l2 l3 l4 l5 l6 g) K th p0 p1 p2 g) : MetA Γ l yX11_many cX11_many 7 (some (.int)) 8 203 [.ref th, .int p0, .int p1, .int p2] g (fun r g' => ∃ x, r = some (.int x) ∧ K x g') := by
  refine MetA.introL (Lx := [some (.ref th), some (.int p0), some (.int p1), some (.int p2), none, none, none]) (by decide) (Nat.le_of_ble_eq_true rfl) rfl rfl ?_
  intro E hEl hE hnm
  have hall : ∀ n, (∀ (l0 : Nat) (l1 : Int32) (l2 : Int32) (l3 : Int32) (l4 : Int32) (l5 : Int32) (g : GH), I32 n l0 l1 l2 l3 l4 l5 g → JW Γ E 32 [some (.ref l0), some (.int l1), some (.int l2), some (.int l3), some (.int l4), some (.int l5), none] [] g) ∧ (∀ (l0 : Nat) (l1 : Int32) (l2 : Int32) (l3 : Int32) (l4 : Int32) (l5 : Int32) (l6 : Int32) (g : GH), I51 n l0 l1 l2 l3 l4 l5 l6 g → JW Γ E 51 [some (.ref l0), some (.int l1), some (.int l2), some (.int l3), some (.int l4), some (.int l5), some (.int l6)] [] g) := by
    intro n
    induction n using Nat.strongRecOn with
    | ind n ih =>
      exact ⟨fun l0 l1 l2 l3 l4 l5 g hi => S_M_many_32 hE (fun l0 l1 l2 l3 l4 l5 g hm => by obtain ⟨m, hm, h⟩ := hm; exact (ih m hm).1 l0 l1 l2 l3 l4 l5 g h) (fun l0 l1 l2 l3 l4 l5 l6 g hm => by obtain ⟨m, hm, h⟩ := hm; exact (ih m hm).2 l0 l1 l2 l3 l4 l5 l6 g h) l0 l1 l2 l3 l4 l5 g (hh32 n l0 l1 l2 l3 l4 l5 g hi), fun l0 l1 l2 l3 l4 l5 l6 g hi => S_M_many_51 hE (fun l0 l1 l2 l3 l4 l5 g hm => by obtain ⟨m, hm, h⟩ := hm; exact (ih m hm).1 l0 l1 l2 l3 l4 l5 g h) (fun l0 l1 l2 l3 l4 l5 l6 g hm => by obtain ⟨m, hm, h⟩ := hm; exact (ih m hm).2 l0 l1 l2 l3 l4 l5 l6 g h) l0 l1 l2 l3 l4 l5 l6 g (hh51 n l0 l1 l2 l3 l4 l5 l6 g hi)⟩
  exact S_M_many_0 hE (fun l0 l1 l2 l3 l4 l5 g hm => by obtain ⟨m, h⟩ := hm; exact (hall m).1 l0 l1 l2 l3 l4 l5 g h) (fun l0 l1 l2 l3 l4 l5 l6 g hm => by obtain ⟨m, h⟩ := hm; exact (hall m).2 l0 l1 l2 l3 l4 l5 l6 g h) th p0 p1 p2 g h0
theorem mt_M_many {Γ : GAM} {l : Launch} (th : Nat) (p0 : Int32) (p1 : Int32) (p2 : Int32) (g : GH) (K : Int32 → GH → Prop) (h : Sp_M_many Γ th p0 p1 p2 g K) : MetA Γ l yX11_many cX11_many 7 (some (.int)) 8 203 [.ref th, .int p0, .int p1, .int p2] g (fun r g' => ∃ x, r = some (.int x) ∧ K x g') := by
  obtain ⟨ma, s, hI, hw, hK⟩ := h
  have hN := hw.len.2.2.1
  have hV := hw.len.1
  have hno : ¬ ok_many s p0 p1 p2 → K (-1) g := fun hn => by have := hK g FrX.rf; unfold p_many at this; rw [if_neg hn] at this; exact this
  have hK1 : ok_many s p0 p1 p2 → ∀ g', FrX th [1569, 1570, 1595, 1602] [1594, 1596, 1597, 1598, 1599, 1600, 1601] g g' → K (sMn s p0 p1 p2 (s_vot s).length) g' := fun hok g' hx => by have := hK g' hx; unfold p_many at this; rw [if_pos hok] at this; exact this
  refine rl_M_many (fun n l0 l1 l2 l3 l4 l5 g' => ok_many s p0 p1 p2 ∧ th = l0 ∧ p0 = l1 ∧ p1 = l2 ∧ p2 = l3 ∧ ∃ k, k ≤ (s_vot s).length ∧ n = 1000 * ((s_vot s).length - k) ∧ l5 = nI k ∧ l4 = sMn s p0 p1 p2 k ∧ FrX th [1569, 1570, 1595, 1602] [1594, 1596, 1597, 1598, 1599, 1600, 1601] g g')
    (fun n l0 l1 l2 l3 l4 l5 l6 g' => ok_many s p0 p1 p2 ∧ th = l0 ∧ p0 = l1 ∧ p1 = l2 ∧ p2 = l3 ∧ ∃ k i, k < (s_vot s).length ∧ i ≤ (s_env s).length ∧ n = 1000 * ((s_vot s).length - (k + 1)) + ((s_env s).length - i) + 1 ∧ l5 = nI k ∧ l6 = nI i ∧ l4 = sMv s p0 p1 p2 k (sMn s p0 p1 p2 k) i ∧ FrX th [1569, 1570, 1595, 1602] [1594, 1596, 1597, 1598, 1599, 1600, 1601] g g' ∧ JD th g' s (nI k) p2) ?_ ?_ ?_
  · rintro n l0 l1 l2 l3 l4 l5 g' ⟨hok, rfl, rfl, rfl, rfl, k, hk, rfl, rfl, rfl, hfx⟩
    have hI' := hI.x hfx (by decide +kernel)
    obtain ⟨hkd, hS⟩ := hI'.1
    unfold B_M_many_32
    simp only [hkd, hI'.vot.1, true_and, nj_le (show (s_vot s).length < 2147483648 by omega) (show k < 2147483648 by omega)]
    refine ⟨fun z => ?_, fun z => ⟨ma, s, hI', hw, fun g2 hx2 hJ => ?_⟩⟩
    · have : k = (s_vot s).length := by omega
      rw [this]; exact hK1 hok g' hfx
    · exact ⟨1000 * ((s_vot s).length - (k + 1)) + ((s_env s).length - 0) + 1, by omega, hok, k, 0, by omega, Nat.zero_le _, rfl, rfl, nj_0, rfl, hfx.tr hx2, hJ⟩
  · rintro n l0 l1 l2 l3 l4 l5 l6 g' ⟨hok, rfl, rfl, rfl, rfl, k, i, hk, hi, rfl, rfl, rfl, rfl, hfx, hJ⟩
    have hI' := hI.x hfx (by decide +kernel)
    obtain ⟨hkd, hS⟩ := hI'.1
    obtain ⟨w1, w2, w3⟩ := hI'.env
    obtain ⟨z_voterOf1, z_voterOf2, z_voterOf3, z_voterOf4, z_voterOf5⟩ := hS 1556 20 200 rfl
    obtain ⟨z_sentTold1, z_sentTold2, z_sentTold3, z_sentTold4, z_sentTold5⟩ := hS 1558 20 200 rfl
    obtain ⟨z_states1, z_states2, z_states3, z_states4, z_states5⟩ := hS 1596 20 200 rfl
    obtain ⟨z_dayFor1, z_dayFor2, z_dayFor3, z_dayFor4, z_dayFor5⟩ := hS 1600 20 200 rfl
    obtain ⟨z_sentOn1, z_sentOn2, z_sentOn3, z_sentOn4, z_sentOn5⟩ := hS 1557 20 200 rfl
    obtain ⟨h1, h2, h3⟩ := hJ
    suffices H : ∀ (K32 : Nat → Int32 → Int32 → Int32 → Int32 → Int32 → GH → Prop) (K51 : Nat → Int32 → Int32 → Int32 → Int32 → Int32 → Int32 → GH → Prop), (i = (s_env s).length → K32 th p0 p1 p2 (sMv s p0 p1 p2 k (sMn s p0 p1 p2 k) i) (nI (k + 1)) g') → (∀ a, i < (s_env s).length → a = sMv s p0 p1 p2 k (sMn s p0 p1 p2 k) (i + 1) → K51 th p0 p1 p2 a (nI k) (nI (i + 1)) g') → B_M_many_51 Γ K32 K51 K th p0 p1 p2 (sMv s p0 p1 p2 k (sMn s p0 p1 p2 k) i) (nI k) (nI i) g' from
      H _ _ (fun hi' => ⟨1000 * ((s_vot s).length - (k + 1)), by omega, hok, rfl, rfl, rfl, rfl, k + 1, by omega, rfl, rfl, by rw [hi']; exact (fold_take (fun a v => sMv s p0 p1 p2 v a (s_env s).length) 0 _ (range_get hk)).symm, hfx⟩)
        (fun a hlt ha => ⟨1000 * ((s_vot s).length - (k + 1)) + ((s_env s).length - (i + 1)) + 1, by omega, hok, rfl, rfl, rfl, rfl, k, i + 1, hk, by omega, rfl, rfl, rfl, ha, hfx, ⟨h1, h2, h3⟩⟩)
    intro K32 K51 h32 h51
    unfold B_M_many_51
    simp only [B_M_many_145, hkd, w1, z_voterOf1, z_voterOf2, z_voterOf3, z_voterOf4, z_voterOf5, z_sentTold1, z_sentTold2, z_sentTold3, z_sentTold4, z_sentTold5, z_states1, z_states2, z_states3, z_states4, z_states5, z_dayFor1, z_dayFor2, z_dayFor3, z_dayFor4, z_dayFor5, z_sentOn1, z_sentOn2, z_sentOn3, z_sentOn4, z_sentOn5, Option.some.injEq, exists_eq_left', true_and, nj_s, nj_cl (show i < 2147483648 by omega), nj_le (show (s_env s).length < 2147483648 by omega) (show i < 2147483648 by omega)]
    refine ⟨fun z => h32 (by omega), fun z => ?_⟩
    have hlt : i < (s_env s).length := by omega
    obtain ⟨x, hx⟩ := get_lt hlt
    have hb := inB_nI (show i < 200 by omega) (by omega)
    have hrow := w3 i x hx
    have hnext : sMv s p0 p1 p2 k (sMn s p0 p1 p2 k) (i + 1) = mS s p0 p1 p2 k (sMv s p0 p1 p2 k (sMn s p0 p1 p2 k) i) (x, i) := fold_take _ _ _ (zip_get hx)
    have hno : ¬ (x.1 = nI k ∧ x.2.2.1 ≤ p2 ∧ (sJ s (nI k) p2 i).1 = p1) → K51 th p0 p1 p2 (sMv s p0 p1 p2 k (sMn s p0 p1 p2 k) i) (nI k) (nI (i + 1)) g' := fun hn => h51 _ hlt (by rw [hnext]; unfold mS; rw [if_neg hn])
    simp only [Sp_M_isSent, ifz, hkd, hb, hrow, z_voterOf1, z_voterOf2, z_voterOf3, z_voterOf4, z_voterOf5, z_sentTold1, z_sentTold2, z_sentTold3, z_sentTold4, z_sentTold5, z_states1, z_states2, z_states3, z_states4, z_states5, z_dayFor1, z_dayFor2, z_dayFor3, z_dayFor4, z_dayFor5, z_sentOn1, z_sentOn2, z_sentOn3, z_sentOn4, z_sentOn5, Option.some.injEq, exists_eq_left', true_and, nj_cl (show i < 2147483648 by omega)]
    refine ⟨fun y => hno (fun u => y u.1), fun y1 => ⟨fun y => hno (fun u => y u.2.1), fun y => ?_⟩⟩
    have y2 := Classical.not_not.mp y
    have hil : inLn s (nI k) p2 i := ⟨x, hx, y1, y2⟩
    obtain ⟨j1, j2, j3⟩ := h3 i hil
    rw [j2, j1]
    refine ⟨fun y3 => ?_, fun y3 => hno (fun u => y3 u.2.2)⟩
    have hput : ∀ d, d = sDf s (x, i) p2 → B_M_many_129 Γ K32 K51 K th p0 p1 p2 (nI k) (nI i) d (nI k) th (sMv s p0 p1 p2 k (sMn s p0 p1 p2 k) i) g' := by
      intro d hd
      unfold B_M_many_129
      refine ⟨hkd, ma, s, hI', nj_nneg (by omega), by rw [nj_cl (by omega)]; exact hk, ?_⟩
      rw [nj_cl (show k < 2147483648 by omega), hd]
      simp only [B_M_many_142, B_M_many_145, forall_eq, nj_s]
      exact ⟨fun u => h51 _ hlt (by rw [hnext]; unfold mS; rw [if_pos ⟨y1, y2, y3⟩, if_neg u]), fun u => h51 _ hlt (by rw [hnext]; unfold mS; rw [if_pos ⟨y1, y2, y3⟩, if_pos u])⟩
    exact ⟨fun u => hput _ (by unfold sDf; rw [if_neg u]), fun u => hput _ (by unfold sDf; rw [if_pos u])⟩
  · simp only [B_M_many_0, B_M_many_24, Sp_M_isShire, Sp_M_in, Sp_M_isKnowing, ifz, hI.1.1, hI.now, true_and]
    repeat' with_reducible first | apply And.intro | intro _
    all_goals first | exact hno (by grind) | exact ⟨_, by grind, rfl, rfl, rfl, rfl, 0, Nat.zero_le _, rfl, nj_0, rfl, FrX.rf⟩ | exact ⟨_, by grind, 0, Nat.zero_le _, rfl, nj_0, rfl, FrX.rf⟩
