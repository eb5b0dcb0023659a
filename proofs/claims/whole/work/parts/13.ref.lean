/-! what the reference's object holds of a state -/
def mtab : Nat → Option (Nat × Nat) := fun F => match F with
  | 1549 => some (20, 60)
  | 1550 => some (20, 60)
  | 1551 => some (20, 60)
  | 1552 => some (20, 60)
  | 1553 => some (20, 60)
  | 1554 => some (20, 60)
  | 1555 => some (20, 60)
  | 1556 => some (20, 200)
  | 1557 => some (20, 200)
  | 1558 => some (20, 200)
  | 1559 => some (20, 200)
  | 1560 => some (20, 600)
  | 1561 => some (20, 600)
  | 1562 => some (20, 600)
  | 1563 => some (20, 600)
  | 1564 => some (20, 600)
  | 1565 => some (20, 200)
  | 1566 => some (20, 200)
  | 1567 => some (20, 200)
  | 1568 => some (20, 200)
  | 1571 => some (20, 400)
  | 1572 => some (20, 400)
  | 1573 => some (20, 400)
  | 1574 => some (20, 600)
  | 1575 => some (20, 600)
  | 1576 => some (20, 600)
  | 1577 => some (21, 600)
  | 1578 => some (20, 100)
  | 1579 => some (20, 100)
  | 1580 => some (20, 100)
  | 1581 => some (20, 200)
  | 1582 => some (20, 15600)
  | 1583 => some (20, 520)
  | 1584 => some (20, 30)
  | 1585 => some (20, 30)
  | 1586 => some (20, 30)
  | 1587 => some (20, 30)
  | 1594 => some (20, 260)
  | 1596 => some (20, 200)
  | 1597 => some (20, 200)
  | 1598 => some (20, 200)
  | 1599 => some (20, 200)
  | 1600 => some (20, 200)
  | 1601 => some (20, 200)
  | 1607 => some (21, 200)
  | 1608 => some (20, 200)
  | 1609 => some (20, 200)
  | 1610 => some (20, 12)
  | 1611 => some (20, 12)
  | 1612 => some (20, 12)
  | 1613 => some (20, 12)
  | 1614 => some (20, 12)
  | 1616 => some (20, 81)
  | 1617 => some (21, 8)
  | 1618 => some (20, 8)
  | 1619 => some (20, 8)
  | 1620 => some (21, 8)
  | 1621 => some (20, 8)
  | 1622 => some (20, 8)
  | 1626 => some (20, 4)
  | 1627 => some (20, 200)
  | 1628 => some (20, 200)
  | 1629 => some (20, 40)
  | 1630 => some (20, 40)
  | _ => none
def RefS (m : Nat) (ma : Nat → Nat) (g : GH) : Prop := Kd g m = 13 ∧ ∀ F kd n, mtab F = some (kd, n) → Gr g F m = some (ma F) ∧ Kd g (ma F) = kd ∧ Co g (ma F) = F ∧ Ow g (ma F) = m ∧ Ln g (ma F) = n
def RefI (m : Nat) (ma : Nat → Nat) (g : GH) (s : ST) : Prop :=
  RefS m ma g ∧ Gi g 1536 m = s_now s ∧ Gi g 1548 m = s_siz s ∧
  (Gi g 1537 m = nI (s_vot s).length ∧ (s_vot s).length ≤ 60 ∧ ∀ k x, (s_vot s)[k]? = some x → Ia g 1549 m k = x.1 ∧ Ia g 1550 m k = x.2.1 ∧ Ia g 1551 m k = x.2.2) ∧
  (Gi g 1538 m = nI (s_mov s).length ∧ (s_mov s).length ≤ 60 ∧ ∀ k x, (s_mov s)[k]? = some x → Ia g 1552 m k = x.1 ∧ Ia g 1553 m k = x.2.1 ∧ Ia g 1554 m k = x.2.2.1 ∧ Ia g 1555 m k = x.2.2.2)
def sShS (v d q : Int32) (a : Int32 × Int32) (x : Int32 × Int32 × Int32 × Int32) : Int32 × Int32 := if x.1 = v ∧ x.2.2.2 ≤ q ∧ x.2.2.1 ≤ d ∧ a.2 ≤ x.2.2.1 then (x.2.1, x.2.2.1) else a
def sShire (s : ST) (v : Nat) (d q : Int32) : Int32 := ((s_mov s).foldl (sShS (nI v) d q) (((s_vot s)[v]?.getD default).1, -1)).1
def Sp_M_shireOn (Γ : GAM) (m : Nat) (v d q : Int32) (g : GH) (K : Int32 → GH → Prop) : Prop := ∃ ma s, RefI m ma g s ∧ 0 ≤ v ∧ v.toNatClampNeg < (s_vot s).length ∧ K (sShire s v.toNatClampNeg d q) g
-- the walk of M_shireOn
set_option maxRecDepth 100000 in
def B_M_shireOn_86 (Γ : GAM) (K14 : Nat → Int32 → Int32 → Int32 → Int32 → Int32 → Int32 → GH → Prop) (K : Int32 → GH → Prop) (l0 : Nat) (l1 : Int32) (l2 : Int32) (l3 : Int32) (l4 : Int32) (l5 : Int32) (l6 : Int32) (g : GH) : Prop :=
  K14 l0 l1 l2 l3 l4 l5 (l6 + (1 : Int32)) g
set_option maxHeartbeats 4000000 in
set_option maxRecDepth 100000 in
theorem S_M_shireOn_86 {Γ : GAM} {E : EV} {K : Int32 → GH → Prop} (hE : GE Γ E cX11_shireOn 7 RX11 (some (.int)) 0 0 (fun r g' => ∃ x, r = some (.int x) ∧ K x g')) {K14 : Nat → Int32 → Int32 → Int32 → Int32 → Int32 → Int32 → GH → Prop} (hK14 : ∀ (l0 : Nat) (l1 : Int32) (l2 : Int32) (l3 : Int32) (l4 : Int32) (l5 : Int32) (l6 : Int32) (g : GH), K14 l0 l1 l2 l3 l4 l5 l6 g → JW Γ E 14 [some (.ref l0), some (.int l1), some (.int l2), some (.int l3), some (.int l4), some (.int l5), some (.int l6)] [] g) (l0 : Nat) (l1 : Int32) (l2 : Int32) (l3 : Int32) (l4 : Int32) (l5 : Int32) (l6 : Int32) (g : GH) (h : B_M_shireOn_86 Γ K14 K l0 l1 l2 l3 l4 l5 l6 g) : JW Γ E 86 [some (.ref l0), some (.int l1), some (.int l2), some (.int l3), some (.int l4), some (.int l5), some (.int l6)] [] g := by
  unfold B_M_shireOn_86 at h
  refine j_iinc hE (by decide +kernel : decode cX11_shireOn 86 = .ok (.iinc 6 1, 3)) (v := (1 : Int32)) (by decide) rfl (Nat.le_of_ble_eq_true rfl) rfl ?_
  refine j_goto hE (by decide +kernel : decode cX11_shireOn 89 = .ok (.goto (-75), 3)) (tgt := 14) (by decide) ?_
  exact hK14 _ _ _ _ _ _ _ _ h
set_option maxRecDepth 100000 in
def B_M_shireOn_14 (Γ : GAM) (K14 : Nat → Int32 → Int32 → Int32 → Int32 → Int32 → Int32 → GH → Prop) (K : Int32 → GH → Prop) (l0 : Nat) (l1 : Int32) (l2 : Int32) (l3 : Int32) (l4 : Int32) (l5 : Int32) (l6 : Int32) (g : GH) : Prop :=
  Kd g l0 = 13 ∧ (((Gi g 1538 l0) ≤ l6 → K l4 g) ∧ (¬ ((Gi g 1538 l0) ≤ l6) → Kd g l0 = 13 ∧ ∃ a1 : Nat, Gr g 1552 l0 = some a1 ∧ Kd g a1 = 20 ∧ inB l6 (Ln g a1) ∧ ((¬ ((Ia g (Co g a1) (Ow g a1) l6.toNatClampNeg) = l1) → B_M_shireOn_86 Γ K14 K l0 l1 l2 l3 l4 l5 l6 g) ∧ ((Ia g (Co g a1) (Ow g a1) l6.toNatClampNeg) = l1 → Kd g l0 = 13 ∧ ∃ a2 : Nat, Gr g 1555 l0 = some a2 ∧ Kd g a2 = 20 ∧ inB l6 (Ln g a2) ∧ ((l3 < (Ia g (Co g a2) (Ow g a2) l6.toNatClampNeg) → B_M_shireOn_86 Γ K14 K l0 l1 l2 l3 l4 l5 l6 g) ∧ (¬ (l3 < (Ia g (Co g a2) (Ow g a2) l6.toNatClampNeg)) → Kd g l0 = 13 ∧ ∃ a3 : Nat, Gr g 1554 l0 = some a3 ∧ Kd g a3 = 20 ∧ inB l6 (Ln g a3) ∧ ((l2 < (Ia g (Co g a3) (Ow g a3) l6.toNatClampNeg) → B_M_shireOn_86 Γ K14 K l0 l1 l2 l3 l4 l5 l6 g) ∧ (¬ (l2 < (Ia g (Co g a3) (Ow g a3) l6.toNatClampNeg)) → Kd g l0 = 13 ∧ ∃ a4 : Nat, Gr g 1554 l0 = some a4 ∧ Kd g a4 = 20 ∧ inB l6 (Ln g a4) ∧ (((Ia g (Co g a4) (Ow g a4) l6.toNatClampNeg) < l5 → B_M_shireOn_86 Γ K14 K l0 l1 l2 l3 l4 l5 l6 g) ∧ (¬ ((Ia g (Co g a4) (Ow g a4) l6.toNatClampNeg) < l5) → Kd g l0 = 13 ∧ ∃ a5 : Nat, Gr g 1553 l0 = some a5 ∧ Kd g a5 = 20 ∧ inB l6 (Ln g a5) ∧ ∀ x6 : Int32, x6 = (Ia g (Co g a5) (Ow g a5) l6.toNatClampNeg) → Kd g l0 = 13 ∧ ∃ a7 : Nat, Gr g 1554 l0 = some a7 ∧ Kd g a7 = 20 ∧ inB l6 (Ln g a7) ∧ ∀ x8 : Int32, x8 = (Ia g (Co g a7) (Ow g a7) l6.toNatClampNeg) → B_M_shireOn_86 Γ K14 K l0 l1 l2 l3 x6 x8 l6 g))))))))))
set_option maxHeartbeats 4000000 in
set_option maxRecDepth 100000 in
theorem S_M_shireOn_14 {Γ : GAM} {E : EV} {K : Int32 → GH → Prop} (hE : GE Γ E cX11_shireOn 7 RX11 (some (.int)) 0 0 (fun r g' => ∃ x, r = some (.int x) ∧ K x g')) {K14 : Nat → Int32 → Int32 → Int32 → Int32 → Int32 → Int32 → GH → Prop} (hK14 : ∀ (l0 : Nat) (l1 : Int32) (l2 : Int32) (l3 : Int32) (l4 : Int32) (l5 : Int32) (l6 : Int32) (g : GH), K14 l0 l1 l2 l3 l4 l5 l6 g → JW Γ E 14 [some (.ref l0), some (.int l1), some (.int l2), some (.int l3), some (.int l4), some (.int l5), some (.int l6)] [] g) (l0 : Nat) (l1 : Int32) (l2 : Int32) (l3 : Int32) (l4 : Int32) (l5 : Int32) (l6 : Int32) (g : GH) (h : B_M_shireOn_14 Γ K14 K l0 l1 l2 l3 l4 l5 l6 g) : JW Γ E 14 [some (.ref l0), some (.int l1), some (.int l2), some (.int l3), some (.int l4), some (.int l5), some (.int l6)] [] g := by
  unfold B_M_shireOn_14 at h
  refine j_iload hE (by decide +kernel : decode cX11_shireOn 14 = .ok (.iload 6, 2)) rfl ?_
  refine j_aload_n hE (by decide +kernel : decode cX11_shireOn 16 = .ok (.aload_n 0, 1)) rfl rfl ?_
  obtain ⟨hk, h⟩ := h
  refine j_getI hE fg_X11_231 hk (by decide +kernel : decode cX11_shireOn 17 = .ok (.getfield 231, 3)) ?_
  refine j_icmp_ge hE (by decide +kernel : decode cX11_shireOn 20 = .ok (.if_icmp .ge 72, 3)) (tgt := 92) (by decide) (fun q => ?_) (fun q => ?_)
  · replace h := h.1 q
    refine j_iload hE (by decide +kernel : decode cX11_shireOn 92 = .ok (.iload 4, 2)) rfl ?_
    exact j_iret hE (by decide +kernel : decode cX11_shireOn 94 = .ok (.ireturn, 1)) ⟨_, rfl, h⟩
  · replace h := h.2 q
    refine j_aload_n hE (by decide +kernel : decode cX11_shireOn 23 = .ok (.aload_n 0, 1)) rfl rfl ?_
    obtain ⟨hk, h⟩ := h
    obtain ⟨a1, ha, h⟩ := h
    refine j_getRn hE fg_X11_23 hk ha (by decide +kernel : decode cX11_shireOn 24 = .ok (.getfield 23, 3)) ?_
    refine j_iload hE (by decide +kernel : decode cX11_shireOn 27 = .ok (.iload 6, 2)) rfl ?_
    obtain ⟨hk, hb, h⟩ := h
    refine j_iald hE hk hb (by decide +kernel : decode cX11_shireOn 29 = .ok (.iaload, 1)) ?_
    refine j_iload_n hE (by decide +kernel : decode cX11_shireOn 30 = .ok (.iload_n 1, 1)) rfl rfl ?_
    refine j_icmp_ne hE (by decide +kernel : decode cX11_shireOn 31 = .ok (.if_icmp .ne 55, 3)) (tgt := 86) (by decide) (fun q => ?_) (fun q => ?_)
    · replace h := h.1 q
      exact S_M_shireOn_86 hE hK14 _ _ _ _ _ _ _ _ h
    · replace h := h.2 q
      refine j_aload_n hE (by decide +kernel : decode cX11_shireOn 34 = .ok (.aload_n 0, 1)) rfl rfl ?_
      obtain ⟨hk, h⟩ := h
      obtain ⟨a2, ha, h⟩ := h
      refine j_getRn hE fg_X11_32 hk ha (by decide +kernel : decode cX11_shireOn 35 = .ok (.getfield 32, 3)) ?_
      refine j_iload hE (by decide +kernel : decode cX11_shireOn 38 = .ok (.iload 6, 2)) rfl ?_
      obtain ⟨hk, hb, h⟩ := h
      refine j_iald hE hk hb (by decide +kernel : decode cX11_shireOn 40 = .ok (.iaload, 1)) ?_
      refine j_iload_n hE (by decide +kernel : decode cX11_shireOn 41 = .ok (.iload_n 3, 1)) rfl rfl ?_
      refine j_icmp_gt hE (by decide +kernel : decode cX11_shireOn 42 = .ok (.if_icmp .gt 44, 3)) (tgt := 86) (by decide) (fun q => ?_) (fun q => ?_)
      · replace h := h.1 q
        exact S_M_shireOn_86 hE hK14 _ _ _ _ _ _ _ _ h
      · replace h := h.2 q
        refine j_aload_n hE (by decide +kernel : decode cX11_shireOn 45 = .ok (.aload_n 0, 1)) rfl rfl ?_
        obtain ⟨hk, h⟩ := h
        obtain ⟨a3, ha, h⟩ := h
        refine j_getRn hE fg_X11_29 hk ha (by decide +kernel : decode cX11_shireOn 46 = .ok (.getfield 29, 3)) ?_
        refine j_iload hE (by decide +kernel : decode cX11_shireOn 49 = .ok (.iload 6, 2)) rfl ?_
        obtain ⟨hk, hb, h⟩ := h
        refine j_iald hE hk hb (by decide +kernel : decode cX11_shireOn 51 = .ok (.iaload, 1)) ?_
        refine j_iload_n hE (by decide +kernel : decode cX11_shireOn 52 = .ok (.iload_n 2, 1)) rfl rfl ?_
        refine j_icmp_gt hE (by decide +kernel : decode cX11_shireOn 53 = .ok (.if_icmp .gt 33, 3)) (tgt := 86) (by decide) (fun q => ?_) (fun q => ?_)
        · replace h := h.1 q
          exact S_M_shireOn_86 hE hK14 _ _ _ _ _ _ _ _ h
        · replace h := h.2 q
          refine j_aload_n hE (by decide +kernel : decode cX11_shireOn 56 = .ok (.aload_n 0, 1)) rfl rfl ?_
          obtain ⟨hk, h⟩ := h
          obtain ⟨a4, ha, h⟩ := h
          refine j_getRn hE fg_X11_29 hk ha (by decide +kernel : decode cX11_shireOn 57 = .ok (.getfield 29, 3)) ?_
          refine j_iload hE (by decide +kernel : decode cX11_shireOn 60 = .ok (.iload 6, 2)) rfl ?_
          obtain ⟨hk, hb, h⟩ := h
          refine j_iald hE hk hb (by decide +kernel : decode cX11_shireOn 62 = .ok (.iaload, 1)) ?_
          refine j_iload hE (by decide +kernel : decode cX11_shireOn 63 = .ok (.iload 5, 2)) rfl ?_
          refine j_icmp_lt hE (by decide +kernel : decode cX11_shireOn 65 = .ok (.if_icmp .lt 21, 3)) (tgt := 86) (by decide) (fun q => ?_) (fun q => ?_)
          · replace h := h.1 q
            exact S_M_shireOn_86 hE hK14 _ _ _ _ _ _ _ _ h
          · replace h := h.2 q
            refine j_aload_n hE (by decide +kernel : decode cX11_shireOn 68 = .ok (.aload_n 0, 1)) rfl rfl ?_
            obtain ⟨hk, h⟩ := h
            obtain ⟨a5, ha, h⟩ := h
            refine j_getRn hE fg_X11_26 hk ha (by decide +kernel : decode cX11_shireOn 69 = .ok (.getfield 26, 3)) ?_
            refine j_iload hE (by decide +kernel : decode cX11_shireOn 72 = .ok (.iload 6, 2)) rfl ?_
            obtain ⟨hk, hb, h⟩ := h
            refine j_iald hE hk hb (by decide +kernel : decode cX11_shireOn 74 = .ok (.iaload, 1)) ?_
            obtain ⟨x6, hx⟩ : ∃ z, z = (Ia g (Co g a5) (Ow g a5) l6.toNatClampNeg) := ⟨_, rfl⟩; replace h := h x6 hx; rw [← hx]
            refine j_istore hE (by decide +kernel : decode cX11_shireOn 75 = .ok (.istore 4, 2)) (Nat.le_of_ble_eq_true rfl) rfl ?_
            refine j_aload_n hE (by decide +kernel : decode cX11_shireOn 77 = .ok (.aload_n 0, 1)) rfl rfl ?_
            obtain ⟨hk, h⟩ := h
            obtain ⟨a7, ha, h⟩ := h
            refine j_getRn hE fg_X11_29 hk ha (by decide +kernel : decode cX11_shireOn 78 = .ok (.getfield 29, 3)) ?_
            refine j_iload hE (by decide +kernel : decode cX11_shireOn 81 = .ok (.iload 6, 2)) rfl ?_
            obtain ⟨hk, hb, h⟩ := h
            refine j_iald hE hk hb (by decide +kernel : decode cX11_shireOn 83 = .ok (.iaload, 1)) ?_
            obtain ⟨x8, hx⟩ : ∃ z, z = (Ia g (Co g a7) (Ow g a7) l6.toNatClampNeg) := ⟨_, rfl⟩; replace h := h x8 hx; rw [← hx]
            refine j_istore hE (by decide +kernel : decode cX11_shireOn 84 = .ok (.istore 5, 2)) (Nat.le_of_ble_eq_true rfl) rfl ?_
            exact S_M_shireOn_86 hE hK14 _ _ _ _ _ _ _ _ h
set_option maxRecDepth 100000 in
def B_M_shireOn_0 (Γ : GAM) (K14 : Nat → Int32 → Int32 → Int32 → Int32 → Int32 → Int32 → GH → Prop) (K : Int32 → GH → Prop) (th : Nat) (p0 : Int32) (p1 : Int32) (p2 : Int32) (g : GH) : Prop :=
  Kd g th = 13 ∧ ∃ a1 : Nat, Gr g 1549 th = some a1 ∧ Kd g a1 = 20 ∧ inB p0 (Ln g a1) ∧ ∀ x2 : Int32, x2 = (Ia g (Co g a1) (Ow g a1) p0.toNatClampNeg) → K14 th p0 p1 p2 x2 (-1 : Int32) (0 : Int32) g
set_option maxHeartbeats 4000000 in
set_option maxRecDepth 100000 in
theorem S_M_shireOn_0 {Γ : GAM} {E : EV} {K : Int32 → GH → Prop} (hE : GE Γ E cX11_shireOn 7 RX11 (some (.int)) 0 0 (fun r g' => ∃ x, r = some (.int x) ∧ K x g')) {K14 : Nat → Int32 → Int32 → Int32 → Int32 → Int32 → Int32 → GH → Prop} (hK14 : ∀ (l0 : Nat) (l1 : Int32) (l2 : Int32) (l3 : Int32) (l4 : Int32) (l5 : Int32) (l6 : Int32) (g : GH), K14 l0 l1 l2 l3 l4 l5 l6 g → JW Γ E 14 [some (.ref l0), some (.int l1), some (.int l2), some (.int l3), some (.int l4), some (.int l5), some (.int l6)] [] g) (th : Nat) (p0 : Int32) (p1 : Int32) (p2 : Int32) (g : GH) (h : B_M_shireOn_0 Γ K14 K th p0 p1 p2 g) : JW Γ E 0 [some (.ref th), some (.int p0), some (.int p1), some (.int p2), none, none, none] [] g := by
  unfold B_M_shireOn_0 at h
  refine j_aload_n hE (by decide +kernel : decode cX11_shireOn 0 = .ok (.aload_n 0, 1)) rfl rfl ?_
  obtain ⟨hk, h⟩ := h
  obtain ⟨a1, ha, h⟩ := h
  refine j_getRn hE fg_X11_13 hk ha (by decide +kernel : decode cX11_shireOn 1 = .ok (.getfield 13, 3)) ?_
  refine j_iload_n hE (by decide +kernel : decode cX11_shireOn 4 = .ok (.iload_n 1, 1)) rfl rfl ?_
  obtain ⟨hk, hb, h⟩ := h
  refine j_iald hE hk hb (by decide +kernel : decode cX11_shireOn 5 = .ok (.iaload, 1)) ?_
  obtain ⟨x2, hx⟩ : ∃ z, z = (Ia g (Co g a1) (Ow g a1) p0.toNatClampNeg) := ⟨_, rfl⟩; replace h := h x2 hx; rw [← hx]
  refine j_istore hE (by decide +kernel : decode cX11_shireOn 6 = .ok (.istore 4, 2)) (Nat.le_of_ble_eq_true rfl) rfl ?_
  refine j_iconst hE (by decide +kernel : decode cX11_shireOn 8 = .ok (.iconst (-1), 1)) (v := (-1 : Int32)) (by decide) ?_
  refine j_istore hE (by decide +kernel : decode cX11_shireOn 9 = .ok (.istore 5, 2)) (Nat.le_of_ble_eq_true rfl) rfl ?_
  refine j_iconst hE (by decide +kernel : decode cX11_shireOn 11 = .ok (.iconst 0, 1)) (v := (0 : Int32)) (by decide) ?_
  refine j_istore hE (by decide +kernel : decode cX11_shireOn 12 = .ok (.istore 6, 2)) (Nat.le_of_ble_eq_true rfl) rfl ?_
  exact hK14 _ _ _ _ _ _ _ _ h
set_option maxHeartbeats 4000000 in
set_option maxRecDepth 100000 in
theorem rl_M_shireOn {Γ : GAM} {l : Launch} {th : Nat} {p0 : Int32} {p1 : Int32} {p2 : Int32} {g : GH} {K : Int32 → GH → Prop} (I14 : Nat → Nat → Int32 → Int32 → Int32 → Int32 → Int32 → Int32 → GH → Prop) (hh14 : ∀ n (l0 : Nat) (l1 : Int32) (l2 : Int32) (l3 : Int32) (l4 : Int32) (l5 : Int32) (l6 : Int32) (g : GH), I14 n l0 l1 l2 l3 l4 l5 l6 g → B_M_shireOn_14 Γ (fun l0 l1 l2 l3 l4 l5 l6 g => ∃ m, m < n ∧ I14 m l0 l1 l2 l3 l4 l5 l6 g) K l0 l1 l2 l3 l4 l5 l6 g) (h0 : B_M_shireOn_0 Γ (fun l0 l1 l2 l3 l4 l5 l6 g => ∃ m, I14 m l0 l1 l2 l3 l4 l5 l6 g) K th p0 p1 p2 g) : MetA Γ l yX11_shireOn cX11_shireOn 7 (some (.int)) 0 0 [.ref th, .int p0, .int p1, .int p2] g (fun r g' => ∃ x, r = some (.int x) ∧ K x g') := by
  refine MetA.introL (Lx := [some (.ref th), some (.int p0), some (.int p1), some (.int p2), none, none, none]) (by decide) (Nat.le_of_ble_eq_true rfl) rfl rfl ?_
  intro E hEl hE hnm
  have hall : ∀ n, (∀ (l0 : Nat) (l1 : Int32) (l2 : Int32) (l3 : Int32) (l4 : Int32) (l5 : Int32) (l6 : Int32) (g : GH), I14 n l0 l1 l2 l3 l4 l5 l6 g → JW Γ E 14 [some (.ref l0), some (.int l1), some (.int l2), some (.int l3), some (.int l4), some (.int l5), some (.int l6)] [] g) := by
    intro n
    induction n using Nat.strongRecOn with
    | ind n ih =>
      exact fun l0 l1 l2 l3 l4 l5 l6 g hi => S_M_shireOn_14 hE (fun l0 l1 l2 l3 l4 l5 l6 g hm => by obtain ⟨m, hm, h⟩ := hm; exact (ih m hm) l0 l1 l2 l3 l4 l5 l6 g h) l0 l1 l2 l3 l4 l5 l6 g (hh14 n l0 l1 l2 l3 l4 l5 l6 g hi)
  exact S_M_shireOn_0 hE (fun l0 l1 l2 l3 l4 l5 l6 g hm => by obtain ⟨m, h⟩ := hm; exact (hall m) l0 l1 l2 l3 l4 l5 l6 g h) th p0 p1 p2 g h0
theorem mt_M_shireOn {Γ : GAM} {l : Launch} (th : Nat) (p0 : Int32) (p1 : Int32) (p2 : Int32) (g : GH) (K : Int32 → GH → Prop) (h : Sp_M_shireOn Γ th p0 p1 p2 g K) : MetA Γ l yX11_shireOn cX11_shireOn 7 (some (.int)) 0 0 [.ref th, .int p0, .int p1, .int p2] g (fun r g' => ∃ x, r = some (.int x) ∧ K x g') := by
  obtain ⟨ma, s, hI, hv0, hv, hK⟩ := h
  obtain ⟨⟨hkd, hS⟩, -, -, ⟨e1, e2, e3⟩, f1, f2, f3⟩ := hI
  obtain ⟨b1, b2, b3, b4, b5⟩ := hS 1552 20 60 rfl
  obtain ⟨c1, c2, c3, c4, c5⟩ := hS 1553 20 60 rfl
  obtain ⟨d1, d2, d3, d4, d5⟩ := hS 1554 20 60 rfl
  obtain ⟨i1, i2, i3, i4, i5⟩ := hS 1555 20 60 rfl
  obtain ⟨j1, j2, j3, j4, j5⟩ := hS 1549 20 60 rfl
  obtain ⟨hvv, hvl⟩ := nj_of hv0
  refine rl_M_shireOn (fun n l0 l1 l2 l3 l4 l5 l6 g' => g' = g ∧ l0 = th ∧ l1 = p0 ∧ l2 = p1 ∧ l3 = p2 ∧ ∃ k, k ≤ (s_mov s).length ∧ n = (s_mov s).length - k ∧ l6 = nI k ∧ (l4, l5) = ((s_mov s).take k).foldl (sShS p0 p1 p2) (((s_vot s)[p0.toNatClampNeg]?.getD default).1, -1)) ?_ ?_
  · rintro n l0 l1 l2 l3 l4 l5 l6 g' ⟨rfl, rfl, rfl, rfl, rfl, k, hk, hn, rfl, hf⟩
    unfold B_M_shireOn_14
    simp only [hkd, f1, b1, b2, b3, b4, b5, c1, c2, c3, c4, c5, d1, d2, d3, d4, d5, i1, i2, i3, i4, i5, Option.some.injEq, exists_eq_left', true_and, nj_le (show (s_mov s).length < 2147483648 by omega) (show k < 2147483648 by omega), nj_cl (show k < 2147483648 by omega)]
    refine ⟨fun q => ?_, fun q => ?_⟩
    · have : k = (s_mov s).length := by omega
      rw [this, List.take_length] at hf
      have e : l4 = sShire s l1.toNatClampNeg l2 l3 := by unfold sShire; rw [← hvv, ← hf]
      rw [e]; exact hK
    · obtain ⟨x, hx⟩ := get_lt (show k < (s_mov s).length by omega)
      obtain ⟨x1, x2, x3, x4⟩ := f3 k x hx
      have hb := inB_nI (show k < 60 by omega) (by omega)
      simp only [x1, x2, x3, x4, hb, true_and]
      have hnext : ∀ a b : Int32, (a, b) = sShS l1 l2 l3 (l4, l5) x → B_M_shireOn_86 Γ (fun l0' l1' l2' l3' l4 l5 l6 g => ∃ m, m < n ∧ g = g' ∧ l0' = l0 ∧ l1' = l1 ∧ l2' = l2 ∧ l3' = l3 ∧ ∃ k, k ≤ (s_mov s).length ∧ m = (s_mov s).length - k ∧ l6 = nI k ∧ (l4, l5) = ((s_mov s).take k).foldl (sShS l1 l2 l3) (((s_vot s)[l1.toNatClampNeg]?.getD default).1, -1)) K l0 l1 l2 l3 a b (nI k) g' := by
        intro a b hab
        unfold B_M_shireOn_86
        refine ⟨(s_mov s).length - (k + 1), by omega, rfl, rfl, rfl, rfl, rfl, k + 1, by omega, rfl, nj_s k, ?_⟩
        rw [fold_take _ _ _ hx, ← hf]
        exact hab
      unfold sShS at hnext
      dsimp only at hnext
      repeat' first | apply And.intro | intro _
      all_goals subst_vars
      all_goals refine hnext _ _ ?_
      all_goals grind
  · unfold B_M_shireOn_0
    sorry
