/-! the reference: count -/
def ctP (s : ST) (k : Nat) : Int32 := ((List.range (s_env s).length).take k).foldl (fun a e => a + if s_hof s e = 0 then 0 else 1) 0
def ctQ (s : ST) (k : Nat) : Int32 := ((List.range (s_env s).length).take k).foldl (fun a e => a + if ¬ s_hof s e = 0 ∧ ((sCn s (s_vot s).length).1 e).isSome = false then 1 else 0) 0
def p_count (s : ST) (c : Int32) : Int32 := if c = 0 then s_now s else if c = 1 then nI (s_vot s).length else if c = 2 then nI (s_env s).length else if c = 3 then nI (s_evt s).length else if c = 4 then nI (s_emp s).length else if c = 5 then nI (s_law s).length else if c = 6 then nI (s_hea s).length else if c = 7 then ctP s (s_env s).length else if c = 8 then ctQ s (s_env s).length else if c = 9 then (sCn s (s_vot s).length).2 else if c = 10 then nI (s_tap s).length else if c = 11 then nI (s_wav s).length else -1
def Sp_M_count (Γ : GAM) (m : Nat) (p0 : Int32) (g : GH) (K : Int32 → GH → Prop) : Prop := ∃ ma s, RefI m ma g s ∧ WF s ∧ ∀ g', FrX m [1569, 1570, 1595, 1602] [1594, 1596, 1597, 1598, 1599, 1600, 1601, 1607, 1608] g g' → K (p_count s p0) g'
-- the walk of M_count
set_option maxRecDepth 100000 in
def B_M_count_88 (Γ : GAM) (K29 : Nat → Int32 → Int32 → Int32 → Int32 → Int32 → GH → Prop) (K : Int32 → GH → Prop) (l0 : Nat) (l1 : Int32) (l2 : Int32) (l4 : Int32) (l5 : Int32) (s0 : Int32) (s1 : Int32) (g : GH) : Prop :=
  ∀ x1 : Int32, x1 = (s1 + s0) → K29 l0 l1 l2 x1 l4 (l5 + (1 : Int32)) g
set_option maxHeartbeats 4000000 in
set_option maxRecDepth 100000 in
theorem S_M_count_88 {Γ : GAM} {E : EV} {K : Int32 → GH → Prop} (hE : GE Γ E cX11_count 6 RX11 (some (.int)) 9 226 (fun r g' => ∃ x, r = some (.int x) ∧ K x g')) {K29 : Nat → Int32 → Int32 → Int32 → Int32 → Int32 → GH → Prop} (hK29 : ∀ (l0 : Nat) (l1 : Int32) (l2 : Int32) (l3 : Int32) (l4 : Int32) (l5 : Int32) (g : GH), K29 l0 l1 l2 l3 l4 l5 g → JW Γ E 29 [some (.ref l0), some (.int l1), some (.int l2), some (.int l3), some (.int l4), some (.int l5)] [] g) (l0 : Nat) (l1 : Int32) (l2 : Int32) (l4 : Int32) (l5 : Int32) (s0 : Int32) (s1 : Int32) (g : GH) (h : B_M_count_88 Γ K29 K l0 l1 l2 l4 l5 s0 s1 g) : JW Γ E 88 [some (.ref l0), some (.int l1), some (.int l2), none, some (.int l4), some (.int l5)] [.int s0, .int s1] g := by
  unfold B_M_count_88 at h
  refine j_iadd hE (by decide +kernel : decode cX11_count 88 = .ok (.iadd, 1)) ?_
  obtain ⟨x1, hx⟩ : ∃ z, z = (s1 + s0) := ⟨_, rfl⟩; replace h := h x1 hx; rw [← hx]
  refine j_istore_n hE (by decide +kernel : decode cX11_count 89 = .ok (.istore_n 3, 1)) rfl (Nat.le_of_ble_eq_true rfl) rfl ?_
  refine j_iinc hE (by decide +kernel : decode cX11_count 90 = .ok (.iinc 5 1, 3)) (v := (1 : Int32)) (by decide) rfl (Nat.le_of_ble_eq_true rfl) rfl ?_
  refine j_goto hE (by decide +kernel : decode cX11_count 93 = .ok (.goto (-64), 3)) (tgt := 29) (by decide) ?_
  exact hK29 _ _ _ _ _ _ _ h
set_option maxRecDepth 100000 in
def B_M_count_87 (Γ : GAM) (K29 : Nat → Int32 → Int32 → Int32 → Int32 → Int32 → GH → Prop) (K : Int32 → GH → Prop) (l0 : Nat) (l1 : Int32) (l2 : Int32) (l4 : Int32) (l5 : Int32) (s0 : Int32) (g : GH) : Prop :=
  B_M_count_88 Γ K29 K l0 l1 l2 l4 l5 (0 : Int32) s0 g
set_option maxHeartbeats 4000000 in
set_option maxRecDepth 100000 in
theorem S_M_count_87 {Γ : GAM} {E : EV} {K : Int32 → GH → Prop} (hE : GE Γ E cX11_count 6 RX11 (some (.int)) 9 226 (fun r g' => ∃ x, r = some (.int x) ∧ K x g')) {K29 : Nat → Int32 → Int32 → Int32 → Int32 → Int32 → GH → Prop} (hK29 : ∀ (l0 : Nat) (l1 : Int32) (l2 : Int32) (l3 : Int32) (l4 : Int32) (l5 : Int32) (g : GH), K29 l0 l1 l2 l3 l4 l5 g → JW Γ E 29 [some (.ref l0), some (.int l1), some (.int l2), some (.int l3), some (.int l4), some (.int l5)] [] g) (l0 : Nat) (l1 : Int32) (l2 : Int32) (l4 : Int32) (l5 : Int32) (s0 : Int32) (g : GH) (h : B_M_count_87 Γ K29 K l0 l1 l2 l4 l5 s0 g) : JW Γ E 87 [some (.ref l0), some (.int l1), some (.int l2), none, some (.int l4), some (.int l5)] [.int s0] g := by
  unfold B_M_count_87 at h
  refine j_iconst hE (by decide +kernel : decode cX11_count 87 = .ok (.iconst 0, 1)) (v := (0 : Int32)) (by decide) ?_
  exact S_M_count_88 hE hK29 _ _ _ _ _ _ _ _ h
set_option maxRecDepth 100000 in
def B_M_count_54 (Γ : GAM) (K29 : Nat → Int32 → Int32 → Int32 → Int32 → Int32 → GH → Prop) (K : Int32 → GH → Prop) (l0 : Nat) (l1 : Int32) (l3 : Int32) (l4 : Int32) (l5 : Int32) (s0 : Int32) (s1 : Int32) (g : GH) : Prop :=
  ∀ x1 : Int32, x1 = (s1 + s0) → ((¬ (l1 = (8 : Int32)) → B_M_count_87 Γ K29 K l0 l1 x1 l4 l5 l3 g) ∧ (l1 = (8 : Int32) → Kd g l0 = 13 ∧ ∃ a2 : Nat, Gr g 1628 l0 = some a2 ∧ Kd g a2 = 20 ∧ inB l5 (Ln g a2) ∧ (((Ia g (Co g a2) (Ow g a2) l5.toNatClampNeg) ≤ 0 → B_M_count_87 Γ K29 K l0 l1 x1 l4 l5 l3 g) ∧ (¬ ((Ia g (Co g a2) (Ow g a2) l5.toNatClampNeg) ≤ 0) → Kd g l0 = 13 ∧ ∃ a3 : Nat, Gr g 1607 l0 = some a3 ∧ Kd g a3 = 21 ∧ inB l5 (Ln g a3) ∧ ((¬ ((Ia g (Co g a3) (Ow g a3) l5.toNatClampNeg) = 0) → B_M_count_87 Γ K29 K l0 l1 x1 l4 l5 l3 g) ∧ ((Ia g (Co g a3) (Ow g a3) l5.toNatClampNeg) = 0 → B_M_count_88 Γ K29 K l0 l1 x1 l4 l5 (1 : Int32) l3 g))))))
set_option maxHeartbeats 4000000 in
set_option maxRecDepth 100000 in
theorem S_M_count_54 {Γ : GAM} {E : EV} {K : Int32 → GH → Prop} (hE : GE Γ E cX11_count 6 RX11 (some (.int)) 9 226 (fun r g' => ∃ x, r = some (.int x) ∧ K x g')) {K29 : Nat → Int32 → Int32 → Int32 → Int32 → Int32 → GH → Prop} (hK29 : ∀ (l0 : Nat) (l1 : Int32) (l2 : Int32) (l3 : Int32) (l4 : Int32) (l5 : Int32) (g : GH), K29 l0 l1 l2 l3 l4 l5 g → JW Γ E 29 [some (.ref l0), some (.int l1), some (.int l2), some (.int l3), some (.int l4), some (.int l5)] [] g) (l0 : Nat) (l1 : Int32) (l3 : Int32) (l4 : Int32) (l5 : Int32) (s0 : Int32) (s1 : Int32) (g : GH) (h : B_M_count_54 Γ K29 K l0 l1 l3 l4 l5 s0 s1 g) : JW Γ E 54 [some (.ref l0), some (.int l1), none, some (.int l3), some (.int l4), some (.int l5)] [.int s0, .int s1] g := by
  unfold B_M_count_54 at h
  refine j_iadd hE (by decide +kernel : decode cX11_count 54 = .ok (.iadd, 1)) ?_
  obtain ⟨x1, hx⟩ : ∃ z, z = (s1 + s0) := ⟨_, rfl⟩; replace h := h x1 hx; rw [← hx]
  refine j_istore_n hE (by decide +kernel : decode cX11_count 55 = .ok (.istore_n 2, 1)) rfl (Nat.le_of_ble_eq_true rfl) rfl ?_
  refine j_iload_n hE (by decide +kernel : decode cX11_count 56 = .ok (.iload_n 3, 1)) rfl rfl ?_
  refine j_iload_n hE (by decide +kernel : decode cX11_count 57 = .ok (.iload_n 1, 1)) rfl rfl ?_
  refine j_bipush hE (by decide +kernel : decode cX11_count 58 = .ok (.bipush 8, 2)) (v := (8 : Int32)) (by decide) ?_
  refine j_icmp_ne hE (by decide +kernel : decode cX11_count 60 = .ok (.if_icmp .ne 27, 3)) (tgt := 87) (by decide) (fun q => ?_) (fun q => ?_)
  · replace h := h.1 q
    refine j_weak [some (.ref l0), some (.int l1), some (.int x1), none, some (.int l4), some (.int l5)] ⟨rfl, ⟨rfl, ⟨rfl, ⟨rfl, ⟨rfl, trivial⟩⟩⟩⟩⟩ ?_
    exact S_M_count_87 hE hK29 _ _ _ _ _ _ _ h
  · replace h := h.2 q
    refine j_aload_n hE (by decide +kernel : decode cX11_count 63 = .ok (.aload_n 0, 1)) rfl rfl ?_
    obtain ⟨hk, h⟩ := h
    obtain ⟨a2, ha, h⟩ := h
    refine j_getRn hE fg_X11_204 hk ha (by decide +kernel : decode cX11_count 64 = .ok (.getfield 204, 3)) ?_
    refine j_iload hE (by decide +kernel : decode cX11_count 67 = .ok (.iload 5, 2)) rfl ?_
    obtain ⟨hk, hb, h⟩ := h
    refine j_iald hE hk hb (by decide +kernel : decode cX11_count 69 = .ok (.iaload, 1)) ?_
    refine j_if_le hE (by decide +kernel : decode cX11_count 70 = .ok (.ifCond .le 17, 3)) (tgt := 87) (by decide) (fun q => ?_) (fun q => ?_)
    · replace h := h.1 q
      refine j_weak [some (.ref l0), some (.int l1), some (.int x1), none, some (.int l4), some (.int l5)] ⟨rfl, ⟨rfl, ⟨rfl, ⟨rfl, ⟨rfl, trivial⟩⟩⟩⟩⟩ ?_
      exact S_M_count_87 hE hK29 _ _ _ _ _ _ _ h
    · replace h := h.2 q
      refine j_aload_n hE (by decide +kernel : decode cX11_count 73 = .ok (.aload_n 0, 1)) rfl rfl ?_
      obtain ⟨hk, h⟩ := h
      obtain ⟨a3, ha, h⟩ := h
      refine j_getRn hE fg_X11_147 hk ha (by decide +kernel : decode cX11_count 74 = .ok (.getfield 147, 3)) ?_
      refine j_iload hE (by decide +kernel : decode cX11_count 77 = .ok (.iload 5, 2)) rfl ?_
      obtain ⟨hk, hb, h⟩ := h
      refine j_zald hE hk hb (by decide +kernel : decode cX11_count 79 = .ok (.baload, 1)) ?_
      refine j_if_ne hE (by decide +kernel : decode cX11_count 80 = .ok (.ifCond .ne 7, 3)) (tgt := 87) (by decide) (fun q => ?_) (fun q => ?_)
      · replace h := h.1 q
        refine j_weak [some (.ref l0), some (.int l1), some (.int x1), none, some (.int l4), some (.int l5)] ⟨rfl, ⟨rfl, ⟨rfl, ⟨rfl, ⟨rfl, trivial⟩⟩⟩⟩⟩ ?_
        exact S_M_count_87 hE hK29 _ _ _ _ _ _ _ h
      · replace h := h.2 q
        refine j_iconst hE (by decide +kernel : decode cX11_count 83 = .ok (.iconst 1, 1)) (v := (1 : Int32)) (by decide) ?_
        refine j_goto hE (by decide +kernel : decode cX11_count 84 = .ok (.goto 4, 3)) (tgt := 88) (by decide) ?_
        refine j_weak [some (.ref l0), some (.int l1), some (.int x1), none, some (.int l4), some (.int l5)] ⟨rfl, ⟨rfl, ⟨rfl, ⟨rfl, ⟨rfl, trivial⟩⟩⟩⟩⟩ ?_
        exact S_M_count_88 hE hK29 _ _ _ _ _ _ _ _ h
set_option maxRecDepth 100000 in
def B_M_count_29 (Γ : GAM) (K29 : Nat → Int32 → Int32 → Int32 → Int32 → Int32 → GH → Prop) (K : Int32 → GH → Prop) (l0 : Nat) (l1 : Int32) (l2 : Int32) (l3 : Int32) (l4 : Int32) (l5 : Int32) (g : GH) : Prop :=
  Kd g l0 = 13 ∧ (((Gi g 1539 l0) ≤ l5 → ((l1 = (0 : Int32) → Kd g l0 = 13 ∧ K (Gi g 1536 l0) g) ∧ (¬ (l1 = (0 : Int32)) → ((l1 = (1 : Int32) → Kd g l0 = 13 ∧ K (Gi g 1537 l0) g) ∧ (¬ (l1 = (1 : Int32)) → ((l1 = (2 : Int32) → Kd g l0 = 13 ∧ K (Gi g 1539 l0) g) ∧ (¬ (l1 = (2 : Int32)) → ((l1 = (3 : Int32) → Kd g l0 = 13 ∧ K (Gi g 1540 l0) g) ∧ (¬ (l1 = (3 : Int32)) → ((l1 = (4 : Int32) → Kd g l0 = 13 ∧ K (Gi g 1541 l0) g) ∧ (¬ (l1 = (4 : Int32)) → ((l1 = (5 : Int32) → Kd g l0 = 13 ∧ K (Gi g 1545 l0) g) ∧ (¬ (l1 = (5 : Int32)) → ((l1 = (6 : Int32) → Kd g l0 = 13 ∧ K (Gi g 1547 l0) g) ∧ (¬ (l1 = (6 : Int32)) → ((l1 = (7 : Int32) → K l2 g) ∧ (¬ (l1 = (7 : Int32)) → ((l1 = (8 : Int32) → K l3 g) ∧ (¬ (l1 = (8 : Int32)) → ((l1 = (9 : Int32) → K l4 g) ∧ (¬ (l1 = (9 : Int32)) → ((l1 = (10 : Int32) → Kd g l0 = 13 ∧ K (Gi g 1588 l0) g) ∧ (¬ (l1 = (10 : Int32)) → ((l1 = (11 : Int32) → Kd g l0 = 13 ∧ K (Gi g 1546 l0) g) ∧ (¬ (l1 = (11 : Int32)) → K (-1 : Int32) g))))))))))))))))))))))))) ∧ (¬ ((Gi g 1539 l0) ≤ l5) → Kd g l0 = 13 ∧ ∃ a1 : Nat, Gr g 1628 l0 = some a1 ∧ Kd g a1 = 20 ∧ inB l5 (Ln g a1) ∧ (((Ia g (Co g a1) (Ow g a1) l5.toNatClampNeg) ≤ 0 → B_M_count_54 Γ K29 K l0 l1 l3 l4 l5 (0 : Int32) l2 g) ∧ (¬ ((Ia g (Co g a1) (Ow g a1) l5.toNatClampNeg) ≤ 0) → B_M_count_54 Γ K29 K l0 l1 l3 l4 l5 (1 : Int32) l2 g))))
set_option maxHeartbeats 4000000 in
set_option maxRecDepth 100000 in
theorem S_M_count_29 {Γ : GAM} {E : EV} {K : Int32 → GH → Prop} (hE : GE Γ E cX11_count 6 RX11 (some (.int)) 9 226 (fun r g' => ∃ x, r = some (.int x) ∧ K x g')) {K29 : Nat → Int32 → Int32 → Int32 → Int32 → Int32 → GH → Prop} (hK29 : ∀ (l0 : Nat) (l1 : Int32) (l2 : Int32) (l3 : Int32) (l4 : Int32) (l5 : Int32) (g : GH), K29 l0 l1 l2 l3 l4 l5 g → JW Γ E 29 [some (.ref l0), some (.int l1), some (.int l2), some (.int l3), some (.int l4), some (.int l5)] [] g) (l0 : Nat) (l1 : Int32) (l2 : Int32) (l3 : Int32) (l4 : Int32) (l5 : Int32) (g : GH) (h : B_M_count_29 Γ K29 K l0 l1 l2 l3 l4 l5 g) : JW Γ E 29 [some (.ref l0), some (.int l1), some (.int l2), some (.int l3), some (.int l4), some (.int l5)] [] g := by
  unfold B_M_count_29 at h
  refine j_iload hE (by decide +kernel : decode cX11_count 29 = .ok (.iload 5, 2)) rfl ?_
  refine j_aload_n hE (by decide +kernel : decode cX11_count 31 = .ok (.aload_n 0, 1)) rfl rfl ?_
  obtain ⟨hk, h⟩ := h
  refine j_getI hE fg_X11_241 hk (by decide +kernel : decode cX11_count 32 = .ok (.getfield 241, 3)) ?_
  refine j_icmp_ge hE (by decide +kernel : decode cX11_count 35 = .ok (.if_icmp .ge 61, 3)) (tgt := 96) (by decide) (fun q => ?_) (fun q => ?_)
  · replace h := h.1 q
    refine j_iload_n hE (by decide +kernel : decode cX11_count 96 = .ok (.iload_n 1, 1)) rfl rfl ?_
    by_cases q0 : l1 = (0 : Int32)
    · replace h := h.1 q0
      refine j_tableIn hE (by decide +kernel : decode cX11_count 97 = .ok (.tableswitch 115 0 11 #[63, 68, 73, 78, 83, 88, 93, 98, 100, 102, 105, 110], 63)) (by rw [q0]; decide) (by rw [q0]; decide) (off := 63) (by rw [q0]; decide) (tgt := 160) (by decide) ?_
      refine j_aload_n hE (by decide +kernel : decode cX11_count 160 = .ok (.aload_n 0, 1)) rfl rfl ?_
      obtain ⟨hk, h⟩ := h
      refine j_getI hE fg_X11_217 hk (by decide +kernel : decode cX11_count 161 = .ok (.getfield 217, 3)) ?_
      exact j_iret hE (by decide +kernel : decode cX11_count 164 = .ok (.ireturn, 1)) ⟨_, rfl, h⟩
    · replace h := h.2 q0
      by_cases q1 : l1 = (1 : Int32)
      · replace h := h.1 q1
        refine j_tableIn hE (by decide +kernel : decode cX11_count 97 = .ok (.tableswitch 115 0 11 #[63, 68, 73, 78, 83, 88, 93, 98, 100, 102, 105, 110], 63)) (by rw [q1]; decide) (by rw [q1]; decide) (off := 68) (by rw [q1]; decide) (tgt := 165) (by decide) ?_
        refine j_aload_n hE (by decide +kernel : decode cX11_count 165 = .ok (.aload_n 0, 1)) rfl rfl ?_
        obtain ⟨hk, h⟩ := h
        refine j_getI hE fg_X11_220 hk (by decide +kernel : decode cX11_count 166 = .ok (.getfield 220, 3)) ?_
        exact j_iret hE (by decide +kernel : decode cX11_count 169 = .ok (.ireturn, 1)) ⟨_, rfl, h⟩
      · replace h := h.2 q1
        by_cases q2 : l1 = (2 : Int32)
        · replace h := h.1 q2
          refine j_tableIn hE (by decide +kernel : decode cX11_count 97 = .ok (.tableswitch 115 0 11 #[63, 68, 73, 78, 83, 88, 93, 98, 100, 102, 105, 110], 63)) (by rw [q2]; decide) (by rw [q2]; decide) (off := 73) (by rw [q2]; decide) (tgt := 170) (by decide) ?_
          refine j_aload_n hE (by decide +kernel : decode cX11_count 170 = .ok (.aload_n 0, 1)) rfl rfl ?_
          obtain ⟨hk, h⟩ := h
          refine j_getI hE fg_X11_241 hk (by decide +kernel : decode cX11_count 171 = .ok (.getfield 241, 3)) ?_
          exact j_iret hE (by decide +kernel : decode cX11_count 174 = .ok (.ireturn, 1)) ⟨_, rfl, h⟩
        · replace h := h.2 q2
          by_cases q3 : l1 = (3 : Int32)
          · replace h := h.1 q3
            refine j_tableIn hE (by decide +kernel : decode cX11_count 97 = .ok (.tableswitch 115 0 11 #[63, 68, 73, 78, 83, 88, 93, 98, 100, 102, 105, 110], 63)) (by rw [q3]; decide) (by rw [q3]; decide) (off := 78) (by rw [q3]; decide) (tgt := 175) (by decide) ?_
            refine j_aload_n hE (by decide +kernel : decode cX11_count 175 = .ok (.aload_n 0, 1)) rfl rfl ?_
            obtain ⟨hk, h⟩ := h
            refine j_getI hE fg_X11_247 hk (by decide +kernel : decode cX11_count 176 = .ok (.getfield 247, 3)) ?_
            exact j_iret hE (by decide +kernel : decode cX11_count 179 = .ok (.ireturn, 1)) ⟨_, rfl, h⟩
          · replace h := h.2 q3
            by_cases q4 : l1 = (4 : Int32)
            · replace h := h.1 q4
              refine j_tableIn hE (by decide +kernel : decode cX11_count 97 = .ok (.tableswitch 115 0 11 #[63, 68, 73, 78, 83, 88, 93, 98, 100, 102, 105, 110], 63)) (by rw [q4]; decide) (by rw [q4]; decide) (off := 83) (by rw [q4]; decide) (tgt := 180) (by decide) ?_
              refine j_aload_n hE (by decide +kernel : decode cX11_count 180 = .ok (.aload_n 0, 1)) rfl rfl ?_
              obtain ⟨hk, h⟩ := h
              refine j_getI hE fg_X11_250 hk (by decide +kernel : decode cX11_count 181 = .ok (.getfield 250, 3)) ?_
              exact j_iret hE (by decide +kernel : decode cX11_count 184 = .ok (.ireturn, 1)) ⟨_, rfl, h⟩
            · replace h := h.2 q4
              by_cases q5 : l1 = (5 : Int32)
              · replace h := h.1 q5
                refine j_tableIn hE (by decide +kernel : decode cX11_count 97 = .ok (.tableswitch 115 0 11 #[63, 68, 73, 78, 83, 88, 93, 98, 100, 102, 105, 110], 63)) (by rw [q5]; decide) (by rw [q5]; decide) (off := 88) (by rw [q5]; decide) (tgt := 185) (by decide) ?_
                refine j_aload_n hE (by decide +kernel : decode cX11_count 185 = .ok (.aload_n 0, 1)) rfl rfl ?_
                obtain ⟨hk, h⟩ := h
                refine j_getI hE fg_X11_364 hk (by decide +kernel : decode cX11_count 186 = .ok (.getfield 364, 3)) ?_
                exact j_iret hE (by decide +kernel : decode cX11_count 189 = .ok (.ireturn, 1)) ⟨_, rfl, h⟩
              · replace h := h.2 q5
                by_cases q6 : l1 = (6 : Int32)
                · replace h := h.1 q6
                  refine j_tableIn hE (by decide +kernel : decode cX11_count 97 = .ok (.tableswitch 115 0 11 #[63, 68, 73, 78, 83, 88, 93, 98, 100, 102, 105, 110], 63)) (by rw [q6]; decide) (by rw [q6]; decide) (off := 93) (by rw [q6]; decide) (tgt := 190) (by decide) ?_
                  refine j_aload_n hE (by decide +kernel : decode cX11_count 190 = .ok (.aload_n 0, 1)) rfl rfl ?_
                  obtain ⟨hk, h⟩ := h
                  refine j_getI hE fg_X11_449 hk (by decide +kernel : decode cX11_count 191 = .ok (.getfield 449, 3)) ?_
                  exact j_iret hE (by decide +kernel : decode cX11_count 194 = .ok (.ireturn, 1)) ⟨_, rfl, h⟩
                · replace h := h.2 q6
                  by_cases q7 : l1 = (7 : Int32)
                  · replace h := h.1 q7
                    refine j_tableIn hE (by decide +kernel : decode cX11_count 97 = .ok (.tableswitch 115 0 11 #[63, 68, 73, 78, 83, 88, 93, 98, 100, 102, 105, 110], 63)) (by rw [q7]; decide) (by rw [q7]; decide) (off := 98) (by rw [q7]; decide) (tgt := 195) (by decide) ?_
                    refine j_iload_n hE (by decide +kernel : decode cX11_count 195 = .ok (.iload_n 2, 1)) rfl rfl ?_
                    exact j_iret hE (by decide +kernel : decode cX11_count 196 = .ok (.ireturn, 1)) ⟨_, rfl, h⟩
                  · replace h := h.2 q7
                    by_cases q8 : l1 = (8 : Int32)
                    · replace h := h.1 q8
                      refine j_tableIn hE (by decide +kernel : decode cX11_count 97 = .ok (.tableswitch 115 0 11 #[63, 68, 73, 78, 83, 88, 93, 98, 100, 102, 105, 110], 63)) (by rw [q8]; decide) (by rw [q8]; decide) (off := 100) (by rw [q8]; decide) (tgt := 197) (by decide) ?_
                      refine j_iload_n hE (by decide +kernel : decode cX11_count 197 = .ok (.iload_n 3, 1)) rfl rfl ?_
                      exact j_iret hE (by decide +kernel : decode cX11_count 198 = .ok (.ireturn, 1)) ⟨_, rfl, h⟩
                    · replace h := h.2 q8
                      by_cases q9 : l1 = (9 : Int32)
                      · replace h := h.1 q9
                        refine j_tableIn hE (by decide +kernel : decode cX11_count 97 = .ok (.tableswitch 115 0 11 #[63, 68, 73, 78, 83, 88, 93, 98, 100, 102, 105, 110], 63)) (by rw [q9]; decide) (by rw [q9]; decide) (off := 102) (by rw [q9]; decide) (tgt := 199) (by decide) ?_
                        refine j_iload hE (by decide +kernel : decode cX11_count 199 = .ok (.iload 4, 2)) rfl ?_
                        exact j_iret hE (by decide +kernel : decode cX11_count 201 = .ok (.ireturn, 1)) ⟨_, rfl, h⟩
                      · replace h := h.2 q9
                        by_cases q10 : l1 = (10 : Int32)
                        · replace h := h.1 q10
                          refine j_tableIn hE (by decide +kernel : decode cX11_count 97 = .ok (.tableswitch 115 0 11 #[63, 68, 73, 78, 83, 88, 93, 98, 100, 102, 105, 110], 63)) (by rw [q10]; decide) (by rw [q10]; decide) (off := 105) (by rw [q10]; decide) (tgt := 202) (by decide) ?_
                          refine j_aload_n hE (by decide +kernel : decode cX11_count 202 = .ok (.aload_n 0, 1)) rfl rfl ?_
                          obtain ⟨hk, h⟩ := h
                          refine j_getI hE fg_X11_298 hk (by decide +kernel : decode cX11_count 203 = .ok (.getfield 298, 3)) ?_
                          exact j_iret hE (by decide +kernel : decode cX11_count 206 = .ok (.ireturn, 1)) ⟨_, rfl, h⟩
                        · replace h := h.2 q10
                          by_cases q11 : l1 = (11 : Int32)
                          · replace h := h.1 q11
                            refine j_tableIn hE (by decide +kernel : decode cX11_count 97 = .ok (.tableswitch 115 0 11 #[63, 68, 73, 78, 83, 88, 93, 98, 100, 102, 105, 110], 63)) (by rw [q11]; decide) (by rw [q11]; decide) (off := 110) (by rw [q11]; decide) (tgt := 207) (by decide) ?_
                            refine j_aload_n hE (by decide +kernel : decode cX11_count 207 = .ok (.aload_n 0, 1)) rfl rfl ?_
                            obtain ⟨hk, h⟩ := h
                            refine j_getI hE fg_X11_459 hk (by decide +kernel : decode cX11_count 208 = .ok (.getfield 459, 3)) ?_
                            exact j_iret hE (by decide +kernel : decode cX11_count 211 = .ok (.ireturn, 1)) ⟨_, rfl, h⟩
                          · replace h := h.2 q11
                            have hD : JW Γ E 212 [some (.ref l0), some (.int l1), some (.int l2), some (.int l3), some (.int l4), some (.int l5)] [] g := by
                              refine j_iconst hE (by decide +kernel : decode cX11_count 212 = .ok (.iconst (-1), 1)) (v := (-1 : Int32)) (by decide) ?_
                              exact j_iret hE (by decide +kernel : decode cX11_count 213 = .ok (.ireturn, 1)) ⟨_, rfl, h⟩
                            have qq : (l1).toInt < 0 ∨ 11 < (l1).toInt := by
                              have z0 : ¬ (l1).toInt = 0 := fun e => q0 (Int32.toInt_inj.mp (e.trans (by decide)))
                              have z1 : ¬ (l1).toInt = 1 := fun e => q1 (Int32.toInt_inj.mp (e.trans (by decide)))
                              have z2 : ¬ (l1).toInt = 2 := fun e => q2 (Int32.toInt_inj.mp (e.trans (by decide)))
                              have z3 : ¬ (l1).toInt = 3 := fun e => q3 (Int32.toInt_inj.mp (e.trans (by decide)))
                              have z4 : ¬ (l1).toInt = 4 := fun e => q4 (Int32.toInt_inj.mp (e.trans (by decide)))
                              have z5 : ¬ (l1).toInt = 5 := fun e => q5 (Int32.toInt_inj.mp (e.trans (by decide)))
                              have z6 : ¬ (l1).toInt = 6 := fun e => q6 (Int32.toInt_inj.mp (e.trans (by decide)))
                              have z7 : ¬ (l1).toInt = 7 := fun e => q7 (Int32.toInt_inj.mp (e.trans (by decide)))
                              have z8 : ¬ (l1).toInt = 8 := fun e => q8 (Int32.toInt_inj.mp (e.trans (by decide)))
                              have z9 : ¬ (l1).toInt = 9 := fun e => q9 (Int32.toInt_inj.mp (e.trans (by decide)))
                              have z10 : ¬ (l1).toInt = 10 := fun e => q10 (Int32.toInt_inj.mp (e.trans (by decide)))
                              have z11 : ¬ (l1).toInt = 11 := fun e => q11 (Int32.toInt_inj.mp (e.trans (by decide)))
                              omega
                            exact j_tableOut hE (by decide +kernel : decode cX11_count 97 = .ok (.tableswitch 115 0 11 #[63, 68, 73, 78, 83, 88, 93, 98, 100, 102, 105, 110], 63)) qq (tgt := 212) (by decide) hD
  · replace h := h.2 q
    refine j_iload_n hE (by decide +kernel : decode cX11_count 38 = .ok (.iload_n 2, 1)) rfl rfl ?_
    refine j_aload_n hE (by decide +kernel : decode cX11_count 39 = .ok (.aload_n 0, 1)) rfl rfl ?_
    obtain ⟨hk, h⟩ := h
    obtain ⟨a1, ha, h⟩ := h
    refine j_getRn hE fg_X11_204 hk ha (by decide +kernel : decode cX11_count 40 = .ok (.getfield 204, 3)) ?_
    refine j_iload hE (by decide +kernel : decode cX11_count 43 = .ok (.iload 5, 2)) rfl ?_
    obtain ⟨hk, hb, h⟩ := h
    refine j_iald hE hk hb (by decide +kernel : decode cX11_count 45 = .ok (.iaload, 1)) ?_
    refine j_if_le hE (by decide +kernel : decode cX11_count 46 = .ok (.ifCond .le 7, 3)) (tgt := 53) (by decide) (fun q => ?_) (fun q => ?_)
    · replace h := h.1 q
      refine j_iconst hE (by decide +kernel : decode cX11_count 53 = .ok (.iconst 0, 1)) (v := (0 : Int32)) (by decide) ?_
      refine j_weak [some (.ref l0), some (.int l1), none, some (.int l3), some (.int l4), some (.int l5)] ⟨rfl, ⟨rfl, ⟨rfl, ⟨rfl, ⟨rfl, trivial⟩⟩⟩⟩⟩ ?_
      exact S_M_count_54 hE hK29 _ _ _ _ _ _ _ _ h
    · replace h := h.2 q
      refine j_iconst hE (by decide +kernel : decode cX11_count 49 = .ok (.iconst 1, 1)) (v := (1 : Int32)) (by decide) ?_
      refine j_goto hE (by decide +kernel : decode cX11_count 50 = .ok (.goto 4, 3)) (tgt := 54) (by decide) ?_
      refine j_weak [some (.ref l0), some (.int l1), none, some (.int l3), some (.int l4), some (.int l5)] ⟨rfl, ⟨rfl, ⟨rfl, ⟨rfl, ⟨rfl, trivial⟩⟩⟩⟩⟩ ?_
      exact S_M_count_54 hE hK29 _ _ _ _ _ _ _ _ h
set_option maxRecDepth 100000 in
def B_M_count_24 (Γ : GAM) (K29 : Nat → Int32 → Int32 → Int32 → Int32 → Int32 → GH → Prop) (K : Int32 → GH → Prop) (l0 : Nat) (l1 : Int32) (l2 : Int32) (l3 : Int32) (s0 : Int32) (g : GH) : Prop :=
  K29 l0 l1 l2 l3 s0 (0 : Int32) g
set_option maxHeartbeats 4000000 in
set_option maxRecDepth 100000 in
theorem S_M_count_24 {Γ : GAM} {E : EV} {K : Int32 → GH → Prop} (hE : GE Γ E cX11_count 6 RX11 (some (.int)) 9 226 (fun r g' => ∃ x, r = some (.int x) ∧ K x g')) {K29 : Nat → Int32 → Int32 → Int32 → Int32 → Int32 → GH → Prop} (hK29 : ∀ (l0 : Nat) (l1 : Int32) (l2 : Int32) (l3 : Int32) (l4 : Int32) (l5 : Int32) (g : GH), K29 l0 l1 l2 l3 l4 l5 g → JW Γ E 29 [some (.ref l0), some (.int l1), some (.int l2), some (.int l3), some (.int l4), some (.int l5)] [] g) (l0 : Nat) (l1 : Int32) (l2 : Int32) (l3 : Int32) (s0 : Int32) (g : GH) (h : B_M_count_24 Γ K29 K l0 l1 l2 l3 s0 g) : JW Γ E 24 [some (.ref l0), some (.int l1), some (.int l2), some (.int l3), none, none] [.int s0] g := by
  unfold B_M_count_24 at h
  refine j_istore hE (by decide +kernel : decode cX11_count 24 = .ok (.istore 4, 2)) (Nat.le_of_ble_eq_true rfl) rfl ?_
  refine j_iconst hE (by decide +kernel : decode cX11_count 26 = .ok (.iconst 0, 1)) (v := (0 : Int32)) (by decide) ?_
  refine j_istore hE (by decide +kernel : decode cX11_count 27 = .ok (.istore 5, 2)) (Nat.le_of_ble_eq_true rfl) rfl ?_
  exact hK29 _ _ _ _ _ _ _ h
set_option maxRecDepth 100000 in
def B_M_count_16 (Γ : GAM) (K29 : Nat → Int32 → Int32 → Int32 → Int32 → Int32 → GH → Prop) (K : Int32 → GH → Prop) (l0 : Nat) (l1 : Int32) (l2 : Int32) (l3 : Int32) (g : GH) : Prop :=
  Kd g l0 = 13 ∧ Sp_M_findCounted Γ l0 g (fun (x2 : Int32) (g1 : GH) => B_M_count_24 Γ K29 K l0 l1 l2 l3 x2 g1)
set_option maxHeartbeats 4000000 in
set_option maxRecDepth 100000 in
theorem S_M_count_16 {Γ : GAM} {E : EV} {K : Int32 → GH → Prop} (hE : GE Γ E cX11_count 6 RX11 (some (.int)) 9 226 (fun r g' => ∃ x, r = some (.int x) ∧ K x g')) {K29 : Nat → Int32 → Int32 → Int32 → Int32 → Int32 → GH → Prop} (hK29 : ∀ (l0 : Nat) (l1 : Int32) (l2 : Int32) (l3 : Int32) (l4 : Int32) (l5 : Int32) (g : GH), K29 l0 l1 l2 l3 l4 l5 g → JW Γ E 29 [some (.ref l0), some (.int l1), some (.int l2), some (.int l3), some (.int l4), some (.int l5)] [] g) (l0 : Nat) (l1 : Int32) (l2 : Int32) (l3 : Int32) (g : GH) (h : B_M_count_16 Γ K29 K l0 l1 l2 l3 g) : JW Γ E 16 [some (.ref l0), some (.int l1), some (.int l2), some (.int l3), none, none] [] g := by
  unfold B_M_count_16 at h
  refine j_aload_n hE (by decide +kernel : decode cX11_count 16 = .ok (.aload_n 0, 1)) rfl rfl ?_
  obtain ⟨hk, h⟩ := h
  refine j_callV hE rfl cl_X11_452 cf_12 im_X11_findCounted se_X11_findCounted ⟨by omega, by omega⟩ (As := []) (rest := []) rfl rfl (Nat.le_of_ble_eq_true rfl) hk (by decide +kernel : decode cX11_count 17 = .ok (.invokevirtual 452, 3)) (mt_M_findCounted _ _ _ h) ?_
  rintro _ g1 ⟨x2, rfl, h⟩
  refine j_goto hE (by decide +kernel : decode cX11_count 20 = .ok (.goto 4, 3)) (tgt := 24) (by decide) ?_
  exact S_M_count_24 hE hK29 _ _ _ _ _ _ h
set_option maxRecDepth 100000 in
def B_M_count_0 (Γ : GAM) (K29 : Nat → Int32 → Int32 → Int32 → Int32 → Int32 → GH → Prop) (K : Int32 → GH → Prop) (th : Nat) (p0 : Int32) (g : GH) : Prop :=
  ((p0 = (8 : Int32) → B_M_count_16 Γ K29 K th p0 (0 : Int32) (0 : Int32) g) ∧ (¬ (p0 = (8 : Int32)) → ((¬ (p0 = (9 : Int32)) → B_M_count_24 Γ K29 K th p0 (0 : Int32) (0 : Int32) (0 : Int32) g) ∧ (p0 = (9 : Int32) → B_M_count_16 Γ K29 K th p0 (0 : Int32) (0 : Int32) g))))
set_option maxHeartbeats 4000000 in
set_option maxRecDepth 100000 in
theorem S_M_count_0 {Γ : GAM} {E : EV} {K : Int32 → GH → Prop} (hE : GE Γ E cX11_count 6 RX11 (some (.int)) 9 226 (fun r g' => ∃ x, r = some (.int x) ∧ K x g')) {K29 : Nat → Int32 → Int32 → Int32 → Int32 → Int32 → GH → Prop} (hK29 : ∀ (l0 : Nat) (l1 : Int32) (l2 : Int32) (l3 : Int32) (l4 : Int32) (l5 : Int32) (g : GH), K29 l0 l1 l2 l3 l4 l5 g → JW Γ E 29 [some (.ref l0), some (.int l1), some (.int l2), some (.int l3), some (.int l4), some (.int l5)] [] g) (th : Nat) (p0 : Int32) (g : GH) (h : B_M_count_0 Γ K29 K th p0 g) : JW Γ E 0 [some (.ref th), some (.int p0), none, none, none, none] [] g := by
  unfold B_M_count_0 at h
  refine j_iconst hE (by decide +kernel : decode cX11_count 0 = .ok (.iconst 0, 1)) (v := (0 : Int32)) (by decide) ?_
  refine j_istore_n hE (by decide +kernel : decode cX11_count 1 = .ok (.istore_n 2, 1)) rfl (Nat.le_of_ble_eq_true rfl) rfl ?_
  refine j_iconst hE (by decide +kernel : decode cX11_count 2 = .ok (.iconst 0, 1)) (v := (0 : Int32)) (by decide) ?_
  refine j_istore_n hE (by decide +kernel : decode cX11_count 3 = .ok (.istore_n 3, 1)) rfl (Nat.le_of_ble_eq_true rfl) rfl ?_
  refine j_iload_n hE (by decide +kernel : decode cX11_count 4 = .ok (.iload_n 1, 1)) rfl rfl ?_
  refine j_bipush hE (by decide +kernel : decode cX11_count 5 = .ok (.bipush 8, 2)) (v := (8 : Int32)) (by decide) ?_
  refine j_icmp_eq hE (by decide +kernel : decode cX11_count 7 = .ok (.if_icmp .eq 9, 3)) (tgt := 16) (by decide) (fun q => ?_) (fun q => ?_)
  · replace h := h.1 q
    exact S_M_count_16 hE hK29 _ _ _ _ _ h
  · replace h := h.2 q
    refine j_iload_n hE (by decide +kernel : decode cX11_count 10 = .ok (.iload_n 1, 1)) rfl rfl ?_
    refine j_bipush hE (by decide +kernel : decode cX11_count 11 = .ok (.bipush 9, 2)) (v := (9 : Int32)) (by decide) ?_
    refine j_icmp_ne hE (by decide +kernel : decode cX11_count 13 = .ok (.if_icmp .ne 10, 3)) (tgt := 23) (by decide) (fun q => ?_) (fun q => ?_)
    · replace h := h.1 q
      refine j_iconst hE (by decide +kernel : decode cX11_count 23 = .ok (.iconst 0, 1)) (v := (0 : Int32)) (by decide) ?_
      exact S_M_count_24 hE hK29 _ _ _ _ _ _ h
    · replace h := h.2 q
      exact S_M_count_16 hE hK29 _ _ _ _ _ h
set_option maxHeartbeats 4000000 in
set_option maxRecDepth 100000 in
theorem rl_M_count {Γ : GAM} {l : Launch} {th : Nat} {p0 : Int32} {g : GH} {K : Int32 → GH → Prop} (I29 : Nat → Nat → Int32 → Int32 → Int32 → Int32 → Int32 → GH → Prop) (hh29 : ∀ n (l0 : Nat) (l1 : Int32) (l2 : Int32) (l3 : Int32) (l4 : Int32) (l5 : Int32) (g : GH), I29 n l0 l1 l2 l3 l4 l5 g → B_M_count_29 Γ (fun l0 l1 l2 l3 l4 l5 g => ∃ m, m < n ∧ I29 m l0 l1 l2 l3 l4 l5 g) K l0 l1 l2 l3 l4 l5 g) (h0 : B_M_count_0 Γ (fun l0 l1 l2 l3 l4 l5 g => ∃ m, I29 m l0 l1 l2 l3 l4 l5 g) K th p0 g) : MetA Γ l yX11_count cX11_count 6 (some (.int)) 9 226 [.ref th, .int p0] g (fun r g' => ∃ x, r = some (.int x) ∧ K x g') := by
  refine MetA.introL (Lx := [some (.ref th), some (.int p0), none, none, none, none]) (by decide) (Nat.le_of_ble_eq_true rfl) rfl rfl ?_
  intro E hEl hE hnm
  have hall : ∀ n, (∀ (l0 : Nat) (l1 : Int32) (l2 : Int32) (l3 : Int32) (l4 : Int32) (l5 : Int32) (g : GH), I29 n l0 l1 l2 l3 l4 l5 g → JW Γ E 29 [some (.ref l0), some (.int l1), some (.int l2), some (.int l3), some (.int l4), some (.int l5)] [] g) := by
    intro n
    induction n using Nat.strongRecOn with
    | ind n ih =>
      exact fun l0 l1 l2 l3 l4 l5 g hi => S_M_count_29 hE (fun l0 l1 l2 l3 l4 l5 g hm => by obtain ⟨m, hm, h⟩ := hm; exact (ih m hm) l0 l1 l2 l3 l4 l5 g h) l0 l1 l2 l3 l4 l5 g (hh29 n l0 l1 l2 l3 l4 l5 g hi)
  exact S_M_count_0 hE (fun l0 l1 l2 l3 l4 l5 g hm => by obtain ⟨m, h⟩ := hm; exact (hall m) l0 l1 l2 l3 l4 l5 g h) th p0 g h0
theorem mt_M_count {Γ : GAM} {l : Launch} (th : Nat) (p0 : Int32) (g : GH) (K : Int32 → GH → Prop) (h : Sp_M_count Γ th p0 g K) : MetA Γ l yX11_count cX11_count 6 (some (.int)) 9 226 [.ref th, .int p0] g (fun r g' => ∃ x, r = some (.int x) ∧ K x g') := by
  obtain ⟨ma, s, hI, hw, hK⟩ := h
  have hN := hw.len.2.2.1
  have hV := hw.len.1
  refine rl_M_count (fun n l0 l1 l2 l3 l4 l5 g' => th = l0 ∧ p0 = l1 ∧ ∃ k, k ≤ (s_env s).length ∧ n = (s_env s).length - k ∧ l5 = nI k ∧ FrX th [1569, 1570, 1595, 1602] [1594, 1596, 1597, 1598, 1599, 1600, 1601, 1607, 1608] g g' ∧ (p0 = 8 → CN th g' s (s_vot s).length) ∧ l2 = ctP s k ∧ (p0 = 8 → l3 = ctQ s k) ∧ (p0 = 9 → l4 = (sCn s (s_vot s).length).2)) ?_ ?_
  · rintro n l0 l1 l2 l3 l4 l5 g' ⟨rfl, rfl, k, hk, rfl, rfl, hfx, hC, rfl, hq, hr⟩
    have hI' := hI.x hfx (by decide +kernel)
    obtain ⟨hkd, hS⟩ := hI'.1
    obtain ⟨z_heapOf1, z_heapOf2, z_heapOf3, z_heapOf4, z_heapOf5⟩ := hS 1628 20 200 rfl
    obtain ⟨z_counted1, z_counted2, z_counted3, z_counted4, z_counted5⟩ := hS 1607 21 200 rfl
    suffices H : ∀ K29 : Nat → Int32 → Int32 → Int32 → Int32 → Int32 → GH → Prop, (∀ a b, k < (s_env s).length → a = ctP s (k + 1) → (p0 = 8 → b = ctQ s (k + 1)) → K29 th p0 a b l4 (nI (k + 1)) g') → B_M_count_29 Γ K29 K th p0 (ctP s k) l3 l4 (nI k) g' from
      H _ (fun a b hlt ha hb => ⟨(s_env s).length - (k + 1), by omega, rfl, rfl, k + 1, by omega, rfl, rfl, hfx, hC, ha, hb, hr⟩)
    intro K29 hnext
    unfold B_M_count_29
    rw [hI'.env.1, nj_le (show (s_env s).length < 2147483648 by omega) (show k < 2147483648 by omega)]
    refine ⟨hkd, fun z => ?_, fun z => ?_⟩
    · have : k = (s_env s).length := by omega
      subst this
      have hK' := hK g' hfx
      unfold p_count at hK'
      rw [hI'.now, hI'.vot.1, hI'.evt.1, hI'.emp.1, hI'.law.1, hI'.hea.1, hI'.tap.1, hI'.wav.1]
      simp only [hkd, true_and]
      clear hnext
      repeat' with_reducible first | apply And.intro | intro _
      all_goals first
        | (simp [*] at hK'; exact hK')
        | (simp only [*, if_true, if_false] at hK' ⊢; exact hK')
        | (subst_vars; simp only [hq rfl]; exact hK')
        | (subst_vars; simp only [hr rfl]; exact hK')
    · have hlt : k < (s_env s).length := by omega
      have hb := inB_nI (show k < 200 by omega) (by omega)
      have hho := hI'.hof k (by omega)
      have hhl := (hw.hof k).1
      have hh0 : (nI (s_hof s k) ≤ (0 : Int32)) ↔ s_hof s k = 0 := (nj_le (b := 0) (by have := hw.len; omega) (by omega)).trans (Nat.le_zero)
      have hsp : ctP s (k + 1) = ctP s k + (if s_hof s k = 0 then 0 else 1) := fold_take _ _ _ (range_get hlt)
      have hsq : ctQ s (k + 1) = ctQ s k + (if ¬ s_hof s k = 0 ∧ ((sCn s (s_vot s).length).1 k).isSome = false then 1 else 0) := fold_take _ _ _ (range_get hlt)
      have hcn : p0 = 8 → (Ia g' 1607 th k = 0 ↔ ((sCn s (s_vot s).length).1 k).isSome = false) := fun q => by
        rw [(hC q k hlt).1]
        cases ((sCn s (s_vot s).length).1 k).isSome <;> simp
      simp only [B_M_count_54, B_M_count_87, B_M_count_88, hkd, hb, hho, hh0, z_heapOf1, z_heapOf2, z_heapOf3, z_heapOf4, z_heapOf5, z_counted1, z_counted2, z_counted3, z_counted4, z_counted5, forall_eq, true_and, Option.some.injEq, exists_eq_left', nj_s, nj_cl (show k < 2147483648 by omega)]
      repeat' with_reducible first | apply And.intro | intro _
      all_goals refine hnext _ _ hlt ?_ (fun q => ?_)
      all_goals first
        | (rw [hsp]; simp [*]; done)
        | (rw [hsp]; congr 1; simp [*]; done)
        | (exfalso; simp_all; done)
        | (rw [hsq, ← hq q]; have hcq := hcn q; simp_all; done)
        | skip
  · unfold B_M_count_0 B_M_count_16 B_M_count_24
    refine ⟨fun _ => ⟨hI.1.1, ma, s, hI, hw, fun g2 hx2 hC => ?_⟩, fun u => ⟨fun u2 => ?_, fun _ => ⟨hI.1.1, ma, s, hI, hw, fun g2 hx2 hC => ?_⟩⟩⟩
    · exact ⟨_, rfl, rfl, 0, Nat.zero_le _, rfl, nj_0, hx2, fun _ => hC, rfl, fun _ => rfl, fun _ => rfl⟩
    · exact ⟨_, rfl, rfl, 0, Nat.zero_le _, rfl, nj_0, FrX.rf, fun q => absurd q u, rfl, fun _ => rfl, fun q => absurd q u2⟩
    · exact ⟨_, rfl, rfl, 0, Nat.zero_le _, rfl, nj_0, hx2, fun _ => hC, rfl, fun _ => rfl, fun _ => rfl⟩
