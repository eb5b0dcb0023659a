/-! the reference: heaps, bytes -/
def byB (a b c d f k : Int32) : Int32 := ((if 4 ≤ k then (if 8 ≤ k then (if 12 ≤ k then (if 16 ≤ k then f else d) else c) else b) else a) >>> ((24 - 8 * (k - k / 4 * 4)) &&& 31)) &&& 255
def Sp_M_byteOf (Γ : GAM) (a b c d f k : Int32) (g : GH) (K : Int32 → GH → Prop) : Prop := K (byB a b c d f k) g
-- the walk of M_byteOf
set_option maxRecDepth 100000 in
def B_M_byteOf_45 (Γ : GAM) (K : Int32 → GH → Prop) (l5 : Int32) (s0 : Int32) (g : GH) : Prop :=
  K ((s0 >>> (((24 : Int32) - ((8 : Int32) * (l5 - l5 / (4 : Int32) * (4 : Int32)))) &&& 31)) &&& (255 : Int32)) g
set_option maxHeartbeats 4000000 in
set_option maxRecDepth 100000 in
theorem S_M_byteOf_45 {Γ : GAM} {E : EV} {K : Int32 → GH → Prop} (hE : GE Γ E cX11_byteOf 7 RX11 (some (.int)) 0 0 (fun r g' => ∃ x, r = some (.int x) ∧ K x g')) (l5 : Int32) (s0 : Int32) (g : GH) (h : B_M_byteOf_45 Γ K l5 s0 g) : JW Γ E 45 [none, none, none, none, none, some (.int l5), none] [.int s0] g := by
  unfold B_M_byteOf_45 at h
  refine j_istore hE (by decide +kernel : decode cX11_byteOf 45 = .ok (.istore 6, 2)) (Nat.le_of_ble_eq_true rfl) rfl ?_
  refine j_iload hE (by decide +kernel : decode cX11_byteOf 47 = .ok (.iload 6, 2)) rfl ?_
  refine j_bipush hE (by decide +kernel : decode cX11_byteOf 49 = .ok (.bipush 24, 2)) (v := (24 : Int32)) (by decide) ?_
  refine j_bipush hE (by decide +kernel : decode cX11_byteOf 51 = .ok (.bipush 8, 2)) (v := (8 : Int32)) (by decide) ?_
  refine j_iload hE (by decide +kernel : decode cX11_byteOf 53 = .ok (.iload 5, 2)) rfl ?_
  refine j_iconst hE (by decide +kernel : decode cX11_byteOf 55 = .ok (.iconst 4, 1)) (v := (4 : Int32)) (by decide) ?_
  refine j_irem hE (by decide +kernel : decode cX11_byteOf 56 = .ok (.irem, 1)) (by decide) ?_
  refine j_imul hE (by decide +kernel : decode cX11_byteOf 57 = .ok (.imul, 1)) ?_
  refine j_isub hE (by decide +kernel : decode cX11_byteOf 58 = .ok (.isub, 1)) ?_
  refine j_ishr hE (by decide +kernel : decode cX11_byteOf 59 = .ok (.ishr, 1)) ?_
  refine j_sipush hE (by decide +kernel : decode cX11_byteOf 60 = .ok (.sipush 255, 3)) (v := (255 : Int32)) (by decide) ?_
  refine j_iand hE (by decide +kernel : decode cX11_byteOf 63 = .ok (.iand, 1)) ?_
  exact j_iret hE (by decide +kernel : decode cX11_byteOf 64 = .ok (.ireturn, 1)) ⟨_, rfl, h⟩
set_option maxRecDepth 100000 in
def B_M_byteOf_0 (Γ : GAM) (K : Int32 → GH → Prop) (p0 : Int32) (p1 : Int32) (p2 : Int32) (p3 : Int32) (p4 : Int32) (p5 : Int32) (g : GH) : Prop :=
  (((4 : Int32) ≤ p5 → (((8 : Int32) ≤ p5 → (((12 : Int32) ≤ p5 → (((16 : Int32) ≤ p5 → B_M_byteOf_45 Γ K p5 p4 g) ∧ (¬ ((16 : Int32) ≤ p5) → B_M_byteOf_45 Γ K p5 p3 g))) ∧ (¬ ((12 : Int32) ≤ p5) → B_M_byteOf_45 Γ K p5 p2 g))) ∧ (¬ ((8 : Int32) ≤ p5) → B_M_byteOf_45 Γ K p5 p1 g))) ∧ (¬ ((4 : Int32) ≤ p5) → B_M_byteOf_45 Γ K p5 p0 g))
set_option maxHeartbeats 4000000 in
set_option maxRecDepth 100000 in
theorem S_M_byteOf_0 {Γ : GAM} {E : EV} {K : Int32 → GH → Prop} (hE : GE Γ E cX11_byteOf 7 RX11 (some (.int)) 0 0 (fun r g' => ∃ x, r = some (.int x) ∧ K x g')) (p0 : Int32) (p1 : Int32) (p2 : Int32) (p3 : Int32) (p4 : Int32) (p5 : Int32) (g : GH) (h : B_M_byteOf_0 Γ K p0 p1 p2 p3 p4 p5 g) : JW Γ E 0 [some (.int p0), some (.int p1), some (.int p2), some (.int p3), some (.int p4), some (.int p5), none] [] g := by
  unfold B_M_byteOf_0 at h
  refine j_iload hE (by decide +kernel : decode cX11_byteOf 0 = .ok (.iload 5, 2)) rfl ?_
  refine j_iconst hE (by decide +kernel : decode cX11_byteOf 2 = .ok (.iconst 4, 1)) (v := (4 : Int32)) (by decide) ?_
  refine j_icmp_ge hE (by decide +kernel : decode cX11_byteOf 3 = .ok (.if_icmp .ge 7, 3)) (tgt := 10) (by decide) (fun q => ?_) (fun q => ?_)
  · replace h := h.1 q
    refine j_iload hE (by decide +kernel : decode cX11_byteOf 10 = .ok (.iload 5, 2)) rfl ?_
    refine j_bipush hE (by decide +kernel : decode cX11_byteOf 12 = .ok (.bipush 8, 2)) (v := (8 : Int32)) (by decide) ?_
    refine j_icmp_ge hE (by decide +kernel : decode cX11_byteOf 14 = .ok (.if_icmp .ge 7, 3)) (tgt := 21) (by decide) (fun q => ?_) (fun q => ?_)
    · replace h := h.1 q
      refine j_iload hE (by decide +kernel : decode cX11_byteOf 21 = .ok (.iload 5, 2)) rfl ?_
      refine j_bipush hE (by decide +kernel : decode cX11_byteOf 23 = .ok (.bipush 12, 2)) (v := (12 : Int32)) (by decide) ?_
      refine j_icmp_ge hE (by decide +kernel : decode cX11_byteOf 25 = .ok (.if_icmp .ge 7, 3)) (tgt := 32) (by decide) (fun q => ?_) (fun q => ?_)
      · replace h := h.1 q
        refine j_iload hE (by decide +kernel : decode cX11_byteOf 32 = .ok (.iload 5, 2)) rfl ?_
        refine j_bipush hE (by decide +kernel : decode cX11_byteOf 34 = .ok (.bipush 16, 2)) (v := (16 : Int32)) (by decide) ?_
        refine j_icmp_ge hE (by decide +kernel : decode cX11_byteOf 36 = .ok (.if_icmp .ge 7, 3)) (tgt := 43) (by decide) (fun q => ?_) (fun q => ?_)
        · replace h := h.1 q
          refine j_iload hE (by decide +kernel : decode cX11_byteOf 43 = .ok (.iload 4, 2)) rfl ?_
          refine j_weak [none, none, none, none, none, some (.int p5), none] ⟨rfl, trivial⟩ ?_
          exact S_M_byteOf_45 hE _ _ _ h
        · replace h := h.2 q
          refine j_iload_n hE (by decide +kernel : decode cX11_byteOf 39 = .ok (.iload_n 3, 1)) rfl rfl ?_
          refine j_goto hE (by decide +kernel : decode cX11_byteOf 40 = .ok (.goto 5, 3)) (tgt := 45) (by decide) ?_
          refine j_weak [none, none, none, none, none, some (.int p5), none] ⟨rfl, trivial⟩ ?_
          exact S_M_byteOf_45 hE _ _ _ h
      · replace h := h.2 q
        refine j_iload_n hE (by decide +kernel : decode cX11_byteOf 28 = .ok (.iload_n 2, 1)) rfl rfl ?_
        refine j_goto hE (by decide +kernel : decode cX11_byteOf 29 = .ok (.goto 16, 3)) (tgt := 45) (by decide) ?_
        refine j_weak [none, none, none, none, none, some (.int p5), none] ⟨rfl, trivial⟩ ?_
        exact S_M_byteOf_45 hE _ _ _ h
    · replace h := h.2 q
      refine j_iload_n hE (by decide +kernel : decode cX11_byteOf 17 = .ok (.iload_n 1, 1)) rfl rfl ?_
      refine j_goto hE (by decide +kernel : decode cX11_byteOf 18 = .ok (.goto 27, 3)) (tgt := 45) (by decide) ?_
      refine j_weak [none, none, none, none, none, some (.int p5), none] ⟨rfl, trivial⟩ ?_
      exact S_M_byteOf_45 hE _ _ _ h
  · replace h := h.2 q
    refine j_iload_n hE (by decide +kernel : decode cX11_byteOf 6 = .ok (.iload_n 0, 1)) rfl rfl ?_
    refine j_goto hE (by decide +kernel : decode cX11_byteOf 7 = .ok (.goto 38, 3)) (tgt := 45) (by decide) ?_
    refine j_weak [none, none, none, none, none, some (.int p5), none] ⟨rfl, trivial⟩ ?_
    exact S_M_byteOf_45 hE _ _ _ h
set_option maxHeartbeats 4000000 in
set_option maxRecDepth 100000 in
theorem rl_M_byteOf {Γ : GAM} {l : Launch} {p0 : Int32} {p1 : Int32} {p2 : Int32} {p3 : Int32} {p4 : Int32} {p5 : Int32} {g : GH} {K : Int32 → GH → Prop} (h0 : B_M_byteOf_0 Γ K p0 p1 p2 p3 p4 p5 g) : MetA Γ l yX11_byteOf cX11_byteOf 7 (some (.int)) 0 0 [.int p0, .int p1, .int p2, .int p3, .int p4, .int p5] g (fun r g' => ∃ x, r = some (.int x) ∧ K x g') := by
  refine MetA.introL (Lx := [some (.int p0), some (.int p1), some (.int p2), some (.int p3), some (.int p4), some (.int p5), none]) (by decide) (Nat.le_of_ble_eq_true rfl) rfl rfl ?_
  intro E hEl hE hnm
  exact S_M_byteOf_0 hE p0 p1 p2 p3 p4 p5 g h0
theorem mt_M_byteOf {Γ : GAM} {l : Launch} (p0 : Int32) (p1 : Int32) (p2 : Int32) (p3 : Int32) (p4 : Int32) (p5 : Int32) (g : GH) (K : Int32 → GH → Prop) (h : Sp_M_byteOf Γ p0 p1 p2 p3 p4 p5 g K) : MetA Γ l yX11_byteOf cX11_byteOf 7 (some (.int)) 0 0 [.int p0, .int p1, .int p2, .int p3, .int p4, .int p5] g (fun r g' => ∃ x, r = some (.int x) ∧ K x g') := by
  unfold Sp_M_byteOf byB at h
  refine rl_M_byteOf ?_
  unfold B_M_byteOf_0 B_M_byteOf_45
  refine ⟨fun u => ⟨fun u2 => ⟨fun u3 => ⟨fun u4 => ?_, fun u4 => ?_⟩, fun u3 => ?_⟩, fun u2 => ?_⟩, fun u => ?_⟩
  · rw [if_pos u, if_pos u2, if_pos u3, if_pos u4] at h; exact h
  · rw [if_pos u, if_pos u2, if_pos u3, if_neg u4] at h; exact h
  · rw [if_pos u, if_pos u2, if_neg u3] at h; exact h
  · rw [if_pos u, if_neg u2] at h; exact h
  · rw [if_neg u] at h; exact h
def hpS (s : ST) (h : Nat) (c : Int32) (a : Int32) (p : Em × Nat) : Int32 := a + (if s_hof s p.2 = h + 1 ∧ (c = 5 ∨ p.1.2.2.2 = c) then 1 else 0)
def sHp (s : ST) (h : Nat) (c : Int32) : Int32 := (s_env s).zipIdx.foldl (hpS s h c) 0
def sHea (s : ST) (h : Int32) : Int32 × Int32 := (s_hea s)[h.toNatClampNeg]?.getD default
abbrev ok_heap (s : ST) (p0 p1 : Int32) : Prop := (0 ≤ p0 ∧ p0 ≤ nI (s_hea s).length - 1) ∧ (0 ≤ p1 ∧ p1 ≤ 7)
def p_heap (s : ST) (p0 p1 : Int32) : Int32 := if ok_heap s p0 p1 then (if p1 ≤ 5 then sHp s p0.toNatClampNeg p1 else if p1 = 6 then (sHea s p0).1 else (sHea s p0).2) else -1
def Sp_M_heap (Γ : GAM) (m : Nat) (p0 p1 : Int32) (g : GH) (K : Int32 → GH → Prop) : Prop := ∃ ma s, RefI m ma g s ∧ WF s ∧ K (p_heap s p0 p1) g
-- the walk of M_heap
set_option maxRecDepth 100000 in
def B_M_heap_102 (Γ : GAM) (K58 : Nat → Int32 → Int32 → Int32 → Int32 → GH → Prop) (K : Int32 → GH → Prop) (l0 : Nat) (l1 : Int32) (l2 : Int32) (l4 : Int32) (s0 : Int32) (s1 : Int32) (g : GH) : Prop :=
  ∀ x1 : Int32, x1 = (s1 + s0) → K58 l0 l1 l2 x1 (l4 + (1 : Int32)) g
set_option maxHeartbeats 4000000 in
set_option maxRecDepth 100000 in
theorem S_M_heap_102 {Γ : GAM} {E : EV} {K : Int32 → GH → Prop} (hE : GE Γ E cX11_heap 5 RX11 (some (.int)) 1 22 (fun r g' => ∃ x, r = some (.int x) ∧ K x g')) {K58 : Nat → Int32 → Int32 → Int32 → Int32 → GH → Prop} (hK58 : ∀ (l0 : Nat) (l1 : Int32) (l2 : Int32) (l3 : Int32) (l4 : Int32) (g : GH), K58 l0 l1 l2 l3 l4 g → JW Γ E 58 [some (.ref l0), some (.int l1), some (.int l2), some (.int l3), some (.int l4)] [] g) (l0 : Nat) (l1 : Int32) (l2 : Int32) (l4 : Int32) (s0 : Int32) (s1 : Int32) (g : GH) (h : B_M_heap_102 Γ K58 K l0 l1 l2 l4 s0 s1 g) : JW Γ E 102 [some (.ref l0), some (.int l1), some (.int l2), none, some (.int l4)] [.int s0, .int s1] g := by
  unfold B_M_heap_102 at h
  refine j_iadd hE (by decide +kernel : decode cX11_heap 102 = .ok (.iadd, 1)) ?_
  obtain ⟨x1, hx⟩ : ∃ z, z = (s1 + s0) := ⟨_, rfl⟩; replace h := h x1 hx; rw [← hx]
  refine j_istore_n hE (by decide +kernel : decode cX11_heap 103 = .ok (.istore_n 3, 1)) rfl (Nat.le_of_ble_eq_true rfl) rfl ?_
  refine j_iinc hE (by decide +kernel : decode cX11_heap 104 = .ok (.iinc 4 1, 3)) (v := (1 : Int32)) (by decide) rfl (Nat.le_of_ble_eq_true rfl) rfl ?_
  refine j_goto hE (by decide +kernel : decode cX11_heap 107 = .ok (.goto (-49), 3)) (tgt := 58) (by decide) ?_
  exact hK58 _ _ _ _ _ _ h
set_option maxRecDepth 100000 in
def B_M_heap_101 (Γ : GAM) (K58 : Nat → Int32 → Int32 → Int32 → Int32 → GH → Prop) (K : Int32 → GH → Prop) (l0 : Nat) (l1 : Int32) (l2 : Int32) (l4 : Int32) (s0 : Int32) (g : GH) : Prop :=
  B_M_heap_102 Γ K58 K l0 l1 l2 l4 (0 : Int32) s0 g
set_option maxHeartbeats 4000000 in
set_option maxRecDepth 100000 in
theorem S_M_heap_101 {Γ : GAM} {E : EV} {K : Int32 → GH → Prop} (hE : GE Γ E cX11_heap 5 RX11 (some (.int)) 1 22 (fun r g' => ∃ x, r = some (.int x) ∧ K x g')) {K58 : Nat → Int32 → Int32 → Int32 → Int32 → GH → Prop} (hK58 : ∀ (l0 : Nat) (l1 : Int32) (l2 : Int32) (l3 : Int32) (l4 : Int32) (g : GH), K58 l0 l1 l2 l3 l4 g → JW Γ E 58 [some (.ref l0), some (.int l1), some (.int l2), some (.int l3), some (.int l4)] [] g) (l0 : Nat) (l1 : Int32) (l2 : Int32) (l4 : Int32) (s0 : Int32) (g : GH) (h : B_M_heap_101 Γ K58 K l0 l1 l2 l4 s0 g) : JW Γ E 101 [some (.ref l0), some (.int l1), some (.int l2), none, some (.int l4)] [.int s0] g := by
  unfold B_M_heap_101 at h
  refine j_iconst hE (by decide +kernel : decode cX11_heap 101 = .ok (.iconst 0, 1)) (v := (0 : Int32)) (by decide) ?_
  exact S_M_heap_102 hE hK58 _ _ _ _ _ _ _ h
set_option maxRecDepth 100000 in
def B_M_heap_97 (Γ : GAM) (K58 : Nat → Int32 → Int32 → Int32 → Int32 → GH → Prop) (K : Int32 → GH → Prop) (l0 : Nat) (l1 : Int32) (l2 : Int32) (l4 : Int32) (s0 : Int32) (g : GH) : Prop :=
  B_M_heap_102 Γ K58 K l0 l1 l2 l4 (1 : Int32) s0 g
set_option maxHeartbeats 4000000 in
set_option maxRecDepth 100000 in
theorem S_M_heap_97 {Γ : GAM} {E : EV} {K : Int32 → GH → Prop} (hE : GE Γ E cX11_heap 5 RX11 (some (.int)) 1 22 (fun r g' => ∃ x, r = some (.int x) ∧ K x g')) {K58 : Nat → Int32 → Int32 → Int32 → Int32 → GH → Prop} (hK58 : ∀ (l0 : Nat) (l1 : Int32) (l2 : Int32) (l3 : Int32) (l4 : Int32) (g : GH), K58 l0 l1 l2 l3 l4 g → JW Γ E 58 [some (.ref l0), some (.int l1), some (.int l2), some (.int l3), some (.int l4)] [] g) (l0 : Nat) (l1 : Int32) (l2 : Int32) (l4 : Int32) (s0 : Int32) (g : GH) (h : B_M_heap_97 Γ K58 K l0 l1 l2 l4 s0 g) : JW Γ E 97 [some (.ref l0), some (.int l1), some (.int l2), none, some (.int l4)] [.int s0] g := by
  unfold B_M_heap_97 at h
  refine j_iconst hE (by decide +kernel : decode cX11_heap 97 = .ok (.iconst 1, 1)) (v := (1 : Int32)) (by decide) ?_
  refine j_goto hE (by decide +kernel : decode cX11_heap 98 = .ok (.goto 4, 3)) (tgt := 102) (by decide) ?_
  exact S_M_heap_102 hE hK58 _ _ _ _ _ _ _ h
set_option maxRecDepth 100000 in
def B_M_heap_58 (Γ : GAM) (K58 : Nat → Int32 → Int32 → Int32 → Int32 → GH → Prop) (K : Int32 → GH → Prop) (l0 : Nat) (l1 : Int32) (l2 : Int32) (l3 : Int32) (l4 : Int32) (g : GH) : Prop :=
  Kd g l0 = 13 ∧ (((Gi g 1539 l0) ≤ l4 → K l3 g) ∧ (¬ ((Gi g 1539 l0) ≤ l4) → Kd g l0 = 13 ∧ ∃ a1 : Nat, Gr g 1628 l0 = some a1 ∧ Kd g a1 = 20 ∧ inB l4 (Ln g a1) ∧ ((¬ ((Ia g (Co g a1) (Ow g a1) l4.toNatClampNeg) = (l1 + (1 : Int32))) → B_M_heap_101 Γ K58 K l0 l1 l2 l4 l3 g) ∧ ((Ia g (Co g a1) (Ow g a1) l4.toNatClampNeg) = (l1 + (1 : Int32)) → ((l2 = (5 : Int32) → B_M_heap_97 Γ K58 K l0 l1 l2 l4 l3 g) ∧ (¬ (l2 = (5 : Int32)) → Kd g l0 = 13 ∧ ∃ a2 : Nat, Gr g 1559 l0 = some a2 ∧ Kd g a2 = 20 ∧ inB l4 (Ln g a2) ∧ ((¬ ((Ia g (Co g a2) (Ow g a2) l4.toNatClampNeg) = l2) → B_M_heap_101 Γ K58 K l0 l1 l2 l4 l3 g) ∧ ((Ia g (Co g a2) (Ow g a2) l4.toNatClampNeg) = l2 → B_M_heap_97 Γ K58 K l0 l1 l2 l4 l3 g))))))))
set_option maxHeartbeats 4000000 in
set_option maxRecDepth 100000 in
theorem S_M_heap_58 {Γ : GAM} {E : EV} {K : Int32 → GH → Prop} (hE : GE Γ E cX11_heap 5 RX11 (some (.int)) 1 22 (fun r g' => ∃ x, r = some (.int x) ∧ K x g')) {K58 : Nat → Int32 → Int32 → Int32 → Int32 → GH → Prop} (hK58 : ∀ (l0 : Nat) (l1 : Int32) (l2 : Int32) (l3 : Int32) (l4 : Int32) (g : GH), K58 l0 l1 l2 l3 l4 g → JW Γ E 58 [some (.ref l0), some (.int l1), some (.int l2), some (.int l3), some (.int l4)] [] g) (l0 : Nat) (l1 : Int32) (l2 : Int32) (l3 : Int32) (l4 : Int32) (g : GH) (h : B_M_heap_58 Γ K58 K l0 l1 l2 l3 l4 g) : JW Γ E 58 [some (.ref l0), some (.int l1), some (.int l2), some (.int l3), some (.int l4)] [] g := by
  unfold B_M_heap_58 at h
  refine j_iload hE (by decide +kernel : decode cX11_heap 58 = .ok (.iload 4, 2)) rfl ?_
  refine j_aload_n hE (by decide +kernel : decode cX11_heap 60 = .ok (.aload_n 0, 1)) rfl rfl ?_
  obtain ⟨hk, h⟩ := h
  refine j_getI hE fg_X11_241 hk (by decide +kernel : decode cX11_heap 61 = .ok (.getfield 241, 3)) ?_
  refine j_icmp_ge hE (by decide +kernel : decode cX11_heap 64 = .ok (.if_icmp .ge 46, 3)) (tgt := 110) (by decide) (fun q => ?_) (fun q => ?_)
  · replace h := h.1 q
    refine j_iload_n hE (by decide +kernel : decode cX11_heap 110 = .ok (.iload_n 3, 1)) rfl rfl ?_
    exact j_iret hE (by decide +kernel : decode cX11_heap 111 = .ok (.ireturn, 1)) ⟨_, rfl, h⟩
  · replace h := h.2 q
    refine j_iload_n hE (by decide +kernel : decode cX11_heap 67 = .ok (.iload_n 3, 1)) rfl rfl ?_
    refine j_aload_n hE (by decide +kernel : decode cX11_heap 68 = .ok (.aload_n 0, 1)) rfl rfl ?_
    obtain ⟨hk, h⟩ := h
    obtain ⟨a1, ha, h⟩ := h
    refine j_getRn hE fg_X11_204 hk ha (by decide +kernel : decode cX11_heap 69 = .ok (.getfield 204, 3)) ?_
    refine j_iload hE (by decide +kernel : decode cX11_heap 72 = .ok (.iload 4, 2)) rfl ?_
    obtain ⟨hk, hb, h⟩ := h
    refine j_iald hE hk hb (by decide +kernel : decode cX11_heap 74 = .ok (.iaload, 1)) ?_
    refine j_iload_n hE (by decide +kernel : decode cX11_heap 75 = .ok (.iload_n 1, 1)) rfl rfl ?_
    refine j_iconst hE (by decide +kernel : decode cX11_heap 76 = .ok (.iconst 1, 1)) (v := (1 : Int32)) (by decide) ?_
    refine j_iadd hE (by decide +kernel : decode cX11_heap 77 = .ok (.iadd, 1)) ?_
    refine j_icmp_ne hE (by decide +kernel : decode cX11_heap 78 = .ok (.if_icmp .ne 23, 3)) (tgt := 101) (by decide) (fun q => ?_) (fun q => ?_)
    · replace h := h.1 q
      refine j_weak [some (.ref l0), some (.int l1), some (.int l2), none, some (.int l4)] ⟨rfl, ⟨rfl, ⟨rfl, ⟨rfl, trivial⟩⟩⟩⟩ ?_
      exact S_M_heap_101 hE hK58 _ _ _ _ _ _ h
    · replace h := h.2 q
      refine j_iload_n hE (by decide +kernel : decode cX11_heap 81 = .ok (.iload_n 2, 1)) rfl rfl ?_
      refine j_iconst hE (by decide +kernel : decode cX11_heap 82 = .ok (.iconst 5, 1)) (v := (5 : Int32)) (by decide) ?_
      refine j_icmp_eq hE (by decide +kernel : decode cX11_heap 83 = .ok (.if_icmp .eq 14, 3)) (tgt := 97) (by decide) (fun q => ?_) (fun q => ?_)
      · replace h := h.1 q
        refine j_weak [some (.ref l0), some (.int l1), some (.int l2), none, some (.int l4)] ⟨rfl, ⟨rfl, ⟨rfl, ⟨rfl, trivial⟩⟩⟩⟩ ?_
        exact S_M_heap_97 hE hK58 _ _ _ _ _ _ h
      · replace h := h.2 q
        refine j_aload_n hE (by decide +kernel : decode cX11_heap 86 = .ok (.aload_n 0, 1)) rfl rfl ?_
        obtain ⟨hk, h⟩ := h
        obtain ⟨a2, ha, h⟩ := h
        refine j_getRn hE fg_X11_44 hk ha (by decide +kernel : decode cX11_heap 87 = .ok (.getfield 44, 3)) ?_
        refine j_iload hE (by decide +kernel : decode cX11_heap 90 = .ok (.iload 4, 2)) rfl ?_
        obtain ⟨hk, hb, h⟩ := h
        refine j_iald hE hk hb (by decide +kernel : decode cX11_heap 92 = .ok (.iaload, 1)) ?_
        refine j_iload_n hE (by decide +kernel : decode cX11_heap 93 = .ok (.iload_n 2, 1)) rfl rfl ?_
        refine j_icmp_ne hE (by decide +kernel : decode cX11_heap 94 = .ok (.if_icmp .ne 7, 3)) (tgt := 101) (by decide) (fun q => ?_) (fun q => ?_)
        · replace h := h.1 q
          refine j_weak [some (.ref l0), some (.int l1), some (.int l2), none, some (.int l4)] ⟨rfl, ⟨rfl, ⟨rfl, ⟨rfl, trivial⟩⟩⟩⟩ ?_
          exact S_M_heap_101 hE hK58 _ _ _ _ _ _ h
        · replace h := h.2 q
          refine j_weak [some (.ref l0), some (.int l1), some (.int l2), none, some (.int l4)] ⟨rfl, ⟨rfl, ⟨rfl, ⟨rfl, trivial⟩⟩⟩⟩ ?_
          exact S_M_heap_97 hE hK58 _ _ _ _ _ _ h
set_option maxRecDepth 100000 in
def B_M_heap_52 (Γ : GAM) (K58 : Nat → Int32 → Int32 → Int32 → Int32 → GH → Prop) (K : Int32 → GH → Prop) (s0 : Int32) (g : GH) : Prop :=
  K s0 g
set_option maxHeartbeats 4000000 in
set_option maxRecDepth 100000 in
theorem S_M_heap_52 {Γ : GAM} {E : EV} {K : Int32 → GH → Prop} (hE : GE Γ E cX11_heap 5 RX11 (some (.int)) 1 22 (fun r g' => ∃ x, r = some (.int x) ∧ K x g')) {K58 : Nat → Int32 → Int32 → Int32 → Int32 → GH → Prop} (hK58 : ∀ (l0 : Nat) (l1 : Int32) (l2 : Int32) (l3 : Int32) (l4 : Int32) (g : GH), K58 l0 l1 l2 l3 l4 g → JW Γ E 58 [some (.ref l0), some (.int l1), some (.int l2), some (.int l3), some (.int l4)] [] g) (s0 : Int32) (g : GH) (h : B_M_heap_52 Γ K58 K s0 g) : JW Γ E 52 [none, none, none, none, none] [.int s0] g := by
  unfold B_M_heap_52 at h
  exact j_iret hE (by decide +kernel : decode cX11_heap 52 = .ok (.ireturn, 1)) ⟨_, rfl, h⟩
set_option maxRecDepth 100000 in
def B_M_heap_24 (Γ : GAM) (K58 : Nat → Int32 → Int32 → Int32 → Int32 → GH → Prop) (K : Int32 → GH → Prop)  (g : GH) : Prop :=
  K (-1 : Int32) g
set_option maxHeartbeats 4000000 in
set_option maxRecDepth 100000 in
theorem S_M_heap_24 {Γ : GAM} {E : EV} {K : Int32 → GH → Prop} (hE : GE Γ E cX11_heap 5 RX11 (some (.int)) 1 22 (fun r g' => ∃ x, r = some (.int x) ∧ K x g')) {K58 : Nat → Int32 → Int32 → Int32 → Int32 → GH → Prop} (hK58 : ∀ (l0 : Nat) (l1 : Int32) (l2 : Int32) (l3 : Int32) (l4 : Int32) (g : GH), K58 l0 l1 l2 l3 l4 g → JW Γ E 58 [some (.ref l0), some (.int l1), some (.int l2), some (.int l3), some (.int l4)] [] g)  (g : GH) (h : B_M_heap_24 Γ K58 K  g) : JW Γ E 24 [none, none, none, none, none] [] g := by
  unfold B_M_heap_24 at h
  refine j_iconst hE (by decide +kernel : decode cX11_heap 24 = .ok (.iconst (-1), 1)) (v := (-1 : Int32)) (by decide) ?_
  exact j_iret hE (by decide +kernel : decode cX11_heap 25 = .ok (.ireturn, 1)) ⟨_, rfl, h⟩
set_option maxRecDepth 100000 in
def B_M_heap_0 (Γ : GAM) (K58 : Nat → Int32 → Int32 → Int32 → Int32 → GH → Prop) (K : Int32 → GH → Prop) (th : Nat) (p0 : Int32) (p1 : Int32) (g : GH) : Prop :=
  Kd g th = 13 ∧ Sp_M_in Γ p0 (0 : Int32) ((Gi g 1547 th) - (1 : Int32)) g (fun (x2 : Int32) (g1 : GH) => ((x2 = 0 → B_M_heap_24 Γ K58 K g1) ∧ (¬ (x2 = 0) → Sp_M_in Γ p1 (0 : Int32) (7 : Int32) g1 (fun (x4 : Int32) (g3 : GH) => ((¬ (x4 = 0) → ((p1 ≤ (5 : Int32) → K58 th p0 p1 (0 : Int32) (0 : Int32) g3) ∧ (¬ (p1 ≤ (5 : Int32)) → ((¬ (p1 = (6 : Int32)) → Kd g3 th = 13 ∧ ∃ a5 : Nat, Gr g3 1630 th = some a5 ∧ Kd g3 a5 = 20 ∧ inB p0 (Ln g3 a5) ∧ B_M_heap_52 Γ K58 K (Ia g3 (Co g3 a5) (Ow g3 a5) p0.toNatClampNeg) g3) ∧ (p1 = (6 : Int32) → Kd g3 th = 13 ∧ ∃ a6 : Nat, Gr g3 1629 th = some a6 ∧ Kd g3 a6 = 20 ∧ inB p0 (Ln g3 a6) ∧ B_M_heap_52 Γ K58 K (Ia g3 (Co g3 a6) (Ow g3 a6) p0.toNatClampNeg) g3))))) ∧ (x4 = 0 → B_M_heap_24 Γ K58 K g3))))))
set_option maxHeartbeats 4000000 in
set_option maxRecDepth 100000 in
theorem S_M_heap_0 {Γ : GAM} {E : EV} {K : Int32 → GH → Prop} (hE : GE Γ E cX11_heap 5 RX11 (some (.int)) 1 22 (fun r g' => ∃ x, r = some (.int x) ∧ K x g')) {K58 : Nat → Int32 → Int32 → Int32 → Int32 → GH → Prop} (hK58 : ∀ (l0 : Nat) (l1 : Int32) (l2 : Int32) (l3 : Int32) (l4 : Int32) (g : GH), K58 l0 l1 l2 l3 l4 g → JW Γ E 58 [some (.ref l0), some (.int l1), some (.int l2), some (.int l3), some (.int l4)] [] g) (th : Nat) (p0 : Int32) (p1 : Int32) (g : GH) (h : B_M_heap_0 Γ K58 K th p0 p1 g) : JW Γ E 0 [some (.ref th), some (.int p0), some (.int p1), none, none] [] g := by
  unfold B_M_heap_0 at h
  refine j_iload_n hE (by decide +kernel : decode cX11_heap 0 = .ok (.iload_n 1, 1)) rfl rfl ?_
  refine j_iconst hE (by decide +kernel : decode cX11_heap 1 = .ok (.iconst 0, 1)) (v := (0 : Int32)) (by decide) ?_
  refine j_aload_n hE (by decide +kernel : decode cX11_heap 2 = .ok (.aload_n 0, 1)) rfl rfl ?_
  obtain ⟨hk, h⟩ := h
  refine j_getI hE fg_X11_449 hk (by decide +kernel : decode cX11_heap 3 = .ok (.getfield 449, 3)) ?_
  refine j_iconst hE (by decide +kernel : decode cX11_heap 6 = .ok (.iconst 1, 1)) (v := (1 : Int32)) (by decide) ?_
  refine j_isub hE (by decide +kernel : decode cX11_heap 7 = .ok (.isub, 1)) ?_
  refine j_callS hE rfl cl_X11_213 st_X11_in ⟨by omega, by omega⟩ (As := [.int p0, .int (0 : Int32), .int ((Gi g 1547 th) - (1 : Int32))]) (rest := []) rfl rfl (Nat.le_of_ble_eq_true rfl) (by decide +kernel : decode cX11_heap 8 = .ok (.invokestatic 213, 3)) (mt_M_in _ _ _ _ _ h) ?_
  rintro _ g1 ⟨x2, rfl, h⟩
  refine j_if_eq hE (by decide +kernel : decode cX11_heap 11 = .ok (.ifCond .eq 13, 3)) (tgt := 24) (by decide) (fun q => ?_) (fun q => ?_)
  · replace h := h.1 q
    refine j_weak [none, none, none, none, none] trivial ?_
    exact S_M_heap_24 hE hK58 _ h
  · replace h := h.2 q
    refine j_iload_n hE (by decide +kernel : decode cX11_heap 14 = .ok (.iload_n 2, 1)) rfl rfl ?_
    refine j_iconst hE (by decide +kernel : decode cX11_heap 15 = .ok (.iconst 0, 1)) (v := (0 : Int32)) (by decide) ?_
    refine j_bipush hE (by decide +kernel : decode cX11_heap 16 = .ok (.bipush 7, 2)) (v := (7 : Int32)) (by decide) ?_
    refine j_callS hE rfl cl_X11_213 st_X11_in ⟨by omega, by omega⟩ (As := [.int p1, .int (0 : Int32), .int (7 : Int32)]) (rest := []) rfl rfl (Nat.le_of_ble_eq_true rfl) (by decide +kernel : decode cX11_heap 18 = .ok (.invokestatic 213, 3)) (mt_M_in _ _ _ _ _ h) ?_
    rintro _ g3 ⟨x4, rfl, h⟩
    refine j_if_ne hE (by decide +kernel : decode cX11_heap 21 = .ok (.ifCond .ne 5, 3)) (tgt := 26) (by decide) (fun q => ?_) (fun q => ?_)
    · replace h := h.1 q
      refine j_iload_n hE (by decide +kernel : decode cX11_heap 26 = .ok (.iload_n 2, 1)) rfl rfl ?_
      refine j_iconst hE (by decide +kernel : decode cX11_heap 27 = .ok (.iconst 5, 1)) (v := (5 : Int32)) (by decide) ?_
      refine j_icmp_le hE (by decide +kernel : decode cX11_heap 28 = .ok (.if_icmp .le 25, 3)) (tgt := 53) (by decide) (fun q => ?_) (fun q => ?_)
      · replace h := h.1 q
        refine j_iconst hE (by decide +kernel : decode cX11_heap 53 = .ok (.iconst 0, 1)) (v := (0 : Int32)) (by decide) ?_
        refine j_istore_n hE (by decide +kernel : decode cX11_heap 54 = .ok (.istore_n 3, 1)) rfl (Nat.le_of_ble_eq_true rfl) rfl ?_
        refine j_iconst hE (by decide +kernel : decode cX11_heap 55 = .ok (.iconst 0, 1)) (v := (0 : Int32)) (by decide) ?_
        refine j_istore hE (by decide +kernel : decode cX11_heap 56 = .ok (.istore 4, 2)) (Nat.le_of_ble_eq_true rfl) rfl ?_
        exact hK58 _ _ _ _ _ _ h
      · replace h := h.2 q
        refine j_iload_n hE (by decide +kernel : decode cX11_heap 31 = .ok (.iload_n 2, 1)) rfl rfl ?_
        refine j_bipush hE (by decide +kernel : decode cX11_heap 32 = .ok (.bipush 6, 2)) (v := (6 : Int32)) (by decide) ?_
        refine j_icmp_ne hE (by decide +kernel : decode cX11_heap 34 = .ok (.if_icmp .ne 12, 3)) (tgt := 46) (by decide) (fun q => ?_) (fun q => ?_)
        · replace h := h.1 q
          refine j_aload_n hE (by decide +kernel : decode cX11_heap 46 = .ok (.aload_n 0, 1)) rfl rfl ?_
          obtain ⟨hk, h⟩ := h
          obtain ⟨a5, ha, h⟩ := h
          refine j_getRn hE fg_X11_210 hk ha (by decide +kernel : decode cX11_heap 47 = .ok (.getfield 210, 3)) ?_
          refine j_iload_n hE (by decide +kernel : decode cX11_heap 50 = .ok (.iload_n 1, 1)) rfl rfl ?_
          obtain ⟨hk, hb, h⟩ := h
          refine j_iald hE hk hb (by decide +kernel : decode cX11_heap 51 = .ok (.iaload, 1)) ?_
          refine j_weak [none, none, none, none, none] trivial ?_
          exact S_M_heap_52 hE hK58 _ _ h
        · replace h := h.2 q
          refine j_aload_n hE (by decide +kernel : decode cX11_heap 37 = .ok (.aload_n 0, 1)) rfl rfl ?_
          obtain ⟨hk, h⟩ := h
          obtain ⟨a6, ha, h⟩ := h
          refine j_getRn hE fg_X11_207 hk ha (by decide +kernel : decode cX11_heap 38 = .ok (.getfield 207, 3)) ?_
          refine j_iload_n hE (by decide +kernel : decode cX11_heap 41 = .ok (.iload_n 1, 1)) rfl rfl ?_
          obtain ⟨hk, hb, h⟩ := h
          refine j_iald hE hk hb (by decide +kernel : decode cX11_heap 42 = .ok (.iaload, 1)) ?_
          refine j_goto hE (by decide +kernel : decode cX11_heap 43 = .ok (.goto 9, 3)) (tgt := 52) (by decide) ?_
          refine j_weak [none, none, none, none, none] trivial ?_
          exact S_M_heap_52 hE hK58 _ _ h
    · replace h := h.2 q
      refine j_weak [none, none, none, none, none] trivial ?_
      exact S_M_heap_24 hE hK58 _ h
set_option maxHeartbeats 4000000 in
set_option maxRecDepth 100000 in
theorem rl_M_heap {Γ : GAM} {l : Launch} {th : Nat} {p0 : Int32} {p1 : Int32} {g : GH} {K : Int32 → GH → Prop} (I58 : Nat → Nat → Int32 → Int32 → Int32 → Int32 → GH → Prop) (hh58 : ∀ n (l0 : Nat) (l1 : Int32) (l2 : Int32) (l3 : Int32) (l4 : Int32) (g : GH), I58 n l0 l1 l2 l3 l4 g → B_M_heap_58 Γ (fun l0 l1 l2 l3 l4 g => ∃ m, m < n ∧ I58 m l0 l1 l2 l3 l4 g) K l0 l1 l2 l3 l4 g) (h0 : B_M_heap_0 Γ (fun l0 l1 l2 l3 l4 g => ∃ m, I58 m l0 l1 l2 l3 l4 g) K th p0 p1 g) : MetA Γ l yX11_heap cX11_heap 5 (some (.int)) 1 22 [.ref th, .int p0, .int p1] g (fun r g' => ∃ x, r = some (.int x) ∧ K x g') := by
  refine MetA.introL (Lx := [some (.ref th), some (.int p0), some (.int p1), none, none]) (by decide) (Nat.le_of_ble_eq_true rfl) rfl rfl ?_
  intro E hEl hE hnm
  have hall : ∀ n, (∀ (l0 : Nat) (l1 : Int32) (l2 : Int32) (l3 : Int32) (l4 : Int32) (g : GH), I58 n l0 l1 l2 l3 l4 g → JW Γ E 58 [some (.ref l0), some (.int l1), some (.int l2), some (.int l3), some (.int l4)] [] g) := by
    intro n
    induction n using Nat.strongRecOn with
    | ind n ih =>
      exact fun l0 l1 l2 l3 l4 g hi => S_M_heap_58 hE (fun l0 l1 l2 l3 l4 g hm => by obtain ⟨m, hm, h⟩ := hm; exact (ih m hm) l0 l1 l2 l3 l4 g h) l0 l1 l2 l3 l4 g (hh58 n l0 l1 l2 l3 l4 g hi)
  exact S_M_heap_0 hE (fun l0 l1 l2 l3 l4 g hm => by obtain ⟨m, h⟩ := hm; exact (hall m) l0 l1 l2 l3 l4 g h) th p0 p1 g h0
theorem mt_M_heap {Γ : GAM} {l : Launch} (th : Nat) (p0 : Int32) (p1 : Int32) (g : GH) (K : Int32 → GH → Prop) (h : Sp_M_heap Γ th p0 p1 g K) : MetA Γ l yX11_heap cX11_heap 5 (some (.int)) 1 22 [.ref th, .int p0, .int p1] g (fun r g' => ∃ x, r = some (.int x) ∧ K x g') := by
  obtain ⟨ma, s, hI, hw, hK⟩ := h
  obtain ⟨hkd, hS⟩ := hI.1
  have hN := hw.len.2.2.1
  obtain ⟨f1, f2, f3⟩ := hI.hea
  obtain ⟨w1, w2, w3⟩ := hI.env
  obtain ⟨z_heapOf1, z_heapOf2, z_heapOf3, z_heapOf4, z_heapOf5⟩ := hS 1628 20 200 rfl
  obtain ⟨z_heapShire1, z_heapShire2, z_heapShire3, z_heapShire4, z_heapShire5⟩ := hS 1629 20 40 rfl
  obtain ⟨z_heapDay1, z_heapDay2, z_heapDay3, z_heapDay4, z_heapDay5⟩ := hS 1630 20 40 rfl
  obtain ⟨z_choiceOf1, z_choiceOf2, z_choiceOf3, z_choiceOf4, z_choiceOf5⟩ := hS 1559 20 200 rfl
  have hno : ¬ ok_heap s p0 p1 → K (-1) g := fun hn => by unfold p_heap at hK; rw [if_neg hn] at hK; exact hK
  have hyes : ok_heap s p0 p1 → K (if p1 ≤ 5 then sHp s p0.toNatClampNeg p1 else if p1 = 6 then (sHea s p0).1 else (sHea s p0).2) g := fun hn => by unfold p_heap at hK; rw [if_pos hn] at hK; exact hK
  refine rl_M_heap (fun n l0 l1 l2 l3 l4 g' => g = g' ∧ ok_heap s p0 p1 ∧ p1 ≤ 5 ∧ th = l0 ∧ p0 = l1 ∧ p1 = l2 ∧ ∃ k, k ≤ (s_env s).length ∧ n = (s_env s).length - k ∧ l4 = nI k ∧ l3 = ((s_env s).zipIdx.take k).foldl (hpS s p0.toNatClampNeg p1) 0) ?_ ?_
  · rintro n l0 l1 l2 l3 l4 g' ⟨rfl, hok, h5, rfl, rfl, rfl, k, hk, rfl, rfl, hf⟩
    suffices H : ∀ K58 : Nat → Int32 → Int32 → Int32 → Int32 → GH → Prop, (∀ a x, (s_env s)[k]? = some x → a = hpS s p0.toNatClampNeg p1 l3 (x, k) → K58 th p0 p1 a (nI (k + 1)) g) → B_M_heap_58 Γ K58 K th p0 p1 l3 (nI k) g from
      H _ (fun a x hx ha => ⟨(s_env s).length - (k + 1), by have := (List.getElem?_eq_some_iff.mp hx).1; omega, rfl, hok, h5, rfl, rfl, rfl, k + 1, (List.getElem?_eq_some_iff.mp hx).1, rfl, rfl, by rw [fold_take _ _ _ (zip_get hx), ← hf]; exact ha⟩)
    intro K58 hnext
    have hlt0 := lt_of_in (n := (s_hea s).length) (by omega) hok.1
    obtain ⟨e1, e2⟩ := nj_of hok.1.1
    unfold B_M_heap_58
    simp only [hkd, w1, z_heapOf1, z_heapOf2, z_heapOf3, z_heapOf4, z_heapOf5, z_heapShire1, z_heapShire2, z_heapShire3, z_heapShire4, z_heapShire5, z_heapDay1, z_heapDay2, z_heapDay3, z_heapDay4, z_heapDay5, z_choiceOf1, z_choiceOf2, z_choiceOf3, z_choiceOf4, z_choiceOf5, Option.some.injEq, exists_eq_left', true_and, nj_cl (show k < 2147483648 by omega), nj_le (show (s_env s).length < 2147483648 by omega) (show k < 2147483648 by omega)]
    refine ⟨fun z => ?_, fun z => ?_⟩
    · have hz : (s_env s).zipIdx.take k = (s_env s).zipIdx := List.take_of_length_le (by rw [List.length_zipIdx]; exact z)
      rw [hz] at hf
      have := hyes hok
      rw [if_pos h5] at this
      unfold sHp at this
      rw [hf]; exact this
    · obtain ⟨x, hx⟩ := get_lt (show k < (s_env s).length by omega)
      have hb := inB_nI (show k < 200 by omega) (by omega)
      have hho := hI.hof k (by omega)
      have hhl := (hw.hof k).1
      have heq : Ia g 1628 th k = p0 + 1 ↔ s_hof s k = p0.toNatClampNeg + 1 := by
        rw [hho]
        conv => lhs; rw [e1, nj_s]
        exact nj_eq (by omega) (by omega)
      have hn := fun a => hnext a x hx
      unfold hpS at hn
      simp only [B_M_heap_101, B_M_heap_102, B_M_heap_97, forall_eq, heq, hb, true_and, (w3 k x hx).2.2.2, nj_s]
      exact ⟨fun u => hn _ (by rw [if_neg (fun q => u q.1)]), fun u => ⟨fun u2 => hn _ (by rw [if_pos ⟨u, .inl u2⟩]), fun u2 => ⟨fun u3 => hn _ (by rw [if_neg (fun q => by rcases q.2 with q | q; exact u2 q; exact u3 q)]), fun u3 => hn _ (by rw [if_pos ⟨u, .inr u3⟩])⟩⟩⟩
  · by_cases h1 : 0 ≤ p0 ∧ p0 ≤ nI (s_hea s).length - 1
    · have hlt0 := lt_of_in (n := (s_hea s).length) (by omega) h1
      obtain ⟨x, hx⟩ := get_lt hlt0
      have hb : inB p0 40 := ⟨h1.1, by omega⟩
      have hh : sHea s p0 = x := by unfold sHea; rw [hx]; rfl
      simp only [B_M_heap_0, B_M_heap_24, B_M_heap_52, Sp_M_in, ifz, hkd, f1, z_heapOf1, z_heapOf2, z_heapOf3, z_heapOf4, z_heapOf5, z_heapShire1, z_heapShire2, z_heapShire3, z_heapShire4, z_heapShire5, z_heapDay1, z_heapDay2, z_heapDay3, z_heapDay4, z_heapDay5, z_choiceOf1, z_choiceOf2, z_choiceOf3, z_choiceOf4, z_choiceOf5, hb, (f3 _ x hx).1, (f3 _ x hx).2, Option.some.injEq, exists_eq_left', true_and]
      refine ⟨fun u => absurd h1 u, fun _ => ⟨fun u => ⟨fun u2 => ?_, fun u2 => ⟨fun u3 => ?_, fun u3 => ?_⟩⟩, fun u => hno (fun q => u q.2)⟩⟩
      · refine ⟨_, ⟨h1, Classical.not_not.mp u⟩, u2, 0, Nat.zero_le _, rfl, nj_0, rfl⟩
      · have := hyes ⟨h1, Classical.not_not.mp u⟩
        rw [if_neg u2, if_neg u3, hh] at this
        exact this
      · have := hyes ⟨h1, Classical.not_not.mp u⟩
        rw [if_neg u2, if_pos u3, hh] at this
        exact this
    · simp only [B_M_heap_0, B_M_heap_24, Sp_M_in, ifz, hkd, f1, true_and]
      exact ⟨fun _ => hno (fun q => h1 q.1), fun u => absurd (Classical.not_not.mp u) h1⟩
