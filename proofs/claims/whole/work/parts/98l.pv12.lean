/-! the class's face: the draw of lots -/
theorem sLo_le (s : ST) : (sLo s).length ≤ (s_env s).length := by
  have := List.length_filter_le (cnT s (s_vot s).length) (List.range (s_env s).length)
  rw [List.length_range] at this; exact this
def Sp_PV_recheck (Γ : GAM) (x : Nat) (p0 p1 : Int32) (p2 : Int64) (g : GH) (K : Int32 → GH → Prop) : Prop := PVC Γ x g K (fun s => p_recheck s p0 p1 p2) (fun s => s)
-- the walk of PV_recheck
set_option maxRecDepth 100000 in
def B_PV_recheck_144 (Γ : GAM) (K57 : Nat → Int32 → Int32 → Int32 → Int64 → Int32 → GH → Prop) (K : Int32 → GH → Prop) (l6 : Int32) (g : GH) : Prop :=
  K l6 g
set_option maxHeartbeats 4000000 in
set_option maxRecDepth 100000 in
theorem S_PV_recheck_144 {Γ : GAM} {E : EV} {K : Int32 → GH → Prop} (hE : GE Γ E cX10_recheck 11 RX10 (some (.int)) 10 398 (fun r g' => ∃ x, r = some (.int x) ∧ K x g')) {K57 : Nat → Int32 → Int32 → Int32 → Int64 → Int32 → GH → Prop} (hK57 : ∀ (l0 : Nat) (l2 : Int32) (l5 : Int32) (l6 : Int32) (l7 : Int64) (l9 : Int32) (g : GH), K57 l0 l2 l5 l6 l7 l9 g → JW Γ E 57 [some (.ref l0), none, some (.int l2), none, none, some (.int l5), some (.int l6), some (.long l7), none, some (.int l9), none] [] g) (l6 : Int32) (g : GH) (h : B_PV_recheck_144 Γ K57 K l6 g) : JW Γ E 144 [none, none, none, none, none, none, some (.int l6), none, none, none, none] [] g := by
  unfold B_PV_recheck_144 at h
  refine j_iload hE (by decide +kernel : decode cX10_recheck 144 = .ok (.iload 6, 2)) rfl ?_
  exact j_iret hE (by decide +kernel : decode cX10_recheck 146 = .ok (.ireturn, 1)) ⟨_, rfl, h⟩
set_option maxRecDepth 100000 in
def B_PV_recheck_57 (Γ : GAM) (K57 : Nat → Int32 → Int32 → Int32 → Int64 → Int32 → GH → Prop) (K : Int32 → GH → Prop) (l0 : Nat) (l2 : Int32) (l5 : Int32) (l6 : Int32) (l7 : Int64) (l9 : Int32) (g : GH) : Prop :=
  ((l2 < l9 → B_PV_recheck_144 Γ K57 K l6 g) ∧ (¬ (l2 < l9) → ((l5 ≤ 0 → B_PV_recheck_144 Γ K57 K l6 g) ∧ (¬ (l5 ≤ 0) → Kd g l0 = 12 ∧ ∃ a1 : Nat, Gr g 1417 l0 = some a1 ∧ (20 ≤ Kd g a1 ∧ Kd g a1 < 24) ∧ (((Int32.ofNat (Ln g a1)) < l5 → B_PV_recheck_144 Γ K57 K l6 g) ∧ (¬ ((Int32.ofNat (Ln g a1)) < l5) → ∀ x2 : Int64, x2 = ((l7 * (6364136223846793005 : Int64)) + (1442695040888963407 : Int64)) → ¬ ((l5.toInt64) = 0) ∧ ∀ x3 : Int32, x3 = ((((x2.toUInt64 >>> ((33 : Int32).toInt64.toUInt64 &&& Int64.toUInt64 63)).toInt64) - ((x2.toUInt64 >>> ((33 : Int32).toInt64.toUInt64 &&& Int64.toUInt64 63)).toInt64) / (l5.toInt64) * (l5.toInt64)).toInt32) → Kd g l0 = 12 ∧ ∃ a4 : Nat, Gr g 1417 l0 = some a4 ∧ Kd g a4 = 20 ∧ inB x3 (Ln g a4) ∧ ∀ x5 : Int32, x5 = (Ia g (Co g a4) (Ow g a4) x3.toNatClampNeg) → Kd g l0 = 12 ∧ ∃ a6 : Nat, Gr g 1417 l0 = some a6 ∧ Kd g l0 = 12 ∧ ∃ a7 : Nat, Gr g 1417 l0 = some a7 ∧ Kd g a6 = 20 ∧ Kd g a7 = 20 ∧ 0 ≤ (x3 + (1 : Int32)) ∧ 0 ≤ x3 ∧ 0 ≤ ((l5 - x3) - (1 : Int32)) ∧ (x3 + (1 : Int32)).toNatClampNeg + ((l5 - x3) - (1 : Int32)).toNatClampNeg ≤ Ln g a6 ∧ x3.toNatClampNeg + ((l5 - x3) - (1 : Int32)).toNatClampNeg ≤ Ln g a7 ∧ 0 < Ln g a7 ∧ ∀ g8 : GH, g8 = sAf g (Co g a7) (Ow g a7) (va_cpy (Ia g (Co g a6) (Ow g a6)) (Ia g (Co g a7) (Ow g a7)) (x3 + (1 : Int32)).toNatClampNeg x3.toNatClampNeg ((l5 - x3) - (1 : Int32)).toNatClampNeg) → K57 l0 l2 (l5 + (-1 : Int32)) x5 x2 (l9 + (1 : Int32)) g8))))))
set_option maxHeartbeats 4000000 in
set_option maxRecDepth 100000 in
theorem S_PV_recheck_57 {Γ : GAM} {E : EV} {K : Int32 → GH → Prop} (hE : GE Γ E cX10_recheck 11 RX10 (some (.int)) 10 398 (fun r g' => ∃ x, r = some (.int x) ∧ K x g')) {K57 : Nat → Int32 → Int32 → Int32 → Int64 → Int32 → GH → Prop} (hK57 : ∀ (l0 : Nat) (l2 : Int32) (l5 : Int32) (l6 : Int32) (l7 : Int64) (l9 : Int32) (g : GH), K57 l0 l2 l5 l6 l7 l9 g → JW Γ E 57 [some (.ref l0), none, some (.int l2), none, none, some (.int l5), some (.int l6), some (.long l7), none, some (.int l9), none] [] g) (l0 : Nat) (l2 : Int32) (l5 : Int32) (l6 : Int32) (l7 : Int64) (l9 : Int32) (g : GH) (h : B_PV_recheck_57 Γ K57 K l0 l2 l5 l6 l7 l9 g) : JW Γ E 57 [some (.ref l0), none, some (.int l2), none, none, some (.int l5), some (.int l6), some (.long l7), none, some (.int l9), none] [] g := by
  unfold B_PV_recheck_57 at h
  refine j_iload hE (by decide +kernel : decode cX10_recheck 57 = .ok (.iload 9, 2)) rfl ?_
  refine j_iload_n hE (by decide +kernel : decode cX10_recheck 59 = .ok (.iload_n 2, 1)) rfl rfl ?_
  refine j_icmp_gt hE (by decide +kernel : decode cX10_recheck 60 = .ok (.if_icmp .gt 84, 3)) (tgt := 144) (by decide) (fun q => ?_) (fun q => ?_)
  · replace h := h.1 q
    refine j_weak [none, none, none, none, none, none, some (.int l6), none, none, none, none] ⟨rfl, trivial⟩ ?_
    exact S_PV_recheck_144 hE hK57 _ _ h
  · replace h := h.2 q
    refine j_iload hE (by decide +kernel : decode cX10_recheck 63 = .ok (.iload 5, 2)) rfl ?_
    refine j_if_le hE (by decide +kernel : decode cX10_recheck 65 = .ok (.ifCond .le 79, 3)) (tgt := 144) (by decide) (fun q => ?_) (fun q => ?_)
    · replace h := h.1 q
      refine j_weak [none, none, none, none, none, none, some (.int l6), none, none, none, none] ⟨rfl, trivial⟩ ?_
      exact S_PV_recheck_144 hE hK57 _ _ h
    · replace h := h.2 q
      refine j_iload hE (by decide +kernel : decode cX10_recheck 68 = .ok (.iload 5, 2)) rfl ?_
      refine j_aload_n hE (by decide +kernel : decode cX10_recheck 70 = .ok (.aload_n 0, 1)) rfl rfl ?_
      obtain ⟨hk, h⟩ := h
      obtain ⟨a1, ha, h⟩ := h
      refine j_getRn hE fg_X10_55 hk ha (by decide +kernel : decode cX10_recheck 71 = .ok (.getfield 55, 3)) ?_
      obtain ⟨hk, h⟩ := h
      refine j_alen hE hk (by decide +kernel : decode cX10_recheck 74 = .ok (.arraylength, 1)) ?_
      refine j_icmp_gt hE (by decide +kernel : decode cX10_recheck 75 = .ok (.if_icmp .gt 69, 3)) (tgt := 144) (by decide) (fun q => ?_) (fun q => ?_)
      · replace h := h.1 q
        refine j_weak [none, none, none, none, none, none, some (.int l6), none, none, none, none] ⟨rfl, trivial⟩ ?_
        exact S_PV_recheck_144 hE hK57 _ _ h
      · replace h := h.2 q
        refine j_lload hE (by decide +kernel : decode cX10_recheck 78 = .ok (.lload 7, 2)) rfl ?_
        refine j_ldc2 hE ctL_X10_257 (by decide +kernel : decode cX10_recheck 80 = .ok (.ldc2_w 257, 3)) ?_
        refine j_lmul hE (by decide +kernel : decode cX10_recheck 83 = .ok (.lmul, 1)) ?_
        refine j_ldc2 hE ctL_X10_259 (by decide +kernel : decode cX10_recheck 84 = .ok (.ldc2_w 259, 3)) ?_
        refine j_ladd hE (by decide +kernel : decode cX10_recheck 87 = .ok (.ladd, 1)) ?_
        obtain ⟨x2, hx⟩ : ∃ z, z = ((l7 * (6364136223846793005 : Int64)) + (1442695040888963407 : Int64)) := ⟨_, rfl⟩; replace h := h x2 hx; rw [← hx]
        refine j_lstore hE (by decide +kernel : decode cX10_recheck 88 = .ok (.lstore 7, 2)) (Nat.le_of_ble_eq_true rfl) rfl ?_
        refine j_lload hE (by decide +kernel : decode cX10_recheck 90 = .ok (.lload 7, 2)) rfl ?_
        refine j_bipush hE (by decide +kernel : decode cX10_recheck 92 = .ok (.bipush 33, 2)) (v := (33 : Int32)) (by decide) ?_
        refine j_lushr hE (by decide +kernel : decode cX10_recheck 94 = .ok (.lushr, 1)) ?_
        refine j_iload hE (by decide +kernel : decode cX10_recheck 95 = .ok (.iload 5, 2)) rfl ?_
        refine j_i2l hE (by decide +kernel : decode cX10_recheck 97 = .ok (.i2l, 1)) ?_
        obtain ⟨hne, h⟩ := h
        refine j_lrem hE (by decide +kernel : decode cX10_recheck 98 = .ok (.lrem, 1)) hne ?_
        refine j_l2i hE (by decide +kernel : decode cX10_recheck 99 = .ok (.l2i, 1)) ?_
        obtain ⟨x3, hx⟩ : ∃ z, z = ((((x2.toUInt64 >>> ((33 : Int32).toInt64.toUInt64 &&& Int64.toUInt64 63)).toInt64) - ((x2.toUInt64 >>> ((33 : Int32).toInt64.toUInt64 &&& Int64.toUInt64 63)).toInt64) / (l5.toInt64) * (l5.toInt64)).toInt32) := ⟨_, rfl⟩; replace h := h x3 hx; rw [← hx]
        refine j_istore hE (by decide +kernel : decode cX10_recheck 100 = .ok (.istore 10, 2)) (Nat.le_of_ble_eq_true rfl) rfl ?_
        refine j_aload_n hE (by decide +kernel : decode cX10_recheck 102 = .ok (.aload_n 0, 1)) rfl rfl ?_
        obtain ⟨hk, h⟩ := h
        obtain ⟨a4, ha, h⟩ := h
        refine j_getRn hE fg_X10_55 hk ha (by decide +kernel : decode cX10_recheck 103 = .ok (.getfield 55, 3)) ?_
        refine j_iload hE (by decide +kernel : decode cX10_recheck 106 = .ok (.iload 10, 2)) rfl ?_
        obtain ⟨hk, hb, h⟩ := h
        refine j_iald hE hk hb (by decide +kernel : decode cX10_recheck 108 = .ok (.iaload, 1)) ?_
        obtain ⟨x5, hx⟩ : ∃ z, z = (Ia g (Co g a4) (Ow g a4) x3.toNatClampNeg) := ⟨_, rfl⟩; replace h := h x5 hx; rw [← hx]
        refine j_istore hE (by decide +kernel : decode cX10_recheck 109 = .ok (.istore 6, 2)) (Nat.le_of_ble_eq_true rfl) rfl ?_
        refine j_aload_n hE (by decide +kernel : decode cX10_recheck 111 = .ok (.aload_n 0, 1)) rfl rfl ?_
        obtain ⟨hk, h⟩ := h
        obtain ⟨a6, ha, h⟩ := h
        refine j_getRn hE fg_X10_55 hk ha (by decide +kernel : decode cX10_recheck 112 = .ok (.getfield 55, 3)) ?_
        refine j_iload hE (by decide +kernel : decode cX10_recheck 115 = .ok (.iload 10, 2)) rfl ?_
        refine j_iconst hE (by decide +kernel : decode cX10_recheck 117 = .ok (.iconst 1, 1)) (v := (1 : Int32)) (by decide) ?_
        refine j_iadd hE (by decide +kernel : decode cX10_recheck 118 = .ok (.iadd, 1)) ?_
        refine j_aload_n hE (by decide +kernel : decode cX10_recheck 119 = .ok (.aload_n 0, 1)) rfl rfl ?_
        obtain ⟨hk, h⟩ := h
        obtain ⟨a7, ha, h⟩ := h
        refine j_getRn hE fg_X10_55 hk ha (by decide +kernel : decode cX10_recheck 120 = .ok (.getfield 55, 3)) ?_
        refine j_iload hE (by decide +kernel : decode cX10_recheck 123 = .ok (.iload 10, 2)) rfl ?_
        refine j_iload hE (by decide +kernel : decode cX10_recheck 125 = .ok (.iload 5, 2)) rfl ?_
        refine j_iload hE (by decide +kernel : decode cX10_recheck 127 = .ok (.iload 10, 2)) rfl ?_
        refine j_isub hE (by decide +kernel : decode cX10_recheck 129 = .ok (.isub, 1)) ?_
        refine j_iconst hE (by decide +kernel : decode cX10_recheck 130 = .ok (.iconst 1, 1)) (v := (1 : Int32)) (by decide) ?_
        refine j_isub hE (by decide +kernel : decode cX10_recheck 131 = .ok (.isub, 1)) ?_
        obtain ⟨hk0, hk, c1, c2, c3, c4, c5, c6, h⟩ := h
        obtain ⟨g8, hg⟩ : ∃ z, z = sAf g (Co g a7) (Ow g a7) (va_cpy (Ia g (Co g a6) (Ow g a6)) (Ia g (Co g a7) (Ow g a7)) (x3 + (1 : Int32)).toNatClampNeg x3.toNatClampNeg ((l5 - x3) - (1 : Int32)).toNatClampNeg) := ⟨_, rfl⟩; replace h := h g8 hg
        refine j_copyi hE rfl cp_X10_261 hk0 hk c1 c2 c3 c4 c5 c6 (Nat.le_of_ble_eq_true rfl) (by omega) (by omega) (by decide +kernel : decode cX10_recheck 132 = .ok (.invokestatic 261, 3)) ?_
        rw [← hg]
        refine j_iinc hE (by decide +kernel : decode cX10_recheck 135 = .ok (.iinc 5 (-1), 3)) (v := (-1 : Int32)) (by decide) rfl (Nat.le_of_ble_eq_true rfl) rfl ?_
        refine j_iinc hE (by decide +kernel : decode cX10_recheck 138 = .ok (.iinc 9 1, 3)) (v := (1 : Int32)) (by decide) rfl (Nat.le_of_ble_eq_true rfl) rfl ?_
        refine j_goto hE (by decide +kernel : decode cX10_recheck 141 = .ok (.goto (-84), 3)) (tgt := 57) (by decide) ?_
        refine j_weak [some (.ref l0), none, some (.int l2), none, none, some (.int (l5 + (-1 : Int32))), some (.int x5), some (.long x2), none, some (.int (l9 + (1 : Int32))), none] ⟨rfl, ⟨rfl, ⟨rfl, ⟨rfl, ⟨rfl, ⟨rfl, trivial⟩⟩⟩⟩⟩⟩ ?_
        exact hK57 _ _ _ _ _ _ _ h
set_option maxRecDepth 100000 in
def B_PV_recheck_21 (Γ : GAM) (K57 : Nat → Int32 → Int32 → Int32 → Int64 → Int32 → GH → Prop) (K : Int32 → GH → Prop)  (g : GH) : Prop :=
  K (-1 : Int32) g
set_option maxHeartbeats 4000000 in
set_option maxRecDepth 100000 in
theorem S_PV_recheck_21 {Γ : GAM} {E : EV} {K : Int32 → GH → Prop} (hE : GE Γ E cX10_recheck 11 RX10 (some (.int)) 10 398 (fun r g' => ∃ x, r = some (.int x) ∧ K x g')) {K57 : Nat → Int32 → Int32 → Int32 → Int64 → Int32 → GH → Prop} (hK57 : ∀ (l0 : Nat) (l2 : Int32) (l5 : Int32) (l6 : Int32) (l7 : Int64) (l9 : Int32) (g : GH), K57 l0 l2 l5 l6 l7 l9 g → JW Γ E 57 [some (.ref l0), none, some (.int l2), none, none, some (.int l5), some (.int l6), some (.long l7), none, some (.int l9), none] [] g)  (g : GH) (h : B_PV_recheck_21 Γ K57 K  g) : JW Γ E 21 [none, none, none, none, none, none, none, none, none, none, none] [] g := by
  unfold B_PV_recheck_21 at h
  refine j_iconst hE (by decide +kernel : decode cX10_recheck 21 = .ok (.iconst (-1), 1)) (v := (-1 : Int32)) (by decide) ?_
  exact j_iret hE (by decide +kernel : decode cX10_recheck 22 = .ok (.ireturn, 1)) ⟨_, rfl, h⟩
set_option maxRecDepth 100000 in
def B_PV_recheck_0 (Γ : GAM) (K57 : Nat → Int32 → Int32 → Int32 → Int64 → Int32 → GH → Prop) (K : Int32 → GH → Prop) (th : Nat) (p0 : Int32) (p1 : Int32) (p2 : Int64) (g : GH) : Prop :=
  Sp_PV_isWithin Γ p0 (1 : Int32) (50 : Int32) g (fun (x2 : Int32) (g1 : GH) => ((x2 = 0 → B_PV_recheck_21 Γ K57 K g1) ∧ (¬ (x2 = 0) → Sp_PV_isWithin Γ p1 (0 : Int32) (p0 - (1 : Int32)) g1 (fun (x4 : Int32) (g3 : GH) => ((¬ (x4 = 0) → Kd g3 th = 12 ∧ ∃ a5 : Nat, Gr g3 1410 th = some a5 ∧ Kd g3 th = 12 ∧ Kd g3 a5 = 6 ∧ Sp_Po_judgeAll Γ a5 (Gi g3 1408 th) g3 (fun (g6 : GH) => Kd g6 th = 12 ∧ Sp_PV_layCounted Γ th g6 (fun (x8 : Int32) (g7 : GH) => ((p0 ≤ x8 → K57 th p1 x8 (-1 : Int32) p2 (0 : Int32) g7) ∧ (¬ (p0 ≤ x8) → K (-1 : Int32) g7))))) ∧ (x4 = 0 → B_PV_recheck_21 Γ K57 K g3))))))
set_option maxHeartbeats 4000000 in
set_option maxRecDepth 100000 in
theorem S_PV_recheck_0 {Γ : GAM} {E : EV} {K : Int32 → GH → Prop} (hE : GE Γ E cX10_recheck 11 RX10 (some (.int)) 10 398 (fun r g' => ∃ x, r = some (.int x) ∧ K x g')) {K57 : Nat → Int32 → Int32 → Int32 → Int64 → Int32 → GH → Prop} (hK57 : ∀ (l0 : Nat) (l2 : Int32) (l5 : Int32) (l6 : Int32) (l7 : Int64) (l9 : Int32) (g : GH), K57 l0 l2 l5 l6 l7 l9 g → JW Γ E 57 [some (.ref l0), none, some (.int l2), none, none, some (.int l5), some (.int l6), some (.long l7), none, some (.int l9), none] [] g) (th : Nat) (p0 : Int32) (p1 : Int32) (p2 : Int64) (g : GH) (h : B_PV_recheck_0 Γ K57 K th p0 p1 p2 g) : JW Γ E 0 [some (.ref th), some (.int p0), some (.int p1), some (.long p2), none, none, none, none, none, none, none] [] g := by
  unfold B_PV_recheck_0 at h
  refine j_iload_n hE (by decide +kernel : decode cX10_recheck 0 = .ok (.iload_n 1, 1)) rfl rfl ?_
  refine j_iconst hE (by decide +kernel : decode cX10_recheck 1 = .ok (.iconst 1, 1)) (v := (1 : Int32)) (by decide) ?_
  refine j_bipush hE (by decide +kernel : decode cX10_recheck 2 = .ok (.bipush 50, 2)) (v := (50 : Int32)) (by decide) ?_
  refine j_callS hE rfl cl_X10_64 st_X10_isWithin ⟨by omega, by omega⟩ (As := [.int p0, .int (1 : Int32), .int (50 : Int32)]) (rest := []) rfl rfl (Nat.le_of_ble_eq_true rfl) (by decide +kernel : decode cX10_recheck 4 = .ok (.invokestatic 64, 3)) (mt_PV_isWithin _ _ _ _ _ h) ?_
  rintro _ g1 ⟨x2, rfl, h⟩
  refine j_if_eq hE (by decide +kernel : decode cX10_recheck 7 = .ok (.ifCond .eq 14, 3)) (tgt := 21) (by decide) (fun q => ?_) (fun q => ?_)
  · replace h := h.1 q
    refine j_weak [none, none, none, none, none, none, none, none, none, none, none] trivial ?_
    exact S_PV_recheck_21 hE hK57 _ h
  · replace h := h.2 q
    refine j_iload_n hE (by decide +kernel : decode cX10_recheck 10 = .ok (.iload_n 2, 1)) rfl rfl ?_
    refine j_iconst hE (by decide +kernel : decode cX10_recheck 11 = .ok (.iconst 0, 1)) (v := (0 : Int32)) (by decide) ?_
    refine j_iload_n hE (by decide +kernel : decode cX10_recheck 12 = .ok (.iload_n 1, 1)) rfl rfl ?_
    refine j_iconst hE (by decide +kernel : decode cX10_recheck 13 = .ok (.iconst 1, 1)) (v := (1 : Int32)) (by decide) ?_
    refine j_isub hE (by decide +kernel : decode cX10_recheck 14 = .ok (.isub, 1)) ?_
    refine j_callS hE rfl cl_X10_64 st_X10_isWithin ⟨by omega, by omega⟩ (As := [.int p1, .int (0 : Int32), .int (p0 - (1 : Int32))]) (rest := []) rfl rfl (Nat.le_of_ble_eq_true rfl) (by decide +kernel : decode cX10_recheck 15 = .ok (.invokestatic 64, 3)) (mt_PV_isWithin _ _ _ _ _ h) ?_
    rintro _ g3 ⟨x4, rfl, h⟩
    refine j_if_ne hE (by decide +kernel : decode cX10_recheck 18 = .ok (.ifCond .ne 5, 3)) (tgt := 23) (by decide) (fun q => ?_) (fun q => ?_)
    · replace h := h.1 q
      refine j_aload_n hE (by decide +kernel : decode cX10_recheck 23 = .ok (.aload_n 0, 1)) rfl rfl ?_
      obtain ⟨hk, h⟩ := h
      obtain ⟨a5, ha, h⟩ := h
      refine j_getRn hE fg_X10_16 hk ha (by decide +kernel : decode cX10_recheck 24 = .ok (.getfield 16, 3)) ?_
      refine j_aload_n hE (by decide +kernel : decode cX10_recheck 27 = .ok (.aload_n 0, 1)) rfl rfl ?_
      obtain ⟨hk, h⟩ := h
      refine j_getI hE fg_X10_68 hk (by decide +kernel : decode cX10_recheck 28 = .ok (.getfield 68, 3)) ?_
      obtain ⟨hk, h⟩ := h
      refine j_callV hE rfl cl_X10_237 cf_5 im_X4_judgeAll se_X4_judgeAll ⟨by omega, by omega⟩ (As := [.int (Gi g3 1408 th)]) (rest := []) rfl rfl (Nat.le_of_ble_eq_true rfl) hk (by decide +kernel : decode cX10_recheck 31 = .ok (.invokevirtual 237, 3)) (mt_Po_judgeAll _ _ _ _ h) ?_
      rintro _ g6 ⟨rfl, h⟩
      refine j_aload_n hE (by decide +kernel : decode cX10_recheck 34 = .ok (.aload_n 0, 1)) rfl rfl ?_
      obtain ⟨hk, h⟩ := h
      refine j_callV hE rfl cl_X10_254 cf_11 im_X10_layCounted se_X10_layCounted ⟨by omega, by omega⟩ (As := []) (rest := []) rfl rfl (Nat.le_of_ble_eq_true rfl) hk (by decide +kernel : decode cX10_recheck 35 = .ok (.invokevirtual 254, 3)) (mt_PV_layCounted _ _ _ h) ?_
      rintro _ g7 ⟨x8, rfl, h⟩
      refine j_istore hE (by decide +kernel : decode cX10_recheck 38 = .ok (.istore 5, 2)) (Nat.le_of_ble_eq_true rfl) rfl ?_
      refine j_iload hE (by decide +kernel : decode cX10_recheck 40 = .ok (.iload 5, 2)) rfl ?_
      refine j_iload_n hE (by decide +kernel : decode cX10_recheck 42 = .ok (.iload_n 1, 1)) rfl rfl ?_
      refine j_icmp_ge hE (by decide +kernel : decode cX10_recheck 43 = .ok (.if_icmp .ge 5, 3)) (tgt := 48) (by decide) (fun q => ?_) (fun q => ?_)
      · replace h := h.1 q
        refine j_iconst hE (by decide +kernel : decode cX10_recheck 48 = .ok (.iconst (-1), 1)) (v := (-1 : Int32)) (by decide) ?_
        refine j_istore hE (by decide +kernel : decode cX10_recheck 49 = .ok (.istore 6, 2)) (Nat.le_of_ble_eq_true rfl) rfl ?_
        refine j_lload_n hE (by decide +kernel : decode cX10_recheck 51 = .ok (.lload_n 3, 1)) rfl rfl ?_
        refine j_lstore hE (by decide +kernel : decode cX10_recheck 52 = .ok (.lstore 7, 2)) (Nat.le_of_ble_eq_true rfl) rfl ?_
        refine j_iconst hE (by decide +kernel : decode cX10_recheck 54 = .ok (.iconst 0, 1)) (v := (0 : Int32)) (by decide) ?_
        refine j_istore hE (by decide +kernel : decode cX10_recheck 55 = .ok (.istore 9, 2)) (Nat.le_of_ble_eq_true rfl) rfl ?_
        refine j_weak [some (.ref th), none, some (.int p1), none, none, some (.int x8), some (.int (-1 : Int32)), some (.long p2), none, some (.int (0 : Int32)), none] ⟨rfl, ⟨rfl, ⟨rfl, ⟨rfl, ⟨rfl, ⟨rfl, trivial⟩⟩⟩⟩⟩⟩ ?_
        exact hK57 _ _ _ _ _ _ _ h
      · replace h := h.2 q
        refine j_iconst hE (by decide +kernel : decode cX10_recheck 46 = .ok (.iconst (-1), 1)) (v := (-1 : Int32)) (by decide) ?_
        exact j_iret hE (by decide +kernel : decode cX10_recheck 47 = .ok (.ireturn, 1)) ⟨_, rfl, h⟩
    · replace h := h.2 q
      refine j_weak [none, none, none, none, none, none, none, none, none, none, none] trivial ?_
      exact S_PV_recheck_21 hE hK57 _ h
set_option maxHeartbeats 4000000 in
set_option maxRecDepth 100000 in
theorem rl_PV_recheck {Γ : GAM} {l : Launch} {th : Nat} {p0 : Int32} {p1 : Int32} {p2 : Int64} {g : GH} {K : Int32 → GH → Prop} (I57 : Nat → Nat → Int32 → Int32 → Int32 → Int64 → Int32 → GH → Prop) (hh57 : ∀ n (l0 : Nat) (l2 : Int32) (l5 : Int32) (l6 : Int32) (l7 : Int64) (l9 : Int32) (g : GH), I57 n l0 l2 l5 l6 l7 l9 g → B_PV_recheck_57 Γ (fun l0 l2 l5 l6 l7 l9 g => ∃ m, m < n ∧ I57 m l0 l2 l5 l6 l7 l9 g) K l0 l2 l5 l6 l7 l9 g) (h0 : B_PV_recheck_0 Γ (fun l0 l2 l5 l6 l7 l9 g => ∃ m, I57 m l0 l2 l5 l6 l7 l9 g) K th p0 p1 p2 g) : MetA Γ l yX10_recheck cX10_recheck 11 (some (.int)) 10 398 [.ref th, .int p0, .int p1, .long p2] g (fun r g' => ∃ x, r = some (.int x) ∧ K x g') := by
  refine MetA.introL (Lx := [some (.ref th), some (.int p0), some (.int p1), some (.long p2), none, none, none, none, none, none, none]) (by decide) (Nat.le_of_ble_eq_true rfl) rfl rfl ?_
  intro E hEl hE hnm
  have hall : ∀ n, (∀ (l0 : Nat) (l2 : Int32) (l5 : Int32) (l6 : Int32) (l7 : Int64) (l9 : Int32) (g : GH), I57 n l0 l2 l5 l6 l7 l9 g → JW Γ E 57 [some (.ref l0), none, some (.int l2), none, none, some (.int l5), some (.int l6), some (.long l7), none, some (.int l9), none] [] g) := by
    intro n
    induction n using Nat.strongRecOn with
    | ind n ih =>
      exact fun l0 l2 l5 l6 l7 l9 g hi => S_PV_recheck_57 hE (fun l0 l2 l5 l6 l7 l9 g hm => by obtain ⟨m, hm, h⟩ := hm; exact (ih m hm) l0 l2 l5 l6 l7 l9 g h) l0 l2 l5 l6 l7 l9 g (hh57 n l0 l2 l5 l6 l7 l9 g hi)
  exact S_PV_recheck_0 hE (fun l0 l2 l5 l6 l7 l9 g hm => by obtain ⟨m, h⟩ := hm; exact (hall m) l0 l2 l5 l6 l7 l9 g h) th p0 p1 p2 g h0
theorem mt_PV_recheck {Γ : GAM} {l : Launch} (th : Nat) (p0 : Int32) (p1 : Int32) (p2 : Int64) (g : GH) (K : Int32 → GH → Prop) (h : Sp_PV_recheck Γ th p0 p1 p2 g K) : MetA Γ l yX10_recheck cX10_recheck 11 (some (.int)) 10 398 [.ref th, .int p0, .int p1, .long p2] g (fun r g' => ∃ x, r = some (.int x) ∧ K x g') := by
  obtain ⟨C, s, n, rfl, hI, hW, hR, hK⟩ := PVC.e h
  have he := hI.en
  obtain ⟨hkd, ⟨h1, h2⟩, -, -, -, -, hnow, hsiz⟩ := hI.pk
  have hP := hI.2.2.2.2.2.2.1
  have hlen := hW.len
  have hlo := sLo_le s
  unfold p_recheck at hK
  have hno : ¬ ok_recheck s p0 p1 → K (-1) g := fun u => hK C g _ _ (if_neg u) rfl (FrC.rf he) rfl hI hR.dn
  refine rl_PV_recheck (fun n l0 l2 l5 l6 l7 l9 g' => c_x C = l0 ∧ p1 = l2 ∧ ok_recheck s p0 p1 ∧ ∃ j g1, j ≤ p1.toNatClampNeg + 1 ∧ n = p1.toNatClampNeg + 1 - j ∧ l9 = nI j ∧ FC (c_D C) g g1 ∧ ClsI Γ C g1 s ∧ FrX (c_x C) [] [1417] g1 g' ∧ l6 = (rkD j (-1, p2, sLo s)).1 ∧ l7 = (rkD j (-1, p2, sLo s)).2.1 ∧ l5 = nI (rkD j (-1, p2, sLo s)).2.2.length ∧ ∀ i e, (rkD j (-1, p2, sLo s)).2.2[i]? = some e → Ia g' 1417 (c_x C) i = nI e) ?_ ?_
  · rintro n l0 l2 l5 l6 l7 l9 g' ⟨rfl, rfl, ok, j, g1, hj, rfl, rfl, hF, hI1, hx, rfl, rfl, rfl, hrow⟩
    have hI' : ClsI Γ C g' s := hI1.fr0 (hx.fr (als := []) hI1.en) (fun f hf z => by cases z) (by decide)
    obtain ⟨kkd, -⟩ := hI'.pk
    obtain ⟨a, a1, a2, a3, a4, a5⟩ := hI'.1.2.2.2.2.2.e
    have hp1 := nj_of ok.2.1.1
    have hp0 := nj_of (show 0 ≤ p0 from Int32.le_trans (by decide) ok.1.1)
    have hip : p1.toNatClampNeg < (sLo s).length := by
      have h1 := ok.2.2
      have h2 : p1 < p0 := by have := ok.2.1.2; have := ok.1; grind
      rw [hp0.1, nj_le hp0.2 (by omega)] at h1
      rw [hp0.1, hp1.1, nj_lt hp1.2 hp0.2] at h2
      omega
    have hle := rkD_len s p2 j (by omega) (by omega)
    obtain ⟨R, hR'⟩ : ∃ R, R = rkD j (-1, p2, sLo s) := ⟨_, rfl⟩
    have hs1 : rkD (j + 1) (-1, p2, sLo s) = rkS R := by rw [hR']; rfl
    rw [← hR'] at hrow hle ⊢
    suffices H : ∀ K57 : Nat → Int32 → Int32 → Int32 → Int64 → Int32 → GH → Prop, (∀ g2, j ≤ p1.toNatClampNeg → FrX (c_x C) [] [1417] g1 g2 → (∀ i e, (rkS R).2.2[i]? = some e → Ia g2 1417 (c_x C) i = nI e) → K57 (c_x C) p1 (nI (rkS R).2.2.length) (rkS R).1 (rkS R).2.1 (nI (j + 1)) g2) → B_PV_recheck_57 Γ K57 K (c_x C) p1 (nI R.2.2.length) R.1 R.2.1 (nI j) g' from
      H _ (fun g2 hlt h1 h2 => ⟨p1.toNatClampNeg + 1 - (j + 1), by omega, rfl, rfl, ok, j + 1, g1, by omega, rfl, rfl, hF, hI1, h1, by rw [hs1], by rw [hs1], by rw [hs1], by rw [hs1]; exact h2⟩)
    intro K57 hn
    unfold B_PV_recheck_57 B_PV_recheck_144
    have eR := hp1.1
    have elt : p1 < nI j ↔ p1.toNatClampNeg < j := by
      rw [show (p1 < nI j) ↔ (nI p1.toNatClampNeg < nI j) from by rw [← hp1.1]]
      exact nj_lt hp1.2 (by omega)
    have e0 : nI R.2.2.length ≤ 0 ↔ R.2.2.length = 0 := by
      rw [show (0 : Int32) = nI 0 from rfl, nj_le (by omega) (by omega)]; omega
    rw [elt, e0]
    refine ⟨fun u => ?_, fun u => ⟨fun u2 => absurd u2 (by omega), fun _ => ⟨kkd, a, a1, ⟨by omega, by omega⟩, ?_⟩⟩⟩
    · have hje : j = p1.toNatClampNeg + 1 := by omega
      have hr := hK C g' _ _ (if_pos ok) rfl (hF.c.tr (hx.c hI1.en (by simp) (by decide))) rfl hI' ((hR.fc0 hF).x hx)
      rw [← hje, ← hR'] at hr
      exact hr
    · have hof : Int32.ofNat (Ln g' a) = nI 200 := by rw [a5]; rfl
      rw [hof, nj_lt (by omega) (by omega)]
      refine ⟨fun q => absurd q (by omega), fun _ => ?_⟩
      rintro _ rfl
      have hn64 : (nI R.2.2.length).toInt64.toInt = (R.2.2.length : Int) := by
        rw [Int32.toInt_toInt64, nj_toInt (by omega)]
      refine ⟨fun q => ?_, ?_⟩
      · rw [q] at hn64
        have : (0 : Int64).toInt = 0 := by decide
        omega
      rintro x3 hx3
      have hx3' : x3 = rkI (rkN R.2.1) (nI R.2.2.length) := hx3
      have hb := rkI_in (rkN R.2.1) (n := R.2.2.length) (by omega) (by omega)
      rw [← hx3'] at hb
      have h3 := nj_of hb.1
      obtain ⟨p, hp⟩ : ∃ p, p = x3.toNatClampNeg := ⟨_, rfl⟩
      have hpl : p < R.2.2.length := by rw [hp]; exact hb.2
      have h3p : x3 = nI p := by rw [hp]; exact h3.1
      obtain ⟨v, hv⟩ := get_lt hpl
      have hrk : rkS R = (nI (R.2.2.getD p 0), rkN R.2.1, R.2.2.eraseIdx p) := by
        unfold rkS; rw [← hx3', ← hp]
      have hel : (R.2.2.eraseIdx p).length = R.2.2.length - 1 := by rw [List.length_eraseIdx, if_pos hpl]
      have e1 : nI p + 1 = nI (p + 1) := nj_s p
      have e2 : nI R.2.2.length - nI p - 1 = nI (R.2.2.length - p - 1) := by
        rw [nj_sub (by omega)]
        exact nj_sub (b := 1) (by omega)
      have e3 : nI R.2.2.length + (-1) = nI (R.2.2.length - 1) := (Int32.sub_eq_add_neg _ 1).symm.trans (nj_sub (b := 1) (by omega))
      rw [h3p, e1, e2, e3, nj_cl (show p < 2147483648 by omega), nj_cl (show p + 1 < 2147483648 by omega), nj_cl (show R.2.2.length - p - 1 < 2147483648 by omega)]
      refine ⟨kkd, a, a1, a2, by rw [a5]; exact inB_nI (by omega) (by omega), ?_⟩
      rw [a3, a4, hrow p v hv]
      rintro _ rfl
      refine ⟨kkd, a, a1, kkd, a, a1, a2, a2, nj_nneg (by omega), nj_nneg (by omega), nj_nneg (by omega), by omega, by omega, by omega, ?_⟩
      rw [a3, a4]
      rintro g8 hg8
      have hv0 : R.2.2.getD p 0 = v := by rw [List.getD_eq_getElem?_getD, hv]; rfl
      have := hn g8 (by omega) (hx.tr (by rw [hg8]; exact FrX.sAf' (by decide))) (fun i e hi => ?_)
      · rw [hrk] at this
        simp only [hel, hv0] at this
        rw [nj_s]
        exact this
      · rw [hrk] at hi
        simp only at hi
        rw [List.getElem?_eraseIdx] at hi
        have hi2 := fun q => (List.getElem?_eq_some_iff.mp (q : R.2.2[i + 1]? = some e)).1
        rw [hg8, Ia_sAf, if_pos ⟨rfl, rfl⟩]
        unfold va_cpy
        split at hi
        · rename_i hlt
          rw [if_neg (fun q => by omega)]
          exact hrow i e hi
        · rename_i hge
          have hi3 := hi2 hi
          rw [if_pos ⟨by omega, by omega⟩, show p + 1 + (i - p) = i + 1 by omega]
          exact hrow (i + 1) e hi
  · unfold B_PV_recheck_0 B_PV_recheck_21
    have hq0 : 0 ≤ s_now s ∧ s_now s ≤ s_now s := ⟨hW.now.1, Int32.le_refl _⟩
    refine pv_ite (fun u => hno (fun z => u z.1)) (fun u => pv_ite' (fun u2 => hno (fun z => u2 z.2.1)) (fun u2 => ⟨hkd, _, h1, hkd, h2, c_D C, s, rfl, hP, hW, by rw [hnow]; exact hq0, hI.2.2.2.2.2.2.2, hR.rc, fun g1 hF hC hJ => ?_⟩))
    rw [hnow] at hJ
    have hI1 := hI.fc hF.1 hC
    refine ⟨hI1.pk.1, C, s, rfl, hI1, hW, hJ, fun g2 hx hrow => ?_⟩
    have hI2 : ClsI Γ C g2 s := hI1.fr0 (hx.fr (als := []) hI1.en) (fun f hf z => by cases z) (by decide)
    refine ⟨fun u3 => ?_, fun u3 => ?_⟩
    · exact ⟨_, rfl, rfl, ⟨u, u2, u3⟩, 0, g1, Nat.zero_le _, rfl, nj_0, hF.1, hI1, hx, rfl, rfl, rfl, hrow⟩
    · exact hK C g2 _ _ (if_neg (fun z => u3 z.2.2)) rfl (hF.1.c.tr (hx.c hI1.en (by simp) (by decide))) rfl hI2 ((hR.fc0 hF.1).x hx)
