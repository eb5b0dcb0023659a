/-! the class's face: the tape, the waves, the van's rounds, laws in force, shires -/
theorem TT.cut {m : Nat} {g : GH} {t : List Int32} {n : Nat} (h : TT m g t) (hn : n ≤ t.length) : TT m (sI g 897 m (nI n)) (t.take n) := by
  obtain ⟨h1, h2, h3, h4, h5⟩ := h
  refine ⟨h1, by rw [Gi_sI, if_pos ⟨rfl, rfl⟩, List.length_take, Nat.min_eq_left hn], by rw [List.length_take]; omega, fun k x hx => ?_, fun x hx => h5 x (List.mem_of_mem_take hx)⟩
  rw [List.getElem?_take] at hx
  split at hx
  · exact h4 k x hx
  · cases hx
def Sp_PV_end (Γ : GAM) (x : Nat) (p0 : Int32) (g : GH) (K : Int32 → GH → Prop) : Prop := PVC Γ x g K (fun s => p_end s p0) (fun s => q_end s p0)
-- the walk of PV_end
set_option maxRecDepth 100000 in
def B_PV_end_0 (Γ : GAM) (K : Int32 → GH → Prop) (th : Nat) (p0 : Int32) (g : GH) : Prop :=
  Kd g th = 12 ∧ ∃ a1 : Nat, Gr g 1411 th = some a1 ∧ Kd g a1 = 8 ∧ Sp_PV_isWithin Γ p0 (0 : Int32) (Gi g 897 a1) g (fun (x3 : Int32) (g2 : GH) => ((¬ (x3 = 0) → Kd g2 th = 12 ∧ ∃ a4 : Nat, Gr g2 1411 th = some a4 ∧ Kd g2 a4 = 8 ∧ ∀ g5 : GH, g5 = sI g2 897 a4 p0 → K (1 : Int32) g5) ∧ (x3 = 0 → K (0 : Int32) g2)))
set_option maxHeartbeats 4000000 in
set_option maxRecDepth 100000 in
theorem S_PV_end_0 {Γ : GAM} {E : EV} {K : Int32 → GH → Prop} (hE : GE Γ E cX10_end 2 RX10 (some (.boolean)) 1 22 (fun r g' => ∃ x, r = some (.int x) ∧ K x g')) (th : Nat) (p0 : Int32) (g : GH) (h : B_PV_end_0 Γ K th p0 g) : JW Γ E 0 [some (.ref th), some (.int p0)] [] g := by
  unfold B_PV_end_0 at h
  refine j_iload_n hE (by decide +kernel : decode cX10_end 0 = .ok (.iload_n 1, 1)) rfl rfl ?_
  refine j_iconst hE (by decide +kernel : decode cX10_end 1 = .ok (.iconst 0, 1)) (v := (0 : Int32)) (by decide) ?_
  refine j_aload_n hE (by decide +kernel : decode cX10_end 2 = .ok (.aload_n 0, 1)) rfl rfl ?_
  obtain ⟨hk, h⟩ := h
  obtain ⟨a1, ha, h⟩ := h
  refine j_getRn hE fg_X10_23 hk ha (by decide +kernel : decode cX10_end 3 = .ok (.getfield 23, 3)) ?_
  obtain ⟨hk, h⟩ := h
  refine j_getI hE fg_X10_176 hk (by decide +kernel : decode cX10_end 6 = .ok (.getfield 176, 3)) ?_
  refine j_callS hE rfl cl_X10_64 st_X10_isWithin ⟨by omega, by omega⟩ (As := [.int p0, .int (0 : Int32), .int (Gi g 897 a1)]) (rest := []) rfl rfl (Nat.le_of_ble_eq_true rfl) (by decide +kernel : decode cX10_end 9 = .ok (.invokestatic 64, 3)) (mt_PV_isWithin _ _ _ _ _ h) ?_
  rintro _ g2 ⟨x3, rfl, h⟩
  refine j_if_ne hE (by decide +kernel : decode cX10_end 12 = .ok (.ifCond .ne 5, 3)) (tgt := 17) (by decide) (fun q => ?_) (fun q => ?_)
  · replace h := h.1 q
    refine j_aload_n hE (by decide +kernel : decode cX10_end 17 = .ok (.aload_n 0, 1)) rfl rfl ?_
    obtain ⟨hk, h⟩ := h
    obtain ⟨a4, ha, h⟩ := h
    refine j_getRn hE fg_X10_23 hk ha (by decide +kernel : decode cX10_end 18 = .ok (.getfield 23, 3)) ?_
    refine j_iload_n hE (by decide +kernel : decode cX10_end 21 = .ok (.iload_n 1, 1)) rfl rfl ?_
    obtain ⟨hk, h⟩ := h
    obtain ⟨g5, hg⟩ : ∃ z, z = sI g2 897 a4 p0 := ⟨_, rfl⟩; replace h := h g5 hg
    refine j_putI hE fa_X10_176 hk (fun q => by cases q) (by decide +kernel : decode cX10_end 22 = .ok (.putfield 176, 3)) ?_
    rw [← hg]
    refine j_iconst hE (by decide +kernel : decode cX10_end 25 = .ok (.iconst 1, 1)) (v := (1 : Int32)) (by decide) ?_
    exact j_zret hE (Or.inr rfl) (by decide +kernel : decode cX10_end 26 = .ok (.ireturn, 1)) ⟨_, rfl, h⟩
  · replace h := h.2 q
    refine j_iconst hE (by decide +kernel : decode cX10_end 15 = .ok (.iconst 0, 1)) (v := (0 : Int32)) (by decide) ?_
    exact j_zret hE (Or.inl rfl) (by decide +kernel : decode cX10_end 16 = .ok (.ireturn, 1)) ⟨_, rfl, h⟩
set_option maxHeartbeats 4000000 in
set_option maxRecDepth 100000 in
theorem rl_PV_end {Γ : GAM} {l : Launch} {th : Nat} {p0 : Int32} {g : GH} {K : Int32 → GH → Prop} (h0 : B_PV_end_0 Γ K th p0 g) : MetA Γ l yX10_end cX10_end 2 (some (.boolean)) 1 22 [.ref th, .int p0] g (fun r g' => ∃ x, r = some (.int x) ∧ K x g') := by
  refine MetA.introL (Lx := [some (.ref th), some (.int p0)]) (by decide) (Nat.le_of_ble_eq_true rfl) rfl rfl ?_
  intro E hEl hE hnm
  exact S_PV_end_0 hE th p0 g h0
theorem mt_PV_end {Γ : GAM} {l : Launch} (th : Nat) (p0 : Int32) (g : GH) (K : Int32 → GH → Prop) (h : Sp_PV_end Γ th p0 g K) : MetA Γ l yX10_end cX10_end 2 (some (.boolean)) 1 22 [.ref th, .int p0] g (fun r g' => ∃ x, r = some (.int x) ∧ K x g') := by
  obtain ⟨C, s, n, rfl, hI, hW, hR, hK⟩ := PVC.e h
  have he := hI.en
  obtain ⟨hkd, -, ⟨h1, h2⟩, -⟩ := hI.pk
  have hT := hI.2.2.1
  have hlen := hT.2.1
  have h200 := hT.2.2.1
  unfold p_end q_end at hK
  refine rl_PV_end ?_
  have hno : ¬ ok_end s p0 → K 0 g := fun u => hK C g _ _ (if_neg u) (if_neg u) (FrC.rf he) rfl hI hR.dn
  simp only [B_PV_end_0, Sp_PV_isWithin, ite_z, Classical.not_not, hkd, h1, h2, hlen, true_and, Option.some.injEq, exists_eq_left']
  refine ⟨fun u => ?_, fun u => hno (fun z => u ⟨Int32.not_lt.mp z.1, z.2⟩)⟩
  rintro g3 rfl
  have ok : ok_end s p0 := ⟨Int32.not_lt.mpr u.1, u.2⟩
  have hn := nj_of u.1
  have hx : FrX (c_ta C) [897] [] g (sI g 897 (c_ta C) p0) := FrX.sI (by decide)
  have hle : p0.toNatClampNeg ≤ (s_tap s).length := by
    have h2 := u.2
    rw [hn.1] at h2
    exact (nj_le hn.2 (by omega)).mp h2
  have hT2 := hT.cut hle
  rw [← hn.1] at hT2
  exact hK C _ _ _ (if_pos ok) (if_pos ok) (hx.c he (by decide) (by simp)) rfl (hI.tape hx (by decide) (by simp) hT2) (hR.x hx)
def Sp_PV_feed (Γ : GAM) (x : Nat) (p0 p1 p2 p3 p4 : Int32) (g : GH) (K : Int32 → GH → Prop) : Prop := PVC Γ x g K (fun s => p_feed s p0 p1 p2 p3 p4) (fun s => q_feed s p0 p1 p2 p3 p4)
-- the walk of PV_feed
set_option maxRecDepth 100000 in
def B_PV_feed_0 (Γ : GAM) (K : Int32 → GH → Prop) (th : Nat) (p0 : Int32) (p1 : Int32) (p2 : Int32) (p3 : Int32) (p4 : Int32) (g : GH) : Prop :=
  Sp_PV_signsIn Γ p0 g (fun (x2 : Int32) (g1 : GH) => Sp_PV_signsIn Γ p1 g1 (fun (x4 : Int32) (g3 : GH) => Sp_PV_signsIn Γ p2 g3 (fun (x6 : Int32) (g5 : GH) => Sp_PV_signsIn Γ p3 g5 (fun (x8 : Int32) (g7 : GH) => Sp_PV_signsIn Γ p4 g7 (fun (x10 : Int32) (g9 : GH) => ∀ x11 : Int32, x11 = ((((x2 + x4) + x6) + x8) + x10) → Kd g9 th = 12 ∧ ∃ a12 : Nat, Gr g9 1411 th = some a12 ∧ Kd g9 a12 = 8 ∧ ((((Gi g9 897 a12) + x11) ≤ (200 : Int32) → Kd g9 th = 12 ∧ ∃ a13 : Nat, Gr g9 1411 th = some a13 ∧ Kd g9 a13 = 8 ∧ Sp_Ta_take4 Γ a13 p0 g9 (fun (g14 : GH) => Kd g14 th = 12 ∧ ∃ a15 : Nat, Gr g14 1411 th = some a15 ∧ Kd g14 a15 = 8 ∧ Sp_Ta_take4 Γ a15 p1 g14 (fun (g16 : GH) => Kd g16 th = 12 ∧ ∃ a17 : Nat, Gr g16 1411 th = some a17 ∧ Kd g16 a17 = 8 ∧ Sp_Ta_take4 Γ a17 p2 g16 (fun (g18 : GH) => Kd g18 th = 12 ∧ ∃ a19 : Nat, Gr g18 1411 th = some a19 ∧ Kd g18 a19 = 8 ∧ Sp_Ta_take4 Γ a19 p3 g18 (fun (g20 : GH) => Kd g20 th = 12 ∧ ∃ a21 : Nat, Gr g20 1411 th = some a21 ∧ Kd g20 a21 = 8 ∧ Sp_Ta_take4 Γ a21 p4 g20 (fun (g22 : GH) => Kd g22 th = 12 ∧ ∃ a23 : Nat, Gr g22 1411 th = some a23 ∧ Kd g22 a23 = 8 ∧ K (Gi g22 897 a23) g22)))))) ∧ (¬ (((Gi g9 897 a12) + x11) ≤ (200 : Int32)) → K (-1 : Int32) g9)))))))
set_option maxHeartbeats 4000000 in
set_option maxRecDepth 100000 in
theorem S_PV_feed_0 {Γ : GAM} {E : EV} {K : Int32 → GH → Prop} (hE : GE Γ E cX10_feed 7 RX10 (some (.int)) 1 23 (fun r g' => ∃ x, r = some (.int x) ∧ K x g')) (th : Nat) (p0 : Int32) (p1 : Int32) (p2 : Int32) (p3 : Int32) (p4 : Int32) (g : GH) (h : B_PV_feed_0 Γ K th p0 p1 p2 p3 p4 g) : JW Γ E 0 [some (.ref th), some (.int p0), some (.int p1), some (.int p2), some (.int p3), some (.int p4), none] [] g := by
  unfold B_PV_feed_0 at h
  refine j_iload_n hE (by decide +kernel : decode cX10_feed 0 = .ok (.iload_n 1, 1)) rfl rfl ?_
  refine j_callS hE rfl cl_X10_172 st_X10_signsIn ⟨by omega, by omega⟩ (As := [.int p0]) (rest := []) rfl rfl (Nat.le_of_ble_eq_true rfl) (by decide +kernel : decode cX10_feed 1 = .ok (.invokestatic 172, 3)) (mt_PV_signsIn _ _ _ h) ?_
  rintro _ g1 ⟨x2, rfl, h⟩
  refine j_iload_n hE (by decide +kernel : decode cX10_feed 4 = .ok (.iload_n 2, 1)) rfl rfl ?_
  refine j_callS hE rfl cl_X10_172 st_X10_signsIn ⟨by omega, by omega⟩ (As := [.int p1]) (rest := [.int x2]) rfl rfl (Nat.le_of_ble_eq_true rfl) (by decide +kernel : decode cX10_feed 5 = .ok (.invokestatic 172, 3)) (mt_PV_signsIn _ _ _ h) ?_
  rintro _ g3 ⟨x4, rfl, h⟩
  refine j_iadd hE (by decide +kernel : decode cX10_feed 8 = .ok (.iadd, 1)) ?_
  refine j_iload_n hE (by decide +kernel : decode cX10_feed 9 = .ok (.iload_n 3, 1)) rfl rfl ?_
  refine j_callS hE rfl cl_X10_172 st_X10_signsIn ⟨by omega, by omega⟩ (As := [.int p2]) (rest := [.int (x2 + x4)]) rfl rfl (Nat.le_of_ble_eq_true rfl) (by decide +kernel : decode cX10_feed 10 = .ok (.invokestatic 172, 3)) (mt_PV_signsIn _ _ _ h) ?_
  rintro _ g5 ⟨x6, rfl, h⟩
  refine j_iadd hE (by decide +kernel : decode cX10_feed 13 = .ok (.iadd, 1)) ?_
  refine j_iload hE (by decide +kernel : decode cX10_feed 14 = .ok (.iload 4, 2)) rfl ?_
  refine j_callS hE rfl cl_X10_172 st_X10_signsIn ⟨by omega, by omega⟩ (As := [.int p3]) (rest := [.int ((x2 + x4) + x6)]) rfl rfl (Nat.le_of_ble_eq_true rfl) (by decide +kernel : decode cX10_feed 16 = .ok (.invokestatic 172, 3)) (mt_PV_signsIn _ _ _ h) ?_
  rintro _ g7 ⟨x8, rfl, h⟩
  refine j_iadd hE (by decide +kernel : decode cX10_feed 19 = .ok (.iadd, 1)) ?_
  refine j_iload hE (by decide +kernel : decode cX10_feed 20 = .ok (.iload 5, 2)) rfl ?_
  refine j_callS hE rfl cl_X10_172 st_X10_signsIn ⟨by omega, by omega⟩ (As := [.int p4]) (rest := [.int (((x2 + x4) + x6) + x8)]) rfl rfl (Nat.le_of_ble_eq_true rfl) (by decide +kernel : decode cX10_feed 22 = .ok (.invokestatic 172, 3)) (mt_PV_signsIn _ _ _ h) ?_
  rintro _ g9 ⟨x10, rfl, h⟩
  refine j_iadd hE (by decide +kernel : decode cX10_feed 25 = .ok (.iadd, 1)) ?_
  obtain ⟨x11, hx⟩ : ∃ z, z = ((((x2 + x4) + x6) + x8) + x10) := ⟨_, rfl⟩; replace h := h x11 hx; rw [← hx]
  refine j_istore hE (by decide +kernel : decode cX10_feed 26 = .ok (.istore 6, 2)) (Nat.le_of_ble_eq_true rfl) rfl ?_
  refine j_aload_n hE (by decide +kernel : decode cX10_feed 28 = .ok (.aload_n 0, 1)) rfl rfl ?_
  obtain ⟨hk, h⟩ := h
  obtain ⟨a12, ha, h⟩ := h
  refine j_getRn hE fg_X10_23 hk ha (by decide +kernel : decode cX10_feed 29 = .ok (.getfield 23, 3)) ?_
  obtain ⟨hk, h⟩ := h
  refine j_getI hE fg_X10_176 hk (by decide +kernel : decode cX10_feed 32 = .ok (.getfield 176, 3)) ?_
  refine j_iload hE (by decide +kernel : decode cX10_feed 35 = .ok (.iload 6, 2)) rfl ?_
  refine j_iadd hE (by decide +kernel : decode cX10_feed 37 = .ok (.iadd, 1)) ?_
  refine j_sipush hE (by decide +kernel : decode cX10_feed 38 = .ok (.sipush 200, 3)) (v := (200 : Int32)) (by decide) ?_
  refine j_icmp_le hE (by decide +kernel : decode cX10_feed 41 = .ok (.if_icmp .le 5, 3)) (tgt := 46) (by decide) (fun q => ?_) (fun q => ?_)
  · replace h := h.1 q
    refine j_aload_n hE (by decide +kernel : decode cX10_feed 46 = .ok (.aload_n 0, 1)) rfl rfl ?_
    obtain ⟨hk, h⟩ := h
    obtain ⟨a13, ha, h⟩ := h
    refine j_getRn hE fg_X10_23 hk ha (by decide +kernel : decode cX10_feed 47 = .ok (.getfield 23, 3)) ?_
    refine j_iload_n hE (by decide +kernel : decode cX10_feed 50 = .ok (.iload_n 1, 1)) rfl rfl ?_
    obtain ⟨hk, h⟩ := h
    refine j_callV hE rfl cl_X10_179 cf_7 im_X6_take4 se_X6_take4 ⟨by omega, by omega⟩ (As := [.int p0]) (rest := []) rfl rfl (Nat.le_of_ble_eq_true rfl) hk (by decide +kernel : decode cX10_feed 51 = .ok (.invokevirtual 179, 3)) (mt_Ta_take4 _ _ _ _ h) ?_
    rintro _ g14 ⟨rfl, h⟩
    refine j_aload_n hE (by decide +kernel : decode cX10_feed 54 = .ok (.aload_n 0, 1)) rfl rfl ?_
    obtain ⟨hk, h⟩ := h
    obtain ⟨a15, ha, h⟩ := h
    refine j_getRn hE fg_X10_23 hk ha (by decide +kernel : decode cX10_feed 55 = .ok (.getfield 23, 3)) ?_
    refine j_iload_n hE (by decide +kernel : decode cX10_feed 58 = .ok (.iload_n 2, 1)) rfl rfl ?_
    obtain ⟨hk, h⟩ := h
    refine j_callV hE rfl cl_X10_179 cf_7 im_X6_take4 se_X6_take4 ⟨by omega, by omega⟩ (As := [.int p1]) (rest := []) rfl rfl (Nat.le_of_ble_eq_true rfl) hk (by decide +kernel : decode cX10_feed 59 = .ok (.invokevirtual 179, 3)) (mt_Ta_take4 _ _ _ _ h) ?_
    rintro _ g16 ⟨rfl, h⟩
    refine j_aload_n hE (by decide +kernel : decode cX10_feed 62 = .ok (.aload_n 0, 1)) rfl rfl ?_
    obtain ⟨hk, h⟩ := h
    obtain ⟨a17, ha, h⟩ := h
    refine j_getRn hE fg_X10_23 hk ha (by decide +kernel : decode cX10_feed 63 = .ok (.getfield 23, 3)) ?_
    refine j_iload_n hE (by decide +kernel : decode cX10_feed 66 = .ok (.iload_n 3, 1)) rfl rfl ?_
    obtain ⟨hk, h⟩ := h
    refine j_callV hE rfl cl_X10_179 cf_7 im_X6_take4 se_X6_take4 ⟨by omega, by omega⟩ (As := [.int p2]) (rest := []) rfl rfl (Nat.le_of_ble_eq_true rfl) hk (by decide +kernel : decode cX10_feed 67 = .ok (.invokevirtual 179, 3)) (mt_Ta_take4 _ _ _ _ h) ?_
    rintro _ g18 ⟨rfl, h⟩
    refine j_aload_n hE (by decide +kernel : decode cX10_feed 70 = .ok (.aload_n 0, 1)) rfl rfl ?_
    obtain ⟨hk, h⟩ := h
    obtain ⟨a19, ha, h⟩ := h
    refine j_getRn hE fg_X10_23 hk ha (by decide +kernel : decode cX10_feed 71 = .ok (.getfield 23, 3)) ?_
    refine j_iload hE (by decide +kernel : decode cX10_feed 74 = .ok (.iload 4, 2)) rfl ?_
    obtain ⟨hk, h⟩ := h
    refine j_callV hE rfl cl_X10_179 cf_7 im_X6_take4 se_X6_take4 ⟨by omega, by omega⟩ (As := [.int p3]) (rest := []) rfl rfl (Nat.le_of_ble_eq_true rfl) hk (by decide +kernel : decode cX10_feed 76 = .ok (.invokevirtual 179, 3)) (mt_Ta_take4 _ _ _ _ h) ?_
    rintro _ g20 ⟨rfl, h⟩
    refine j_aload_n hE (by decide +kernel : decode cX10_feed 79 = .ok (.aload_n 0, 1)) rfl rfl ?_
    obtain ⟨hk, h⟩ := h
    obtain ⟨a21, ha, h⟩ := h
    refine j_getRn hE fg_X10_23 hk ha (by decide +kernel : decode cX10_feed 80 = .ok (.getfield 23, 3)) ?_
    refine j_iload hE (by decide +kernel : decode cX10_feed 83 = .ok (.iload 5, 2)) rfl ?_
    obtain ⟨hk, h⟩ := h
    refine j_callV hE rfl cl_X10_179 cf_7 im_X6_take4 se_X6_take4 ⟨by omega, by omega⟩ (As := [.int p4]) (rest := []) rfl rfl (Nat.le_of_ble_eq_true rfl) hk (by decide +kernel : decode cX10_feed 85 = .ok (.invokevirtual 179, 3)) (mt_Ta_take4 _ _ _ _ h) ?_
    rintro _ g22 ⟨rfl, h⟩
    refine j_aload_n hE (by decide +kernel : decode cX10_feed 88 = .ok (.aload_n 0, 1)) rfl rfl ?_
    obtain ⟨hk, h⟩ := h
    obtain ⟨a23, ha, h⟩ := h
    refine j_getRn hE fg_X10_23 hk ha (by decide +kernel : decode cX10_feed 89 = .ok (.getfield 23, 3)) ?_
    obtain ⟨hk, h⟩ := h
    refine j_getI hE fg_X10_176 hk (by decide +kernel : decode cX10_feed 92 = .ok (.getfield 176, 3)) ?_
    exact j_iret hE (by decide +kernel : decode cX10_feed 95 = .ok (.ireturn, 1)) ⟨_, rfl, h⟩
  · replace h := h.2 q
    refine j_iconst hE (by decide +kernel : decode cX10_feed 44 = .ok (.iconst (-1), 1)) (v := (-1 : Int32)) (by decide) ?_
    exact j_iret hE (by decide +kernel : decode cX10_feed 45 = .ok (.ireturn, 1)) ⟨_, rfl, h⟩
set_option maxHeartbeats 4000000 in
set_option maxRecDepth 100000 in
theorem rl_PV_feed {Γ : GAM} {l : Launch} {th : Nat} {p0 : Int32} {p1 : Int32} {p2 : Int32} {p3 : Int32} {p4 : Int32} {g : GH} {K : Int32 → GH → Prop} (h0 : B_PV_feed_0 Γ K th p0 p1 p2 p3 p4 g) : MetA Γ l yX10_feed cX10_feed 7 (some (.int)) 1 23 [.ref th, .int p0, .int p1, .int p2, .int p3, .int p4] g (fun r g' => ∃ x, r = some (.int x) ∧ K x g') := by
  refine MetA.introL (Lx := [some (.ref th), some (.int p0), some (.int p1), some (.int p2), some (.int p3), some (.int p4), none]) (by decide) (Nat.le_of_ble_eq_true rfl) rfl rfl ?_
  intro E hEl hE hnm
  exact S_PV_feed_0 hE th p0 p1 p2 p3 p4 g h0
theorem mt_PV_feed {Γ : GAM} {l : Launch} (th : Nat) (p0 : Int32) (p1 : Int32) (p2 : Int32) (p3 : Int32) (p4 : Int32) (g : GH) (K : Int32 → GH → Prop) (h : Sp_PV_feed Γ th p0 p1 p2 p3 p4 g K) : MetA Γ l yX10_feed cX10_feed 7 (some (.int)) 1 23 [.ref th, .int p0, .int p1, .int p2, .int p3, .int p4] g (fun r g' => ∃ x, r = some (.int x) ∧ K x g') := by
  obtain ⟨C, s, n, rfl, hI, hW, hR, hK⟩ := PVC.e h
  have he := hI.en
  obtain ⟨hkd, -, ⟨h1, h2⟩, -⟩ := hI.pk
  have hT := hI.2.2.1
  have hlen := hT.2.1
  have h200 := hT.2.2.1
  unfold p_feed q_feed at hK
  have hl4 : ∀ x, (t4p x 4).length ≤ 4 := fun x => by
    rw [t4p_fil]
    exact Nat.le_trans (List.length_filter_le _ _) (by simp)
  have b0 := hl4 p0
  have b1 := hl4 p1
  have b2 := hl4 p2
  have b3 := hl4 p3
  have b4 := hl4 p4
  have hfd := fdL_fil p0 p1 p2 p3 p4
  have hfl : (fdL p0 p1 p2 p3 p4 20).length = (t4p p0 4).length + (t4p p1 4).length + (t4p p2 4).length + (t4p p3 4).length + (t4p p4 4).length := by rw [hfd]; simp only [List.length_append]
  refine rl_PV_feed ?_
  unfold B_PV_feed_0 Sp_PV_signsIn
  rintro _ rfl
  rw [nI_add, nI_add, nI_add, nI_add, hfl.symm]
  refine ⟨hkd, _, h1, h2, ?_⟩
  rw [hlen, nI_add]
  have hle : nI ((s_tap s).length + (fdL p0 p1 p2 p3 p4 20).length) ≤ 200 ↔ (s_tap s).length + (fdL p0 p1 p2 p3 p4 20).length ≤ 200 := nj_le (b := 200) (by omega) (by omega)
  rw [hle]
  refine ⟨fun u => ?_, fun u => hK C g _ _ (if_neg u) (if_neg u) (FrC.rf he) rfl hI hR.dn⟩
  have xk : ∀ {g' : GH}, FrX (c_ta C) [897] [896] g g' → Kd g' (c_x C) = 12 ∧ ∃ a, Gr g' 1411 (c_x C) = some a ∧ Kd g' a = 8 ∧ a = c_ta C := fun {g'} hx => ⟨by rw [hx.1.2.2.2.2.2.1]; exact hkd, _, by rw [hx.1.2.1]; exact h1, by rw [hx.1.2.2.2.2.2.1]; exact h2, rfl⟩
  have kd' : ∀ {g' : GH}, FrX (c_ta C) [897] [896] g g' → Kd g' (c_x C) = 12 := fun hx => by rw [hx.1.2.2.2.2.2.1]; exact hkd
  have gr' : ∀ {g' : GH}, FrX (c_ta C) [897] [896] g g' → Gr g' 1411 (c_x C) = some (c_ta C) := fun hx => by rw [hx.1.2.1]; exact h1
  have ka' : ∀ {g' : GH}, FrX (c_ta C) [897] [896] g g' → Kd g' (c_ta C) = 8 := fun hx => by rw [hx.1.2.2.2.2.2.1]; exact h2
  refine ⟨hkd, _, h1, h2, s_tap s, hT, by omega, fun g1 x1 T1 => ?_⟩
  refine ⟨kd' x1, _, gr' x1, ka' x1, _, T1, by simp only [List.length_append]; omega, fun g2 x2 T2 => ?_⟩
  replace x2 := x1.tr x2
  refine ⟨kd' x2, _, gr' x2, ka' x2, _, T2, by simp only [List.length_append]; omega, fun g3 x3 T3 => ?_⟩
  replace x3 := x2.tr x3
  refine ⟨kd' x3, _, gr' x3, ka' x3, _, T3, by simp only [List.length_append]; omega, fun g4 x4 T4 => ?_⟩
  replace x4 := x3.tr x4
  refine ⟨kd' x4, _, gr' x4, ka' x4, _, T4, by simp only [List.length_append]; omega, fun g5 x5 T5 => ?_⟩
  replace x5 := x4.tr x5
  refine ⟨kd' x5, _, gr' x5, ka' x5, ?_⟩
  have eT : s_tap s ++ t4p p0 4 ++ t4p p1 4 ++ t4p p2 4 ++ t4p p3 4 ++ t4p p4 4 = s_tap s ++ fdL p0 p1 p2 p3 p4 20 := by rw [hfd]; simp only [List.append_assoc]
  rw [eT] at T5
  rw [T5.2.1, List.length_append]
  exact hK C _ _ _ (if_pos u) (if_pos u) (x5.c he (by decide) (by decide)) rfl (hI.tape x5 (by decide) (by decide) T5) (hR.x x5)
def Sp_PV_wave (Γ : GAM) (x : Nat) (p0 p1 p2 : Int32) (g : GH) (K : Int32 → GH → Prop) : Prop := PVC Γ x g K (fun s => p_wave s p0 p1 p2) (fun s => q_wave s p0 p1 p2)
-- the walk of PV_wave
set_option maxRecDepth 100000 in
def B_PV_wave_53 (Γ : GAM) (K : Int32 → GH → Prop)  (g : GH) : Prop :=
  K (-1 : Int32) g
set_option maxHeartbeats 4000000 in
set_option maxRecDepth 100000 in
theorem S_PV_wave_53 {Γ : GAM} {E : EV} {K : Int32 → GH → Prop} (hE : GE Γ E cX10_wave 5 RX10 (some (.int)) 2 42 (fun r g' => ∃ x, r = some (.int x) ∧ K x g'))  (g : GH) (h : B_PV_wave_53 Γ K  g) : JW Γ E 53 [none, none, none, none, none] [] g := by
  unfold B_PV_wave_53 at h
  refine j_iconst hE (by decide +kernel : decode cX10_wave 53 = .ok (.iconst (-1), 1)) (v := (-1 : Int32)) (by decide) ?_
  exact j_iret hE (by decide +kernel : decode cX10_wave 54 = .ok (.ireturn, 1)) ⟨_, rfl, h⟩
set_option maxRecDepth 100000 in
def B_PV_wave_34 (Γ : GAM) (K : Int32 → GH → Prop) (l0 : Nat) (l1 : Int32) (l2 : Int32) (l3 : Int32) (s0 : Int32) (g : GH) : Prop :=
  ((s0 = 0 → B_PV_wave_53 Γ K g) ∧ (¬ (s0 = 0) → Kd g l0 = 12 ∧ ∃ a1 : Nat, Gr g 1412 l0 = some a1 ∧ Kd g a1 = 7 ∧ (((Gi g 773 a1) < (12 : Int32) → Kd g l0 = 12 ∧ ∃ a2 : Nat, Gr g 1412 l0 = some a2 ∧ Kd g a2 = 7 ∧ Sp_Pr_order Γ a2 l1 l2 l3 g (fun (x4 : Int32) (g3 : GH) => K x4 g3)) ∧ (¬ ((Gi g 773 a1) < (12 : Int32)) → B_PV_wave_53 Γ K g))))
set_option maxHeartbeats 4000000 in
set_option maxRecDepth 100000 in
theorem S_PV_wave_34 {Γ : GAM} {E : EV} {K : Int32 → GH → Prop} (hE : GE Γ E cX10_wave 5 RX10 (some (.int)) 2 42 (fun r g' => ∃ x, r = some (.int x) ∧ K x g')) (l0 : Nat) (l1 : Int32) (l2 : Int32) (l3 : Int32) (s0 : Int32) (g : GH) (h : B_PV_wave_34 Γ K l0 l1 l2 l3 s0 g) : JW Γ E 34 [some (.ref l0), some (.int l1), some (.int l2), some (.int l3), none] [.int s0] g := by
  unfold B_PV_wave_34 at h
  refine j_istore hE (by decide +kernel : decode cX10_wave 34 = .ok (.istore 4, 2)) (Nat.le_of_ble_eq_true rfl) rfl ?_
  refine j_iload hE (by decide +kernel : decode cX10_wave 36 = .ok (.iload 4, 2)) rfl ?_
  refine j_if_eq hE (by decide +kernel : decode cX10_wave 38 = .ok (.ifCond .eq 15, 3)) (tgt := 53) (by decide) (fun q => ?_) (fun q => ?_)
  · replace h := h.1 q
    refine j_weak [none, none, none, none, none] trivial ?_
    exact S_PV_wave_53 hE _ h
  · replace h := h.2 q
    refine j_aload_n hE (by decide +kernel : decode cX10_wave 41 = .ok (.aload_n 0, 1)) rfl rfl ?_
    obtain ⟨hk, h⟩ := h
    obtain ⟨a1, ha, h⟩ := h
    refine j_getRn hE fg_X10_30 hk ha (by decide +kernel : decode cX10_wave 42 = .ok (.getfield 30, 3)) ?_
    obtain ⟨hk, h⟩ := h
    refine j_getI hE fg_X10_267 hk (by decide +kernel : decode cX10_wave 45 = .ok (.getfield 267, 3)) ?_
    refine j_bipush hE (by decide +kernel : decode cX10_wave 48 = .ok (.bipush 12, 2)) (v := (12 : Int32)) (by decide) ?_
    refine j_icmp_lt hE (by decide +kernel : decode cX10_wave 50 = .ok (.if_icmp .lt 5, 3)) (tgt := 55) (by decide) (fun q => ?_) (fun q => ?_)
    · replace h := h.1 q
      refine j_aload_n hE (by decide +kernel : decode cX10_wave 55 = .ok (.aload_n 0, 1)) rfl rfl ?_
      obtain ⟨hk, h⟩ := h
      obtain ⟨a2, ha, h⟩ := h
      refine j_getRn hE fg_X10_30 hk ha (by decide +kernel : decode cX10_wave 56 = .ok (.getfield 30, 3)) ?_
      refine j_iload_n hE (by decide +kernel : decode cX10_wave 59 = .ok (.iload_n 1, 1)) rfl rfl ?_
      refine j_iload_n hE (by decide +kernel : decode cX10_wave 60 = .ok (.iload_n 2, 1)) rfl rfl ?_
      refine j_iload_n hE (by decide +kernel : decode cX10_wave 61 = .ok (.iload_n 3, 1)) rfl rfl ?_
      obtain ⟨hk, h⟩ := h
      refine j_callV hE rfl cl_X10_270 cf_6 im_X5_order se_X5_order ⟨by omega, by omega⟩ (As := [.int l1, .int l2, .int l3]) (rest := []) rfl rfl (Nat.le_of_ble_eq_true rfl) hk (by decide +kernel : decode cX10_wave 62 = .ok (.invokevirtual 270, 3)) (mt_Pr_order _ _ _ _ _ _ h) ?_
      rintro _ g3 ⟨x4, rfl, h⟩
      exact j_iret hE (by decide +kernel : decode cX10_wave 65 = .ok (.ireturn, 1)) ⟨_, rfl, h⟩
    · replace h := h.2 q
      refine j_weak [none, none, none, none, none] trivial ?_
      exact S_PV_wave_53 hE _ h
set_option maxRecDepth 100000 in
def B_PV_wave_33 (Γ : GAM) (K : Int32 → GH → Prop) (l0 : Nat) (l1 : Int32) (l2 : Int32) (l3 : Int32) (g : GH) : Prop :=
  B_PV_wave_34 Γ K l0 l1 l2 l3 (0 : Int32) g
set_option maxHeartbeats 4000000 in
set_option maxRecDepth 100000 in
theorem S_PV_wave_33 {Γ : GAM} {E : EV} {K : Int32 → GH → Prop} (hE : GE Γ E cX10_wave 5 RX10 (some (.int)) 2 42 (fun r g' => ∃ x, r = some (.int x) ∧ K x g')) (l0 : Nat) (l1 : Int32) (l2 : Int32) (l3 : Int32) (g : GH) (h : B_PV_wave_33 Γ K l0 l1 l2 l3 g) : JW Γ E 33 [some (.ref l0), some (.int l1), some (.int l2), some (.int l3), none] [] g := by
  unfold B_PV_wave_33 at h
  refine j_iconst hE (by decide +kernel : decode cX10_wave 33 = .ok (.iconst 0, 1)) (v := (0 : Int32)) (by decide) ?_
  exact S_PV_wave_34 hE _ _ _ _ _ _ h
set_option maxRecDepth 100000 in
def B_PV_wave_0 (Γ : GAM) (K : Int32 → GH → Prop) (th : Nat) (p0 : Int32) (p1 : Int32) (p2 : Int32) (g : GH) : Prop :=
  Sp_PV_isWithin Γ p0 (1 : Int32) (5000 : Int32) g (fun (x2 : Int32) (g1 : GH) => ((x2 = 0 → B_PV_wave_33 Γ K th p0 p1 p2 g1) ∧ (¬ (x2 = 0) → Sp_PV_isDay Γ p1 g1 (fun (x4 : Int32) (g3 : GH) => ((x4 = 0 → B_PV_wave_33 Γ K th p0 p1 p2 g3) ∧ (¬ (x4 = 0) → Sp_PV_isWithin Γ p2 p1 (400 : Int32) g3 (fun (x6 : Int32) (g5 : GH) => ((x6 = 0 → B_PV_wave_33 Γ K th p0 p1 p2 g5) ∧ (¬ (x6 = 0) → B_PV_wave_34 Γ K th p0 p1 p2 (1 : Int32) g5)))))))))
set_option maxHeartbeats 4000000 in
set_option maxRecDepth 100000 in
theorem S_PV_wave_0 {Γ : GAM} {E : EV} {K : Int32 → GH → Prop} (hE : GE Γ E cX10_wave 5 RX10 (some (.int)) 2 42 (fun r g' => ∃ x, r = some (.int x) ∧ K x g')) (th : Nat) (p0 : Int32) (p1 : Int32) (p2 : Int32) (g : GH) (h : B_PV_wave_0 Γ K th p0 p1 p2 g) : JW Γ E 0 [some (.ref th), some (.int p0), some (.int p1), some (.int p2), none] [] g := by
  unfold B_PV_wave_0 at h
  refine j_iload_n hE (by decide +kernel : decode cX10_wave 0 = .ok (.iload_n 1, 1)) rfl rfl ?_
  refine j_iconst hE (by decide +kernel : decode cX10_wave 1 = .ok (.iconst 1, 1)) (v := (1 : Int32)) (by decide) ?_
  refine j_sipush hE (by decide +kernel : decode cX10_wave 2 = .ok (.sipush 5000, 3)) (v := (5000 : Int32)) (by decide) ?_
  refine j_callS hE rfl cl_X10_64 st_X10_isWithin ⟨by omega, by omega⟩ (As := [.int p0, .int (1 : Int32), .int (5000 : Int32)]) (rest := []) rfl rfl (Nat.le_of_ble_eq_true rfl) (by decide +kernel : decode cX10_wave 5 = .ok (.invokestatic 64, 3)) (mt_PV_isWithin _ _ _ _ _ h) ?_
  rintro _ g1 ⟨x2, rfl, h⟩
  refine j_if_eq hE (by decide +kernel : decode cX10_wave 8 = .ok (.ifCond .eq 25, 3)) (tgt := 33) (by decide) (fun q => ?_) (fun q => ?_)
  · replace h := h.1 q
    exact S_PV_wave_33 hE _ _ _ _ _ h
  · replace h := h.2 q
    refine j_iload_n hE (by decide +kernel : decode cX10_wave 11 = .ok (.iload_n 2, 1)) rfl rfl ?_
    refine j_callS hE rfl cl_X10_114 st_X10_isDay ⟨by omega, by omega⟩ (As := [.int p1]) (rest := []) rfl rfl (Nat.le_of_ble_eq_true rfl) (by decide +kernel : decode cX10_wave 12 = .ok (.invokestatic 114, 3)) (mt_PV_isDay _ _ _ h) ?_
    rintro _ g3 ⟨x4, rfl, h⟩
    refine j_if_eq hE (by decide +kernel : decode cX10_wave 15 = .ok (.ifCond .eq 18, 3)) (tgt := 33) (by decide) (fun q => ?_) (fun q => ?_)
    · replace h := h.1 q
      exact S_PV_wave_33 hE _ _ _ _ _ h
    · replace h := h.2 q
      refine j_iload_n hE (by decide +kernel : decode cX10_wave 18 = .ok (.iload_n 3, 1)) rfl rfl ?_
      refine j_iload_n hE (by decide +kernel : decode cX10_wave 19 = .ok (.iload_n 2, 1)) rfl rfl ?_
      refine j_sipush hE (by decide +kernel : decode cX10_wave 20 = .ok (.sipush 400, 3)) (v := (400 : Int32)) (by decide) ?_
      refine j_callS hE rfl cl_X10_64 st_X10_isWithin ⟨by omega, by omega⟩ (As := [.int p2, .int p1, .int (400 : Int32)]) (rest := []) rfl rfl (Nat.le_of_ble_eq_true rfl) (by decide +kernel : decode cX10_wave 23 = .ok (.invokestatic 64, 3)) (mt_PV_isWithin _ _ _ _ _ h) ?_
      rintro _ g5 ⟨x6, rfl, h⟩
      refine j_if_eq hE (by decide +kernel : decode cX10_wave 26 = .ok (.ifCond .eq 7, 3)) (tgt := 33) (by decide) (fun q => ?_) (fun q => ?_)
      · replace h := h.1 q
        exact S_PV_wave_33 hE _ _ _ _ _ h
      · replace h := h.2 q
        refine j_iconst hE (by decide +kernel : decode cX10_wave 29 = .ok (.iconst 1, 1)) (v := (1 : Int32)) (by decide) ?_
        refine j_goto hE (by decide +kernel : decode cX10_wave 30 = .ok (.goto 4, 3)) (tgt := 34) (by decide) ?_
        exact S_PV_wave_34 hE _ _ _ _ _ _ h
set_option maxHeartbeats 4000000 in
set_option maxRecDepth 100000 in
theorem rl_PV_wave {Γ : GAM} {l : Launch} {th : Nat} {p0 : Int32} {p1 : Int32} {p2 : Int32} {g : GH} {K : Int32 → GH → Prop} (h0 : B_PV_wave_0 Γ K th p0 p1 p2 g) : MetA Γ l yX10_wave cX10_wave 5 (some (.int)) 2 42 [.ref th, .int p0, .int p1, .int p2] g (fun r g' => ∃ x, r = some (.int x) ∧ K x g') := by
  refine MetA.introL (Lx := [some (.ref th), some (.int p0), some (.int p1), some (.int p2), none]) (by decide) (Nat.le_of_ble_eq_true rfl) rfl rfl ?_
  intro E hEl hE hnm
  exact S_PV_wave_0 hE th p0 p1 p2 g h0
theorem mt_PV_wave {Γ : GAM} {l : Launch} (th : Nat) (p0 : Int32) (p1 : Int32) (p2 : Int32) (g : GH) (K : Int32 → GH → Prop) (h : Sp_PV_wave Γ th p0 p1 p2 g K) : MetA Γ l yX10_wave cX10_wave 5 (some (.int)) 2 42 [.ref th, .int p0, .int p1, .int p2] g (fun r g' => ∃ x, r = some (.int x) ∧ K x g') := by
  obtain ⟨C, s, n, rfl, hI, hW, hR, hK⟩ := PVC.e h
  have he := hI.en
  obtain ⟨hkd, -, -, ⟨h1, h2⟩, -⟩ := hI.pk
  have hP := hI.2.2.2.1
  have hwl := hP.2.1
  have h12 := hW.len.2.2.2.2.2.2.2.2.2.2.1
  unfold p_wave q_wave at hK
  refine rl_PV_wave ?_
  have hno : ¬ ok_wave s p0 p1 p2 → K (-1) g := fun u => hK C g _ _ (if_neg u) (if_neg u) (FrC.rf he) rfl hI hR.dn
  have h34 : (1 ≤ p0 ∧ p0 ≤ 5000) → (0 ≤ p1 ∧ p1 ≤ 400) → (p1 ≤ p2 ∧ p2 ≤ 400) → B_PV_wave_34 Γ K (c_x C) p0 p1 p2 1 g := fun a b c => by
    unfold B_PV_wave_34 B_PV_wave_53
    refine ⟨fun u => absurd u (by decide), fun _ => ⟨hkd, _, h1, h2, ?_⟩⟩
    rw [hwl, show ((12 : Int32) = nI 12) from rfl, nj_lt (by omega) (by omega)]
    refine ⟨fun u => ⟨hkd, _, h1, h2, s, hP, h12, fun z => by omega, fun _ g4 hx hP4 => ?_⟩, fun u => hno (fun z => z.1 (by omega))⟩
    have ok : ok_wave s p0 p1 p2 := ⟨by omega, a, b, c⟩
    exact hK C _ _ _ (if_pos ok) (if_pos ok) (hx.c he (by decide) (by decide)) rfl (hI.prn hx (by decide) (by decide) hP4 (fun z => z) rfl (fun z => z.cg rfl rfl rfl) (fun z => z) (fun z => z)) (hR.x hx)
  have h33 : ¬ ok_wave s p0 p1 p2 → B_PV_wave_33 Γ K (c_x C) p0 p1 p2 g := fun u => by
    unfold B_PV_wave_33 B_PV_wave_34 B_PV_wave_53
    exact ⟨fun _ => hno u, fun z => absurd rfl z⟩
  unfold B_PV_wave_0
  simp only [Sp_PV_isWithin, Sp_PV_isDay, ite_z, Classical.not_not]
  exact ⟨fun u => h33 (fun z => u z.2.1), fun u => ⟨fun u2 => h33 (fun z => u2 z.2.2.1), fun u2 => ⟨fun u3 => h33 (fun z => u3 z.2.2.2), fun u3 => h34 u u2 u3⟩⟩⟩
def Sp_PV_fault (Γ : GAM) (x : Nat) (g : GH) (K : Int32 → GH → Prop) : Prop := PVC Γ x g K (fun s => p_fault s) (fun s => s)
theorem TRs.t {m : Nat} {g : GH} {t : List Int32} {r : Nat ⊕ List Rl} {b : Int32} (h : TRs m g t r b) (h0 : TT m g t) : TT m g t := h0
theorem TT.x0 {m : Nat} {g g' : GH} {t : List Int32} {fs cs : List Nat} (h : TT m g t) (k : FrX m fs cs g g') (h1 : 897 ∉ fs) (h2 : 896 ∉ cs) : TT m g' t := by
  obtain ⟨⟨a0, a⟩, b, c, d, e⟩ := h
  obtain ⟨⟨x1, x2, x3, x4, x5, x6, x7, x8, x9, x10, x11, x12⟩, y1, y2⟩ := k
  unfold TT TA
  rw [x2, x6, x7, x8, x9, y1 _ h1, y2 _ h2]
  exact ⟨⟨a0, a⟩, b, c, d, e⟩
theorem u_tap_s (s : ST) : u_tap s (s_tap s) = s := rfl
-- the walk of PV_fault
set_option maxRecDepth 100000 in
def B_PV_fault_0 (Γ : GAM) (K : Int32 → GH → Prop) (th : Nat) (g : GH) : Prop :=
  Kd g th = 12 ∧ ∃ a1 : Nat, Gr g 1411 th = some a1 ∧ Kd g a1 = 8 ∧ Sp_Ta_firstFault Γ a1 g (fun (x3 : Int32) (g2 : GH) => K x3 g2)
set_option maxHeartbeats 4000000 in
set_option maxRecDepth 100000 in
theorem S_PV_fault_0 {Γ : GAM} {E : EV} {K : Int32 → GH → Prop} (hE : GE Γ E cX10_fault 1 RX10 (some (.int)) 131 19022 (fun r g' => ∃ x, r = some (.int x) ∧ K x g')) (th : Nat) (g : GH) (h : B_PV_fault_0 Γ K th g) : JW Γ E 0 [some (.ref th)] [] g := by
  unfold B_PV_fault_0 at h
  refine j_aload_n hE (by decide +kernel : decode cX10_fault 0 = .ok (.aload_n 0, 1)) rfl rfl ?_
  obtain ⟨hk, h⟩ := h
  obtain ⟨a1, ha, h⟩ := h
  refine j_getRn hE fg_X10_23 hk ha (by decide +kernel : decode cX10_fault 1 = .ok (.getfield 23, 3)) ?_
  obtain ⟨hk, h⟩ := h
  refine j_callV hE rfl cl_X10_183 cf_7 im_X6_firstFault se_X6_firstFault ⟨by omega, by omega⟩ (As := []) (rest := []) rfl rfl (Nat.le_of_ble_eq_true rfl) hk (by decide +kernel : decode cX10_fault 4 = .ok (.invokevirtual 183, 3)) (mt_Ta_firstFault _ _ _ h) ?_
  rintro _ g2 ⟨x3, rfl, h⟩
  exact j_iret hE (by decide +kernel : decode cX10_fault 7 = .ok (.ireturn, 1)) ⟨_, rfl, h⟩
set_option maxHeartbeats 4000000 in
set_option maxRecDepth 100000 in
theorem rl_PV_fault {Γ : GAM} {l : Launch} {th : Nat} {g : GH} {K : Int32 → GH → Prop} (h0 : B_PV_fault_0 Γ K th g) : MetA Γ l yX10_fault cX10_fault 1 (some (.int)) 131 19022 [.ref th] g (fun r g' => ∃ x, r = some (.int x) ∧ K x g') := by
  refine MetA.introL (Lx := [some (.ref th)]) (by decide) (Nat.le_of_ble_eq_true rfl) rfl rfl ?_
  intro E hEl hE hnm
  exact S_PV_fault_0 hE th g h0
theorem mt_PV_fault {Γ : GAM} {l : Launch} (th : Nat) (g : GH) (K : Int32 → GH → Prop) (h : Sp_PV_fault Γ th g K) : MetA Γ l yX10_fault cX10_fault 1 (some (.int)) 131 19022 [.ref th] g (fun r g' => ∃ x, r = some (.int x) ∧ K x g') := by
  obtain ⟨C, s, n, rfl, hI, hW, hR, hK⟩ := PVC.e h
  have he := hI.en
  obtain ⟨hkd, -, ⟨h1, h2⟩, -⟩ := hI.pk
  have hT := hI.2.2.1
  refine rl_PV_fault ?_
  unfold B_PV_fault_0
  refine ⟨hkd, _, h1, h2, s_tap s, hT, fun b g2 hx hr => ?_⟩
  have hb : p_fault s = b := by
    unfold p_fault
    unfold TRs at hr
    cases hp : pAll (s_tap s) with
    | inl e => rw [hp] at hr; exact hr.1.symm
    | inr rs => rw [hp] at hr; exact hr.1.symm
  have hI2 := hI.tape hx (by decide) (by decide) (hT.x0 hx (by decide) (by decide))
  rw [u_tap_s] at hI2
  exact hK C _ _ _ hb rfl (hx.c he (by decide) (by decide)) rfl hI2 (hR.x hx)
def Sp_PV_lawful (Γ : GAM) (x : Nat) (p0 p1 p2 : Int32) (g : GH) (K : Int32 → GH → Prop) : Prop := PVC Γ x g K (fun s => p_lawful s p0 p1 p2) (fun s => s)
-- the walk of PV_lawful
set_option maxRecDepth 100000 in
def B_PV_lawful_22 (Γ : GAM) (K : Int32 → GH → Prop)  (g : GH) : Prop :=
  K (-1 : Int32) g
set_option maxHeartbeats 4000000 in
set_option maxRecDepth 100000 in
theorem S_PV_lawful_22 {Γ : GAM} {E : EV} {K : Int32 → GH → Prop} (hE : GE Γ E cX10_lawful 4 RX10 (some (.int)) 4 91 (fun r g' => ∃ x, r = some (.int x) ∧ K x g'))  (g : GH) (h : B_PV_lawful_22 Γ K  g) : JW Γ E 22 [none, none, none, none] [] g := by
  unfold B_PV_lawful_22 at h
  refine j_iconst hE (by decide +kernel : decode cX10_lawful 22 = .ok (.iconst (-1), 1)) (v := (-1 : Int32)) (by decide) ?_
  exact j_iret hE (by decide +kernel : decode cX10_lawful 23 = .ok (.ireturn, 1)) ⟨_, rfl, h⟩
set_option maxRecDepth 100000 in
def B_PV_lawful_0 (Γ : GAM) (K : Int32 → GH → Prop) (th : Nat) (p0 : Int32) (p1 : Int32) (p2 : Int32) (g : GH) : Prop :=
  Sp_PV_isShire Γ p0 g (fun (x2 : Int32) (g1 : GH) => ((x2 = 0 → B_PV_lawful_22 Γ K g1) ∧ (¬ (x2 = 0) → Sp_PV_isDay Γ p1 g1 (fun (x4 : Int32) (g3 : GH) => ((x4 = 0 → B_PV_lawful_22 Γ K g3) ∧ (¬ (x4 = 0) → Kd g3 th = 12 ∧ Sp_PV_isUpToNow Γ th p2 g3 (fun (x6 : Int32) (g5 : GH) => ((¬ (x6 = 0) → Kd g5 th = 12 ∧ ∃ a7 : Nat, Gr g5 1410 th = some a7 ∧ Kd g5 a7 = 6 ∧ ∃ a8 : Nat, Gr g5 643 a7 = some a8 ∧ Kd g5 a8 = 4 ∧ Sp_Ju_inForce Γ a8 p0 p1 p2 g5 (fun (x10 : Int32) (g9 : GH) => K x10 g9)) ∧ (x6 = 0 → B_PV_lawful_22 Γ K g5)))))))))
set_option maxHeartbeats 4000000 in
set_option maxRecDepth 100000 in
theorem S_PV_lawful_0 {Γ : GAM} {E : EV} {K : Int32 → GH → Prop} (hE : GE Γ E cX10_lawful 4 RX10 (some (.int)) 4 91 (fun r g' => ∃ x, r = some (.int x) ∧ K x g')) (th : Nat) (p0 : Int32) (p1 : Int32) (p2 : Int32) (g : GH) (h : B_PV_lawful_0 Γ K th p0 p1 p2 g) : JW Γ E 0 [some (.ref th), some (.int p0), some (.int p1), some (.int p2)] [] g := by
  unfold B_PV_lawful_0 at h
  refine j_iload_n hE (by decide +kernel : decode cX10_lawful 0 = .ok (.iload_n 1, 1)) rfl rfl ?_
  refine j_callS hE rfl cl_X10_71 st_X10_isShire ⟨by omega, by omega⟩ (As := [.int p0]) (rest := []) rfl rfl (Nat.le_of_ble_eq_true rfl) (by decide +kernel : decode cX10_lawful 1 = .ok (.invokestatic 71, 3)) (mt_PV_isShire _ _ _ h) ?_
  rintro _ g1 ⟨x2, rfl, h⟩
  refine j_if_eq hE (by decide +kernel : decode cX10_lawful 4 = .ok (.ifCond .eq 18, 3)) (tgt := 22) (by decide) (fun q => ?_) (fun q => ?_)
  · replace h := h.1 q
    refine j_weak [none, none, none, none] trivial ?_
    exact S_PV_lawful_22 hE _ h
  · replace h := h.2 q
    refine j_iload_n hE (by decide +kernel : decode cX10_lawful 7 = .ok (.iload_n 2, 1)) rfl rfl ?_
    refine j_callS hE rfl cl_X10_114 st_X10_isDay ⟨by omega, by omega⟩ (As := [.int p1]) (rest := []) rfl rfl (Nat.le_of_ble_eq_true rfl) (by decide +kernel : decode cX10_lawful 8 = .ok (.invokestatic 114, 3)) (mt_PV_isDay _ _ _ h) ?_
    rintro _ g3 ⟨x4, rfl, h⟩
    refine j_if_eq hE (by decide +kernel : decode cX10_lawful 11 = .ok (.ifCond .eq 11, 3)) (tgt := 22) (by decide) (fun q => ?_) (fun q => ?_)
    · replace h := h.1 q
      refine j_weak [none, none, none, none] trivial ?_
      exact S_PV_lawful_22 hE _ h
    · replace h := h.2 q
      refine j_aload_n hE (by decide +kernel : decode cX10_lawful 14 = .ok (.aload_n 0, 1)) rfl rfl ?_
      refine j_iload_n hE (by decide +kernel : decode cX10_lawful 15 = .ok (.iload_n 3, 1)) rfl rfl ?_
      obtain ⟨hk, h⟩ := h
      refine j_callV hE rfl cl_X10_100 cf_11 im_X10_isUpToNow se_X10_isUpToNow ⟨by omega, by omega⟩ (As := [.int p2]) (rest := []) rfl rfl (Nat.le_of_ble_eq_true rfl) hk (by decide +kernel : decode cX10_lawful 16 = .ok (.invokevirtual 100, 3)) (mt_PV_isUpToNow _ _ _ _ h) ?_
      rintro _ g5 ⟨x6, rfl, h⟩
      refine j_if_ne hE (by decide +kernel : decode cX10_lawful 19 = .ok (.ifCond .ne 5, 3)) (tgt := 24) (by decide) (fun q => ?_) (fun q => ?_)
      · replace h := h.1 q
        refine j_aload_n hE (by decide +kernel : decode cX10_lawful 24 = .ok (.aload_n 0, 1)) rfl rfl ?_
        obtain ⟨hk, h⟩ := h
        obtain ⟨a7, ha, h⟩ := h
        refine j_getRn hE fg_X10_16 hk ha (by decide +kernel : decode cX10_lawful 25 = .ok (.getfield 16, 3)) ?_
        obtain ⟨hk, h⟩ := h
        obtain ⟨a8, ha, h⟩ := h
        refine j_getRn hE fg_X10_186 hk ha (by decide +kernel : decode cX10_lawful 28 = .ok (.getfield 186, 3)) ?_
        refine j_iload_n hE (by decide +kernel : decode cX10_lawful 31 = .ok (.iload_n 1, 1)) rfl rfl ?_
        refine j_iload_n hE (by decide +kernel : decode cX10_lawful 32 = .ok (.iload_n 2, 1)) rfl rfl ?_
        refine j_iload_n hE (by decide +kernel : decode cX10_lawful 33 = .ok (.iload_n 3, 1)) rfl rfl ?_
        obtain ⟨hk, h⟩ := h
        refine j_callV hE rfl cl_X10_200 cf_3 im_X2_inForce se_X2_inForce ⟨by omega, by omega⟩ (As := [.int p0, .int p1, .int p2]) (rest := []) rfl rfl (Nat.le_of_ble_eq_true rfl) hk (by decide +kernel : decode cX10_lawful 34 = .ok (.invokevirtual 200, 3)) (mt_Ju_inForce _ _ _ _ _ _ h) ?_
        rintro _ g9 ⟨x10, rfl, h⟩
        exact j_iret hE (by decide +kernel : decode cX10_lawful 37 = .ok (.ireturn, 1)) ⟨_, rfl, h⟩
      · replace h := h.2 q
        refine j_weak [none, none, none, none] trivial ?_
        exact S_PV_lawful_22 hE _ h
set_option maxHeartbeats 4000000 in
set_option maxRecDepth 100000 in
theorem rl_PV_lawful {Γ : GAM} {l : Launch} {th : Nat} {p0 : Int32} {p1 : Int32} {p2 : Int32} {g : GH} {K : Int32 → GH → Prop} (h0 : B_PV_lawful_0 Γ K th p0 p1 p2 g) : MetA Γ l yX10_lawful cX10_lawful 4 (some (.int)) 4 91 [.ref th, .int p0, .int p1, .int p2] g (fun r g' => ∃ x, r = some (.int x) ∧ K x g') := by
  refine MetA.introL (Lx := [some (.ref th), some (.int p0), some (.int p1), some (.int p2)]) (by decide) (Nat.le_of_ble_eq_true rfl) rfl rfl ?_
  intro E hEl hE hnm
  exact S_PV_lawful_0 hE th p0 p1 p2 g h0
theorem mt_PV_lawful {Γ : GAM} {l : Launch} (th : Nat) (p0 : Int32) (p1 : Int32) (p2 : Int32) (g : GH) (K : Int32 → GH → Prop) (h : Sp_PV_lawful Γ th p0 p1 p2 g K) : MetA Γ l yX10_lawful cX10_lawful 4 (some (.int)) 4 91 [.ref th, .int p0, .int p1, .int p2] g (fun r g' => ∃ x, r = some (.int x) ∧ K x g') := by
  obtain ⟨C, s, n, rfl, hI, hW, hR, hK⟩ := PVC.e h
  have he := hI.en
  obtain ⟨hkd, ⟨h1, h2⟩, -, -, -, -, hnow, hsiz⟩ := hI.pk
  have hP := hI.2.2.2.2.2.2.1
  have hj := hP.2.1.2.2.2.2.2.1
  have hju := hP.2.2.2.2.2.2.2.1.2
  unfold p_lawful at hK
  refine rl_PV_lawful ?_
  have hno : ¬ ok_lawful s p0 p1 p2 → K (-1) g := fun u => hK C g _ _ (if_neg u) rfl (FrC.rf he) rfl hI hR.dn
  simp only [B_PV_lawful_22, B_PV_lawful_0, Sp_PV_isShire, Sp_PV_isDay, Sp_PV_isUpToNow, ite_z, Classical.not_not, hkd, h1, h2, hj, hju, hnow, true_and, Option.some.injEq, exists_eq_left']
  refine ⟨fun u => hno (fun z => u z.1), fun u => ⟨fun u2 => hno (fun z => u2 z.2.1), fun u2 => ⟨fun u3 => ?_, fun u3 => hno (fun z => u3 z.2.2)⟩⟩⟩
  have ok : ok_lawful s p0 p1 p2 := ⟨u, u2, u3⟩
  exact ⟨s, hP.2.2.2.2.2.2.2.jl, fun y hy => (hW.law y hy).2.1.1, hK C g _ _ (if_pos ok) rfl (FrC.rf he) rfl hI hR.dn⟩
def Sp_PV_shire (Γ : GAM) (x : Nat) (p0 p1 p2 : Int32) (g : GH) (K : Int32 → GH → Prop) : Prop := PVC Γ x g K (fun s => p_shire s p0 p1 p2) (fun s => s)
theorem VOS.on {Γ : GAM} {D : DIR} {g : GH} {s : ST} {v x : Nat} (h : VOS Γ D g s v x) (d q : Int32) {K : Int32 → GH → Prop} (hK : K (sShire s v d q) g) : Sp_Vo_shireOn Γ x d q g K := by
  obtain ⟨y, L, h1, h2, h3, h4⟩ := h
  obtain ⟨⟨a1, a2⟩, ⟨b1, b2, b3⟩, lo, eo, ⟨l1, l2, l3⟩, -, hL, -⟩ := h2
  refine ⟨lo, L, a2, l1, hL, ?_⟩
  rw [b1, (h3 q).1]
  unfold sShire at hK
  rw [h1] at hK
  exact hK
-- the walk of PV_shire
set_option maxRecDepth 100000 in
def B_PV_shire_30 (Γ : GAM) (K : Int32 → GH → Prop)  (g : GH) : Prop :=
  K (-1 : Int32) g
set_option maxHeartbeats 4000000 in
set_option maxRecDepth 100000 in
theorem S_PV_shire_30 {Γ : GAM} {E : EV} {K : Int32 → GH → Prop} (hE : GE Γ E cX10_shire 5 RX10 (some (.int)) 4 90 (fun r g' => ∃ x, r = some (.int x) ∧ K x g'))  (g : GH) (h : B_PV_shire_30 Γ K  g) : JW Γ E 30 [none, none, none, none, none] [] g := by
  unfold B_PV_shire_30 at h
  refine j_iconst hE (by decide +kernel : decode cX10_shire 30 = .ok (.iconst (-1), 1)) (v := (-1 : Int32)) (by decide) ?_
  exact j_iret hE (by decide +kernel : decode cX10_shire 31 = .ok (.ireturn, 1)) ⟨_, rfl, h⟩
set_option maxRecDepth 100000 in
def B_PV_shire_0 (Γ : GAM) (K : Int32 → GH → Prop) (th : Nat) (p0 : Int32) (p1 : Int32) (p2 : Int32) (g : GH) : Prop :=
  Kd g th = 12 ∧ ∃ a1 : Nat, Gr g 1410 th = some a1 ∧ Kd g a1 = 6 ∧ Sp_Po_voterAt Γ a1 p0 g (fun (a3 : Option Nat) (g2 : GH) => ((a3 = none → B_PV_shire_30 Γ K g2) ∧ (∀ a4 : Nat, a3 = some a4 → Sp_PV_isDay Γ p1 g2 (fun (x6 : Int32) (g5 : GH) => ((x6 = 0 → B_PV_shire_30 Γ K g5) ∧ (¬ (x6 = 0) → Kd g5 th = 12 ∧ Sp_PV_isUpToNow Γ th p2 g5 (fun (x8 : Int32) (g7 : GH) => ((¬ (x8 = 0) → Kd g7 a4 = 11 ∧ Sp_Vo_shireOn Γ a4 p1 p2 g7 (fun (x10 : Int32) (g9 : GH) => K x10 g9)) ∧ (x8 = 0 → B_PV_shire_30 Γ K g7)))))))))
set_option maxHeartbeats 4000000 in
set_option maxRecDepth 100000 in
theorem S_PV_shire_0 {Γ : GAM} {E : EV} {K : Int32 → GH → Prop} (hE : GE Γ E cX10_shire 5 RX10 (some (.int)) 4 90 (fun r g' => ∃ x, r = some (.int x) ∧ K x g')) (th : Nat) (p0 : Int32) (p1 : Int32) (p2 : Int32) (g : GH) (h : B_PV_shire_0 Γ K th p0 p1 p2 g) : JW Γ E 0 [some (.ref th), some (.int p0), some (.int p1), some (.int p2), none] [] g := by
  unfold B_PV_shire_0 at h
  refine j_aload_n hE (by decide +kernel : decode cX10_shire 0 = .ok (.aload_n 0, 1)) rfl rfl ?_
  obtain ⟨hk, h⟩ := h
  obtain ⟨a1, ha, h⟩ := h
  refine j_getRn hE fg_X10_16 hk ha (by decide +kernel : decode cX10_shire 1 = .ok (.getfield 16, 3)) ?_
  refine j_iload_n hE (by decide +kernel : decode cX10_shire 4 = .ok (.iload_n 1, 1)) rfl rfl ?_
  obtain ⟨hk, h⟩ := h
  refine j_callV hE rfl cl_X10_96 cf_5 im_X4_voterAt se_X4_voterAt ⟨by omega, by omega⟩ (As := [.int p0]) (rest := []) rfl rfl (Nat.le_of_ble_eq_true rfl) hk (by decide +kernel : decode cX10_shire 5 = .ok (.invokevirtual 96, 3)) (mt_Po_voterAt _ _ _ _ h) ?_
  rintro _ g2 ⟨a3, rfl, h⟩
  refine j_astoreQ hE (by decide +kernel : decode cX10_shire 8 = .ok (.astore 4, 2)) (Nat.le_of_ble_eq_true rfl) rfl ?_
  refine j_aloadQ hE (by decide +kernel : decode cX10_shire 10 = .ok (.aload 4, 2)) rfl ?_
  refine j_ifnull hE (by decide +kernel : decode cX10_shire 12 = .ok (.ifnull 18, 3)) (tgt := 30) (by decide) (fun q => ?_) (fun a4 q => ?_)
  · replace h := h.1 q; subst q
    refine j_weak [none, none, none, none, none] trivial ?_
    exact S_PV_shire_30 hE _ h
  · replace h := h.2 a4 q; subst q
    refine j_iload_n hE (by decide +kernel : decode cX10_shire 15 = .ok (.iload_n 2, 1)) rfl rfl ?_
    refine j_callS hE rfl cl_X10_114 st_X10_isDay ⟨by omega, by omega⟩ (As := [.int p1]) (rest := []) rfl rfl (Nat.le_of_ble_eq_true rfl) (by decide +kernel : decode cX10_shire 16 = .ok (.invokestatic 114, 3)) (mt_PV_isDay _ _ _ h) ?_
    rintro _ g5 ⟨x6, rfl, h⟩
    refine j_if_eq hE (by decide +kernel : decode cX10_shire 19 = .ok (.ifCond .eq 11, 3)) (tgt := 30) (by decide) (fun q => ?_) (fun q => ?_)
    · replace h := h.1 q
      refine j_weak [none, none, none, none, none] trivial ?_
      exact S_PV_shire_30 hE _ h
    · replace h := h.2 q
      refine j_aload_n hE (by decide +kernel : decode cX10_shire 22 = .ok (.aload_n 0, 1)) rfl rfl ?_
      refine j_iload_n hE (by decide +kernel : decode cX10_shire 23 = .ok (.iload_n 3, 1)) rfl rfl ?_
      obtain ⟨hk, h⟩ := h
      refine j_callV hE rfl cl_X10_100 cf_11 im_X10_isUpToNow se_X10_isUpToNow ⟨by omega, by omega⟩ (As := [.int p2]) (rest := []) rfl rfl (Nat.le_of_ble_eq_true rfl) hk (by decide +kernel : decode cX10_shire 24 = .ok (.invokevirtual 100, 3)) (mt_PV_isUpToNow _ _ _ _ h) ?_
      rintro _ g7 ⟨x8, rfl, h⟩
      refine j_if_ne hE (by decide +kernel : decode cX10_shire 27 = .ok (.ifCond .ne 5, 3)) (tgt := 32) (by decide) (fun q => ?_) (fun q => ?_)
      · replace h := h.1 q
        refine j_aload hE (by decide +kernel : decode cX10_shire 32 = .ok (.aload 4, 2)) rfl ?_
        refine j_iload_n hE (by decide +kernel : decode cX10_shire 34 = .ok (.iload_n 2, 1)) rfl rfl ?_
        refine j_iload_n hE (by decide +kernel : decode cX10_shire 35 = .ok (.iload_n 3, 1)) rfl rfl ?_
        obtain ⟨hk, h⟩ := h
        refine j_callV hE rfl cl_X10_117 cf_10 im_X9_shireOn se_X9_shireOn ⟨by omega, by omega⟩ (As := [.int p1, .int p2]) (rest := []) rfl rfl (Nat.le_of_ble_eq_true rfl) hk (by decide +kernel : decode cX10_shire 36 = .ok (.invokevirtual 117, 3)) (mt_Vo_shireOn _ _ _ _ _ h) ?_
        rintro _ g9 ⟨x10, rfl, h⟩
        exact j_iret hE (by decide +kernel : decode cX10_shire 39 = .ok (.ireturn, 1)) ⟨_, rfl, h⟩
      · replace h := h.2 q
        refine j_weak [none, none, none, none, none] trivial ?_
        exact S_PV_shire_30 hE _ h
set_option maxHeartbeats 4000000 in
set_option maxRecDepth 100000 in
theorem rl_PV_shire {Γ : GAM} {l : Launch} {th : Nat} {p0 : Int32} {p1 : Int32} {p2 : Int32} {g : GH} {K : Int32 → GH → Prop} (h0 : B_PV_shire_0 Γ K th p0 p1 p2 g) : MetA Γ l yX10_shire cX10_shire 5 (some (.int)) 4 90 [.ref th, .int p0, .int p1, .int p2] g (fun r g' => ∃ x, r = some (.int x) ∧ K x g') := by
  refine MetA.introL (Lx := [some (.ref th), some (.int p0), some (.int p1), some (.int p2), none]) (by decide) (Nat.le_of_ble_eq_true rfl) rfl rfl ?_
  intro E hEl hE hnm
  exact S_PV_shire_0 hE th p0 p1 p2 g h0
theorem mt_PV_shire {Γ : GAM} {l : Launch} (th : Nat) (p0 : Int32) (p1 : Int32) (p2 : Int32) (g : GH) (K : Int32 → GH → Prop) (h : Sp_PV_shire Γ th p0 p1 p2 g K) : MetA Γ l yX10_shire cX10_shire 5 (some (.int)) 4 90 [.ref th, .int p0, .int p1, .int p2] g (fun r g' => ∃ x, r = some (.int x) ∧ K x g') := by
  obtain ⟨C, s, n, rfl, hI, hW, hR, hK⟩ := PVC.e h
  have he := hI.en
  obtain ⟨hkd, ⟨h1, h2⟩, -, -, -, -, hnow, hsiz⟩ := hI.pk
  have hP := hI.2.2.2.2.2.2.1
  have hlen := hW.len
  unfold p_shire at hK
  refine rl_PV_shire ?_
  have hno : ¬ ok_shire s p0 p1 p2 → K (-1) g := fun u => hK C g _ _ (if_neg u) rfl (FrC.rf he) rfl hI hR.dn
  unfold B_PV_shire_0 B_PV_shire_30
  refine ⟨hkd, _, h1, h2, c_D C, s, rfl, hP, hlen.1, fun u => ⟨fun _ => hno (fun z => u z.1), fun a z => by cases z⟩, fun v x hv hvl hx hkx => ⟨fun z => (by cases z), fun a ha => ?_⟩⟩
  cases ha
  have hin : 0 ≤ p0 ∧ p0 ≤ nI (s_vot s).length - 1 := (wn_c (by omega)).mpr ⟨v, hv, hvl⟩
  simp only [Sp_PV_isDay, Sp_PV_isUpToNow, ite_z, Classical.not_not, hkd, hkx, hnow, true_and]
  refine ⟨fun u2 => hno (fun z => u2 z.2.1), fun u2 => ⟨fun u3 => ?_, fun u3 => hno (fun z => u3 z.2.2)⟩⟩
  have ok : ok_shire s p0 p1 p2 := ⟨hin, u2, u3⟩
  refine (hP.2.2.2.1.2.2.1 v x hx).on p1 p2 ?_
  have := hK C g _ _ (if_pos ok) rfl (FrC.rf he) rfl hI hR.dn
  rw [hv, nj_cl (by omega)] at this
  exact this
def Sp_PV_printed (Γ : GAM) (x : Nat) (p0 : Int32) (g : GH) (K : Int32 → GH → Prop) : Prop := PVC Γ x g K (fun s => p_printed s p0) (fun s => s)
theorem PrI.x0 {m : Nat} {g g' : GH} {s : ST} (h : PrI m g s) (k : FrX m [] [771, 772] g g') : PrI m g' s := by
  obtain ⟨⟨a0, a⟩, b, c, d⟩ := h
  obtain ⟨⟨x1, x2, x3, x4, x5, x6, x7, x8, x9, x10, x11, x12⟩, y1, y2⟩ := k
  unfold PrI P5
  rw [x2, x6, x7, x8, x9, y1 _ (by decide), y1 _ (by decide), y2 _ (by decide), y2 _ (by decide), y2 _ (by decide)]
  exact ⟨⟨a0, a⟩, b, c, d⟩
-- the walk of PV_printed
set_option maxRecDepth 100000 in
def B_PV_printed_0 (Γ : GAM) (K : Int32 → GH → Prop) (th : Nat) (p0 : Int32) (g : GH) : Prop :=
  Kd g th = 12 ∧ ∃ a1 : Nat, Gr g 1412 th = some a1 ∧ Kd g a1 = 7 ∧ Sp_PV_isWithin Γ p0 (0 : Int32) ((Gi g 773 a1) - (1 : Int32)) g (fun (x3 : Int32) (g2 : GH) => ((¬ (x3 = 0) → Kd g2 th = 12 ∧ ∃ a4 : Nat, Gr g2 1412 th = some a4 ∧ Kd g2 a4 = 7 ∧ Sp_Pr_plan Γ a4 g2 (fun (g5 : GH) => Kd g5 th = 12 ∧ ∃ a6 : Nat, Gr g5 1412 th = some a6 ∧ Kd g5 a6 = 7 ∧ ∃ a7 : Nat, Gr g5 772 a6 = some a7 ∧ Kd g5 a7 = 20 ∧ inB p0 (Ln g5 a7) ∧ K (Ia g5 (Co g5 a7) (Ow g5 a7) p0.toNatClampNeg) g5)) ∧ (x3 = 0 → K (-1 : Int32) g2)))
set_option maxHeartbeats 4000000 in
set_option maxRecDepth 100000 in
theorem S_PV_printed_0 {Γ : GAM} {E : EV} {K : Int32 → GH → Prop} (hE : GE Γ E cX10_printed 2 RX10 (some (.int)) 3 80 (fun r g' => ∃ x, r = some (.int x) ∧ K x g')) (th : Nat) (p0 : Int32) (g : GH) (h : B_PV_printed_0 Γ K th p0 g) : JW Γ E 0 [some (.ref th), some (.int p0)] [] g := by
  unfold B_PV_printed_0 at h
  refine j_iload_n hE (by decide +kernel : decode cX10_printed 0 = .ok (.iload_n 1, 1)) rfl rfl ?_
  refine j_iconst hE (by decide +kernel : decode cX10_printed 1 = .ok (.iconst 0, 1)) (v := (0 : Int32)) (by decide) ?_
  refine j_aload_n hE (by decide +kernel : decode cX10_printed 2 = .ok (.aload_n 0, 1)) rfl rfl ?_
  obtain ⟨hk, h⟩ := h
  obtain ⟨a1, ha, h⟩ := h
  refine j_getRn hE fg_X10_30 hk ha (by decide +kernel : decode cX10_printed 3 = .ok (.getfield 30, 3)) ?_
  obtain ⟨hk, h⟩ := h
  refine j_getI hE fg_X10_267 hk (by decide +kernel : decode cX10_printed 6 = .ok (.getfield 267, 3)) ?_
  refine j_iconst hE (by decide +kernel : decode cX10_printed 9 = .ok (.iconst 1, 1)) (v := (1 : Int32)) (by decide) ?_
  refine j_isub hE (by decide +kernel : decode cX10_printed 10 = .ok (.isub, 1)) ?_
  refine j_callS hE rfl cl_X10_64 st_X10_isWithin ⟨by omega, by omega⟩ (As := [.int p0, .int (0 : Int32), .int ((Gi g 773 a1) - (1 : Int32))]) (rest := []) rfl rfl (Nat.le_of_ble_eq_true rfl) (by decide +kernel : decode cX10_printed 11 = .ok (.invokestatic 64, 3)) (mt_PV_isWithin _ _ _ _ _ h) ?_
  rintro _ g2 ⟨x3, rfl, h⟩
  refine j_if_ne hE (by decide +kernel : decode cX10_printed 14 = .ok (.ifCond .ne 5, 3)) (tgt := 19) (by decide) (fun q => ?_) (fun q => ?_)
  · replace h := h.1 q
    refine j_aload_n hE (by decide +kernel : decode cX10_printed 19 = .ok (.aload_n 0, 1)) rfl rfl ?_
    obtain ⟨hk, h⟩ := h
    obtain ⟨a4, ha, h⟩ := h
    refine j_getRn hE fg_X10_30 hk ha (by decide +kernel : decode cX10_printed 20 = .ok (.getfield 30, 3)) ?_
    obtain ⟨hk, h⟩ := h
    refine j_callV hE rfl cl_X10_276 cf_6 im_X5_plan se_X5_plan ⟨by omega, by omega⟩ (As := []) (rest := []) rfl rfl (Nat.le_of_ble_eq_true rfl) hk (by decide +kernel : decode cX10_printed 23 = .ok (.invokevirtual 276, 3)) (mt_Pr_plan _ _ _ h) ?_
    rintro _ g5 ⟨rfl, h⟩
    refine j_aload_n hE (by decide +kernel : decode cX10_printed 26 = .ok (.aload_n 0, 1)) rfl rfl ?_
    obtain ⟨hk, h⟩ := h
    obtain ⟨a6, ha, h⟩ := h
    refine j_getRn hE fg_X10_30 hk ha (by decide +kernel : decode cX10_printed 27 = .ok (.getfield 30, 3)) ?_
    obtain ⟨hk, h⟩ := h
    obtain ⟨a7, ha, h⟩ := h
    refine j_getRn hE fg_X10_279 hk ha (by decide +kernel : decode cX10_printed 30 = .ok (.getfield 279, 3)) ?_
    refine j_iload_n hE (by decide +kernel : decode cX10_printed 33 = .ok (.iload_n 1, 1)) rfl rfl ?_
    obtain ⟨hk, hb, h⟩ := h
    refine j_iald hE hk hb (by decide +kernel : decode cX10_printed 34 = .ok (.iaload, 1)) ?_
    exact j_iret hE (by decide +kernel : decode cX10_printed 35 = .ok (.ireturn, 1)) ⟨_, rfl, h⟩
  · replace h := h.2 q
    refine j_iconst hE (by decide +kernel : decode cX10_printed 17 = .ok (.iconst (-1), 1)) (v := (-1 : Int32)) (by decide) ?_
    exact j_iret hE (by decide +kernel : decode cX10_printed 18 = .ok (.ireturn, 1)) ⟨_, rfl, h⟩
set_option maxHeartbeats 4000000 in
set_option maxRecDepth 100000 in
theorem rl_PV_printed {Γ : GAM} {l : Launch} {th : Nat} {p0 : Int32} {g : GH} {K : Int32 → GH → Prop} (h0 : B_PV_printed_0 Γ K th p0 g) : MetA Γ l yX10_printed cX10_printed 2 (some (.int)) 3 80 [.ref th, .int p0] g (fun r g' => ∃ x, r = some (.int x) ∧ K x g') := by
  refine MetA.introL (Lx := [some (.ref th), some (.int p0)]) (by decide) (Nat.le_of_ble_eq_true rfl) rfl rfl ?_
  intro E hEl hE hnm
  exact S_PV_printed_0 hE th p0 g h0
theorem mt_PV_printed {Γ : GAM} {l : Launch} (th : Nat) (p0 : Int32) (g : GH) (K : Int32 → GH → Prop) (h : Sp_PV_printed Γ th p0 g K) : MetA Γ l yX10_printed cX10_printed 2 (some (.int)) 3 80 [.ref th, .int p0] g (fun r g' => ∃ x, r = some (.int x) ∧ K x g') := by
  obtain ⟨C, s, n, rfl, hI, hW, hR, hK⟩ := PVC.e h
  have he := hI.en
  obtain ⟨hkd, -, -, ⟨h1, h2⟩, -⟩ := hI.pk
  have hP := hI.2.2.2.1
  have h12 := hW.len.2.2.2.2.2.2.2.2.2.2.1
  unfold p_printed at hK
  refine rl_PV_printed ?_
  simp only [B_PV_printed_0, Sp_PV_isWithin, ite_z, Classical.not_not, hkd, h1, h2, hP.2.1, true_and, Option.some.injEq, exists_eq_left']
  refine ⟨fun u => ?_, fun u => hK C g _ _ (if_neg u) rfl (FrC.rf he) rfl hI hR.dn⟩
  have hlt := lt_of_in (by omega) u
  refine ⟨s, hP, hW, fun g5 hx hend => ?_⟩
  have hP5 := hP.x0 hx
  have hI5 := hI.prn hx (by simp) (by decide) hP5 (fun z => z) rfl (fun z => z) (fun z => z) (fun z => z)
  obtain ⟨hkd5, -, -, ⟨k1, k2⟩, -⟩ := hI5.pk
  obtain ⟨-, a, b, c, d, e, -, -, -, -, ⟨e1, e2, e3, e4, e5⟩⟩ := hP5.1
  refine ⟨hkd5, _, k1, k2, e, e1, e2, by rw [e5]; exact ⟨u.1, by omega⟩, ?_⟩
  rw [e3, e4, hend _ hlt]
  exact hK C _ _ _ (if_pos u) rfl (hx.c he (by simp) (by decide)) rfl hI5 (hR.x hx)
def Sp_PV_latest (Γ : GAM) (x : Nat) (g : GH) (K : Int32 → GH → Prop) : Prop := PVC Γ x g K (fun s => p_latest s) (fun s => s)
-- the walk of PV_latest
set_option maxRecDepth 100000 in
def B_PV_latest_11 (Γ : GAM) (K11 : Nat → Int32 → Int32 → GH → Prop) (K : Int32 → GH → Prop) (l0 : Nat) (l1 : Int32) (l2 : Int32) (g : GH) : Prop :=
  Kd g l0 = 12 ∧ ∃ a1 : Nat, Gr g 1412 l0 = some a1 ∧ Kd g a1 = 7 ∧ (((Gi g 773 a1) ≤ l2 → K l1 g) ∧ (¬ ((Gi g 773 a1) ≤ l2) → Kd g l0 = 12 ∧ ∃ a2 : Nat, Gr g 1412 l0 = some a2 ∧ Kd g a2 = 7 ∧ ∃ a3 : Nat, Gr g 772 a2 = some a3 ∧ Kd g a3 = 20 ∧ inB l2 (Ln g a3) ∧ Kd g l0 = 12 ∧ ∃ a4 : Nat, Gr g 1412 l0 = some a4 ∧ Kd g a4 = 7 ∧ ∃ a5 : Nat, Gr g 770 a4 = some a5 ∧ Kd g a5 = 20 ∧ inB l2 (Ln g a5) ∧ ∀ x6 : Int32, x6 = (if l1 < ((Ia g (Co g a3) (Ow g a3) l2.toNatClampNeg) - (Ia g (Co g a5) (Ow g a5) l2.toNatClampNeg)) then ((Ia g (Co g a3) (Ow g a3) l2.toNatClampNeg) - (Ia g (Co g a5) (Ow g a5) l2.toNatClampNeg)) else l1) → K11 l0 x6 (l2 + (1 : Int32)) g))
set_option maxHeartbeats 4000000 in
set_option maxRecDepth 100000 in
theorem S_PV_latest_11 {Γ : GAM} {E : EV} {K : Int32 → GH → Prop} (hE : GE Γ E cX10_latest 3 RX10 (some (.int)) 3 80 (fun r g' => ∃ x, r = some (.int x) ∧ K x g')) {K11 : Nat → Int32 → Int32 → GH → Prop} (hK11 : ∀ (l0 : Nat) (l1 : Int32) (l2 : Int32) (g : GH), K11 l0 l1 l2 g → JW Γ E 11 [some (.ref l0), some (.int l1), some (.int l2)] [] g) (l0 : Nat) (l1 : Int32) (l2 : Int32) (g : GH) (h : B_PV_latest_11 Γ K11 K l0 l1 l2 g) : JW Γ E 11 [some (.ref l0), some (.int l1), some (.int l2)] [] g := by
  unfold B_PV_latest_11 at h
  refine j_iload_n hE (by decide +kernel : decode cX10_latest 11 = .ok (.iload_n 2, 1)) rfl rfl ?_
  refine j_aload_n hE (by decide +kernel : decode cX10_latest 12 = .ok (.aload_n 0, 1)) rfl rfl ?_
  obtain ⟨hk, h⟩ := h
  obtain ⟨a1, ha, h⟩ := h
  refine j_getRn hE fg_X10_30 hk ha (by decide +kernel : decode cX10_latest 13 = .ok (.getfield 30, 3)) ?_
  obtain ⟨hk, h⟩ := h
  refine j_getI hE fg_X10_267 hk (by decide +kernel : decode cX10_latest 16 = .ok (.getfield 267, 3)) ?_
  refine j_icmp_ge hE (by decide +kernel : decode cX10_latest 19 = .ok (.if_icmp .ge 33, 3)) (tgt := 52) (by decide) (fun q => ?_) (fun q => ?_)
  · replace h := h.1 q
    refine j_iload_n hE (by decide +kernel : decode cX10_latest 52 = .ok (.iload_n 1, 1)) rfl rfl ?_
    exact j_iret hE (by decide +kernel : decode cX10_latest 53 = .ok (.ireturn, 1)) ⟨_, rfl, h⟩
  · replace h := h.2 q
    refine j_iload_n hE (by decide +kernel : decode cX10_latest 22 = .ok (.iload_n 1, 1)) rfl rfl ?_
    refine j_aload_n hE (by decide +kernel : decode cX10_latest 23 = .ok (.aload_n 0, 1)) rfl rfl ?_
    obtain ⟨hk, h⟩ := h
    obtain ⟨a2, ha, h⟩ := h
    refine j_getRn hE fg_X10_30 hk ha (by decide +kernel : decode cX10_latest 24 = .ok (.getfield 30, 3)) ?_
    obtain ⟨hk, h⟩ := h
    obtain ⟨a3, ha, h⟩ := h
    refine j_getRn hE fg_X10_279 hk ha (by decide +kernel : decode cX10_latest 27 = .ok (.getfield 279, 3)) ?_
    refine j_iload_n hE (by decide +kernel : decode cX10_latest 30 = .ok (.iload_n 2, 1)) rfl rfl ?_
    obtain ⟨hk, hb, h⟩ := h
    refine j_iald hE hk hb (by decide +kernel : decode cX10_latest 31 = .ok (.iaload, 1)) ?_
    refine j_aload_n hE (by decide +kernel : decode cX10_latest 32 = .ok (.aload_n 0, 1)) rfl rfl ?_
    obtain ⟨hk, h⟩ := h
    obtain ⟨a4, ha, h⟩ := h
    refine j_getRn hE fg_X10_30 hk ha (by decide +kernel : decode cX10_latest 33 = .ok (.getfield 30, 3)) ?_
    obtain ⟨hk, h⟩ := h
    obtain ⟨a5, ha, h⟩ := h
    refine j_getRn hE fg_X10_282 hk ha (by decide +kernel : decode cX10_latest 36 = .ok (.getfield 282, 3)) ?_
    refine j_iload_n hE (by decide +kernel : decode cX10_latest 39 = .ok (.iload_n 2, 1)) rfl rfl ?_
    obtain ⟨hk, hb, h⟩ := h
    refine j_iald hE hk hb (by decide +kernel : decode cX10_latest 40 = .ok (.iaload, 1)) ?_
    refine j_isub hE (by decide +kernel : decode cX10_latest 41 = .ok (.isub, 1)) ?_
    refine j_mmax hE rfl ml_X10_285 st_J9_max_7cf53 in_Math co_J9_max_7cf53 (Nat.le_of_ble_eq_true rfl) (by omega) (by omega) (by decide +kernel : decode cX10_latest 42 = .ok (.invokestatic 285, 3)) ?_
    obtain ⟨x6, hx⟩ : ∃ z, z = (if l1 < ((Ia g (Co g a3) (Ow g a3) l2.toNatClampNeg) - (Ia g (Co g a5) (Ow g a5) l2.toNatClampNeg)) then ((Ia g (Co g a3) (Ow g a3) l2.toNatClampNeg) - (Ia g (Co g a5) (Ow g a5) l2.toNatClampNeg)) else l1) := ⟨_, rfl⟩; replace h := h x6 hx; rw [← hx]
    refine j_istore_n hE (by decide +kernel : decode cX10_latest 45 = .ok (.istore_n 1, 1)) rfl (Nat.le_of_ble_eq_true rfl) rfl ?_
    refine j_iinc hE (by decide +kernel : decode cX10_latest 46 = .ok (.iinc 2 1, 3)) (v := (1 : Int32)) (by decide) rfl (Nat.le_of_ble_eq_true rfl) rfl ?_
    refine j_goto hE (by decide +kernel : decode cX10_latest 49 = .ok (.goto (-38), 3)) (tgt := 11) (by decide) ?_
    exact hK11 _ _ _ _ h
set_option maxRecDepth 100000 in
def B_PV_latest_0 (Γ : GAM) (K11 : Nat → Int32 → Int32 → GH → Prop) (K : Int32 → GH → Prop) (th : Nat) (g : GH) : Prop :=
  Kd g th = 12 ∧ ∃ a1 : Nat, Gr g 1412 th = some a1 ∧ Kd g a1 = 7 ∧ Sp_Pr_plan Γ a1 g (fun (g2 : GH) => K11 th (0 : Int32) (0 : Int32) g2)
set_option maxHeartbeats 4000000 in
set_option maxRecDepth 100000 in
theorem S_PV_latest_0 {Γ : GAM} {E : EV} {K : Int32 → GH → Prop} (hE : GE Γ E cX10_latest 3 RX10 (some (.int)) 3 80 (fun r g' => ∃ x, r = some (.int x) ∧ K x g')) {K11 : Nat → Int32 → Int32 → GH → Prop} (hK11 : ∀ (l0 : Nat) (l1 : Int32) (l2 : Int32) (g : GH), K11 l0 l1 l2 g → JW Γ E 11 [some (.ref l0), some (.int l1), some (.int l2)] [] g) (th : Nat) (g : GH) (h : B_PV_latest_0 Γ K11 K th g) : JW Γ E 0 [some (.ref th), none, none] [] g := by
  unfold B_PV_latest_0 at h
  refine j_aload_n hE (by decide +kernel : decode cX10_latest 0 = .ok (.aload_n 0, 1)) rfl rfl ?_
  obtain ⟨hk, h⟩ := h
  obtain ⟨a1, ha, h⟩ := h
  refine j_getRn hE fg_X10_30 hk ha (by decide +kernel : decode cX10_latest 1 = .ok (.getfield 30, 3)) ?_
  obtain ⟨hk, h⟩ := h
  refine j_callV hE rfl cl_X10_276 cf_6 im_X5_plan se_X5_plan ⟨by omega, by omega⟩ (As := []) (rest := []) rfl rfl (Nat.le_of_ble_eq_true rfl) hk (by decide +kernel : decode cX10_latest 4 = .ok (.invokevirtual 276, 3)) (mt_Pr_plan _ _ _ h) ?_
  rintro _ g2 ⟨rfl, h⟩
  refine j_iconst hE (by decide +kernel : decode cX10_latest 7 = .ok (.iconst 0, 1)) (v := (0 : Int32)) (by decide) ?_
  refine j_istore_n hE (by decide +kernel : decode cX10_latest 8 = .ok (.istore_n 1, 1)) rfl (Nat.le_of_ble_eq_true rfl) rfl ?_
  refine j_iconst hE (by decide +kernel : decode cX10_latest 9 = .ok (.iconst 0, 1)) (v := (0 : Int32)) (by decide) ?_
  refine j_istore_n hE (by decide +kernel : decode cX10_latest 10 = .ok (.istore_n 2, 1)) rfl (Nat.le_of_ble_eq_true rfl) rfl ?_
  exact hK11 _ _ _ _ h
set_option maxHeartbeats 4000000 in
set_option maxRecDepth 100000 in
theorem rl_PV_latest {Γ : GAM} {l : Launch} {th : Nat} {g : GH} {K : Int32 → GH → Prop} (I11 : Nat → Nat → Int32 → Int32 → GH → Prop) (hh11 : ∀ n (l0 : Nat) (l1 : Int32) (l2 : Int32) (g : GH), I11 n l0 l1 l2 g → B_PV_latest_11 Γ (fun l0 l1 l2 g => ∃ m, m < n ∧ I11 m l0 l1 l2 g) K l0 l1 l2 g) (h0 : B_PV_latest_0 Γ (fun l0 l1 l2 g => ∃ m, I11 m l0 l1 l2 g) K th g) : MetA Γ l yX10_latest cX10_latest 3 (some (.int)) 3 80 [.ref th] g (fun r g' => ∃ x, r = some (.int x) ∧ K x g') := by
  refine MetA.introL (Lx := [some (.ref th), none, none]) (by decide) (Nat.le_of_ble_eq_true rfl) rfl rfl ?_
  intro E hEl hE hnm
  have hall : ∀ n, (∀ (l0 : Nat) (l1 : Int32) (l2 : Int32) (g : GH), I11 n l0 l1 l2 g → JW Γ E 11 [some (.ref l0), some (.int l1), some (.int l2)] [] g) := by
    intro n
    induction n using Nat.strongRecOn with
    | ind n ih =>
      exact fun l0 l1 l2 g hi => S_PV_latest_11 hE (fun l0 l1 l2 g hm => by obtain ⟨m, hm, h⟩ := hm; exact (ih m hm) l0 l1 l2 g h) l0 l1 l2 g (hh11 n l0 l1 l2 g hi)
  exact S_PV_latest_0 hE (fun l0 l1 l2 g hm => by obtain ⟨m, h⟩ := hm; exact (hall m) l0 l1 l2 g h) th g h0
theorem mt_PV_latest {Γ : GAM} {l : Launch} (th : Nat) (g : GH) (K : Int32 → GH → Prop) (h : Sp_PV_latest Γ th g K) : MetA Γ l yX10_latest cX10_latest 3 (some (.int)) 3 80 [.ref th] g (fun r g' => ∃ x, r = some (.int x) ∧ K x g') := by
  obtain ⟨C, s, n, rfl, hI, hW, hR, hK⟩ := PVC.e h
  have he := hI.en
  obtain ⟨hkd, -, -, ⟨h1, h2⟩, -⟩ := hI.pk
  have hP := hI.2.2.2.1
  have h12 := hW.len.2.2.2.2.2.2.2.2.2.2.1
  refine rl_PV_latest (fun n l0 l1 l2 g' => c_x C = l0 ∧ ∃ k, k ≤ (s_wav s).length ∧ n = (s_wav s).length - k ∧ l2 = nI k ∧ FrX (c_pr C) [] [771, 772] g g' ∧ (∀ w, w < (s_wav s).length → Ia g' 772 (c_pr C) w = prE s w) ∧ l1 = ((s_wav s).zipIdx.take k).foldl (ltS s) 0) ?_ ?_
  · rintro n l0 l1 l2 g' ⟨rfl, k, hk, rfl, rfl, hx, hend, rfl⟩
    have hP5 := hP.x0 hx
    have hI5 := hI.prn hx (by simp) (by decide) hP5 (fun z => z) rfl (fun z => z) (fun z => z) (fun z => z)
    obtain ⟨hkd5, -, -, ⟨k1, k2⟩, -⟩ := hI5.pk
    obtain ⟨-, a, b, c, d, e, -, -, ⟨c1, c2, c3, c4, c5⟩, -, ⟨e1, e2, e3, e4, e5⟩⟩ := id hP5.1
    suffices H : ∀ (K11 : Nat → Int32 → Int32 → GH → Prop), (k < (s_wav s).length → K11 (c_x C) (((s_wav s).zipIdx.take (k + 1)).foldl (ltS s) 0) (nI (k + 1)) g') → B_PV_latest_11 Γ K11 K (c_x C) (((s_wav s).zipIdx.take k).foldl (ltS s) 0) (nI k) g' from
      H _ (fun hlt => ⟨(s_wav s).length - (k + 1), by omega, rfl, k + 1, by omega, rfl, rfl, hx, hend, rfl⟩)
    intro K11 h11
    unfold B_PV_latest_11
    refine ⟨hkd5, _, k1, k2, ?_⟩
    rw [hP5.2.1, nj_le (by omega) (by omega)]
    refine ⟨fun z => ?_, fun z => ?_⟩
    · rw [List.take_of_length_le (by rw [List.length_zipIdx]; exact z)]
      exact hK C _ _ _ rfl rfl (hx.c he (by simp) (by decide)) rfl hI5 (hR.x hx)
    · have hlt : k < (s_wav s).length := by omega
      obtain ⟨w, hw⟩ := get_lt hlt
      refine ⟨hkd5, _, k1, k2, e, e1, e2, by rw [e5]; exact inB_nI (by omega) (by omega), hkd5, _, k1, k2, c, c1, c2, by rw [c5]; exact inB_nI (by omega) (by omega), ?_⟩
      rw [e3, e4, c3, c4, nj_cl (by omega), hend k hlt, (hP5.2.2.2 k w hw).2.2, nj_s]
      rintro _ rfl
      have := h11 hlt
      rw [fold_take _ _ _ (zip_get hw)] at this
      exact this
  · unfold B_PV_latest_0
    exact ⟨hkd, _, h1, h2, s, hP, hW, fun g2 hx hend => ⟨_, rfl, 0, Nat.zero_le _, rfl, nj_0, hx, hend, rfl⟩⟩
def Sp_PV_round (Γ : GAM) (x : Nat) (p0 : Int32) (g : GH) (K : Int32 → GH → Prop) : Prop := PVC Γ x g K (fun s => p_round s p0) (fun s => s)
-- the walk of PV_round
set_option maxRecDepth 100000 in
def B_PV_round_0 (Γ : GAM) (K : Int32 → GH → Prop) (th : Nat) (p0 : Int32) (g : GH) : Prop :=
  Sp_PV_isMinute Γ p0 g (fun (x2 : Int32) (g1 : GH) => ((¬ (x2 = 0) → Kd g1 th = 12 ∧ ∃ a3 : Nat, Gr g1 1413 th = some a3 ∧ Kd g1 a3 = 10 ∧ Sp_Vn_plan Γ a3 p0 g1 (fun (g4 : GH) => Kd g4 th = 12 ∧ ∃ a5 : Nat, Gr g4 1413 th = some a5 ∧ Kd g4 a5 = 10 ∧ K (Gi g4 1161 a5) g4)) ∧ (x2 = 0 → K (-1 : Int32) g1)))
set_option maxHeartbeats 4000000 in
set_option maxRecDepth 100000 in
theorem S_PV_round_0 {Γ : GAM} {E : EV} {K : Int32 → GH → Prop} (hE : GE Γ E cX10_round 2 RX10 (some (.int)) 14 1049 (fun r g' => ∃ x, r = some (.int x) ∧ K x g')) (th : Nat) (p0 : Int32) (g : GH) (h : B_PV_round_0 Γ K th p0 g) : JW Γ E 0 [some (.ref th), some (.int p0)] [] g := by
  unfold B_PV_round_0 at h
  refine j_iload_n hE (by decide +kernel : decode cX10_round 0 = .ok (.iload_n 1, 1)) rfl rfl ?_
  refine j_callS hE rfl cl_X10_290 st_X10_isMinute ⟨by omega, by omega⟩ (As := [.int p0]) (rest := []) rfl rfl (Nat.le_of_ble_eq_true rfl) (by decide +kernel : decode cX10_round 1 = .ok (.invokestatic 290, 3)) (mt_PV_isMinute _ _ _ h) ?_
  rintro _ g1 ⟨x2, rfl, h⟩
  refine j_if_ne hE (by decide +kernel : decode cX10_round 4 = .ok (.ifCond .ne 5, 3)) (tgt := 9) (by decide) (fun q => ?_) (fun q => ?_)
  · replace h := h.1 q
    refine j_aload_n hE (by decide +kernel : decode cX10_round 9 = .ok (.aload_n 0, 1)) rfl rfl ?_
    obtain ⟨hk, h⟩ := h
    obtain ⟨a3, ha, h⟩ := h
    refine j_getRn hE fg_X10_37 hk ha (by decide +kernel : decode cX10_round 10 = .ok (.getfield 37, 3)) ?_
    refine j_iload_n hE (by decide +kernel : decode cX10_round 13 = .ok (.iload_n 1, 1)) rfl rfl ?_
    obtain ⟨hk, h⟩ := h
    refine j_callV hE rfl cl_X10_302 cf_9 im_X8_plan se_X8_plan ⟨by omega, by omega⟩ (As := [.int p0]) (rest := []) rfl rfl (Nat.le_of_ble_eq_true rfl) hk (by decide +kernel : decode cX10_round 14 = .ok (.invokevirtual 302, 3)) (mt_Vn_plan _ _ _ _ h) ?_
    rintro _ g4 ⟨rfl, h⟩
    refine j_aload_n hE (by decide +kernel : decode cX10_round 17 = .ok (.aload_n 0, 1)) rfl rfl ?_
    obtain ⟨hk, h⟩ := h
    obtain ⟨a5, ha, h⟩ := h
    refine j_getRn hE fg_X10_37 hk ha (by decide +kernel : decode cX10_round 18 = .ok (.getfield 37, 3)) ?_
    obtain ⟨hk, h⟩ := h
    refine j_getI hE fg_X10_304 hk (by decide +kernel : decode cX10_round 21 = .ok (.getfield 304, 3)) ?_
    exact j_iret hE (by decide +kernel : decode cX10_round 24 = .ok (.ireturn, 1)) ⟨_, rfl, h⟩
  · replace h := h.2 q
    refine j_iconst hE (by decide +kernel : decode cX10_round 7 = .ok (.iconst (-1), 1)) (v := (-1 : Int32)) (by decide) ?_
    exact j_iret hE (by decide +kernel : decode cX10_round 8 = .ok (.ireturn, 1)) ⟨_, rfl, h⟩
set_option maxHeartbeats 4000000 in
set_option maxRecDepth 100000 in
theorem rl_PV_round {Γ : GAM} {l : Launch} {th : Nat} {p0 : Int32} {g : GH} {K : Int32 → GH → Prop} (h0 : B_PV_round_0 Γ K th p0 g) : MetA Γ l yX10_round cX10_round 2 (some (.int)) 14 1049 [.ref th, .int p0] g (fun r g' => ∃ x, r = some (.int x) ∧ K x g') := by
  refine MetA.introL (Lx := [some (.ref th), some (.int p0)]) (by decide) (Nat.le_of_ble_eq_true rfl) rfl rfl ?_
  intro E hEl hE hnm
  exact S_PV_round_0 hE th p0 g h0
theorem mt_PV_round {Γ : GAM} {l : Launch} (th : Nat) (p0 : Int32) (g : GH) (K : Int32 → GH → Prop) (h : Sp_PV_round Γ th p0 g K) : MetA Γ l yX10_round cX10_round 2 (some (.int)) 14 1049 [.ref th, .int p0] g (fun r g' => ∃ x, r = some (.int x) ∧ K x g') := by
  obtain ⟨C, s, n, rfl, hI, hW, hR, hK⟩ := PVC.e h
  have he := hI.en
  obtain ⟨hkd, -, -, -, ⟨h1, h2⟩, -⟩ := hI.pk
  unfold p_round at hK
  refine rl_PV_round ?_
  simp only [B_PV_round_0, Sp_PV_isMinute, ite_z, Classical.not_not, hkd, h1, h2, true_and, Option.some.injEq, exists_eq_left']
  refine ⟨fun u => ?_, fun u => hK C g _ _ (if_neg u) rfl (FrC.rf he) rfl hI hR.dn⟩
  obtain ⟨o1, o2⟩ := okMin_n u
  refine ⟨s, p0.toNatClampNeg, hI.2.2.2.2.1, hW, o1, o2, fun g4 hx hV hD => ?_⟩
  have hI4 := hI.van hx (by decide) (by decide) hV (fun z => z) rfl (fun z => z) (fun z => z) (fun z => z)
  obtain ⟨hkd4, -, -, -, ⟨k1, k2⟩, -⟩ := hI4.pk
  refine ⟨hkd4, _, k1, k2, ?_⟩
  rw [hD.1]
  exact hK C _ _ _ (if_pos u) rfl (hx.c he (by decide) (by decide)) rfl hI4 (hR.x hx)
def Sp_PV_route (Γ : GAM) (x : Nat) (p0 p1 : Int32) (g : GH) (K : Int32 → GH → Prop) : Prop := PVC Γ x g K (fun s => p_route s p0 p1) (fun s => s)
-- the walk of PV_route
set_option maxRecDepth 100000 in
def B_PV_route_0 (Γ : GAM) (K : Int32 → GH → Prop) (th : Nat) (p0 : Int32) (p1 : Int32) (g : GH) : Prop :=
  Sp_PV_isMinute Γ p0 g (fun (x2 : Int32) (g1 : GH) => ((¬ (x2 = 0) → Kd g1 th = 12 ∧ ∃ a3 : Nat, Gr g1 1413 th = some a3 ∧ Kd g1 a3 = 10 ∧ Sp_Vn_plan Γ a3 p0 g1 (fun (g4 : GH) => Kd g4 th = 12 ∧ ∃ a5 : Nat, Gr g4 1413 th = some a5 ∧ Kd g4 a5 = 10 ∧ Sp_Vn_boxAt Γ a5 p1 g4 (fun (x7 : Int32) (g6 : GH) => K x7 g6))) ∧ (x2 = 0 → K (-1 : Int32) g1)))
set_option maxHeartbeats 4000000 in
set_option maxRecDepth 100000 in
theorem S_PV_route_0 {Γ : GAM} {E : EV} {K : Int32 → GH → Prop} (hE : GE Γ E cX10_route 3 RX10 (some (.int)) 14 1049 (fun r g' => ∃ x, r = some (.int x) ∧ K x g')) (th : Nat) (p0 : Int32) (p1 : Int32) (g : GH) (h : B_PV_route_0 Γ K th p0 p1 g) : JW Γ E 0 [some (.ref th), some (.int p0), some (.int p1)] [] g := by
  unfold B_PV_route_0 at h
  refine j_iload_n hE (by decide +kernel : decode cX10_route 0 = .ok (.iload_n 1, 1)) rfl rfl ?_
  refine j_callS hE rfl cl_X10_290 st_X10_isMinute ⟨by omega, by omega⟩ (As := [.int p0]) (rest := []) rfl rfl (Nat.le_of_ble_eq_true rfl) (by decide +kernel : decode cX10_route 1 = .ok (.invokestatic 290, 3)) (mt_PV_isMinute _ _ _ h) ?_
  rintro _ g1 ⟨x2, rfl, h⟩
  refine j_if_ne hE (by decide +kernel : decode cX10_route 4 = .ok (.ifCond .ne 5, 3)) (tgt := 9) (by decide) (fun q => ?_) (fun q => ?_)
  · replace h := h.1 q
    refine j_aload_n hE (by decide +kernel : decode cX10_route 9 = .ok (.aload_n 0, 1)) rfl rfl ?_
    obtain ⟨hk, h⟩ := h
    obtain ⟨a3, ha, h⟩ := h
    refine j_getRn hE fg_X10_37 hk ha (by decide +kernel : decode cX10_route 10 = .ok (.getfield 37, 3)) ?_
    refine j_iload_n hE (by decide +kernel : decode cX10_route 13 = .ok (.iload_n 1, 1)) rfl rfl ?_
    obtain ⟨hk, h⟩ := h
    refine j_callV hE rfl cl_X10_302 cf_9 im_X8_plan se_X8_plan ⟨by omega, by omega⟩ (As := [.int p0]) (rest := []) rfl rfl (Nat.le_of_ble_eq_true rfl) hk (by decide +kernel : decode cX10_route 14 = .ok (.invokevirtual 302, 3)) (mt_Vn_plan _ _ _ _ h) ?_
    rintro _ g4 ⟨rfl, h⟩
    refine j_aload_n hE (by decide +kernel : decode cX10_route 17 = .ok (.aload_n 0, 1)) rfl rfl ?_
    obtain ⟨hk, h⟩ := h
    obtain ⟨a5, ha, h⟩ := h
    refine j_getRn hE fg_X10_37 hk ha (by decide +kernel : decode cX10_route 18 = .ok (.getfield 37, 3)) ?_
    refine j_iload_n hE (by decide +kernel : decode cX10_route 21 = .ok (.iload_n 2, 1)) rfl rfl ?_
    obtain ⟨hk, h⟩ := h
    refine j_callV hE rfl cl_X10_307 cf_9 im_X8_boxAt se_X8_boxAt ⟨by omega, by omega⟩ (As := [.int p1]) (rest := []) rfl rfl (Nat.le_of_ble_eq_true rfl) hk (by decide +kernel : decode cX10_route 22 = .ok (.invokevirtual 307, 3)) (mt_Vn_boxAt _ _ _ _ h) ?_
    rintro _ g6 ⟨x7, rfl, h⟩
    exact j_iret hE (by decide +kernel : decode cX10_route 25 = .ok (.ireturn, 1)) ⟨_, rfl, h⟩
  · replace h := h.2 q
    refine j_iconst hE (by decide +kernel : decode cX10_route 7 = .ok (.iconst (-1), 1)) (v := (-1 : Int32)) (by decide) ?_
    exact j_iret hE (by decide +kernel : decode cX10_route 8 = .ok (.ireturn, 1)) ⟨_, rfl, h⟩
set_option maxHeartbeats 4000000 in
set_option maxRecDepth 100000 in
theorem rl_PV_route {Γ : GAM} {l : Launch} {th : Nat} {p0 : Int32} {p1 : Int32} {g : GH} {K : Int32 → GH → Prop} (h0 : B_PV_route_0 Γ K th p0 p1 g) : MetA Γ l yX10_route cX10_route 3 (some (.int)) 14 1049 [.ref th, .int p0, .int p1] g (fun r g' => ∃ x, r = some (.int x) ∧ K x g') := by
  refine MetA.introL (Lx := [some (.ref th), some (.int p0), some (.int p1)]) (by decide) (Nat.le_of_ble_eq_true rfl) rfl rfl ?_
  intro E hEl hE hnm
  exact S_PV_route_0 hE th p0 p1 g h0
theorem mt_PV_route {Γ : GAM} {l : Launch} (th : Nat) (p0 : Int32) (p1 : Int32) (g : GH) (K : Int32 → GH → Prop) (h : Sp_PV_route Γ th p0 p1 g K) : MetA Γ l yX10_route cX10_route 3 (some (.int)) 14 1049 [.ref th, .int p0, .int p1] g (fun r g' => ∃ x, r = some (.int x) ∧ K x g') := by
  obtain ⟨C, s, n, rfl, hI, hW, hR, hK⟩ := PVC.e h
  have he := hI.en
  obtain ⟨hkd, -, -, -, ⟨h1, h2⟩, -⟩ := hI.pk
  unfold p_route at hK
  refine rl_PV_route ?_
  simp only [B_PV_route_0, Sp_PV_isMinute, ite_z, Classical.not_not, hkd, h1, h2, true_and, Option.some.injEq, exists_eq_left']
  refine ⟨fun u => ?_, fun u => hK C g _ _ (if_neg (fun z => u z.1)) rfl (FrC.rf he) rfl hI hR.dn⟩
  obtain ⟨o1, o2⟩ := okMin_n u
  refine ⟨s, p0.toNatClampNeg, hI.2.2.2.2.1, hW, o1, o2, fun g4 hx hV hD => ?_⟩
  have hI4 := hI.van hx (by decide) (by decide) hV (fun z => z) rfl (fun z => z) (fun z => z) (fun z => z)
  obtain ⟨hkd4, -, -, -, ⟨k1, k2⟩, -⟩ := hI4.pk
  refine ⟨hkd4, _, k1, k2, s, p0.toNatClampNeg, hV.1.1, hV.1.2.2.2.1, hD, ?_⟩
  have hF := hx.c he (by decide) (by decide)
  have hR4 := hR.x hx
  by_cases z : (vBe s p0.toNatClampNeg).isSome = true ∧ (0 ≤ p1 ∧ p1 ≤ nI (vN s) - 1)
  · rw [if_pos z]
    exact hK C _ _ _ (if_pos ⟨u, z⟩) rfl hF rfl hI4 hR4
  · rw [if_neg z]
    exact hK C _ _ _ (if_neg (fun w => z w.2)) rfl hF rfl hI4 hR4
