/-! the class's face: sealed, habits, heaps told -/
theorem FK.c {Γ : GAM} {C : CDR} {g g' : GH} {s : ST} (h : ClsI Γ C g s) (k : FK Γ (c_D C) g g') : ClsI Γ C g' s ∧ FrC g g' := ⟨h.fc k.1 (k.2 h.2.2.2.2.2.2.2), k.1.c⟩
def Sp_PV_sealed (Γ : GAM) (x : Nat) (p0 p1 : Int32) (g : GH) (K : Int32 → GH → Prop) : Prop := PVC Γ x g K (fun s => p_sealed s p0 p1) (fun s => s)
-- the walk of PV_sealed
set_option maxRecDepth 100000 in
def B_PV_sealed_76 (Γ : GAM) (K : Int32 → GH → Prop) (s0 : Int32) (g : GH) : Prop :=
  K s0 g
set_option maxHeartbeats 4000000 in
set_option maxRecDepth 100000 in
theorem S_PV_sealed_76 {Γ : GAM} {E : EV} {K : Int32 → GH → Prop} (hE : GE Γ E cX10_sealed 4 RX10 (some (.int)) 6 141 (fun r g' => ∃ x, r = some (.int x) ∧ K x g')) (s0 : Int32) (g : GH) (h : B_PV_sealed_76 Γ K s0 g) : JW Γ E 76 [none, none, none, none] [.int s0] g := by
  unfold B_PV_sealed_76 at h
  exact j_iret hE (by decide +kernel : decode cX10_sealed 76 = .ok (.ireturn, 1)) ⟨_, rfl, h⟩
set_option maxRecDepth 100000 in
def B_PV_sealed_28 (Γ : GAM) (K : Int32 → GH → Prop)  (g : GH) : Prop :=
  K (-1 : Int32) g
set_option maxHeartbeats 4000000 in
set_option maxRecDepth 100000 in
theorem S_PV_sealed_28 {Γ : GAM} {E : EV} {K : Int32 → GH → Prop} (hE : GE Γ E cX10_sealed 4 RX10 (some (.int)) 6 141 (fun r g' => ∃ x, r = some (.int x) ∧ K x g'))  (g : GH) (h : B_PV_sealed_28 Γ K  g) : JW Γ E 28 [none, none, none, none] [] g := by
  unfold B_PV_sealed_28 at h
  refine j_iconst hE (by decide +kernel : decode cX10_sealed 28 = .ok (.iconst (-1), 1)) (v := (-1 : Int32)) (by decide) ?_
  exact j_iret hE (by decide +kernel : decode cX10_sealed 29 = .ok (.ireturn, 1)) ⟨_, rfl, h⟩
set_option maxRecDepth 100000 in
def B_PV_sealed_0 (Γ : GAM) (K : Int32 → GH → Prop) (th : Nat) (p0 : Int32) (p1 : Int32) (g : GH) : Prop :=
  Kd g th = 12 ∧ Sp_PV_isUpToNow Γ th p1 g (fun (x2 : Int32) (g1 : GH) => ((x2 = 0 → B_PV_sealed_28 Γ K g1) ∧ (¬ (x2 = 0) → Kd g1 th = 12 ∧ ∃ a3 : Nat, Gr g1 1410 th = some a3 ∧ Kd g1 a3 = 6 ∧ ∃ a4 : Nat, Gr g1 642 a3 = some a4 ∧ Kd g1 a4 = 1 ∧ Sp_AL_size Γ a4 g1 (fun (x6 : Int32) (g5 : GH) => Sp_PV_isWithin Γ p0 (0 : Int32) (x6 - (1 : Int32)) g5 (fun (x8 : Int32) (g7 : GH) => ((¬ (x8 = 0) → Kd g7 th = 12 ∧ ∃ a9 : Nat, Gr g7 1410 th = some a9 ∧ Kd g7 a9 = 6 ∧ ∃ a10 : Nat, Gr g7 642 a9 = some a10 ∧ Kd g7 a10 = 1 ∧ Sp_AL_get Γ a10 p0 g7 (fun (a12 : Nat) (g11 : GH) => Kd g11 a12 = 9 ∧ Kd g11 a12 = 9 ∧ (((Gi g11 1027 a12) ≤ p1 → Kd g11 a12 = 9 ∧ Kd g11 th = 12 ∧ ∃ a13 : Nat, Gr g11 1410 th = some a13 ∧ Kd g11 a13 = 6 ∧ Sp_Po_manyBy Γ a13 p0 p1 g11 (fun (x15 : Int32) (g14 : GH) => ((¬ ((Gi g11 1026 a12) = x15) → B_PV_sealed_76 Γ K (1 : Int32) g14) ∧ ((Gi g11 1026 a12) = x15 → B_PV_sealed_76 Γ K (0 : Int32) g14)))) ∧ (¬ ((Gi g11 1027 a12) ≤ p1) → K (-1 : Int32) g11)))) ∧ (x8 = 0 → B_PV_sealed_28 Γ K g7)))))))
set_option maxHeartbeats 4000000 in
set_option maxRecDepth 100000 in
theorem S_PV_sealed_0 {Γ : GAM} {E : EV} {K : Int32 → GH → Prop} (hE : GE Γ E cX10_sealed 4 RX10 (some (.int)) 6 141 (fun r g' => ∃ x, r = some (.int x) ∧ K x g')) (th : Nat) (p0 : Int32) (p1 : Int32) (g : GH) (h : B_PV_sealed_0 Γ K th p0 p1 g) : JW Γ E 0 [some (.ref th), some (.int p0), some (.int p1), none] [] g := by
  unfold B_PV_sealed_0 at h
  refine j_aload_n hE (by decide +kernel : decode cX10_sealed 0 = .ok (.aload_n 0, 1)) rfl rfl ?_
  refine j_iload_n hE (by decide +kernel : decode cX10_sealed 1 = .ok (.iload_n 2, 1)) rfl rfl ?_
  obtain ⟨hk, h⟩ := h
  refine j_callV hE rfl cl_X10_100 cf_11 im_X10_isUpToNow se_X10_isUpToNow ⟨by omega, by omega⟩ (As := [.int p1]) (rest := []) rfl rfl (Nat.le_of_ble_eq_true rfl) hk (by decide +kernel : decode cX10_sealed 2 = .ok (.invokevirtual 100, 3)) (mt_PV_isUpToNow _ _ _ _ h) ?_
  rintro _ g1 ⟨x2, rfl, h⟩
  refine j_if_eq hE (by decide +kernel : decode cX10_sealed 5 = .ok (.ifCond .eq 23, 3)) (tgt := 28) (by decide) (fun q => ?_) (fun q => ?_)
  · replace h := h.1 q
    refine j_weak [none, none, none, none] trivial ?_
    exact S_PV_sealed_28 hE _ h
  · replace h := h.2 q
    refine j_iload_n hE (by decide +kernel : decode cX10_sealed 8 = .ok (.iload_n 1, 1)) rfl rfl ?_
    refine j_iconst hE (by decide +kernel : decode cX10_sealed 9 = .ok (.iconst 0, 1)) (v := (0 : Int32)) (by decide) ?_
    refine j_aload_n hE (by decide +kernel : decode cX10_sealed 10 = .ok (.aload_n 0, 1)) rfl rfl ?_
    obtain ⟨hk, h⟩ := h
    obtain ⟨a3, ha, h⟩ := h
    refine j_getRn hE fg_X10_16 hk ha (by decide +kernel : decode cX10_sealed 11 = .ok (.getfield 16, 3)) ?_
    obtain ⟨hk, h⟩ := h
    obtain ⟨a4, ha, h⟩ := h
    refine j_getRn hE fg_X10_144 hk ha (by decide +kernel : decode cX10_sealed 14 = .ok (.getfield 144, 3)) ?_
    obtain ⟨hk, h⟩ := h
    refine j_callV hE rfl cl_X10_84 cf_0 im_Jx4a65c_size_8abf5 se_Jx4a65c_size_8abf5 ⟨by omega, by omega⟩ (As := []) (rest := [.int (0 : Int32), .int p0]) rfl rfl (Nat.le_of_ble_eq_true rfl) hk (by decide +kernel : decode cX10_sealed 17 = .ok (.invokevirtual 84, 3)) (mt_AL_size _ _ _ h) ?_
    rintro _ g5 ⟨x6, rfl, h⟩
    refine j_iconst hE (by decide +kernel : decode cX10_sealed 20 = .ok (.iconst 1, 1)) (v := (1 : Int32)) (by decide) ?_
    refine j_isub hE (by decide +kernel : decode cX10_sealed 21 = .ok (.isub, 1)) ?_
    refine j_callS hE rfl cl_X10_64 st_X10_isWithin ⟨by omega, by omega⟩ (As := [.int p0, .int (0 : Int32), .int (x6 - (1 : Int32))]) (rest := []) rfl rfl (Nat.le_of_ble_eq_true rfl) (by decide +kernel : decode cX10_sealed 22 = .ok (.invokestatic 64, 3)) (mt_PV_isWithin _ _ _ _ _ h) ?_
    rintro _ g7 ⟨x8, rfl, h⟩
    refine j_if_ne hE (by decide +kernel : decode cX10_sealed 25 = .ok (.ifCond .ne 5, 3)) (tgt := 30) (by decide) (fun q => ?_) (fun q => ?_)
    · replace h := h.1 q
      refine j_aload_n hE (by decide +kernel : decode cX10_sealed 30 = .ok (.aload_n 0, 1)) rfl rfl ?_
      obtain ⟨hk, h⟩ := h
      obtain ⟨a9, ha, h⟩ := h
      refine j_getRn hE fg_X10_16 hk ha (by decide +kernel : decode cX10_sealed 31 = .ok (.getfield 16, 3)) ?_
      obtain ⟨hk, h⟩ := h
      obtain ⟨a10, ha, h⟩ := h
      refine j_getRn hE fg_X10_144 hk ha (by decide +kernel : decode cX10_sealed 34 = .ok (.getfield 144, 3)) ?_
      refine j_iload_n hE (by decide +kernel : decode cX10_sealed 37 = .ok (.iload_n 1, 1)) rfl rfl ?_
      obtain ⟨hk, h⟩ := h
      refine j_callV hE rfl cl_X10_147 cf_0 im_Jx4a65c_get_915e3 se_Jx4a65c_get_915e3 ⟨by omega, by omega⟩ (As := [.int p0]) (rest := []) rfl rfl (Nat.le_of_ble_eq_true rfl) hk (by decide +kernel : decode cX10_sealed 38 = .ok (.invokevirtual 147, 3)) (mt_AL_get _ _ _ _ h) ?_
      rintro _ g11 ⟨a12, rfl, h⟩
      obtain ⟨hk, h⟩ := h
      refine j_cast hE cf_8 ck_X10_109 hk (by decide +kernel : decode cX10_sealed 41 = .ok (.checkcast 109, 3)) ?_
      refine j_astore_n hE (by decide +kernel : decode cX10_sealed 44 = .ok (.astore_n 3, 1)) rfl (Nat.le_of_ble_eq_true rfl) rfl ?_
      refine j_aload_n hE (by decide +kernel : decode cX10_sealed 45 = .ok (.aload_n 3, 1)) rfl rfl ?_
      obtain ⟨hk, h⟩ := h
      refine j_getI hE fg_X10_151 hk (by decide +kernel : decode cX10_sealed 46 = .ok (.getfield 151, 3)) ?_
      refine j_iload_n hE (by decide +kernel : decode cX10_sealed 49 = .ok (.iload_n 2, 1)) rfl rfl ?_
      refine j_icmp_le hE (by decide +kernel : decode cX10_sealed 50 = .ok (.if_icmp .le 5, 3)) (tgt := 55) (by decide) (fun q => ?_) (fun q => ?_)
      · replace h := h.1 q
        refine j_aload_n hE (by decide +kernel : decode cX10_sealed 55 = .ok (.aload_n 3, 1)) rfl rfl ?_
        obtain ⟨hk, h⟩ := h
        refine j_getI hE fg_X10_154 hk (by decide +kernel : decode cX10_sealed 56 = .ok (.getfield 154, 3)) ?_
        refine j_aload_n hE (by decide +kernel : decode cX10_sealed 59 = .ok (.aload_n 0, 1)) rfl rfl ?_
        obtain ⟨hk, h⟩ := h
        obtain ⟨a13, ha, h⟩ := h
        refine j_getRn hE fg_X10_16 hk ha (by decide +kernel : decode cX10_sealed 60 = .ok (.getfield 16, 3)) ?_
        refine j_iload_n hE (by decide +kernel : decode cX10_sealed 63 = .ok (.iload_n 1, 1)) rfl rfl ?_
        refine j_iload_n hE (by decide +kernel : decode cX10_sealed 64 = .ok (.iload_n 2, 1)) rfl rfl ?_
        obtain ⟨hk, h⟩ := h
        refine j_callV hE rfl cl_X10_157 cf_5 im_X4_manyBy se_X4_manyBy ⟨by omega, by omega⟩ (As := [.int p0, .int p1]) (rest := [.int (Gi g11 1026 a12)]) rfl rfl (Nat.le_of_ble_eq_true rfl) hk (by decide +kernel : decode cX10_sealed 65 = .ok (.invokevirtual 157, 3)) (mt_Po_manyBy _ _ _ _ _ h) ?_
        rintro _ g14 ⟨x15, rfl, h⟩
        refine j_icmp_ne hE (by decide +kernel : decode cX10_sealed 68 = .ok (.if_icmp .ne 7, 3)) (tgt := 75) (by decide) (fun q => ?_) (fun q => ?_)
        · replace h := h.1 q
          refine j_iconst hE (by decide +kernel : decode cX10_sealed 75 = .ok (.iconst 1, 1)) (v := (1 : Int32)) (by decide) ?_
          refine j_weak [none, none, none, none] trivial ?_
          exact S_PV_sealed_76 hE _ _ h
        · replace h := h.2 q
          refine j_iconst hE (by decide +kernel : decode cX10_sealed 71 = .ok (.iconst 0, 1)) (v := (0 : Int32)) (by decide) ?_
          refine j_goto hE (by decide +kernel : decode cX10_sealed 72 = .ok (.goto 4, 3)) (tgt := 76) (by decide) ?_
          refine j_weak [none, none, none, none] trivial ?_
          exact S_PV_sealed_76 hE _ _ h
      · replace h := h.2 q
        refine j_iconst hE (by decide +kernel : decode cX10_sealed 53 = .ok (.iconst (-1), 1)) (v := (-1 : Int32)) (by decide) ?_
        exact j_iret hE (by decide +kernel : decode cX10_sealed 54 = .ok (.ireturn, 1)) ⟨_, rfl, h⟩
    · replace h := h.2 q
      refine j_weak [none, none, none, none] trivial ?_
      exact S_PV_sealed_28 hE _ h
set_option maxHeartbeats 4000000 in
set_option maxRecDepth 100000 in
theorem rl_PV_sealed {Γ : GAM} {l : Launch} {th : Nat} {p0 : Int32} {p1 : Int32} {g : GH} {K : Int32 → GH → Prop} (h0 : B_PV_sealed_0 Γ K th p0 p1 g) : MetA Γ l yX10_sealed cX10_sealed 4 (some (.int)) 6 141 [.ref th, .int p0, .int p1] g (fun r g' => ∃ x, r = some (.int x) ∧ K x g') := by
  refine MetA.introL (Lx := [some (.ref th), some (.int p0), some (.int p1), none]) (by decide) (Nat.le_of_ble_eq_true rfl) rfl rfl ?_
  intro E hEl hE hnm
  exact S_PV_sealed_0 hE th p0 p1 g h0
theorem mt_PV_sealed {Γ : GAM} {l : Launch} (th : Nat) (p0 : Int32) (p1 : Int32) (g : GH) (K : Int32 → GH → Prop) (h : Sp_PV_sealed Γ th p0 p1 g K) : MetA Γ l yX10_sealed cX10_sealed 4 (some (.int)) 6 141 [.ref th, .int p0, .int p1] g (fun r g' => ∃ x, r = some (.int x) ∧ K x g') := by
  obtain ⟨C, s, n, rfl, hI, hW, hR, hK⟩ := PVC.e h
  have he := hI.en
  obtain ⟨hkd, ⟨h1, h2⟩, -, -, -, -, hnow, hsiz⟩ := hI.pk
  have hP := hI.2.2.2.2.2.2.1
  have hlen := hW.len
  obtain ⟨q1, m2, m3⟩ := hP.2.1.2.2.2.1
  have hkm := hP.2.1.2.2.2.2.2.2.1.2.2.1
  have hL := hP.2.2.2.2.2.2.1
  unfold p_sealed at hK
  refine rl_PV_sealed ?_
  have hno : ¬ ok_sealed s p0 p1 → K (-1) g := fun u => hK C g _ _ (if_neg u) rfl (FrC.rf he) rfl hI hR.dn
  unfold B_PV_sealed_0 B_PV_sealed_28 B_PV_sealed_76
  refine ⟨hkd, hkd, ?_⟩
  rw [hnow]
  refine pv_ite (fun u => hno (fun z => u z.2.1)) (fun u => ⟨hkd, _, h1, h2, _, q1, hkm, hL.sz ?_⟩)
  refine pv_ite' (fun u2 => hno (fun z => u2 z.1)) (fun u2 => ⟨hkd, _, h1, h2, _, q1, hkm, ?_⟩)
  obtain ⟨i, rfl, hi⟩ := (wn_c (by omega)).mp u2
  refine hL.at hi (fun x y hy hT => ?_)
  obtain ⟨⟨_, t0⟩, t1, t2, t3, t4⟩ := hT
  have hse : sEmpt s (nI i) = y := by unfold sEmpt; rw [nj_cl (by omega), hy]; rfl
  rw [t4]
  refine ⟨t0, t0, fun u3 => ⟨t0, hkd, _, h1, h2, c_D C, s, rfl, hP, hW, fun g' hF => ?_⟩, fun u3 => hno (fun z => u3 (by have := z.2.2; rw [hse] at this; exact this))⟩
  have ok : ok_sealed s (nI i) p1 := ⟨u2, u, by rw [hse]; exact u3⟩
  obtain ⟨hI', hFc⟩ := hF.c hI
  have hr := hK C g' _ _ (if_pos ok) rfl hFc rfl hI' (hR.fc hF.1)
  rw [hse] at hr
  rw [t3]
  refine ⟨fun u4 => ?_, fun u4 => ?_⟩
  · rw [if_neg (fun z => u4 z.symm)] at hr; exact hr
  · rw [if_pos u4.symm] at hr; exact hr
theorem m1_9 {p : Int32} : (-1 ≤ p ∧ p ≤ 9) ↔ (p = -1 ∨ (0 ≤ p ∧ p ≤ 9)) := by
  have e1 : (-1 : Int32).toInt = -1 := by decide
  have e0 : (0 : Int32).toInt = 0 := by decide
  constructor
  · rintro ⟨h1, h2⟩
    rw [Int32.le_iff_toInt_le, e1] at h1
    by_cases z : p = -1
    · exact .inl z
    · refine .inr ⟨?_, h2⟩
      rw [Int32.le_iff_toInt_le, e0]
      have : p.toInt ≠ -1 := fun w => z (Int32.toInt_inj.mp (w.trans e1.symm))
      omega
  · rintro (rfl | ⟨h1, h2⟩)
    · exact ⟨by decide, by decide⟩
    · exact ⟨Int32.le_trans (by decide) h1, h2⟩
def Sp_PV_habit (Γ : GAM) (x : Nat) (p0 p1 p2 : Int32) (g : GH) (K : Int32 → GH → Prop) : Prop := PVC Γ x g K (fun s => p_habit s p0 p1 p2) (fun s => s)
-- the walk of PV_habit
set_option maxRecDepth 100000 in
def B_PV_habit_81 (Γ : GAM) (K : Int32 → GH → Prop) (s0 : Int32) (g : GH) : Prop :=
  K s0 g
set_option maxHeartbeats 4000000 in
set_option maxRecDepth 100000 in
theorem S_PV_habit_81 {Γ : GAM} {E : EV} {K : Int32 → GH → Prop} (hE : GE Γ E cX10_habit 5 RX10 (some (.int)) 5 114 (fun r g' => ∃ x, r = some (.int x) ∧ K x g')) (s0 : Int32) (g : GH) (h : B_PV_habit_81 Γ K s0 g) : JW Γ E 81 [none, none, none, none, none] [.int s0] g := by
  unfold B_PV_habit_81 at h
  exact j_iret hE (by decide +kernel : decode cX10_habit 81 = .ok (.ireturn, 1)) ⟨_, rfl, h⟩
set_option maxRecDepth 100000 in
def B_PV_habit_28 (Γ : GAM) (K : Int32 → GH → Prop)  (g : GH) : Prop :=
  K (-1 : Int32) g
set_option maxHeartbeats 4000000 in
set_option maxRecDepth 100000 in
theorem S_PV_habit_28 {Γ : GAM} {E : EV} {K : Int32 → GH → Prop} (hE : GE Γ E cX10_habit 5 RX10 (some (.int)) 5 114 (fun r g' => ∃ x, r = some (.int x) ∧ K x g'))  (g : GH) (h : B_PV_habit_28 Γ K  g) : JW Γ E 28 [none, none, none, none, none] [] g := by
  unfold B_PV_habit_28 at h
  refine j_iconst hE (by decide +kernel : decode cX10_habit 28 = .ok (.iconst (-1), 1)) (v := (-1 : Int32)) (by decide) ?_
  exact j_iret hE (by decide +kernel : decode cX10_habit 29 = .ok (.ireturn, 1)) ⟨_, rfl, h⟩
set_option maxRecDepth 100000 in
def B_PV_habit_19 (Γ : GAM) (K : Int32 → GH → Prop) (l0 : Nat) (l1 : Int32) (l2 : Int32) (l3 : Int32) (g : GH) : Prop :=
  Sp_PV_isWithin Γ l3 (0 : Int32) (2 : Int32) g (fun (x2 : Int32) (g1 : GH) => ((¬ (x2 = 0) → Kd g1 l0 = 12 ∧ ∃ a3 : Nat, Gr g1 1410 l0 = some a3 ∧ Kd g1 l0 = 12 ∧ Kd g1 a3 = 6 ∧ Sp_Po_doublesOf Γ a3 l1 l2 (0 : Int32) (Gi g1 1408 l0) g1 (fun (x5 : Int32) (g4 : GH) => ((¬ (l3 = 0) → Kd g4 l0 = 12 ∧ (((Gi g4 1409 l0) ≤ x5 → Kd g4 l0 = 12 ∧ ∃ a6 : Nat, Gr g4 1410 l0 = some a6 ∧ Kd g4 l0 = 12 ∧ Kd g4 a6 = 6 ∧ Sp_Po_doublesOf Γ a6 l1 l2 l3 (Gi g4 1408 l0) g4 (fun (x8 : Int32) (g7 : GH) => B_PV_habit_81 Γ K x8 g7)) ∧ (¬ ((Gi g4 1409 l0) ≤ x5) → B_PV_habit_81 Γ K (-2 : Int32) g4))) ∧ (l3 = 0 → K x5 g4)))) ∧ (x2 = 0 → B_PV_habit_28 Γ K g1)))
set_option maxHeartbeats 4000000 in
set_option maxRecDepth 100000 in
theorem S_PV_habit_19 {Γ : GAM} {E : EV} {K : Int32 → GH → Prop} (hE : GE Γ E cX10_habit 5 RX10 (some (.int)) 5 114 (fun r g' => ∃ x, r = some (.int x) ∧ K x g')) (l0 : Nat) (l1 : Int32) (l2 : Int32) (l3 : Int32) (g : GH) (h : B_PV_habit_19 Γ K l0 l1 l2 l3 g) : JW Γ E 19 [some (.ref l0), some (.int l1), some (.int l2), some (.int l3), none] [] g := by
  unfold B_PV_habit_19 at h
  refine j_iload_n hE (by decide +kernel : decode cX10_habit 19 = .ok (.iload_n 3, 1)) rfl rfl ?_
  refine j_iconst hE (by decide +kernel : decode cX10_habit 20 = .ok (.iconst 0, 1)) (v := (0 : Int32)) (by decide) ?_
  refine j_iconst hE (by decide +kernel : decode cX10_habit 21 = .ok (.iconst 2, 1)) (v := (2 : Int32)) (by decide) ?_
  refine j_callS hE rfl cl_X10_64 st_X10_isWithin ⟨by omega, by omega⟩ (As := [.int l3, .int (0 : Int32), .int (2 : Int32)]) (rest := []) rfl rfl (Nat.le_of_ble_eq_true rfl) (by decide +kernel : decode cX10_habit 22 = .ok (.invokestatic 64, 3)) (mt_PV_isWithin _ _ _ _ _ h) ?_
  rintro _ g1 ⟨x2, rfl, h⟩
  refine j_if_ne hE (by decide +kernel : decode cX10_habit 25 = .ok (.ifCond .ne 5, 3)) (tgt := 30) (by decide) (fun q => ?_) (fun q => ?_)
  · replace h := h.1 q
    refine j_aload_n hE (by decide +kernel : decode cX10_habit 30 = .ok (.aload_n 0, 1)) rfl rfl ?_
    obtain ⟨hk, h⟩ := h
    obtain ⟨a3, ha, h⟩ := h
    refine j_getRn hE fg_X10_16 hk ha (by decide +kernel : decode cX10_habit 31 = .ok (.getfield 16, 3)) ?_
    refine j_iload_n hE (by decide +kernel : decode cX10_habit 34 = .ok (.iload_n 1, 1)) rfl rfl ?_
    refine j_iload_n hE (by decide +kernel : decode cX10_habit 35 = .ok (.iload_n 2, 1)) rfl rfl ?_
    refine j_iconst hE (by decide +kernel : decode cX10_habit 36 = .ok (.iconst 0, 1)) (v := (0 : Int32)) (by decide) ?_
    refine j_aload_n hE (by decide +kernel : decode cX10_habit 37 = .ok (.aload_n 0, 1)) rfl rfl ?_
    obtain ⟨hk, h⟩ := h
    refine j_getI hE fg_X10_68 hk (by decide +kernel : decode cX10_habit 38 = .ok (.getfield 68, 3)) ?_
    obtain ⟨hk, h⟩ := h
    refine j_callV hE rfl cl_X10_246 cf_5 im_X4_doublesOf se_X4_doublesOf ⟨by omega, by omega⟩ (As := [.int l1, .int l2, .int (0 : Int32), .int (Gi g1 1408 l0)]) (rest := []) rfl rfl (Nat.le_of_ble_eq_true rfl) hk (by decide +kernel : decode cX10_habit 41 = .ok (.invokevirtual 246, 3)) (mt_Po_doublesOf _ _ _ _ _ _ _ h) ?_
    rintro _ g4 ⟨x5, rfl, h⟩
    refine j_istore hE (by decide +kernel : decode cX10_habit 44 = .ok (.istore 4, 2)) (Nat.le_of_ble_eq_true rfl) rfl ?_
    refine j_iload_n hE (by decide +kernel : decode cX10_habit 46 = .ok (.iload_n 3, 1)) rfl rfl ?_
    refine j_if_ne hE (by decide +kernel : decode cX10_habit 47 = .ok (.ifCond .ne 6, 3)) (tgt := 53) (by decide) (fun q => ?_) (fun q => ?_)
    · replace h := h.1 q
      refine j_iload hE (by decide +kernel : decode cX10_habit 53 = .ok (.iload 4, 2)) rfl ?_
      refine j_aload_n hE (by decide +kernel : decode cX10_habit 55 = .ok (.aload_n 0, 1)) rfl rfl ?_
      obtain ⟨hk, h⟩ := h
      refine j_getI hE fg_X10_9 hk (by decide +kernel : decode cX10_habit 56 = .ok (.getfield 9, 3)) ?_
      refine j_icmp_ge hE (by decide +kernel : decode cX10_habit 59 = .ok (.if_icmp .ge 8, 3)) (tgt := 67) (by decide) (fun q => ?_) (fun q => ?_)
      · replace h := h.1 q
        refine j_aload_n hE (by decide +kernel : decode cX10_habit 67 = .ok (.aload_n 0, 1)) rfl rfl ?_
        obtain ⟨hk, h⟩ := h
        obtain ⟨a6, ha, h⟩ := h
        refine j_getRn hE fg_X10_16 hk ha (by decide +kernel : decode cX10_habit 68 = .ok (.getfield 16, 3)) ?_
        refine j_iload_n hE (by decide +kernel : decode cX10_habit 71 = .ok (.iload_n 1, 1)) rfl rfl ?_
        refine j_iload_n hE (by decide +kernel : decode cX10_habit 72 = .ok (.iload_n 2, 1)) rfl rfl ?_
        refine j_iload_n hE (by decide +kernel : decode cX10_habit 73 = .ok (.iload_n 3, 1)) rfl rfl ?_
        refine j_aload_n hE (by decide +kernel : decode cX10_habit 74 = .ok (.aload_n 0, 1)) rfl rfl ?_
        obtain ⟨hk, h⟩ := h
        refine j_getI hE fg_X10_68 hk (by decide +kernel : decode cX10_habit 75 = .ok (.getfield 68, 3)) ?_
        obtain ⟨hk, h⟩ := h
        refine j_callV hE rfl cl_X10_246 cf_5 im_X4_doublesOf se_X4_doublesOf ⟨by omega, by omega⟩ (As := [.int l1, .int l2, .int l3, .int (Gi g4 1408 l0)]) (rest := []) rfl rfl (Nat.le_of_ble_eq_true rfl) hk (by decide +kernel : decode cX10_habit 78 = .ok (.invokevirtual 246, 3)) (mt_Po_doublesOf _ _ _ _ _ _ _ h) ?_
        rintro _ g7 ⟨x8, rfl, h⟩
        refine j_weak [none, none, none, none, none] trivial ?_
        exact S_PV_habit_81 hE _ _ h
      · replace h := h.2 q
        refine j_bipush hE (by decide +kernel : decode cX10_habit 62 = .ok (.bipush (-2), 2)) (v := (-2 : Int32)) (by decide) ?_
        refine j_goto hE (by decide +kernel : decode cX10_habit 64 = .ok (.goto 17, 3)) (tgt := 81) (by decide) ?_
        refine j_weak [none, none, none, none, none] trivial ?_
        exact S_PV_habit_81 hE _ _ h
    · replace h := h.2 q
      refine j_iload hE (by decide +kernel : decode cX10_habit 50 = .ok (.iload 4, 2)) rfl ?_
      exact j_iret hE (by decide +kernel : decode cX10_habit 52 = .ok (.ireturn, 1)) ⟨_, rfl, h⟩
  · replace h := h.2 q
    refine j_weak [none, none, none, none, none] trivial ?_
    exact S_PV_habit_28 hE _ h
set_option maxRecDepth 100000 in
def B_PV_habit_0 (Γ : GAM) (K : Int32 → GH → Prop) (th : Nat) (p0 : Int32) (p1 : Int32) (p2 : Int32) (g : GH) : Prop :=
  Sp_PV_isHand Γ p0 g (fun (x2 : Int32) (g1 : GH) => ((x2 = 0 → B_PV_habit_28 Γ K g1) ∧ (¬ (x2 = 0) → ((p1 = (-1 : Int32) → B_PV_habit_19 Γ K th p0 p1 p2 g1) ∧ (¬ (p1 = (-1 : Int32)) → Sp_PV_isStreet Γ p1 g1 (fun (x4 : Int32) (g3 : GH) => ((x4 = 0 → B_PV_habit_28 Γ K g3) ∧ (¬ (x4 = 0) → B_PV_habit_19 Γ K th p0 p1 p2 g3))))))))
set_option maxHeartbeats 4000000 in
set_option maxRecDepth 100000 in
theorem S_PV_habit_0 {Γ : GAM} {E : EV} {K : Int32 → GH → Prop} (hE : GE Γ E cX10_habit 5 RX10 (some (.int)) 5 114 (fun r g' => ∃ x, r = some (.int x) ∧ K x g')) (th : Nat) (p0 : Int32) (p1 : Int32) (p2 : Int32) (g : GH) (h : B_PV_habit_0 Γ K th p0 p1 p2 g) : JW Γ E 0 [some (.ref th), some (.int p0), some (.int p1), some (.int p2), none] [] g := by
  unfold B_PV_habit_0 at h
  refine j_iload_n hE (by decide +kernel : decode cX10_habit 0 = .ok (.iload_n 1, 1)) rfl rfl ?_
  refine j_callS hE rfl cl_X10_163 st_X10_isHand ⟨by omega, by omega⟩ (As := [.int p0]) (rest := []) rfl rfl (Nat.le_of_ble_eq_true rfl) (by decide +kernel : decode cX10_habit 1 = .ok (.invokestatic 163, 3)) (mt_PV_isHand _ _ _ h) ?_
  rintro _ g1 ⟨x2, rfl, h⟩
  refine j_if_eq hE (by decide +kernel : decode cX10_habit 4 = .ok (.ifCond .eq 24, 3)) (tgt := 28) (by decide) (fun q => ?_) (fun q => ?_)
  · replace h := h.1 q
    refine j_weak [none, none, none, none, none] trivial ?_
    exact S_PV_habit_28 hE _ h
  · replace h := h.2 q
    refine j_iload_n hE (by decide +kernel : decode cX10_habit 7 = .ok (.iload_n 2, 1)) rfl rfl ?_
    refine j_iconst hE (by decide +kernel : decode cX10_habit 8 = .ok (.iconst (-1), 1)) (v := (-1 : Int32)) (by decide) ?_
    refine j_icmp_eq hE (by decide +kernel : decode cX10_habit 9 = .ok (.if_icmp .eq 10, 3)) (tgt := 19) (by decide) (fun q => ?_) (fun q => ?_)
    · replace h := h.1 q
      exact S_PV_habit_19 hE _ _ _ _ _ h
    · replace h := h.2 q
      refine j_iload_n hE (by decide +kernel : decode cX10_habit 12 = .ok (.iload_n 2, 1)) rfl rfl ?_
      refine j_callS hE rfl cl_X10_75 st_X10_isStreet ⟨by omega, by omega⟩ (As := [.int p1]) (rest := []) rfl rfl (Nat.le_of_ble_eq_true rfl) (by decide +kernel : decode cX10_habit 13 = .ok (.invokestatic 75, 3)) (mt_PV_isStreet _ _ _ h) ?_
      rintro _ g3 ⟨x4, rfl, h⟩
      refine j_if_eq hE (by decide +kernel : decode cX10_habit 16 = .ok (.ifCond .eq 12, 3)) (tgt := 28) (by decide) (fun q => ?_) (fun q => ?_)
      · replace h := h.1 q
        refine j_weak [none, none, none, none, none] trivial ?_
        exact S_PV_habit_28 hE _ h
      · replace h := h.2 q
        exact S_PV_habit_19 hE _ _ _ _ _ h
set_option maxHeartbeats 4000000 in
set_option maxRecDepth 100000 in
theorem rl_PV_habit {Γ : GAM} {l : Launch} {th : Nat} {p0 : Int32} {p1 : Int32} {p2 : Int32} {g : GH} {K : Int32 → GH → Prop} (h0 : B_PV_habit_0 Γ K th p0 p1 p2 g) : MetA Γ l yX10_habit cX10_habit 5 (some (.int)) 5 114 [.ref th, .int p0, .int p1, .int p2] g (fun r g' => ∃ x, r = some (.int x) ∧ K x g') := by
  refine MetA.introL (Lx := [some (.ref th), some (.int p0), some (.int p1), some (.int p2), none]) (by decide) (Nat.le_of_ble_eq_true rfl) rfl rfl ?_
  intro E hEl hE hnm
  exact S_PV_habit_0 hE th p0 p1 p2 g h0
theorem mt_PV_habit {Γ : GAM} {l : Launch} (th : Nat) (p0 : Int32) (p1 : Int32) (p2 : Int32) (g : GH) (K : Int32 → GH → Prop) (h : Sp_PV_habit Γ th p0 p1 p2 g K) : MetA Γ l yX10_habit cX10_habit 5 (some (.int)) 5 114 [.ref th, .int p0, .int p1, .int p2] g (fun r g' => ∃ x, r = some (.int x) ∧ K x g') := by
  obtain ⟨C, s, n, rfl, hI, hW, hR, hK⟩ := PVC.e h
  have he := hI.en
  obtain ⟨hkd, ⟨h1, h2⟩, -, -, -, -, hnow, hsiz⟩ := hI.pk
  have hP := hI.2.2.2.2.2.2.1
  have hlen := hW.len
  unfold p_habit at hK
  refine rl_PV_habit ?_
  have hno : ¬ ok_habit p0 p1 p2 → K (-1) g := fun u => hK C g _ _ (if_neg u) rfl (FrC.rf he) rfl hI hR.dn
  have h19 : (0 ≤ p0 ∧ p0 ≤ 5) → (-1 ≤ p1 ∧ p1 ≤ 9) → B_PV_habit_19 Γ K (c_x C) p0 p1 p2 g := fun a b => by
    unfold B_PV_habit_19 B_PV_habit_28 B_PV_habit_81
    refine pv_ite' (fun u => hno (fun z => u z.2.2)) (fun u => ⟨hkd, _, h1, hkd, h2, c_D C, s, rfl, hP, hW, hnow, a, ⟨by decide, by decide⟩, fun g4 hF4 => ?_⟩)
    have ok : ok_habit p0 p1 p2 := ⟨a, b, u⟩
    obtain ⟨hI4, hFc4⟩ := hF4.c hI
    obtain ⟨kkd, ⟨k1, k2⟩, -, -, -, -, know, ksiz⟩ := hI4.pk
    have e0 : trC (sMt s p0 p1) 0 = (sMt s p0 p1).1 := by unfold trC; rw [if_pos rfl]
    rw [e0]
    refine ⟨fun u2 => ⟨kkd, ?_⟩, fun u2 => ?_⟩
    · rw [ksiz]
      refine ⟨fun u3 => ⟨kkd, _, k1, kkd, k2, c_D C, s, rfl, hI4.2.2.2.2.2.2.1, hW, know, a, u, fun g7 hF7 => ?_⟩, fun u3 => ?_⟩
      · obtain ⟨hI7, hFc7⟩ := (hF4.tr hF7).c hI
        have hr := hK C g7 _ _ (if_pos ok) rfl hFc7 rfl hI7 (hR.fc (hF4.tr hF7).1)
        rw [if_neg u2, if_pos u3] at hr
        unfold trC
        rw [if_neg u2]
        exact hr
      · have hr := hK C g4 _ _ (if_pos ok) rfl hFc4 rfl hI4 (hR.fc hF4.1)
        rw [if_neg u2, if_neg u3] at hr
        exact hr
    · have hr := hK C g4 _ _ (if_pos ok) rfl hFc4 rfl hI4 (hR.fc hF4.1)
      rw [if_pos u2] at hr
      exact hr
  unfold B_PV_habit_0 B_PV_habit_28
  refine pv_ite (fun u => hno (fun z => u z.1)) (fun u => ⟨fun u2 => h19 u (m1_9.mpr (.inl u2)), fun u2 => pv_ite (fun u3 => hno (fun z => (m1_9.mp z.2.1).elim u2 u3)) (fun u3 => h19 u (m1_9.mpr (.inr u3)))⟩)
def Sp_PV_harshest (Γ : GAM) (x : Nat) (g : GH) (K : Int32 → GH → Prop) : Prop := PVC Γ x g K (fun s => p_harshest s) (fun s => s)
-- the walk of PV_harshest
set_option maxRecDepth 100000 in
def B_PV_harshest_84 (Γ : GAM) (K9 : Nat → Int32 → Int32 → Int32 → Int32 → GH → Prop) (K : Int32 → GH → Prop) (l0 : Nat) (l1 : Int32) (l2 : Int32) (l3 : Int32) (l4 : Int32) (g : GH) : Prop :=
  K9 l0 l1 l2 l3 (l4 + (1 : Int32)) g
set_option maxHeartbeats 4000000 in
set_option maxRecDepth 100000 in
theorem S_PV_harshest_84 {Γ : GAM} {E : EV} {K : Int32 → GH → Prop} (hE : GE Γ E cX10_harshest 7 RX10 (some (.int)) 5 114 (fun r g' => ∃ x, r = some (.int x) ∧ K x g')) {K9 : Nat → Int32 → Int32 → Int32 → Int32 → GH → Prop} (hK9 : ∀ (l0 : Nat) (l1 : Int32) (l2 : Int32) (l3 : Int32) (l4 : Int32) (g : GH), K9 l0 l1 l2 l3 l4 g → JW Γ E 9 [some (.ref l0), some (.int l1), some (.int l2), some (.int l3), some (.int l4), none, none] [] g) (l0 : Nat) (l1 : Int32) (l2 : Int32) (l3 : Int32) (l4 : Int32) (g : GH) (h : B_PV_harshest_84 Γ K9 K l0 l1 l2 l3 l4 g) : JW Γ E 84 [some (.ref l0), some (.int l1), some (.int l2), some (.int l3), some (.int l4), none, none] [] g := by
  unfold B_PV_harshest_84 at h
  refine j_iinc hE (by decide +kernel : decode cX10_harshest 84 = .ok (.iinc 4 1, 3)) (v := (1 : Int32)) (by decide) rfl (Nat.le_of_ble_eq_true rfl) rfl ?_
  refine j_goto hE (by decide +kernel : decode cX10_harshest 87 = .ok (.goto (-78), 3)) (tgt := 9) (by decide) ?_
  exact hK9 _ _ _ _ _ _ h
set_option maxRecDepth 100000 in
def B_PV_harshest_75 (Γ : GAM) (K9 : Nat → Int32 → Int32 → Int32 → Int32 → GH → Prop) (K : Int32 → GH → Prop) (l0 : Nat) (l4 : Int32) (l5 : Int32) (l6 : Int32) (g : GH) : Prop :=
  B_PV_harshest_84 Γ K9 K l0 l4 l6 l5 l4 g
set_option maxHeartbeats 4000000 in
set_option maxRecDepth 100000 in
theorem S_PV_harshest_75 {Γ : GAM} {E : EV} {K : Int32 → GH → Prop} (hE : GE Γ E cX10_harshest 7 RX10 (some (.int)) 5 114 (fun r g' => ∃ x, r = some (.int x) ∧ K x g')) {K9 : Nat → Int32 → Int32 → Int32 → Int32 → GH → Prop} (hK9 : ∀ (l0 : Nat) (l1 : Int32) (l2 : Int32) (l3 : Int32) (l4 : Int32) (g : GH), K9 l0 l1 l2 l3 l4 g → JW Γ E 9 [some (.ref l0), some (.int l1), some (.int l2), some (.int l3), some (.int l4), none, none] [] g) (l0 : Nat) (l4 : Int32) (l5 : Int32) (l6 : Int32) (g : GH) (h : B_PV_harshest_75 Γ K9 K l0 l4 l5 l6 g) : JW Γ E 75 [some (.ref l0), none, none, none, some (.int l4), some (.int l5), some (.int l6)] [] g := by
  unfold B_PV_harshest_75 at h
  refine j_iload hE (by decide +kernel : decode cX10_harshest 75 = .ok (.iload 4, 2)) rfl ?_
  refine j_istore_n hE (by decide +kernel : decode cX10_harshest 77 = .ok (.istore_n 1, 1)) rfl (Nat.le_of_ble_eq_true rfl) rfl ?_
  refine j_iload hE (by decide +kernel : decode cX10_harshest 78 = .ok (.iload 6, 2)) rfl ?_
  refine j_istore_n hE (by decide +kernel : decode cX10_harshest 80 = .ok (.istore_n 2, 1)) rfl (Nat.le_of_ble_eq_true rfl) rfl ?_
  refine j_iload hE (by decide +kernel : decode cX10_harshest 81 = .ok (.iload 5, 2)) rfl ?_
  refine j_istore_n hE (by decide +kernel : decode cX10_harshest 83 = .ok (.istore_n 3, 1)) rfl (Nat.le_of_ble_eq_true rfl) rfl ?_
  refine j_weak [some (.ref l0), some (.int l4), some (.int l6), some (.int l5), some (.int l4), none, none] ⟨rfl, ⟨rfl, ⟨rfl, ⟨rfl, ⟨rfl, trivial⟩⟩⟩⟩⟩ ?_
  exact S_PV_harshest_84 hE hK9 _ _ _ _ _ _ h
set_option maxRecDepth 100000 in
def B_PV_harshest_9 (Γ : GAM) (K9 : Nat → Int32 → Int32 → Int32 → Int32 → GH → Prop) (K : Int32 → GH → Prop) (l0 : Nat) (l1 : Int32) (l2 : Int32) (l3 : Int32) (l4 : Int32) (g : GH) : Prop :=
  (((6 : Int32) ≤ l4 → K l1 g) ∧ (¬ ((6 : Int32) ≤ l4) → Kd g l0 = 12 ∧ ∃ a1 : Nat, Gr g 1410 l0 = some a1 ∧ Kd g l0 = 12 ∧ Kd g a1 = 6 ∧ Sp_Po_doublesOf Γ a1 l4 (-1 : Int32) (0 : Int32) (Gi g 1408 l0) g (fun (x3 : Int32) (g2 : GH) => Kd g2 l0 = 12 ∧ ∃ a4 : Nat, Gr g2 1410 l0 = some a4 ∧ Kd g2 l0 = 12 ∧ Kd g2 a4 = 6 ∧ Sp_Po_doublesOf Γ a4 l4 (-1 : Int32) (1 : Int32) (Gi g2 1408 l0) g2 (fun (x6 : Int32) (g5 : GH) => Kd g5 l0 = 12 ∧ ((x3 < (Gi g5 1409 l0) → B_PV_harshest_84 Γ K9 K l0 l1 l2 l3 l4 g5) ∧ (¬ (x3 < (Gi g5 1409 l0)) → ((l1 = (-1 : Int32) → B_PV_harshest_75 Γ K9 K l0 l4 x3 x6 g5) ∧ (¬ (l1 = (-1 : Int32)) → (((x6 * l3) ≤ (l2 * x3) → B_PV_harshest_84 Γ K9 K l0 l1 l2 l3 l4 g5) ∧ (¬ ((x6 * l3) ≤ (l2 * x3)) → B_PV_harshest_75 Γ K9 K l0 l4 x3 x6 g5))))))))))
set_option maxHeartbeats 4000000 in
set_option maxRecDepth 100000 in
theorem S_PV_harshest_9 {Γ : GAM} {E : EV} {K : Int32 → GH → Prop} (hE : GE Γ E cX10_harshest 7 RX10 (some (.int)) 5 114 (fun r g' => ∃ x, r = some (.int x) ∧ K x g')) {K9 : Nat → Int32 → Int32 → Int32 → Int32 → GH → Prop} (hK9 : ∀ (l0 : Nat) (l1 : Int32) (l2 : Int32) (l3 : Int32) (l4 : Int32) (g : GH), K9 l0 l1 l2 l3 l4 g → JW Γ E 9 [some (.ref l0), some (.int l1), some (.int l2), some (.int l3), some (.int l4), none, none] [] g) (l0 : Nat) (l1 : Int32) (l2 : Int32) (l3 : Int32) (l4 : Int32) (g : GH) (h : B_PV_harshest_9 Γ K9 K l0 l1 l2 l3 l4 g) : JW Γ E 9 [some (.ref l0), some (.int l1), some (.int l2), some (.int l3), some (.int l4), none, none] [] g := by
  unfold B_PV_harshest_9 at h
  refine j_iload hE (by decide +kernel : decode cX10_harshest 9 = .ok (.iload 4, 2)) rfl ?_
  refine j_bipush hE (by decide +kernel : decode cX10_harshest 11 = .ok (.bipush 6, 2)) (v := (6 : Int32)) (by decide) ?_
  refine j_icmp_ge hE (by decide +kernel : decode cX10_harshest 13 = .ok (.if_icmp .ge 77, 3)) (tgt := 90) (by decide) (fun q => ?_) (fun q => ?_)
  · replace h := h.1 q
    refine j_iload_n hE (by decide +kernel : decode cX10_harshest 90 = .ok (.iload_n 1, 1)) rfl rfl ?_
    exact j_iret hE (by decide +kernel : decode cX10_harshest 91 = .ok (.ireturn, 1)) ⟨_, rfl, h⟩
  · replace h := h.2 q
    refine j_aload_n hE (by decide +kernel : decode cX10_harshest 16 = .ok (.aload_n 0, 1)) rfl rfl ?_
    obtain ⟨hk, h⟩ := h
    obtain ⟨a1, ha, h⟩ := h
    refine j_getRn hE fg_X10_16 hk ha (by decide +kernel : decode cX10_harshest 17 = .ok (.getfield 16, 3)) ?_
    refine j_iload hE (by decide +kernel : decode cX10_harshest 20 = .ok (.iload 4, 2)) rfl ?_
    refine j_iconst hE (by decide +kernel : decode cX10_harshest 22 = .ok (.iconst (-1), 1)) (v := (-1 : Int32)) (by decide) ?_
    refine j_iconst hE (by decide +kernel : decode cX10_harshest 23 = .ok (.iconst 0, 1)) (v := (0 : Int32)) (by decide) ?_
    refine j_aload_n hE (by decide +kernel : decode cX10_harshest 24 = .ok (.aload_n 0, 1)) rfl rfl ?_
    obtain ⟨hk, h⟩ := h
    refine j_getI hE fg_X10_68 hk (by decide +kernel : decode cX10_harshest 25 = .ok (.getfield 68, 3)) ?_
    obtain ⟨hk, h⟩ := h
    refine j_callV hE rfl cl_X10_246 cf_5 im_X4_doublesOf se_X4_doublesOf ⟨by omega, by omega⟩ (As := [.int l4, .int (-1 : Int32), .int (0 : Int32), .int (Gi g 1408 l0)]) (rest := []) rfl rfl (Nat.le_of_ble_eq_true rfl) hk (by decide +kernel : decode cX10_harshest 28 = .ok (.invokevirtual 246, 3)) (mt_Po_doublesOf _ _ _ _ _ _ _ h) ?_
    rintro _ g2 ⟨x3, rfl, h⟩
    refine j_istore hE (by decide +kernel : decode cX10_harshest 31 = .ok (.istore 5, 2)) (Nat.le_of_ble_eq_true rfl) rfl ?_
    refine j_aload_n hE (by decide +kernel : decode cX10_harshest 33 = .ok (.aload_n 0, 1)) rfl rfl ?_
    obtain ⟨hk, h⟩ := h
    obtain ⟨a4, ha, h⟩ := h
    refine j_getRn hE fg_X10_16 hk ha (by decide +kernel : decode cX10_harshest 34 = .ok (.getfield 16, 3)) ?_
    refine j_iload hE (by decide +kernel : decode cX10_harshest 37 = .ok (.iload 4, 2)) rfl ?_
    refine j_iconst hE (by decide +kernel : decode cX10_harshest 39 = .ok (.iconst (-1), 1)) (v := (-1 : Int32)) (by decide) ?_
    refine j_iconst hE (by decide +kernel : decode cX10_harshest 40 = .ok (.iconst 1, 1)) (v := (1 : Int32)) (by decide) ?_
    refine j_aload_n hE (by decide +kernel : decode cX10_harshest 41 = .ok (.aload_n 0, 1)) rfl rfl ?_
    obtain ⟨hk, h⟩ := h
    refine j_getI hE fg_X10_68 hk (by decide +kernel : decode cX10_harshest 42 = .ok (.getfield 68, 3)) ?_
    obtain ⟨hk, h⟩ := h
    refine j_callV hE rfl cl_X10_246 cf_5 im_X4_doublesOf se_X4_doublesOf ⟨by omega, by omega⟩ (As := [.int l4, .int (-1 : Int32), .int (1 : Int32), .int (Gi g2 1408 l0)]) (rest := []) rfl rfl (Nat.le_of_ble_eq_true rfl) hk (by decide +kernel : decode cX10_harshest 45 = .ok (.invokevirtual 246, 3)) (mt_Po_doublesOf _ _ _ _ _ _ _ h) ?_
    rintro _ g5 ⟨x6, rfl, h⟩
    refine j_istore hE (by decide +kernel : decode cX10_harshest 48 = .ok (.istore 6, 2)) (Nat.le_of_ble_eq_true rfl) rfl ?_
    refine j_iload hE (by decide +kernel : decode cX10_harshest 50 = .ok (.iload 5, 2)) rfl ?_
    refine j_aload_n hE (by decide +kernel : decode cX10_harshest 52 = .ok (.aload_n 0, 1)) rfl rfl ?_
    obtain ⟨hk, h⟩ := h
    refine j_getI hE fg_X10_9 hk (by decide +kernel : decode cX10_harshest 53 = .ok (.getfield 9, 3)) ?_
    refine j_icmp_lt hE (by decide +kernel : decode cX10_harshest 56 = .ok (.if_icmp .lt 28, 3)) (tgt := 84) (by decide) (fun q => ?_) (fun q => ?_)
    · replace h := h.1 q
      refine j_weak [some (.ref l0), some (.int l1), some (.int l2), some (.int l3), some (.int l4), none, none] ⟨rfl, ⟨rfl, ⟨rfl, ⟨rfl, ⟨rfl, trivial⟩⟩⟩⟩⟩ ?_
      exact S_PV_harshest_84 hE hK9 _ _ _ _ _ _ h
    · replace h := h.2 q
      refine j_iload_n hE (by decide +kernel : decode cX10_harshest 59 = .ok (.iload_n 1, 1)) rfl rfl ?_
      refine j_iconst hE (by decide +kernel : decode cX10_harshest 60 = .ok (.iconst (-1), 1)) (v := (-1 : Int32)) (by decide) ?_
      refine j_icmp_eq hE (by decide +kernel : decode cX10_harshest 61 = .ok (.if_icmp .eq 14, 3)) (tgt := 75) (by decide) (fun q => ?_) (fun q => ?_)
      · replace h := h.1 q
        refine j_weak [some (.ref l0), none, none, none, some (.int l4), some (.int x3), some (.int x6)] ⟨rfl, ⟨rfl, ⟨rfl, ⟨rfl, trivial⟩⟩⟩⟩ ?_
        exact S_PV_harshest_75 hE hK9 _ _ _ _ _ h
      · replace h := h.2 q
        refine j_iload hE (by decide +kernel : decode cX10_harshest 64 = .ok (.iload 6, 2)) rfl ?_
        refine j_iload_n hE (by decide +kernel : decode cX10_harshest 66 = .ok (.iload_n 3, 1)) rfl rfl ?_
        refine j_imul hE (by decide +kernel : decode cX10_harshest 67 = .ok (.imul, 1)) ?_
        refine j_iload_n hE (by decide +kernel : decode cX10_harshest 68 = .ok (.iload_n 2, 1)) rfl rfl ?_
        refine j_iload hE (by decide +kernel : decode cX10_harshest 69 = .ok (.iload 5, 2)) rfl ?_
        refine j_imul hE (by decide +kernel : decode cX10_harshest 71 = .ok (.imul, 1)) ?_
        refine j_icmp_le hE (by decide +kernel : decode cX10_harshest 72 = .ok (.if_icmp .le 12, 3)) (tgt := 84) (by decide) (fun q => ?_) (fun q => ?_)
        · replace h := h.1 q
          refine j_weak [some (.ref l0), some (.int l1), some (.int l2), some (.int l3), some (.int l4), none, none] ⟨rfl, ⟨rfl, ⟨rfl, ⟨rfl, ⟨rfl, trivial⟩⟩⟩⟩⟩ ?_
          exact S_PV_harshest_84 hE hK9 _ _ _ _ _ _ h
        · replace h := h.2 q
          refine j_weak [some (.ref l0), none, none, none, some (.int l4), some (.int x3), some (.int x6)] ⟨rfl, ⟨rfl, ⟨rfl, ⟨rfl, trivial⟩⟩⟩⟩ ?_
          exact S_PV_harshest_75 hE hK9 _ _ _ _ _ h
set_option maxRecDepth 100000 in
def B_PV_harshest_0 (Γ : GAM) (K9 : Nat → Int32 → Int32 → Int32 → Int32 → GH → Prop) (K : Int32 → GH → Prop) (th : Nat) (g : GH) : Prop :=
  K9 th (-1 : Int32) (0 : Int32) (1 : Int32) (0 : Int32) g
set_option maxHeartbeats 4000000 in
set_option maxRecDepth 100000 in
theorem S_PV_harshest_0 {Γ : GAM} {E : EV} {K : Int32 → GH → Prop} (hE : GE Γ E cX10_harshest 7 RX10 (some (.int)) 5 114 (fun r g' => ∃ x, r = some (.int x) ∧ K x g')) {K9 : Nat → Int32 → Int32 → Int32 → Int32 → GH → Prop} (hK9 : ∀ (l0 : Nat) (l1 : Int32) (l2 : Int32) (l3 : Int32) (l4 : Int32) (g : GH), K9 l0 l1 l2 l3 l4 g → JW Γ E 9 [some (.ref l0), some (.int l1), some (.int l2), some (.int l3), some (.int l4), none, none] [] g) (th : Nat) (g : GH) (h : B_PV_harshest_0 Γ K9 K th g) : JW Γ E 0 [some (.ref th), none, none, none, none, none, none] [] g := by
  unfold B_PV_harshest_0 at h
  refine j_iconst hE (by decide +kernel : decode cX10_harshest 0 = .ok (.iconst (-1), 1)) (v := (-1 : Int32)) (by decide) ?_
  refine j_istore_n hE (by decide +kernel : decode cX10_harshest 1 = .ok (.istore_n 1, 1)) rfl (Nat.le_of_ble_eq_true rfl) rfl ?_
  refine j_iconst hE (by decide +kernel : decode cX10_harshest 2 = .ok (.iconst 0, 1)) (v := (0 : Int32)) (by decide) ?_
  refine j_istore_n hE (by decide +kernel : decode cX10_harshest 3 = .ok (.istore_n 2, 1)) rfl (Nat.le_of_ble_eq_true rfl) rfl ?_
  refine j_iconst hE (by decide +kernel : decode cX10_harshest 4 = .ok (.iconst 1, 1)) (v := (1 : Int32)) (by decide) ?_
  refine j_istore_n hE (by decide +kernel : decode cX10_harshest 5 = .ok (.istore_n 3, 1)) rfl (Nat.le_of_ble_eq_true rfl) rfl ?_
  refine j_iconst hE (by decide +kernel : decode cX10_harshest 6 = .ok (.iconst 0, 1)) (v := (0 : Int32)) (by decide) ?_
  refine j_istore hE (by decide +kernel : decode cX10_harshest 7 = .ok (.istore 4, 2)) (Nat.le_of_ble_eq_true rfl) rfl ?_
  exact hK9 _ _ _ _ _ _ h
set_option maxHeartbeats 4000000 in
set_option maxRecDepth 100000 in
theorem rl_PV_harshest {Γ : GAM} {l : Launch} {th : Nat} {g : GH} {K : Int32 → GH → Prop} (I9 : Nat → Nat → Int32 → Int32 → Int32 → Int32 → GH → Prop) (hh9 : ∀ n (l0 : Nat) (l1 : Int32) (l2 : Int32) (l3 : Int32) (l4 : Int32) (g : GH), I9 n l0 l1 l2 l3 l4 g → B_PV_harshest_9 Γ (fun l0 l1 l2 l3 l4 g => ∃ m, m < n ∧ I9 m l0 l1 l2 l3 l4 g) K l0 l1 l2 l3 l4 g) (h0 : B_PV_harshest_0 Γ (fun l0 l1 l2 l3 l4 g => ∃ m, I9 m l0 l1 l2 l3 l4 g) K th g) : MetA Γ l yX10_harshest cX10_harshest 7 (some (.int)) 5 114 [.ref th] g (fun r g' => ∃ x, r = some (.int x) ∧ K x g') := by
  refine MetA.introL (Lx := [some (.ref th), none, none, none, none, none, none]) (by decide) (Nat.le_of_ble_eq_true rfl) rfl rfl ?_
  intro E hEl hE hnm
  have hall : ∀ n, (∀ (l0 : Nat) (l1 : Int32) (l2 : Int32) (l3 : Int32) (l4 : Int32) (g : GH), I9 n l0 l1 l2 l3 l4 g → JW Γ E 9 [some (.ref l0), some (.int l1), some (.int l2), some (.int l3), some (.int l4), none, none] [] g) := by
    intro n
    induction n using Nat.strongRecOn with
    | ind n ih =>
      exact fun l0 l1 l2 l3 l4 g hi => S_PV_harshest_9 hE (fun l0 l1 l2 l3 l4 g hm => by obtain ⟨m, hm, h⟩ := hm; exact (ih m hm) l0 l1 l2 l3 l4 g h) l0 l1 l2 l3 l4 g (hh9 n l0 l1 l2 l3 l4 g hi)
  exact S_PV_harshest_0 hE (fun l0 l1 l2 l3 l4 g hm => by obtain ⟨m, h⟩ := hm; exact (hall m) l0 l1 l2 l3 l4 g h) th g h0
theorem mt_PV_harshest {Γ : GAM} {l : Launch} (th : Nat) (g : GH) (K : Int32 → GH → Prop) (h : Sp_PV_harshest Γ th g K) : MetA Γ l yX10_harshest cX10_harshest 7 (some (.int)) 5 114 [.ref th] g (fun r g' => ∃ x, r = some (.int x) ∧ K x g') := by
  obtain ⟨C, s, n, rfl, hI, hW, hR, hK⟩ := PVC.e h
  have he := hI.en
  obtain ⟨hkd, ⟨h1, h2⟩, -, -, -, -, hnow, hsiz⟩ := hI.pk
  have hP := hI.2.2.2.2.2.2.1
  have hlen := hW.len
  refine rl_PV_harshest (fun n l0 l1 l2 l3 l4 g' => c_x C = l0 ∧ ∃ k, k ≤ 6 ∧ n = 6 - k ∧ l4 = nI k ∧ FK Γ (c_D C) g g' ∧ (l1, l2, l3) = ((List.range 6).take k).foldl (hrS s) (-1, 0, 1)) ?_ ⟨_, rfl, 0, Nat.zero_le _, rfl, nj_0, FK.rf he, rfl⟩
  rintro n l0 l1 l2 l3 l4 g' ⟨rfl, k, hk, rfl, rfl, hF, ha⟩
  obtain ⟨hI', hFc⟩ := hF.c hI
  obtain ⟨kkd, ⟨k1, k2⟩, -, -, -, -, know, ksiz⟩ := hI'.pk
  suffices H : ∀ (K9 : Nat → Int32 → Int32 → Int32 → Int32 → GH → Prop), (∀ a b c g2, k < 6 → FK Γ (c_D C) g g2 → (a, b, c) = hrS s (l1, l2, l3) k → K9 (c_x C) a b c (nI (k + 1)) g2) → B_PV_harshest_9 Γ K9 K (c_x C) l1 l2 l3 (nI k) g' from
    H _ (fun a b c g2 hlt h1 h2 => ⟨6 - (k + 1), by omega, rfl, k + 1, hlt, rfl, rfl, h1, by rw [fold_take _ _ _ (range_get hlt), ← ha]; exact h2⟩)
  intro K9 hn
  unfold B_PV_harshest_9
  rw [show ((6 : Int32) ≤ nI k) ↔ 6 ≤ k from nj_le (a := 6) (by omega) (by omega)]
  refine ⟨fun u => ?_, fun u => ⟨kkd, _, k1, kkd, k2, c_D C, s, rfl, hI'.2.2.2.2.2.2.1, hW, know, ⟨nj_nneg (by omega), (nj_le (b := 5) (by omega) (by omega)).mpr (by omega)⟩, ⟨by decide, by decide⟩, fun g2 hF2 => ?_⟩⟩
  · have hz : (List.range 6).take k = List.range 6 := List.take_of_length_le (by simp; omega)
    rw [hz] at ha
    have hr := hK C g' _ _ rfl rfl hFc rfl hI' (hR.fc hF.1)
    unfold p_harshest at hr
    rw [← ha] at hr
    exact hr
  · have hlt : k < 6 := by omega
    have hFa := hF.tr hF2
    obtain ⟨hI2, -⟩ := hFa.c hI
    obtain ⟨nkd, ⟨n1, n2⟩, -, -, -, -, nnow, nsiz⟩ := hI2.pk
    refine ⟨nkd, _, n1, nkd, n2, c_D C, s, rfl, hI2.2.2.2.2.2.2.1, hW, nnow, ⟨nj_nneg (by omega), (nj_le (b := 5) (by omega) (by omega)).mpr (by omega)⟩, ⟨by decide, by decide⟩, fun g5 hF5 => ?_⟩
    have hFb := hFa.tr hF5
    obtain ⟨hI5, -⟩ := hFb.c hI
    obtain ⟨okd, ⟨o1, o2⟩, -, -, -, -, onow, osiz⟩ := hI5.pk
    have e0 : trC (sMt s (nI k) (-1)) 0 = (sMt s (nI k) (-1)).1 := by unfold trC; rw [if_pos rfl]
    have e1 : trC (sMt s (nI k) (-1)) 1 = (sMt s (nI k) (-1)).2.1 := by unfold trC; rw [if_neg (by decide), if_pos rfl]
    refine ⟨okd, ?_⟩
    rw [e0, e1, osiz]
    unfold B_PV_harshest_84 B_PV_harshest_75 B_PV_harshest_84
    rw [nj_s]
    have hn' := fun a b c => hn a b c g5 hlt hFb
    unfold hrS at hn'
    refine ⟨fun u1 => ?_, fun u1 => ⟨fun u2 => ?_, fun u2 => ⟨fun u3 => ?_, fun u3 => ?_⟩⟩⟩
    · exact hn' _ _ _ (by rw [if_pos u1])
    · exact hn' _ _ _ (by rw [if_neg u1, if_pos u2])
    · exact hn' _ _ _ (by rw [if_neg u1, if_neg u2, if_pos u3])
    · exact hn' _ _ _ (by rw [if_neg u1, if_neg u2, if_neg u3])
theorem CH.sz {Γ : GAM} {C : CDR} {g : GH} {s : ST} (h : CH Γ C g s) {K : Int32 → GH → Prop} (hK : K (nI (s_hea s).length) g) : Sp_AL_size Γ (c_hl C) g K := by
  obtain ⟨a, b, c⟩ := h
  refine ⟨a.1.2, ?_⟩
  rw [a.2.1, b]; exact hK
theorem CH.get {Γ : GAM} {C : CDR} {g : GH} {s : ST} (h : CH Γ C g s) {k : Nat} (hk : k < (s_hea s).length) {K : Nat → GH → Prop} (hK : ∀ x y, (s_hea s)[k]? = some y → HpI x g y.1 y.2 (fun c => sHp s k (nI c)) (sHp s k 5) → K x g) : Sp_AL_get Γ (c_hl C) (nI k) g K := by
  obtain ⟨a, b, c⟩ := h
  obtain ⟨x, hx⟩ := get_lt (show k < (c_hs C).length by omega)
  obtain ⟨y, hy, hI⟩ := c k x hx
  exact ⟨_, k, x, a, rfl, hx, hK x y hy hI⟩
def Sp_PV_heap (Γ : GAM) (x : Nat) (p0 p1 : Int32) (g : GH) (K : Int32 → GH → Prop) : Prop := PVC Γ x g K (fun s => p_heap s p0 p1) (fun s => s)
-- the walk of PV_heap
set_option maxRecDepth 100000 in
def B_PV_heap_92 (Γ : GAM) (K : Int32 → GH → Prop) (s0 : Int32) (g : GH) : Prop :=
  K s0 g
set_option maxHeartbeats 4000000 in
set_option maxRecDepth 100000 in
theorem S_PV_heap_92 {Γ : GAM} {E : EV} {K : Int32 → GH → Prop} (hE : GE Γ E cX10_heap 4 RX10 (some (.int)) 3 64 (fun r g' => ∃ x, r = some (.int x) ∧ K x g')) (s0 : Int32) (g : GH) (h : B_PV_heap_92 Γ K s0 g) : JW Γ E 92 [none, none, none, none] [.int s0] g := by
  unfold B_PV_heap_92 at h
  exact j_iret hE (by decide +kernel : decode cX10_heap 92 = .ok (.ireturn, 1)) ⟨_, rfl, h⟩
set_option maxRecDepth 100000 in
def B_PV_heap_0 (Γ : GAM) (K : Int32 → GH → Prop) (th : Nat) (p0 : Int32) (p1 : Int32) (g : GH) : Prop :=
  Kd g th = 12 ∧ ∃ a1 : Nat, Gr g 1414 th = some a1 ∧ Kd g a1 = 1 ∧ Sp_AL_size Γ a1 g (fun (x3 : Int32) (g2 : GH) => Sp_PV_isWithin Γ p0 (0 : Int32) (x3 - (1 : Int32)) g2 (fun (x5 : Int32) (g4 : GH) => ((¬ (x5 = 0) → Kd g4 th = 12 ∧ ∃ a6 : Nat, Gr g4 1414 th = some a6 ∧ Kd g4 a6 = 1 ∧ Sp_AL_get Γ a6 p0 g4 (fun (a8 : Nat) (g7 : GH) => Kd g7 a8 = 3 ∧ ((p1 = (5 : Int32) → Kd g7 a8 = 3 ∧ K (Gi g7 259 a8) g7) ∧ (¬ (p1 = (5 : Int32)) → ((p1 = (6 : Int32) → Kd g7 a8 = 3 ∧ K (Gi g7 256 a8) g7) ∧ (¬ (p1 = (6 : Int32)) → ((p1 = (7 : Int32) → Kd g7 a8 = 3 ∧ K (Gi g7 257 a8) g7) ∧ (¬ (p1 = (7 : Int32)) → Sp_PV_isChoice Γ p1 g7 (fun (x10 : Int32) (g9 : GH) => ((x10 = 0 → B_PV_heap_92 Γ K (-1 : Int32) g9) ∧ (¬ (x10 = 0) → Kd g9 a8 = 3 ∧ ∃ a11 : Nat, Gr g9 258 a8 = some a11 ∧ Kd g9 a11 = 20 ∧ inB p1 (Ln g9 a11) ∧ B_PV_heap_92 Γ K (Ia g9 (Co g9 a11) (Ow g9 a11) p1.toNatClampNeg) g9))))))))))) ∧ (x5 = 0 → K (-1 : Int32) g4))))
set_option maxHeartbeats 4000000 in
set_option maxRecDepth 100000 in
theorem S_PV_heap_0 {Γ : GAM} {E : EV} {K : Int32 → GH → Prop} (hE : GE Γ E cX10_heap 4 RX10 (some (.int)) 3 64 (fun r g' => ∃ x, r = some (.int x) ∧ K x g')) (th : Nat) (p0 : Int32) (p1 : Int32) (g : GH) (h : B_PV_heap_0 Γ K th p0 p1 g) : JW Γ E 0 [some (.ref th), some (.int p0), some (.int p1), none] [] g := by
  unfold B_PV_heap_0 at h
  refine j_iload_n hE (by decide +kernel : decode cX10_heap 0 = .ok (.iload_n 1, 1)) rfl rfl ?_
  refine j_iconst hE (by decide +kernel : decode cX10_heap 1 = .ok (.iconst 0, 1)) (v := (0 : Int32)) (by decide) ?_
  refine j_aload_n hE (by decide +kernel : decode cX10_heap 2 = .ok (.aload_n 0, 1)) rfl rfl ?_
  obtain ⟨hk, h⟩ := h
  obtain ⟨a1, ha, h⟩ := h
  refine j_getRn hE fg_X10_44 hk ha (by decide +kernel : decode cX10_heap 3 = .ok (.getfield 44, 3)) ?_
  obtain ⟨hk, h⟩ := h
  refine j_callV hE rfl cl_X10_84 cf_0 im_Jx4a65c_size_8abf5 se_Jx4a65c_size_8abf5 ⟨by omega, by omega⟩ (As := []) (rest := [.int (0 : Int32), .int p0]) rfl rfl (Nat.le_of_ble_eq_true rfl) hk (by decide +kernel : decode cX10_heap 6 = .ok (.invokevirtual 84, 3)) (mt_AL_size _ _ _ h) ?_
  rintro _ g2 ⟨x3, rfl, h⟩
  refine j_iconst hE (by decide +kernel : decode cX10_heap 9 = .ok (.iconst 1, 1)) (v := (1 : Int32)) (by decide) ?_
  refine j_isub hE (by decide +kernel : decode cX10_heap 10 = .ok (.isub, 1)) ?_
  refine j_callS hE rfl cl_X10_64 st_X10_isWithin ⟨by omega, by omega⟩ (As := [.int p0, .int (0 : Int32), .int (x3 - (1 : Int32))]) (rest := []) rfl rfl (Nat.le_of_ble_eq_true rfl) (by decide +kernel : decode cX10_heap 11 = .ok (.invokestatic 64, 3)) (mt_PV_isWithin _ _ _ _ _ h) ?_
  rintro _ g4 ⟨x5, rfl, h⟩
  refine j_if_ne hE (by decide +kernel : decode cX10_heap 14 = .ok (.ifCond .ne 5, 3)) (tgt := 19) (by decide) (fun q => ?_) (fun q => ?_)
  · replace h := h.1 q
    refine j_aload_n hE (by decide +kernel : decode cX10_heap 19 = .ok (.aload_n 0, 1)) rfl rfl ?_
    obtain ⟨hk, h⟩ := h
    obtain ⟨a6, ha, h⟩ := h
    refine j_getRn hE fg_X10_44 hk ha (by decide +kernel : decode cX10_heap 20 = .ok (.getfield 44, 3)) ?_
    refine j_iload_n hE (by decide +kernel : decode cX10_heap 23 = .ok (.iload_n 1, 1)) rfl rfl ?_
    obtain ⟨hk, h⟩ := h
    refine j_callV hE rfl cl_X10_147 cf_0 im_Jx4a65c_get_915e3 se_Jx4a65c_get_915e3 ⟨by omega, by omega⟩ (As := [.int p0]) (rest := []) rfl rfl (Nat.le_of_ble_eq_true rfl) hk (by decide +kernel : decode cX10_heap 24 = .ok (.invokevirtual 147, 3)) (mt_AL_get _ _ _ _ h) ?_
    rintro _ g7 ⟨a8, rfl, h⟩
    obtain ⟨hk, h⟩ := h
    refine j_cast hE cf_2 ck_X10_327 hk (by decide +kernel : decode cX10_heap 27 = .ok (.checkcast 327, 3)) ?_
    refine j_astore_n hE (by decide +kernel : decode cX10_heap 30 = .ok (.astore_n 3, 1)) rfl (Nat.le_of_ble_eq_true rfl) rfl ?_
    refine j_iload_n hE (by decide +kernel : decode cX10_heap 31 = .ok (.iload_n 2, 1)) rfl rfl ?_
    by_cases q0 : p1 = (5 : Int32)
    · replace h := h.1 q0
      refine j_tableIn hE (by decide +kernel : decode cX10_heap 32 = .ok (.tableswitch 43 5 7 #[28, 33, 38], 28)) (by rw [q0]; decide) (by rw [q0]; decide) (off := 28) (by rw [q0]; decide) (tgt := 60) (by decide) ?_
      refine j_aload_n hE (by decide +kernel : decode cX10_heap 60 = .ok (.aload_n 3, 1)) rfl rfl ?_
      obtain ⟨hk, h⟩ := h
      refine j_getI hE fg_X10_336 hk (by decide +kernel : decode cX10_heap 61 = .ok (.getfield 336, 3)) ?_
      exact j_iret hE (by decide +kernel : decode cX10_heap 64 = .ok (.ireturn, 1)) ⟨_, rfl, h⟩
    · replace h := h.2 q0
      by_cases q1 : p1 = (6 : Int32)
      · replace h := h.1 q1
        refine j_tableIn hE (by decide +kernel : decode cX10_heap 32 = .ok (.tableswitch 43 5 7 #[28, 33, 38], 28)) (by rw [q1]; decide) (by rw [q1]; decide) (off := 33) (by rw [q1]; decide) (tgt := 65) (by decide) ?_
        refine j_aload_n hE (by decide +kernel : decode cX10_heap 65 = .ok (.aload_n 3, 1)) rfl rfl ?_
        obtain ⟨hk, h⟩ := h
        refine j_getI hE fg_X10_339 hk (by decide +kernel : decode cX10_heap 66 = .ok (.getfield 339, 3)) ?_
        exact j_iret hE (by decide +kernel : decode cX10_heap 69 = .ok (.ireturn, 1)) ⟨_, rfl, h⟩
      · replace h := h.2 q1
        by_cases q2 : p1 = (7 : Int32)
        · replace h := h.1 q2
          refine j_tableIn hE (by decide +kernel : decode cX10_heap 32 = .ok (.tableswitch 43 5 7 #[28, 33, 38], 28)) (by rw [q2]; decide) (by rw [q2]; decide) (off := 38) (by rw [q2]; decide) (tgt := 70) (by decide) ?_
          refine j_aload_n hE (by decide +kernel : decode cX10_heap 70 = .ok (.aload_n 3, 1)) rfl rfl ?_
          obtain ⟨hk, h⟩ := h
          refine j_getI hE fg_X10_342 hk (by decide +kernel : decode cX10_heap 71 = .ok (.getfield 342, 3)) ?_
          exact j_iret hE (by decide +kernel : decode cX10_heap 74 = .ok (.ireturn, 1)) ⟨_, rfl, h⟩
        · replace h := h.2 q2
          have hD : JW Γ E 75 [some (.ref th), some (.int p0), some (.int p1), some (.ref a8)] [] g7 := by
            refine j_iload_n hE (by decide +kernel : decode cX10_heap 75 = .ok (.iload_n 2, 1)) rfl rfl ?_
            refine j_callS hE rfl cl_X10_121 st_X10_isChoice ⟨by omega, by omega⟩ (As := [.int p1]) (rest := []) rfl rfl (Nat.le_of_ble_eq_true rfl) (by decide +kernel : decode cX10_heap 76 = .ok (.invokestatic 121, 3)) (mt_PV_isChoice _ _ _ h) ?_
            rintro _ g9 ⟨x10, rfl, h⟩
            refine j_if_eq hE (by decide +kernel : decode cX10_heap 79 = .ok (.ifCond .eq 12, 3)) (tgt := 91) (by decide) (fun q => ?_) (fun q => ?_)
            · replace h := h.1 q
              refine j_iconst hE (by decide +kernel : decode cX10_heap 91 = .ok (.iconst (-1), 1)) (v := (-1 : Int32)) (by decide) ?_
              refine j_weak [none, none, none, none] trivial ?_
              exact S_PV_heap_92 hE _ _ h
            · replace h := h.2 q
              refine j_aload_n hE (by decide +kernel : decode cX10_heap 82 = .ok (.aload_n 3, 1)) rfl rfl ?_
              obtain ⟨hk, h⟩ := h
              obtain ⟨a11, ha, h⟩ := h
              refine j_getRn hE fg_X10_345 hk ha (by decide +kernel : decode cX10_heap 83 = .ok (.getfield 345, 3)) ?_
              refine j_iload_n hE (by decide +kernel : decode cX10_heap 86 = .ok (.iload_n 2, 1)) rfl rfl ?_
              obtain ⟨hk, hb, h⟩ := h
              refine j_iald hE hk hb (by decide +kernel : decode cX10_heap 87 = .ok (.iaload, 1)) ?_
              refine j_goto hE (by decide +kernel : decode cX10_heap 88 = .ok (.goto 4, 3)) (tgt := 92) (by decide) ?_
              refine j_weak [none, none, none, none] trivial ?_
              exact S_PV_heap_92 hE _ _ h
          have qq : (p1).toInt < 5 ∨ 7 < (p1).toInt := by
            have z0 : ¬ (p1).toInt = 5 := fun e => q0 (Int32.toInt_inj.mp (e.trans (by decide)))
            have z1 : ¬ (p1).toInt = 6 := fun e => q1 (Int32.toInt_inj.mp (e.trans (by decide)))
            have z2 : ¬ (p1).toInt = 7 := fun e => q2 (Int32.toInt_inj.mp (e.trans (by decide)))
            omega
          exact j_tableOut hE (by decide +kernel : decode cX10_heap 32 = .ok (.tableswitch 43 5 7 #[28, 33, 38], 28)) qq (tgt := 75) (by decide) hD
  · replace h := h.2 q
    refine j_iconst hE (by decide +kernel : decode cX10_heap 17 = .ok (.iconst (-1), 1)) (v := (-1 : Int32)) (by decide) ?_
    exact j_iret hE (by decide +kernel : decode cX10_heap 18 = .ok (.ireturn, 1)) ⟨_, rfl, h⟩
set_option maxHeartbeats 4000000 in
set_option maxRecDepth 100000 in
theorem rl_PV_heap {Γ : GAM} {l : Launch} {th : Nat} {p0 : Int32} {p1 : Int32} {g : GH} {K : Int32 → GH → Prop} (h0 : B_PV_heap_0 Γ K th p0 p1 g) : MetA Γ l yX10_heap cX10_heap 4 (some (.int)) 3 64 [.ref th, .int p0, .int p1] g (fun r g' => ∃ x, r = some (.int x) ∧ K x g') := by
  refine MetA.introL (Lx := [some (.ref th), some (.int p0), some (.int p1), none]) (by decide) (Nat.le_of_ble_eq_true rfl) rfl rfl ?_
  intro E hEl hE hnm
  exact S_PV_heap_0 hE th p0 p1 g h0
theorem mt_PV_heap {Γ : GAM} {l : Launch} (th : Nat) (p0 : Int32) (p1 : Int32) (g : GH) (K : Int32 → GH → Prop) (h : Sp_PV_heap Γ th p0 p1 g K) : MetA Γ l yX10_heap cX10_heap 4 (some (.int)) 3 64 [.ref th, .int p0, .int p1] g (fun r g' => ∃ x, r = some (.int x) ∧ K x g') := by
  obtain ⟨C, s, n, rfl, hI, hW, hR, hK⟩ := PVC.e h
  have he := hI.en
  obtain ⟨hkd, ⟨h1, h2⟩, -, -, -, -, hnow, hsiz⟩ := hI.pk
  have hP := hI.2.2.2.2.2.2.1
  have hlen := hW.len
  obtain ⟨i1, i2⟩ := hI.pk.2.2.2.2.2.1
  have hCH := hI.2.2.2.2.2.1
  unfold p_heap at hK
  refine rl_PV_heap ?_
  have hno : ¬ ok_heap s p0 p1 → K (-1) g := fun u => hK C g _ _ (if_neg u) rfl (FrC.rf he) rfl hI hR.dn
  unfold B_PV_heap_0 B_PV_heap_92
  refine ⟨hkd, _, i1, i2, hCH.sz ?_⟩
  refine pv_ite' (fun u => hno (fun z => u z.1)) (fun u => ⟨hkd, _, i1, i2, ?_⟩)
  obtain ⟨i, rfl, hi⟩ := (wn_c (by omega)).mp u
  refine hCH.get hi (fun x y hy hH => ?_)
  obtain ⟨hk3, ⟨a, a1, a2, a3, a4, a5⟩, g1, g2, g3, g4⟩ := hH
  have hic : (nI i).toNatClampNeg = i := nj_cl (by omega)
  have hse : sHea s (nI i) = y := by unfold sHea; rw [hic, hy]; rfl
  have hyes : ok_heap s (nI i) p1 → K (if p1 ≤ 5 then sHp s i p1 else if p1 = 6 then y.1 else y.2) g := fun ok => by
    have hr := hK C g _ _ (if_pos ok) rfl (FrC.rf he) rfl hI hR.dn
    rw [hse, hic] at hr
    exact hr
  rw [g1, g2, g3]
  refine ⟨hk3, fun u5 => ⟨hk3, ?_⟩, fun u5 => ⟨fun u6 => ⟨hk3, ?_⟩, fun u6 => ⟨fun u7 => ⟨hk3, ?_⟩, fun u7 => pv_ite (fun u8 => hno (fun z => ?_)) (fun u8 => ⟨hk3, a, a1, a2, ?_, ?_⟩)⟩⟩⟩
  · have := hyes ⟨u, by rw [u5]; decide⟩
    rw [if_pos (by rw [u5]; decide), u5] at this
    exact this
  · have := hyes ⟨u, by rw [u6]; decide⟩
    rw [if_neg (by rw [u6]; decide), if_pos u6] at this
    exact this
  · have := hyes ⟨u, by rw [u7]; decide⟩
    rw [if_neg (by rw [u7]; decide), if_neg (by rw [u7]; decide)] at this
    exact this
  · have hn := nj_of z.2.1
    have h7 := z.2.2
    have n5 : p1.toNatClampNeg ≠ 5 := fun q => u5 (by rw [hn.1, q]; rfl)
    have n6 : p1.toNatClampNeg ≠ 6 := fun q => u6 (by rw [hn.1, q]; rfl)
    have n7 : p1.toNatClampNeg ≠ 7 := fun q => u7 (by rw [hn.1, q]; rfl)
    rw [hn.1] at h7 u8
    have h7' := (nj_le (b := 7) hn.2 (by omega)).mp h7
    exact u8 ⟨nj_nneg hn.2, (nj_le (b := 4) hn.2 (by omega)).mpr (by omega)⟩
  · rw [a5]
    have hn := nj_of u8.1
    have h4 := u8.2
    rw [hn.1] at h4 ⊢
    exact inB_nI (by have := (nj_le (b := 4) hn.2 (by omega)).mp h4; omega) (by omega)
  · have hn := nj_of u8.1
    have h4 := u8.2
    rw [hn.1] at h4
    have h4' := (nj_le (b := 4) hn.2 (by omega)).mp h4
    rw [a3, a4, g4 _ (by omega)]
    show K (sHp s i (nI p1.toNatClampNeg)) g
    rw [← hn.1]
    have := hyes ⟨u, u8.1, Int32.le_trans u8.2 (by decide)⟩
    rw [if_pos (Int32.le_trans u8.2 (by decide))] at this
    exact this
/-! how many lie in heaps -/
theorem sHp_sS (s : ST) (h : Nat) (c : Int32) : sHp s h c = sS (s_env s).zipIdx (fun p => if s_hof s p.2 = h + 1 ∧ (c = 5 ∨ p.1.2.2.2 = c) then 1 else 0) := rfl
theorem ctP_sS (s : ST) : ctP s (s_env s).length = sS (s_env s).zipIdx (fun p => if s_hof s p.2 = 0 then 0 else 1) := by
  have key : ∀ (l : List Em) (n : Nat) (a : Int32), ((List.range' n l.length).foldl (fun a e => a + if s_hof s e = 0 then 0 else 1) a) = (l.zipIdx n).foldl (fun a p => a + if s_hof s p.2 = 0 then 0 else 1) a := by
    intro l
    induction l with
    | nil => intro n a; rfl
    | cons x l ih =>
      intro n a
      rw [List.length_cons, List.range'_succ, List.zipIdx_cons, List.foldl_cons, List.foldl_cons]
      exact ih (n + 1) _
  unfold ctP sS
  rw [List.take_of_length_le (by simp), List.range_eq_range']
  exact key (s_env s) 0 0
theorem ctP_hp {s : ST} (hW : WF s) : sS (List.range (s_hea s).length) (fun h => sHp s h 5) = ctP s (s_env s).length := by
  rw [ctP_sS, show (fun h => sHp s h 5) = fun h => sS (s_env s).zipIdx (fun p => if s_hof s p.2 = h + 1 ∧ ((5 : Int32) = 5 ∨ p.1.2.2.2 = 5) then (1 : Int32) else 0) from rfl, sS_sw (fun h (p : Em × Nat) => if s_hof s p.2 = h + 1 ∧ ((5 : Int32) = 5 ∨ p.1.2.2.2 = 5) then (1 : Int32) else 0)]
  refine sS_cg (fun p _ => ?_)
  by_cases z : s_hof s p.2 = 0
  · rw [if_pos z, sS_zero _ _ (fun h _ => if_neg (fun w => by have := w.1; omega))]
  · rw [if_neg z, sS_one (a := s_hof s p.2 - 1) (by have := (hW.hof p.2).1; omega) (fun i _ hne => if_neg (fun w => hne (by have := w.1; omega))), if_pos ⟨by omega, .inl rfl⟩]
def Sp_PV_manyInHeaps (Γ : GAM) (x : Nat) (g : GH) (K : Int32 → GH → Prop) : Prop := ∃ C s, c_x C = x ∧ ClsI Γ C g s ∧ WF s ∧ K (ctP s (s_env s).length) g
-- the walk of PV_manyInHeaps
set_option maxRecDepth 100000 in
def B_PV_manyInHeaps_4 (Γ : GAM) (K4 : Nat → Int32 → Int32 → GH → Prop) (K : Int32 → GH → Prop) (l0 : Nat) (l1 : Int32) (l2 : Int32) (g : GH) : Prop :=
  Kd g l0 = 12 ∧ ∃ a1 : Nat, Gr g 1414 l0 = some a1 ∧ Kd g a1 = 1 ∧ Sp_AL_size Γ a1 g (fun (x3 : Int32) (g2 : GH) => ((x3 ≤ l2 → K l1 g2) ∧ (¬ (x3 ≤ l2) → Kd g2 l0 = 12 ∧ ∃ a4 : Nat, Gr g2 1414 l0 = some a4 ∧ Kd g2 a4 = 1 ∧ Sp_AL_get Γ a4 l2 g2 (fun (a6 : Nat) (g5 : GH) => Kd g5 a6 = 3 ∧ Kd g5 a6 = 3 ∧ ∀ x7 : Int32, x7 = (l1 + (Gi g5 259 a6)) → K4 l0 x7 (l2 + (1 : Int32)) g5))))
set_option maxHeartbeats 4000000 in
set_option maxRecDepth 100000 in
theorem S_PV_manyInHeaps_4 {Γ : GAM} {E : EV} {K : Int32 → GH → Prop} (hE : GE Γ E cX10_manyInHeaps 3 RX10 (some (.int)) 3 64 (fun r g' => ∃ x, r = some (.int x) ∧ K x g')) {K4 : Nat → Int32 → Int32 → GH → Prop} (hK4 : ∀ (l0 : Nat) (l1 : Int32) (l2 : Int32) (g : GH), K4 l0 l1 l2 g → JW Γ E 4 [some (.ref l0), some (.int l1), some (.int l2)] [] g) (l0 : Nat) (l1 : Int32) (l2 : Int32) (g : GH) (h : B_PV_manyInHeaps_4 Γ K4 K l0 l1 l2 g) : JW Γ E 4 [some (.ref l0), some (.int l1), some (.int l2)] [] g := by
  unfold B_PV_manyInHeaps_4 at h
  refine j_iload_n hE (by decide +kernel : decode cX10_manyInHeaps 4 = .ok (.iload_n 2, 1)) rfl rfl ?_
  refine j_aload_n hE (by decide +kernel : decode cX10_manyInHeaps 5 = .ok (.aload_n 0, 1)) rfl rfl ?_
  obtain ⟨hk, h⟩ := h
  obtain ⟨a1, ha, h⟩ := h
  refine j_getRn hE fg_X10_44 hk ha (by decide +kernel : decode cX10_manyInHeaps 6 = .ok (.getfield 44, 3)) ?_
  obtain ⟨hk, h⟩ := h
  refine j_callV hE rfl cl_X10_84 cf_0 im_Jx4a65c_size_8abf5 se_Jx4a65c_size_8abf5 ⟨by omega, by omega⟩ (As := []) (rest := [.int l2]) rfl rfl (Nat.le_of_ble_eq_true rfl) hk (by decide +kernel : decode cX10_manyInHeaps 9 = .ok (.invokevirtual 84, 3)) (mt_AL_size _ _ _ h) ?_
  rintro _ g2 ⟨x3, rfl, h⟩
  refine j_icmp_ge hE (by decide +kernel : decode cX10_manyInHeaps 12 = .ok (.if_icmp .ge 26, 3)) (tgt := 38) (by decide) (fun q => ?_) (fun q => ?_)
  · replace h := h.1 q
    refine j_iload_n hE (by decide +kernel : decode cX10_manyInHeaps 38 = .ok (.iload_n 1, 1)) rfl rfl ?_
    exact j_iret hE (by decide +kernel : decode cX10_manyInHeaps 39 = .ok (.ireturn, 1)) ⟨_, rfl, h⟩
  · replace h := h.2 q
    refine j_iload_n hE (by decide +kernel : decode cX10_manyInHeaps 15 = .ok (.iload_n 1, 1)) rfl rfl ?_
    refine j_aload_n hE (by decide +kernel : decode cX10_manyInHeaps 16 = .ok (.aload_n 0, 1)) rfl rfl ?_
    obtain ⟨hk, h⟩ := h
    obtain ⟨a4, ha, h⟩ := h
    refine j_getRn hE fg_X10_44 hk ha (by decide +kernel : decode cX10_manyInHeaps 17 = .ok (.getfield 44, 3)) ?_
    refine j_iload_n hE (by decide +kernel : decode cX10_manyInHeaps 20 = .ok (.iload_n 2, 1)) rfl rfl ?_
    obtain ⟨hk, h⟩ := h
    refine j_callV hE rfl cl_X10_147 cf_0 im_Jx4a65c_get_915e3 se_Jx4a65c_get_915e3 ⟨by omega, by omega⟩ (As := [.int l2]) (rest := [.int l1]) rfl rfl (Nat.le_of_ble_eq_true rfl) hk (by decide +kernel : decode cX10_manyInHeaps 21 = .ok (.invokevirtual 147, 3)) (mt_AL_get _ _ _ _ h) ?_
    rintro _ g5 ⟨a6, rfl, h⟩
    obtain ⟨hk, h⟩ := h
    refine j_cast hE cf_2 ck_X10_327 hk (by decide +kernel : decode cX10_manyInHeaps 24 = .ok (.checkcast 327, 3)) ?_
    obtain ⟨hk, h⟩ := h
    refine j_getI hE fg_X10_336 hk (by decide +kernel : decode cX10_manyInHeaps 27 = .ok (.getfield 336, 3)) ?_
    refine j_iadd hE (by decide +kernel : decode cX10_manyInHeaps 30 = .ok (.iadd, 1)) ?_
    obtain ⟨x7, hx⟩ : ∃ z, z = (l1 + (Gi g5 259 a6)) := ⟨_, rfl⟩; replace h := h x7 hx; rw [← hx]
    refine j_istore_n hE (by decide +kernel : decode cX10_manyInHeaps 31 = .ok (.istore_n 1, 1)) rfl (Nat.le_of_ble_eq_true rfl) rfl ?_
    refine j_iinc hE (by decide +kernel : decode cX10_manyInHeaps 32 = .ok (.iinc 2 1, 3)) (v := (1 : Int32)) (by decide) rfl (Nat.le_of_ble_eq_true rfl) rfl ?_
    refine j_goto hE (by decide +kernel : decode cX10_manyInHeaps 35 = .ok (.goto (-31), 3)) (tgt := 4) (by decide) ?_
    exact hK4 _ _ _ _ h
set_option maxRecDepth 100000 in
def B_PV_manyInHeaps_0 (Γ : GAM) (K4 : Nat → Int32 → Int32 → GH → Prop) (K : Int32 → GH → Prop) (th : Nat) (g : GH) : Prop :=
  K4 th (0 : Int32) (0 : Int32) g
set_option maxHeartbeats 4000000 in
set_option maxRecDepth 100000 in
theorem S_PV_manyInHeaps_0 {Γ : GAM} {E : EV} {K : Int32 → GH → Prop} (hE : GE Γ E cX10_manyInHeaps 3 RX10 (some (.int)) 3 64 (fun r g' => ∃ x, r = some (.int x) ∧ K x g')) {K4 : Nat → Int32 → Int32 → GH → Prop} (hK4 : ∀ (l0 : Nat) (l1 : Int32) (l2 : Int32) (g : GH), K4 l0 l1 l2 g → JW Γ E 4 [some (.ref l0), some (.int l1), some (.int l2)] [] g) (th : Nat) (g : GH) (h : B_PV_manyInHeaps_0 Γ K4 K th g) : JW Γ E 0 [some (.ref th), none, none] [] g := by
  unfold B_PV_manyInHeaps_0 at h
  refine j_iconst hE (by decide +kernel : decode cX10_manyInHeaps 0 = .ok (.iconst 0, 1)) (v := (0 : Int32)) (by decide) ?_
  refine j_istore_n hE (by decide +kernel : decode cX10_manyInHeaps 1 = .ok (.istore_n 1, 1)) rfl (Nat.le_of_ble_eq_true rfl) rfl ?_
  refine j_iconst hE (by decide +kernel : decode cX10_manyInHeaps 2 = .ok (.iconst 0, 1)) (v := (0 : Int32)) (by decide) ?_
  refine j_istore_n hE (by decide +kernel : decode cX10_manyInHeaps 3 = .ok (.istore_n 2, 1)) rfl (Nat.le_of_ble_eq_true rfl) rfl ?_
  exact hK4 _ _ _ _ h
set_option maxHeartbeats 4000000 in
set_option maxRecDepth 100000 in
theorem rl_PV_manyInHeaps {Γ : GAM} {l : Launch} {th : Nat} {g : GH} {K : Int32 → GH → Prop} (I4 : Nat → Nat → Int32 → Int32 → GH → Prop) (hh4 : ∀ n (l0 : Nat) (l1 : Int32) (l2 : Int32) (g : GH), I4 n l0 l1 l2 g → B_PV_manyInHeaps_4 Γ (fun l0 l1 l2 g => ∃ m, m < n ∧ I4 m l0 l1 l2 g) K l0 l1 l2 g) (h0 : B_PV_manyInHeaps_0 Γ (fun l0 l1 l2 g => ∃ m, I4 m l0 l1 l2 g) K th g) : MetA Γ l yX10_manyInHeaps cX10_manyInHeaps 3 (some (.int)) 3 64 [.ref th] g (fun r g' => ∃ x, r = some (.int x) ∧ K x g') := by
  refine MetA.introL (Lx := [some (.ref th), none, none]) (by decide) (Nat.le_of_ble_eq_true rfl) rfl rfl ?_
  intro E hEl hE hnm
  have hall : ∀ n, (∀ (l0 : Nat) (l1 : Int32) (l2 : Int32) (g : GH), I4 n l0 l1 l2 g → JW Γ E 4 [some (.ref l0), some (.int l1), some (.int l2)] [] g) := by
    intro n
    induction n using Nat.strongRecOn with
    | ind n ih =>
      exact fun l0 l1 l2 g hi => S_PV_manyInHeaps_4 hE (fun l0 l1 l2 g hm => by obtain ⟨m, hm, h⟩ := hm; exact (ih m hm) l0 l1 l2 g h) l0 l1 l2 g (hh4 n l0 l1 l2 g hi)
  exact S_PV_manyInHeaps_0 hE (fun l0 l1 l2 g hm => by obtain ⟨m, h⟩ := hm; exact (hall m) l0 l1 l2 g h) th g h0
theorem mt_PV_manyInHeaps {Γ : GAM} {l : Launch} (th : Nat) (g : GH) (K : Int32 → GH → Prop) (h : Sp_PV_manyInHeaps Γ th g K) : MetA Γ l yX10_manyInHeaps cX10_manyInHeaps 3 (some (.int)) 3 64 [.ref th] g (fun r g' => ∃ x, r = some (.int x) ∧ K x g') := by
  obtain ⟨C, s, rfl, hI, hW, hK⟩ := h
  obtain ⟨hkd, -, -, -, -, ⟨i1, i2⟩, -⟩ := hI.pk
  have hCH := hI.2.2.2.2.2.1
  have hlen := hW.len
  rw [← ctP_hp hW] at hK
  refine rl_PV_manyInHeaps (fun n l0 l1 l2 g' => g = g' ∧ c_x C = l0 ∧ ∃ k, k ≤ (s_hea s).length ∧ n = (s_hea s).length - k ∧ l2 = nI k ∧ l1 = sS ((List.range (s_hea s).length).take k) (fun h => sHp s h 5)) ?_ ⟨_, rfl, rfl, 0, Nat.zero_le _, rfl, nj_0, rfl⟩
  rintro n l0 l1 l2 g' ⟨rfl, rfl, k, hk, rfl, rfl, rfl⟩
  unfold B_PV_manyInHeaps_4
  refine ⟨hkd, _, i1, i2, hCH.sz ?_⟩
  rw [nj_le (by omega) (by omega)]
  refine ⟨fun u => ?_, fun u => ⟨hkd, _, i1, i2, hCH.get (by omega) (fun x y hy hH => ?_)⟩⟩
  · rw [List.take_of_length_le (by simp; omega)]; exact hK
  · obtain ⟨hk3, -, -, -, g3, -⟩ := hH
    have hlt : k < (s_hea s).length := by omega
    refine ⟨hk3, hk3, ?_⟩
    rintro _ rfl
    refine ⟨(s_hea s).length - (k + 1), by omega, rfl, rfl, k + 1, hlt, rfl, nj_s k, ?_⟩
    rw [g3]
    unfold sS
    rw [fold_take _ _ _ (range_get hlt)]
