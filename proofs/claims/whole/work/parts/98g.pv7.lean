/-! the class's face: envelopes judged as known on a day -/
theorem ClsI.fc {Γ : GAM} {C : CDR} {g g' : GH} {s : ST} (h : ClsI Γ C g s) (k : FC (c_D C) g g') (hC : COM Γ (c_D C) g') : ClsI Γ C g' s := by
  obtain ⟨⟨-, -, ⟨l0, l1, l2, l3⟩, -⟩, -, -, -, -, -, a7, -⟩ := id h
  have hc := a7.2.1.2.2.2.2.1
  have n1 : c_hl C ∉ [d_cl (c_D C)] := fun z => by
    rw [List.mem_singleton] at z
    rw [z, hc.2.1] at l2
    exact absurd l2 (by decide)
  exact h.post k.1 n1 (by decide) (by decide) rfl (fun z => z) rfl (fun z => z) (fun z => z) (fun z => z) (a7.c k) hC
theorem FC.c {D : DIR} {g g' : GH} (k : FC D g g') : FrC g g' := FrC.of k.1 (by decide) (by decide)
theorem RM.fc {Γ : GAM} {C : CDR} {g g' : GH} {s : ST} {n : Nat} (h : RM Γ C g s (n + 1)) (k : FC (c_D C) g g') : RM Γ C g' s n := by
  obtain ⟨h1, h2, h3⟩ := h
  obtain ⟨k0, k1, k2⟩ := k
  unfold RM
  omega
theorem RM.fc0 {Γ : GAM} {C : CDR} {g g' : GH} {s : ST} {n : Nat} (h : RM Γ C g s n) (k : FC (c_D C) g g') : RM Γ C g' s n := by
  obtain ⟨h1, h2, h3⟩ := h
  obtain ⟨k0, k1, k2⟩ := k
  unfold RM
  omega
def Sp_PV_judged (Γ : GAM) (x : Nat) (p0 p1 : Int32) (g : GH) (K : Option Nat → GH → Prop) : Prop := ∃ C s, c_x C = x ∧ ClsI Γ C g s ∧ WF s ∧ RC Γ (c_D C) g ∧ (¬ ok_asked s p0 p1 → K none g) ∧ ∀ (e : Nat) (y : Em) (a : Nat), ok_asked s p0 p1 → p0 = nI e → (s_env s)[e]? = some y → (d_es (c_D C))[e]? = some a → ∀ g', FC (c_D C) g g' → COM Γ (c_D C) g' → JV (c_D C) s y.1.toNatClampNeg p1 g' → Kd g' a = 2 → K (some a) g'
-- the walk of PV_judged
set_option maxRecDepth 100000 in
def B_PV_judged_29 (Γ : GAM) (K : Option Nat → GH → Prop)  (g : GH) : Prop :=
  K none g
set_option maxHeartbeats 4000000 in
set_option maxRecDepth 100000 in
theorem S_PV_judged_29 {Γ : GAM} {E : EV} {K : Option Nat → GH → Prop} (hE : GE Γ E cX10_judged 4 RX10 (some (.object "PostVotes$Envelope")) 9 376 (fun r g' => ∃ x, r = some (va_rf x) ∧ K x g'))  (g : GH) (h : B_PV_judged_29 Γ K  g) : JW Γ E 29 [none, none, none, none] [] g := by
  unfold B_PV_judged_29 at h
  refine j_null hE (by decide +kernel : decode cX10_judged 29 = .ok (.aconst_null, 1)) ?_
  exact j_aret (v := none) hE (Or.inl ⟨_, rfl⟩) (by decide +kernel : decode cX10_judged 30 = .ok (.areturn, 1)) ⟨_, rfl, h⟩
set_option maxRecDepth 100000 in
def B_PV_judged_0 (Γ : GAM) (K : Option Nat → GH → Prop) (th : Nat) (p0 : Int32) (p1 : Int32) (g : GH) : Prop :=
  Kd g th = 12 ∧ ∃ a1 : Nat, Gr g 1410 th = some a1 ∧ Kd g a1 = 6 ∧ Sp_Po_envelopeAt Γ a1 p0 g (fun (a3 : Option Nat) (g2 : GH) => ((a3 = none → B_PV_judged_29 Γ K g2) ∧ (∀ a4 : Nat, a3 = some a4 → Kd g2 th = 12 ∧ Sp_PV_isUpToNow Γ th p1 g2 (fun (x6 : Int32) (g5 : GH) => ((x6 = 0 → B_PV_judged_29 Γ K g5) ∧ (¬ (x6 = 0) → Kd g5 a4 = 2 ∧ (((Gi g5 132 a4) ≤ p1 → Kd g5 th = 12 ∧ ∃ a7 : Nat, Gr g5 1410 th = some a7 ∧ Kd g5 a4 = 2 ∧ ∃ a8 : Nat, Gr g5 129 a4 = some a8 ∧ Kd g5 a7 = 6 ∧ Sp_Po_judgeOf Γ a7 a8 p1 g5 (fun (g9 : GH) => K (some a4) g9)) ∧ (¬ ((Gi g5 132 a4) ≤ p1) → B_PV_judged_29 Γ K g5))))))))
set_option maxHeartbeats 4000000 in
set_option maxRecDepth 100000 in
theorem S_PV_judged_0 {Γ : GAM} {E : EV} {K : Option Nat → GH → Prop} (hE : GE Γ E cX10_judged 4 RX10 (some (.object "PostVotes$Envelope")) 9 376 (fun r g' => ∃ x, r = some (va_rf x) ∧ K x g')) (th : Nat) (p0 : Int32) (p1 : Int32) (g : GH) (h : B_PV_judged_0 Γ K th p0 p1 g) : JW Γ E 0 [some (.ref th), some (.int p0), some (.int p1), none] [] g := by
  unfold B_PV_judged_0 at h
  refine j_aload_n hE (by decide +kernel : decode cX10_judged 0 = .ok (.aload_n 0, 1)) rfl rfl ?_
  obtain ⟨hk, h⟩ := h
  obtain ⟨a1, ha, h⟩ := h
  refine j_getRn hE fg_X10_16 hk ha (by decide +kernel : decode cX10_judged 1 = .ok (.getfield 16, 3)) ?_
  refine j_iload_n hE (by decide +kernel : decode cX10_judged 4 = .ok (.iload_n 1, 1)) rfl rfl ?_
  obtain ⟨hk, h⟩ := h
  refine j_callV hE rfl cl_X10_133 cf_5 im_X4_envelopeAt se_X4_envelopeAt ⟨by omega, by omega⟩ (As := [.int p0]) (rest := []) rfl rfl (Nat.le_of_ble_eq_true rfl) hk (by decide +kernel : decode cX10_judged 5 = .ok (.invokevirtual 133, 3)) (mt_Po_envelopeAt _ _ _ _ h) ?_
  rintro _ g2 ⟨a3, rfl, h⟩
  refine j_astore_nQ hE (by decide +kernel : decode cX10_judged 8 = .ok (.astore_n 3, 1)) rfl (Nat.le_of_ble_eq_true rfl) rfl ?_
  refine j_aload_nQ hE (by decide +kernel : decode cX10_judged 9 = .ok (.aload_n 3, 1)) rfl rfl ?_
  refine j_ifnull hE (by decide +kernel : decode cX10_judged 10 = .ok (.ifnull 19, 3)) (tgt := 29) (by decide) (fun q => ?_) (fun a4 q => ?_)
  · replace h := h.1 q; subst q
    refine j_weak [none, none, none, none] trivial ?_
    exact S_PV_judged_29 hE _ h
  · replace h := h.2 a4 q; subst q
    refine j_aload_n hE (by decide +kernel : decode cX10_judged 13 = .ok (.aload_n 0, 1)) rfl rfl ?_
    refine j_iload_n hE (by decide +kernel : decode cX10_judged 14 = .ok (.iload_n 2, 1)) rfl rfl ?_
    obtain ⟨hk, h⟩ := h
    refine j_callV hE rfl cl_X10_100 cf_11 im_X10_isUpToNow se_X10_isUpToNow ⟨by omega, by omega⟩ (As := [.int p1]) (rest := []) rfl rfl (Nat.le_of_ble_eq_true rfl) hk (by decide +kernel : decode cX10_judged 15 = .ok (.invokevirtual 100, 3)) (mt_PV_isUpToNow _ _ _ _ h) ?_
    rintro _ g5 ⟨x6, rfl, h⟩
    refine j_if_eq hE (by decide +kernel : decode cX10_judged 18 = .ok (.ifCond .eq 11, 3)) (tgt := 29) (by decide) (fun q => ?_) (fun q => ?_)
    · replace h := h.1 q
      refine j_weak [none, none, none, none] trivial ?_
      exact S_PV_judged_29 hE _ h
    · replace h := h.2 q
      refine j_aload_n hE (by decide +kernel : decode cX10_judged 21 = .ok (.aload_n 3, 1)) rfl rfl ?_
      obtain ⟨hk, h⟩ := h
      refine j_getI hE fg_X10_368 hk (by decide +kernel : decode cX10_judged 22 = .ok (.getfield 368, 3)) ?_
      refine j_iload_n hE (by decide +kernel : decode cX10_judged 25 = .ok (.iload_n 2, 1)) rfl rfl ?_
      refine j_icmp_le hE (by decide +kernel : decode cX10_judged 26 = .ok (.if_icmp .le 5, 3)) (tgt := 31) (by decide) (fun q => ?_) (fun q => ?_)
      · replace h := h.1 q
        refine j_aload_n hE (by decide +kernel : decode cX10_judged 31 = .ok (.aload_n 0, 1)) rfl rfl ?_
        obtain ⟨hk, h⟩ := h
        obtain ⟨a7, ha, h⟩ := h
        refine j_getRn hE fg_X10_16 hk ha (by decide +kernel : decode cX10_judged 32 = .ok (.getfield 16, 3)) ?_
        refine j_aload_n hE (by decide +kernel : decode cX10_judged 35 = .ok (.aload_n 3, 1)) rfl rfl ?_
        obtain ⟨hk, h⟩ := h
        obtain ⟨a8, ha, h⟩ := h
        refine j_getRn hE fg_X10_313 hk ha (by decide +kernel : decode cX10_judged 36 = .ok (.getfield 313, 3)) ?_
        refine j_iload_n hE (by decide +kernel : decode cX10_judged 39 = .ok (.iload_n 2, 1)) rfl rfl ?_
        obtain ⟨hk, h⟩ := h
        refine j_callV hE rfl cl_X10_230 cf_5 im_X4_judgeOf se_X4_judgeOf ⟨by omega, by omega⟩ (As := [.ref a8, .int p1]) (rest := []) rfl rfl (Nat.le_of_ble_eq_true rfl) hk (by decide +kernel : decode cX10_judged 40 = .ok (.invokevirtual 230, 3)) (mt_Po_judgeOf _ _ _ _ _ h) ?_
        rintro _ g9 ⟨rfl, h⟩
        refine j_aload_n hE (by decide +kernel : decode cX10_judged 43 = .ok (.aload_n 3, 1)) rfl rfl ?_
        exact j_aret (v := some a4) hE (Or.inl ⟨_, rfl⟩) (by decide +kernel : decode cX10_judged 44 = .ok (.areturn, 1)) ⟨_, rfl, h⟩
      · replace h := h.2 q
        refine j_weak [none, none, none, none] trivial ?_
        exact S_PV_judged_29 hE _ h
set_option maxHeartbeats 4000000 in
set_option maxRecDepth 100000 in
theorem rl_PV_judged {Γ : GAM} {l : Launch} {th : Nat} {p0 : Int32} {p1 : Int32} {g : GH} {K : Option Nat → GH → Prop} (h0 : B_PV_judged_0 Γ K th p0 p1 g) : MetA Γ l yX10_judged cX10_judged 4 (some (.object "PostVotes$Envelope")) 9 376 [.ref th, .int p0, .int p1] g (fun r g' => ∃ x, r = some (va_rf x) ∧ K x g') := by
  refine MetA.introL (Lx := [some (.ref th), some (.int p0), some (.int p1), none]) (by decide) (Nat.le_of_ble_eq_true rfl) rfl rfl ?_
  intro E hEl hE hnm
  exact S_PV_judged_0 hE th p0 p1 g h0
theorem mt_PV_judged {Γ : GAM} {l : Launch} (th : Nat) (p0 : Int32) (p1 : Int32) (g : GH) (K : Option Nat → GH → Prop) (h : Sp_PV_judged Γ th p0 p1 g K) : MetA Γ l yX10_judged cX10_judged 4 (some (.object "PostVotes$Envelope")) 9 376 [.ref th, .int p0, .int p1] g (fun r g' => ∃ x, r = some (va_rf x) ∧ K x g') := by
  obtain ⟨C, s, rfl, hI, hW, hRC, hK0, hK1⟩ := h
  have he := hI.en
  obtain ⟨hkd, ⟨h1, h2⟩, -, -, -, -, hnow, hsiz⟩ := hI.pk
  have hP := hI.2.2.2.2.2.2.1
  have hlen := hW.len
  refine rl_PV_judged ?_
  unfold B_PV_judged_0 B_PV_judged_29
  refine ⟨hkd, _, h1, h2, c_D C, s, rfl, hP, hlen.2.2.1, fun u => ⟨fun _ => hK0 (fun z => u z.1), fun a z => by cases z⟩, fun e x hv hvl hx hkx => ⟨fun z => (by cases z), fun a ha => ?_⟩⟩
  cases ha
  have hin : 0 ≤ p0 ∧ p0 ≤ nI (s_env s).length - 1 := (wn_c (by omega)).mpr ⟨e, hv, hvl⟩
  refine ⟨hkd, hkd, ?_⟩
  rw [hnow]
  refine pv_ite (fun u => hK0 (fun z => u z.2.1)) (fun u => ⟨hkx, ?_⟩)
  obtain ⟨y, w, L, y1, w1, hE, -, -⟩ := hP.2.2.2.2.1.2.2 e x hx
  obtain ⟨⟨x1, x2⟩, ⟨w2, w3, w4⟩, ⟨_, _, _, ht⟩, -⟩ := id hE
  have hsE : sEnv s p0 = y := by rw [hv]; exact sEnv_n y1 (by omega)
  rw [ht]
  refine ⟨fun u2 => ⟨hkd, _, h1, x2, w, w4, h2, c_D C, s, y.1.toNatClampNeg, rfl, hP, hW, u, w1, hI.2.2.2.2.2.2.2, hRC, fun g' hF hC hJ => ?_⟩, fun u2 => hK0 (fun z => u2 (by have := z.2.2; rw [hsE] at this; exact this))⟩
  refine hK1 e y x ⟨hin, u, by rw [hsE]; exact u2⟩ hv y1 hx g' hF.1 hC hJ ?_
  exact (hF.1.1.kd x1 (by omega)).1.trans x2
/-- a judged envelope of the state -/
theorem sJe_e {s : ST} {e : Nat} {y : Em} {q : Int32} (hy : (s_env s)[e]? = some y) (he : e < 2147483648) : sJe s (nI e) q = sJ s y.1 q e := by
  unfold sJe
  rw [sEnv_n hy he, nj_cl he]
theorem JV.e {D : DIR} {s : ST} {q : Int32} {g : GH} {e x : Nat} {y : Em} (h : JV D s y.1.toNatClampNeg q g) (hW : WF s) (hy : (s_env s)[e]? = some y) (hx : (d_es D)[e]? = some x) (ht : y.2.2.1 ≤ q) : (Gi g 140 x = (sJ s y.1 q e).1 ∧ Gi g 141 x = (sJ s y.1 q e).2.1 ∧ Gi g 142 x = (sJ s y.1 q e).2.2.1 ∧ Gi g 139 x = (sJ s y.1 q e).2.2.2) ∧ ENV s e q x g ∧ ECM s e q x g := by
  have hn := nj_of (hW.env y (List.mem_of_getElem? hy)).1.1
  have hJ := h.2 e y x hy hn.1 hx
  have h1 := hJ.s hy hn.1
  obtain ⟨⟨a1, a2⟩, a3, a4, a5, -⟩ := hJ.2 ht
  rw [if_pos ht] at h1
  rw [← hn.1] at h1 a3 a4 a5
  exact ⟨⟨h1, a3, a4, a5⟩, a1, a2⟩
def Sp_PV_state (Γ : GAM) (x : Nat) (p0 p1 : Int32) (g : GH) (K : Int32 → GH → Prop) : Prop := PVC Γ x g K (fun s => p_state s p0 p1) (fun s => s)
-- the walk of PV_state
set_option maxRecDepth 100000 in
def B_PV_state_19 (Γ : GAM) (K : Int32 → GH → Prop) (s0 : Int32) (g : GH) : Prop :=
  K s0 g
set_option maxHeartbeats 4000000 in
set_option maxRecDepth 100000 in
theorem S_PV_state_19 {Γ : GAM} {E : EV} {K : Int32 → GH → Prop} (hE : GE Γ E cX10_state 4 RX10 (some (.int)) 10 399 (fun r g' => ∃ x, r = some (.int x) ∧ K x g')) (s0 : Int32) (g : GH) (h : B_PV_state_19 Γ K s0 g) : JW Γ E 19 [none, none, none, none] [.int s0] g := by
  unfold B_PV_state_19 at h
  exact j_iret hE (by decide +kernel : decode cX10_state 19 = .ok (.ireturn, 1)) ⟨_, rfl, h⟩
set_option maxRecDepth 100000 in
def B_PV_state_0 (Γ : GAM) (K : Int32 → GH → Prop) (th : Nat) (p0 : Int32) (p1 : Int32) (g : GH) : Prop :=
  Kd g th = 12 ∧ Sp_PV_judged Γ th p0 p1 g (fun (a2 : Option Nat) (g1 : GH) => ((a2 = none → B_PV_state_19 Γ K (-1 : Int32) g1) ∧ (∀ a3 : Nat, a2 = some a3 → Kd g1 a3 = 2 ∧ B_PV_state_19 Γ K (Gi g1 140 a3) g1)))
set_option maxHeartbeats 4000000 in
set_option maxRecDepth 100000 in
theorem S_PV_state_0 {Γ : GAM} {E : EV} {K : Int32 → GH → Prop} (hE : GE Γ E cX10_state 4 RX10 (some (.int)) 10 399 (fun r g' => ∃ x, r = some (.int x) ∧ K x g')) (th : Nat) (p0 : Int32) (p1 : Int32) (g : GH) (h : B_PV_state_0 Γ K th p0 p1 g) : JW Γ E 0 [some (.ref th), some (.int p0), some (.int p1), none] [] g := by
  unfold B_PV_state_0 at h
  refine j_aload_n hE (by decide +kernel : decode cX10_state 0 = .ok (.aload_n 0, 1)) rfl rfl ?_
  refine j_iload_n hE (by decide +kernel : decode cX10_state 1 = .ok (.iload_n 1, 1)) rfl rfl ?_
  refine j_iload_n hE (by decide +kernel : decode cX10_state 2 = .ok (.iload_n 2, 1)) rfl rfl ?_
  obtain ⟨hk, h⟩ := h
  refine j_callV hE rfl cl_X10_204 cf_11 im_X10_judged se_X10_judged ⟨by omega, by omega⟩ (As := [.int p0, .int p1]) (rest := []) rfl rfl (Nat.le_of_ble_eq_true rfl) hk (by decide +kernel : decode cX10_state 3 = .ok (.invokevirtual 204, 3)) (mt_PV_judged _ _ _ _ _ h) ?_
  rintro _ g1 ⟨a2, rfl, h⟩
  refine j_astore_nQ hE (by decide +kernel : decode cX10_state 6 = .ok (.astore_n 3, 1)) rfl (Nat.le_of_ble_eq_true rfl) rfl ?_
  refine j_aload_nQ hE (by decide +kernel : decode cX10_state 7 = .ok (.aload_n 3, 1)) rfl rfl ?_
  refine j_ifnonnull hE (by decide +kernel : decode cX10_state 8 = .ok (.ifnonnull 7, 3)) (tgt := 15) (by decide) (fun q => ?_) (fun a3 q => ?_)
  · replace h := h.1 q; subst q
    refine j_iconst hE (by decide +kernel : decode cX10_state 11 = .ok (.iconst (-1), 1)) (v := (-1 : Int32)) (by decide) ?_
    refine j_goto hE (by decide +kernel : decode cX10_state 12 = .ok (.goto 7, 3)) (tgt := 19) (by decide) ?_
    refine j_weak [none, none, none, none] trivial ?_
    exact S_PV_state_19 hE _ _ h
  · replace h := h.2 a3 q; subst q
    refine j_aload_n hE (by decide +kernel : decode cX10_state 15 = .ok (.aload_n 3, 1)) rfl rfl ?_
    obtain ⟨hk, h⟩ := h
    refine j_getI hE fg_X10_221 hk (by decide +kernel : decode cX10_state 16 = .ok (.getfield 221, 3)) ?_
    refine j_weak [none, none, none, none] trivial ?_
    exact S_PV_state_19 hE _ _ h
set_option maxHeartbeats 4000000 in
set_option maxRecDepth 100000 in
theorem rl_PV_state {Γ : GAM} {l : Launch} {th : Nat} {p0 : Int32} {p1 : Int32} {g : GH} {K : Int32 → GH → Prop} (h0 : B_PV_state_0 Γ K th p0 p1 g) : MetA Γ l yX10_state cX10_state 4 (some (.int)) 10 399 [.ref th, .int p0, .int p1] g (fun r g' => ∃ x, r = some (.int x) ∧ K x g') := by
  refine MetA.introL (Lx := [some (.ref th), some (.int p0), some (.int p1), none]) (by decide) (Nat.le_of_ble_eq_true rfl) rfl rfl ?_
  intro E hEl hE hnm
  exact S_PV_state_0 hE th p0 p1 g h0
theorem mt_PV_state {Γ : GAM} {l : Launch} (th : Nat) (p0 : Int32) (p1 : Int32) (g : GH) (K : Int32 → GH → Prop) (h : Sp_PV_state Γ th p0 p1 g K) : MetA Γ l yX10_state cX10_state 4 (some (.int)) 10 399 [.ref th, .int p0, .int p1] g (fun r g' => ∃ x, r = some (.int x) ∧ K x g') := by
  obtain ⟨C, s, n, rfl, hI, hW, hR, hK⟩ := PVC.e h
  have he := hI.en
  obtain ⟨hkd, ⟨h1, h2⟩, -, -, -, -, hnow, hsiz⟩ := hI.pk
  have hP := hI.2.2.2.2.2.2.1
  have hlen := hW.len
  unfold p_state at hK
  refine rl_PV_state ?_
  unfold B_PV_state_0 B_PV_state_19
  refine ⟨hkd, C, s, rfl, hI, hW, hR.rc, fun u => ⟨fun _ => hK C g _ _ (if_neg u) rfl (FrC.rf he) rfl hI hR.dn, fun a z => by cases z⟩, fun e y a ok hp hy ha g' hF hC hJ hk => ⟨fun z => (by cases z), fun b hb => ?_⟩⟩
  cases hb
  have hel := (List.getElem?_eq_some_iff.mp hy).1
  have ht : y.2.2.1 ≤ p1 := by have := ok.2.2; rw [hp, sEnv_n hy (by omega)] at this; exact this
  have hr := hK C g' _ _ (if_pos ok) rfl hF.c rfl (hI.fc hF hC) (hR.fc hF)
  rw [hp, sJe_e hy (by omega)] at hr
  refine ⟨hk, ?_⟩
  rw [(hJ.e hW hy ha ht).1.1]
  exact hr
def Sp_PV_reason (Γ : GAM) (x : Nat) (p0 p1 : Int32) (g : GH) (K : Int32 → GH → Prop) : Prop := PVC Γ x g K (fun s => p_reason s p0 p1) (fun s => s)
-- the walk of PV_reason
set_option maxRecDepth 100000 in
def B_PV_reason_19 (Γ : GAM) (K : Int32 → GH → Prop) (s0 : Int32) (g : GH) : Prop :=
  K s0 g
set_option maxHeartbeats 4000000 in
set_option maxRecDepth 100000 in
theorem S_PV_reason_19 {Γ : GAM} {E : EV} {K : Int32 → GH → Prop} (hE : GE Γ E cX10_reason 4 RX10 (some (.int)) 10 399 (fun r g' => ∃ x, r = some (.int x) ∧ K x g')) (s0 : Int32) (g : GH) (h : B_PV_reason_19 Γ K s0 g) : JW Γ E 19 [none, none, none, none] [.int s0] g := by
  unfold B_PV_reason_19 at h
  exact j_iret hE (by decide +kernel : decode cX10_reason 19 = .ok (.ireturn, 1)) ⟨_, rfl, h⟩
set_option maxRecDepth 100000 in
def B_PV_reason_0 (Γ : GAM) (K : Int32 → GH → Prop) (th : Nat) (p0 : Int32) (p1 : Int32) (g : GH) : Prop :=
  Kd g th = 12 ∧ Sp_PV_judged Γ th p0 p1 g (fun (a2 : Option Nat) (g1 : GH) => ((a2 = none → B_PV_reason_19 Γ K (-1 : Int32) g1) ∧ (∀ a3 : Nat, a2 = some a3 → Kd g1 a3 = 2 ∧ B_PV_reason_19 Γ K (Gi g1 141 a3) g1)))
set_option maxHeartbeats 4000000 in
set_option maxRecDepth 100000 in
theorem S_PV_reason_0 {Γ : GAM} {E : EV} {K : Int32 → GH → Prop} (hE : GE Γ E cX10_reason 4 RX10 (some (.int)) 10 399 (fun r g' => ∃ x, r = some (.int x) ∧ K x g')) (th : Nat) (p0 : Int32) (p1 : Int32) (g : GH) (h : B_PV_reason_0 Γ K th p0 p1 g) : JW Γ E 0 [some (.ref th), some (.int p0), some (.int p1), none] [] g := by
  unfold B_PV_reason_0 at h
  refine j_aload_n hE (by decide +kernel : decode cX10_reason 0 = .ok (.aload_n 0, 1)) rfl rfl ?_
  refine j_iload_n hE (by decide +kernel : decode cX10_reason 1 = .ok (.iload_n 1, 1)) rfl rfl ?_
  refine j_iload_n hE (by decide +kernel : decode cX10_reason 2 = .ok (.iload_n 2, 1)) rfl rfl ?_
  obtain ⟨hk, h⟩ := h
  refine j_callV hE rfl cl_X10_204 cf_11 im_X10_judged se_X10_judged ⟨by omega, by omega⟩ (As := [.int p0, .int p1]) (rest := []) rfl rfl (Nat.le_of_ble_eq_true rfl) hk (by decide +kernel : decode cX10_reason 3 = .ok (.invokevirtual 204, 3)) (mt_PV_judged _ _ _ _ _ h) ?_
  rintro _ g1 ⟨a2, rfl, h⟩
  refine j_astore_nQ hE (by decide +kernel : decode cX10_reason 6 = .ok (.astore_n 3, 1)) rfl (Nat.le_of_ble_eq_true rfl) rfl ?_
  refine j_aload_nQ hE (by decide +kernel : decode cX10_reason 7 = .ok (.aload_n 3, 1)) rfl rfl ?_
  refine j_ifnonnull hE (by decide +kernel : decode cX10_reason 8 = .ok (.ifnonnull 7, 3)) (tgt := 15) (by decide) (fun q => ?_) (fun a3 q => ?_)
  · replace h := h.1 q; subst q
    refine j_iconst hE (by decide +kernel : decode cX10_reason 11 = .ok (.iconst (-1), 1)) (v := (-1 : Int32)) (by decide) ?_
    refine j_goto hE (by decide +kernel : decode cX10_reason 12 = .ok (.goto 7, 3)) (tgt := 19) (by decide) ?_
    refine j_weak [none, none, none, none] trivial ?_
    exact S_PV_reason_19 hE _ _ h
  · replace h := h.2 a3 q; subst q
    refine j_aload_n hE (by decide +kernel : decode cX10_reason 15 = .ok (.aload_n 3, 1)) rfl rfl ?_
    obtain ⟨hk, h⟩ := h
    refine j_getI hE fg_X10_224 hk (by decide +kernel : decode cX10_reason 16 = .ok (.getfield 224, 3)) ?_
    refine j_weak [none, none, none, none] trivial ?_
    exact S_PV_reason_19 hE _ _ h
set_option maxHeartbeats 4000000 in
set_option maxRecDepth 100000 in
theorem rl_PV_reason {Γ : GAM} {l : Launch} {th : Nat} {p0 : Int32} {p1 : Int32} {g : GH} {K : Int32 → GH → Prop} (h0 : B_PV_reason_0 Γ K th p0 p1 g) : MetA Γ l yX10_reason cX10_reason 4 (some (.int)) 10 399 [.ref th, .int p0, .int p1] g (fun r g' => ∃ x, r = some (.int x) ∧ K x g') := by
  refine MetA.introL (Lx := [some (.ref th), some (.int p0), some (.int p1), none]) (by decide) (Nat.le_of_ble_eq_true rfl) rfl rfl ?_
  intro E hEl hE hnm
  exact S_PV_reason_0 hE th p0 p1 g h0
theorem mt_PV_reason {Γ : GAM} {l : Launch} (th : Nat) (p0 : Int32) (p1 : Int32) (g : GH) (K : Int32 → GH → Prop) (h : Sp_PV_reason Γ th p0 p1 g K) : MetA Γ l yX10_reason cX10_reason 4 (some (.int)) 10 399 [.ref th, .int p0, .int p1] g (fun r g' => ∃ x, r = some (.int x) ∧ K x g') := by
  obtain ⟨C, s, n, rfl, hI, hW, hR, hK⟩ := PVC.e h
  have he := hI.en
  obtain ⟨hkd, ⟨h1, h2⟩, -, -, -, -, hnow, hsiz⟩ := hI.pk
  have hP := hI.2.2.2.2.2.2.1
  have hlen := hW.len
  unfold p_reason at hK
  refine rl_PV_reason ?_
  unfold B_PV_reason_0 B_PV_reason_19
  refine ⟨hkd, C, s, rfl, hI, hW, hR.rc, fun u => ⟨fun _ => hK C g _ _ (if_neg u) rfl (FrC.rf he) rfl hI hR.dn, fun a z => by cases z⟩, fun e y a ok hp hy ha g' hF hC hJ hk => ⟨fun z => (by cases z), fun b hb => ?_⟩⟩
  cases hb
  have hel := (List.getElem?_eq_some_iff.mp hy).1
  have ht : y.2.2.1 ≤ p1 := by have := ok.2.2; rw [hp, sEnv_n hy (by omega)] at this; exact this
  have hr := hK C g' _ _ (if_pos ok) rfl hF.c rfl (hI.fc hF hC) (hR.fc hF)
  rw [hp, sJe_e hy (by omega)] at hr
  refine ⟨hk, ?_⟩
  rw [(hJ.e hW hy ha ht).1.2.1]
  exact hr
def Sp_PV_ruled (Γ : GAM) (x : Nat) (p0 p1 : Int32) (g : GH) (K : Int32 → GH → Prop) : Prop := PVC Γ x g K (fun s => p_ruled s p0 p1) (fun s => s)
-- the walk of PV_ruled
set_option maxRecDepth 100000 in
def B_PV_ruled_19 (Γ : GAM) (K : Int32 → GH → Prop) (s0 : Int32) (g : GH) : Prop :=
  K s0 g
set_option maxHeartbeats 4000000 in
set_option maxRecDepth 100000 in
theorem S_PV_ruled_19 {Γ : GAM} {E : EV} {K : Int32 → GH → Prop} (hE : GE Γ E cX10_ruled 4 RX10 (some (.int)) 10 399 (fun r g' => ∃ x, r = some (.int x) ∧ K x g')) (s0 : Int32) (g : GH) (h : B_PV_ruled_19 Γ K s0 g) : JW Γ E 19 [none, none, none, none] [.int s0] g := by
  unfold B_PV_ruled_19 at h
  exact j_iret hE (by decide +kernel : decode cX10_ruled 19 = .ok (.ireturn, 1)) ⟨_, rfl, h⟩
set_option maxRecDepth 100000 in
def B_PV_ruled_0 (Γ : GAM) (K : Int32 → GH → Prop) (th : Nat) (p0 : Int32) (p1 : Int32) (g : GH) : Prop :=
  Kd g th = 12 ∧ Sp_PV_judged Γ th p0 p1 g (fun (a2 : Option Nat) (g1 : GH) => ((a2 = none → B_PV_ruled_19 Γ K (-1 : Int32) g1) ∧ (∀ a3 : Nat, a2 = some a3 → Kd g1 a3 = 2 ∧ B_PV_ruled_19 Γ K (Gi g1 142 a3) g1)))
set_option maxHeartbeats 4000000 in
set_option maxRecDepth 100000 in
theorem S_PV_ruled_0 {Γ : GAM} {E : EV} {K : Int32 → GH → Prop} (hE : GE Γ E cX10_ruled 4 RX10 (some (.int)) 10 399 (fun r g' => ∃ x, r = some (.int x) ∧ K x g')) (th : Nat) (p0 : Int32) (p1 : Int32) (g : GH) (h : B_PV_ruled_0 Γ K th p0 p1 g) : JW Γ E 0 [some (.ref th), some (.int p0), some (.int p1), none] [] g := by
  unfold B_PV_ruled_0 at h
  refine j_aload_n hE (by decide +kernel : decode cX10_ruled 0 = .ok (.aload_n 0, 1)) rfl rfl ?_
  refine j_iload_n hE (by decide +kernel : decode cX10_ruled 1 = .ok (.iload_n 1, 1)) rfl rfl ?_
  refine j_iload_n hE (by decide +kernel : decode cX10_ruled 2 = .ok (.iload_n 2, 1)) rfl rfl ?_
  obtain ⟨hk, h⟩ := h
  refine j_callV hE rfl cl_X10_204 cf_11 im_X10_judged se_X10_judged ⟨by omega, by omega⟩ (As := [.int p0, .int p1]) (rest := []) rfl rfl (Nat.le_of_ble_eq_true rfl) hk (by decide +kernel : decode cX10_ruled 3 = .ok (.invokevirtual 204, 3)) (mt_PV_judged _ _ _ _ _ h) ?_
  rintro _ g1 ⟨a2, rfl, h⟩
  refine j_astore_nQ hE (by decide +kernel : decode cX10_ruled 6 = .ok (.astore_n 3, 1)) rfl (Nat.le_of_ble_eq_true rfl) rfl ?_
  refine j_aload_nQ hE (by decide +kernel : decode cX10_ruled 7 = .ok (.aload_n 3, 1)) rfl rfl ?_
  refine j_ifnonnull hE (by decide +kernel : decode cX10_ruled 8 = .ok (.ifnonnull 7, 3)) (tgt := 15) (by decide) (fun q => ?_) (fun a3 q => ?_)
  · replace h := h.1 q; subst q
    refine j_iconst hE (by decide +kernel : decode cX10_ruled 11 = .ok (.iconst (-1), 1)) (v := (-1 : Int32)) (by decide) ?_
    refine j_goto hE (by decide +kernel : decode cX10_ruled 12 = .ok (.goto 7, 3)) (tgt := 19) (by decide) ?_
    refine j_weak [none, none, none, none] trivial ?_
    exact S_PV_ruled_19 hE _ _ h
  · replace h := h.2 a3 q; subst q
    refine j_aload_n hE (by decide +kernel : decode cX10_ruled 15 = .ok (.aload_n 3, 1)) rfl rfl ?_
    obtain ⟨hk, h⟩ := h
    refine j_getI hE fg_X10_227 hk (by decide +kernel : decode cX10_ruled 16 = .ok (.getfield 227, 3)) ?_
    refine j_weak [none, none, none, none] trivial ?_
    exact S_PV_ruled_19 hE _ _ h
set_option maxHeartbeats 4000000 in
set_option maxRecDepth 100000 in
theorem rl_PV_ruled {Γ : GAM} {l : Launch} {th : Nat} {p0 : Int32} {p1 : Int32} {g : GH} {K : Int32 → GH → Prop} (h0 : B_PV_ruled_0 Γ K th p0 p1 g) : MetA Γ l yX10_ruled cX10_ruled 4 (some (.int)) 10 399 [.ref th, .int p0, .int p1] g (fun r g' => ∃ x, r = some (.int x) ∧ K x g') := by
  refine MetA.introL (Lx := [some (.ref th), some (.int p0), some (.int p1), none]) (by decide) (Nat.le_of_ble_eq_true rfl) rfl rfl ?_
  intro E hEl hE hnm
  exact S_PV_ruled_0 hE th p0 p1 g h0
theorem mt_PV_ruled {Γ : GAM} {l : Launch} (th : Nat) (p0 : Int32) (p1 : Int32) (g : GH) (K : Int32 → GH → Prop) (h : Sp_PV_ruled Γ th p0 p1 g K) : MetA Γ l yX10_ruled cX10_ruled 4 (some (.int)) 10 399 [.ref th, .int p0, .int p1] g (fun r g' => ∃ x, r = some (.int x) ∧ K x g') := by
  obtain ⟨C, s, n, rfl, hI, hW, hR, hK⟩ := PVC.e h
  have he := hI.en
  obtain ⟨hkd, ⟨h1, h2⟩, -, -, -, -, hnow, hsiz⟩ := hI.pk
  have hP := hI.2.2.2.2.2.2.1
  have hlen := hW.len
  unfold p_ruled at hK
  refine rl_PV_ruled ?_
  unfold B_PV_ruled_0 B_PV_ruled_19
  refine ⟨hkd, C, s, rfl, hI, hW, hR.rc, fun u => ⟨fun _ => hK C g _ _ (if_neg u) rfl (FrC.rf he) rfl hI hR.dn, fun a z => by cases z⟩, fun e y a ok hp hy ha g' hF hC hJ hk => ⟨fun z => (by cases z), fun b hb => ?_⟩⟩
  cases hb
  have hel := (List.getElem?_eq_some_iff.mp hy).1
  have ht : y.2.2.1 ≤ p1 := by have := ok.2.2; rw [hp, sEnv_n hy (by omega)] at this; exact this
  have hr := hK C g' _ _ (if_pos ok) rfl hF.c rfl (hI.fc hF hC) (hR.fc hF)
  rw [hp, sJe_e hy (by omega)] at hr
  refine ⟨hk, ?_⟩
  rw [(hJ.e hW hy ha ht).1.2.2.1]
  exact hr
def Sp_PV_first (Γ : GAM) (x : Nat) (p0 p1 : Int32) (g : GH) (K : Int32 → GH → Prop) : Prop := PVC Γ x g K (fun s => p_first s p0 p1) (fun s => s)
-- the walk of PV_first
set_option maxRecDepth 100000 in
def B_PV_first_21 (Γ : GAM) (K : Int32 → GH → Prop)  (g : GH) : Prop :=
  K (-1 : Int32) g
set_option maxHeartbeats 4000000 in
set_option maxRecDepth 100000 in
theorem S_PV_first_21 {Γ : GAM} {E : EV} {K : Int32 → GH → Prop} (hE : GE Γ E cX10_first 4 RX10 (some (.int)) 9 376 (fun r g' => ∃ x, r = some (.int x) ∧ K x g'))  (g : GH) (h : B_PV_first_21 Γ K  g) : JW Γ E 21 [none, none, none, none] [] g := by
  unfold B_PV_first_21 at h
  refine j_iconst hE (by decide +kernel : decode cX10_first 21 = .ok (.iconst (-1), 1)) (v := (-1 : Int32)) (by decide) ?_
  exact j_iret hE (by decide +kernel : decode cX10_first 22 = .ok (.ireturn, 1)) ⟨_, rfl, h⟩
set_option maxRecDepth 100000 in
def B_PV_first_0 (Γ : GAM) (K : Int32 → GH → Prop) (th : Nat) (p0 : Int32) (p1 : Int32) (g : GH) : Prop :=
  Kd g th = 12 ∧ ∃ a1 : Nat, Gr g 1410 th = some a1 ∧ Kd g a1 = 6 ∧ Sp_Po_voterAt Γ a1 p0 g (fun (a3 : Option Nat) (g2 : GH) => ((a3 = none → B_PV_first_21 Γ K g2) ∧ (∀ a4 : Nat, a3 = some a4 → Kd g2 th = 12 ∧ Sp_PV_isUpToNow Γ th p1 g2 (fun (x6 : Int32) (g5 : GH) => ((¬ (x6 = 0) → Kd g5 th = 12 ∧ ∃ a7 : Nat, Gr g5 1410 th = some a7 ∧ Kd g5 a7 = 6 ∧ Sp_Po_judgeOf Γ a7 a4 p1 g5 (fun (g8 : GH) => Kd g8 a4 = 11 ∧ K (Gi g8 1287 a4) g8)) ∧ (x6 = 0 → B_PV_first_21 Γ K g5))))))
set_option maxHeartbeats 4000000 in
set_option maxRecDepth 100000 in
theorem S_PV_first_0 {Γ : GAM} {E : EV} {K : Int32 → GH → Prop} (hE : GE Γ E cX10_first 4 RX10 (some (.int)) 9 376 (fun r g' => ∃ x, r = some (.int x) ∧ K x g')) (th : Nat) (p0 : Int32) (p1 : Int32) (g : GH) (h : B_PV_first_0 Γ K th p0 p1 g) : JW Γ E 0 [some (.ref th), some (.int p0), some (.int p1), none] [] g := by
  unfold B_PV_first_0 at h
  refine j_aload_n hE (by decide +kernel : decode cX10_first 0 = .ok (.aload_n 0, 1)) rfl rfl ?_
  obtain ⟨hk, h⟩ := h
  obtain ⟨a1, ha, h⟩ := h
  refine j_getRn hE fg_X10_16 hk ha (by decide +kernel : decode cX10_first 1 = .ok (.getfield 16, 3)) ?_
  refine j_iload_n hE (by decide +kernel : decode cX10_first 4 = .ok (.iload_n 1, 1)) rfl rfl ?_
  obtain ⟨hk, h⟩ := h
  refine j_callV hE rfl cl_X10_96 cf_5 im_X4_voterAt se_X4_voterAt ⟨by omega, by omega⟩ (As := [.int p0]) (rest := []) rfl rfl (Nat.le_of_ble_eq_true rfl) hk (by decide +kernel : decode cX10_first 5 = .ok (.invokevirtual 96, 3)) (mt_Po_voterAt _ _ _ _ h) ?_
  rintro _ g2 ⟨a3, rfl, h⟩
  refine j_astore_nQ hE (by decide +kernel : decode cX10_first 8 = .ok (.astore_n 3, 1)) rfl (Nat.le_of_ble_eq_true rfl) rfl ?_
  refine j_aload_nQ hE (by decide +kernel : decode cX10_first 9 = .ok (.aload_n 3, 1)) rfl rfl ?_
  refine j_ifnull hE (by decide +kernel : decode cX10_first 10 = .ok (.ifnull 11, 3)) (tgt := 21) (by decide) (fun q => ?_) (fun a4 q => ?_)
  · replace h := h.1 q; subst q
    refine j_weak [none, none, none, none] trivial ?_
    exact S_PV_first_21 hE _ h
  · replace h := h.2 a4 q; subst q
    refine j_aload_n hE (by decide +kernel : decode cX10_first 13 = .ok (.aload_n 0, 1)) rfl rfl ?_
    refine j_iload_n hE (by decide +kernel : decode cX10_first 14 = .ok (.iload_n 2, 1)) rfl rfl ?_
    obtain ⟨hk, h⟩ := h
    refine j_callV hE rfl cl_X10_100 cf_11 im_X10_isUpToNow se_X10_isUpToNow ⟨by omega, by omega⟩ (As := [.int p1]) (rest := []) rfl rfl (Nat.le_of_ble_eq_true rfl) hk (by decide +kernel : decode cX10_first 15 = .ok (.invokevirtual 100, 3)) (mt_PV_isUpToNow _ _ _ _ h) ?_
    rintro _ g5 ⟨x6, rfl, h⟩
    refine j_if_ne hE (by decide +kernel : decode cX10_first 18 = .ok (.ifCond .ne 5, 3)) (tgt := 23) (by decide) (fun q => ?_) (fun q => ?_)
    · replace h := h.1 q
      refine j_aload_n hE (by decide +kernel : decode cX10_first 23 = .ok (.aload_n 0, 1)) rfl rfl ?_
      obtain ⟨hk, h⟩ := h
      obtain ⟨a7, ha, h⟩ := h
      refine j_getRn hE fg_X10_16 hk ha (by decide +kernel : decode cX10_first 24 = .ok (.getfield 16, 3)) ?_
      refine j_aload_n hE (by decide +kernel : decode cX10_first 27 = .ok (.aload_n 3, 1)) rfl rfl ?_
      refine j_iload_n hE (by decide +kernel : decode cX10_first 28 = .ok (.iload_n 2, 1)) rfl rfl ?_
      obtain ⟨hk, h⟩ := h
      refine j_callV hE rfl cl_X10_230 cf_5 im_X4_judgeOf se_X4_judgeOf ⟨by omega, by omega⟩ (As := [.ref a4, .int p1]) (rest := []) rfl rfl (Nat.le_of_ble_eq_true rfl) hk (by decide +kernel : decode cX10_first 29 = .ok (.invokevirtual 230, 3)) (mt_Po_judgeOf _ _ _ _ _ h) ?_
      rintro _ g8 ⟨rfl, h⟩
      refine j_aload_n hE (by decide +kernel : decode cX10_first 32 = .ok (.aload_n 3, 1)) rfl rfl ?_
      obtain ⟨hk, h⟩ := h
      refine j_getI hE fg_X10_234 hk (by decide +kernel : decode cX10_first 33 = .ok (.getfield 234, 3)) ?_
      exact j_iret hE (by decide +kernel : decode cX10_first 36 = .ok (.ireturn, 1)) ⟨_, rfl, h⟩
    · replace h := h.2 q
      refine j_weak [none, none, none, none] trivial ?_
      exact S_PV_first_21 hE _ h
set_option maxHeartbeats 4000000 in
set_option maxRecDepth 100000 in
theorem rl_PV_first {Γ : GAM} {l : Launch} {th : Nat} {p0 : Int32} {p1 : Int32} {g : GH} {K : Int32 → GH → Prop} (h0 : B_PV_first_0 Γ K th p0 p1 g) : MetA Γ l yX10_first cX10_first 4 (some (.int)) 9 376 [.ref th, .int p0, .int p1] g (fun r g' => ∃ x, r = some (.int x) ∧ K x g') := by
  refine MetA.introL (Lx := [some (.ref th), some (.int p0), some (.int p1), none]) (by decide) (Nat.le_of_ble_eq_true rfl) rfl rfl ?_
  intro E hEl hE hnm
  exact S_PV_first_0 hE th p0 p1 g h0
theorem mt_PV_first {Γ : GAM} {l : Launch} (th : Nat) (p0 : Int32) (p1 : Int32) (g : GH) (K : Int32 → GH → Prop) (h : Sp_PV_first Γ th p0 p1 g K) : MetA Γ l yX10_first cX10_first 4 (some (.int)) 9 376 [.ref th, .int p0, .int p1] g (fun r g' => ∃ x, r = some (.int x) ∧ K x g') := by
  obtain ⟨C, s, n, rfl, hI, hW, hR, hK⟩ := PVC.e h
  have he := hI.en
  obtain ⟨hkd, ⟨h1, h2⟩, -, -, -, -, hnow, hsiz⟩ := hI.pk
  have hP := hI.2.2.2.2.2.2.1
  have hlen := hW.len
  unfold p_first at hK
  refine rl_PV_first ?_
  have hno : ¬ ok_first s p0 p1 → K (-1) g := fun u => hK C g _ _ (if_neg u) rfl (FrC.rf he) rfl hI hR.dn
  unfold B_PV_first_0 B_PV_first_21
  refine ⟨hkd, _, h1, h2, c_D C, s, rfl, hP, hlen.1, fun u => ⟨fun _ => hno (fun z => u z.1), fun a z => by cases z⟩, fun v x hv hvl hx hkx => ⟨fun z => (by cases z), fun a ha => ?_⟩⟩
  cases ha
  have hin : 0 ≤ p0 ∧ p0 ≤ nI (s_vot s).length - 1 := (wn_c (by omega)).mpr ⟨v, hv, hvl⟩
  refine ⟨hkd, hkd, ?_⟩
  rw [hnow]
  refine pv_ite' (fun u => hno (fun z => u z.2)) (fun u => ⟨hkd, _, h1, h2, c_D C, s, v, rfl, hP, hW, u, hx, hI.2.2.2.2.2.2.2, hR.rc, fun g' hF hC hJ => ?_⟩)
  have hxl := (hP.2.2.2.1.2.2.1 v x hx)
  obtain ⟨_, _, _, hVO, _⟩ := hxl
  refine ⟨(hF.1.1.kd hVO.1.1 (by have := hVO.1.2; omega)).1.trans hkx, ?_⟩
  rw [(hJ.1 x hx).2.2.2]
  have hr := hK C g' _ _ (if_pos ⟨hin, u⟩) rfl hF.1.c rfl (hI.fc hF.1 hC) (hR.fc hF.1)
  rw [hv] at hr
  exact hr
theorem sGd_n {s : ST} {v q : Int32} : ∃ m, m ≤ (sRow s v q).length ∧ sGd s v q (sRow s v q).length = nI m := by
  obtain ⟨m, h1, h2, -⟩ := sJu_n (s := s) (v := v) (q := q) _ (Nat.le_refl _)
  exact ⟨m, h1, by rw [← sJu_full _ (Nat.le_refl _)]; exact h2⟩
def Sp_PV_doubles (Γ : GAM) (x : Nat) (p0 : Int32) (g : GH) (K : Int32 → GH → Prop) : Prop := PVC Γ x g K (fun s => p_doubles s p0) (fun s => s)
-- the walk of PV_doubles
set_option maxRecDepth 100000 in
def B_PV_doubles_60 (Γ : GAM) (K22 : Nat → Int32 → Int32 → GH → Prop) (K : Int32 → GH → Prop) (l0 : Nat) (l2 : Int32) (l3 : Int32) (g : GH) : Prop :=
  K22 l0 l2 (l3 + (1 : Int32)) g
set_option maxHeartbeats 4000000 in
set_option maxRecDepth 100000 in
theorem S_PV_doubles_60 {Γ : GAM} {E : EV} {K : Int32 → GH → Prop} (hE : GE Γ E cX10_doubles 4 RX10 (some (.int)) 10 398 (fun r g' => ∃ x, r = some (.int x) ∧ K x g')) {K22 : Nat → Int32 → Int32 → GH → Prop} (hK22 : ∀ (l0 : Nat) (l2 : Int32) (l3 : Int32) (g : GH), K22 l0 l2 l3 g → JW Γ E 22 [some (.ref l0), none, some (.int l2), some (.int l3)] [] g) (l0 : Nat) (l2 : Int32) (l3 : Int32) (g : GH) (h : B_PV_doubles_60 Γ K22 K l0 l2 l3 g) : JW Γ E 60 [some (.ref l0), none, some (.int l2), some (.int l3)] [] g := by
  unfold B_PV_doubles_60 at h
  refine j_iinc hE (by decide +kernel : decode cX10_doubles 60 = .ok (.iinc 3 1, 3)) (v := (1 : Int32)) (by decide) rfl (Nat.le_of_ble_eq_true rfl) rfl ?_
  refine j_goto hE (by decide +kernel : decode cX10_doubles 63 = .ok (.goto (-41), 3)) (tgt := 22) (by decide) ?_
  exact hK22 _ _ _ _ h
set_option maxRecDepth 100000 in
def B_PV_doubles_22 (Γ : GAM) (K22 : Nat → Int32 → Int32 → GH → Prop) (K : Int32 → GH → Prop) (l0 : Nat) (l2 : Int32) (l3 : Int32) (g : GH) : Prop :=
  Kd g l0 = 12 ∧ ∃ a1 : Nat, Gr g 1410 l0 = some a1 ∧ Kd g a1 = 6 ∧ ∃ a2 : Nat, Gr g 640 a1 = some a2 ∧ Kd g a2 = 1 ∧ Sp_AL_size Γ a2 g (fun (x4 : Int32) (g3 : GH) => ((x4 ≤ l3 → K l2 g3) ∧ (¬ (x4 ≤ l3) → Kd g3 l0 = 12 ∧ ∃ a5 : Nat, Gr g3 1410 l0 = some a5 ∧ Kd g3 a5 = 6 ∧ ∃ a6 : Nat, Gr g3 640 a5 = some a6 ∧ Kd g3 a6 = 1 ∧ Sp_AL_get Γ a6 l3 g3 (fun (a8 : Nat) (g7 : GH) => Kd g7 a8 = 11 ∧ Kd g7 a8 = 11 ∧ (((Gi g7 1286 a8) < (2 : Int32) → B_PV_doubles_60 Γ K22 K l0 l2 l3 g7) ∧ (¬ ((Gi g7 1286 a8) < (2 : Int32)) → B_PV_doubles_60 Γ K22 K l0 (l2 + (1 : Int32)) l3 g7))))))
set_option maxHeartbeats 4000000 in
set_option maxRecDepth 100000 in
theorem S_PV_doubles_22 {Γ : GAM} {E : EV} {K : Int32 → GH → Prop} (hE : GE Γ E cX10_doubles 4 RX10 (some (.int)) 10 398 (fun r g' => ∃ x, r = some (.int x) ∧ K x g')) {K22 : Nat → Int32 → Int32 → GH → Prop} (hK22 : ∀ (l0 : Nat) (l2 : Int32) (l3 : Int32) (g : GH), K22 l0 l2 l3 g → JW Γ E 22 [some (.ref l0), none, some (.int l2), some (.int l3)] [] g) (l0 : Nat) (l2 : Int32) (l3 : Int32) (g : GH) (h : B_PV_doubles_22 Γ K22 K l0 l2 l3 g) : JW Γ E 22 [some (.ref l0), none, some (.int l2), some (.int l3)] [] g := by
  unfold B_PV_doubles_22 at h
  refine j_iload_n hE (by decide +kernel : decode cX10_doubles 22 = .ok (.iload_n 3, 1)) rfl rfl ?_
  refine j_aload_n hE (by decide +kernel : decode cX10_doubles 23 = .ok (.aload_n 0, 1)) rfl rfl ?_
  obtain ⟨hk, h⟩ := h
  obtain ⟨a1, ha, h⟩ := h
  refine j_getRn hE fg_X10_16 hk ha (by decide +kernel : decode cX10_doubles 24 = .ok (.getfield 16, 3)) ?_
  obtain ⟨hk, h⟩ := h
  obtain ⟨a2, ha, h⟩ := h
  refine j_getRn hE fg_X10_81 hk ha (by decide +kernel : decode cX10_doubles 27 = .ok (.getfield 81, 3)) ?_
  obtain ⟨hk, h⟩ := h
  refine j_callV hE rfl cl_X10_84 cf_0 im_Jx4a65c_size_8abf5 se_Jx4a65c_size_8abf5 ⟨by omega, by omega⟩ (As := []) (rest := [.int l3]) rfl rfl (Nat.le_of_ble_eq_true rfl) hk (by decide +kernel : decode cX10_doubles 30 = .ok (.invokevirtual 84, 3)) (mt_AL_size _ _ _ h) ?_
  rintro _ g3 ⟨x4, rfl, h⟩
  refine j_icmp_ge hE (by decide +kernel : decode cX10_doubles 33 = .ok (.if_icmp .ge 33, 3)) (tgt := 66) (by decide) (fun q => ?_) (fun q => ?_)
  · replace h := h.1 q
    refine j_iload_n hE (by decide +kernel : decode cX10_doubles 66 = .ok (.iload_n 2, 1)) rfl rfl ?_
    exact j_iret hE (by decide +kernel : decode cX10_doubles 67 = .ok (.ireturn, 1)) ⟨_, rfl, h⟩
  · replace h := h.2 q
    refine j_aload_n hE (by decide +kernel : decode cX10_doubles 36 = .ok (.aload_n 0, 1)) rfl rfl ?_
    obtain ⟨hk, h⟩ := h
    obtain ⟨a5, ha, h⟩ := h
    refine j_getRn hE fg_X10_16 hk ha (by decide +kernel : decode cX10_doubles 37 = .ok (.getfield 16, 3)) ?_
    obtain ⟨hk, h⟩ := h
    obtain ⟨a6, ha, h⟩ := h
    refine j_getRn hE fg_X10_81 hk ha (by decide +kernel : decode cX10_doubles 40 = .ok (.getfield 81, 3)) ?_
    refine j_iload_n hE (by decide +kernel : decode cX10_doubles 43 = .ok (.iload_n 3, 1)) rfl rfl ?_
    obtain ⟨hk, h⟩ := h
    refine j_callV hE rfl cl_X10_147 cf_0 im_Jx4a65c_get_915e3 se_Jx4a65c_get_915e3 ⟨by omega, by omega⟩ (As := [.int l3]) (rest := []) rfl rfl (Nat.le_of_ble_eq_true rfl) hk (by decide +kernel : decode cX10_doubles 44 = .ok (.invokevirtual 147, 3)) (mt_AL_get _ _ _ _ h) ?_
    rintro _ g7 ⟨a8, rfl, h⟩
    obtain ⟨hk, h⟩ := h
    refine j_cast hE cf_10 ck_X10_87 hk (by decide +kernel : decode cX10_doubles 47 = .ok (.checkcast 87, 3)) ?_
    obtain ⟨hk, h⟩ := h
    refine j_getI hE fg_X10_240 hk (by decide +kernel : decode cX10_doubles 50 = .ok (.getfield 240, 3)) ?_
    refine j_iconst hE (by decide +kernel : decode cX10_doubles 53 = .ok (.iconst 2, 1)) (v := (2 : Int32)) (by decide) ?_
    refine j_icmp_lt hE (by decide +kernel : decode cX10_doubles 54 = .ok (.if_icmp .lt 6, 3)) (tgt := 60) (by decide) (fun q => ?_) (fun q => ?_)
    · replace h := h.1 q
      exact S_PV_doubles_60 hE hK22 _ _ _ _ h
    · replace h := h.2 q
      refine j_iinc hE (by decide +kernel : decode cX10_doubles 57 = .ok (.iinc 2 1, 3)) (v := (1 : Int32)) (by decide) rfl (Nat.le_of_ble_eq_true rfl) rfl ?_
      exact S_PV_doubles_60 hE hK22 _ _ _ _ h
set_option maxRecDepth 100000 in
def B_PV_doubles_0 (Γ : GAM) (K22 : Nat → Int32 → Int32 → GH → Prop) (K : Int32 → GH → Prop) (th : Nat) (p0 : Int32) (g : GH) : Prop :=
  Kd g th = 12 ∧ Sp_PV_isUpToNow Γ th p0 g (fun (x2 : Int32) (g1 : GH) => ((¬ (x2 = 0) → Kd g1 th = 12 ∧ ∃ a3 : Nat, Gr g1 1410 th = some a3 ∧ Kd g1 a3 = 6 ∧ Sp_Po_judgeAll Γ a3 p0 g1 (fun (g4 : GH) => K22 th (0 : Int32) (0 : Int32) g4)) ∧ (x2 = 0 → K (-1 : Int32) g1)))
set_option maxHeartbeats 4000000 in
set_option maxRecDepth 100000 in
theorem S_PV_doubles_0 {Γ : GAM} {E : EV} {K : Int32 → GH → Prop} (hE : GE Γ E cX10_doubles 4 RX10 (some (.int)) 10 398 (fun r g' => ∃ x, r = some (.int x) ∧ K x g')) {K22 : Nat → Int32 → Int32 → GH → Prop} (hK22 : ∀ (l0 : Nat) (l2 : Int32) (l3 : Int32) (g : GH), K22 l0 l2 l3 g → JW Γ E 22 [some (.ref l0), none, some (.int l2), some (.int l3)] [] g) (th : Nat) (p0 : Int32) (g : GH) (h : B_PV_doubles_0 Γ K22 K th p0 g) : JW Γ E 0 [some (.ref th), some (.int p0), none, none] [] g := by
  unfold B_PV_doubles_0 at h
  refine j_aload_n hE (by decide +kernel : decode cX10_doubles 0 = .ok (.aload_n 0, 1)) rfl rfl ?_
  refine j_iload_n hE (by decide +kernel : decode cX10_doubles 1 = .ok (.iload_n 1, 1)) rfl rfl ?_
  obtain ⟨hk, h⟩ := h
  refine j_callV hE rfl cl_X10_100 cf_11 im_X10_isUpToNow se_X10_isUpToNow ⟨by omega, by omega⟩ (As := [.int p0]) (rest := []) rfl rfl (Nat.le_of_ble_eq_true rfl) hk (by decide +kernel : decode cX10_doubles 2 = .ok (.invokevirtual 100, 3)) (mt_PV_isUpToNow _ _ _ _ h) ?_
  rintro _ g1 ⟨x2, rfl, h⟩
  refine j_if_ne hE (by decide +kernel : decode cX10_doubles 5 = .ok (.ifCond .ne 5, 3)) (tgt := 10) (by decide) (fun q => ?_) (fun q => ?_)
  · replace h := h.1 q
    refine j_aload_n hE (by decide +kernel : decode cX10_doubles 10 = .ok (.aload_n 0, 1)) rfl rfl ?_
    obtain ⟨hk, h⟩ := h
    obtain ⟨a3, ha, h⟩ := h
    refine j_getRn hE fg_X10_16 hk ha (by decide +kernel : decode cX10_doubles 11 = .ok (.getfield 16, 3)) ?_
    refine j_iload_n hE (by decide +kernel : decode cX10_doubles 14 = .ok (.iload_n 1, 1)) rfl rfl ?_
    obtain ⟨hk, h⟩ := h
    refine j_callV hE rfl cl_X10_237 cf_5 im_X4_judgeAll se_X4_judgeAll ⟨by omega, by omega⟩ (As := [.int p0]) (rest := []) rfl rfl (Nat.le_of_ble_eq_true rfl) hk (by decide +kernel : decode cX10_doubles 15 = .ok (.invokevirtual 237, 3)) (mt_Po_judgeAll _ _ _ _ h) ?_
    rintro _ g4 ⟨rfl, h⟩
    refine j_iconst hE (by decide +kernel : decode cX10_doubles 18 = .ok (.iconst 0, 1)) (v := (0 : Int32)) (by decide) ?_
    refine j_istore_n hE (by decide +kernel : decode cX10_doubles 19 = .ok (.istore_n 2, 1)) rfl (Nat.le_of_ble_eq_true rfl) rfl ?_
    refine j_iconst hE (by decide +kernel : decode cX10_doubles 20 = .ok (.iconst 0, 1)) (v := (0 : Int32)) (by decide) ?_
    refine j_istore_n hE (by decide +kernel : decode cX10_doubles 21 = .ok (.istore_n 3, 1)) rfl (Nat.le_of_ble_eq_true rfl) rfl ?_
    refine j_weak [some (.ref th), none, some (.int (0 : Int32)), some (.int (0 : Int32))] ⟨rfl, ⟨rfl, ⟨rfl, trivial⟩⟩⟩ ?_
    exact hK22 _ _ _ _ h
  · replace h := h.2 q
    refine j_iconst hE (by decide +kernel : decode cX10_doubles 8 = .ok (.iconst (-1), 1)) (v := (-1 : Int32)) (by decide) ?_
    exact j_iret hE (by decide +kernel : decode cX10_doubles 9 = .ok (.ireturn, 1)) ⟨_, rfl, h⟩
set_option maxHeartbeats 4000000 in
set_option maxRecDepth 100000 in
theorem rl_PV_doubles {Γ : GAM} {l : Launch} {th : Nat} {p0 : Int32} {g : GH} {K : Int32 → GH → Prop} (I22 : Nat → Nat → Int32 → Int32 → GH → Prop) (hh22 : ∀ n (l0 : Nat) (l2 : Int32) (l3 : Int32) (g : GH), I22 n l0 l2 l3 g → B_PV_doubles_22 Γ (fun l0 l2 l3 g => ∃ m, m < n ∧ I22 m l0 l2 l3 g) K l0 l2 l3 g) (h0 : B_PV_doubles_0 Γ (fun l0 l2 l3 g => ∃ m, I22 m l0 l2 l3 g) K th p0 g) : MetA Γ l yX10_doubles cX10_doubles 4 (some (.int)) 10 398 [.ref th, .int p0] g (fun r g' => ∃ x, r = some (.int x) ∧ K x g') := by
  refine MetA.introL (Lx := [some (.ref th), some (.int p0), none, none]) (by decide) (Nat.le_of_ble_eq_true rfl) rfl rfl ?_
  intro E hEl hE hnm
  have hall : ∀ n, (∀ (l0 : Nat) (l2 : Int32) (l3 : Int32) (g : GH), I22 n l0 l2 l3 g → JW Γ E 22 [some (.ref l0), none, some (.int l2), some (.int l3)] [] g) := by
    intro n
    induction n using Nat.strongRecOn with
    | ind n ih =>
      exact fun l0 l2 l3 g hi => S_PV_doubles_22 hE (fun l0 l2 l3 g hm => by obtain ⟨m, hm, h⟩ := hm; exact (ih m hm) l0 l2 l3 g h) l0 l2 l3 g (hh22 n l0 l2 l3 g hi)
  exact S_PV_doubles_0 hE (fun l0 l2 l3 g hm => by obtain ⟨m, h⟩ := hm; exact (hall m) l0 l2 l3 g h) th p0 g h0
theorem mt_PV_doubles {Γ : GAM} {l : Launch} (th : Nat) (p0 : Int32) (g : GH) (K : Int32 → GH → Prop) (h : Sp_PV_doubles Γ th p0 g K) : MetA Γ l yX10_doubles cX10_doubles 4 (some (.int)) 10 398 [.ref th, .int p0] g (fun r g' => ∃ x, r = some (.int x) ∧ K x g') := by
  obtain ⟨C, s, n, rfl, hI, hW, hR, hK⟩ := PVC.e h
  have he := hI.en
  obtain ⟨hkd, ⟨h1, h2⟩, -, -, -, -, hnow, hsiz⟩ := hI.pk
  have hP := hI.2.2.2.2.2.2.1
  have hlen := hW.len
  unfold p_doubles at hK
  refine rl_PV_doubles (fun n l0 l2 l3 g' => c_x C = l0 ∧ (0 ≤ p0 ∧ p0 ≤ s_now s) ∧ ∃ k, k ≤ (s_vot s).length ∧ n = (s_vot s).length - k ∧ l3 = nI k ∧ l2 = sDb s p0 k ∧ FC (c_D C) g g' ∧ COM Γ (c_D C) g' ∧ JA (c_D C) s p0 (s_vot s).length g') ?_ ?_
  · rintro n l0 l2 l3 g' ⟨rfl, hq, k, hk, rfl, rfl, rfl, hF, hC, hJ⟩
    have hI' := hI.fc hF hC
    have hP' := hI'.2.2.2.2.2.2.1
    obtain ⟨hkd', ⟨k1, k2⟩, -⟩ := hI'.pk
    obtain ⟨-, z2, z3, z4⟩ := hP'.sz
    suffices H : ∀ (K22 : Nat → Int32 → Int32 → GH → Prop), (k < (s_vot s).length → K22 (c_x C) (sDb s p0 (k + 1)) (nI (k + 1)) g') → B_PV_doubles_22 Γ K22 K (c_x C) (sDb s p0 k) (nI k) g' from
      H _ (fun hlt => ⟨(s_vot s).length - (k + 1), by omega, rfl, hq, k + 1, hlt, rfl, rfl, rfl, hF, hC, hJ⟩)
    intro K22 hn
    unfold B_PV_doubles_22 B_PV_doubles_60
    refine ⟨hkd', _, k1, k2, _, z2, z3, hP'.vsz ?_⟩
    rw [nj_le (by omega) (by omega)]
    refine ⟨fun u => ?_, fun u => ⟨hkd', _, k1, k2, _, z2, z3, hP'.vget (by omega) (fun x hx hV => ?_)⟩⟩
    · rw [show k = (s_vot s).length by omega]
      exact hK C g' _ _ (if_pos hq) rfl hF.c rfl hI' (hR.fc hF)
    · have hlt : k < (s_vot s).length := by omega
      obtain ⟨_, _, _, hVO, _⟩ := hV
      have hsb : sDb s p0 (k + 1) = sDb s p0 k + (if sGd s (nI k) p0 (sRow s (nI k) p0).length ≤ 1 then 0 else 1) := fold_take _ _ _ (range_get hlt)
      have hg := ((hJ k hlt).1 x hx).2.2.1
      rw [sJu_full _ (Nat.le_refl _)] at hg
      obtain ⟨m, hm1, hm2⟩ := sGd_n (s := s) (v := nI k) (q := p0)
      have hRl := (sRow_ok s (nI k) p0).2.1
      rw [hm2] at hg hsb
      have e1 : nI m < 2 ↔ m < 2 := nj_lt (b := 2) (by omega) (by omega)
      have e2 : nI m ≤ 1 ↔ m ≤ 1 := nj_le (b := 1) (by omega) (by omega)
      rw [hg, e1, nj_s]
      have hn' := hn hlt
      rw [hsb] at hn'
      refine ⟨hVO.1.2, hVO.1.2, fun u1 => ?_, fun u1 => ?_⟩
      · rw [if_pos (e2.mpr (by omega)), Int32.add_zero] at hn'; exact hn'
      · rw [if_neg (fun z => u1 (by have := e2.mp z; omega))] at hn'; exact hn'
  · unfold B_PV_doubles_0
    refine ⟨hkd, hkd, ?_⟩
    rw [hnow]
    refine pv_ite' (fun u => hK C g _ _ (if_neg u) rfl (FrC.rf he) rfl hI hR.dn) (fun u => ⟨hkd, _, h1, h2, c_D C, s, rfl, hP, hW, u, hI.2.2.2.2.2.2.2, hR.rc, fun g' hF hC hJ => ?_⟩)
    exact ⟨_, rfl, u, 0, Nat.zero_le _, rfl, nj_0, rfl, hF.1, hC, hJ⟩
/-! sums, in whichever order -/
def sS {α : Type} (l : List α) (f : α → Int32) : Int32 := l.foldl (fun a x => a + f x) 0
theorem sS_a {α : Type} (f : α → Int32) : ∀ (l : List α) (b : Int32), l.foldl (fun a x => a + f x) b = b + sS l f := by
  intro l
  unfold sS
  induction l with
  | nil => intro b; simp
  | cons x l ih =>
    intro b
    rw [List.foldl_cons, List.foldl_cons, ih, ih (0 + f x), Int32.zero_add, Int32.add_assoc]
theorem sS_c {α : Type} (f : α → Int32) (x : α) (l : List α) : sS (x :: l) f = f x + sS l f := by
  show (x :: l).foldl (fun a x => a + f x) 0 = _
  rw [List.foldl_cons, sS_a, Int32.zero_add]
theorem sS_add {α : Type} (f h : α → Int32) : ∀ l : List α, sS l (fun x => f x + h x) = sS l f + sS l h := by
  intro l
  induction l with
  | nil => exact (Int32.add_zero 0).symm
  | cons x l ih =>
    rw [sS_c, sS_c, sS_c, ih]
    rw [Int32.add_assoc, Int32.add_assoc, ← Int32.add_assoc (h x), Int32.add_comm (h x), Int32.add_assoc]
theorem sS_zero {α : Type} (f : α → Int32) : ∀ l : List α, (∀ x ∈ l, f x = 0) → sS l f = 0 := by
  intro l
  induction l with
  | nil => intro _; rfl
  | cons x l ih =>
    intro h
    rw [sS_c, h x List.mem_cons_self, ih (fun y hy => h y (List.mem_cons_of_mem _ hy))]; rfl
theorem sS_cg {α : Type} {f h : α → Int32} : ∀ {l : List α}, (∀ x ∈ l, f x = h x) → sS l f = sS l h := by
  intro l
  induction l with
  | nil => intro _; rfl
  | cons x l ih =>
    intro e
    rw [sS_c, sS_c, e x List.mem_cons_self, ih (fun y hy => e y (List.mem_cons_of_mem _ hy))]
theorem sS_sw {α β : Type} (f : α → β → Int32) (l2 : List β) : ∀ l1 : List α, sS l1 (fun x => sS l2 (fun y => f x y)) = sS l2 (fun y => sS l1 (fun x => f x y)) := by
  intro l1
  induction l1 with
  | nil => exact (sS_zero _ _ (fun _ _ => rfl)).symm
  | cons x l1 ih =>
    rw [sS_c, ih, ← sS_add]
    exact sS_cg (fun y _ => (sS_c (fun x => f x y) x l1).symm)
theorem sS_one {f : Nat → Int32} {a : Nat} : ∀ {n : Nat}, a < n → (∀ i, i < n → i ≠ a → f i = 0) → sS (List.range n) f = f a := by
  intro n
  induction n with
  | zero => intro h; omega
  | succ n ih =>
    intro h hz
    have e : sS (List.range (n + 1)) f = sS (List.range n) f + f n := by
      unfold sS
      rw [List.range_succ, List.foldl_append]; rfl
    rw [e]
    by_cases z : a = n
    · rw [sS_zero f _ (fun i hi => hz i (by have := List.mem_range.mp hi; omega) (by have := List.mem_range.mp hi; omega)), Int32.zero_add, z]
    · rw [ih (by omega) (fun i hi hn => hz i (by omega) hn), hz n (by omega) (fun w => z w.symm), Int32.add_zero]
/-- of which state an envelope is, by its number -/
def stE2 (s : ST) (q : Int32) (p : Em × Nat) : Int32 := if p.1.2.2.1 ≤ q then (sJ s p.1.1 q p.2).1 else -1
def mnF (s : ST) (sh st q : Int32) (p : Em × Nat) : Int32 := if stE2 s q p = st ∧ sShire s p.1.1.toNatClampNeg (sDf s p q) q = sh then 1 else 0
theorem sMn_eq {s : ST} (hW : WF s) {sh st q : Int32} (hst : st ≠ -1) : sMn s sh st q (s_vot s).length = sS (s_env s).zipIdx (mnF s sh st q) := by
  have h60 := hW.len.1
  obtain ⟨F, hF⟩ : ∃ F : Nat → Em × Nat → Int32, F = fun v p => if p.1.1 = nI v ∧ p.1.2.2.1 ≤ q ∧ (sJ s (nI v) q p.2).1 = st then (if sShire s v (sDf s p q) q = sh then 1 else 0) else 0 := ⟨_, rfl⟩
  have h1 : ∀ v a, sMv s sh st q v a (s_env s).length = a + sS (s_env s).zipIdx (F v) := fun v a => by
    unfold sMv
    rw [List.take_of_length_le (by rw [List.length_zipIdx]; exact Nat.le_refl _), ← sS_a]
    refine fold_cg _ _ (fun b p _ => ?_)
    unfold mS
    rw [hF]
    simp only
    split
    · rfl
    · rw [Int32.add_zero]
  have h2 : sMn s sh st q (s_vot s).length = sS (List.range (s_vot s).length) (fun v => sS (s_env s).zipIdx (F v)) := by
    unfold sMn sS
    rw [List.take_of_length_le (by simp)]
    exact fold_cg _ _ (fun b v _ => h1 v b)
  rw [h2, sS_sw (fun v p => F v p)]
  refine sS_cg (fun p hp => ?_)
  have hm := List.mem_zipIdx hp
  have hmem : p.1 ∈ s_env s := by rw [hm.2.2]; exact List.getElem_mem _
  obtain ⟨⟨w1, w2⟩, -⟩ := hW.env p.1 hmem
  have hn := nj_of w1
  rw [sS_one w2 (fun i hi hne => ?_)]
  · rw [hF]
    unfold mnF stE2
    simp only
    rw [← hn.1]
    by_cases ht : p.1.2.2.1 ≤ q
    · simp only [ht, eq_self, true_and, if_true]
      by_cases z : (sJ s p.1.1 q p.2).1 = st
      · simp only [z, true_and, if_true]
      · simp only [z, false_and, if_false]
    · have hst' : ¬ (-1 : Int32) = st := fun z => hst z.symm
      simp only [ht, false_and, and_false, if_false, hst']
  · rw [hF]
    simp only
    rw [if_neg]
    rintro ⟨z, _⟩
    rw [hn.1] at z
    exact hne ((nj_eq (by omega) (by omega)).mp z).symm
def Sp_PV_many (Γ : GAM) (x : Nat) (p0 p1 p2 : Int32) (g : GH) (K : Int32 → GH → Prop) : Prop := PVC Γ x g K (fun s => p_many s p0 p1 p2) (fun s => s)
-- the walk of PV_many
set_option maxRecDepth 100000 in
def B_PV_many_94 (Γ : GAM) (K40 : Nat → Int32 → Int32 → Int32 → Int32 → Int32 → GH → Prop) (K : Int32 → GH → Prop) (l0 : Nat) (l1 : Int32) (l2 : Int32) (l3 : Int32) (l4 : Int32) (l5 : Int32) (g : GH) : Prop :=
  K40 l0 l1 l2 l3 l4 (l5 + (1 : Int32)) g
set_option maxHeartbeats 4000000 in
set_option maxRecDepth 100000 in
theorem S_PV_many_94 {Γ : GAM} {E : EV} {K : Int32 → GH → Prop} (hE : GE Γ E cX10_many 7 RX10 (some (.int)) 10 398 (fun r g' => ∃ x, r = some (.int x) ∧ K x g')) {K40 : Nat → Int32 → Int32 → Int32 → Int32 → Int32 → GH → Prop} (hK40 : ∀ (l0 : Nat) (l1 : Int32) (l2 : Int32) (l3 : Int32) (l4 : Int32) (l5 : Int32) (g : GH), K40 l0 l1 l2 l3 l4 l5 g → JW Γ E 40 [some (.ref l0), some (.int l1), some (.int l2), some (.int l3), some (.int l4), some (.int l5), none] [] g) (l0 : Nat) (l1 : Int32) (l2 : Int32) (l3 : Int32) (l4 : Int32) (l5 : Int32) (g : GH) (h : B_PV_many_94 Γ K40 K l0 l1 l2 l3 l4 l5 g) : JW Γ E 94 [some (.ref l0), some (.int l1), some (.int l2), some (.int l3), some (.int l4), some (.int l5), none] [] g := by
  unfold B_PV_many_94 at h
  refine j_iinc hE (by decide +kernel : decode cX10_many 94 = .ok (.iinc 5 1, 3)) (v := (1 : Int32)) (by decide) rfl (Nat.le_of_ble_eq_true rfl) rfl ?_
  refine j_goto hE (by decide +kernel : decode cX10_many 97 = .ok (.goto (-57), 3)) (tgt := 40) (by decide) ?_
  exact hK40 _ _ _ _ _ _ _ h
set_option maxRecDepth 100000 in
def B_PV_many_40 (Γ : GAM) (K40 : Nat → Int32 → Int32 → Int32 → Int32 → Int32 → GH → Prop) (K : Int32 → GH → Prop) (l0 : Nat) (l1 : Int32) (l2 : Int32) (l3 : Int32) (l4 : Int32) (l5 : Int32) (g : GH) : Prop :=
  Kd g l0 = 12 ∧ ∃ a1 : Nat, Gr g 1410 l0 = some a1 ∧ Kd g a1 = 6 ∧ ∃ a2 : Nat, Gr g 641 a1 = some a2 ∧ Kd g a2 = 1 ∧ Sp_AL_size Γ a2 g (fun (x4 : Int32) (g3 : GH) => ((x4 ≤ l5 → K l4 g3) ∧ (¬ (x4 ≤ l5) → Kd g3 l0 = 12 ∧ ∃ a5 : Nat, Gr g3 1410 l0 = some a5 ∧ Kd g3 a5 = 6 ∧ ∃ a6 : Nat, Gr g3 641 a5 = some a6 ∧ Kd g3 a6 = 1 ∧ Sp_AL_get Γ a6 l5 g3 (fun (a8 : Nat) (g7 : GH) => Kd g7 a8 = 2 ∧ Kd g7 a8 = 2 ∧ ((¬ ((Gi g7 140 a8) = l2) → B_PV_many_94 Γ K40 K l0 l1 l2 l3 l4 l5 g7) ∧ ((Gi g7 140 a8) = l2 → Kd g7 a8 = 2 ∧ Sp_En_shireOf Γ a8 l3 g7 (fun (x10 : Int32) (g9 : GH) => ((¬ (x10 = l1) → B_PV_many_94 Γ K40 K l0 l1 l2 l3 l4 l5 g9) ∧ (x10 = l1 → B_PV_many_94 Γ K40 K l0 l1 l2 l3 (l4 + (1 : Int32)) l5 g9)))))))))
set_option maxHeartbeats 4000000 in
set_option maxRecDepth 100000 in
theorem S_PV_many_40 {Γ : GAM} {E : EV} {K : Int32 → GH → Prop} (hE : GE Γ E cX10_many 7 RX10 (some (.int)) 10 398 (fun r g' => ∃ x, r = some (.int x) ∧ K x g')) {K40 : Nat → Int32 → Int32 → Int32 → Int32 → Int32 → GH → Prop} (hK40 : ∀ (l0 : Nat) (l1 : Int32) (l2 : Int32) (l3 : Int32) (l4 : Int32) (l5 : Int32) (g : GH), K40 l0 l1 l2 l3 l4 l5 g → JW Γ E 40 [some (.ref l0), some (.int l1), some (.int l2), some (.int l3), some (.int l4), some (.int l5), none] [] g) (l0 : Nat) (l1 : Int32) (l2 : Int32) (l3 : Int32) (l4 : Int32) (l5 : Int32) (g : GH) (h : B_PV_many_40 Γ K40 K l0 l1 l2 l3 l4 l5 g) : JW Γ E 40 [some (.ref l0), some (.int l1), some (.int l2), some (.int l3), some (.int l4), some (.int l5), none] [] g := by
  unfold B_PV_many_40 at h
  refine j_iload hE (by decide +kernel : decode cX10_many 40 = .ok (.iload 5, 2)) rfl ?_
  refine j_aload_n hE (by decide +kernel : decode cX10_many 42 = .ok (.aload_n 0, 1)) rfl rfl ?_
  obtain ⟨hk, h⟩ := h
  obtain ⟨a1, ha, h⟩ := h
  refine j_getRn hE fg_X10_16 hk ha (by decide +kernel : decode cX10_many 43 = .ok (.getfield 16, 3)) ?_
  obtain ⟨hk, h⟩ := h
  obtain ⟨a2, ha, h⟩ := h
  refine j_getRn hE fg_X10_124 hk ha (by decide +kernel : decode cX10_many 46 = .ok (.getfield 124, 3)) ?_
  obtain ⟨hk, h⟩ := h
  refine j_callV hE rfl cl_X10_84 cf_0 im_Jx4a65c_size_8abf5 se_Jx4a65c_size_8abf5 ⟨by omega, by omega⟩ (As := []) (rest := [.int l5]) rfl rfl (Nat.le_of_ble_eq_true rfl) hk (by decide +kernel : decode cX10_many 49 = .ok (.invokevirtual 84, 3)) (mt_AL_size _ _ _ h) ?_
  rintro _ g3 ⟨x4, rfl, h⟩
  refine j_icmp_ge hE (by decide +kernel : decode cX10_many 52 = .ok (.if_icmp .ge 48, 3)) (tgt := 100) (by decide) (fun q => ?_) (fun q => ?_)
  · replace h := h.1 q
    refine j_iload hE (by decide +kernel : decode cX10_many 100 = .ok (.iload 4, 2)) rfl ?_
    exact j_iret hE (by decide +kernel : decode cX10_many 102 = .ok (.ireturn, 1)) ⟨_, rfl, h⟩
  · replace h := h.2 q
    refine j_aload_n hE (by decide +kernel : decode cX10_many 55 = .ok (.aload_n 0, 1)) rfl rfl ?_
    obtain ⟨hk, h⟩ := h
    obtain ⟨a5, ha, h⟩ := h
    refine j_getRn hE fg_X10_16 hk ha (by decide +kernel : decode cX10_many 56 = .ok (.getfield 16, 3)) ?_
    obtain ⟨hk, h⟩ := h
    obtain ⟨a6, ha, h⟩ := h
    refine j_getRn hE fg_X10_124 hk ha (by decide +kernel : decode cX10_many 59 = .ok (.getfield 124, 3)) ?_
    refine j_iload hE (by decide +kernel : decode cX10_many 62 = .ok (.iload 5, 2)) rfl ?_
    obtain ⟨hk, h⟩ := h
    refine j_callV hE rfl cl_X10_147 cf_0 im_Jx4a65c_get_915e3 se_Jx4a65c_get_915e3 ⟨by omega, by omega⟩ (As := [.int l5]) (rest := []) rfl rfl (Nat.le_of_ble_eq_true rfl) hk (by decide +kernel : decode cX10_many 64 = .ok (.invokevirtual 147, 3)) (mt_AL_get _ _ _ _ h) ?_
    rintro _ g7 ⟨a8, rfl, h⟩
    obtain ⟨hk, h⟩ := h
    refine j_cast hE cf_1 ck_X10_127 hk (by decide +kernel : decode cX10_many 67 = .ok (.checkcast 127, 3)) ?_
    refine j_astore hE (by decide +kernel : decode cX10_many 70 = .ok (.astore 6, 2)) (Nat.le_of_ble_eq_true rfl) rfl ?_
    refine j_aload hE (by decide +kernel : decode cX10_many 72 = .ok (.aload 6, 2)) rfl ?_
    obtain ⟨hk, h⟩ := h
    refine j_getI hE fg_X10_221 hk (by decide +kernel : decode cX10_many 74 = .ok (.getfield 221, 3)) ?_
    refine j_iload_n hE (by decide +kernel : decode cX10_many 77 = .ok (.iload_n 2, 1)) rfl rfl ?_
    refine j_icmp_ne hE (by decide +kernel : decode cX10_many 78 = .ok (.if_icmp .ne 16, 3)) (tgt := 94) (by decide) (fun q => ?_) (fun q => ?_)
    · replace h := h.1 q
      refine j_weak [some (.ref l0), some (.int l1), some (.int l2), some (.int l3), some (.int l4), some (.int l5), none] ⟨rfl, ⟨rfl, ⟨rfl, ⟨rfl, ⟨rfl, ⟨rfl, trivial⟩⟩⟩⟩⟩⟩ ?_
      exact S_PV_many_94 hE hK40 _ _ _ _ _ _ _ h
    · replace h := h.2 q
      refine j_aload hE (by decide +kernel : decode cX10_many 81 = .ok (.aload 6, 2)) rfl ?_
      refine j_iload_n hE (by decide +kernel : decode cX10_many 83 = .ok (.iload_n 3, 1)) rfl rfl ?_
      obtain ⟨hk, h⟩ := h
      refine j_callV hE rfl cl_X10_243 cf_1 im_X0_shireOf se_X0_shireOf ⟨by omega, by omega⟩ (As := [.int l3]) (rest := []) rfl rfl (Nat.le_of_ble_eq_true rfl) hk (by decide +kernel : decode cX10_many 84 = .ok (.invokevirtual 243, 3)) (mt_En_shireOf _ _ _ _ h) ?_
      rintro _ g9 ⟨x10, rfl, h⟩
      refine j_iload_n hE (by decide +kernel : decode cX10_many 87 = .ok (.iload_n 1, 1)) rfl rfl ?_
      refine j_icmp_ne hE (by decide +kernel : decode cX10_many 88 = .ok (.if_icmp .ne 6, 3)) (tgt := 94) (by decide) (fun q => ?_) (fun q => ?_)
      · replace h := h.1 q
        refine j_weak [some (.ref l0), some (.int l1), some (.int l2), some (.int l3), some (.int l4), some (.int l5), none] ⟨rfl, ⟨rfl, ⟨rfl, ⟨rfl, ⟨rfl, ⟨rfl, trivial⟩⟩⟩⟩⟩⟩ ?_
        exact S_PV_many_94 hE hK40 _ _ _ _ _ _ _ h
      · replace h := h.2 q
        refine j_iinc hE (by decide +kernel : decode cX10_many 91 = .ok (.iinc 4 1, 3)) (v := (1 : Int32)) (by decide) rfl (Nat.le_of_ble_eq_true rfl) rfl ?_
        refine j_weak [some (.ref l0), some (.int l1), some (.int l2), some (.int l3), some (.int (l4 + (1 : Int32))), some (.int l5), none] ⟨rfl, ⟨rfl, ⟨rfl, ⟨rfl, ⟨rfl, ⟨rfl, trivial⟩⟩⟩⟩⟩⟩ ?_
        exact S_PV_many_94 hE hK40 _ _ _ _ _ _ _ h
set_option maxRecDepth 100000 in
def B_PV_many_24 (Γ : GAM) (K40 : Nat → Int32 → Int32 → Int32 → Int32 → Int32 → GH → Prop) (K : Int32 → GH → Prop)  (g : GH) : Prop :=
  K (-1 : Int32) g
set_option maxHeartbeats 4000000 in
set_option maxRecDepth 100000 in
theorem S_PV_many_24 {Γ : GAM} {E : EV} {K : Int32 → GH → Prop} (hE : GE Γ E cX10_many 7 RX10 (some (.int)) 10 398 (fun r g' => ∃ x, r = some (.int x) ∧ K x g')) {K40 : Nat → Int32 → Int32 → Int32 → Int32 → Int32 → GH → Prop} (hK40 : ∀ (l0 : Nat) (l1 : Int32) (l2 : Int32) (l3 : Int32) (l4 : Int32) (l5 : Int32) (g : GH), K40 l0 l1 l2 l3 l4 l5 g → JW Γ E 40 [some (.ref l0), some (.int l1), some (.int l2), some (.int l3), some (.int l4), some (.int l5), none] [] g)  (g : GH) (h : B_PV_many_24 Γ K40 K  g) : JW Γ E 24 [none, none, none, none, none, none, none] [] g := by
  unfold B_PV_many_24 at h
  refine j_iconst hE (by decide +kernel : decode cX10_many 24 = .ok (.iconst (-1), 1)) (v := (-1 : Int32)) (by decide) ?_
  exact j_iret hE (by decide +kernel : decode cX10_many 25 = .ok (.ireturn, 1)) ⟨_, rfl, h⟩
set_option maxRecDepth 100000 in
def B_PV_many_0 (Γ : GAM) (K40 : Nat → Int32 → Int32 → Int32 → Int32 → Int32 → GH → Prop) (K : Int32 → GH → Prop) (th : Nat) (p0 : Int32) (p1 : Int32) (p2 : Int32) (g : GH) : Prop :=
  Sp_PV_isShire Γ p0 g (fun (x2 : Int32) (g1 : GH) => ((x2 = 0 → B_PV_many_24 Γ K40 K g1) ∧ (¬ (x2 = 0) → Sp_PV_isWithin Γ p1 (0 : Int32) (4 : Int32) g1 (fun (x4 : Int32) (g3 : GH) => ((x4 = 0 → B_PV_many_24 Γ K40 K g3) ∧ (¬ (x4 = 0) → Kd g3 th = 12 ∧ Sp_PV_isUpToNow Γ th p2 g3 (fun (x6 : Int32) (g5 : GH) => ((¬ (x6 = 0) → Kd g5 th = 12 ∧ ∃ a7 : Nat, Gr g5 1410 th = some a7 ∧ Kd g5 a7 = 6 ∧ Sp_Po_judgeAll Γ a7 p2 g5 (fun (g8 : GH) => K40 th p0 p1 p2 (0 : Int32) (0 : Int32) g8)) ∧ (x6 = 0 → B_PV_many_24 Γ K40 K g5)))))))))
set_option maxHeartbeats 4000000 in
set_option maxRecDepth 100000 in
theorem S_PV_many_0 {Γ : GAM} {E : EV} {K : Int32 → GH → Prop} (hE : GE Γ E cX10_many 7 RX10 (some (.int)) 10 398 (fun r g' => ∃ x, r = some (.int x) ∧ K x g')) {K40 : Nat → Int32 → Int32 → Int32 → Int32 → Int32 → GH → Prop} (hK40 : ∀ (l0 : Nat) (l1 : Int32) (l2 : Int32) (l3 : Int32) (l4 : Int32) (l5 : Int32) (g : GH), K40 l0 l1 l2 l3 l4 l5 g → JW Γ E 40 [some (.ref l0), some (.int l1), some (.int l2), some (.int l3), some (.int l4), some (.int l5), none] [] g) (th : Nat) (p0 : Int32) (p1 : Int32) (p2 : Int32) (g : GH) (h : B_PV_many_0 Γ K40 K th p0 p1 p2 g) : JW Γ E 0 [some (.ref th), some (.int p0), some (.int p1), some (.int p2), none, none, none] [] g := by
  unfold B_PV_many_0 at h
  refine j_iload_n hE (by decide +kernel : decode cX10_many 0 = .ok (.iload_n 1, 1)) rfl rfl ?_
  refine j_callS hE rfl cl_X10_71 st_X10_isShire ⟨by omega, by omega⟩ (As := [.int p0]) (rest := []) rfl rfl (Nat.le_of_ble_eq_true rfl) (by decide +kernel : decode cX10_many 1 = .ok (.invokestatic 71, 3)) (mt_PV_isShire _ _ _ h) ?_
  rintro _ g1 ⟨x2, rfl, h⟩
  refine j_if_eq hE (by decide +kernel : decode cX10_many 4 = .ok (.ifCond .eq 20, 3)) (tgt := 24) (by decide) (fun q => ?_) (fun q => ?_)
  · replace h := h.1 q
    refine j_weak [none, none, none, none, none, none, none] trivial ?_
    exact S_PV_many_24 hE hK40 _ h
  · replace h := h.2 q
    refine j_iload_n hE (by decide +kernel : decode cX10_many 7 = .ok (.iload_n 2, 1)) rfl rfl ?_
    refine j_iconst hE (by decide +kernel : decode cX10_many 8 = .ok (.iconst 0, 1)) (v := (0 : Int32)) (by decide) ?_
    refine j_iconst hE (by decide +kernel : decode cX10_many 9 = .ok (.iconst 4, 1)) (v := (4 : Int32)) (by decide) ?_
    refine j_callS hE rfl cl_X10_64 st_X10_isWithin ⟨by omega, by omega⟩ (As := [.int p1, .int (0 : Int32), .int (4 : Int32)]) (rest := []) rfl rfl (Nat.le_of_ble_eq_true rfl) (by decide +kernel : decode cX10_many 10 = .ok (.invokestatic 64, 3)) (mt_PV_isWithin _ _ _ _ _ h) ?_
    rintro _ g3 ⟨x4, rfl, h⟩
    refine j_if_eq hE (by decide +kernel : decode cX10_many 13 = .ok (.ifCond .eq 11, 3)) (tgt := 24) (by decide) (fun q => ?_) (fun q => ?_)
    · replace h := h.1 q
      refine j_weak [none, none, none, none, none, none, none] trivial ?_
      exact S_PV_many_24 hE hK40 _ h
    · replace h := h.2 q
      refine j_aload_n hE (by decide +kernel : decode cX10_many 16 = .ok (.aload_n 0, 1)) rfl rfl ?_
      refine j_iload_n hE (by decide +kernel : decode cX10_many 17 = .ok (.iload_n 3, 1)) rfl rfl ?_
      obtain ⟨hk, h⟩ := h
      refine j_callV hE rfl cl_X10_100 cf_11 im_X10_isUpToNow se_X10_isUpToNow ⟨by omega, by omega⟩ (As := [.int p2]) (rest := []) rfl rfl (Nat.le_of_ble_eq_true rfl) hk (by decide +kernel : decode cX10_many 18 = .ok (.invokevirtual 100, 3)) (mt_PV_isUpToNow _ _ _ _ h) ?_
      rintro _ g5 ⟨x6, rfl, h⟩
      refine j_if_ne hE (by decide +kernel : decode cX10_many 21 = .ok (.ifCond .ne 5, 3)) (tgt := 26) (by decide) (fun q => ?_) (fun q => ?_)
      · replace h := h.1 q
        refine j_aload_n hE (by decide +kernel : decode cX10_many 26 = .ok (.aload_n 0, 1)) rfl rfl ?_
        obtain ⟨hk, h⟩ := h
        obtain ⟨a7, ha, h⟩ := h
        refine j_getRn hE fg_X10_16 hk ha (by decide +kernel : decode cX10_many 27 = .ok (.getfield 16, 3)) ?_
        refine j_iload_n hE (by decide +kernel : decode cX10_many 30 = .ok (.iload_n 3, 1)) rfl rfl ?_
        obtain ⟨hk, h⟩ := h
        refine j_callV hE rfl cl_X10_237 cf_5 im_X4_judgeAll se_X4_judgeAll ⟨by omega, by omega⟩ (As := [.int p2]) (rest := []) rfl rfl (Nat.le_of_ble_eq_true rfl) hk (by decide +kernel : decode cX10_many 31 = .ok (.invokevirtual 237, 3)) (mt_Po_judgeAll _ _ _ _ h) ?_
        rintro _ g8 ⟨rfl, h⟩
        refine j_iconst hE (by decide +kernel : decode cX10_many 34 = .ok (.iconst 0, 1)) (v := (0 : Int32)) (by decide) ?_
        refine j_istore hE (by decide +kernel : decode cX10_many 35 = .ok (.istore 4, 2)) (Nat.le_of_ble_eq_true rfl) rfl ?_
        refine j_iconst hE (by decide +kernel : decode cX10_many 37 = .ok (.iconst 0, 1)) (v := (0 : Int32)) (by decide) ?_
        refine j_istore hE (by decide +kernel : decode cX10_many 38 = .ok (.istore 5, 2)) (Nat.le_of_ble_eq_true rfl) rfl ?_
        exact hK40 _ _ _ _ _ _ _ h
      · replace h := h.2 q
        refine j_weak [none, none, none, none, none, none, none] trivial ?_
        exact S_PV_many_24 hE hK40 _ h
set_option maxHeartbeats 4000000 in
set_option maxRecDepth 100000 in
theorem rl_PV_many {Γ : GAM} {l : Launch} {th : Nat} {p0 : Int32} {p1 : Int32} {p2 : Int32} {g : GH} {K : Int32 → GH → Prop} (I40 : Nat → Nat → Int32 → Int32 → Int32 → Int32 → Int32 → GH → Prop) (hh40 : ∀ n (l0 : Nat) (l1 : Int32) (l2 : Int32) (l3 : Int32) (l4 : Int32) (l5 : Int32) (g : GH), I40 n l0 l1 l2 l3 l4 l5 g → B_PV_many_40 Γ (fun l0 l1 l2 l3 l4 l5 g => ∃ m, m < n ∧ I40 m l0 l1 l2 l3 l4 l5 g) K l0 l1 l2 l3 l4 l5 g) (h0 : B_PV_many_0 Γ (fun l0 l1 l2 l3 l4 l5 g => ∃ m, I40 m l0 l1 l2 l3 l4 l5 g) K th p0 p1 p2 g) : MetA Γ l yX10_many cX10_many 7 (some (.int)) 10 398 [.ref th, .int p0, .int p1, .int p2] g (fun r g' => ∃ x, r = some (.int x) ∧ K x g') := by
  refine MetA.introL (Lx := [some (.ref th), some (.int p0), some (.int p1), some (.int p2), none, none, none]) (by decide) (Nat.le_of_ble_eq_true rfl) rfl rfl ?_
  intro E hEl hE hnm
  have hall : ∀ n, (∀ (l0 : Nat) (l1 : Int32) (l2 : Int32) (l3 : Int32) (l4 : Int32) (l5 : Int32) (g : GH), I40 n l0 l1 l2 l3 l4 l5 g → JW Γ E 40 [some (.ref l0), some (.int l1), some (.int l2), some (.int l3), some (.int l4), some (.int l5), none] [] g) := by
    intro n
    induction n using Nat.strongRecOn with
    | ind n ih =>
      exact fun l0 l1 l2 l3 l4 l5 g hi => S_PV_many_40 hE (fun l0 l1 l2 l3 l4 l5 g hm => by obtain ⟨m, hm, h⟩ := hm; exact (ih m hm) l0 l1 l2 l3 l4 l5 g h) l0 l1 l2 l3 l4 l5 g (hh40 n l0 l1 l2 l3 l4 l5 g hi)
  exact S_PV_many_0 hE (fun l0 l1 l2 l3 l4 l5 g hm => by obtain ⟨m, h⟩ := hm; exact (hall m) l0 l1 l2 l3 l4 l5 g h) th p0 p1 p2 g h0
theorem mt_PV_many {Γ : GAM} {l : Launch} (th : Nat) (p0 : Int32) (p1 : Int32) (p2 : Int32) (g : GH) (K : Int32 → GH → Prop) (h : Sp_PV_many Γ th p0 p1 p2 g K) : MetA Γ l yX10_many cX10_many 7 (some (.int)) 10 398 [.ref th, .int p0, .int p1, .int p2] g (fun r g' => ∃ x, r = some (.int x) ∧ K x g') := by
  obtain ⟨C, s, n, rfl, hI, hW, hR, hK⟩ := PVC.e h
  have he := hI.en
  obtain ⟨hkd, ⟨h1, h2⟩, -, -, -, -, hnow, hsiz⟩ := hI.pk
  have hP := hI.2.2.2.2.2.2.1
  have hlen := hW.len
  unfold p_many at hK
  have hno : ¬ ok_many s p0 p1 p2 → K (-1) g := fun u => hK C g _ _ (if_neg u) rfl (FrC.rf he) rfl hI hR.dn
  refine rl_PV_many (fun n l0 l1 l2 l3 l4 l5 g' => c_x C = l0 ∧ p0 = l1 ∧ p1 = l2 ∧ p2 = l3 ∧ ok_many s p0 p1 p2 ∧ ∃ k, k ≤ (s_env s).length ∧ n = (s_env s).length - k ∧ l5 = nI k ∧ l4 = sS ((s_env s).zipIdx.take k) (mnF s p0 p1 p2) ∧ FC (c_D C) g g' ∧ COM Γ (c_D C) g' ∧ JA (c_D C) s p2 (s_vot s).length g') ?_ ?_
  · rintro n l0 l1 l2 l3 l4 l5 g' ⟨rfl, rfl, rfl, rfl, ok, k, hk, rfl, rfl, rfl, hF, hC, hJ⟩
    have hI' := hI.fc hF hC
    have hP' := hI'.2.2.2.2.2.2.1
    obtain ⟨hkd', ⟨k1, k2⟩, -⟩ := hI'.pk
    obtain ⟨⟨-, z2, z3, z4⟩, -⟩ := hP'.sz
    suffices H : ∀ (K40 : Nat → Int32 → Int32 → Int32 → Int32 → Int32 → GH → Prop), (k < (s_env s).length → K40 (c_x C) p0 p1 p2 (sS ((s_env s).zipIdx.take (k + 1)) (mnF s p0 p1 p2)) (nI (k + 1)) g') → B_PV_many_40 Γ K40 K (c_x C) p0 p1 p2 (sS ((s_env s).zipIdx.take k) (mnF s p0 p1 p2)) (nI k) g' from
      H _ (fun hlt => ⟨(s_env s).length - (k + 1), by omega, rfl, rfl, rfl, rfl, ok, k + 1, hlt, rfl, rfl, rfl, hF, hC, hJ⟩)
    intro K40 hn
    unfold B_PV_many_40 B_PV_many_94
    refine ⟨hkd', _, k1, k2, _, z2, z3, hP'.esz ?_⟩
    rw [nj_le (by omega) (by omega)]
    refine ⟨fun u => ?_, fun u => ⟨hkd', _, k1, k2, _, z2, z3, hP'.eget (by omega) (fun x hx hE => ?_)⟩⟩
    · have hm1 : p1 ≠ -1 := i32_m1 ok.2.1.1
      have := hK C g' _ _ (if_pos ok) rfl hF.c rfl hI' (hR.fc hF)
      rw [sMn_eq hW hm1] at this
      rw [List.take_of_length_le (by rw [List.length_zipIdx]; exact u)]
      exact this
    · have hlt : k < (s_env s).length := by omega
      obtain ⟨y, w, L, y1, w1, hEB, -, -⟩ := hE
      obtain ⟨⟨x1, x2⟩, ⟨w2, w3, w4⟩, ⟨_, hsent, _, _⟩, -⟩ := id hEB
      have hyw := (hW.env y (List.mem_of_getElem? y1)).1
      have hny := nj_of hyw.1
      have hJe := (hJ.env hW y1 hx).1
      have hst := hJe.s y1 hny.1
      rw [← hny.1] at hst
      have hSS : sS ((s_env s).zipIdx.take (k + 1)) (mnF s p0 p1 p2) = sS ((s_env s).zipIdx.take k) (mnF s p0 p1 p2) + mnF s p0 p1 p2 (y, k) := by
        unfold sS; rw [fold_take _ _ _ (zip_get y1)]
      have hn' := hn hlt
      rw [hSS] at hn'
      have hstd : Gi g' 140 x = stE2 s p2 (y, k) := hst
      rw [hstd, nj_s]
      refine ⟨x2, x2, fun u1 => ?_, fun u1 => ⟨x2, ?_⟩⟩
      · unfold mnF at hn'
        rw [if_neg (fun z => u1 z.1), Int32.add_zero] at hn'
        exact hn'
      · have ht : y.2.2.1 ≤ p2 := Classical.byContradiction (fun z => by
          unfold stE2 at u1
          rw [if_neg z] at u1
          exact i32_m1 ok.2.1.1 u1.symm)
        obtain ⟨⟨-, hcm⟩, -⟩ := hJe.2 ht
        obtain ⟨z, Lv, zz1, hVO, hVL, -⟩ := hP'.2.2.2.1.2.2.1 _ w w1
        obtain ⟨⟨v1, v2⟩, ⟨b1, b2, b3⟩, lo, eo, ⟨l1, _, _⟩, -, hLv, -⟩ := id hVO
        refine ⟨w, lo, Lv, x2, w4, v2, l1, hLv, ?_⟩
        have hsh : (Lv.foldl (lS (if Gi g' 137 x = -1 then Gi g' 130 x else Gi g' 137 x) p2) (Gi g' 1280 w, -1)).1 = sShire s y.1.toNatClampNeg (sDf s (y, k) p2) p2 := by
          rw [hcm.1, hsent, b1, (hVL p2).1]
          unfold sShire sDf
          rw [zz1]; rfl
        rw [hsh]
        unfold mnF at hn'
        refine ⟨fun u2 => ?_, fun u2 => ?_⟩
        · rw [if_neg (fun z => u2 z.2), Int32.add_zero] at hn'; exact hn'
        · rw [if_pos ⟨u1, u2⟩] at hn'; exact hn'
  · unfold B_PV_many_0 B_PV_many_24
    refine pv_ite (fun u => hno (fun z => u z.1)) (fun u => pv_ite (fun u2 => hno (fun z => u2 z.2.1)) (fun u2 => ⟨hkd, hkd, ?_⟩))
    rw [hnow]
    refine pv_ite' (fun u3 => hno (fun z => u3 z.2.2)) (fun u3 => ⟨hkd, _, h1, h2, c_D C, s, rfl, hP, hW, u3, hI.2.2.2.2.2.2.2, hR.rc, fun g' hF hC hJ => ?_⟩)
    exact ⟨_, rfl, rfl, rfl, rfl, ⟨u, u2, u3⟩, 0, Nat.zero_le _, rfl, nj_0, rfl, hF.1, hC, hJ⟩
