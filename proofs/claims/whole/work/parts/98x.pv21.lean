/-! the class's face: a letter's number, or a throw -/
theorem Fr.nY {fs cs als : List Nat} {g : GH} {k u : Nat} (he : EN g) : Fr fs cs als g (nY g k u) := ⟨fun _ _ _ _ _ => rfl, fun _ _ _ _ => rfl, fun _ _ _ _ _ _ => ⟨rfl, rfl⟩, fun _ _ => .inr ⟨rfl, rfl, rfl, rfl, rfl⟩, Nat.le_add_right _ _, Nat.le_add_right _ _, ⟨fun h => h, fun h b hb => h b (Nat.le_trans (Nat.le_add_right _ _) hb)⟩, fun b q1 q2 _ => by
  have q2' : 20 ≤ Kd g b := q2
  rw [he b q1] at q2'; omega⟩
def Sp_PV_letter (Γ : GAM) (x : Nat) (p0 p1 p2 : Int32) (g : GH) (K : Int32 → GH → Prop) (KX : GH → Prop) : Prop := ∃ C s n, c_x C = x ∧ ClsI Γ C g s ∧ WF s ∧ RM Γ C g s (n + 1) ∧ ∀ g', FrC g g' → ClsI Γ C g' s → RM Γ C g' s n → (ok_letter s p0 p1 p2 → K (p_letter s p0 p1 p2) g') ∧ (¬ ok_letter s p0 p1 p2 → KX g')
-- the walk of PV_letter
set_option maxRecDepth 100000 in
def B_PV_letter_20 (Γ : GAM) (K : Int32 → GH → Prop) (KX : GH → Prop)  (g : GH) : Prop :=
  (Hn g + 1 ≤ gB Γ + NCC ∧ Hu g + 6 ≤ NSS) ∧ ∀ k u, k ≤ 1 → u ≤ 6 → KX (nY g k u)
set_option maxHeartbeats 4000000 in
set_option maxRecDepth 100000 in
theorem S_PV_letter_20 {Γ : GAM} {E : EV} {K : Int32 → GH → Prop} {KX : GH → Prop} (hX : EX Γ E (fun r g' => ∃ x, r = some (.int x) ∧ K x g') KX) (hl : E.2.1.stackTraces = false) (hE : GE Γ E cX10_letter 5 RX10 (some (.int)) 10 399 (fun r g' => ∃ x, r = some (.int x) ∧ K x g'))  (g : GH) (h : B_PV_letter_20 Γ K KX  g) : JW Γ E 20 [none, none, none, none, none] [] g := by
  unfold B_PV_letter_20 at h
  exact j_throw hE hX hl rfl (by decide +kernel) (by decide +kernel) (by decide +kernel) (by decide +kernel) (by decide +kernel) (by decide) (by decide) h.1.1 h.1.2 h.2
set_option maxRecDepth 100000 in
def B_PV_letter_0 (Γ : GAM) (K : Int32 → GH → Prop) (KX : GH → Prop) (th : Nat) (p0 : Int32) (p1 : Int32) (p2 : Int32) (g : GH) : Prop :=
  Kd g th = 12 ∧ Sp_PV_judged Γ th p0 p2 g (fun (a2 : Option Nat) (g1 : GH) => ((a2 = none → B_PV_letter_20 Γ K KX g1) ∧ (∀ a3 : Nat, a2 = some a3 → Sp_PV_isLetter Γ p1 g1 (fun (x5 : Int32) (g4 : GH) => ((¬ (x5 = 0) → Kd g4 a3 = 2 ∧ Sp_En_numberOf Γ a3 p1 p2 g4 (fun (x7 : Int32) (g6 : GH) => K x7 g6)) ∧ (x5 = 0 → B_PV_letter_20 Γ K KX g4))))))
set_option maxHeartbeats 4000000 in
set_option maxRecDepth 100000 in
theorem S_PV_letter_0 {Γ : GAM} {E : EV} {K : Int32 → GH → Prop} {KX : GH → Prop} (hX : EX Γ E (fun r g' => ∃ x, r = some (.int x) ∧ K x g') KX) (hl : E.2.1.stackTraces = false) (hE : GE Γ E cX10_letter 5 RX10 (some (.int)) 10 399 (fun r g' => ∃ x, r = some (.int x) ∧ K x g')) (th : Nat) (p0 : Int32) (p1 : Int32) (p2 : Int32) (g : GH) (h : B_PV_letter_0 Γ K KX th p0 p1 p2 g) : JW Γ E 0 [some (.ref th), some (.int p0), some (.int p1), some (.int p2), none] [] g := by
  unfold B_PV_letter_0 at h
  refine j_aload_n hE (by decide +kernel : decode cX10_letter 0 = .ok (.aload_n 0, 1)) rfl rfl ?_
  refine j_iload_n hE (by decide +kernel : decode cX10_letter 1 = .ok (.iload_n 1, 1)) rfl rfl ?_
  refine j_iload_n hE (by decide +kernel : decode cX10_letter 2 = .ok (.iload_n 3, 1)) rfl rfl ?_
  obtain ⟨hk, h⟩ := h
  refine j_callV hE rfl cl_X10_204 cf_11 im_X10_judged se_X10_judged ⟨by omega, by omega⟩ (As := [.int p0, .int p2]) (rest := []) rfl rfl (Nat.le_of_ble_eq_true rfl) hk (by decide +kernel : decode cX10_letter 3 = .ok (.invokevirtual 204, 3)) (mt_PV_judged _ _ _ _ _ h) ?_
  rintro _ g1 ⟨a2, rfl, h⟩
  refine j_astoreQ hE (by decide +kernel : decode cX10_letter 6 = .ok (.astore 4, 2)) (Nat.le_of_ble_eq_true rfl) rfl ?_
  refine j_aloadQ hE (by decide +kernel : decode cX10_letter 8 = .ok (.aload 4, 2)) rfl ?_
  refine j_ifnull hE (by decide +kernel : decode cX10_letter 10 = .ok (.ifnull 10, 3)) (tgt := 20) (by decide) (fun q => ?_) (fun a3 q => ?_)
  · replace h := h.1 q; subst q
    refine j_weak [none, none, none, none, none] trivial ?_
    exact S_PV_letter_20 hX hl hE _ h
  · replace h := h.2 a3 q; subst q
    refine j_iload_n hE (by decide +kernel : decode cX10_letter 13 = .ok (.iload_n 2, 1)) rfl rfl ?_
    refine j_callS hE rfl cl_X10_208 st_X10_isLetter ⟨by omega, by omega⟩ (As := [.int p1]) (rest := []) rfl rfl (Nat.le_of_ble_eq_true rfl) (by decide +kernel : decode cX10_letter 14 = .ok (.invokestatic 208, 3)) (mt_PV_isLetter _ _ _ h) ?_
    rintro _ g4 ⟨x5, rfl, h⟩
    refine j_if_ne hE (by decide +kernel : decode cX10_letter 17 = .ok (.ifCond .ne 13, 3)) (tgt := 30) (by decide) (fun q => ?_) (fun q => ?_)
    · replace h := h.1 q
      refine j_aload hE (by decide +kernel : decode cX10_letter 30 = .ok (.aload 4, 2)) rfl ?_
      refine j_iload_n hE (by decide +kernel : decode cX10_letter 32 = .ok (.iload_n 2, 1)) rfl rfl ?_
      refine j_iload_n hE (by decide +kernel : decode cX10_letter 33 = .ok (.iload_n 3, 1)) rfl rfl ?_
      obtain ⟨hk, h⟩ := h
      refine j_callV hE rfl cl_X10_218 cf_1 im_X0_numberOf se_X0_numberOf ⟨by omega, by omega⟩ (As := [.int p1, .int p2]) (rest := []) rfl rfl (Nat.le_of_ble_eq_true rfl) hk (by decide +kernel : decode cX10_letter 34 = .ok (.invokevirtual 218, 3)) (mt_En_numberOf _ _ _ _ _ h) ?_
      rintro _ g6 ⟨x7, rfl, h⟩
      exact j_iret hE (by decide +kernel : decode cX10_letter 37 = .ok (.ireturn, 1)) ⟨_, rfl, h⟩
    · replace h := h.2 q
      refine j_weak [none, none, none, none, none] trivial ?_
      exact S_PV_letter_20 hX hl hE _ h
set_option maxHeartbeats 4000000 in
set_option maxRecDepth 100000 in
theorem rl_PV_letter {Γ : GAM} {l : Launch} {th : Nat} {p0 : Int32} {p1 : Int32} {p2 : Int32} {g : GH} {K : Int32 → GH → Prop} {KX : GH → Prop} (hl : l.stackTraces = false) (h0 : B_PV_letter_0 Γ K KX th p0 p1 p2 g) : MetX Γ l yX10_letter cX10_letter 5 (some (.int)) 10 399 [.ref th, .int p0, .int p1, .int p2] g (fun r g' => ∃ x, r = some (.int x) ∧ K x g') KX := by
  refine MetX.introL (Lx := [some (.ref th), some (.int p0), some (.int p1), some (.int p2), none]) (by decide) (Nat.le_of_ble_eq_true rfl) rfl rfl ?_
  intro E hEl hE hX
  exact S_PV_letter_0 hX (by rw [hEl]; exact hl) hE th p0 p1 p2 g h0
theorem mx_PV_letter {Γ : GAM} {l : Launch} (th : Nat) (p0 : Int32) (p1 : Int32) (p2 : Int32) (g : GH) (K : Int32 → GH → Prop) (KX : GH → Prop) (hl : l.stackTraces = false) (h : Sp_PV_letter Γ th p0 p1 p2 g K KX) : MetX Γ l yX10_letter cX10_letter 5 (some (.int)) 10 399 [.ref th, .int p0, .int p1, .int p2] g (fun r g' => ∃ x, r = some (.int x) ∧ K x g') KX := by
  obtain ⟨C, s, n, rfl, hI, hW, hR, hK⟩ := h
  have he := hI.en
  obtain ⟨hkd, ⟨h1, h2⟩, -, -, -, -, hnow, hsiz⟩ := hI.pk
  have hlen := hW.len
  have h20 : ∀ g1, FC (c_D C) g g1 → ClsI Γ C g1 s → ¬ ok_letter s p0 p1 p2 → B_PV_letter_20 Γ K KX g1 := fun g1 hF hI1 hn => by
    unfold B_PV_letter_20
    have hR1 := hR.fc0 hF
    obtain ⟨r1, r2, r3⟩ := id hR1
    refine ⟨⟨by omega, by omega⟩, fun k u hk hu => ?_⟩
    have k1 : Fr [] [] [] g1 (nY g1 k u) := Fr.nY hI1.en
    have e1 : Hn (nY g1 k u) = Hn g1 + k := rfl
    have e2 : Hu (nY g1 k u) = Hu g1 + u := rfl
    exact (hK _ (hF.c.tr (FrC.of k1 (by simp) (by simp))) (hI1.fr0 k1 (fun f hf z => by cases z) (fun f hf z => by cases z)) (hR1.up (C' := C) (s' := s) (Nat.le_refl _) (by omega) (by omega) (Nat.le_succ _))).2 hn
  refine rl_PV_letter hl ?_
  unfold B_PV_letter_0
  refine ⟨hkd, C, s, rfl, hI, hW, hR.rc, fun u => ⟨fun _ => h20 g (FC.rf he) hI (fun z => u z.1), fun a z => by cases z⟩, fun e y a ok hp hy ha g' hF hC hJ hk => ⟨fun z => (by cases z), fun b hb => ?_⟩⟩
  cases hb
  have hI' := hI.fc hF hC
  have hP := hI'.2.2.2.2.2.2.1
  have hel := (List.getElem?_eq_some_iff.mp hy).1
  have ht : y.2.2.1 ≤ p2 := by have := ok.2.2; rw [hp, sEnv_n hy (by omega)] at this; exact this
  refine pv_ite' (fun u => h20 g' hF hI' (fun z => u z.2)) (fun u => ⟨hk, ?_⟩)
  have okl : ok_letter s p0 p1 p2 := ⟨ok, u⟩
  obtain ⟨⟨a1, a2, a3, a4⟩, hV, hE⟩ := hJ.e hW hy ha ht
  obtain ⟨y', w, L, y1, w1, hEo, -, -⟩ := hP.2.2.2.2.1.2.2 e a ha
  rw [hy] at y1; cases y1
  have hny := nj_of (hW.envx hy).1.1
  obtain ⟨z, Lv, z1, hVO, -, -⟩ := hP.2.2.2.1.2.2.1 _ w w1
  obtain ⟨b1, b2, b3, b4⟩ := hJ.1 w w1
  rw [← hny.1] at b1 b2
  have hlt := eLt_s (w := w) (by omega) hy z1 hV hE hEo.2.2.1.2.1 a4 b2 b1 hVO.2.1.2.2 hVO.2.1.2.1 p1
  refine ⟨w, hEo.e2, hEo.2.1.2.2, hEo.2.1.2.1, ?_⟩
  have hr := (hK g' hF.c hI' (hR.fc hF)).1 okl
  unfold p_letter at hr
  rw [if_pos okl, hp, sJe_e hy (by omega), ← hlt] at hr
  exact hr
