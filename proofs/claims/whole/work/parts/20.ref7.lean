/-! the reference: settings (by a template) -/
theorem nle0 {n : Nat} (h : n < 2147483648) : (nI n ≤ 0) = (n = 0) := by
  have e : (0 : Int32) = nI 0 := rfl
  rw [e, nj_le h (by omega)]
  exact propext ⟨fun q => by omega, fun q => by omega⟩
abbrev ok_size (s : ST) (p0 : Int32) : Prop := (1 ≤ p0 ∧ p0 ≤ 50) ∧ (s_hea s).length = 0
def p_size (s : ST) (p0 : Int32) : Int32 := if ok_size s p0 then 1 else 0
def q_size (s : ST) (p0 : Int32) : ST := if ok_size s p0 then u_siz s p0 else s
def Sp_M_size (Γ : GAM) (m : Nat) (p0 : Int32) (g : GH) (K : Int32 → GH → Prop) : Prop := ∃ ma s, RefI m ma g s ∧ ∀ g', FrL m g g' → RefI m ma g' (q_size s p0) → K (p_size s p0) g'
-- the walk of M_size
set_option maxRecDepth 100000 in
def B_M_size_17 (Γ : GAM) (K : Int32 → GH → Prop)  (g : GH) : Prop :=
  K (0 : Int32) g
set_option maxHeartbeats 4000000 in
set_option maxRecDepth 100000 in
theorem S_M_size_17 {Γ : GAM} {E : EV} {K : Int32 → GH → Prop} (hE : GE Γ E cX11_size 2 RX11 (some (.boolean)) 1 22 (fun r g' => ∃ x, r = some (.int x) ∧ K x g'))  (g : GH) (h : B_M_size_17 Γ K  g) : JW Γ E 17 [none, none] [] g := by
  unfold B_M_size_17 at h
  refine j_iconst hE (by decide +kernel : decode cX11_size 17 = .ok (.iconst 0, 1)) (v := (0 : Int32)) (by decide) ?_
  exact j_zret hE (Or.inl rfl) (by decide +kernel : decode cX11_size 18 = .ok (.ireturn, 1)) ⟨_, rfl, h⟩
set_option maxRecDepth 100000 in
def B_M_size_0 (Γ : GAM) (K : Int32 → GH → Prop) (th : Nat) (p0 : Int32) (g : GH) : Prop :=
  Sp_M_in Γ p0 (1 : Int32) (50 : Int32) g (fun (x2 : Int32) (g1 : GH) => ((x2 = 0 → B_M_size_17 Γ K g1) ∧ (¬ (x2 = 0) → Kd g1 th = 13 ∧ (((Gi g1 1547 th) ≤ 0 → Kd g1 th = 13 ∧ ∀ g3 : GH, g3 = sI g1 1548 th p0 → K (1 : Int32) g3) ∧ (¬ ((Gi g1 1547 th) ≤ 0) → B_M_size_17 Γ K g1)))))
set_option maxHeartbeats 4000000 in
set_option maxRecDepth 100000 in
theorem S_M_size_0 {Γ : GAM} {E : EV} {K : Int32 → GH → Prop} (hE : GE Γ E cX11_size 2 RX11 (some (.boolean)) 1 22 (fun r g' => ∃ x, r = some (.int x) ∧ K x g')) (th : Nat) (p0 : Int32) (g : GH) (h : B_M_size_0 Γ K th p0 g) : JW Γ E 0 [some (.ref th), some (.int p0)] [] g := by
  unfold B_M_size_0 at h
  refine j_iload_n hE (by decide +kernel : decode cX11_size 0 = .ok (.iload_n 1, 1)) rfl rfl ?_
  refine j_iconst hE (by decide +kernel : decode cX11_size 1 = .ok (.iconst 1, 1)) (v := (1 : Int32)) (by decide) ?_
  refine j_bipush hE (by decide +kernel : decode cX11_size 2 = .ok (.bipush 50, 2)) (v := (50 : Int32)) (by decide) ?_
  refine j_callS hE rfl cl_X11_213 st_X11_in ⟨by omega, by omega⟩ (As := [.int p0, .int (1 : Int32), .int (50 : Int32)]) (rest := []) rfl rfl (Nat.le_of_ble_eq_true rfl) (by decide +kernel : decode cX11_size 4 = .ok (.invokestatic 213, 3)) (mt_M_in _ _ _ _ _ h) ?_
  rintro _ g1 ⟨x2, rfl, h⟩
  refine j_if_eq hE (by decide +kernel : decode cX11_size 7 = .ok (.ifCond .eq 10, 3)) (tgt := 17) (by decide) (fun q => ?_) (fun q => ?_)
  · replace h := h.1 q
    refine j_weak [none, none] trivial ?_
    exact S_M_size_17 hE _ h
  · replace h := h.2 q
    refine j_aload_n hE (by decide +kernel : decode cX11_size 10 = .ok (.aload_n 0, 1)) rfl rfl ?_
    obtain ⟨hk, h⟩ := h
    refine j_getI hE fg_X11_449 hk (by decide +kernel : decode cX11_size 11 = .ok (.getfield 449, 3)) ?_
    refine j_if_le hE (by decide +kernel : decode cX11_size 14 = .ok (.ifCond .le 5, 3)) (tgt := 19) (by decide) (fun q => ?_) (fun q => ?_)
    · replace h := h.1 q
      refine j_aload_n hE (by decide +kernel : decode cX11_size 19 = .ok (.aload_n 0, 1)) rfl rfl ?_
      refine j_iload_n hE (by decide +kernel : decode cX11_size 20 = .ok (.iload_n 1, 1)) rfl rfl ?_
      obtain ⟨hk, h⟩ := h
      obtain ⟨g3, hg⟩ : ∃ z, z = sI g1 1548 th p0 := ⟨_, rfl⟩; replace h := h g3 hg
      refine j_putI hE fa_X11_7 hk (fun q => by cases q) (by decide +kernel : decode cX11_size 21 = .ok (.putfield 7, 3)) ?_
      rw [← hg]
      refine j_iconst hE (by decide +kernel : decode cX11_size 24 = .ok (.iconst 1, 1)) (v := (1 : Int32)) (by decide) ?_
      exact j_zret hE (Or.inr rfl) (by decide +kernel : decode cX11_size 25 = .ok (.ireturn, 1)) ⟨_, rfl, h⟩
    · replace h := h.2 q
      refine j_weak [none, none] trivial ?_
      exact S_M_size_17 hE _ h
set_option maxHeartbeats 4000000 in
set_option maxRecDepth 100000 in
theorem rl_M_size {Γ : GAM} {l : Launch} {th : Nat} {p0 : Int32} {g : GH} {K : Int32 → GH → Prop} (h0 : B_M_size_0 Γ K th p0 g) : MetA Γ l yX11_size cX11_size 2 (some (.boolean)) 1 22 [.ref th, .int p0] g (fun r g' => ∃ x, r = some (.int x) ∧ K x g') := by
  refine MetA.introL (Lx := [some (.ref th), some (.int p0)]) (by decide) (Nat.le_of_ble_eq_true rfl) rfl rfl ?_
  intro E hEl hE hnm
  exact S_M_size_0 hE th p0 g h0
theorem mt_M_size {Γ : GAM} {l : Launch} (th : Nat) (p0 : Int32) (g : GH) (K : Int32 → GH → Prop) (h : Sp_M_size Γ th p0 g K) : MetA Γ l yX11_size cX11_size 2 (some (.boolean)) 1 22 [.ref th, .int p0] g (fun r g' => ∃ x, r = some (.int x) ∧ K x g') := by
  obtain ⟨ma, s, hI, hK⟩ := h
  refine rl_M_size ?_
  obtain ⟨hkd, hS⟩ := hI.1
  have hh := hI.hea.1
  have hl := hI.hea.2.1
  have h0 := nle0 (show (s_hea s).length < 2147483648 by omega)
  have hno : ¬ ok_size s p0 → K (0) g := fun hn => by
    unfold p_size q_size at hK
    rw [if_neg hn, if_neg hn] at hK
    exact hK g FrL.rf hI
  have hyes : ok_size s p0 → ∀ g', g' = (sI g 1548 th p0) → K 1 g' := fun hn g' hg => by
    subst hg
    unfold p_size q_size at hK
    rw [if_pos hn, if_pos hn] at hK
    exact hK _ FrL.sI ⟨hI.1, hI.now, (by simp [Gi_sI, s_siz_u_siz]), hI.prs, hI.stp, hI.vot, hI.mov, hI.env, hI.evt, hI.emp, hI.rea, hI.tel, hI.boo, hI.wav, hI.hea, hI.tap, hI.law, hI.hof, hI.box, hI.roa, hI.las⟩
  simp only [B_M_size_17, B_M_size_0, Sp_M_in, Sp_M_isShire, Sp_M_isVoter, Sp_M_isEnvelope, Sp_M_isKnowing, ifz, hkd, hh, h0, Kd_sA, Gr_sA, Co_sA, Ow_sA, Ln_sA, Gi_sA, Kd_sI, Gi_sI, true_and, Option.some.injEq, exists_eq_left', forall_eq, and_self, if_true]
  repeat' with_reducible first | apply And.intro | intro _
  all_goals first | exact hno (by grind) | exact hyes (by grind) _ rfl

abbrev ok_press (s : ST) (p0 : Int32) : Prop := (1 ≤ p0 ∧ p0 ≤ 1000)
def p_press (s : ST) (p0 : Int32) : Int32 := if ok_press s p0 then 1 else 0
def q_press (s : ST) (p0 : Int32) : ST := if ok_press s p0 then u_prs s p0 else s
def Sp_M_press (Γ : GAM) (m : Nat) (p0 : Int32) (g : GH) (K : Int32 → GH → Prop) : Prop := ∃ ma s, RefI m ma g s ∧ ∀ g', FrL m g g' → RefI m ma g' (q_press s p0) → K (p_press s p0) g'
-- the walk of M_press
set_option maxRecDepth 100000 in
def B_M_press_0 (Γ : GAM) (K : Int32 → GH → Prop) (th : Nat) (p0 : Int32) (g : GH) : Prop :=
  Sp_M_in Γ p0 (1 : Int32) (1000 : Int32) g (fun (x2 : Int32) (g1 : GH) => ((¬ (x2 = 0) → Kd g1 th = 13 ∧ ∀ g3 : GH, g3 = sI g1 1615 th p0 → K (1 : Int32) g3) ∧ (x2 = 0 → K (0 : Int32) g1)))
set_option maxHeartbeats 4000000 in
set_option maxRecDepth 100000 in
theorem S_M_press_0 {Γ : GAM} {E : EV} {K : Int32 → GH → Prop} (hE : GE Γ E cX11_press 2 RX11 (some (.boolean)) 1 22 (fun r g' => ∃ x, r = some (.int x) ∧ K x g')) (th : Nat) (p0 : Int32) (g : GH) (h : B_M_press_0 Γ K th p0 g) : JW Γ E 0 [some (.ref th), some (.int p0)] [] g := by
  unfold B_M_press_0 at h
  refine j_iload_n hE (by decide +kernel : decode cX11_press 0 = .ok (.iload_n 1, 1)) rfl rfl ?_
  refine j_iconst hE (by decide +kernel : decode cX11_press 1 = .ok (.iconst 1, 1)) (v := (1 : Int32)) (by decide) ?_
  refine j_sipush hE (by decide +kernel : decode cX11_press 2 = .ok (.sipush 1000, 3)) (v := (1000 : Int32)) (by decide) ?_
  refine j_callS hE rfl cl_X11_213 st_X11_in ⟨by omega, by omega⟩ (As := [.int p0, .int (1 : Int32), .int (1000 : Int32)]) (rest := []) rfl rfl (Nat.le_of_ble_eq_true rfl) (by decide +kernel : decode cX11_press 5 = .ok (.invokestatic 213, 3)) (mt_M_in _ _ _ _ _ h) ?_
  rintro _ g1 ⟨x2, rfl, h⟩
  refine j_if_ne hE (by decide +kernel : decode cX11_press 8 = .ok (.ifCond .ne 5, 3)) (tgt := 13) (by decide) (fun q => ?_) (fun q => ?_)
  · replace h := h.1 q
    refine j_aload_n hE (by decide +kernel : decode cX11_press 13 = .ok (.aload_n 0, 1)) rfl rfl ?_
    refine j_iload_n hE (by decide +kernel : decode cX11_press 14 = .ok (.iload_n 1, 1)) rfl rfl ?_
    obtain ⟨hk, h⟩ := h
    obtain ⟨g3, hg⟩ : ∃ z, z = sI g1 1615 th p0 := ⟨_, rfl⟩; replace h := h g3 hg
    refine j_putI hE fa_X11_171 hk (fun q => by cases q) (by decide +kernel : decode cX11_press 15 = .ok (.putfield 171, 3)) ?_
    rw [← hg]
    refine j_iconst hE (by decide +kernel : decode cX11_press 18 = .ok (.iconst 1, 1)) (v := (1 : Int32)) (by decide) ?_
    exact j_zret hE (Or.inr rfl) (by decide +kernel : decode cX11_press 19 = .ok (.ireturn, 1)) ⟨_, rfl, h⟩
  · replace h := h.2 q
    refine j_iconst hE (by decide +kernel : decode cX11_press 11 = .ok (.iconst 0, 1)) (v := (0 : Int32)) (by decide) ?_
    exact j_zret hE (Or.inl rfl) (by decide +kernel : decode cX11_press 12 = .ok (.ireturn, 1)) ⟨_, rfl, h⟩
set_option maxHeartbeats 4000000 in
set_option maxRecDepth 100000 in
theorem rl_M_press {Γ : GAM} {l : Launch} {th : Nat} {p0 : Int32} {g : GH} {K : Int32 → GH → Prop} (h0 : B_M_press_0 Γ K th p0 g) : MetA Γ l yX11_press cX11_press 2 (some (.boolean)) 1 22 [.ref th, .int p0] g (fun r g' => ∃ x, r = some (.int x) ∧ K x g') := by
  refine MetA.introL (Lx := [some (.ref th), some (.int p0)]) (by decide) (Nat.le_of_ble_eq_true rfl) rfl rfl ?_
  intro E hEl hE hnm
  exact S_M_press_0 hE th p0 g h0
theorem mt_M_press {Γ : GAM} {l : Launch} (th : Nat) (p0 : Int32) (g : GH) (K : Int32 → GH → Prop) (h : Sp_M_press Γ th p0 g K) : MetA Γ l yX11_press cX11_press 2 (some (.boolean)) 1 22 [.ref th, .int p0] g (fun r g' => ∃ x, r = some (.int x) ∧ K x g') := by
  obtain ⟨ma, s, hI, hK⟩ := h
  refine rl_M_press ?_
  obtain ⟨hkd, hS⟩ := hI.1

  have hno : ¬ ok_press s p0 → K (0) g := fun hn => by
    unfold p_press q_press at hK
    rw [if_neg hn, if_neg hn] at hK
    exact hK g FrL.rf hI
  have hyes : ok_press s p0 → ∀ g', g' = (sI g 1615 th p0) → K 1 g' := fun hn g' hg => by
    subst hg
    unfold p_press q_press at hK
    rw [if_pos hn, if_pos hn] at hK
    exact hK _ FrL.sI ⟨hI.1, hI.now, hI.siz, (by simp [Gi_sI, s_prs_u_prs]), hI.stp, hI.vot, hI.mov, hI.env, hI.evt, hI.emp, hI.rea, hI.tel, hI.boo, hI.wav, hI.hea, hI.tap, hI.law, hI.hof, hI.box, hI.roa, hI.las⟩
  simp only [B_M_press_0, Sp_M_in, Sp_M_isShire, Sp_M_isVoter, Sp_M_isEnvelope, Sp_M_isKnowing, ifz, hkd, Kd_sA, Gr_sA, Co_sA, Ow_sA, Ln_sA, Gi_sA, Kd_sI, Gi_sI, true_and, Option.some.injEq, exists_eq_left', forall_eq, and_self, if_true]
  repeat' with_reducible first | apply And.intro | intro _
  all_goals first | exact hno (by grind) | exact hyes (by grind) _ rfl

abbrev ok_stops (s : ST) (p0 : Int32) : Prop := (0 ≤ p0 ∧ p0 ≤ 30)
def p_stops (s : ST) (p0 : Int32) : Int32 := if ok_stops s p0 then 1 else 0
def q_stops (s : ST) (p0 : Int32) : ST := if ok_stops s p0 then u_stp s p0 else s
def Sp_M_stops (Γ : GAM) (m : Nat) (p0 : Int32) (g : GH) (K : Int32 → GH → Prop) : Prop := ∃ ma s, RefI m ma g s ∧ ∀ g', FrL m g g' → RefI m ma g' (q_stops s p0) → K (p_stops s p0) g'
-- the walk of M_stops
set_option maxRecDepth 100000 in
def B_M_stops_0 (Γ : GAM) (K : Int32 → GH → Prop) (th : Nat) (p0 : Int32) (g : GH) : Prop :=
  Sp_M_in Γ p0 (0 : Int32) (30 : Int32) g (fun (x2 : Int32) (g1 : GH) => ((¬ (x2 = 0) → Kd g1 th = 13 ∧ ∀ g3 : GH, g3 = sI g1 1623 th p0 → K (1 : Int32) g3) ∧ (x2 = 0 → K (0 : Int32) g1)))
set_option maxHeartbeats 4000000 in
set_option maxRecDepth 100000 in
theorem S_M_stops_0 {Γ : GAM} {E : EV} {K : Int32 → GH → Prop} (hE : GE Γ E cX11_stops 2 RX11 (some (.boolean)) 1 22 (fun r g' => ∃ x, r = some (.int x) ∧ K x g')) (th : Nat) (p0 : Int32) (g : GH) (h : B_M_stops_0 Γ K th p0 g) : JW Γ E 0 [some (.ref th), some (.int p0)] [] g := by
  unfold B_M_stops_0 at h
  refine j_iload_n hE (by decide +kernel : decode cX11_stops 0 = .ok (.iload_n 1, 1)) rfl rfl ?_
  refine j_iconst hE (by decide +kernel : decode cX11_stops 1 = .ok (.iconst 0, 1)) (v := (0 : Int32)) (by decide) ?_
  refine j_bipush hE (by decide +kernel : decode cX11_stops 2 = .ok (.bipush 30, 2)) (v := (30 : Int32)) (by decide) ?_
  refine j_callS hE rfl cl_X11_213 st_X11_in ⟨by omega, by omega⟩ (As := [.int p0, .int (0 : Int32), .int (30 : Int32)]) (rest := []) rfl rfl (Nat.le_of_ble_eq_true rfl) (by decide +kernel : decode cX11_stops 4 = .ok (.invokestatic 213, 3)) (mt_M_in _ _ _ _ _ h) ?_
  rintro _ g1 ⟨x2, rfl, h⟩
  refine j_if_ne hE (by decide +kernel : decode cX11_stops 7 = .ok (.ifCond .ne 5, 3)) (tgt := 12) (by decide) (fun q => ?_) (fun q => ?_)
  · replace h := h.1 q
    refine j_aload_n hE (by decide +kernel : decode cX11_stops 12 = .ok (.aload_n 0, 1)) rfl rfl ?_
    refine j_iload_n hE (by decide +kernel : decode cX11_stops 13 = .ok (.iload_n 1, 1)) rfl rfl ?_
    obtain ⟨hk, h⟩ := h
    obtain ⟨g3, hg⟩ : ∃ z, z = sI g1 1623 th p0 := ⟨_, rfl⟩; replace h := h g3 hg
    refine j_putI hE fa_X11_195 hk (fun q => by cases q) (by decide +kernel : decode cX11_stops 14 = .ok (.putfield 195, 3)) ?_
    rw [← hg]
    refine j_iconst hE (by decide +kernel : decode cX11_stops 17 = .ok (.iconst 1, 1)) (v := (1 : Int32)) (by decide) ?_
    exact j_zret hE (Or.inr rfl) (by decide +kernel : decode cX11_stops 18 = .ok (.ireturn, 1)) ⟨_, rfl, h⟩
  · replace h := h.2 q
    refine j_iconst hE (by decide +kernel : decode cX11_stops 10 = .ok (.iconst 0, 1)) (v := (0 : Int32)) (by decide) ?_
    exact j_zret hE (Or.inl rfl) (by decide +kernel : decode cX11_stops 11 = .ok (.ireturn, 1)) ⟨_, rfl, h⟩
set_option maxHeartbeats 4000000 in
set_option maxRecDepth 100000 in
theorem rl_M_stops {Γ : GAM} {l : Launch} {th : Nat} {p0 : Int32} {g : GH} {K : Int32 → GH → Prop} (h0 : B_M_stops_0 Γ K th p0 g) : MetA Γ l yX11_stops cX11_stops 2 (some (.boolean)) 1 22 [.ref th, .int p0] g (fun r g' => ∃ x, r = some (.int x) ∧ K x g') := by
  refine MetA.introL (Lx := [some (.ref th), some (.int p0)]) (by decide) (Nat.le_of_ble_eq_true rfl) rfl rfl ?_
  intro E hEl hE hnm
  exact S_M_stops_0 hE th p0 g h0
theorem mt_M_stops {Γ : GAM} {l : Launch} (th : Nat) (p0 : Int32) (g : GH) (K : Int32 → GH → Prop) (h : Sp_M_stops Γ th p0 g K) : MetA Γ l yX11_stops cX11_stops 2 (some (.boolean)) 1 22 [.ref th, .int p0] g (fun r g' => ∃ x, r = some (.int x) ∧ K x g') := by
  obtain ⟨ma, s, hI, hK⟩ := h
  refine rl_M_stops ?_
  obtain ⟨hkd, hS⟩ := hI.1

  have hno : ¬ ok_stops s p0 → K (0) g := fun hn => by
    unfold p_stops q_stops at hK
    rw [if_neg hn, if_neg hn] at hK
    exact hK g FrL.rf hI
  have hyes : ok_stops s p0 → ∀ g', g' = (sI g 1623 th p0) → K 1 g' := fun hn g' hg => by
    subst hg
    unfold p_stops q_stops at hK
    rw [if_pos hn, if_pos hn] at hK
    exact hK _ FrL.sI ⟨hI.1, hI.now, hI.siz, hI.prs, (by simp [Gi_sI, s_stp_u_stp]), hI.vot, hI.mov, hI.env, hI.evt, hI.emp, hI.rea, hI.tel, hI.boo, hI.wav, hI.hea, hI.tap, hI.law, hI.hof, hI.box, hI.roa, hI.las⟩
  simp only [B_M_stops_0, Sp_M_in, Sp_M_isShire, Sp_M_isVoter, Sp_M_isEnvelope, Sp_M_isKnowing, ifz, hkd, Kd_sA, Gr_sA, Co_sA, Ow_sA, Ln_sA, Gi_sA, Kd_sI, Gi_sI, true_and, Option.some.injEq, exists_eq_left', forall_eq, and_self, if_true]
  repeat' with_reducible first | apply And.intro | intro _
  all_goals first | exact hno (by grind) | exact hyes (by grind) _ rfl

theorem las_set {m : Nat} {g : GH} {f : Nat → Int32} {k : Nat} {v : Int32} (h : R_las m g f) : R_las m (sA g 1626 m k v) (fun i => if i = k then v else f i) := by
  intro i hi
  rw [Ia_sA]
  by_cases e : i = k
  · simp [e]
  · simp [e]; exact h i hi
theorem cl_lt {v : Int32} {n : Nat} {b : Int32} (h : 0 ≤ v ∧ v ≤ b) (hb : b.toInt < n) : inB v n := by
  have h0 := nn32 h.1
  have h1 := Int32.le_iff_toInt_le.mp h.2
  exact ⟨h.1, by omega⟩
theorem t3 : (3 : Int32).toInt = 3 := by decide
theorem t7 : (7 : Int32).toInt = 7 := by decide
theorem t8 : (8 : Int32).toInt = 8 := by decide
abbrev ok_ends (s : ST) (p0 : Int32) (p1 : Int32) : Prop := (0 ≤ p0 ∧ p0 ≤ 3) ∧ (0 ≤ p1 ∧ p1 ≤ 400)
def p_ends (s : ST) (p0 : Int32) (p1 : Int32) : Int32 := if ok_ends s p0 p1 then 1 else 0
def q_ends (s : ST) (p0 : Int32) (p1 : Int32) : ST := if ok_ends s p0 p1 then u_las s (fun i => if i = p0.toNatClampNeg then p1 else s_las s i) else s
def Sp_M_ends (Γ : GAM) (m : Nat) (p0 : Int32) (p1 : Int32) (g : GH) (K : Int32 → GH → Prop) : Prop := ∃ ma s, RefI m ma g s ∧ ∀ g', FrL m g g' → RefI m ma g' (q_ends s p0 p1) → K (p_ends s p0 p1) g'
-- the walk of M_ends
set_option maxRecDepth 100000 in
def B_M_ends_18 (Γ : GAM) (K : Int32 → GH → Prop)  (g : GH) : Prop :=
  K (0 : Int32) g
set_option maxHeartbeats 4000000 in
set_option maxRecDepth 100000 in
theorem S_M_ends_18 {Γ : GAM} {E : EV} {K : Int32 → GH → Prop} (hE : GE Γ E cX11_ends 3 RX11 (some (.boolean)) 2 42 (fun r g' => ∃ x, r = some (.int x) ∧ K x g'))  (g : GH) (h : B_M_ends_18 Γ K  g) : JW Γ E 18 [none, none, none] [] g := by
  unfold B_M_ends_18 at h
  refine j_iconst hE (by decide +kernel : decode cX11_ends 18 = .ok (.iconst 0, 1)) (v := (0 : Int32)) (by decide) ?_
  exact j_zret hE (Or.inl rfl) (by decide +kernel : decode cX11_ends 19 = .ok (.ireturn, 1)) ⟨_, rfl, h⟩
set_option maxRecDepth 100000 in
def B_M_ends_0 (Γ : GAM) (K : Int32 → GH → Prop) (th : Nat) (p0 : Int32) (p1 : Int32) (g : GH) : Prop :=
  Sp_M_isShire Γ p0 g (fun (x2 : Int32) (g1 : GH) => ((x2 = 0 → B_M_ends_18 Γ K g1) ∧ (¬ (x2 = 0) → Sp_M_in Γ p1 (0 : Int32) (400 : Int32) g1 (fun (x4 : Int32) (g3 : GH) => ((¬ (x4 = 0) → Kd g3 th = 13 ∧ ∃ a5 : Nat, Gr g3 1626 th = some a5 ∧ Kd g3 a5 = 20 ∧ inB p0 (Ln g3 a5) ∧ ∀ g6 : GH, g6 = sA g3 (Co g3 a5) (Ow g3 a5) p0.toNatClampNeg p1 → K (1 : Int32) g6) ∧ (x4 = 0 → B_M_ends_18 Γ K g3))))))
set_option maxHeartbeats 4000000 in
set_option maxRecDepth 100000 in
theorem S_M_ends_0 {Γ : GAM} {E : EV} {K : Int32 → GH → Prop} (hE : GE Γ E cX11_ends 3 RX11 (some (.boolean)) 2 42 (fun r g' => ∃ x, r = some (.int x) ∧ K x g')) (th : Nat) (p0 : Int32) (p1 : Int32) (g : GH) (h : B_M_ends_0 Γ K th p0 p1 g) : JW Γ E 0 [some (.ref th), some (.int p0), some (.int p1)] [] g := by
  unfold B_M_ends_0 at h
  refine j_iload_n hE (by decide +kernel : decode cX11_ends 0 = .ok (.iload_n 1, 1)) rfl rfl ?_
  refine j_callS hE rfl cl_X11_223 st_X11_isShire ⟨by omega, by omega⟩ (As := [.int p0]) (rest := []) rfl rfl (Nat.le_of_ble_eq_true rfl) (by decide +kernel : decode cX11_ends 1 = .ok (.invokestatic 223, 3)) (mt_M_isShire _ _ _ h) ?_
  rintro _ g1 ⟨x2, rfl, h⟩
  refine j_if_eq hE (by decide +kernel : decode cX11_ends 4 = .ok (.ifCond .eq 14, 3)) (tgt := 18) (by decide) (fun q => ?_) (fun q => ?_)
  · replace h := h.1 q
    refine j_weak [none, none, none] trivial ?_
    exact S_M_ends_18 hE _ h
  · replace h := h.2 q
    refine j_iload_n hE (by decide +kernel : decode cX11_ends 7 = .ok (.iload_n 2, 1)) rfl rfl ?_
    refine j_iconst hE (by decide +kernel : decode cX11_ends 8 = .ok (.iconst 0, 1)) (v := (0 : Int32)) (by decide) ?_
    refine j_sipush hE (by decide +kernel : decode cX11_ends 9 = .ok (.sipush 400, 3)) (v := (400 : Int32)) (by decide) ?_
    refine j_callS hE rfl cl_X11_213 st_X11_in ⟨by omega, by omega⟩ (As := [.int p1, .int (0 : Int32), .int (400 : Int32)]) (rest := []) rfl rfl (Nat.le_of_ble_eq_true rfl) (by decide +kernel : decode cX11_ends 12 = .ok (.invokestatic 213, 3)) (mt_M_in _ _ _ _ _ h) ?_
    rintro _ g3 ⟨x4, rfl, h⟩
    refine j_if_ne hE (by decide +kernel : decode cX11_ends 15 = .ok (.ifCond .ne 5, 3)) (tgt := 20) (by decide) (fun q => ?_) (fun q => ?_)
    · replace h := h.1 q
      refine j_aload_n hE (by decide +kernel : decode cX11_ends 20 = .ok (.aload_n 0, 1)) rfl rfl ?_
      obtain ⟨hk, h⟩ := h
      obtain ⟨a5, ha, h⟩ := h
      refine j_getRn hE fg_X11_198 hk ha (by decide +kernel : decode cX11_ends 21 = .ok (.getfield 198, 3)) ?_
      refine j_iload_n hE (by decide +kernel : decode cX11_ends 24 = .ok (.iload_n 1, 1)) rfl rfl ?_
      refine j_iload_n hE (by decide +kernel : decode cX11_ends 25 = .ok (.iload_n 2, 1)) rfl rfl ?_
      obtain ⟨hk, hb, h⟩ := h
      obtain ⟨g6, hg⟩ : ∃ z, z = sA g3 (Co g3 a5) (Ow g3 a5) p0.toNatClampNeg p1 := ⟨_, rfl⟩; replace h := h g6 hg
      refine j_iast hE hk hb (by decide +kernel : decode cX11_ends 26 = .ok (.iastore, 1)) ?_
      rw [← hg]
      refine j_iconst hE (by decide +kernel : decode cX11_ends 27 = .ok (.iconst 1, 1)) (v := (1 : Int32)) (by decide) ?_
      exact j_zret hE (Or.inr rfl) (by decide +kernel : decode cX11_ends 28 = .ok (.ireturn, 1)) ⟨_, rfl, h⟩
    · replace h := h.2 q
      refine j_weak [none, none, none] trivial ?_
      exact S_M_ends_18 hE _ h
set_option maxHeartbeats 4000000 in
set_option maxRecDepth 100000 in
theorem rl_M_ends {Γ : GAM} {l : Launch} {th : Nat} {p0 : Int32} {p1 : Int32} {g : GH} {K : Int32 → GH → Prop} (h0 : B_M_ends_0 Γ K th p0 p1 g) : MetA Γ l yX11_ends cX11_ends 3 (some (.boolean)) 2 42 [.ref th, .int p0, .int p1] g (fun r g' => ∃ x, r = some (.int x) ∧ K x g') := by
  refine MetA.introL (Lx := [some (.ref th), some (.int p0), some (.int p1)]) (by decide) (Nat.le_of_ble_eq_true rfl) rfl rfl ?_
  intro E hEl hE hnm
  exact S_M_ends_0 hE th p0 p1 g h0
theorem mt_M_ends {Γ : GAM} {l : Launch} (th : Nat) (p0 : Int32) (p1 : Int32) (g : GH) (K : Int32 → GH → Prop) (h : Sp_M_ends Γ th p0 p1 g K) : MetA Γ l yX11_ends cX11_ends 3 (some (.boolean)) 2 42 [.ref th, .int p0, .int p1] g (fun r g' => ∃ x, r = some (.int x) ∧ K x g') := by
  obtain ⟨ma, s, hI, hK⟩ := h
  refine rl_M_ends ?_
  obtain ⟨hkd, hS⟩ := hI.1
  obtain ⟨z_lastDay1, z_lastDay2, z_lastDay3, z_lastDay4, z_lastDay5⟩ := hS 1626 20 4 rfl
  have hno : ¬ ok_ends s p0 p1 → K (0) g := fun hn => by
    unfold p_ends q_ends at hK
    rw [if_neg hn, if_neg hn] at hK
    exact hK g FrL.rf hI
  have hyes : ok_ends s p0 p1 → ∀ g', g' = (sA g 1626 th p0.toNatClampNeg p1) → K 1 g' := fun hn g' hg => by
    subst hg
    unfold p_ends q_ends at hK
    rw [if_pos hn, if_pos hn] at hK
    exact hK _ FrL.sA ⟨hI.1, hI.now, hI.siz, hI.prs, hI.stp, hI.vot, hI.mov, hI.env, hI.evt, hI.emp, hI.rea, hI.tel, hI.boo, hI.wav, hI.hea, hI.tap, hI.law, hI.hof, hI.box, hI.roa, (las_set hI.las)⟩
  simp only [B_M_ends_18, B_M_ends_0, Sp_M_in, Sp_M_isShire, Sp_M_isVoter, Sp_M_isEnvelope, Sp_M_isKnowing, ifz, hkd, z_lastDay1, z_lastDay2, z_lastDay3, z_lastDay4, z_lastDay5, Kd_sA, Gr_sA, Co_sA, Ow_sA, Ln_sA, Gi_sA, Kd_sI, Gi_sI, true_and, Option.some.injEq, exists_eq_left', forall_eq, and_self, if_true]
  repeat' with_reducible first | apply And.intro | intro _
  all_goals first | exact hno (by grind) | exact hyes (by grind) _ rfl | exact cl_lt (b := 3) (by grind) (by rw [t3]; decide)

theorem box_set {m : Nat} {g : GH} {b : Nat → Option (Int32 × Int32)} {k : Nat} {x y : Int32} (h : R_box m g b) : R_box m (sA (sA (sA g 1617 m k 1) 1618 m k x) 1619 m k y) (fun i => if i = k then some (x, y) else b i) := by
  intro i hi
  simp only [Ia_sA]
  by_cases e : i = k
  · subst e
    refine ⟨fun h => by simp at h, fun z hz => ?_⟩
    simp at hz
    subst hz
    simp
  · have := h i hi
    simp [e]
    exact ⟨this.1, fun a c h => this.2 (a, c) h⟩
abbrev ok_stand (s : ST) (p0 : Int32) (p1 : Int32) (p2 : Int32) : Prop := (0 ≤ p0 ∧ p0 ≤ 7) ∧ (0 ≤ p1 ∧ p1 ≤ 1440) ∧ (p1 ≤ p2 ∧ p2 ≤ 1440)
def p_stand (s : ST) (p0 : Int32) (p1 : Int32) (p2 : Int32) : Int32 := if ok_stand s p0 p1 p2 then 1 else 0
def q_stand (s : ST) (p0 : Int32) (p1 : Int32) (p2 : Int32) : ST := if ok_stand s p0 p1 p2 then u_box s (fun i => if i = p0.toNatClampNeg then some (p1, p2) else s_box s i) else s
def Sp_M_stand (Γ : GAM) (m : Nat) (p0 : Int32) (p1 : Int32) (p2 : Int32) (g : GH) (K : Int32 → GH → Prop) : Prop := ∃ ma s, RefI m ma g s ∧ ∀ g', FrL m g g' → RefI m ma g' (q_stand s p0 p1 p2) → K (p_stand s p0 p1 p2) g'
-- the walk of M_stand
set_option maxRecDepth 100000 in
def B_M_stand_32 (Γ : GAM) (K : Int32 → GH → Prop)  (g : GH) : Prop :=
  K (0 : Int32) g
set_option maxHeartbeats 4000000 in
set_option maxRecDepth 100000 in
theorem S_M_stand_32 {Γ : GAM} {E : EV} {K : Int32 → GH → Prop} (hE : GE Γ E cX11_stand 4 RX11 (some (.boolean)) 1 22 (fun r g' => ∃ x, r = some (.int x) ∧ K x g'))  (g : GH) (h : B_M_stand_32 Γ K  g) : JW Γ E 32 [none, none, none, none] [] g := by
  unfold B_M_stand_32 at h
  refine j_iconst hE (by decide +kernel : decode cX11_stand 32 = .ok (.iconst 0, 1)) (v := (0 : Int32)) (by decide) ?_
  exact j_zret hE (Or.inl rfl) (by decide +kernel : decode cX11_stand 33 = .ok (.ireturn, 1)) ⟨_, rfl, h⟩
set_option maxRecDepth 100000 in
def B_M_stand_0 (Γ : GAM) (K : Int32 → GH → Prop) (th : Nat) (p0 : Int32) (p1 : Int32) (p2 : Int32) (g : GH) : Prop :=
  Sp_M_in Γ p0 (0 : Int32) (7 : Int32) g (fun (x2 : Int32) (g1 : GH) => ((x2 = 0 → B_M_stand_32 Γ K g1) ∧ (¬ (x2 = 0) → Sp_M_in Γ p1 (0 : Int32) (1440 : Int32) g1 (fun (x4 : Int32) (g3 : GH) => ((x4 = 0 → B_M_stand_32 Γ K g3) ∧ (¬ (x4 = 0) → Sp_M_in Γ p2 p1 (1440 : Int32) g3 (fun (x6 : Int32) (g5 : GH) => ((¬ (x6 = 0) → Kd g5 th = 13 ∧ ∃ a7 : Nat, Gr g5 1617 th = some a7 ∧ Kd g5 a7 = 21 ∧ inB p0 (Ln g5 a7) ∧ ((1 : Int32) = 0 ∨ (1 : Int32) = 1) ∧ ∀ g8 : GH, g8 = sA g5 (Co g5 a7) (Ow g5 a7) p0.toNatClampNeg (1 : Int32) → Kd g8 th = 13 ∧ ∃ a9 : Nat, Gr g8 1618 th = some a9 ∧ Kd g8 a9 = 20 ∧ inB p0 (Ln g8 a9) ∧ ∀ g10 : GH, g10 = sA g8 (Co g8 a9) (Ow g8 a9) p0.toNatClampNeg p1 → Kd g10 th = 13 ∧ ∃ a11 : Nat, Gr g10 1619 th = some a11 ∧ Kd g10 a11 = 20 ∧ inB p0 (Ln g10 a11) ∧ ∀ g12 : GH, g12 = sA g10 (Co g10 a11) (Ow g10 a11) p0.toNatClampNeg p2 → K (1 : Int32) g12) ∧ (x6 = 0 → B_M_stand_32 Γ K g5)))))))))
set_option maxHeartbeats 4000000 in
set_option maxRecDepth 100000 in
theorem S_M_stand_0 {Γ : GAM} {E : EV} {K : Int32 → GH → Prop} (hE : GE Γ E cX11_stand 4 RX11 (some (.boolean)) 1 22 (fun r g' => ∃ x, r = some (.int x) ∧ K x g')) (th : Nat) (p0 : Int32) (p1 : Int32) (p2 : Int32) (g : GH) (h : B_M_stand_0 Γ K th p0 p1 p2 g) : JW Γ E 0 [some (.ref th), some (.int p0), some (.int p1), some (.int p2)] [] g := by
  unfold B_M_stand_0 at h
  refine j_iload_n hE (by decide +kernel : decode cX11_stand 0 = .ok (.iload_n 1, 1)) rfl rfl ?_
  refine j_iconst hE (by decide +kernel : decode cX11_stand 1 = .ok (.iconst 0, 1)) (v := (0 : Int32)) (by decide) ?_
  refine j_bipush hE (by decide +kernel : decode cX11_stand 2 = .ok (.bipush 7, 2)) (v := (7 : Int32)) (by decide) ?_
  refine j_callS hE rfl cl_X11_213 st_X11_in ⟨by omega, by omega⟩ (As := [.int p0, .int (0 : Int32), .int (7 : Int32)]) (rest := []) rfl rfl (Nat.le_of_ble_eq_true rfl) (by decide +kernel : decode cX11_stand 4 = .ok (.invokestatic 213, 3)) (mt_M_in _ _ _ _ _ h) ?_
  rintro _ g1 ⟨x2, rfl, h⟩
  refine j_if_eq hE (by decide +kernel : decode cX11_stand 7 = .ok (.ifCond .eq 25, 3)) (tgt := 32) (by decide) (fun q => ?_) (fun q => ?_)
  · replace h := h.1 q
    refine j_weak [none, none, none, none] trivial ?_
    exact S_M_stand_32 hE _ h
  · replace h := h.2 q
    refine j_iload_n hE (by decide +kernel : decode cX11_stand 10 = .ok (.iload_n 2, 1)) rfl rfl ?_
    refine j_iconst hE (by decide +kernel : decode cX11_stand 11 = .ok (.iconst 0, 1)) (v := (0 : Int32)) (by decide) ?_
    refine j_sipush hE (by decide +kernel : decode cX11_stand 12 = .ok (.sipush 1440, 3)) (v := (1440 : Int32)) (by decide) ?_
    refine j_callS hE rfl cl_X11_213 st_X11_in ⟨by omega, by omega⟩ (As := [.int p1, .int (0 : Int32), .int (1440 : Int32)]) (rest := []) rfl rfl (Nat.le_of_ble_eq_true rfl) (by decide +kernel : decode cX11_stand 15 = .ok (.invokestatic 213, 3)) (mt_M_in _ _ _ _ _ h) ?_
    rintro _ g3 ⟨x4, rfl, h⟩
    refine j_if_eq hE (by decide +kernel : decode cX11_stand 18 = .ok (.ifCond .eq 14, 3)) (tgt := 32) (by decide) (fun q => ?_) (fun q => ?_)
    · replace h := h.1 q
      refine j_weak [none, none, none, none] trivial ?_
      exact S_M_stand_32 hE _ h
    · replace h := h.2 q
      refine j_iload_n hE (by decide +kernel : decode cX11_stand 21 = .ok (.iload_n 3, 1)) rfl rfl ?_
      refine j_iload_n hE (by decide +kernel : decode cX11_stand 22 = .ok (.iload_n 2, 1)) rfl rfl ?_
      refine j_sipush hE (by decide +kernel : decode cX11_stand 23 = .ok (.sipush 1440, 3)) (v := (1440 : Int32)) (by decide) ?_
      refine j_callS hE rfl cl_X11_213 st_X11_in ⟨by omega, by omega⟩ (As := [.int p2, .int p1, .int (1440 : Int32)]) (rest := []) rfl rfl (Nat.le_of_ble_eq_true rfl) (by decide +kernel : decode cX11_stand 26 = .ok (.invokestatic 213, 3)) (mt_M_in _ _ _ _ _ h) ?_
      rintro _ g5 ⟨x6, rfl, h⟩
      refine j_if_ne hE (by decide +kernel : decode cX11_stand 29 = .ok (.ifCond .ne 5, 3)) (tgt := 34) (by decide) (fun q => ?_) (fun q => ?_)
      · replace h := h.1 q
        refine j_aload_n hE (by decide +kernel : decode cX11_stand 34 = .ok (.aload_n 0, 1)) rfl rfl ?_
        obtain ⟨hk, h⟩ := h
        obtain ⟨a7, ha, h⟩ := h
        refine j_getRn hE fg_X11_177 hk ha (by decide +kernel : decode cX11_stand 35 = .ok (.getfield 177, 3)) ?_
        refine j_iload_n hE (by decide +kernel : decode cX11_stand 38 = .ok (.iload_n 1, 1)) rfl rfl ?_
        refine j_iconst hE (by decide +kernel : decode cX11_stand 39 = .ok (.iconst 1, 1)) (v := (1 : Int32)) (by decide) ?_
        obtain ⟨hk, hb, hz, h⟩ := h
        obtain ⟨g8, hg⟩ : ∃ z, z = sA g5 (Co g5 a7) (Ow g5 a7) p0.toNatClampNeg (1 : Int32) := ⟨_, rfl⟩; replace h := h g8 hg
        refine j_zast hE hk hb hz (by decide +kernel : decode cX11_stand 40 = .ok (.bastore, 1)) ?_
        rw [← hg]
        refine j_aload_n hE (by decide +kernel : decode cX11_stand 41 = .ok (.aload_n 0, 1)) rfl rfl ?_
        obtain ⟨hk, h⟩ := h
        obtain ⟨a9, ha, h⟩ := h
        refine j_getRn hE fg_X11_180 hk ha (by decide +kernel : decode cX11_stand 42 = .ok (.getfield 180, 3)) ?_
        refine j_iload_n hE (by decide +kernel : decode cX11_stand 45 = .ok (.iload_n 1, 1)) rfl rfl ?_
        refine j_iload_n hE (by decide +kernel : decode cX11_stand 46 = .ok (.iload_n 2, 1)) rfl rfl ?_
        obtain ⟨hk, hb, h⟩ := h
        obtain ⟨g10, hg⟩ : ∃ z, z = sA g8 (Co g8 a9) (Ow g8 a9) p0.toNatClampNeg p1 := ⟨_, rfl⟩; replace h := h g10 hg
        refine j_iast hE hk hb (by decide +kernel : decode cX11_stand 47 = .ok (.iastore, 1)) ?_
        rw [← hg]
        refine j_aload_n hE (by decide +kernel : decode cX11_stand 48 = .ok (.aload_n 0, 1)) rfl rfl ?_
        obtain ⟨hk, h⟩ := h
        obtain ⟨a11, ha, h⟩ := h
        refine j_getRn hE fg_X11_183 hk ha (by decide +kernel : decode cX11_stand 49 = .ok (.getfield 183, 3)) ?_
        refine j_iload_n hE (by decide +kernel : decode cX11_stand 52 = .ok (.iload_n 1, 1)) rfl rfl ?_
        refine j_iload_n hE (by decide +kernel : decode cX11_stand 53 = .ok (.iload_n 3, 1)) rfl rfl ?_
        obtain ⟨hk, hb, h⟩ := h
        obtain ⟨g12, hg⟩ : ∃ z, z = sA g10 (Co g10 a11) (Ow g10 a11) p0.toNatClampNeg p2 := ⟨_, rfl⟩; replace h := h g12 hg
        refine j_iast hE hk hb (by decide +kernel : decode cX11_stand 54 = .ok (.iastore, 1)) ?_
        rw [← hg]
        refine j_iconst hE (by decide +kernel : decode cX11_stand 55 = .ok (.iconst 1, 1)) (v := (1 : Int32)) (by decide) ?_
        exact j_zret hE (Or.inr rfl) (by decide +kernel : decode cX11_stand 56 = .ok (.ireturn, 1)) ⟨_, rfl, h⟩
      · replace h := h.2 q
        refine j_weak [none, none, none, none] trivial ?_
        exact S_M_stand_32 hE _ h
set_option maxHeartbeats 4000000 in
set_option maxRecDepth 100000 in
theorem rl_M_stand {Γ : GAM} {l : Launch} {th : Nat} {p0 : Int32} {p1 : Int32} {p2 : Int32} {g : GH} {K : Int32 → GH → Prop} (h0 : B_M_stand_0 Γ K th p0 p1 p2 g) : MetA Γ l yX11_stand cX11_stand 4 (some (.boolean)) 1 22 [.ref th, .int p0, .int p1, .int p2] g (fun r g' => ∃ x, r = some (.int x) ∧ K x g') := by
  refine MetA.introL (Lx := [some (.ref th), some (.int p0), some (.int p1), some (.int p2)]) (by decide) (Nat.le_of_ble_eq_true rfl) rfl rfl ?_
  intro E hEl hE hnm
  exact S_M_stand_0 hE th p0 p1 p2 g h0
theorem mt_M_stand {Γ : GAM} {l : Launch} (th : Nat) (p0 : Int32) (p1 : Int32) (p2 : Int32) (g : GH) (K : Int32 → GH → Prop) (h : Sp_M_stand Γ th p0 p1 p2 g K) : MetA Γ l yX11_stand cX11_stand 4 (some (.boolean)) 1 22 [.ref th, .int p0, .int p1, .int p2] g (fun r g' => ∃ x, r = some (.int x) ∧ K x g') := by
  obtain ⟨ma, s, hI, hK⟩ := h
  refine rl_M_stand ?_
  obtain ⟨hkd, hS⟩ := hI.1
  obtain ⟨z_stands1, z_stands2, z_stands3, z_stands4, z_stands5⟩ := hS 1617 21 8 rfl
  obtain ⟨z_openFrom1, z_openFrom2, z_openFrom3, z_openFrom4, z_openFrom5⟩ := hS 1618 20 8 rfl
  obtain ⟨z_openTo1, z_openTo2, z_openTo3, z_openTo4, z_openTo5⟩ := hS 1619 20 8 rfl
  have hno : ¬ ok_stand s p0 p1 p2 → K (0) g := fun hn => by
    unfold p_stand q_stand at hK
    rw [if_neg hn, if_neg hn] at hK
    exact hK g FrL.rf hI
  have hyes : ok_stand s p0 p1 p2 → ∀ g', g' = (sA (sA (sA g 1617 th p0.toNatClampNeg 1) 1618 th p0.toNatClampNeg p1) 1619 th p0.toNatClampNeg p2) → K 1 g' := fun hn g' hg => by
    subst hg
    unfold p_stand q_stand at hK
    rw [if_pos hn, if_pos hn] at hK
    exact hK _ ((FrL.rf.tr FrL.sA).tr FrL.sA |>.tr FrL.sA) ⟨hI.1, hI.now, hI.siz, hI.prs, hI.stp, hI.vot, hI.mov, hI.env, hI.evt, hI.emp, hI.rea, hI.tel, hI.boo, hI.wav, hI.hea, hI.tap, hI.law, hI.hof, (box_set hI.box), hI.roa, hI.las⟩
  simp only [B_M_stand_32, B_M_stand_0, Sp_M_in, Sp_M_isShire, Sp_M_isVoter, Sp_M_isEnvelope, Sp_M_isKnowing, ifz, hkd, z_stands1, z_stands2, z_stands3, z_stands4, z_stands5, z_openFrom1, z_openFrom2, z_openFrom3, z_openFrom4, z_openFrom5, z_openTo1, z_openTo2, z_openTo3, z_openTo4, z_openTo5, or_true, Kd_sA, Gr_sA, Co_sA, Ow_sA, Ln_sA, Gi_sA, Kd_sI, Gi_sI, true_and, Option.some.injEq, exists_eq_left', forall_eq, and_self, if_true]
  repeat' with_reducible first | apply And.intro | intro _
  all_goals first | exact hno (by grind) | exact hyes (by grind) _ rfl | exact cl_lt (b := 7) (by grind) (by rw [t7]; decide)

theorem idx9 {a b : Int32} (ha : 0 ≤ a ∧ a ≤ 8) (hb : 0 ≤ b ∧ b ≤ 8) : (9 * a + b).toNatClampNeg = 9 * a.toNatClampNeg + b.toNatClampNeg ∧ inB (9 * a + b) 81 ∧ a.toNatClampNeg < 9 ∧ b.toNatClampNeg < 9 := by
  have h0 := nn32 ha.1
  have h1 := Int32.le_iff_toInt_le.mp ha.2
  have h2 := nn32 hb.1
  have h3 := Int32.le_iff_toInt_le.mp hb.2
  rw [t8] at h1 h3
  have e : (9 * a + b).toInt = 9 * a.toInt + b.toInt := by
    rw [Int32.toInt_add, Int32.toInt_mul, show (9 : Int32).toInt = 9 by decide]
    simp only [Int.bmod_def]
    omega
  have e2 : (9 * a + b).toNatClampNeg = 9 * a.toNatClampNeg + b.toNatClampNeg := by
    show (9 * a + b).toInt.toNat = 9 * a.toInt.toNat + b.toInt.toNat
    rw [e]; omega
  refine ⟨e2, ⟨?_, by omega⟩, by omega, by omega⟩
  rw [Int32.le_iff_toInt_le, e]
  show (0 : Int32).toInt ≤ _
  rw [show (0 : Int32).toInt = 0 by decide]; omega
theorem roa_set {m : Nat} {g : GH} {r : Nat → Int32} {x y : Nat} {v : Int32} (h : R_roa m g r) : R_roa m (sA (sA g 1616 m x v) 1616 m y v) (fun i => if i = x ∨ i = y then v else r i) := by
  intro a b ha hb hne
  have := h a b ha hb hne
  simp only [Ia_sA]
  by_cases e : 9 * a + b = y
  · simp [e]
  · by_cases e2 : 9 * a + b = x
    · simp [e, e2]
    · simp [e, e2]; exact this
abbrev ok_road (s : ST) (p0 : Int32) (p1 : Int32) (p2 : Int32) : Prop := (0 ≤ p0 ∧ p0 ≤ 8) ∧ (0 ≤ p1 ∧ p1 ≤ 8) ∧ ¬ p0 = p1 ∧ (1 ≤ p2 ∧ p2 ≤ 300)
def p_road (s : ST) (p0 : Int32) (p1 : Int32) (p2 : Int32) : Int32 := if ok_road s p0 p1 p2 then 1 else 0
def q_road (s : ST) (p0 : Int32) (p1 : Int32) (p2 : Int32) : ST := if ok_road s p0 p1 p2 then u_roa s (fun i => if i = (9 * p0 + p1).toNatClampNeg ∨ i = (9 * p1 + p0).toNatClampNeg then p2 else s_roa s i) else s
def Sp_M_road (Γ : GAM) (m : Nat) (p0 : Int32) (p1 : Int32) (p2 : Int32) (g : GH) (K : Int32 → GH → Prop) : Prop := ∃ ma s, RefI m ma g s ∧ ∀ g', FrL m g g' → RefI m ma g' (q_road s p0 p1 p2) → K (p_road s p0 p1 p2) g'
-- the walk of M_road
set_option maxRecDepth 100000 in
def B_M_road_36 (Γ : GAM) (K : Int32 → GH → Prop)  (g : GH) : Prop :=
  K (0 : Int32) g
set_option maxHeartbeats 4000000 in
set_option maxRecDepth 100000 in
theorem S_M_road_36 {Γ : GAM} {E : EV} {K : Int32 → GH → Prop} (hE : GE Γ E cX11_road 4 RX11 (some (.boolean)) 1 22 (fun r g' => ∃ x, r = some (.int x) ∧ K x g'))  (g : GH) (h : B_M_road_36 Γ K  g) : JW Γ E 36 [none, none, none, none] [] g := by
  unfold B_M_road_36 at h
  refine j_iconst hE (by decide +kernel : decode cX11_road 36 = .ok (.iconst 0, 1)) (v := (0 : Int32)) (by decide) ?_
  exact j_zret hE (Or.inl rfl) (by decide +kernel : decode cX11_road 37 = .ok (.ireturn, 1)) ⟨_, rfl, h⟩
set_option maxRecDepth 100000 in
def B_M_road_0 (Γ : GAM) (K : Int32 → GH → Prop) (th : Nat) (p0 : Int32) (p1 : Int32) (p2 : Int32) (g : GH) : Prop :=
  Sp_M_in Γ p0 (0 : Int32) (8 : Int32) g (fun (x2 : Int32) (g1 : GH) => ((x2 = 0 → B_M_road_36 Γ K g1) ∧ (¬ (x2 = 0) → Sp_M_in Γ p1 (0 : Int32) (8 : Int32) g1 (fun (x4 : Int32) (g3 : GH) => ((x4 = 0 → B_M_road_36 Γ K g3) ∧ (¬ (x4 = 0) → ((p0 = p1 → B_M_road_36 Γ K g3) ∧ (¬ (p0 = p1) → Sp_M_in Γ p2 (1 : Int32) (300 : Int32) g3 (fun (x6 : Int32) (g5 : GH) => ((¬ (x6 = 0) → Kd g5 th = 13 ∧ ∃ a7 : Nat, Gr g5 1616 th = some a7 ∧ Kd g5 a7 = 20 ∧ inB (((9 : Int32) * p0) + p1) (Ln g5 a7) ∧ ∀ g8 : GH, g8 = sA g5 (Co g5 a7) (Ow g5 a7) (((9 : Int32) * p0) + p1).toNatClampNeg p2 → Kd g8 th = 13 ∧ ∃ a9 : Nat, Gr g8 1616 th = some a9 ∧ Kd g8 a9 = 20 ∧ inB (((9 : Int32) * p1) + p0) (Ln g8 a9) ∧ ∀ g10 : GH, g10 = sA g8 (Co g8 a9) (Ow g8 a9) (((9 : Int32) * p1) + p0).toNatClampNeg p2 → K (1 : Int32) g10) ∧ (x6 = 0 → B_M_road_36 Γ K g5)))))))))))
set_option maxHeartbeats 4000000 in
set_option maxRecDepth 100000 in
theorem S_M_road_0 {Γ : GAM} {E : EV} {K : Int32 → GH → Prop} (hE : GE Γ E cX11_road 4 RX11 (some (.boolean)) 1 22 (fun r g' => ∃ x, r = some (.int x) ∧ K x g')) (th : Nat) (p0 : Int32) (p1 : Int32) (p2 : Int32) (g : GH) (h : B_M_road_0 Γ K th p0 p1 p2 g) : JW Γ E 0 [some (.ref th), some (.int p0), some (.int p1), some (.int p2)] [] g := by
  unfold B_M_road_0 at h
  refine j_iload_n hE (by decide +kernel : decode cX11_road 0 = .ok (.iload_n 1, 1)) rfl rfl ?_
  refine j_iconst hE (by decide +kernel : decode cX11_road 1 = .ok (.iconst 0, 1)) (v := (0 : Int32)) (by decide) ?_
  refine j_bipush hE (by decide +kernel : decode cX11_road 2 = .ok (.bipush 8, 2)) (v := (8 : Int32)) (by decide) ?_
  refine j_callS hE rfl cl_X11_213 st_X11_in ⟨by omega, by omega⟩ (As := [.int p0, .int (0 : Int32), .int (8 : Int32)]) (rest := []) rfl rfl (Nat.le_of_ble_eq_true rfl) (by decide +kernel : decode cX11_road 4 = .ok (.invokestatic 213, 3)) (mt_M_in _ _ _ _ _ h) ?_
  rintro _ g1 ⟨x2, rfl, h⟩
  refine j_if_eq hE (by decide +kernel : decode cX11_road 7 = .ok (.ifCond .eq 29, 3)) (tgt := 36) (by decide) (fun q => ?_) (fun q => ?_)
  · replace h := h.1 q
    refine j_weak [none, none, none, none] trivial ?_
    exact S_M_road_36 hE _ h
  · replace h := h.2 q
    refine j_iload_n hE (by decide +kernel : decode cX11_road 10 = .ok (.iload_n 2, 1)) rfl rfl ?_
    refine j_iconst hE (by decide +kernel : decode cX11_road 11 = .ok (.iconst 0, 1)) (v := (0 : Int32)) (by decide) ?_
    refine j_bipush hE (by decide +kernel : decode cX11_road 12 = .ok (.bipush 8, 2)) (v := (8 : Int32)) (by decide) ?_
    refine j_callS hE rfl cl_X11_213 st_X11_in ⟨by omega, by omega⟩ (As := [.int p1, .int (0 : Int32), .int (8 : Int32)]) (rest := []) rfl rfl (Nat.le_of_ble_eq_true rfl) (by decide +kernel : decode cX11_road 14 = .ok (.invokestatic 213, 3)) (mt_M_in _ _ _ _ _ h) ?_
    rintro _ g3 ⟨x4, rfl, h⟩
    refine j_if_eq hE (by decide +kernel : decode cX11_road 17 = .ok (.ifCond .eq 19, 3)) (tgt := 36) (by decide) (fun q => ?_) (fun q => ?_)
    · replace h := h.1 q
      refine j_weak [none, none, none, none] trivial ?_
      exact S_M_road_36 hE _ h
    · replace h := h.2 q
      refine j_iload_n hE (by decide +kernel : decode cX11_road 20 = .ok (.iload_n 1, 1)) rfl rfl ?_
      refine j_iload_n hE (by decide +kernel : decode cX11_road 21 = .ok (.iload_n 2, 1)) rfl rfl ?_
      refine j_icmp_eq hE (by decide +kernel : decode cX11_road 22 = .ok (.if_icmp .eq 14, 3)) (tgt := 36) (by decide) (fun q => ?_) (fun q => ?_)
      · replace h := h.1 q
        refine j_weak [none, none, none, none] trivial ?_
        exact S_M_road_36 hE _ h
      · replace h := h.2 q
        refine j_iload_n hE (by decide +kernel : decode cX11_road 25 = .ok (.iload_n 3, 1)) rfl rfl ?_
        refine j_iconst hE (by decide +kernel : decode cX11_road 26 = .ok (.iconst 1, 1)) (v := (1 : Int32)) (by decide) ?_
        refine j_sipush hE (by decide +kernel : decode cX11_road 27 = .ok (.sipush 300, 3)) (v := (300 : Int32)) (by decide) ?_
        refine j_callS hE rfl cl_X11_213 st_X11_in ⟨by omega, by omega⟩ (As := [.int p2, .int (1 : Int32), .int (300 : Int32)]) (rest := []) rfl rfl (Nat.le_of_ble_eq_true rfl) (by decide +kernel : decode cX11_road 30 = .ok (.invokestatic 213, 3)) (mt_M_in _ _ _ _ _ h) ?_
        rintro _ g5 ⟨x6, rfl, h⟩
        refine j_if_ne hE (by decide +kernel : decode cX11_road 33 = .ok (.ifCond .ne 5, 3)) (tgt := 38) (by decide) (fun q => ?_) (fun q => ?_)
        · replace h := h.1 q
          refine j_aload_n hE (by decide +kernel : decode cX11_road 38 = .ok (.aload_n 0, 1)) rfl rfl ?_
          obtain ⟨hk, h⟩ := h
          obtain ⟨a7, ha, h⟩ := h
          refine j_getRn hE fg_X11_174 hk ha (by decide +kernel : decode cX11_road 39 = .ok (.getfield 174, 3)) ?_
          refine j_bipush hE (by decide +kernel : decode cX11_road 42 = .ok (.bipush 9, 2)) (v := (9 : Int32)) (by decide) ?_
          refine j_iload_n hE (by decide +kernel : decode cX11_road 44 = .ok (.iload_n 1, 1)) rfl rfl ?_
          refine j_imul hE (by decide +kernel : decode cX11_road 45 = .ok (.imul, 1)) ?_
          refine j_iload_n hE (by decide +kernel : decode cX11_road 46 = .ok (.iload_n 2, 1)) rfl rfl ?_
          refine j_iadd hE (by decide +kernel : decode cX11_road 47 = .ok (.iadd, 1)) ?_
          refine j_iload_n hE (by decide +kernel : decode cX11_road 48 = .ok (.iload_n 3, 1)) rfl rfl ?_
          obtain ⟨hk, hb, h⟩ := h
          obtain ⟨g8, hg⟩ : ∃ z, z = sA g5 (Co g5 a7) (Ow g5 a7) (((9 : Int32) * p0) + p1).toNatClampNeg p2 := ⟨_, rfl⟩; replace h := h g8 hg
          refine j_iast hE hk hb (by decide +kernel : decode cX11_road 49 = .ok (.iastore, 1)) ?_
          rw [← hg]
          refine j_aload_n hE (by decide +kernel : decode cX11_road 50 = .ok (.aload_n 0, 1)) rfl rfl ?_
          obtain ⟨hk, h⟩ := h
          obtain ⟨a9, ha, h⟩ := h
          refine j_getRn hE fg_X11_174 hk ha (by decide +kernel : decode cX11_road 51 = .ok (.getfield 174, 3)) ?_
          refine j_bipush hE (by decide +kernel : decode cX11_road 54 = .ok (.bipush 9, 2)) (v := (9 : Int32)) (by decide) ?_
          refine j_iload_n hE (by decide +kernel : decode cX11_road 56 = .ok (.iload_n 2, 1)) rfl rfl ?_
          refine j_imul hE (by decide +kernel : decode cX11_road 57 = .ok (.imul, 1)) ?_
          refine j_iload_n hE (by decide +kernel : decode cX11_road 58 = .ok (.iload_n 1, 1)) rfl rfl ?_
          refine j_iadd hE (by decide +kernel : decode cX11_road 59 = .ok (.iadd, 1)) ?_
          refine j_iload_n hE (by decide +kernel : decode cX11_road 60 = .ok (.iload_n 3, 1)) rfl rfl ?_
          obtain ⟨hk, hb, h⟩ := h
          obtain ⟨g10, hg⟩ : ∃ z, z = sA g8 (Co g8 a9) (Ow g8 a9) (((9 : Int32) * p1) + p0).toNatClampNeg p2 := ⟨_, rfl⟩; replace h := h g10 hg
          refine j_iast hE hk hb (by decide +kernel : decode cX11_road 61 = .ok (.iastore, 1)) ?_
          rw [← hg]
          refine j_iconst hE (by decide +kernel : decode cX11_road 62 = .ok (.iconst 1, 1)) (v := (1 : Int32)) (by decide) ?_
          exact j_zret hE (Or.inr rfl) (by decide +kernel : decode cX11_road 63 = .ok (.ireturn, 1)) ⟨_, rfl, h⟩
        · replace h := h.2 q
          refine j_weak [none, none, none, none] trivial ?_
          exact S_M_road_36 hE _ h
set_option maxHeartbeats 4000000 in
set_option maxRecDepth 100000 in
theorem rl_M_road {Γ : GAM} {l : Launch} {th : Nat} {p0 : Int32} {p1 : Int32} {p2 : Int32} {g : GH} {K : Int32 → GH → Prop} (h0 : B_M_road_0 Γ K th p0 p1 p2 g) : MetA Γ l yX11_road cX11_road 4 (some (.boolean)) 1 22 [.ref th, .int p0, .int p1, .int p2] g (fun r g' => ∃ x, r = some (.int x) ∧ K x g') := by
  refine MetA.introL (Lx := [some (.ref th), some (.int p0), some (.int p1), some (.int p2)]) (by decide) (Nat.le_of_ble_eq_true rfl) rfl rfl ?_
  intro E hEl hE hnm
  exact S_M_road_0 hE th p0 p1 p2 g h0
theorem mt_M_road {Γ : GAM} {l : Launch} (th : Nat) (p0 : Int32) (p1 : Int32) (p2 : Int32) (g : GH) (K : Int32 → GH → Prop) (h : Sp_M_road Γ th p0 p1 p2 g K) : MetA Γ l yX11_road cX11_road 4 (some (.boolean)) 1 22 [.ref th, .int p0, .int p1, .int p2] g (fun r g' => ∃ x, r = some (.int x) ∧ K x g') := by
  obtain ⟨ma, s, hI, hK⟩ := h
  refine rl_M_road ?_
  obtain ⟨hkd, hS⟩ := hI.1
  obtain ⟨z_roads1, z_roads2, z_roads3, z_roads4, z_roads5⟩ := hS 1616 20 81 rfl
  have hno : ¬ ok_road s p0 p1 p2 → K (0) g := fun hn => by
    unfold p_road q_road at hK
    rw [if_neg hn, if_neg hn] at hK
    exact hK g FrL.rf hI
  have hyes : ok_road s p0 p1 p2 → ∀ g', g' = (sA (sA g 1616 th (9 * p0 + p1).toNatClampNeg p2) 1616 th (9 * p1 + p0).toNatClampNeg p2) → K 1 g' := fun hn g' hg => by
    subst hg
    unfold p_road q_road at hK
    rw [if_pos hn, if_pos hn] at hK
    exact hK _ ((FrL.rf.tr FrL.sA).tr FrL.sA) ⟨hI.1, hI.now, hI.siz, hI.prs, hI.stp, hI.vot, hI.mov, hI.env, hI.evt, hI.emp, hI.rea, hI.tel, hI.boo, hI.wav, hI.hea, hI.tap, hI.law, hI.hof, hI.box, (roa_set hI.roa), hI.las⟩
  simp only [B_M_road_36, B_M_road_0, Sp_M_in, Sp_M_isShire, Sp_M_isVoter, Sp_M_isEnvelope, Sp_M_isKnowing, ifz, hkd, z_roads1, z_roads2, z_roads3, z_roads4, z_roads5, Kd_sA, Gr_sA, Co_sA, Ow_sA, Ln_sA, Gi_sA, Kd_sI, Gi_sI, true_and, Option.some.injEq, exists_eq_left', forall_eq, and_self, if_true]
  repeat' with_reducible first | apply And.intro | intro _
  all_goals first | exact hno (by grind) | exact hyes (by grind) _ rfl | exact (idx9 (by grind) (by grind)).2.1

theorem tap_cut {m : Nat} {g g' : GH} {L : List Int32} {n : Nat} (h : R_tap m g L) (hn : n ≤ L.length) (h1 : Gi g' 1588 m = nI n) (h2 : ∀ k, Ia g' 1581 m k = Ia g 1581 m k) : R_tap m g' (L.take n) := by
  obtain ⟨e1, e2, e3⟩ := h
  refine ⟨by rw [h1, List.length_take, Nat.min_eq_left hn], by rw [List.length_take]; omega, fun k x hx => ?_⟩
  rw [h2]
  rw [List.getElem?_take] at hx
  split at hx
  · exact e3 k x hx
  · cases hx
abbrev ok_end (s : ST) (p0 : Int32) : Prop := ¬ p0 < 0 ∧ p0 ≤ nI (s_tap s).length
def p_end (s : ST) (p0 : Int32) : Int32 := if ok_end s p0 then 1 else 0
def q_end (s : ST) (p0 : Int32) : ST := if ok_end s p0 then u_tap s ((s_tap s).take p0.toNatClampNeg) else s
def Sp_M_end (Γ : GAM) (m : Nat) (p0 : Int32) (g : GH) (K : Int32 → GH → Prop) : Prop := ∃ ma s, RefI m ma g s ∧ ∀ g', FrL m g g' → RefI m ma g' (q_end s p0) → K (p_end s p0) g'
-- the walk of M_end
set_option maxRecDepth 100000 in
def B_M_end_12 (Γ : GAM) (K : Int32 → GH → Prop)  (g : GH) : Prop :=
  K (0 : Int32) g
set_option maxHeartbeats 4000000 in
set_option maxRecDepth 100000 in
theorem S_M_end_12 {Γ : GAM} {E : EV} {K : Int32 → GH → Prop} (hE : GE Γ E cX11_end 2 RX11 (some (.boolean)) 0 0 (fun r g' => ∃ x, r = some (.int x) ∧ K x g'))  (g : GH) (h : B_M_end_12 Γ K  g) : JW Γ E 12 [none, none] [] g := by
  unfold B_M_end_12 at h
  refine j_iconst hE (by decide +kernel : decode cX11_end 12 = .ok (.iconst 0, 1)) (v := (0 : Int32)) (by decide) ?_
  exact j_zret hE (Or.inl rfl) (by decide +kernel : decode cX11_end 13 = .ok (.ireturn, 1)) ⟨_, rfl, h⟩
set_option maxRecDepth 100000 in
def B_M_end_0 (Γ : GAM) (K : Int32 → GH → Prop) (th : Nat) (p0 : Int32) (g : GH) : Prop :=
  ((p0 < 0 → B_M_end_12 Γ K g) ∧ (¬ (p0 < 0) → Kd g th = 13 ∧ ((p0 ≤ (Gi g 1588 th) → Kd g th = 13 ∧ ∀ g1 : GH, g1 = sI g 1588 th p0 → K (1 : Int32) g1) ∧ (¬ (p0 ≤ (Gi g 1588 th)) → B_M_end_12 Γ K g))))
set_option maxHeartbeats 4000000 in
set_option maxRecDepth 100000 in
theorem S_M_end_0 {Γ : GAM} {E : EV} {K : Int32 → GH → Prop} (hE : GE Γ E cX11_end 2 RX11 (some (.boolean)) 0 0 (fun r g' => ∃ x, r = some (.int x) ∧ K x g')) (th : Nat) (p0 : Int32) (g : GH) (h : B_M_end_0 Γ K th p0 g) : JW Γ E 0 [some (.ref th), some (.int p0)] [] g := by
  unfold B_M_end_0 at h
  refine j_iload_n hE (by decide +kernel : decode cX11_end 0 = .ok (.iload_n 1, 1)) rfl rfl ?_
  refine j_if_lt hE (by decide +kernel : decode cX11_end 1 = .ok (.ifCond .lt 11, 3)) (tgt := 12) (by decide) (fun q => ?_) (fun q => ?_)
  · replace h := h.1 q
    refine j_weak [none, none] trivial ?_
    exact S_M_end_12 hE _ h
  · replace h := h.2 q
    refine j_iload_n hE (by decide +kernel : decode cX11_end 4 = .ok (.iload_n 1, 1)) rfl rfl ?_
    refine j_aload_n hE (by decide +kernel : decode cX11_end 5 = .ok (.aload_n 0, 1)) rfl rfl ?_
    obtain ⟨hk, h⟩ := h
    refine j_getI hE fg_X11_298 hk (by decide +kernel : decode cX11_end 6 = .ok (.getfield 298, 3)) ?_
    refine j_icmp_le hE (by decide +kernel : decode cX11_end 9 = .ok (.if_icmp .le 5, 3)) (tgt := 14) (by decide) (fun q => ?_) (fun q => ?_)
    · replace h := h.1 q
      refine j_aload_n hE (by decide +kernel : decode cX11_end 14 = .ok (.aload_n 0, 1)) rfl rfl ?_
      refine j_iload_n hE (by decide +kernel : decode cX11_end 15 = .ok (.iload_n 1, 1)) rfl rfl ?_
      obtain ⟨hk, h⟩ := h
      obtain ⟨g1, hg⟩ : ∃ z, z = sI g 1588 th p0 := ⟨_, rfl⟩; replace h := h g1 hg
      refine j_putI hE fa_X11_298 hk (fun q => by cases q) (by decide +kernel : decode cX11_end 16 = .ok (.putfield 298, 3)) ?_
      rw [← hg]
      refine j_iconst hE (by decide +kernel : decode cX11_end 19 = .ok (.iconst 1, 1)) (v := (1 : Int32)) (by decide) ?_
      exact j_zret hE (Or.inr rfl) (by decide +kernel : decode cX11_end 20 = .ok (.ireturn, 1)) ⟨_, rfl, h⟩
    · replace h := h.2 q
      refine j_weak [none, none] trivial ?_
      exact S_M_end_12 hE _ h
set_option maxHeartbeats 4000000 in
set_option maxRecDepth 100000 in
theorem rl_M_end {Γ : GAM} {l : Launch} {th : Nat} {p0 : Int32} {g : GH} {K : Int32 → GH → Prop} (h0 : B_M_end_0 Γ K th p0 g) : MetA Γ l yX11_end cX11_end 2 (some (.boolean)) 0 0 [.ref th, .int p0] g (fun r g' => ∃ x, r = some (.int x) ∧ K x g') := by
  refine MetA.introL (Lx := [some (.ref th), some (.int p0)]) (by decide) (Nat.le_of_ble_eq_true rfl) rfl rfl ?_
  intro E hEl hE hnm
  exact S_M_end_0 hE th p0 g h0
theorem mt_M_end {Γ : GAM} {l : Launch} (th : Nat) (p0 : Int32) (g : GH) (K : Int32 → GH → Prop) (h : Sp_M_end Γ th p0 g K) : MetA Γ l yX11_end cX11_end 2 (some (.boolean)) 0 0 [.ref th, .int p0] g (fun r g' => ∃ x, r = some (.int x) ∧ K x g') := by
  obtain ⟨ma, s, hI, hK⟩ := h
  refine rl_M_end ?_
  obtain ⟨hkd, hS⟩ := hI.1
  have ht := hI.tap.1
  have hno : ¬ ok_end s p0 → K (0) g := fun hn => by
    unfold p_end q_end at hK
    rw [if_neg hn, if_neg hn] at hK
    exact hK g FrL.rf hI
  have hyes : ok_end s p0 → ∀ g', g' = (sI g 1588 th p0) → K 1 g' := fun hn g' hg => by
    subst hg
    unfold p_end q_end at hK
    rw [if_pos hn, if_pos hn] at hK
    exact hK _ FrL.sI ⟨hI.1, hI.now, hI.siz, hI.prs, hI.stp, hI.vot, hI.mov, hI.env, hI.evt, hI.emp, hI.rea, hI.tel, hI.boo, hI.wav, hI.hea, (tap_cut hI.tap (by have h0 := nn32 (Int32.not_lt.mp hn.1); have h1 := Int32.le_iff_toInt_le.mp hn.2; rw [nj_toInt (by have := hI.tap.2.1; omega)] at h1; omega) (by simp [Gi_sI]; exact (nj_of (Int32.not_lt.mp hn.1)).1) (fun _ => rfl)), hI.law, hI.hof, hI.box, hI.roa, hI.las⟩
  simp only [B_M_end_12, B_M_end_0, Sp_M_in, Sp_M_isShire, Sp_M_isVoter, Sp_M_isEnvelope, Sp_M_isKnowing, ifz, hkd, ht, Kd_sA, Gr_sA, Co_sA, Ow_sA, Ln_sA, Gi_sA, Kd_sI, Gi_sI, true_and, Option.some.injEq, exists_eq_left', forall_eq, and_self, if_true]
  repeat' with_reducible first | apply And.intro | intro _
  all_goals first | exact hno (by grind) | exact hyes (by grind) _ rfl
