/-! the reference: usual, late -/
abbrev ok_usual (p0 p1 : Int32) : Prop := (0 ≤ p0 ∧ p0 ≤ 9) ∧ (1 ≤ p1 ∧ p1 ≤ 1000)
def p_usual (s : ST) (p0 p1 : Int32) : Int32 := if ok_usual p0 p1 then sUs s p0 p1 else -1
def Sp_M_usual (Γ : GAM) (m : Nat) (p0 p1 : Int32) (g : GH) (K : Int32 → GH → Prop) : Prop := ∃ ma s, RefI m ma g s ∧ WF s ∧ ∀ g', FrX m [1569, 1570] [1627] g g' → K (p_usual s p0 p1) g'
-- the walk of M_usual
set_option maxRecDepth 100000 in
def B_M_usual_31 (Γ : GAM) (K : Int32 → GH → Prop) (s0 : Int32) (g : GH) : Prop :=
  K s0 g
set_option maxHeartbeats 4000000 in
set_option maxRecDepth 100000 in
theorem S_M_usual_31 {Γ : GAM} {E : EV} {K : Int32 → GH → Prop} (hE : GE Γ E cX11_usual 3 RX11 (some (.int)) 5 125 (fun r g' => ∃ x, r = some (.int x) ∧ K x g')) (s0 : Int32) (g : GH) (h : B_M_usual_31 Γ K s0 g) : JW Γ E 31 [none, none, none] [.int s0] g := by
  unfold B_M_usual_31 at h
  exact j_iret hE (by decide +kernel : decode cX11_usual 31 = .ok (.ireturn, 1)) ⟨_, rfl, h⟩
set_option maxRecDepth 100000 in
def B_M_usual_30 (Γ : GAM) (K : Int32 → GH → Prop)  (g : GH) : Prop :=
  B_M_usual_31 Γ K (-1 : Int32) g
set_option maxHeartbeats 4000000 in
set_option maxRecDepth 100000 in
theorem S_M_usual_30 {Γ : GAM} {E : EV} {K : Int32 → GH → Prop} (hE : GE Γ E cX11_usual 3 RX11 (some (.int)) 5 125 (fun r g' => ∃ x, r = some (.int x) ∧ K x g'))  (g : GH) (h : B_M_usual_30 Γ K  g) : JW Γ E 30 [none, none, none] [] g := by
  unfold B_M_usual_30 at h
  refine j_iconst hE (by decide +kernel : decode cX11_usual 30 = .ok (.iconst (-1), 1)) (v := (-1 : Int32)) (by decide) ?_
  exact S_M_usual_31 hE _ _ h
set_option maxRecDepth 100000 in
def B_M_usual_0 (Γ : GAM) (K : Int32 → GH → Prop) (th : Nat) (p0 : Int32) (p1 : Int32) (g : GH) : Prop :=
  Sp_M_in Γ p0 (0 : Int32) (9 : Int32) g (fun (x2 : Int32) (g1 : GH) => ((x2 = 0 → B_M_usual_30 Γ K g1) ∧ (¬ (x2 = 0) → Sp_M_in Γ p1 (1 : Int32) (1000 : Int32) g1 (fun (x4 : Int32) (g3 : GH) => ((x4 = 0 → B_M_usual_30 Γ K g3) ∧ (¬ (x4 = 0) → Kd g3 th = 13 ∧ Sp_M_usualOf Γ th p0 p1 g3 (fun (x6 : Int32) (g5 : GH) => B_M_usual_31 Γ K x6 g5)))))))
set_option maxHeartbeats 4000000 in
set_option maxRecDepth 100000 in
theorem S_M_usual_0 {Γ : GAM} {E : EV} {K : Int32 → GH → Prop} (hE : GE Γ E cX11_usual 3 RX11 (some (.int)) 5 125 (fun r g' => ∃ x, r = some (.int x) ∧ K x g')) (th : Nat) (p0 : Int32) (p1 : Int32) (g : GH) (h : B_M_usual_0 Γ K th p0 p1 g) : JW Γ E 0 [some (.ref th), some (.int p0), some (.int p1)] [] g := by
  unfold B_M_usual_0 at h
  refine j_iload_n hE (by decide +kernel : decode cX11_usual 0 = .ok (.iload_n 1, 1)) rfl rfl ?_
  refine j_iconst hE (by decide +kernel : decode cX11_usual 1 = .ok (.iconst 0, 1)) (v := (0 : Int32)) (by decide) ?_
  refine j_bipush hE (by decide +kernel : decode cX11_usual 2 = .ok (.bipush 9, 2)) (v := (9 : Int32)) (by decide) ?_
  refine j_callS hE rfl cl_X11_213 st_X11_in ⟨by omega, by omega⟩ (As := [.int p0, .int (0 : Int32), .int (9 : Int32)]) (rest := []) rfl rfl (Nat.le_of_ble_eq_true rfl) (by decide +kernel : decode cX11_usual 4 = .ok (.invokestatic 213, 3)) (mt_M_in _ _ _ _ _ h) ?_
  rintro _ g1 ⟨x2, rfl, h⟩
  refine j_if_eq hE (by decide +kernel : decode cX11_usual 7 = .ok (.ifCond .eq 23, 3)) (tgt := 30) (by decide) (fun q => ?_) (fun q => ?_)
  · replace h := h.1 q
    refine j_weak [none, none, none] trivial ?_
    exact S_M_usual_30 hE _ h
  · replace h := h.2 q
    refine j_iload_n hE (by decide +kernel : decode cX11_usual 10 = .ok (.iload_n 2, 1)) rfl rfl ?_
    refine j_iconst hE (by decide +kernel : decode cX11_usual 11 = .ok (.iconst 1, 1)) (v := (1 : Int32)) (by decide) ?_
    refine j_sipush hE (by decide +kernel : decode cX11_usual 12 = .ok (.sipush 1000, 3)) (v := (1000 : Int32)) (by decide) ?_
    refine j_callS hE rfl cl_X11_213 st_X11_in ⟨by omega, by omega⟩ (As := [.int p1, .int (1 : Int32), .int (1000 : Int32)]) (rest := []) rfl rfl (Nat.le_of_ble_eq_true rfl) (by decide +kernel : decode cX11_usual 15 = .ok (.invokestatic 213, 3)) (mt_M_in _ _ _ _ _ h) ?_
    rintro _ g3 ⟨x4, rfl, h⟩
    refine j_if_eq hE (by decide +kernel : decode cX11_usual 18 = .ok (.ifCond .eq 12, 3)) (tgt := 30) (by decide) (fun q => ?_) (fun q => ?_)
    · replace h := h.1 q
      refine j_weak [none, none, none] trivial ?_
      exact S_M_usual_30 hE _ h
    · replace h := h.2 q
      refine j_aload_n hE (by decide +kernel : decode cX11_usual 21 = .ok (.aload_n 0, 1)) rfl rfl ?_
      refine j_iload_n hE (by decide +kernel : decode cX11_usual 22 = .ok (.iload_n 1, 1)) rfl rfl ?_
      refine j_iload_n hE (by decide +kernel : decode cX11_usual 23 = .ok (.iload_n 2, 1)) rfl rfl ?_
      obtain ⟨hk, h⟩ := h
      refine j_callV hE rfl cl_X11_483 cf_12 im_X11_usualOf se_X11_usualOf ⟨by omega, by omega⟩ (As := [.int p0, .int p1]) (rest := []) rfl rfl (Nat.le_of_ble_eq_true rfl) hk (by decide +kernel : decode cX11_usual 24 = .ok (.invokevirtual 483, 3)) (mt_M_usualOf _ _ _ _ _ h) ?_
      rintro _ g5 ⟨x6, rfl, h⟩
      refine j_goto hE (by decide +kernel : decode cX11_usual 27 = .ok (.goto 4, 3)) (tgt := 31) (by decide) ?_
      refine j_weak [none, none, none] trivial ?_
      exact S_M_usual_31 hE _ _ h
set_option maxHeartbeats 4000000 in
set_option maxRecDepth 100000 in
theorem rl_M_usual {Γ : GAM} {l : Launch} {th : Nat} {p0 : Int32} {p1 : Int32} {g : GH} {K : Int32 → GH → Prop} (h0 : B_M_usual_0 Γ K th p0 p1 g) : MetA Γ l yX11_usual cX11_usual 3 (some (.int)) 5 125 [.ref th, .int p0, .int p1] g (fun r g' => ∃ x, r = some (.int x) ∧ K x g') := by
  refine MetA.introL (Lx := [some (.ref th), some (.int p0), some (.int p1)]) (by decide) (Nat.le_of_ble_eq_true rfl) rfl rfl ?_
  intro E hEl hE hnm
  exact S_M_usual_0 hE th p0 p1 g h0
theorem mt_M_usual {Γ : GAM} {l : Launch} (th : Nat) (p0 : Int32) (p1 : Int32) (g : GH) (K : Int32 → GH → Prop) (h : Sp_M_usual Γ th p0 p1 g K) : MetA Γ l yX11_usual cX11_usual 3 (some (.int)) 5 125 [.ref th, .int p0, .int p1] g (fun r g' => ∃ x, r = some (.int x) ∧ K x g') := by
  obtain ⟨ma, s, hI, hw, hK⟩ := h
  have hkd := hI.1.1
  have hno : ¬ ok_usual p0 p1 → K (-1) g := fun hn => by have := hK g FrX.rf; unfold p_usual at this; rw [if_neg hn] at this; exact this
  have hyes : ok_usual p0 p1 → Sp_M_usualOf Γ th p0 p1 g K := fun hn => ⟨ma, s, hI, hw, hn.2, fun g2 hx2 => by have := hK g2 hx2; unfold p_usual at this; rw [if_pos hn] at this; exact this⟩
  refine rl_M_usual ?_
  simp only [B_M_usual_31, B_M_usual_30, B_M_usual_0, Sp_M_in, ifz, hkd, true_and]
  repeat' with_reducible first | apply And.intro | intro _
  all_goals first | exact hno (by grind) | exact hyes (by grind)
theorem sShire_b {s : ST} (hw : WF s) {v : Nat} (hv : v < (s_vot s).length) (d q : Int32) : 0 ≤ sShire s v d q ∧ sShire s v d q ≤ 3 := by
  unfold sShire
  refine fold_inv (fun a : Int32 × Int32 => 0 ≤ a.1 ∧ a.1 ≤ 3) _ _ _ ?_ (fun a x hx h => ?_)
  · obtain ⟨y, hy⟩ := get_lt hv
    simp only [hy, Option.getD_some]
    exact (hw.vot y (List.mem_of_getElem? hy)).1
  · have h2 := (hw.mov x hx).2.1
    unfold sShS
    repeat' split
    all_goals first | exact h | exact h2
def sLt (s : ST) (e : Int32) : Int32 := if (if sUs s (sVoter s (sEnv s e).1).2.1 900 = -2 then s_now s else (sEnv s e).2.1 + sUs s (sVoter s (sEnv s e).1).2.1 900) ≤ s_las s (sShire s (sEnv s e).1.toNatClampNeg (s_now s) (s_now s)).toNatClampNeg then 0 else 1
abbrev ok_late (s : ST) (p0 : Int32) : Prop := (0 ≤ p0 ∧ p0 ≤ nI (s_env s).length - 1) ∧ p_state s p0 (s_now s) = 0
def p_late (s : ST) (p0 : Int32) : Int32 := if ok_late s p0 then sLt s p0 else -1
def Sp_M_late (Γ : GAM) (m : Nat) (p0 : Int32) (g : GH) (K : Int32 → GH → Prop) : Prop := ∃ ma s, RefI m ma g s ∧ WF s ∧ ∀ g', FrX m [1569, 1570, 1595, 1602] [1594, 1596, 1597, 1598, 1599, 1600, 1601, 1627] g g' → K (p_late s p0) g'
-- the walk of M_late
set_option maxRecDepth 100000 in
def B_M_late_95 (Γ : GAM) (K : Int32 → GH → Prop) (s0 : Int32) (g : GH) : Prop :=
  K s0 g
set_option maxHeartbeats 4000000 in
set_option maxRecDepth 100000 in
theorem S_M_late_95 {Γ : GAM} {E : EV} {K : Int32 → GH → Prop} (hE : GE Γ E cX11_late 4 RX11 (some (.int)) 9 225 (fun r g' => ∃ x, r = some (.int x) ∧ K x g')) (s0 : Int32) (g : GH) (h : B_M_late_95 Γ K s0 g) : JW Γ E 95 [none, none, none, none] [.int s0] g := by
  unfold B_M_late_95 at h
  exact j_iret hE (by decide +kernel : decode cX11_late 95 = .ok (.ireturn, 1)) ⟨_, rfl, h⟩
set_option maxRecDepth 100000 in
def B_M_late_86 (Γ : GAM) (K : Int32 → GH → Prop) (l2 : Int32) (s0 : Int32) (g : GH) : Prop :=
  ((s0 ≤ l2 → B_M_late_95 Γ K (0 : Int32) g) ∧ (¬ (s0 ≤ l2) → B_M_late_95 Γ K (1 : Int32) g))
set_option maxHeartbeats 4000000 in
set_option maxRecDepth 100000 in
theorem S_M_late_86 {Γ : GAM} {E : EV} {K : Int32 → GH → Prop} (hE : GE Γ E cX11_late 4 RX11 (some (.int)) 9 225 (fun r g' => ∃ x, r = some (.int x) ∧ K x g')) (l2 : Int32) (s0 : Int32) (g : GH) (h : B_M_late_86 Γ K l2 s0 g) : JW Γ E 86 [none, none, some (.int l2), none] [.int s0] g := by
  unfold B_M_late_86 at h
  refine j_iload_n hE (by decide +kernel : decode cX11_late 86 = .ok (.iload_n 2, 1)) rfl rfl ?_
  refine j_icmp_le hE (by decide +kernel : decode cX11_late 87 = .ok (.if_icmp .le 7, 3)) (tgt := 94) (by decide) (fun q => ?_) (fun q => ?_)
  · replace h := h.1 q
    refine j_iconst hE (by decide +kernel : decode cX11_late 94 = .ok (.iconst 0, 1)) (v := (0 : Int32)) (by decide) ?_
    refine j_weak [none, none, none, none] trivial ?_
    exact S_M_late_95 hE _ _ h
  · replace h := h.2 q
    refine j_iconst hE (by decide +kernel : decode cX11_late 90 = .ok (.iconst 1, 1)) (v := (1 : Int32)) (by decide) ?_
    refine j_goto hE (by decide +kernel : decode cX11_late 91 = .ok (.goto 4, 3)) (tgt := 95) (by decide) ?_
    refine j_weak [none, none, none, none] trivial ?_
    exact S_M_late_95 hE _ _ h
set_option maxRecDepth 100000 in
def B_M_late_20 (Γ : GAM) (K : Int32 → GH → Prop)  (g : GH) : Prop :=
  K (-1 : Int32) g
set_option maxHeartbeats 4000000 in
set_option maxRecDepth 100000 in
theorem S_M_late_20 {Γ : GAM} {E : EV} {K : Int32 → GH → Prop} (hE : GE Γ E cX11_late 4 RX11 (some (.int)) 9 225 (fun r g' => ∃ x, r = some (.int x) ∧ K x g'))  (g : GH) (h : B_M_late_20 Γ K  g) : JW Γ E 20 [none, none, none, none] [] g := by
  unfold B_M_late_20 at h
  refine j_iconst hE (by decide +kernel : decode cX11_late 20 = .ok (.iconst (-1), 1)) (v := (-1 : Int32)) (by decide) ?_
  exact j_iret hE (by decide +kernel : decode cX11_late 21 = .ok (.ireturn, 1)) ⟨_, rfl, h⟩
set_option maxRecDepth 100000 in
def B_M_late_0 (Γ : GAM) (K : Int32 → GH → Prop) (th : Nat) (p0 : Int32) (g : GH) : Prop :=
  Kd g th = 13 ∧ Sp_M_isEnvelope Γ th p0 g (fun (x2 : Int32) (g1 : GH) => ((x2 = 0 → B_M_late_20 Γ K g1) ∧ (¬ (x2 = 0) → Kd g1 th = 13 ∧ Kd g1 th = 13 ∧ Sp_M_state Γ th p0 (Gi g1 1536 th) g1 (fun (x4 : Int32) (g3 : GH) => ((x4 = 0 → Kd g3 th = 13 ∧ ∃ a5 : Nat, Gr g3 1626 th = some a5 ∧ Kd g3 th = 13 ∧ ∃ a6 : Nat, Gr g3 1556 th = some a6 ∧ Kd g3 a6 = 20 ∧ inB p0 (Ln g3 a6) ∧ Kd g3 th = 13 ∧ Kd g3 th = 13 ∧ Kd g3 th = 13 ∧ Sp_M_shireOn Γ th (Ia g3 (Co g3 a6) (Ow g3 a6) p0.toNatClampNeg) (Gi g3 1536 th) (Gi g3 1536 th) g3 (fun (x8 : Int32) (g7 : GH) => Kd g7 a5 = 20 ∧ inB x8 (Ln g7 a5) ∧ ∀ x9 : Int32, x9 = (Ia g7 (Co g7 a5) (Ow g7 a5) x8.toNatClampNeg) → Kd g7 th = 13 ∧ ∃ a10 : Nat, Gr g7 1550 th = some a10 ∧ Kd g7 th = 13 ∧ ∃ a11 : Nat, Gr g7 1556 th = some a11 ∧ Kd g7 a11 = 20 ∧ inB p0 (Ln g7 a11) ∧ Kd g7 a10 = 20 ∧ inB (Ia g7 (Co g7 a11) (Ow g7 a11) p0.toNatClampNeg) (Ln g7 a10) ∧ Kd g7 th = 13 ∧ Sp_M_usualOf Γ th (Ia g7 (Co g7 a10) (Ow g7 a10) (Ia g7 (Co g7 a11) (Ow g7 a11) p0.toNatClampNeg).toNatClampNeg) (900 : Int32) g7 (fun (x13 : Int32) (g12 : GH) => ((¬ (x13 = (-2 : Int32)) → Kd g12 th = 13 ∧ ∃ a14 : Nat, Gr g12 1557 th = some a14 ∧ Kd g12 a14 = 20 ∧ inB p0 (Ln g12 a14) ∧ B_M_late_86 Γ K x9 ((Ia g12 (Co g12 a14) (Ow g12 a14) p0.toNatClampNeg) + x13) g12) ∧ (x13 = (-2 : Int32) → Kd g12 th = 13 ∧ B_M_late_86 Γ K x9 (Gi g12 1536 th) g12))))) ∧ (¬ (x4 = 0) → B_M_late_20 Γ K g3))))))
set_option maxHeartbeats 4000000 in
set_option maxRecDepth 100000 in
theorem S_M_late_0 {Γ : GAM} {E : EV} {K : Int32 → GH → Prop} (hE : GE Γ E cX11_late 4 RX11 (some (.int)) 9 225 (fun r g' => ∃ x, r = some (.int x) ∧ K x g')) (th : Nat) (p0 : Int32) (g : GH) (h : B_M_late_0 Γ K th p0 g) : JW Γ E 0 [some (.ref th), some (.int p0), none, none] [] g := by
  unfold B_M_late_0 at h
  refine j_aload_n hE (by decide +kernel : decode cX11_late 0 = .ok (.aload_n 0, 1)) rfl rfl ?_
  refine j_iload_n hE (by decide +kernel : decode cX11_late 1 = .ok (.iload_n 1, 1)) rfl rfl ?_
  obtain ⟨hk, h⟩ := h
  refine j_callV hE rfl cl_X11_244 cf_12 im_X11_isEnvelope se_X11_isEnvelope ⟨by omega, by omega⟩ (As := [.int p0]) (rest := []) rfl rfl (Nat.le_of_ble_eq_true rfl) hk (by decide +kernel : decode cX11_late 2 = .ok (.invokevirtual 244, 3)) (mt_M_isEnvelope _ _ _ _ h) ?_
  rintro _ g1 ⟨x2, rfl, h⟩
  refine j_if_eq hE (by decide +kernel : decode cX11_late 5 = .ok (.ifCond .eq 15, 3)) (tgt := 20) (by decide) (fun q => ?_) (fun q => ?_)
  · replace h := h.1 q
    refine j_weak [none, none, none, none] trivial ?_
    exact S_M_late_20 hE _ h
  · replace h := h.2 q
    refine j_aload_n hE (by decide +kernel : decode cX11_late 8 = .ok (.aload_n 0, 1)) rfl rfl ?_
    refine j_iload_n hE (by decide +kernel : decode cX11_late 9 = .ok (.iload_n 1, 1)) rfl rfl ?_
    refine j_aload_n hE (by decide +kernel : decode cX11_late 10 = .ok (.aload_n 0, 1)) rfl rfl ?_
    obtain ⟨hk, h⟩ := h
    refine j_getI hE fg_X11_217 hk (by decide +kernel : decode cX11_late 11 = .ok (.getfield 217, 3)) ?_
    obtain ⟨hk, h⟩ := h
    refine j_callV hE rfl cl_X11_486 cf_12 im_X11_state se_X11_state ⟨by omega, by omega⟩ (As := [.int p0, .int (Gi g1 1536 th)]) (rest := []) rfl rfl (Nat.le_of_ble_eq_true rfl) hk (by decide +kernel : decode cX11_late 14 = .ok (.invokevirtual 486, 3)) (mt_M_state _ _ _ _ _ h) ?_
    rintro _ g3 ⟨x4, rfl, h⟩
    refine j_if_eq hE (by decide +kernel : decode cX11_late 17 = .ok (.ifCond .eq 5, 3)) (tgt := 22) (by decide) (fun q => ?_) (fun q => ?_)
    · replace h := h.1 q
      refine j_aload_n hE (by decide +kernel : decode cX11_late 22 = .ok (.aload_n 0, 1)) rfl rfl ?_
      obtain ⟨hk, h⟩ := h
      obtain ⟨a5, ha, h⟩ := h
      refine j_getRn hE fg_X11_198 hk ha (by decide +kernel : decode cX11_late 23 = .ok (.getfield 198, 3)) ?_
      refine j_aload_n hE (by decide +kernel : decode cX11_late 26 = .ok (.aload_n 0, 1)) rfl rfl ?_
      refine j_aload_n hE (by decide +kernel : decode cX11_late 27 = .ok (.aload_n 0, 1)) rfl rfl ?_
      obtain ⟨hk, h⟩ := h
      obtain ⟨a6, ha, h⟩ := h
      refine j_getRn hE fg_X11_35 hk ha (by decide +kernel : decode cX11_late 28 = .ok (.getfield 35, 3)) ?_
      refine j_iload_n hE (by decide +kernel : decode cX11_late 31 = .ok (.iload_n 1, 1)) rfl rfl ?_
      obtain ⟨hk, hb, h⟩ := h
      refine j_iald hE hk hb (by decide +kernel : decode cX11_late 32 = .ok (.iaload, 1)) ?_
      refine j_aload_n hE (by decide +kernel : decode cX11_late 33 = .ok (.aload_n 0, 1)) rfl rfl ?_
      obtain ⟨hk, h⟩ := h
      refine j_getI hE fg_X11_217 hk (by decide +kernel : decode cX11_late 34 = .ok (.getfield 217, 3)) ?_
      refine j_aload_n hE (by decide +kernel : decode cX11_late 37 = .ok (.aload_n 0, 1)) rfl rfl ?_
      obtain ⟨hk, h⟩ := h
      refine j_getI hE fg_X11_217 hk (by decide +kernel : decode cX11_late 38 = .ok (.getfield 217, 3)) ?_
      obtain ⟨hk, h⟩ := h
      refine j_callV hE rfl cl_X11_237 cf_12 im_X11_shireOn se_X11_shireOn ⟨by omega, by omega⟩ (As := [.int (Ia g3 (Co g3 a6) (Ow g3 a6) p0.toNatClampNeg), .int (Gi g3 1536 th), .int (Gi g3 1536 th)]) (rest := [.ref a5]) rfl rfl (Nat.le_of_ble_eq_true rfl) hk (by decide +kernel : decode cX11_late 41 = .ok (.invokevirtual 237, 3)) (mt_M_shireOn _ _ _ _ _ _ h) ?_
      rintro _ g7 ⟨x8, rfl, h⟩
      obtain ⟨hk, hb, h⟩ := h
      refine j_iald hE hk hb (by decide +kernel : decode cX11_late 44 = .ok (.iaload, 1)) ?_
      obtain ⟨x9, hx⟩ : ∃ z, z = (Ia g7 (Co g7 a5) (Ow g7 a5) x8.toNatClampNeg) := ⟨_, rfl⟩; replace h := h x9 hx; rw [← hx]
      refine j_istore_n hE (by decide +kernel : decode cX11_late 45 = .ok (.istore_n 2, 1)) rfl (Nat.le_of_ble_eq_true rfl) rfl ?_
      refine j_aload_n hE (by decide +kernel : decode cX11_late 46 = .ok (.aload_n 0, 1)) rfl rfl ?_
      refine j_aload_n hE (by decide +kernel : decode cX11_late 47 = .ok (.aload_n 0, 1)) rfl rfl ?_
      obtain ⟨hk, h⟩ := h
      obtain ⟨a10, ha, h⟩ := h
      refine j_getRn hE fg_X11_17 hk ha (by decide +kernel : decode cX11_late 48 = .ok (.getfield 17, 3)) ?_
      refine j_aload_n hE (by decide +kernel : decode cX11_late 51 = .ok (.aload_n 0, 1)) rfl rfl ?_
      obtain ⟨hk, h⟩ := h
      obtain ⟨a11, ha, h⟩ := h
      refine j_getRn hE fg_X11_35 hk ha (by decide +kernel : decode cX11_late 52 = .ok (.getfield 35, 3)) ?_
      refine j_iload_n hE (by decide +kernel : decode cX11_late 55 = .ok (.iload_n 1, 1)) rfl rfl ?_
      obtain ⟨hk, hb, h⟩ := h
      refine j_iald hE hk hb (by decide +kernel : decode cX11_late 56 = .ok (.iaload, 1)) ?_
      obtain ⟨hk, hb, h⟩ := h
      refine j_iald hE hk hb (by decide +kernel : decode cX11_late 57 = .ok (.iaload, 1)) ?_
      refine j_sipush hE (by decide +kernel : decode cX11_late 58 = .ok (.sipush 900, 3)) (v := (900 : Int32)) (by decide) ?_
      obtain ⟨hk, h⟩ := h
      refine j_callV hE rfl cl_X11_483 cf_12 im_X11_usualOf se_X11_usualOf ⟨by omega, by omega⟩ (As := [.int (Ia g7 (Co g7 a10) (Ow g7 a10) (Ia g7 (Co g7 a11) (Ow g7 a11) p0.toNatClampNeg).toNatClampNeg), .int (900 : Int32)]) (rest := []) rfl rfl (Nat.le_of_ble_eq_true rfl) hk (by decide +kernel : decode cX11_late 61 = .ok (.invokevirtual 483, 3)) (mt_M_usualOf _ _ _ _ _ h) ?_
      rintro _ g12 ⟨x13, rfl, h⟩
      refine j_istore_n hE (by decide +kernel : decode cX11_late 64 = .ok (.istore_n 3, 1)) rfl (Nat.le_of_ble_eq_true rfl) rfl ?_
      refine j_iload_n hE (by decide +kernel : decode cX11_late 65 = .ok (.iload_n 3, 1)) rfl rfl ?_
      refine j_bipush hE (by decide +kernel : decode cX11_late 66 = .ok (.bipush (-2), 2)) (v := (-2 : Int32)) (by decide) ?_
      refine j_icmp_ne hE (by decide +kernel : decode cX11_late 68 = .ok (.if_icmp .ne 10, 3)) (tgt := 78) (by decide) (fun q => ?_) (fun q => ?_)
      · replace h := h.1 q
        refine j_aload_n hE (by decide +kernel : decode cX11_late 78 = .ok (.aload_n 0, 1)) rfl rfl ?_
        obtain ⟨hk, h⟩ := h
        obtain ⟨a14, ha, h⟩ := h
        refine j_getRn hE fg_X11_38 hk ha (by decide +kernel : decode cX11_late 79 = .ok (.getfield 38, 3)) ?_
        refine j_iload_n hE (by decide +kernel : decode cX11_late 82 = .ok (.iload_n 1, 1)) rfl rfl ?_
        obtain ⟨hk, hb, h⟩ := h
        refine j_iald hE hk hb (by decide +kernel : decode cX11_late 83 = .ok (.iaload, 1)) ?_
        refine j_iload_n hE (by decide +kernel : decode cX11_late 84 = .ok (.iload_n 3, 1)) rfl rfl ?_
        refine j_iadd hE (by decide +kernel : decode cX11_late 85 = .ok (.iadd, 1)) ?_
        refine j_weak [none, none, some (.int x9), none] ⟨rfl, trivial⟩ ?_
        exact S_M_late_86 hE _ _ _ h
      · replace h := h.2 q
        refine j_aload_n hE (by decide +kernel : decode cX11_late 71 = .ok (.aload_n 0, 1)) rfl rfl ?_
        obtain ⟨hk, h⟩ := h
        refine j_getI hE fg_X11_217 hk (by decide +kernel : decode cX11_late 72 = .ok (.getfield 217, 3)) ?_
        refine j_goto hE (by decide +kernel : decode cX11_late 75 = .ok (.goto 11, 3)) (tgt := 86) (by decide) ?_
        refine j_weak [none, none, some (.int x9), none] ⟨rfl, trivial⟩ ?_
        exact S_M_late_86 hE _ _ _ h
    · replace h := h.2 q
      refine j_weak [none, none, none, none] trivial ?_
      exact S_M_late_20 hE _ h
set_option maxHeartbeats 4000000 in
set_option maxRecDepth 100000 in
theorem rl_M_late {Γ : GAM} {l : Launch} {th : Nat} {p0 : Int32} {g : GH} {K : Int32 → GH → Prop} (h0 : B_M_late_0 Γ K th p0 g) : MetA Γ l yX11_late cX11_late 4 (some (.int)) 9 225 [.ref th, .int p0] g (fun r g' => ∃ x, r = some (.int x) ∧ K x g') := by
  refine MetA.introL (Lx := [some (.ref th), some (.int p0), none, none]) (by decide) (Nat.le_of_ble_eq_true rfl) rfl rfl ?_
  intro E hEl hE hnm
  exact S_M_late_0 hE th p0 g h0
theorem mt_M_late {Γ : GAM} {l : Launch} (th : Nat) (p0 : Int32) (g : GH) (K : Int32 → GH → Prop) (h : Sp_M_late Γ th p0 g K) : MetA Γ l yX11_late cX11_late 4 (some (.int)) 9 225 [.ref th, .int p0] g (fun r g' => ∃ x, r = some (.int x) ∧ K x g') := by
  obtain ⟨ma, s, hI, hw, hK⟩ := h
  have hkd := hI.1.1
  have hN := hw.len.2.2.1
  have hno : ∀ g', FrX th [1569, 1570, 1595, 1602] [1594, 1596, 1597, 1598, 1599, 1600, 1601, 1627] g g' → ¬ ok_late s p0 → K (-1) g' := fun g' hx hn => by have := hK g' hx; unfold p_late at this; rw [if_neg hn] at this; exact this
  refine rl_M_late ?_
  simp only [B_M_late_0, B_M_late_20, Sp_M_isEnvelope, ifz, hkd, hI.env.1, hI.now, true_and]
  refine ⟨fun u => hno g FrX.rf (fun q => u q.1), fun u => ?_⟩
  have hok := Classical.not_not.mp u
  have heo : eOk s p0 := ⟨hok.1, lt_of_in (by omega) hok⟩
  obtain ⟨x, hx, hex⟩ := eOk_get heo
  obtain ⟨y, hy, hvy, hv0, hvl⟩ := vOk_get hw hx
  have hV := hw.len.1
  have hb : inB p0 200 := ⟨heo.1, by have := heo.2; omega⟩
  have hbv : inB x.1 60 := ⟨hv0, by omega⟩
  refine ⟨ma, s, hI, hw, fun g2 hx2 => ?_⟩
  have hI2 := hI.x hx2 (by decide +kernel)
  obtain ⟨hkd2, hS2⟩ := hI2.1
  obtain ⟨w1, w2, w3⟩ := hI2.env
  obtain ⟨v1, v2, v3⟩ := hI2.vot
  have hf2 : FrX th [1569, 1570, 1595, 1602] [1594, 1596, 1597, 1598, 1599, 1600, 1601, 1627] g g2 := hx2.up (by decide) (by decide)
  obtain ⟨z_voterOf1, z_voterOf2, z_voterOf3, z_voterOf4, z_voterOf5⟩ := hS2 1556 20 200 rfl
  obtain ⟨z_streetOf1, z_streetOf2, z_streetOf3, z_streetOf4, z_streetOf5⟩ := hS2 1550 20 60 rfl
  obtain ⟨z_lastDay1, z_lastDay2, z_lastDay3, z_lastDay4, z_lastDay5⟩ := hS2 1626 20 4 rfl
  obtain ⟨z_sentOn1, z_sentOn2, z_sentOn3, z_sentOn4, z_sentOn5⟩ := hS2 1557 20 200 rfl
  refine ⟨fun u2 => ?_, fun u2 => hno g2 hf2 (fun q => u2 q.2)⟩
  have hokl : ok_late s p0 := ⟨hok, u2⟩
  have hsb := sShire_b hw hvl (s_now s) (s_now s)
  have hbs : inB (sShire s x.1.toNatClampNeg (s_now s) (s_now s)) 4 := ⟨hsb.1, by
    have h1 := nj_of hsb.1
    have h2 := hsb.2
    rw [h1.1] at h2
    have := (nj_le (b := 3) h1.2 (by omega)).mp h2
    omega⟩
  have hls := hI2.las _ hbs.2
  refine ⟨hkd2, _, z_lastDay1, hkd2, _, z_voterOf1, z_voterOf2, by rw [z_voterOf5]; exact hb, hkd2, hkd2, hkd2, ?_⟩
  rw [z_voterOf3, z_voterOf4, (w3 _ x hx).1, hI2.now]
  refine ⟨ma, s, hI2, hv0, hvl, z_lastDay2, by rw [z_lastDay5]; exact hbs, ?_⟩
  rw [z_lastDay3, z_lastDay4, hls]
  rintro x9 rfl
  refine ⟨hkd2, _, z_streetOf1, hkd2, _, z_voterOf1, z_voterOf2, by rw [z_voterOf5]; exact hb, z_streetOf2, by rw [z_voterOf3, z_voterOf4, (w3 _ x hx).1, z_streetOf5]; exact hbv, hkd2, ?_⟩
  rw [z_voterOf3, z_voterOf4, (w3 _ x hx).1, z_streetOf3, z_streetOf4, (v3 _ y hy).2.1]
  refine ⟨ma, s, hI2, hw, by decide, fun g3 hx3 => ?_⟩
  have hI3 := hI2.x hx3 (by decide +kernel)
  obtain ⟨hkd3, hS3⟩ := hI3.1
  obtain ⟨t1, t2, t3⟩ := hI3.env
  obtain ⟨z_sentOn1, z_sentOn2, z_sentOn3, z_sentOn4, z_sentOn5⟩ := hS3 1557 20 200 rfl
  have hK3 := hK g3 (hf2.tr (hx3.up (by decide) (by decide)))
  unfold p_late at hK3
  rw [if_pos hokl] at hK3
  unfold sLt at hK3
  rw [hex, hvy] at hK3
  have h86 : ∀ v : Int32, v = (if sUs s y.2.1 900 = -2 then s_now s else x.2.1 + sUs s y.2.1 900) → B_M_late_86 Γ K (s_las s (sShire s x.1.toNatClampNeg (s_now s) (s_now s)).toNatClampNeg) v g3 := by
    intro v hv
    rw [← hv] at hK3
    unfold B_M_late_86 B_M_late_95
    exact ⟨fun q => by rw [if_pos q] at hK3; exact hK3, fun q => by rw [if_neg q] at hK3; exact hK3⟩
  refine ⟨fun q => ⟨hkd3, _, z_sentOn1, z_sentOn2, by rw [z_sentOn5]; exact hb, ?_⟩, fun q => ⟨hkd3, ?_⟩⟩
  · rw [z_sentOn3, z_sentOn4, (t3 _ x hx).2.1]
    exact h86 _ (by rw [if_neg q])
  · rw [hI3.now]
    exact h86 _ (by rw [if_pos q])
