/-! the reference: what a hand tells -/
abbrev ok_hand (s : ST) (p0 : Int32) (p1 : Int32) (p2 : Int32) : Prop := (s_tel s).length ≠ 600 ∧ (0 ≤ p0 ∧ p0 ≤ nI (s_env s).length - 1) ∧ (0 ≤ p1 ∧ p1 ≤ 5)
def p_hand (s : ST) (p0 : Int32) (p1 : Int32) (p2 : Int32) : Int32 := if ok_hand s p0 p1 p2 then 1 else 0
def q_hand (s : ST) (p0 : Int32) (p1 : Int32) (p2 : Int32) : ST := if ok_hand s p0 p1 p2 then u_tel s ((s_tel s) ++ [(p0, p1, s_now s, p2)]) else s
def Sp_M_hand (Γ : GAM) (m : Nat) (p0 : Int32) (p1 : Int32) (p2 : Int32) (g : GH) (K : Int32 → GH → Prop) : Prop := (p2 = 0 ∨ p2 = 1) ∧ ∃ ma s, RefI m ma g s ∧ ∀ g', FrL m g g' → RefI m ma g' (q_hand s p0 p1 p2) → K (p_hand s p0 p1 p2) g'
-- the walk of M_hand
set_option maxRecDepth 100000 in
def B_M_hand_27 (Γ : GAM) (K : Int32 → GH → Prop)  (g : GH) : Prop :=
  K (0 : Int32) g
set_option maxHeartbeats 4000000 in
set_option maxRecDepth 100000 in
theorem S_M_hand_27 {Γ : GAM} {E : EV} {K : Int32 → GH → Prop} (hE : GE Γ E cX11_hand 4 RX11 (some (.boolean)) 2 43 (fun r g' => ∃ x, r = some (.int x) ∧ K x g'))  (g : GH) (h : B_M_hand_27 Γ K  g) : JW Γ E 27 [none, none, none, none] [] g := by
  unfold B_M_hand_27 at h
  refine j_iconst hE (by decide +kernel : decode cX11_hand 27 = .ok (.iconst 0, 1)) (v := (0 : Int32)) (by decide) ?_
  exact j_zret hE (Or.inl rfl) (by decide +kernel : decode cX11_hand 28 = .ok (.ireturn, 1)) ⟨_, rfl, h⟩
set_option maxRecDepth 100000 in
def B_M_hand_0 (Γ : GAM) (K : Int32 → GH → Prop) (th : Nat) (p0 : Int32) (p1 : Int32) (p2 : Int32) (g : GH) : Prop :=
  Kd g th = 13 ∧ Sp_M_isEnvelope Γ th p0 g (fun (x2 : Int32) (g1 : GH) => ((x2 = 0 → B_M_hand_27 Γ K g1) ∧ (¬ (x2 = 0) → Sp_M_in Γ p1 (0 : Int32) (5 : Int32) g1 (fun (x4 : Int32) (g3 : GH) => ((x4 = 0 → B_M_hand_27 Γ K g3) ∧ (¬ (x4 = 0) → Kd g3 th = 13 ∧ ((¬ ((Gi g3 1543 th) = (600 : Int32)) → Kd g3 th = 13 ∧ ∃ a5 : Nat, Gr g3 1574 th = some a5 ∧ Kd g3 th = 13 ∧ Kd g3 a5 = 20 ∧ inB (Gi g3 1543 th) (Ln g3 a5) ∧ ∀ g6 : GH, g6 = sA g3 (Co g3 a5) (Ow g3 a5) (Gi g3 1543 th).toNatClampNeg p0 → Kd g6 th = 13 ∧ ∃ a7 : Nat, Gr g6 1575 th = some a7 ∧ Kd g6 th = 13 ∧ Kd g6 a7 = 20 ∧ inB (Gi g6 1543 th) (Ln g6 a7) ∧ ∀ g8 : GH, g8 = sA g6 (Co g6 a7) (Ow g6 a7) (Gi g6 1543 th).toNatClampNeg p1 → Kd g8 th = 13 ∧ ∃ a9 : Nat, Gr g8 1576 th = some a9 ∧ Kd g8 th = 13 ∧ Kd g8 th = 13 ∧ Kd g8 a9 = 20 ∧ inB (Gi g8 1543 th) (Ln g8 a9) ∧ ∀ g10 : GH, g10 = sA g8 (Co g8 a9) (Ow g8 a9) (Gi g8 1543 th).toNatClampNeg (Gi g8 1536 th) → Kd g10 th = 13 ∧ ∃ a11 : Nat, Gr g10 1577 th = some a11 ∧ Kd g10 th = 13 ∧ Kd g10 a11 = 21 ∧ inB (Gi g10 1543 th) (Ln g10 a11) ∧ (p2 = 0 ∨ p2 = 1) ∧ ∀ g12 : GH, g12 = sA g10 (Co g10 a11) (Ow g10 a11) (Gi g10 1543 th).toNatClampNeg p2 → Kd g12 th = 13 ∧ Kd g12 th = 13 ∧ ∀ g13 : GH, g13 = sI g12 1543 th ((Gi g12 1543 th) + (1 : Int32)) → K (1 : Int32) g13) ∧ ((Gi g3 1543 th) = (600 : Int32) → B_M_hand_27 Γ K g3))))))))
set_option maxHeartbeats 4000000 in
set_option maxRecDepth 100000 in
theorem S_M_hand_0 {Γ : GAM} {E : EV} {K : Int32 → GH → Prop} (hE : GE Γ E cX11_hand 4 RX11 (some (.boolean)) 2 43 (fun r g' => ∃ x, r = some (.int x) ∧ K x g')) (th : Nat) (p0 : Int32) (p1 : Int32) (p2 : Int32) (g : GH) (h : B_M_hand_0 Γ K th p0 p1 p2 g) : JW Γ E 0 [some (.ref th), some (.int p0), some (.int p1), some (.int p2)] [] g := by
  unfold B_M_hand_0 at h
  refine j_aload_n hE (by decide +kernel : decode cX11_hand 0 = .ok (.aload_n 0, 1)) rfl rfl ?_
  refine j_iload_n hE (by decide +kernel : decode cX11_hand 1 = .ok (.iload_n 1, 1)) rfl rfl ?_
  obtain ⟨hk, h⟩ := h
  refine j_callV hE rfl cl_X11_244 cf_12 im_X11_isEnvelope se_X11_isEnvelope ⟨by omega, by omega⟩ (As := [.int p0]) (rest := []) rfl rfl (Nat.le_of_ble_eq_true rfl) hk (by decide +kernel : decode cX11_hand 2 = .ok (.invokevirtual 244, 3)) (mt_M_isEnvelope _ _ _ _ h) ?_
  rintro _ g1 ⟨x2, rfl, h⟩
  refine j_if_eq hE (by decide +kernel : decode cX11_hand 5 = .ok (.ifCond .eq 22, 3)) (tgt := 27) (by decide) (fun q => ?_) (fun q => ?_)
  · replace h := h.1 q
    refine j_weak [none, none, none, none] trivial ?_
    exact S_M_hand_27 hE _ h
  · replace h := h.2 q
    refine j_iload_n hE (by decide +kernel : decode cX11_hand 8 = .ok (.iload_n 2, 1)) rfl rfl ?_
    refine j_iconst hE (by decide +kernel : decode cX11_hand 9 = .ok (.iconst 0, 1)) (v := (0 : Int32)) (by decide) ?_
    refine j_iconst hE (by decide +kernel : decode cX11_hand 10 = .ok (.iconst 5, 1)) (v := (5 : Int32)) (by decide) ?_
    refine j_callS hE rfl cl_X11_213 st_X11_in ⟨by omega, by omega⟩ (As := [.int p1, .int (0 : Int32), .int (5 : Int32)]) (rest := []) rfl rfl (Nat.le_of_ble_eq_true rfl) (by decide +kernel : decode cX11_hand 11 = .ok (.invokestatic 213, 3)) (mt_M_in _ _ _ _ _ h) ?_
    rintro _ g3 ⟨x4, rfl, h⟩
    refine j_if_eq hE (by decide +kernel : decode cX11_hand 14 = .ok (.ifCond .eq 13, 3)) (tgt := 27) (by decide) (fun q => ?_) (fun q => ?_)
    · replace h := h.1 q
      refine j_weak [none, none, none, none] trivial ?_
      exact S_M_hand_27 hE _ h
    · replace h := h.2 q
      refine j_aload_n hE (by decide +kernel : decode cX11_hand 17 = .ok (.aload_n 0, 1)) rfl rfl ?_
      obtain ⟨hk, h⟩ := h
      refine j_getI hE fg_X11_285 hk (by decide +kernel : decode cX11_hand 18 = .ok (.getfield 285, 3)) ?_
      refine j_sipush hE (by decide +kernel : decode cX11_hand 21 = .ok (.sipush 600, 3)) (v := (600 : Int32)) (by decide) ?_
      refine j_icmp_ne hE (by decide +kernel : decode cX11_hand 24 = .ok (.if_icmp .ne 5, 3)) (tgt := 29) (by decide) (fun q => ?_) (fun q => ?_)
      · replace h := h.1 q
        refine j_aload_n hE (by decide +kernel : decode cX11_hand 29 = .ok (.aload_n 0, 1)) rfl rfl ?_
        obtain ⟨hk, h⟩ := h
        obtain ⟨a5, ha, h⟩ := h
        refine j_getRn hE fg_X11_83 hk ha (by decide +kernel : decode cX11_hand 30 = .ok (.getfield 83, 3)) ?_
        refine j_aload_n hE (by decide +kernel : decode cX11_hand 33 = .ok (.aload_n 0, 1)) rfl rfl ?_
        obtain ⟨hk, h⟩ := h
        refine j_getI hE fg_X11_285 hk (by decide +kernel : decode cX11_hand 34 = .ok (.getfield 285, 3)) ?_
        refine j_iload_n hE (by decide +kernel : decode cX11_hand 37 = .ok (.iload_n 1, 1)) rfl rfl ?_
        obtain ⟨hk, hb, h⟩ := h
        obtain ⟨g6, hg⟩ : ∃ z, z = sA g3 (Co g3 a5) (Ow g3 a5) (Gi g3 1543 th).toNatClampNeg p0 := ⟨_, rfl⟩; replace h := h g6 hg
        refine j_iast hE hk hb (by decide +kernel : decode cX11_hand 38 = .ok (.iastore, 1)) ?_
        rw [← hg]
        refine j_aload_n hE (by decide +kernel : decode cX11_hand 39 = .ok (.aload_n 0, 1)) rfl rfl ?_
        obtain ⟨hk, h⟩ := h
        obtain ⟨a7, ha, h⟩ := h
        refine j_getRn hE fg_X11_86 hk ha (by decide +kernel : decode cX11_hand 40 = .ok (.getfield 86, 3)) ?_
        refine j_aload_n hE (by decide +kernel : decode cX11_hand 43 = .ok (.aload_n 0, 1)) rfl rfl ?_
        obtain ⟨hk, h⟩ := h
        refine j_getI hE fg_X11_285 hk (by decide +kernel : decode cX11_hand 44 = .ok (.getfield 285, 3)) ?_
        refine j_iload_n hE (by decide +kernel : decode cX11_hand 47 = .ok (.iload_n 2, 1)) rfl rfl ?_
        obtain ⟨hk, hb, h⟩ := h
        obtain ⟨g8, hg⟩ : ∃ z, z = sA g6 (Co g6 a7) (Ow g6 a7) (Gi g6 1543 th).toNatClampNeg p1 := ⟨_, rfl⟩; replace h := h g8 hg
        refine j_iast hE hk hb (by decide +kernel : decode cX11_hand 48 = .ok (.iastore, 1)) ?_
        rw [← hg]
        refine j_aload_n hE (by decide +kernel : decode cX11_hand 49 = .ok (.aload_n 0, 1)) rfl rfl ?_
        obtain ⟨hk, h⟩ := h
        obtain ⟨a9, ha, h⟩ := h
        refine j_getRn hE fg_X11_89 hk ha (by decide +kernel : decode cX11_hand 50 = .ok (.getfield 89, 3)) ?_
        refine j_aload_n hE (by decide +kernel : decode cX11_hand 53 = .ok (.aload_n 0, 1)) rfl rfl ?_
        obtain ⟨hk, h⟩ := h
        refine j_getI hE fg_X11_285 hk (by decide +kernel : decode cX11_hand 54 = .ok (.getfield 285, 3)) ?_
        refine j_aload_n hE (by decide +kernel : decode cX11_hand 57 = .ok (.aload_n 0, 1)) rfl rfl ?_
        obtain ⟨hk, h⟩ := h
        refine j_getI hE fg_X11_217 hk (by decide +kernel : decode cX11_hand 58 = .ok (.getfield 217, 3)) ?_
        obtain ⟨hk, hb, h⟩ := h
        obtain ⟨g10, hg⟩ : ∃ z, z = sA g8 (Co g8 a9) (Ow g8 a9) (Gi g8 1543 th).toNatClampNeg (Gi g8 1536 th) := ⟨_, rfl⟩; replace h := h g10 hg
        refine j_iast hE hk hb (by decide +kernel : decode cX11_hand 61 = .ok (.iastore, 1)) ?_
        rw [← hg]
        refine j_aload_n hE (by decide +kernel : decode cX11_hand 62 = .ok (.aload_n 0, 1)) rfl rfl ?_
        obtain ⟨hk, h⟩ := h
        obtain ⟨a11, ha, h⟩ := h
        refine j_getRn hE fg_X11_92 hk ha (by decide +kernel : decode cX11_hand 63 = .ok (.getfield 92, 3)) ?_
        refine j_aload_n hE (by decide +kernel : decode cX11_hand 66 = .ok (.aload_n 0, 1)) rfl rfl ?_
        obtain ⟨hk, h⟩ := h
        refine j_getI hE fg_X11_285 hk (by decide +kernel : decode cX11_hand 67 = .ok (.getfield 285, 3)) ?_
        refine j_iload_n hE (by decide +kernel : decode cX11_hand 70 = .ok (.iload_n 3, 1)) rfl rfl ?_
        obtain ⟨hk, hb, hz, h⟩ := h
        obtain ⟨g12, hg⟩ : ∃ z, z = sA g10 (Co g10 a11) (Ow g10 a11) (Gi g10 1543 th).toNatClampNeg p2 := ⟨_, rfl⟩; replace h := h g12 hg
        refine j_zast hE hk hb hz (by decide +kernel : decode cX11_hand 71 = .ok (.bastore, 1)) ?_
        rw [← hg]
        refine j_aload_n hE (by decide +kernel : decode cX11_hand 72 = .ok (.aload_n 0, 1)) rfl rfl ?_
        refine j_dup hE (by decide +kernel : decode cX11_hand 73 = .ok (.dup, 1)) rfl ?_
        obtain ⟨hk, h⟩ := h
        refine j_getI hE fg_X11_285 hk (by decide +kernel : decode cX11_hand 74 = .ok (.getfield 285, 3)) ?_
        refine j_iconst hE (by decide +kernel : decode cX11_hand 77 = .ok (.iconst 1, 1)) (v := (1 : Int32)) (by decide) ?_
        refine j_iadd hE (by decide +kernel : decode cX11_hand 78 = .ok (.iadd, 1)) ?_
        obtain ⟨hk, h⟩ := h
        obtain ⟨g13, hg⟩ : ∃ z, z = sI g12 1543 th ((Gi g12 1543 th) + (1 : Int32)) := ⟨_, rfl⟩; replace h := h g13 hg
        refine j_putI hE fa_X11_285 hk (fun q => by cases q) (by decide +kernel : decode cX11_hand 79 = .ok (.putfield 285, 3)) ?_
        rw [← hg]
        refine j_iconst hE (by decide +kernel : decode cX11_hand 82 = .ok (.iconst 1, 1)) (v := (1 : Int32)) (by decide) ?_
        exact j_zret hE (Or.inr rfl) (by decide +kernel : decode cX11_hand 83 = .ok (.ireturn, 1)) ⟨_, rfl, h⟩
      · replace h := h.2 q
        refine j_weak [none, none, none, none] trivial ?_
        exact S_M_hand_27 hE _ h
set_option maxHeartbeats 4000000 in
set_option maxRecDepth 100000 in
theorem rl_M_hand {Γ : GAM} {l : Launch} {th : Nat} {p0 : Int32} {p1 : Int32} {p2 : Int32} {g : GH} {K : Int32 → GH → Prop} (h0 : B_M_hand_0 Γ K th p0 p1 p2 g) : MetA Γ l yX11_hand cX11_hand 4 (some (.boolean)) 2 43 [.ref th, .int p0, .int p1, .int p2] g (fun r g' => ∃ x, r = some (.int x) ∧ K x g') := by
  refine MetA.introL (Lx := [some (.ref th), some (.int p0), some (.int p1), some (.int p2)]) (by decide) (Nat.le_of_ble_eq_true rfl) rfl rfl ?_
  intro E hEl hE hnm
  exact S_M_hand_0 hE th p0 p1 p2 g h0
theorem mt_M_hand {Γ : GAM} {l : Launch} (th : Nat) (p0 : Int32) (p1 : Int32) (p2 : Int32) (g : GH) (K : Int32 → GH → Prop) (h : Sp_M_hand Γ th p0 p1 p2 g K) : MetA Γ l yX11_hand cX11_hand 4 (some (.boolean)) 2 43 [.ref th, .int p0, .int p1, .int p2] g (fun r g' => ∃ x, r = some (.int x) ∧ K x g') := by
  obtain ⟨hb2, ma, s, hI, hK⟩ := h
  refine rl_M_hand ?_
  obtain ⟨hkd, hS⟩ := hI.1
  obtain ⟨e1, e2, -⟩ := hI.tel
  have hnow := hI.now
  have hv1 := hI.vot.1
  have hv2 := hI.env.1
  obtain ⟨z_tellOf1, z_tellOf2, z_tellOf3, z_tellOf4, z_tellOf5⟩ := hS 1574 20 600 rfl
  obtain ⟨z_tellHand1, z_tellHand2, z_tellHand3, z_tellHand4, z_tellHand5⟩ := hS 1575 20 600 rfl
  obtain ⟨z_tellTold1, z_tellTold2, z_tellTold3, z_tellTold4, z_tellTold5⟩ := hS 1576 20 600 rfl
  obtain ⟨z_tellYes1, z_tellYes2, z_tellYes3, z_tellYes4, z_tellYes5⟩ := hS 1577 21 600 rfl
  have hno : ¬ ok_hand s p0 p1 p2 → K (0) g := fun hn => by
    unfold p_hand q_hand at hK
    rw [if_neg hn, if_neg hn] at hK
    exact hK g FrL.rf hI
  have hyes : ok_hand s p0 p1 p2 → ∀ r g', r = 1 → g' = (sI (sA (sA (sA (sA g 1574 th (s_tel s).length (p0)) 1575 th (s_tel s).length (p1)) 1576 th (s_tel s).length (s_now s)) 1577 th (s_tel s).length (p2)) 1543 th (nI ((s_tel s).length + 1))) → K r g' := fun hn r g' hr hg => by
    subst hr hg
    unfold p_hand q_hand at hK
    rw [if_pos hn, if_pos hn] at hK
    have hl : (s_tel s).length < 600 := by have := hn.1; omega
    exact hK _ (((((FrL.rf.tr FrL.sA).tr FrL.sA).tr FrL.sA).tr FrL.sA).tr FrL.sI) ⟨hI.1, hI.now, hI.siz, hI.prs, hI.stp, hI.vot, hI.mov, hI.env, hI.evt, hI.emp, hI.rea, (R_tel_push hI.tel hl (by simp [Gi_sI]) (fun k => by simp [Ia_sA, Ia_sI]) (fun k => by simp [Ia_sA, Ia_sI]) (fun k => by simp [Ia_sA, Ia_sI]) (fun k => by simp [Ia_sA, Ia_sI])), hI.boo, hI.wav, hI.hea, hI.tap, hI.law, hI.hof, hI.box, hI.roa, hI.las⟩
  have hcl : (nI (s_tel s).length).toNatClampNeg = (s_tel s).length := nj_cl (by omega)
  have hcap : (nI (s_tel s).length = (600 : Int32)) = ((s_tel s).length = 600) := propext (nj_eq (b := 600) (by omega) (by omega))
  have hib : (s_tel s).length ≠ 600 → inB (nI (s_tel s).length) 600 := fun h => inB_nI (by omega) (by omega)
  simp only [B_M_hand_27, B_M_hand_0, Sp_M_in, Sp_M_isShire, Sp_M_isVoter, Sp_M_isEnvelope, Sp_M_isKnowing, ifz, hkd, hnow, hv1, hv2, e1, z_tellOf1, z_tellOf2, z_tellOf3, z_tellOf4, z_tellOf5, z_tellHand1, z_tellHand2, z_tellHand3, z_tellHand4, z_tellHand5, z_tellTold1, z_tellTold2, z_tellTold3, z_tellTold4, z_tellTold5, z_tellYes1, z_tellYes2, z_tellYes3, z_tellYes4, z_tellYes5, true_and, Kd_sA, Gr_sA, Co_sA, Ow_sA, Ln_sA, Gi_sA, Kd_sI, Gi_sI, Option.some.injEq, exists_eq_left', forall_eq, and_self, if_true, nj_s, hcl, hcap, Int32.add_sub_cancel]
  repeat' with_reducible first | apply And.intro | intro _
  all_goals first | exact hb2 | exact hno (by grind) | exact hib (by grind) | exact hyes (by grind) _ _ (by first | rfl | (rw [← nj_s]; exact Int32.add_sub_cancel)) rfl
