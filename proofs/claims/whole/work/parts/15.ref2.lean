/-! the reference: telling calls that lay a row more -/
abbrev ok_voter (s : ST) (p0 : Int32) (p1 : Int32) (p2 : Int32) : Prop := (s_vot s).length ≠ 60 ∧ (0 ≤ p0 ∧ p0 ≤ 3) ∧ (0 ≤ p1 ∧ p1 ≤ 9) ∧ (0 ≤ p2 ∧ p2 ≤ 99999999)
def p_voter (s : ST) (p0 : Int32) (p1 : Int32) (p2 : Int32) : Int32 := if ok_voter s p0 p1 p2 then nI (s_vot s).length else -1
def q_voter (s : ST) (p0 : Int32) (p1 : Int32) (p2 : Int32) : ST := if ok_voter s p0 p1 p2 then u_vot s ((s_vot s) ++ [(p0, p1, p2)]) else s
def Sp_M_voter (Γ : GAM) (m : Nat) (p0 : Int32) (p1 : Int32) (p2 : Int32) (g : GH) (K : Int32 → GH → Prop) : Prop := ∃ ma s, RefI m ma g s ∧ ∀ g', FrL m g g' → RefI m ma g' (q_voter s p0 p1 p2) → K (p_voter s p0 p1 p2) g'
-- the walk of M_voter
set_option maxRecDepth 100000 in
def B_M_voter_36 (Γ : GAM) (K : Int32 → GH → Prop)  (g : GH) : Prop :=
  K (-1 : Int32) g
set_option maxHeartbeats 4000000 in
set_option maxRecDepth 100000 in
theorem S_M_voter_36 {Γ : GAM} {E : EV} {K : Int32 → GH → Prop} (hE : GE Γ E cX11_voter 4 RX11 (some (.int)) 2 42 (fun r g' => ∃ x, r = some (.int x) ∧ K x g'))  (g : GH) (h : B_M_voter_36 Γ K  g) : JW Γ E 36 [none, none, none, none] [] g := by
  unfold B_M_voter_36 at h
  refine j_iconst hE (by decide +kernel : decode cX11_voter 36 = .ok (.iconst (-1), 1)) (v := (-1 : Int32)) (by decide) ?_
  exact j_iret hE (by decide +kernel : decode cX11_voter 37 = .ok (.ireturn, 1)) ⟨_, rfl, h⟩
set_option maxRecDepth 100000 in
def B_M_voter_0 (Γ : GAM) (K : Int32 → GH → Prop) (th : Nat) (p0 : Int32) (p1 : Int32) (p2 : Int32) (g : GH) : Prop :=
  Kd g th = 13 ∧ (((Gi g 1537 th) = (60 : Int32) → B_M_voter_36 Γ K g) ∧ (¬ ((Gi g 1537 th) = (60 : Int32)) → Sp_M_isShire Γ p0 g (fun (x2 : Int32) (g1 : GH) => ((x2 = 0 → B_M_voter_36 Γ K g1) ∧ (¬ (x2 = 0) → Sp_M_in Γ p1 (0 : Int32) (9 : Int32) g1 (fun (x4 : Int32) (g3 : GH) => ((x4 = 0 → B_M_voter_36 Γ K g3) ∧ (¬ (x4 = 0) → Sp_M_in Γ p2 (0 : Int32) (99999999 : Int32) g3 (fun (x6 : Int32) (g5 : GH) => ((¬ (x6 = 0) → Kd g5 th = 13 ∧ ∃ a7 : Nat, Gr g5 1549 th = some a7 ∧ Kd g5 th = 13 ∧ Kd g5 a7 = 20 ∧ inB (Gi g5 1537 th) (Ln g5 a7) ∧ ∀ g8 : GH, g8 = sA g5 (Co g5 a7) (Ow g5 a7) (Gi g5 1537 th).toNatClampNeg p0 → Kd g8 th = 13 ∧ ∃ a9 : Nat, Gr g8 1550 th = some a9 ∧ Kd g8 th = 13 ∧ Kd g8 a9 = 20 ∧ inB (Gi g8 1537 th) (Ln g8 a9) ∧ ∀ g10 : GH, g10 = sA g8 (Co g8 a9) (Ow g8 a9) (Gi g8 1537 th).toNatClampNeg p1 → Kd g10 th = 13 ∧ ∃ a11 : Nat, Gr g10 1551 th = some a11 ∧ Kd g10 th = 13 ∧ Kd g10 a11 = 20 ∧ inB (Gi g10 1537 th) (Ln g10 a11) ∧ ∀ g12 : GH, g12 = sA g10 (Co g10 a11) (Ow g10 a11) (Gi g10 1537 th).toNatClampNeg p2 → Kd g12 th = 13 ∧ Kd g12 th = 13 ∧ ∀ g13 : GH, g13 = sI g12 1537 th ((Gi g12 1537 th) + (1 : Int32)) → Kd g13 th = 13 ∧ K ((Gi g13 1537 th) - (1 : Int32)) g13) ∧ (x6 = 0 → B_M_voter_36 Γ K g5)))))))))))
set_option maxHeartbeats 4000000 in
set_option maxRecDepth 100000 in
theorem S_M_voter_0 {Γ : GAM} {E : EV} {K : Int32 → GH → Prop} (hE : GE Γ E cX11_voter 4 RX11 (some (.int)) 2 42 (fun r g' => ∃ x, r = some (.int x) ∧ K x g')) (th : Nat) (p0 : Int32) (p1 : Int32) (p2 : Int32) (g : GH) (h : B_M_voter_0 Γ K th p0 p1 p2 g) : JW Γ E 0 [some (.ref th), some (.int p0), some (.int p1), some (.int p2)] [] g := by
  unfold B_M_voter_0 at h
  refine j_aload_n hE (by decide +kernel : decode cX11_voter 0 = .ok (.aload_n 0, 1)) rfl rfl ?_
  obtain ⟨hk, h⟩ := h
  refine j_getI hE fg_X11_220 hk (by decide +kernel : decode cX11_voter 1 = .ok (.getfield 220, 3)) ?_
  refine j_bipush hE (by decide +kernel : decode cX11_voter 4 = .ok (.bipush 60, 2)) (v := (60 : Int32)) (by decide) ?_
  refine j_icmp_eq hE (by decide +kernel : decode cX11_voter 6 = .ok (.if_icmp .eq 30, 3)) (tgt := 36) (by decide) (fun q => ?_) (fun q => ?_)
  · replace h := h.1 q
    refine j_weak [none, none, none, none] trivial ?_
    exact S_M_voter_36 hE _ h
  · replace h := h.2 q
    refine j_iload_n hE (by decide +kernel : decode cX11_voter 9 = .ok (.iload_n 1, 1)) rfl rfl ?_
    refine j_callS hE rfl cl_X11_223 st_X11_isShire ⟨by omega, by omega⟩ (As := [.int p0]) (rest := []) rfl rfl (Nat.le_of_ble_eq_true rfl) (by decide +kernel : decode cX11_voter 10 = .ok (.invokestatic 223, 3)) (mt_M_isShire _ _ _ h) ?_
    rintro _ g1 ⟨x2, rfl, h⟩
    refine j_if_eq hE (by decide +kernel : decode cX11_voter 13 = .ok (.ifCond .eq 23, 3)) (tgt := 36) (by decide) (fun q => ?_) (fun q => ?_)
    · replace h := h.1 q
      refine j_weak [none, none, none, none] trivial ?_
      exact S_M_voter_36 hE _ h
    · replace h := h.2 q
      refine j_iload_n hE (by decide +kernel : decode cX11_voter 16 = .ok (.iload_n 2, 1)) rfl rfl ?_
      refine j_iconst hE (by decide +kernel : decode cX11_voter 17 = .ok (.iconst 0, 1)) (v := (0 : Int32)) (by decide) ?_
      refine j_bipush hE (by decide +kernel : decode cX11_voter 18 = .ok (.bipush 9, 2)) (v := (9 : Int32)) (by decide) ?_
      refine j_callS hE rfl cl_X11_213 st_X11_in ⟨by omega, by omega⟩ (As := [.int p1, .int (0 : Int32), .int (9 : Int32)]) (rest := []) rfl rfl (Nat.le_of_ble_eq_true rfl) (by decide +kernel : decode cX11_voter 20 = .ok (.invokestatic 213, 3)) (mt_M_in _ _ _ _ _ h) ?_
      rintro _ g3 ⟨x4, rfl, h⟩
      refine j_if_eq hE (by decide +kernel : decode cX11_voter 23 = .ok (.ifCond .eq 13, 3)) (tgt := 36) (by decide) (fun q => ?_) (fun q => ?_)
      · replace h := h.1 q
        refine j_weak [none, none, none, none] trivial ?_
        exact S_M_voter_36 hE _ h
      · replace h := h.2 q
        refine j_iload_n hE (by decide +kernel : decode cX11_voter 26 = .ok (.iload_n 3, 1)) rfl rfl ?_
        refine j_iconst hE (by decide +kernel : decode cX11_voter 27 = .ok (.iconst 0, 1)) (v := (0 : Int32)) (by decide) ?_
        refine j_ldc hE ct_X11_227 (by decide +kernel : decode cX11_voter 28 = .ok (.ldc 227, 2)) ?_
        refine j_callS hE rfl cl_X11_213 st_X11_in ⟨by omega, by omega⟩ (As := [.int p2, .int (0 : Int32), .int (99999999 : Int32)]) (rest := []) rfl rfl (Nat.le_of_ble_eq_true rfl) (by decide +kernel : decode cX11_voter 30 = .ok (.invokestatic 213, 3)) (mt_M_in _ _ _ _ _ h) ?_
        rintro _ g5 ⟨x6, rfl, h⟩
        refine j_if_ne hE (by decide +kernel : decode cX11_voter 33 = .ok (.ifCond .ne 5, 3)) (tgt := 38) (by decide) (fun q => ?_) (fun q => ?_)
        · replace h := h.1 q
          refine j_aload_n hE (by decide +kernel : decode cX11_voter 38 = .ok (.aload_n 0, 1)) rfl rfl ?_
          obtain ⟨hk, h⟩ := h
          obtain ⟨a7, ha, h⟩ := h
          refine j_getRn hE fg_X11_13 hk ha (by decide +kernel : decode cX11_voter 39 = .ok (.getfield 13, 3)) ?_
          refine j_aload_n hE (by decide +kernel : decode cX11_voter 42 = .ok (.aload_n 0, 1)) rfl rfl ?_
          obtain ⟨hk, h⟩ := h
          refine j_getI hE fg_X11_220 hk (by decide +kernel : decode cX11_voter 43 = .ok (.getfield 220, 3)) ?_
          refine j_iload_n hE (by decide +kernel : decode cX11_voter 46 = .ok (.iload_n 1, 1)) rfl rfl ?_
          obtain ⟨hk, hb, h⟩ := h
          obtain ⟨g8, hg⟩ : ∃ z, z = sA g5 (Co g5 a7) (Ow g5 a7) (Gi g5 1537 th).toNatClampNeg p0 := ⟨_, rfl⟩; replace h := h g8 hg
          refine j_iast hE hk hb (by decide +kernel : decode cX11_voter 47 = .ok (.iastore, 1)) ?_
          rw [← hg]
          refine j_aload_n hE (by decide +kernel : decode cX11_voter 48 = .ok (.aload_n 0, 1)) rfl rfl ?_
          obtain ⟨hk, h⟩ := h
          obtain ⟨a9, ha, h⟩ := h
          refine j_getRn hE fg_X11_17 hk ha (by decide +kernel : decode cX11_voter 49 = .ok (.getfield 17, 3)) ?_
          refine j_aload_n hE (by decide +kernel : decode cX11_voter 52 = .ok (.aload_n 0, 1)) rfl rfl ?_
          obtain ⟨hk, h⟩ := h
          refine j_getI hE fg_X11_220 hk (by decide +kernel : decode cX11_voter 53 = .ok (.getfield 220, 3)) ?_
          refine j_iload_n hE (by decide +kernel : decode cX11_voter 56 = .ok (.iload_n 2, 1)) rfl rfl ?_
          obtain ⟨hk, hb, h⟩ := h
          obtain ⟨g10, hg⟩ : ∃ z, z = sA g8 (Co g8 a9) (Ow g8 a9) (Gi g8 1537 th).toNatClampNeg p1 := ⟨_, rfl⟩; replace h := h g10 hg
          refine j_iast hE hk hb (by decide +kernel : decode cX11_voter 57 = .ok (.iastore, 1)) ?_
          rw [← hg]
          refine j_aload_n hE (by decide +kernel : decode cX11_voter 58 = .ok (.aload_n 0, 1)) rfl rfl ?_
          obtain ⟨hk, h⟩ := h
          obtain ⟨a11, ha, h⟩ := h
          refine j_getRn hE fg_X11_20 hk ha (by decide +kernel : decode cX11_voter 59 = .ok (.getfield 20, 3)) ?_
          refine j_aload_n hE (by decide +kernel : decode cX11_voter 62 = .ok (.aload_n 0, 1)) rfl rfl ?_
          obtain ⟨hk, h⟩ := h
          refine j_getI hE fg_X11_220 hk (by decide +kernel : decode cX11_voter 63 = .ok (.getfield 220, 3)) ?_
          refine j_iload_n hE (by decide +kernel : decode cX11_voter 66 = .ok (.iload_n 3, 1)) rfl rfl ?_
          obtain ⟨hk, hb, h⟩ := h
          obtain ⟨g12, hg⟩ : ∃ z, z = sA g10 (Co g10 a11) (Ow g10 a11) (Gi g10 1537 th).toNatClampNeg p2 := ⟨_, rfl⟩; replace h := h g12 hg
          refine j_iast hE hk hb (by decide +kernel : decode cX11_voter 67 = .ok (.iastore, 1)) ?_
          rw [← hg]
          refine j_aload_n hE (by decide +kernel : decode cX11_voter 68 = .ok (.aload_n 0, 1)) rfl rfl ?_
          refine j_dup hE (by decide +kernel : decode cX11_voter 69 = .ok (.dup, 1)) rfl ?_
          obtain ⟨hk, h⟩ := h
          refine j_getI hE fg_X11_220 hk (by decide +kernel : decode cX11_voter 70 = .ok (.getfield 220, 3)) ?_
          refine j_iconst hE (by decide +kernel : decode cX11_voter 73 = .ok (.iconst 1, 1)) (v := (1 : Int32)) (by decide) ?_
          refine j_iadd hE (by decide +kernel : decode cX11_voter 74 = .ok (.iadd, 1)) ?_
          obtain ⟨hk, h⟩ := h
          obtain ⟨g13, hg⟩ : ∃ z, z = sI g12 1537 th ((Gi g12 1537 th) + (1 : Int32)) := ⟨_, rfl⟩; replace h := h g13 hg
          refine j_putI hE fa_X11_220 hk (fun q => by cases q) (by decide +kernel : decode cX11_voter 75 = .ok (.putfield 220, 3)) ?_
          rw [← hg]
          refine j_aload_n hE (by decide +kernel : decode cX11_voter 78 = .ok (.aload_n 0, 1)) rfl rfl ?_
          obtain ⟨hk, h⟩ := h
          refine j_getI hE fg_X11_220 hk (by decide +kernel : decode cX11_voter 79 = .ok (.getfield 220, 3)) ?_
          refine j_iconst hE (by decide +kernel : decode cX11_voter 82 = .ok (.iconst 1, 1)) (v := (1 : Int32)) (by decide) ?_
          refine j_isub hE (by decide +kernel : decode cX11_voter 83 = .ok (.isub, 1)) ?_
          exact j_iret hE (by decide +kernel : decode cX11_voter 84 = .ok (.ireturn, 1)) ⟨_, rfl, h⟩
        · replace h := h.2 q
          refine j_weak [none, none, none, none] trivial ?_
          exact S_M_voter_36 hE _ h
set_option maxHeartbeats 4000000 in
set_option maxRecDepth 100000 in
theorem rl_M_voter {Γ : GAM} {l : Launch} {th : Nat} {p0 : Int32} {p1 : Int32} {p2 : Int32} {g : GH} {K : Int32 → GH → Prop} (h0 : B_M_voter_0 Γ K th p0 p1 p2 g) : MetA Γ l yX11_voter cX11_voter 4 (some (.int)) 2 42 [.ref th, .int p0, .int p1, .int p2] g (fun r g' => ∃ x, r = some (.int x) ∧ K x g') := by
  refine MetA.introL (Lx := [some (.ref th), some (.int p0), some (.int p1), some (.int p2)]) (by decide) (Nat.le_of_ble_eq_true rfl) rfl rfl ?_
  intro E hEl hE hnm
  exact S_M_voter_0 hE th p0 p1 p2 g h0
theorem mt_M_voter {Γ : GAM} {l : Launch} (th : Nat) (p0 : Int32) (p1 : Int32) (p2 : Int32) (g : GH) (K : Int32 → GH → Prop) (h : Sp_M_voter Γ th p0 p1 p2 g K) : MetA Γ l yX11_voter cX11_voter 4 (some (.int)) 2 42 [.ref th, .int p0, .int p1, .int p2] g (fun r g' => ∃ x, r = some (.int x) ∧ K x g') := by
  obtain ⟨ma, s, hI, hK⟩ := h
  refine rl_M_voter ?_
  obtain ⟨hkd, hS⟩ := hI.1
  obtain ⟨e1, e2, -⟩ := hI.vot
  have hnow := hI.now
  have hv1 := hI.vot.1
  have hv2 := hI.env.1
  obtain ⟨z_shireOf1, z_shireOf2, z_shireOf3, z_shireOf4, z_shireOf5⟩ := hS 1549 20 60 rfl
  obtain ⟨z_streetOf1, z_streetOf2, z_streetOf3, z_streetOf4, z_streetOf5⟩ := hS 1550 20 60 rfl
  obtain ⟨z_signOf1, z_signOf2, z_signOf3, z_signOf4, z_signOf5⟩ := hS 1551 20 60 rfl
  have hno : ¬ ok_voter s p0 p1 p2 → K (-1) g := fun hn => by
    unfold p_voter q_voter at hK
    rw [if_neg hn, if_neg hn] at hK
    exact hK g FrL.rf hI
  have hyes : ok_voter s p0 p1 p2 → ∀ r g', r = nI (s_vot s).length → g' = (sI (sA (sA (sA g 1549 th (s_vot s).length (p0)) 1550 th (s_vot s).length (p1)) 1551 th (s_vot s).length (p2)) 1537 th (nI ((s_vot s).length + 1))) → K r g' := fun hn r g' hr hg => by
    subst hr hg
    unfold p_voter q_voter at hK
    rw [if_pos hn, if_pos hn] at hK
    have hl : (s_vot s).length < 60 := by have := hn.1; omega
    exact hK _ ((((FrL.rf.tr FrL.sA).tr FrL.sA).tr FrL.sA).tr FrL.sI) ⟨hI.1, hI.now, hI.siz, hI.prs, hI.stp, (R_vot_push hI.vot hl (by simp [Gi_sI]) (fun k => by simp [Ia_sA, Ia_sI]) (fun k => by simp [Ia_sA, Ia_sI]) (fun k => by simp [Ia_sA, Ia_sI])), hI.mov, hI.env, hI.evt, hI.emp, hI.rea, hI.tel, hI.boo, hI.wav, hI.hea, hI.tap, hI.law, hI.hof, hI.box, hI.roa, hI.las⟩
  have hcl : (nI (s_vot s).length).toNatClampNeg = (s_vot s).length := nj_cl (by omega)
  have hcap : (nI (s_vot s).length = (60 : Int32)) = ((s_vot s).length = 60) := propext (nj_eq (b := 60) (by omega) (by omega))
  have hib : (s_vot s).length ≠ 60 → inB (nI (s_vot s).length) 60 := fun h => inB_nI (by omega) (by omega)
  simp only [B_M_voter_36, B_M_voter_0, Sp_M_in, Sp_M_isShire, Sp_M_isVoter, Sp_M_isEnvelope, Sp_M_isKnowing, ifz, hkd, hnow, hv1, hv2, e1, z_shireOf1, z_shireOf2, z_shireOf3, z_shireOf4, z_shireOf5, z_streetOf1, z_streetOf2, z_streetOf3, z_streetOf4, z_streetOf5, z_signOf1, z_signOf2, z_signOf3, z_signOf4, z_signOf5, true_and, Kd_sA, Gr_sA, Co_sA, Ow_sA, Ln_sA, Gi_sA, Kd_sI, Gi_sI, Option.some.injEq, exists_eq_left', forall_eq, and_self, if_true, nj_s, hcl, hcap, Int32.add_sub_cancel]
  repeat' with_reducible first | apply And.intro | intro _
  all_goals first | exact hno (by grind) | exact hib (by grind) | exact hyes (by grind) _ _ (by first | rfl | (rw [← nj_s]; exact Int32.add_sub_cancel)) rfl

abbrev ok_move (s : ST) (p0 : Int32) (p1 : Int32) (p2 : Int32) : Prop := (s_mov s).length ≠ 60 ∧ (0 ≤ p0 ∧ p0 ≤ nI (s_vot s).length - 1) ∧ (0 ≤ p1 ∧ p1 ≤ 3) ∧ (0 ≤ p2 ∧ p2 ≤ s_now s)
def p_move (s : ST) (p0 : Int32) (p1 : Int32) (p2 : Int32) : Int32 := if ok_move s p0 p1 p2 then 1 else 0
def q_move (s : ST) (p0 : Int32) (p1 : Int32) (p2 : Int32) : ST := if ok_move s p0 p1 p2 then u_mov s ((s_mov s) ++ [(p0, p1, p2, s_now s)]) else s
def Sp_M_move (Γ : GAM) (m : Nat) (p0 : Int32) (p1 : Int32) (p2 : Int32) (g : GH) (K : Int32 → GH → Prop) : Prop := ∃ ma s, RefI m ma g s ∧ ∀ g', FrL m g g' → RefI m ma g' (q_move s p0 p1 p2) → K (p_move s p0 p1 p2) g'
-- the walk of M_move
set_option maxRecDepth 100000 in
def B_M_move_36 (Γ : GAM) (K : Int32 → GH → Prop)  (g : GH) : Prop :=
  K (0 : Int32) g
set_option maxHeartbeats 4000000 in
set_option maxRecDepth 100000 in
theorem S_M_move_36 {Γ : GAM} {E : EV} {K : Int32 → GH → Prop} (hE : GE Γ E cX11_move 4 RX11 (some (.boolean)) 2 43 (fun r g' => ∃ x, r = some (.int x) ∧ K x g'))  (g : GH) (h : B_M_move_36 Γ K  g) : JW Γ E 36 [none, none, none, none] [] g := by
  unfold B_M_move_36 at h
  refine j_iconst hE (by decide +kernel : decode cX11_move 36 = .ok (.iconst 0, 1)) (v := (0 : Int32)) (by decide) ?_
  exact j_zret hE (Or.inl rfl) (by decide +kernel : decode cX11_move 37 = .ok (.ireturn, 1)) ⟨_, rfl, h⟩
set_option maxRecDepth 100000 in
def B_M_move_0 (Γ : GAM) (K : Int32 → GH → Prop) (th : Nat) (p0 : Int32) (p1 : Int32) (p2 : Int32) (g : GH) : Prop :=
  Kd g th = 13 ∧ Sp_M_isVoter Γ th p0 g (fun (x2 : Int32) (g1 : GH) => ((x2 = 0 → B_M_move_36 Γ K g1) ∧ (¬ (x2 = 0) → Sp_M_isShire Γ p1 g1 (fun (x4 : Int32) (g3 : GH) => ((x4 = 0 → B_M_move_36 Γ K g3) ∧ (¬ (x4 = 0) → Kd g3 th = 13 ∧ Sp_M_in Γ p2 (0 : Int32) (Gi g3 1536 th) g3 (fun (x6 : Int32) (g5 : GH) => ((x6 = 0 → B_M_move_36 Γ K g5) ∧ (¬ (x6 = 0) → Kd g5 th = 13 ∧ ((¬ ((Gi g5 1538 th) = (60 : Int32)) → Kd g5 th = 13 ∧ ∃ a7 : Nat, Gr g5 1552 th = some a7 ∧ Kd g5 th = 13 ∧ Kd g5 a7 = 20 ∧ inB (Gi g5 1538 th) (Ln g5 a7) ∧ ∀ g8 : GH, g8 = sA g5 (Co g5 a7) (Ow g5 a7) (Gi g5 1538 th).toNatClampNeg p0 → Kd g8 th = 13 ∧ ∃ a9 : Nat, Gr g8 1553 th = some a9 ∧ Kd g8 th = 13 ∧ Kd g8 a9 = 20 ∧ inB (Gi g8 1538 th) (Ln g8 a9) ∧ ∀ g10 : GH, g10 = sA g8 (Co g8 a9) (Ow g8 a9) (Gi g8 1538 th).toNatClampNeg p1 → Kd g10 th = 13 ∧ ∃ a11 : Nat, Gr g10 1554 th = some a11 ∧ Kd g10 th = 13 ∧ Kd g10 a11 = 20 ∧ inB (Gi g10 1538 th) (Ln g10 a11) ∧ ∀ g12 : GH, g12 = sA g10 (Co g10 a11) (Ow g10 a11) (Gi g10 1538 th).toNatClampNeg p2 → Kd g12 th = 13 ∧ ∃ a13 : Nat, Gr g12 1555 th = some a13 ∧ Kd g12 th = 13 ∧ Kd g12 th = 13 ∧ Kd g12 a13 = 20 ∧ inB (Gi g12 1538 th) (Ln g12 a13) ∧ ∀ g14 : GH, g14 = sA g12 (Co g12 a13) (Ow g12 a13) (Gi g12 1538 th).toNatClampNeg (Gi g12 1536 th) → Kd g14 th = 13 ∧ Kd g14 th = 13 ∧ ∀ g15 : GH, g15 = sI g14 1538 th ((Gi g14 1538 th) + (1 : Int32)) → K (1 : Int32) g15) ∧ ((Gi g5 1538 th) = (60 : Int32) → B_M_move_36 Γ K g5)))))))))))
set_option maxHeartbeats 4000000 in
set_option maxRecDepth 100000 in
theorem S_M_move_0 {Γ : GAM} {E : EV} {K : Int32 → GH → Prop} (hE : GE Γ E cX11_move 4 RX11 (some (.boolean)) 2 43 (fun r g' => ∃ x, r = some (.int x) ∧ K x g')) (th : Nat) (p0 : Int32) (p1 : Int32) (p2 : Int32) (g : GH) (h : B_M_move_0 Γ K th p0 p1 p2 g) : JW Γ E 0 [some (.ref th), some (.int p0), some (.int p1), some (.int p2)] [] g := by
  unfold B_M_move_0 at h
  refine j_aload_n hE (by decide +kernel : decode cX11_move 0 = .ok (.aload_n 0, 1)) rfl rfl ?_
  refine j_iload_n hE (by decide +kernel : decode cX11_move 1 = .ok (.iload_n 1, 1)) rfl rfl ?_
  obtain ⟨hk, h⟩ := h
  refine j_callV hE rfl cl_X11_228 cf_12 im_X11_isVoter se_X11_isVoter ⟨by omega, by omega⟩ (As := [.int p0]) (rest := []) rfl rfl (Nat.le_of_ble_eq_true rfl) hk (by decide +kernel : decode cX11_move 2 = .ok (.invokevirtual 228, 3)) (mt_M_isVoter _ _ _ _ h) ?_
  rintro _ g1 ⟨x2, rfl, h⟩
  refine j_if_eq hE (by decide +kernel : decode cX11_move 5 = .ok (.ifCond .eq 31, 3)) (tgt := 36) (by decide) (fun q => ?_) (fun q => ?_)
  · replace h := h.1 q
    refine j_weak [none, none, none, none] trivial ?_
    exact S_M_move_36 hE _ h
  · replace h := h.2 q
    refine j_iload_n hE (by decide +kernel : decode cX11_move 8 = .ok (.iload_n 2, 1)) rfl rfl ?_
    refine j_callS hE rfl cl_X11_223 st_X11_isShire ⟨by omega, by omega⟩ (As := [.int p1]) (rest := []) rfl rfl (Nat.le_of_ble_eq_true rfl) (by decide +kernel : decode cX11_move 9 = .ok (.invokestatic 223, 3)) (mt_M_isShire _ _ _ h) ?_
    rintro _ g3 ⟨x4, rfl, h⟩
    refine j_if_eq hE (by decide +kernel : decode cX11_move 12 = .ok (.ifCond .eq 24, 3)) (tgt := 36) (by decide) (fun q => ?_) (fun q => ?_)
    · replace h := h.1 q
      refine j_weak [none, none, none, none] trivial ?_
      exact S_M_move_36 hE _ h
    · replace h := h.2 q
      refine j_iload_n hE (by decide +kernel : decode cX11_move 15 = .ok (.iload_n 3, 1)) rfl rfl ?_
      refine j_iconst hE (by decide +kernel : decode cX11_move 16 = .ok (.iconst 0, 1)) (v := (0 : Int32)) (by decide) ?_
      refine j_aload_n hE (by decide +kernel : decode cX11_move 17 = .ok (.aload_n 0, 1)) rfl rfl ?_
      obtain ⟨hk, h⟩ := h
      refine j_getI hE fg_X11_217 hk (by decide +kernel : decode cX11_move 18 = .ok (.getfield 217, 3)) ?_
      refine j_callS hE rfl cl_X11_213 st_X11_in ⟨by omega, by omega⟩ (As := [.int p2, .int (0 : Int32), .int (Gi g3 1536 th)]) (rest := []) rfl rfl (Nat.le_of_ble_eq_true rfl) (by decide +kernel : decode cX11_move 21 = .ok (.invokestatic 213, 3)) (mt_M_in _ _ _ _ _ h) ?_
      rintro _ g5 ⟨x6, rfl, h⟩
      refine j_if_eq hE (by decide +kernel : decode cX11_move 24 = .ok (.ifCond .eq 12, 3)) (tgt := 36) (by decide) (fun q => ?_) (fun q => ?_)
      · replace h := h.1 q
        refine j_weak [none, none, none, none] trivial ?_
        exact S_M_move_36 hE _ h
      · replace h := h.2 q
        refine j_aload_n hE (by decide +kernel : decode cX11_move 27 = .ok (.aload_n 0, 1)) rfl rfl ?_
        obtain ⟨hk, h⟩ := h
        refine j_getI hE fg_X11_231 hk (by decide +kernel : decode cX11_move 28 = .ok (.getfield 231, 3)) ?_
        refine j_bipush hE (by decide +kernel : decode cX11_move 31 = .ok (.bipush 60, 2)) (v := (60 : Int32)) (by decide) ?_
        refine j_icmp_ne hE (by decide +kernel : decode cX11_move 33 = .ok (.if_icmp .ne 5, 3)) (tgt := 38) (by decide) (fun q => ?_) (fun q => ?_)
        · replace h := h.1 q
          refine j_aload_n hE (by decide +kernel : decode cX11_move 38 = .ok (.aload_n 0, 1)) rfl rfl ?_
          obtain ⟨hk, h⟩ := h
          obtain ⟨a7, ha, h⟩ := h
          refine j_getRn hE fg_X11_23 hk ha (by decide +kernel : decode cX11_move 39 = .ok (.getfield 23, 3)) ?_
          refine j_aload_n hE (by decide +kernel : decode cX11_move 42 = .ok (.aload_n 0, 1)) rfl rfl ?_
          obtain ⟨hk, h⟩ := h
          refine j_getI hE fg_X11_231 hk (by decide +kernel : decode cX11_move 43 = .ok (.getfield 231, 3)) ?_
          refine j_iload_n hE (by decide +kernel : decode cX11_move 46 = .ok (.iload_n 1, 1)) rfl rfl ?_
          obtain ⟨hk, hb, h⟩ := h
          obtain ⟨g8, hg⟩ : ∃ z, z = sA g5 (Co g5 a7) (Ow g5 a7) (Gi g5 1538 th).toNatClampNeg p0 := ⟨_, rfl⟩; replace h := h g8 hg
          refine j_iast hE hk hb (by decide +kernel : decode cX11_move 47 = .ok (.iastore, 1)) ?_
          rw [← hg]
          refine j_aload_n hE (by decide +kernel : decode cX11_move 48 = .ok (.aload_n 0, 1)) rfl rfl ?_
          obtain ⟨hk, h⟩ := h
          obtain ⟨a9, ha, h⟩ := h
          refine j_getRn hE fg_X11_26 hk ha (by decide +kernel : decode cX11_move 49 = .ok (.getfield 26, 3)) ?_
          refine j_aload_n hE (by decide +kernel : decode cX11_move 52 = .ok (.aload_n 0, 1)) rfl rfl ?_
          obtain ⟨hk, h⟩ := h
          refine j_getI hE fg_X11_231 hk (by decide +kernel : decode cX11_move 53 = .ok (.getfield 231, 3)) ?_
          refine j_iload_n hE (by decide +kernel : decode cX11_move 56 = .ok (.iload_n 2, 1)) rfl rfl ?_
          obtain ⟨hk, hb, h⟩ := h
          obtain ⟨g10, hg⟩ : ∃ z, z = sA g8 (Co g8 a9) (Ow g8 a9) (Gi g8 1538 th).toNatClampNeg p1 := ⟨_, rfl⟩; replace h := h g10 hg
          refine j_iast hE hk hb (by decide +kernel : decode cX11_move 57 = .ok (.iastore, 1)) ?_
          rw [← hg]
          refine j_aload_n hE (by decide +kernel : decode cX11_move 58 = .ok (.aload_n 0, 1)) rfl rfl ?_
          obtain ⟨hk, h⟩ := h
          obtain ⟨a11, ha, h⟩ := h
          refine j_getRn hE fg_X11_29 hk ha (by decide +kernel : decode cX11_move 59 = .ok (.getfield 29, 3)) ?_
          refine j_aload_n hE (by decide +kernel : decode cX11_move 62 = .ok (.aload_n 0, 1)) rfl rfl ?_
          obtain ⟨hk, h⟩ := h
          refine j_getI hE fg_X11_231 hk (by decide +kernel : decode cX11_move 63 = .ok (.getfield 231, 3)) ?_
          refine j_iload_n hE (by decide +kernel : decode cX11_move 66 = .ok (.iload_n 3, 1)) rfl rfl ?_
          obtain ⟨hk, hb, h⟩ := h
          obtain ⟨g12, hg⟩ : ∃ z, z = sA g10 (Co g10 a11) (Ow g10 a11) (Gi g10 1538 th).toNatClampNeg p2 := ⟨_, rfl⟩; replace h := h g12 hg
          refine j_iast hE hk hb (by decide +kernel : decode cX11_move 67 = .ok (.iastore, 1)) ?_
          rw [← hg]
          refine j_aload_n hE (by decide +kernel : decode cX11_move 68 = .ok (.aload_n 0, 1)) rfl rfl ?_
          obtain ⟨hk, h⟩ := h
          obtain ⟨a13, ha, h⟩ := h
          refine j_getRn hE fg_X11_32 hk ha (by decide +kernel : decode cX11_move 69 = .ok (.getfield 32, 3)) ?_
          refine j_aload_n hE (by decide +kernel : decode cX11_move 72 = .ok (.aload_n 0, 1)) rfl rfl ?_
          obtain ⟨hk, h⟩ := h
          refine j_getI hE fg_X11_231 hk (by decide +kernel : decode cX11_move 73 = .ok (.getfield 231, 3)) ?_
          refine j_aload_n hE (by decide +kernel : decode cX11_move 76 = .ok (.aload_n 0, 1)) rfl rfl ?_
          obtain ⟨hk, h⟩ := h
          refine j_getI hE fg_X11_217 hk (by decide +kernel : decode cX11_move 77 = .ok (.getfield 217, 3)) ?_
          obtain ⟨hk, hb, h⟩ := h
          obtain ⟨g14, hg⟩ : ∃ z, z = sA g12 (Co g12 a13) (Ow g12 a13) (Gi g12 1538 th).toNatClampNeg (Gi g12 1536 th) := ⟨_, rfl⟩; replace h := h g14 hg
          refine j_iast hE hk hb (by decide +kernel : decode cX11_move 80 = .ok (.iastore, 1)) ?_
          rw [← hg]
          refine j_aload_n hE (by decide +kernel : decode cX11_move 81 = .ok (.aload_n 0, 1)) rfl rfl ?_
          refine j_dup hE (by decide +kernel : decode cX11_move 82 = .ok (.dup, 1)) rfl ?_
          obtain ⟨hk, h⟩ := h
          refine j_getI hE fg_X11_231 hk (by decide +kernel : decode cX11_move 83 = .ok (.getfield 231, 3)) ?_
          refine j_iconst hE (by decide +kernel : decode cX11_move 86 = .ok (.iconst 1, 1)) (v := (1 : Int32)) (by decide) ?_
          refine j_iadd hE (by decide +kernel : decode cX11_move 87 = .ok (.iadd, 1)) ?_
          obtain ⟨hk, h⟩ := h
          obtain ⟨g15, hg⟩ : ∃ z, z = sI g14 1538 th ((Gi g14 1538 th) + (1 : Int32)) := ⟨_, rfl⟩; replace h := h g15 hg
          refine j_putI hE fa_X11_231 hk (fun q => by cases q) (by decide +kernel : decode cX11_move 88 = .ok (.putfield 231, 3)) ?_
          rw [← hg]
          refine j_iconst hE (by decide +kernel : decode cX11_move 91 = .ok (.iconst 1, 1)) (v := (1 : Int32)) (by decide) ?_
          exact j_zret hE (Or.inr rfl) (by decide +kernel : decode cX11_move 92 = .ok (.ireturn, 1)) ⟨_, rfl, h⟩
        · replace h := h.2 q
          refine j_weak [none, none, none, none] trivial ?_
          exact S_M_move_36 hE _ h
set_option maxHeartbeats 4000000 in
set_option maxRecDepth 100000 in
theorem rl_M_move {Γ : GAM} {l : Launch} {th : Nat} {p0 : Int32} {p1 : Int32} {p2 : Int32} {g : GH} {K : Int32 → GH → Prop} (h0 : B_M_move_0 Γ K th p0 p1 p2 g) : MetA Γ l yX11_move cX11_move 4 (some (.boolean)) 2 43 [.ref th, .int p0, .int p1, .int p2] g (fun r g' => ∃ x, r = some (.int x) ∧ K x g') := by
  refine MetA.introL (Lx := [some (.ref th), some (.int p0), some (.int p1), some (.int p2)]) (by decide) (Nat.le_of_ble_eq_true rfl) rfl rfl ?_
  intro E hEl hE hnm
  exact S_M_move_0 hE th p0 p1 p2 g h0
theorem mt_M_move {Γ : GAM} {l : Launch} (th : Nat) (p0 : Int32) (p1 : Int32) (p2 : Int32) (g : GH) (K : Int32 → GH → Prop) (h : Sp_M_move Γ th p0 p1 p2 g K) : MetA Γ l yX11_move cX11_move 4 (some (.boolean)) 2 43 [.ref th, .int p0, .int p1, .int p2] g (fun r g' => ∃ x, r = some (.int x) ∧ K x g') := by
  obtain ⟨ma, s, hI, hK⟩ := h
  refine rl_M_move ?_
  obtain ⟨hkd, hS⟩ := hI.1
  obtain ⟨e1, e2, -⟩ := hI.mov
  have hnow := hI.now
  have hv1 := hI.vot.1
  have hv2 := hI.env.1
  obtain ⟨z_moveOf1, z_moveOf2, z_moveOf3, z_moveOf4, z_moveOf5⟩ := hS 1552 20 60 rfl
  obtain ⟨z_moveTo1, z_moveTo2, z_moveTo3, z_moveTo4, z_moveTo5⟩ := hS 1553 20 60 rfl
  obtain ⟨z_moveDay1, z_moveDay2, z_moveDay3, z_moveDay4, z_moveDay5⟩ := hS 1554 20 60 rfl
  obtain ⟨z_moveTold1, z_moveTold2, z_moveTold3, z_moveTold4, z_moveTold5⟩ := hS 1555 20 60 rfl
  have hno : ¬ ok_move s p0 p1 p2 → K (0) g := fun hn => by
    unfold p_move q_move at hK
    rw [if_neg hn, if_neg hn] at hK
    exact hK g FrL.rf hI
  have hyes : ok_move s p0 p1 p2 → ∀ r g', r = 1 → g' = (sI (sA (sA (sA (sA g 1552 th (s_mov s).length (p0)) 1553 th (s_mov s).length (p1)) 1554 th (s_mov s).length (p2)) 1555 th (s_mov s).length (s_now s)) 1538 th (nI ((s_mov s).length + 1))) → K r g' := fun hn r g' hr hg => by
    subst hr hg
    unfold p_move q_move at hK
    rw [if_pos hn, if_pos hn] at hK
    have hl : (s_mov s).length < 60 := by have := hn.1; omega
    exact hK _ (((((FrL.rf.tr FrL.sA).tr FrL.sA).tr FrL.sA).tr FrL.sA).tr FrL.sI) ⟨hI.1, hI.now, hI.siz, hI.prs, hI.stp, hI.vot, (R_mov_push hI.mov hl (by simp [Gi_sI]) (fun k => by simp [Ia_sA, Ia_sI]) (fun k => by simp [Ia_sA, Ia_sI]) (fun k => by simp [Ia_sA, Ia_sI]) (fun k => by simp [Ia_sA, Ia_sI])), hI.env, hI.evt, hI.emp, hI.rea, hI.tel, hI.boo, hI.wav, hI.hea, hI.tap, hI.law, hI.hof, hI.box, hI.roa, hI.las⟩
  have hcl : (nI (s_mov s).length).toNatClampNeg = (s_mov s).length := nj_cl (by omega)
  have hcap : (nI (s_mov s).length = (60 : Int32)) = ((s_mov s).length = 60) := propext (nj_eq (b := 60) (by omega) (by omega))
  have hib : (s_mov s).length ≠ 60 → inB (nI (s_mov s).length) 60 := fun h => inB_nI (by omega) (by omega)
  simp only [B_M_move_36, B_M_move_0, Sp_M_in, Sp_M_isShire, Sp_M_isVoter, Sp_M_isEnvelope, Sp_M_isKnowing, ifz, hkd, hnow, hv1, hv2, e1, z_moveOf1, z_moveOf2, z_moveOf3, z_moveOf4, z_moveOf5, z_moveTo1, z_moveTo2, z_moveTo3, z_moveTo4, z_moveTo5, z_moveDay1, z_moveDay2, z_moveDay3, z_moveDay4, z_moveDay5, z_moveTold1, z_moveTold2, z_moveTold3, z_moveTold4, z_moveTold5, true_and, Kd_sA, Gr_sA, Co_sA, Ow_sA, Ln_sA, Gi_sA, Kd_sI, Gi_sI, Option.some.injEq, exists_eq_left', forall_eq, and_self, if_true, nj_s, hcl, hcap, Int32.add_sub_cancel]
  repeat' with_reducible first | apply And.intro | intro _
  all_goals first | exact hno (by grind) | exact hib (by grind) | exact hyes (by grind) _ _ (by first | rfl | (rw [← nj_s]; exact Int32.add_sub_cancel)) rfl

abbrev ok_send (s : ST) (p0 : Int32) (p1 : Int32) (p2 : Int32) : Prop := (s_env s).length ≠ 200 ∧ (0 ≤ p0 ∧ p0 ≤ nI (s_vot s).length - 1) ∧ (0 ≤ p1 ∧ p1 ≤ s_now s) ∧ (0 ≤ p2 ∧ p2 ≤ 4)
def p_send (s : ST) (p0 : Int32) (p1 : Int32) (p2 : Int32) : Int32 := if ok_send s p0 p1 p2 then nI (s_env s).length else -1
def q_send (s : ST) (p0 : Int32) (p1 : Int32) (p2 : Int32) : ST := if ok_send s p0 p1 p2 then u_env s ((s_env s) ++ [(p0, p1, s_now s, p2)]) else s
def Sp_M_send (Γ : GAM) (m : Nat) (p0 : Int32) (p1 : Int32) (p2 : Int32) (g : GH) (K : Int32 → GH → Prop) : Prop := ∃ ma s, RefI m ma g s ∧ ∀ g', FrL m g g' → RefI m ma g' (q_send s p0 p1 p2) → K (p_send s p0 p1 p2) g'
-- the walk of M_send
set_option maxRecDepth 100000 in
def B_M_send_39 (Γ : GAM) (K : Int32 → GH → Prop)  (g : GH) : Prop :=
  K (-1 : Int32) g
set_option maxHeartbeats 4000000 in
set_option maxRecDepth 100000 in
theorem S_M_send_39 {Γ : GAM} {E : EV} {K : Int32 → GH → Prop} (hE : GE Γ E cX11_send 4 RX11 (some (.int)) 2 43 (fun r g' => ∃ x, r = some (.int x) ∧ K x g'))  (g : GH) (h : B_M_send_39 Γ K  g) : JW Γ E 39 [none, none, none, none] [] g := by
  unfold B_M_send_39 at h
  refine j_iconst hE (by decide +kernel : decode cX11_send 39 = .ok (.iconst (-1), 1)) (v := (-1 : Int32)) (by decide) ?_
  exact j_iret hE (by decide +kernel : decode cX11_send 40 = .ok (.ireturn, 1)) ⟨_, rfl, h⟩
set_option maxRecDepth 100000 in
def B_M_send_0 (Γ : GAM) (K : Int32 → GH → Prop) (th : Nat) (p0 : Int32) (p1 : Int32) (p2 : Int32) (g : GH) : Prop :=
  Kd g th = 13 ∧ Sp_M_isVoter Γ th p0 g (fun (x2 : Int32) (g1 : GH) => ((x2 = 0 → B_M_send_39 Γ K g1) ∧ (¬ (x2 = 0) → Kd g1 th = 13 ∧ Sp_M_in Γ p1 (0 : Int32) (Gi g1 1536 th) g1 (fun (x4 : Int32) (g3 : GH) => ((x4 = 0 → B_M_send_39 Γ K g3) ∧ (¬ (x4 = 0) → Sp_M_in Γ p2 (0 : Int32) (4 : Int32) g3 (fun (x6 : Int32) (g5 : GH) => ((x6 = 0 → B_M_send_39 Γ K g5) ∧ (¬ (x6 = 0) → Kd g5 th = 13 ∧ ((¬ ((Gi g5 1539 th) = (200 : Int32)) → Kd g5 th = 13 ∧ ∃ a7 : Nat, Gr g5 1556 th = some a7 ∧ Kd g5 th = 13 ∧ Kd g5 a7 = 20 ∧ inB (Gi g5 1539 th) (Ln g5 a7) ∧ ∀ g8 : GH, g8 = sA g5 (Co g5 a7) (Ow g5 a7) (Gi g5 1539 th).toNatClampNeg p0 → Kd g8 th = 13 ∧ ∃ a9 : Nat, Gr g8 1557 th = some a9 ∧ Kd g8 th = 13 ∧ Kd g8 a9 = 20 ∧ inB (Gi g8 1539 th) (Ln g8 a9) ∧ ∀ g10 : GH, g10 = sA g8 (Co g8 a9) (Ow g8 a9) (Gi g8 1539 th).toNatClampNeg p1 → Kd g10 th = 13 ∧ ∃ a11 : Nat, Gr g10 1558 th = some a11 ∧ Kd g10 th = 13 ∧ Kd g10 th = 13 ∧ Kd g10 a11 = 20 ∧ inB (Gi g10 1539 th) (Ln g10 a11) ∧ ∀ g12 : GH, g12 = sA g10 (Co g10 a11) (Ow g10 a11) (Gi g10 1539 th).toNatClampNeg (Gi g10 1536 th) → Kd g12 th = 13 ∧ ∃ a13 : Nat, Gr g12 1559 th = some a13 ∧ Kd g12 th = 13 ∧ Kd g12 a13 = 20 ∧ inB (Gi g12 1539 th) (Ln g12 a13) ∧ ∀ g14 : GH, g14 = sA g12 (Co g12 a13) (Ow g12 a13) (Gi g12 1539 th).toNatClampNeg p2 → Kd g14 th = 13 ∧ Kd g14 th = 13 ∧ ∀ g15 : GH, g15 = sI g14 1539 th ((Gi g14 1539 th) + (1 : Int32)) → Kd g15 th = 13 ∧ K ((Gi g15 1539 th) - (1 : Int32)) g15) ∧ ((Gi g5 1539 th) = (200 : Int32) → B_M_send_39 Γ K g5)))))))))))
set_option maxHeartbeats 4000000 in
set_option maxRecDepth 100000 in
theorem S_M_send_0 {Γ : GAM} {E : EV} {K : Int32 → GH → Prop} (hE : GE Γ E cX11_send 4 RX11 (some (.int)) 2 43 (fun r g' => ∃ x, r = some (.int x) ∧ K x g')) (th : Nat) (p0 : Int32) (p1 : Int32) (p2 : Int32) (g : GH) (h : B_M_send_0 Γ K th p0 p1 p2 g) : JW Γ E 0 [some (.ref th), some (.int p0), some (.int p1), some (.int p2)] [] g := by
  unfold B_M_send_0 at h
  refine j_aload_n hE (by decide +kernel : decode cX11_send 0 = .ok (.aload_n 0, 1)) rfl rfl ?_
  refine j_iload_n hE (by decide +kernel : decode cX11_send 1 = .ok (.iload_n 1, 1)) rfl rfl ?_
  obtain ⟨hk, h⟩ := h
  refine j_callV hE rfl cl_X11_228 cf_12 im_X11_isVoter se_X11_isVoter ⟨by omega, by omega⟩ (As := [.int p0]) (rest := []) rfl rfl (Nat.le_of_ble_eq_true rfl) hk (by decide +kernel : decode cX11_send 2 = .ok (.invokevirtual 228, 3)) (mt_M_isVoter _ _ _ _ h) ?_
  rintro _ g1 ⟨x2, rfl, h⟩
  refine j_if_eq hE (by decide +kernel : decode cX11_send 5 = .ok (.ifCond .eq 34, 3)) (tgt := 39) (by decide) (fun q => ?_) (fun q => ?_)
  · replace h := h.1 q
    refine j_weak [none, none, none, none] trivial ?_
    exact S_M_send_39 hE _ h
  · replace h := h.2 q
    refine j_iload_n hE (by decide +kernel : decode cX11_send 8 = .ok (.iload_n 2, 1)) rfl rfl ?_
    refine j_iconst hE (by decide +kernel : decode cX11_send 9 = .ok (.iconst 0, 1)) (v := (0 : Int32)) (by decide) ?_
    refine j_aload_n hE (by decide +kernel : decode cX11_send 10 = .ok (.aload_n 0, 1)) rfl rfl ?_
    obtain ⟨hk, h⟩ := h
    refine j_getI hE fg_X11_217 hk (by decide +kernel : decode cX11_send 11 = .ok (.getfield 217, 3)) ?_
    refine j_callS hE rfl cl_X11_213 st_X11_in ⟨by omega, by omega⟩ (As := [.int p1, .int (0 : Int32), .int (Gi g1 1536 th)]) (rest := []) rfl rfl (Nat.le_of_ble_eq_true rfl) (by decide +kernel : decode cX11_send 14 = .ok (.invokestatic 213, 3)) (mt_M_in _ _ _ _ _ h) ?_
    rintro _ g3 ⟨x4, rfl, h⟩
    refine j_if_eq hE (by decide +kernel : decode cX11_send 17 = .ok (.ifCond .eq 22, 3)) (tgt := 39) (by decide) (fun q => ?_) (fun q => ?_)
    · replace h := h.1 q
      refine j_weak [none, none, none, none] trivial ?_
      exact S_M_send_39 hE _ h
    · replace h := h.2 q
      refine j_iload_n hE (by decide +kernel : decode cX11_send 20 = .ok (.iload_n 3, 1)) rfl rfl ?_
      refine j_iconst hE (by decide +kernel : decode cX11_send 21 = .ok (.iconst 0, 1)) (v := (0 : Int32)) (by decide) ?_
      refine j_iconst hE (by decide +kernel : decode cX11_send 22 = .ok (.iconst 4, 1)) (v := (4 : Int32)) (by decide) ?_
      refine j_callS hE rfl cl_X11_213 st_X11_in ⟨by omega, by omega⟩ (As := [.int p2, .int (0 : Int32), .int (4 : Int32)]) (rest := []) rfl rfl (Nat.le_of_ble_eq_true rfl) (by decide +kernel : decode cX11_send 23 = .ok (.invokestatic 213, 3)) (mt_M_in _ _ _ _ _ h) ?_
      rintro _ g5 ⟨x6, rfl, h⟩
      refine j_if_eq hE (by decide +kernel : decode cX11_send 26 = .ok (.ifCond .eq 13, 3)) (tgt := 39) (by decide) (fun q => ?_) (fun q => ?_)
      · replace h := h.1 q
        refine j_weak [none, none, none, none] trivial ?_
        exact S_M_send_39 hE _ h
      · replace h := h.2 q
        refine j_aload_n hE (by decide +kernel : decode cX11_send 29 = .ok (.aload_n 0, 1)) rfl rfl ?_
        obtain ⟨hk, h⟩ := h
        refine j_getI hE fg_X11_241 hk (by decide +kernel : decode cX11_send 30 = .ok (.getfield 241, 3)) ?_
        refine j_sipush hE (by decide +kernel : decode cX11_send 33 = .ok (.sipush 200, 3)) (v := (200 : Int32)) (by decide) ?_
        refine j_icmp_ne hE (by decide +kernel : decode cX11_send 36 = .ok (.if_icmp .ne 5, 3)) (tgt := 41) (by decide) (fun q => ?_) (fun q => ?_)
        · replace h := h.1 q
          refine j_aload_n hE (by decide +kernel : decode cX11_send 41 = .ok (.aload_n 0, 1)) rfl rfl ?_
          obtain ⟨hk, h⟩ := h
          obtain ⟨a7, ha, h⟩ := h
          refine j_getRn hE fg_X11_35 hk ha (by decide +kernel : decode cX11_send 42 = .ok (.getfield 35, 3)) ?_
          refine j_aload_n hE (by decide +kernel : decode cX11_send 45 = .ok (.aload_n 0, 1)) rfl rfl ?_
          obtain ⟨hk, h⟩ := h
          refine j_getI hE fg_X11_241 hk (by decide +kernel : decode cX11_send 46 = .ok (.getfield 241, 3)) ?_
          refine j_iload_n hE (by decide +kernel : decode cX11_send 49 = .ok (.iload_n 1, 1)) rfl rfl ?_
          obtain ⟨hk, hb, h⟩ := h
          obtain ⟨g8, hg⟩ : ∃ z, z = sA g5 (Co g5 a7) (Ow g5 a7) (Gi g5 1539 th).toNatClampNeg p0 := ⟨_, rfl⟩; replace h := h g8 hg
          refine j_iast hE hk hb (by decide +kernel : decode cX11_send 50 = .ok (.iastore, 1)) ?_
          rw [← hg]
          refine j_aload_n hE (by decide +kernel : decode cX11_send 51 = .ok (.aload_n 0, 1)) rfl rfl ?_
          obtain ⟨hk, h⟩ := h
          obtain ⟨a9, ha, h⟩ := h
          refine j_getRn hE fg_X11_38 hk ha (by decide +kernel : decode cX11_send 52 = .ok (.getfield 38, 3)) ?_
          refine j_aload_n hE (by decide +kernel : decode cX11_send 55 = .ok (.aload_n 0, 1)) rfl rfl ?_
          obtain ⟨hk, h⟩ := h
          refine j_getI hE fg_X11_241 hk (by decide +kernel : decode cX11_send 56 = .ok (.getfield 241, 3)) ?_
          refine j_iload_n hE (by decide +kernel : decode cX11_send 59 = .ok (.iload_n 2, 1)) rfl rfl ?_
          obtain ⟨hk, hb, h⟩ := h
          obtain ⟨g10, hg⟩ : ∃ z, z = sA g8 (Co g8 a9) (Ow g8 a9) (Gi g8 1539 th).toNatClampNeg p1 := ⟨_, rfl⟩; replace h := h g10 hg
          refine j_iast hE hk hb (by decide +kernel : decode cX11_send 60 = .ok (.iastore, 1)) ?_
          rw [← hg]
          refine j_aload_n hE (by decide +kernel : decode cX11_send 61 = .ok (.aload_n 0, 1)) rfl rfl ?_
          obtain ⟨hk, h⟩ := h
          obtain ⟨a11, ha, h⟩ := h
          refine j_getRn hE fg_X11_41 hk ha (by decide +kernel : decode cX11_send 62 = .ok (.getfield 41, 3)) ?_
          refine j_aload_n hE (by decide +kernel : decode cX11_send 65 = .ok (.aload_n 0, 1)) rfl rfl ?_
          obtain ⟨hk, h⟩ := h
          refine j_getI hE fg_X11_241 hk (by decide +kernel : decode cX11_send 66 = .ok (.getfield 241, 3)) ?_
          refine j_aload_n hE (by decide +kernel : decode cX11_send 69 = .ok (.aload_n 0, 1)) rfl rfl ?_
          obtain ⟨hk, h⟩ := h
          refine j_getI hE fg_X11_217 hk (by decide +kernel : decode cX11_send 70 = .ok (.getfield 217, 3)) ?_
          obtain ⟨hk, hb, h⟩ := h
          obtain ⟨g12, hg⟩ : ∃ z, z = sA g10 (Co g10 a11) (Ow g10 a11) (Gi g10 1539 th).toNatClampNeg (Gi g10 1536 th) := ⟨_, rfl⟩; replace h := h g12 hg
          refine j_iast hE hk hb (by decide +kernel : decode cX11_send 73 = .ok (.iastore, 1)) ?_
          rw [← hg]
          refine j_aload_n hE (by decide +kernel : decode cX11_send 74 = .ok (.aload_n 0, 1)) rfl rfl ?_
          obtain ⟨hk, h⟩ := h
          obtain ⟨a13, ha, h⟩ := h
          refine j_getRn hE fg_X11_44 hk ha (by decide +kernel : decode cX11_send 75 = .ok (.getfield 44, 3)) ?_
          refine j_aload_n hE (by decide +kernel : decode cX11_send 78 = .ok (.aload_n 0, 1)) rfl rfl ?_
          obtain ⟨hk, h⟩ := h
          refine j_getI hE fg_X11_241 hk (by decide +kernel : decode cX11_send 79 = .ok (.getfield 241, 3)) ?_
          refine j_iload_n hE (by decide +kernel : decode cX11_send 82 = .ok (.iload_n 3, 1)) rfl rfl ?_
          obtain ⟨hk, hb, h⟩ := h
          obtain ⟨g14, hg⟩ : ∃ z, z = sA g12 (Co g12 a13) (Ow g12 a13) (Gi g12 1539 th).toNatClampNeg p2 := ⟨_, rfl⟩; replace h := h g14 hg
          refine j_iast hE hk hb (by decide +kernel : decode cX11_send 83 = .ok (.iastore, 1)) ?_
          rw [← hg]
          refine j_aload_n hE (by decide +kernel : decode cX11_send 84 = .ok (.aload_n 0, 1)) rfl rfl ?_
          refine j_dup hE (by decide +kernel : decode cX11_send 85 = .ok (.dup, 1)) rfl ?_
          obtain ⟨hk, h⟩ := h
          refine j_getI hE fg_X11_241 hk (by decide +kernel : decode cX11_send 86 = .ok (.getfield 241, 3)) ?_
          refine j_iconst hE (by decide +kernel : decode cX11_send 89 = .ok (.iconst 1, 1)) (v := (1 : Int32)) (by decide) ?_
          refine j_iadd hE (by decide +kernel : decode cX11_send 90 = .ok (.iadd, 1)) ?_
          obtain ⟨hk, h⟩ := h
          obtain ⟨g15, hg⟩ : ∃ z, z = sI g14 1539 th ((Gi g14 1539 th) + (1 : Int32)) := ⟨_, rfl⟩; replace h := h g15 hg
          refine j_putI hE fa_X11_241 hk (fun q => by cases q) (by decide +kernel : decode cX11_send 91 = .ok (.putfield 241, 3)) ?_
          rw [← hg]
          refine j_aload_n hE (by decide +kernel : decode cX11_send 94 = .ok (.aload_n 0, 1)) rfl rfl ?_
          obtain ⟨hk, h⟩ := h
          refine j_getI hE fg_X11_241 hk (by decide +kernel : decode cX11_send 95 = .ok (.getfield 241, 3)) ?_
          refine j_iconst hE (by decide +kernel : decode cX11_send 98 = .ok (.iconst 1, 1)) (v := (1 : Int32)) (by decide) ?_
          refine j_isub hE (by decide +kernel : decode cX11_send 99 = .ok (.isub, 1)) ?_
          exact j_iret hE (by decide +kernel : decode cX11_send 100 = .ok (.ireturn, 1)) ⟨_, rfl, h⟩
        · replace h := h.2 q
          refine j_weak [none, none, none, none] trivial ?_
          exact S_M_send_39 hE _ h
set_option maxHeartbeats 4000000 in
set_option maxRecDepth 100000 in
theorem rl_M_send {Γ : GAM} {l : Launch} {th : Nat} {p0 : Int32} {p1 : Int32} {p2 : Int32} {g : GH} {K : Int32 → GH → Prop} (h0 : B_M_send_0 Γ K th p0 p1 p2 g) : MetA Γ l yX11_send cX11_send 4 (some (.int)) 2 43 [.ref th, .int p0, .int p1, .int p2] g (fun r g' => ∃ x, r = some (.int x) ∧ K x g') := by
  refine MetA.introL (Lx := [some (.ref th), some (.int p0), some (.int p1), some (.int p2)]) (by decide) (Nat.le_of_ble_eq_true rfl) rfl rfl ?_
  intro E hEl hE hnm
  exact S_M_send_0 hE th p0 p1 p2 g h0
theorem mt_M_send {Γ : GAM} {l : Launch} (th : Nat) (p0 : Int32) (p1 : Int32) (p2 : Int32) (g : GH) (K : Int32 → GH → Prop) (h : Sp_M_send Γ th p0 p1 p2 g K) : MetA Γ l yX11_send cX11_send 4 (some (.int)) 2 43 [.ref th, .int p0, .int p1, .int p2] g (fun r g' => ∃ x, r = some (.int x) ∧ K x g') := by
  obtain ⟨ma, s, hI, hK⟩ := h
  refine rl_M_send ?_
  obtain ⟨hkd, hS⟩ := hI.1
  obtain ⟨e1, e2, -⟩ := hI.env
  have hnow := hI.now
  have hv1 := hI.vot.1
  have hv2 := hI.env.1
  obtain ⟨z_voterOf1, z_voterOf2, z_voterOf3, z_voterOf4, z_voterOf5⟩ := hS 1556 20 200 rfl
  obtain ⟨z_sentOn1, z_sentOn2, z_sentOn3, z_sentOn4, z_sentOn5⟩ := hS 1557 20 200 rfl
  obtain ⟨z_sentTold1, z_sentTold2, z_sentTold3, z_sentTold4, z_sentTold5⟩ := hS 1558 20 200 rfl
  obtain ⟨z_choiceOf1, z_choiceOf2, z_choiceOf3, z_choiceOf4, z_choiceOf5⟩ := hS 1559 20 200 rfl
  have hno : ¬ ok_send s p0 p1 p2 → K (-1) g := fun hn => by
    unfold p_send q_send at hK
    rw [if_neg hn, if_neg hn] at hK
    exact hK g FrL.rf hI
  have hyes : ok_send s p0 p1 p2 → ∀ r g', r = nI (s_env s).length → g' = (sI (sA (sA (sA (sA g 1556 th (s_env s).length (p0)) 1557 th (s_env s).length (p1)) 1558 th (s_env s).length (s_now s)) 1559 th (s_env s).length (p2)) 1539 th (nI ((s_env s).length + 1))) → K r g' := fun hn r g' hr hg => by
    subst hr hg
    unfold p_send q_send at hK
    rw [if_pos hn, if_pos hn] at hK
    have hl : (s_env s).length < 200 := by have := hn.1; omega
    exact hK _ (((((FrL.rf.tr FrL.sA).tr FrL.sA).tr FrL.sA).tr FrL.sA).tr FrL.sI) ⟨hI.1, hI.now, hI.siz, hI.prs, hI.stp, hI.vot, hI.mov, (R_env_push hI.env hl (by simp [Gi_sI]) (fun k => by simp [Ia_sA, Ia_sI]) (fun k => by simp [Ia_sA, Ia_sI]) (fun k => by simp [Ia_sA, Ia_sI]) (fun k => by simp [Ia_sA, Ia_sI])), hI.evt, hI.emp, hI.rea, hI.tel, hI.boo, hI.wav, hI.hea, hI.tap, hI.law, hI.hof, hI.box, hI.roa, hI.las⟩
  have hcl : (nI (s_env s).length).toNatClampNeg = (s_env s).length := nj_cl (by omega)
  have hcap : (nI (s_env s).length = (200 : Int32)) = ((s_env s).length = 200) := propext (nj_eq (b := 200) (by omega) (by omega))
  have hib : (s_env s).length ≠ 200 → inB (nI (s_env s).length) 200 := fun h => inB_nI (by omega) (by omega)
  simp only [B_M_send_39, B_M_send_0, Sp_M_in, Sp_M_isShire, Sp_M_isVoter, Sp_M_isEnvelope, Sp_M_isKnowing, ifz, hkd, hnow, hv1, hv2, e1, z_voterOf1, z_voterOf2, z_voterOf3, z_voterOf4, z_voterOf5, z_sentOn1, z_sentOn2, z_sentOn3, z_sentOn4, z_sentOn5, z_sentTold1, z_sentTold2, z_sentTold3, z_sentTold4, z_sentTold5, z_choiceOf1, z_choiceOf2, z_choiceOf3, z_choiceOf4, z_choiceOf5, true_and, Kd_sA, Gr_sA, Co_sA, Ow_sA, Ln_sA, Gi_sA, Kd_sI, Gi_sI, Option.some.injEq, exists_eq_left', forall_eq, and_self, if_true, nj_s, hcl, hcap, Int32.add_sub_cancel]
  repeat' with_reducible first | apply And.intro | intro _
  all_goals first | exact hno (by grind) | exact hib (by grind) | exact hyes (by grind) _ _ (by first | rfl | (rw [← nj_s]; exact Int32.add_sub_cancel)) rfl

abbrev ok_event (s : ST) (p0 : Int32) (p1 : Int32) (p2 : Int32) (p3 : Int32) : Prop := (s_evt s).length ≠ 600 ∧ (0 ≤ p0 ∧ p0 ≤ nI (s_env s).length - 1) ∧ (1 ≤ p1 ∧ p1 ≤ 8) ∧ (0 ≤ p2 ∧ p2 ≤ s_now s) ∧ ((p1 = 3 ∧ 0 ≤ p3 ∧ p3 ≤ 7) ∨ (¬ p1 = 3 ∧ p3 = 0))
def p_event (s : ST) (p0 : Int32) (p1 : Int32) (p2 : Int32) (p3 : Int32) : Int32 := if ok_event s p0 p1 p2 p3 then 1 else 0
def q_event (s : ST) (p0 : Int32) (p1 : Int32) (p2 : Int32) (p3 : Int32) : ST := if ok_event s p0 p1 p2 p3 then u_evt s ((s_evt s) ++ [(p0, p1, p2, p3, s_now s)]) else s
def Sp_M_event (Γ : GAM) (m : Nat) (p0 : Int32) (p1 : Int32) (p2 : Int32) (p3 : Int32) (g : GH) (K : Int32 → GH → Prop) : Prop := ∃ ma s, RefI m ma g s ∧ ∀ g', FrL m g g' → RefI m ma g' (q_event s p0 p1 p2 p3) → K (p_event s p0 p1 p2 p3) g'
-- the walk of M_event
set_option maxRecDepth 100000 in
def B_M_event_68 (Γ : GAM) (K : Int32 → GH → Prop) (l0 : Nat) (l1 : Int32) (l2 : Int32) (l3 : Int32) (l4 : Int32) (g : GH) : Prop :=
  Kd g l0 = 13 ∧ ∃ a1 : Nat, Gr g 1560 l0 = some a1 ∧ Kd g l0 = 13 ∧ Kd g a1 = 20 ∧ inB (Gi g 1540 l0) (Ln g a1) ∧ ∀ g2 : GH, g2 = sA g (Co g a1) (Ow g a1) (Gi g 1540 l0).toNatClampNeg l1 → Kd g2 l0 = 13 ∧ ∃ a3 : Nat, Gr g2 1561 l0 = some a3 ∧ Kd g2 l0 = 13 ∧ Kd g2 a3 = 20 ∧ inB (Gi g2 1540 l0) (Ln g2 a3) ∧ ∀ g4 : GH, g4 = sA g2 (Co g2 a3) (Ow g2 a3) (Gi g2 1540 l0).toNatClampNeg l2 → Kd g4 l0 = 13 ∧ ∃ a5 : Nat, Gr g4 1562 l0 = some a5 ∧ Kd g4 l0 = 13 ∧ Kd g4 a5 = 20 ∧ inB (Gi g4 1540 l0) (Ln g4 a5) ∧ ∀ g6 : GH, g6 = sA g4 (Co g4 a5) (Ow g4 a5) (Gi g4 1540 l0).toNatClampNeg l3 → Kd g6 l0 = 13 ∧ ∃ a7 : Nat, Gr g6 1563 l0 = some a7 ∧ Kd g6 l0 = 13 ∧ Kd g6 a7 = 20 ∧ inB (Gi g6 1540 l0) (Ln g6 a7) ∧ ∀ g8 : GH, g8 = sA g6 (Co g6 a7) (Ow g6 a7) (Gi g6 1540 l0).toNatClampNeg l4 → Kd g8 l0 = 13 ∧ ∃ a9 : Nat, Gr g8 1564 l0 = some a9 ∧ Kd g8 l0 = 13 ∧ Kd g8 l0 = 13 ∧ Kd g8 a9 = 20 ∧ inB (Gi g8 1540 l0) (Ln g8 a9) ∧ ∀ g10 : GH, g10 = sA g8 (Co g8 a9) (Ow g8 a9) (Gi g8 1540 l0).toNatClampNeg (Gi g8 1536 l0) → Kd g10 l0 = 13 ∧ Kd g10 l0 = 13 ∧ ∀ g11 : GH, g11 = sI g10 1540 l0 ((Gi g10 1540 l0) + (1 : Int32)) → K (1 : Int32) g11
set_option maxHeartbeats 4000000 in
set_option maxRecDepth 100000 in
theorem S_M_event_68 {Γ : GAM} {E : EV} {K : Int32 → GH → Prop} (hE : GE Γ E cX11_event 5 RX11 (some (.boolean)) 2 43 (fun r g' => ∃ x, r = some (.int x) ∧ K x g')) (l0 : Nat) (l1 : Int32) (l2 : Int32) (l3 : Int32) (l4 : Int32) (g : GH) (h : B_M_event_68 Γ K l0 l1 l2 l3 l4 g) : JW Γ E 68 [some (.ref l0), some (.int l1), some (.int l2), some (.int l3), some (.int l4)] [] g := by
  unfold B_M_event_68 at h
  refine j_aload_n hE (by decide +kernel : decode cX11_event 68 = .ok (.aload_n 0, 1)) rfl rfl ?_
  obtain ⟨hk, h⟩ := h
  obtain ⟨a1, ha, h⟩ := h
  refine j_getRn hE fg_X11_47 hk ha (by decide +kernel : decode cX11_event 69 = .ok (.getfield 47, 3)) ?_
  refine j_aload_n hE (by decide +kernel : decode cX11_event 72 = .ok (.aload_n 0, 1)) rfl rfl ?_
  obtain ⟨hk, h⟩ := h
  refine j_getI hE fg_X11_247 hk (by decide +kernel : decode cX11_event 73 = .ok (.getfield 247, 3)) ?_
  refine j_iload_n hE (by decide +kernel : decode cX11_event 76 = .ok (.iload_n 1, 1)) rfl rfl ?_
  obtain ⟨hk, hb, h⟩ := h
  obtain ⟨g2, hg⟩ : ∃ z, z = sA g (Co g a1) (Ow g a1) (Gi g 1540 l0).toNatClampNeg l1 := ⟨_, rfl⟩; replace h := h g2 hg
  refine j_iast hE hk hb (by decide +kernel : decode cX11_event 77 = .ok (.iastore, 1)) ?_
  rw [← hg]
  refine j_aload_n hE (by decide +kernel : decode cX11_event 78 = .ok (.aload_n 0, 1)) rfl rfl ?_
  obtain ⟨hk, h⟩ := h
  obtain ⟨a3, ha, h⟩ := h
  refine j_getRn hE fg_X11_50 hk ha (by decide +kernel : decode cX11_event 79 = .ok (.getfield 50, 3)) ?_
  refine j_aload_n hE (by decide +kernel : decode cX11_event 82 = .ok (.aload_n 0, 1)) rfl rfl ?_
  obtain ⟨hk, h⟩ := h
  refine j_getI hE fg_X11_247 hk (by decide +kernel : decode cX11_event 83 = .ok (.getfield 247, 3)) ?_
  refine j_iload_n hE (by decide +kernel : decode cX11_event 86 = .ok (.iload_n 2, 1)) rfl rfl ?_
  obtain ⟨hk, hb, h⟩ := h
  obtain ⟨g4, hg⟩ : ∃ z, z = sA g2 (Co g2 a3) (Ow g2 a3) (Gi g2 1540 l0).toNatClampNeg l2 := ⟨_, rfl⟩; replace h := h g4 hg
  refine j_iast hE hk hb (by decide +kernel : decode cX11_event 87 = .ok (.iastore, 1)) ?_
  rw [← hg]
  refine j_aload_n hE (by decide +kernel : decode cX11_event 88 = .ok (.aload_n 0, 1)) rfl rfl ?_
  obtain ⟨hk, h⟩ := h
  obtain ⟨a5, ha, h⟩ := h
  refine j_getRn hE fg_X11_53 hk ha (by decide +kernel : decode cX11_event 89 = .ok (.getfield 53, 3)) ?_
  refine j_aload_n hE (by decide +kernel : decode cX11_event 92 = .ok (.aload_n 0, 1)) rfl rfl ?_
  obtain ⟨hk, h⟩ := h
  refine j_getI hE fg_X11_247 hk (by decide +kernel : decode cX11_event 93 = .ok (.getfield 247, 3)) ?_
  refine j_iload_n hE (by decide +kernel : decode cX11_event 96 = .ok (.iload_n 3, 1)) rfl rfl ?_
  obtain ⟨hk, hb, h⟩ := h
  obtain ⟨g6, hg⟩ : ∃ z, z = sA g4 (Co g4 a5) (Ow g4 a5) (Gi g4 1540 l0).toNatClampNeg l3 := ⟨_, rfl⟩; replace h := h g6 hg
  refine j_iast hE hk hb (by decide +kernel : decode cX11_event 97 = .ok (.iastore, 1)) ?_
  rw [← hg]
  refine j_aload_n hE (by decide +kernel : decode cX11_event 98 = .ok (.aload_n 0, 1)) rfl rfl ?_
  obtain ⟨hk, h⟩ := h
  obtain ⟨a7, ha, h⟩ := h
  refine j_getRn hE fg_X11_56 hk ha (by decide +kernel : decode cX11_event 99 = .ok (.getfield 56, 3)) ?_
  refine j_aload_n hE (by decide +kernel : decode cX11_event 102 = .ok (.aload_n 0, 1)) rfl rfl ?_
  obtain ⟨hk, h⟩ := h
  refine j_getI hE fg_X11_247 hk (by decide +kernel : decode cX11_event 103 = .ok (.getfield 247, 3)) ?_
  refine j_iload hE (by decide +kernel : decode cX11_event 106 = .ok (.iload 4, 2)) rfl ?_
  obtain ⟨hk, hb, h⟩ := h
  obtain ⟨g8, hg⟩ : ∃ z, z = sA g6 (Co g6 a7) (Ow g6 a7) (Gi g6 1540 l0).toNatClampNeg l4 := ⟨_, rfl⟩; replace h := h g8 hg
  refine j_iast hE hk hb (by decide +kernel : decode cX11_event 108 = .ok (.iastore, 1)) ?_
  rw [← hg]
  refine j_aload_n hE (by decide +kernel : decode cX11_event 109 = .ok (.aload_n 0, 1)) rfl rfl ?_
  obtain ⟨hk, h⟩ := h
  obtain ⟨a9, ha, h⟩ := h
  refine j_getRn hE fg_X11_59 hk ha (by decide +kernel : decode cX11_event 110 = .ok (.getfield 59, 3)) ?_
  refine j_aload_n hE (by decide +kernel : decode cX11_event 113 = .ok (.aload_n 0, 1)) rfl rfl ?_
  obtain ⟨hk, h⟩ := h
  refine j_getI hE fg_X11_247 hk (by decide +kernel : decode cX11_event 114 = .ok (.getfield 247, 3)) ?_
  refine j_aload_n hE (by decide +kernel : decode cX11_event 117 = .ok (.aload_n 0, 1)) rfl rfl ?_
  obtain ⟨hk, h⟩ := h
  refine j_getI hE fg_X11_217 hk (by decide +kernel : decode cX11_event 118 = .ok (.getfield 217, 3)) ?_
  obtain ⟨hk, hb, h⟩ := h
  obtain ⟨g10, hg⟩ : ∃ z, z = sA g8 (Co g8 a9) (Ow g8 a9) (Gi g8 1540 l0).toNatClampNeg (Gi g8 1536 l0) := ⟨_, rfl⟩; replace h := h g10 hg
  refine j_iast hE hk hb (by decide +kernel : decode cX11_event 121 = .ok (.iastore, 1)) ?_
  rw [← hg]
  refine j_aload_n hE (by decide +kernel : decode cX11_event 122 = .ok (.aload_n 0, 1)) rfl rfl ?_
  refine j_dup hE (by decide +kernel : decode cX11_event 123 = .ok (.dup, 1)) rfl ?_
  obtain ⟨hk, h⟩ := h
  refine j_getI hE fg_X11_247 hk (by decide +kernel : decode cX11_event 124 = .ok (.getfield 247, 3)) ?_
  refine j_iconst hE (by decide +kernel : decode cX11_event 127 = .ok (.iconst 1, 1)) (v := (1 : Int32)) (by decide) ?_
  refine j_iadd hE (by decide +kernel : decode cX11_event 128 = .ok (.iadd, 1)) ?_
  obtain ⟨hk, h⟩ := h
  obtain ⟨g11, hg⟩ : ∃ z, z = sI g10 1540 l0 ((Gi g10 1540 l0) + (1 : Int32)) := ⟨_, rfl⟩; replace h := h g11 hg
  refine j_putI hE fa_X11_247 hk (fun q => by cases q) (by decide +kernel : decode cX11_event 129 = .ok (.putfield 247, 3)) ?_
  rw [← hg]
  refine j_iconst hE (by decide +kernel : decode cX11_event 132 = .ok (.iconst 1, 1)) (v := (1 : Int32)) (by decide) ?_
  exact j_zret hE (Or.inr rfl) (by decide +kernel : decode cX11_event 133 = .ok (.ireturn, 1)) ⟨_, rfl, h⟩
set_option maxRecDepth 100000 in
def B_M_event_66 (Γ : GAM) (K : Int32 → GH → Prop)  (g : GH) : Prop :=
  K (0 : Int32) g
set_option maxHeartbeats 4000000 in
set_option maxRecDepth 100000 in
theorem S_M_event_66 {Γ : GAM} {E : EV} {K : Int32 → GH → Prop} (hE : GE Γ E cX11_event 5 RX11 (some (.boolean)) 2 43 (fun r g' => ∃ x, r = some (.int x) ∧ K x g'))  (g : GH) (h : B_M_event_66 Γ K  g) : JW Γ E 66 [none, none, none, none, none] [] g := by
  unfold B_M_event_66 at h
  refine j_iconst hE (by decide +kernel : decode cX11_event 66 = .ok (.iconst 0, 1)) (v := (0 : Int32)) (by decide) ?_
  exact j_zret hE (Or.inl rfl) (by decide +kernel : decode cX11_event 67 = .ok (.ireturn, 1)) ⟨_, rfl, h⟩
set_option maxRecDepth 100000 in
def B_M_event_40 (Γ : GAM) (K : Int32 → GH → Prop)  (g : GH) : Prop :=
  K (0 : Int32) g
set_option maxHeartbeats 4000000 in
set_option maxRecDepth 100000 in
theorem S_M_event_40 {Γ : GAM} {E : EV} {K : Int32 → GH → Prop} (hE : GE Γ E cX11_event 5 RX11 (some (.boolean)) 2 43 (fun r g' => ∃ x, r = some (.int x) ∧ K x g'))  (g : GH) (h : B_M_event_40 Γ K  g) : JW Γ E 40 [none, none, none, none, none] [] g := by
  unfold B_M_event_40 at h
  refine j_iconst hE (by decide +kernel : decode cX11_event 40 = .ok (.iconst 0, 1)) (v := (0 : Int32)) (by decide) ?_
  exact j_zret hE (Or.inl rfl) (by decide +kernel : decode cX11_event 41 = .ok (.ireturn, 1)) ⟨_, rfl, h⟩
set_option maxRecDepth 100000 in
def B_M_event_0 (Γ : GAM) (K : Int32 → GH → Prop) (th : Nat) (p0 : Int32) (p1 : Int32) (p2 : Int32) (p3 : Int32) (g : GH) : Prop :=
  Kd g th = 13 ∧ Sp_M_isEnvelope Γ th p0 g (fun (x2 : Int32) (g1 : GH) => ((x2 = 0 → B_M_event_40 Γ K g1) ∧ (¬ (x2 = 0) → Sp_M_in Γ p1 (1 : Int32) (8 : Int32) g1 (fun (x4 : Int32) (g3 : GH) => ((x4 = 0 → B_M_event_40 Γ K g3) ∧ (¬ (x4 = 0) → Kd g3 th = 13 ∧ Sp_M_in Γ p2 (0 : Int32) (Gi g3 1536 th) g3 (fun (x6 : Int32) (g5 : GH) => ((x6 = 0 → B_M_event_40 Γ K g5) ∧ (¬ (x6 = 0) → Kd g5 th = 13 ∧ ((¬ ((Gi g5 1540 th) = (600 : Int32)) → ((¬ (p1 = (3 : Int32)) → ((p3 = 0 → B_M_event_68 Γ K th p0 p1 p2 p3 g5) ∧ (¬ (p3 = 0) → B_M_event_66 Γ K g5))) ∧ (p1 = (3 : Int32) → Sp_M_in Γ p3 (0 : Int32) (7 : Int32) g5 (fun (x8 : Int32) (g7 : GH) => ((¬ (x8 = 0) → B_M_event_68 Γ K th p0 p1 p2 p3 g7) ∧ (x8 = 0 → B_M_event_66 Γ K g7)))))) ∧ ((Gi g5 1540 th) = (600 : Int32) → B_M_event_40 Γ K g5)))))))))))
set_option maxHeartbeats 4000000 in
set_option maxRecDepth 100000 in
theorem S_M_event_0 {Γ : GAM} {E : EV} {K : Int32 → GH → Prop} (hE : GE Γ E cX11_event 5 RX11 (some (.boolean)) 2 43 (fun r g' => ∃ x, r = some (.int x) ∧ K x g')) (th : Nat) (p0 : Int32) (p1 : Int32) (p2 : Int32) (p3 : Int32) (g : GH) (h : B_M_event_0 Γ K th p0 p1 p2 p3 g) : JW Γ E 0 [some (.ref th), some (.int p0), some (.int p1), some (.int p2), some (.int p3)] [] g := by
  unfold B_M_event_0 at h
  refine j_aload_n hE (by decide +kernel : decode cX11_event 0 = .ok (.aload_n 0, 1)) rfl rfl ?_
  refine j_iload_n hE (by decide +kernel : decode cX11_event 1 = .ok (.iload_n 1, 1)) rfl rfl ?_
  obtain ⟨hk, h⟩ := h
  refine j_callV hE rfl cl_X11_244 cf_12 im_X11_isEnvelope se_X11_isEnvelope ⟨by omega, by omega⟩ (As := [.int p0]) (rest := []) rfl rfl (Nat.le_of_ble_eq_true rfl) hk (by decide +kernel : decode cX11_event 2 = .ok (.invokevirtual 244, 3)) (mt_M_isEnvelope _ _ _ _ h) ?_
  rintro _ g1 ⟨x2, rfl, h⟩
  refine j_if_eq hE (by decide +kernel : decode cX11_event 5 = .ok (.ifCond .eq 35, 3)) (tgt := 40) (by decide) (fun q => ?_) (fun q => ?_)
  · replace h := h.1 q
    refine j_weak [none, none, none, none, none] trivial ?_
    exact S_M_event_40 hE _ h
  · replace h := h.2 q
    refine j_iload_n hE (by decide +kernel : decode cX11_event 8 = .ok (.iload_n 2, 1)) rfl rfl ?_
    refine j_iconst hE (by decide +kernel : decode cX11_event 9 = .ok (.iconst 1, 1)) (v := (1 : Int32)) (by decide) ?_
    refine j_bipush hE (by decide +kernel : decode cX11_event 10 = .ok (.bipush 8, 2)) (v := (8 : Int32)) (by decide) ?_
    refine j_callS hE rfl cl_X11_213 st_X11_in ⟨by omega, by omega⟩ (As := [.int p1, .int (1 : Int32), .int (8 : Int32)]) (rest := []) rfl rfl (Nat.le_of_ble_eq_true rfl) (by decide +kernel : decode cX11_event 12 = .ok (.invokestatic 213, 3)) (mt_M_in _ _ _ _ _ h) ?_
    rintro _ g3 ⟨x4, rfl, h⟩
    refine j_if_eq hE (by decide +kernel : decode cX11_event 15 = .ok (.ifCond .eq 25, 3)) (tgt := 40) (by decide) (fun q => ?_) (fun q => ?_)
    · replace h := h.1 q
      refine j_weak [none, none, none, none, none] trivial ?_
      exact S_M_event_40 hE _ h
    · replace h := h.2 q
      refine j_iload_n hE (by decide +kernel : decode cX11_event 18 = .ok (.iload_n 3, 1)) rfl rfl ?_
      refine j_iconst hE (by decide +kernel : decode cX11_event 19 = .ok (.iconst 0, 1)) (v := (0 : Int32)) (by decide) ?_
      refine j_aload_n hE (by decide +kernel : decode cX11_event 20 = .ok (.aload_n 0, 1)) rfl rfl ?_
      obtain ⟨hk, h⟩ := h
      refine j_getI hE fg_X11_217 hk (by decide +kernel : decode cX11_event 21 = .ok (.getfield 217, 3)) ?_
      refine j_callS hE rfl cl_X11_213 st_X11_in ⟨by omega, by omega⟩ (As := [.int p2, .int (0 : Int32), .int (Gi g3 1536 th)]) (rest := []) rfl rfl (Nat.le_of_ble_eq_true rfl) (by decide +kernel : decode cX11_event 24 = .ok (.invokestatic 213, 3)) (mt_M_in _ _ _ _ _ h) ?_
      rintro _ g5 ⟨x6, rfl, h⟩
      refine j_if_eq hE (by decide +kernel : decode cX11_event 27 = .ok (.ifCond .eq 13, 3)) (tgt := 40) (by decide) (fun q => ?_) (fun q => ?_)
      · replace h := h.1 q
        refine j_weak [none, none, none, none, none] trivial ?_
        exact S_M_event_40 hE _ h
      · replace h := h.2 q
        refine j_aload_n hE (by decide +kernel : decode cX11_event 30 = .ok (.aload_n 0, 1)) rfl rfl ?_
        obtain ⟨hk, h⟩ := h
        refine j_getI hE fg_X11_247 hk (by decide +kernel : decode cX11_event 31 = .ok (.getfield 247, 3)) ?_
        refine j_sipush hE (by decide +kernel : decode cX11_event 34 = .ok (.sipush 600, 3)) (v := (600 : Int32)) (by decide) ?_
        refine j_icmp_ne hE (by decide +kernel : decode cX11_event 37 = .ok (.if_icmp .ne 5, 3)) (tgt := 42) (by decide) (fun q => ?_) (fun q => ?_)
        · replace h := h.1 q
          refine j_iload_n hE (by decide +kernel : decode cX11_event 42 = .ok (.iload_n 2, 1)) rfl rfl ?_
          refine j_iconst hE (by decide +kernel : decode cX11_event 43 = .ok (.iconst 3, 1)) (v := (3 : Int32)) (by decide) ?_
          refine j_icmp_ne hE (by decide +kernel : decode cX11_event 44 = .ok (.if_icmp .ne 17, 3)) (tgt := 61) (by decide) (fun q => ?_) (fun q => ?_)
          · replace h := h.1 q
            refine j_iload hE (by decide +kernel : decode cX11_event 61 = .ok (.iload 4, 2)) rfl ?_
            refine j_if_eq hE (by decide +kernel : decode cX11_event 63 = .ok (.ifCond .eq 5, 3)) (tgt := 68) (by decide) (fun q => ?_) (fun q => ?_)
            · replace h := h.1 q
              exact S_M_event_68 hE _ _ _ _ _ _ h
            · replace h := h.2 q
              refine j_weak [none, none, none, none, none] trivial ?_
              exact S_M_event_66 hE _ h
          · replace h := h.2 q
            refine j_iload hE (by decide +kernel : decode cX11_event 47 = .ok (.iload 4, 2)) rfl ?_
            refine j_iconst hE (by decide +kernel : decode cX11_event 49 = .ok (.iconst 0, 1)) (v := (0 : Int32)) (by decide) ?_
            refine j_bipush hE (by decide +kernel : decode cX11_event 50 = .ok (.bipush 7, 2)) (v := (7 : Int32)) (by decide) ?_
            refine j_callS hE rfl cl_X11_213 st_X11_in ⟨by omega, by omega⟩ (As := [.int p3, .int (0 : Int32), .int (7 : Int32)]) (rest := []) rfl rfl (Nat.le_of_ble_eq_true rfl) (by decide +kernel : decode cX11_event 52 = .ok (.invokestatic 213, 3)) (mt_M_in _ _ _ _ _ h) ?_
            rintro _ g7 ⟨x8, rfl, h⟩
            refine j_if_ne hE (by decide +kernel : decode cX11_event 55 = .ok (.ifCond .ne 13, 3)) (tgt := 68) (by decide) (fun q => ?_) (fun q => ?_)
            · replace h := h.1 q
              exact S_M_event_68 hE _ _ _ _ _ _ h
            · replace h := h.2 q
              refine j_goto hE (by decide +kernel : decode cX11_event 58 = .ok (.goto 8, 3)) (tgt := 66) (by decide) ?_
              refine j_weak [none, none, none, none, none] trivial ?_
              exact S_M_event_66 hE _ h
        · replace h := h.2 q
          refine j_weak [none, none, none, none, none] trivial ?_
          exact S_M_event_40 hE _ h
set_option maxHeartbeats 4000000 in
set_option maxRecDepth 100000 in
theorem rl_M_event {Γ : GAM} {l : Launch} {th : Nat} {p0 : Int32} {p1 : Int32} {p2 : Int32} {p3 : Int32} {g : GH} {K : Int32 → GH → Prop} (h0 : B_M_event_0 Γ K th p0 p1 p2 p3 g) : MetA Γ l yX11_event cX11_event 5 (some (.boolean)) 2 43 [.ref th, .int p0, .int p1, .int p2, .int p3] g (fun r g' => ∃ x, r = some (.int x) ∧ K x g') := by
  refine MetA.introL (Lx := [some (.ref th), some (.int p0), some (.int p1), some (.int p2), some (.int p3)]) (by decide) (Nat.le_of_ble_eq_true rfl) rfl rfl ?_
  intro E hEl hE hnm
  exact S_M_event_0 hE th p0 p1 p2 p3 g h0
theorem mt_M_event {Γ : GAM} {l : Launch} (th : Nat) (p0 : Int32) (p1 : Int32) (p2 : Int32) (p3 : Int32) (g : GH) (K : Int32 → GH → Prop) (h : Sp_M_event Γ th p0 p1 p2 p3 g K) : MetA Γ l yX11_event cX11_event 5 (some (.boolean)) 2 43 [.ref th, .int p0, .int p1, .int p2, .int p3] g (fun r g' => ∃ x, r = some (.int x) ∧ K x g') := by
  obtain ⟨ma, s, hI, hK⟩ := h
  refine rl_M_event ?_
  obtain ⟨hkd, hS⟩ := hI.1
  obtain ⟨e1, e2, -⟩ := hI.evt
  have hnow := hI.now
  have hv1 := hI.vot.1
  have hv2 := hI.env.1
  obtain ⟨z_eventOf1, z_eventOf2, z_eventOf3, z_eventOf4, z_eventOf5⟩ := hS 1560 20 600 rfl
  obtain ⟨z_eventKind1, z_eventKind2, z_eventKind3, z_eventKind4, z_eventKind5⟩ := hS 1561 20 600 rfl
  obtain ⟨z_eventDay1, z_eventDay2, z_eventDay3, z_eventDay4, z_eventDay5⟩ := hS 1562 20 600 rfl
  obtain ⟨z_eventBox1, z_eventBox2, z_eventBox3, z_eventBox4, z_eventBox5⟩ := hS 1563 20 600 rfl
  obtain ⟨z_eventTold1, z_eventTold2, z_eventTold3, z_eventTold4, z_eventTold5⟩ := hS 1564 20 600 rfl
  have hno : ¬ ok_event s p0 p1 p2 p3 → K (0) g := fun hn => by
    unfold p_event q_event at hK
    rw [if_neg hn, if_neg hn] at hK
    exact hK g FrL.rf hI
  have hyes : ok_event s p0 p1 p2 p3 → ∀ r g', r = 1 → g' = (sI (sA (sA (sA (sA (sA g 1560 th (s_evt s).length (p0)) 1561 th (s_evt s).length (p1)) 1562 th (s_evt s).length (p2)) 1563 th (s_evt s).length (p3)) 1564 th (s_evt s).length (s_now s)) 1540 th (nI ((s_evt s).length + 1))) → K r g' := fun hn r g' hr hg => by
    subst hr hg
    unfold p_event q_event at hK
    rw [if_pos hn, if_pos hn] at hK
    have hl : (s_evt s).length < 600 := by have := hn.1; omega
    exact hK _ ((((((FrL.rf.tr FrL.sA).tr FrL.sA).tr FrL.sA).tr FrL.sA).tr FrL.sA).tr FrL.sI) ⟨hI.1, hI.now, hI.siz, hI.prs, hI.stp, hI.vot, hI.mov, hI.env, (R_evt_push hI.evt hl (by simp [Gi_sI]) (fun k => by simp [Ia_sA, Ia_sI]) (fun k => by simp [Ia_sA, Ia_sI]) (fun k => by simp [Ia_sA, Ia_sI]) (fun k => by simp [Ia_sA, Ia_sI]) (fun k => by simp [Ia_sA, Ia_sI])), hI.emp, hI.rea, hI.tel, hI.boo, hI.wav, hI.hea, hI.tap, hI.law, hI.hof, hI.box, hI.roa, hI.las⟩
  have hcl : (nI (s_evt s).length).toNatClampNeg = (s_evt s).length := nj_cl (by omega)
  have hcap : (nI (s_evt s).length = (600 : Int32)) = ((s_evt s).length = 600) := propext (nj_eq (b := 600) (by omega) (by omega))
  have hib : (s_evt s).length ≠ 600 → inB (nI (s_evt s).length) 600 := fun h => inB_nI (by omega) (by omega)
  simp only [B_M_event_68, B_M_event_66, B_M_event_40, B_M_event_0, Sp_M_in, Sp_M_isShire, Sp_M_isVoter, Sp_M_isEnvelope, Sp_M_isKnowing, ifz, hkd, hnow, hv1, hv2, e1, z_eventOf1, z_eventOf2, z_eventOf3, z_eventOf4, z_eventOf5, z_eventKind1, z_eventKind2, z_eventKind3, z_eventKind4, z_eventKind5, z_eventDay1, z_eventDay2, z_eventDay3, z_eventDay4, z_eventDay5, z_eventBox1, z_eventBox2, z_eventBox3, z_eventBox4, z_eventBox5, z_eventTold1, z_eventTold2, z_eventTold3, z_eventTold4, z_eventTold5, true_and, Kd_sA, Gr_sA, Co_sA, Ow_sA, Ln_sA, Gi_sA, Kd_sI, Gi_sI, Option.some.injEq, exists_eq_left', forall_eq, and_self, if_true, nj_s, hcl, hcap, Int32.add_sub_cancel]
  repeat' with_reducible first | apply And.intro | intro _
  all_goals first | exact hno (by grind) | exact hib (by grind) | exact hyes (by grind) _ _ (by first | rfl | (rw [← nj_s]; exact Int32.add_sub_cancel)) rfl

abbrev ok_empty (s : ST) (p0 : Int32) (p1 : Int32) (p2 : Int32) : Prop := (s_emp s).length ≠ 200 ∧ (0 ≤ p0 ∧ p0 ≤ 7) ∧ (0 ≤ p1 ∧ p1 ≤ s_now s) ∧ (0 ≤ p2 ∧ p2 ≤ 200)
def p_empty (s : ST) (p0 : Int32) (p1 : Int32) (p2 : Int32) : Int32 := if ok_empty s p0 p1 p2 then nI (s_emp s).length else -1
def q_empty (s : ST) (p0 : Int32) (p1 : Int32) (p2 : Int32) : ST := if ok_empty s p0 p1 p2 then u_emp s ((s_emp s) ++ [(p0, p1, p2, s_now s)]) else s
def Sp_M_empty (Γ : GAM) (m : Nat) (p0 : Int32) (p1 : Int32) (p2 : Int32) (g : GH) (K : Int32 → GH → Prop) : Prop := ∃ ma s, RefI m ma g s ∧ ∀ g', FrL m g g' → RefI m ma g' (q_empty s p0 p1 p2) → K (p_empty s p0 p1 p2) g'
-- the walk of M_empty
set_option maxRecDepth 100000 in
def B_M_empty_43 (Γ : GAM) (K : Int32 → GH → Prop)  (g : GH) : Prop :=
  K (-1 : Int32) g
set_option maxHeartbeats 4000000 in
set_option maxRecDepth 100000 in
theorem S_M_empty_43 {Γ : GAM} {E : EV} {K : Int32 → GH → Prop} (hE : GE Γ E cX11_empty 4 RX11 (some (.int)) 1 22 (fun r g' => ∃ x, r = some (.int x) ∧ K x g'))  (g : GH) (h : B_M_empty_43 Γ K  g) : JW Γ E 43 [none, none, none, none] [] g := by
  unfold B_M_empty_43 at h
  refine j_iconst hE (by decide +kernel : decode cX11_empty 43 = .ok (.iconst (-1), 1)) (v := (-1 : Int32)) (by decide) ?_
  exact j_iret hE (by decide +kernel : decode cX11_empty 44 = .ok (.ireturn, 1)) ⟨_, rfl, h⟩
set_option maxRecDepth 100000 in
def B_M_empty_0 (Γ : GAM) (K : Int32 → GH → Prop) (th : Nat) (p0 : Int32) (p1 : Int32) (p2 : Int32) (g : GH) : Prop :=
  Sp_M_in Γ p0 (0 : Int32) (7 : Int32) g (fun (x2 : Int32) (g1 : GH) => ((x2 = 0 → B_M_empty_43 Γ K g1) ∧ (¬ (x2 = 0) → Kd g1 th = 13 ∧ Sp_M_in Γ p1 (0 : Int32) (Gi g1 1536 th) g1 (fun (x4 : Int32) (g3 : GH) => ((x4 = 0 → B_M_empty_43 Γ K g3) ∧ (¬ (x4 = 0) → Sp_M_in Γ p2 (0 : Int32) (200 : Int32) g3 (fun (x6 : Int32) (g5 : GH) => ((x6 = 0 → B_M_empty_43 Γ K g5) ∧ (¬ (x6 = 0) → Kd g5 th = 13 ∧ ((¬ ((Gi g5 1541 th) = (200 : Int32)) → Kd g5 th = 13 ∧ ∃ a7 : Nat, Gr g5 1565 th = some a7 ∧ Kd g5 th = 13 ∧ Kd g5 a7 = 20 ∧ inB (Gi g5 1541 th) (Ln g5 a7) ∧ ∀ g8 : GH, g8 = sA g5 (Co g5 a7) (Ow g5 a7) (Gi g5 1541 th).toNatClampNeg p0 → Kd g8 th = 13 ∧ ∃ a9 : Nat, Gr g8 1566 th = some a9 ∧ Kd g8 th = 13 ∧ Kd g8 a9 = 20 ∧ inB (Gi g8 1541 th) (Ln g8 a9) ∧ ∀ g10 : GH, g10 = sA g8 (Co g8 a9) (Ow g8 a9) (Gi g8 1541 th).toNatClampNeg p1 → Kd g10 th = 13 ∧ ∃ a11 : Nat, Gr g10 1567 th = some a11 ∧ Kd g10 th = 13 ∧ Kd g10 a11 = 20 ∧ inB (Gi g10 1541 th) (Ln g10 a11) ∧ ∀ g12 : GH, g12 = sA g10 (Co g10 a11) (Ow g10 a11) (Gi g10 1541 th).toNatClampNeg p2 → Kd g12 th = 13 ∧ ∃ a13 : Nat, Gr g12 1568 th = some a13 ∧ Kd g12 th = 13 ∧ Kd g12 th = 13 ∧ Kd g12 a13 = 20 ∧ inB (Gi g12 1541 th) (Ln g12 a13) ∧ ∀ g14 : GH, g14 = sA g12 (Co g12 a13) (Ow g12 a13) (Gi g12 1541 th).toNatClampNeg (Gi g12 1536 th) → Kd g14 th = 13 ∧ Kd g14 th = 13 ∧ ∀ g15 : GH, g15 = sI g14 1541 th ((Gi g14 1541 th) + (1 : Int32)) → Kd g15 th = 13 ∧ K ((Gi g15 1541 th) - (1 : Int32)) g15) ∧ ((Gi g5 1541 th) = (200 : Int32) → B_M_empty_43 Γ K g5)))))))))))
set_option maxHeartbeats 4000000 in
set_option maxRecDepth 100000 in
theorem S_M_empty_0 {Γ : GAM} {E : EV} {K : Int32 → GH → Prop} (hE : GE Γ E cX11_empty 4 RX11 (some (.int)) 1 22 (fun r g' => ∃ x, r = some (.int x) ∧ K x g')) (th : Nat) (p0 : Int32) (p1 : Int32) (p2 : Int32) (g : GH) (h : B_M_empty_0 Γ K th p0 p1 p2 g) : JW Γ E 0 [some (.ref th), some (.int p0), some (.int p1), some (.int p2)] [] g := by
  unfold B_M_empty_0 at h
  refine j_iload_n hE (by decide +kernel : decode cX11_empty 0 = .ok (.iload_n 1, 1)) rfl rfl ?_
  refine j_iconst hE (by decide +kernel : decode cX11_empty 1 = .ok (.iconst 0, 1)) (v := (0 : Int32)) (by decide) ?_
  refine j_bipush hE (by decide +kernel : decode cX11_empty 2 = .ok (.bipush 7, 2)) (v := (7 : Int32)) (by decide) ?_
  refine j_callS hE rfl cl_X11_213 st_X11_in ⟨by omega, by omega⟩ (As := [.int p0, .int (0 : Int32), .int (7 : Int32)]) (rest := []) rfl rfl (Nat.le_of_ble_eq_true rfl) (by decide +kernel : decode cX11_empty 4 = .ok (.invokestatic 213, 3)) (mt_M_in _ _ _ _ _ h) ?_
  rintro _ g1 ⟨x2, rfl, h⟩
  refine j_if_eq hE (by decide +kernel : decode cX11_empty 7 = .ok (.ifCond .eq 36, 3)) (tgt := 43) (by decide) (fun q => ?_) (fun q => ?_)
  · replace h := h.1 q
    refine j_weak [none, none, none, none] trivial ?_
    exact S_M_empty_43 hE _ h
  · replace h := h.2 q
    refine j_iload_n hE (by decide +kernel : decode cX11_empty 10 = .ok (.iload_n 2, 1)) rfl rfl ?_
    refine j_iconst hE (by decide +kernel : decode cX11_empty 11 = .ok (.iconst 0, 1)) (v := (0 : Int32)) (by decide) ?_
    refine j_aload_n hE (by decide +kernel : decode cX11_empty 12 = .ok (.aload_n 0, 1)) rfl rfl ?_
    obtain ⟨hk, h⟩ := h
    refine j_getI hE fg_X11_217 hk (by decide +kernel : decode cX11_empty 13 = .ok (.getfield 217, 3)) ?_
    refine j_callS hE rfl cl_X11_213 st_X11_in ⟨by omega, by omega⟩ (As := [.int p1, .int (0 : Int32), .int (Gi g1 1536 th)]) (rest := []) rfl rfl (Nat.le_of_ble_eq_true rfl) (by decide +kernel : decode cX11_empty 16 = .ok (.invokestatic 213, 3)) (mt_M_in _ _ _ _ _ h) ?_
    rintro _ g3 ⟨x4, rfl, h⟩
    refine j_if_eq hE (by decide +kernel : decode cX11_empty 19 = .ok (.ifCond .eq 24, 3)) (tgt := 43) (by decide) (fun q => ?_) (fun q => ?_)
    · replace h := h.1 q
      refine j_weak [none, none, none, none] trivial ?_
      exact S_M_empty_43 hE _ h
    · replace h := h.2 q
      refine j_iload_n hE (by decide +kernel : decode cX11_empty 22 = .ok (.iload_n 3, 1)) rfl rfl ?_
      refine j_iconst hE (by decide +kernel : decode cX11_empty 23 = .ok (.iconst 0, 1)) (v := (0 : Int32)) (by decide) ?_
      refine j_sipush hE (by decide +kernel : decode cX11_empty 24 = .ok (.sipush 200, 3)) (v := (200 : Int32)) (by decide) ?_
      refine j_callS hE rfl cl_X11_213 st_X11_in ⟨by omega, by omega⟩ (As := [.int p2, .int (0 : Int32), .int (200 : Int32)]) (rest := []) rfl rfl (Nat.le_of_ble_eq_true rfl) (by decide +kernel : decode cX11_empty 27 = .ok (.invokestatic 213, 3)) (mt_M_in _ _ _ _ _ h) ?_
      rintro _ g5 ⟨x6, rfl, h⟩
      refine j_if_eq hE (by decide +kernel : decode cX11_empty 30 = .ok (.ifCond .eq 13, 3)) (tgt := 43) (by decide) (fun q => ?_) (fun q => ?_)
      · replace h := h.1 q
        refine j_weak [none, none, none, none] trivial ?_
        exact S_M_empty_43 hE _ h
      · replace h := h.2 q
        refine j_aload_n hE (by decide +kernel : decode cX11_empty 33 = .ok (.aload_n 0, 1)) rfl rfl ?_
        obtain ⟨hk, h⟩ := h
        refine j_getI hE fg_X11_250 hk (by decide +kernel : decode cX11_empty 34 = .ok (.getfield 250, 3)) ?_
        refine j_sipush hE (by decide +kernel : decode cX11_empty 37 = .ok (.sipush 200, 3)) (v := (200 : Int32)) (by decide) ?_
        refine j_icmp_ne hE (by decide +kernel : decode cX11_empty 40 = .ok (.if_icmp .ne 5, 3)) (tgt := 45) (by decide) (fun q => ?_) (fun q => ?_)
        · replace h := h.1 q
          refine j_aload_n hE (by decide +kernel : decode cX11_empty 45 = .ok (.aload_n 0, 1)) rfl rfl ?_
          obtain ⟨hk, h⟩ := h
          obtain ⟨a7, ha, h⟩ := h
          refine j_getRn hE fg_X11_62 hk ha (by decide +kernel : decode cX11_empty 46 = .ok (.getfield 62, 3)) ?_
          refine j_aload_n hE (by decide +kernel : decode cX11_empty 49 = .ok (.aload_n 0, 1)) rfl rfl ?_
          obtain ⟨hk, h⟩ := h
          refine j_getI hE fg_X11_250 hk (by decide +kernel : decode cX11_empty 50 = .ok (.getfield 250, 3)) ?_
          refine j_iload_n hE (by decide +kernel : decode cX11_empty 53 = .ok (.iload_n 1, 1)) rfl rfl ?_
          obtain ⟨hk, hb, h⟩ := h
          obtain ⟨g8, hg⟩ : ∃ z, z = sA g5 (Co g5 a7) (Ow g5 a7) (Gi g5 1541 th).toNatClampNeg p0 := ⟨_, rfl⟩; replace h := h g8 hg
          refine j_iast hE hk hb (by decide +kernel : decode cX11_empty 54 = .ok (.iastore, 1)) ?_
          rw [← hg]
          refine j_aload_n hE (by decide +kernel : decode cX11_empty 55 = .ok (.aload_n 0, 1)) rfl rfl ?_
          obtain ⟨hk, h⟩ := h
          obtain ⟨a9, ha, h⟩ := h
          refine j_getRn hE fg_X11_65 hk ha (by decide +kernel : decode cX11_empty 56 = .ok (.getfield 65, 3)) ?_
          refine j_aload_n hE (by decide +kernel : decode cX11_empty 59 = .ok (.aload_n 0, 1)) rfl rfl ?_
          obtain ⟨hk, h⟩ := h
          refine j_getI hE fg_X11_250 hk (by decide +kernel : decode cX11_empty 60 = .ok (.getfield 250, 3)) ?_
          refine j_iload_n hE (by decide +kernel : decode cX11_empty 63 = .ok (.iload_n 2, 1)) rfl rfl ?_
          obtain ⟨hk, hb, h⟩ := h
          obtain ⟨g10, hg⟩ : ∃ z, z = sA g8 (Co g8 a9) (Ow g8 a9) (Gi g8 1541 th).toNatClampNeg p1 := ⟨_, rfl⟩; replace h := h g10 hg
          refine j_iast hE hk hb (by decide +kernel : decode cX11_empty 64 = .ok (.iastore, 1)) ?_
          rw [← hg]
          refine j_aload_n hE (by decide +kernel : decode cX11_empty 65 = .ok (.aload_n 0, 1)) rfl rfl ?_
          obtain ⟨hk, h⟩ := h
          obtain ⟨a11, ha, h⟩ := h
          refine j_getRn hE fg_X11_68 hk ha (by decide +kernel : decode cX11_empty 66 = .ok (.getfield 68, 3)) ?_
          refine j_aload_n hE (by decide +kernel : decode cX11_empty 69 = .ok (.aload_n 0, 1)) rfl rfl ?_
          obtain ⟨hk, h⟩ := h
          refine j_getI hE fg_X11_250 hk (by decide +kernel : decode cX11_empty 70 = .ok (.getfield 250, 3)) ?_
          refine j_iload_n hE (by decide +kernel : decode cX11_empty 73 = .ok (.iload_n 3, 1)) rfl rfl ?_
          obtain ⟨hk, hb, h⟩ := h
          obtain ⟨g12, hg⟩ : ∃ z, z = sA g10 (Co g10 a11) (Ow g10 a11) (Gi g10 1541 th).toNatClampNeg p2 := ⟨_, rfl⟩; replace h := h g12 hg
          refine j_iast hE hk hb (by decide +kernel : decode cX11_empty 74 = .ok (.iastore, 1)) ?_
          rw [← hg]
          refine j_aload_n hE (by decide +kernel : decode cX11_empty 75 = .ok (.aload_n 0, 1)) rfl rfl ?_
          obtain ⟨hk, h⟩ := h
          obtain ⟨a13, ha, h⟩ := h
          refine j_getRn hE fg_X11_71 hk ha (by decide +kernel : decode cX11_empty 76 = .ok (.getfield 71, 3)) ?_
          refine j_aload_n hE (by decide +kernel : decode cX11_empty 79 = .ok (.aload_n 0, 1)) rfl rfl ?_
          obtain ⟨hk, h⟩ := h
          refine j_getI hE fg_X11_250 hk (by decide +kernel : decode cX11_empty 80 = .ok (.getfield 250, 3)) ?_
          refine j_aload_n hE (by decide +kernel : decode cX11_empty 83 = .ok (.aload_n 0, 1)) rfl rfl ?_
          obtain ⟨hk, h⟩ := h
          refine j_getI hE fg_X11_217 hk (by decide +kernel : decode cX11_empty 84 = .ok (.getfield 217, 3)) ?_
          obtain ⟨hk, hb, h⟩ := h
          obtain ⟨g14, hg⟩ : ∃ z, z = sA g12 (Co g12 a13) (Ow g12 a13) (Gi g12 1541 th).toNatClampNeg (Gi g12 1536 th) := ⟨_, rfl⟩; replace h := h g14 hg
          refine j_iast hE hk hb (by decide +kernel : decode cX11_empty 87 = .ok (.iastore, 1)) ?_
          rw [← hg]
          refine j_aload_n hE (by decide +kernel : decode cX11_empty 88 = .ok (.aload_n 0, 1)) rfl rfl ?_
          refine j_dup hE (by decide +kernel : decode cX11_empty 89 = .ok (.dup, 1)) rfl ?_
          obtain ⟨hk, h⟩ := h
          refine j_getI hE fg_X11_250 hk (by decide +kernel : decode cX11_empty 90 = .ok (.getfield 250, 3)) ?_
          refine j_iconst hE (by decide +kernel : decode cX11_empty 93 = .ok (.iconst 1, 1)) (v := (1 : Int32)) (by decide) ?_
          refine j_iadd hE (by decide +kernel : decode cX11_empty 94 = .ok (.iadd, 1)) ?_
          obtain ⟨hk, h⟩ := h
          obtain ⟨g15, hg⟩ : ∃ z, z = sI g14 1541 th ((Gi g14 1541 th) + (1 : Int32)) := ⟨_, rfl⟩; replace h := h g15 hg
          refine j_putI hE fa_X11_250 hk (fun q => by cases q) (by decide +kernel : decode cX11_empty 95 = .ok (.putfield 250, 3)) ?_
          rw [← hg]
          refine j_aload_n hE (by decide +kernel : decode cX11_empty 98 = .ok (.aload_n 0, 1)) rfl rfl ?_
          obtain ⟨hk, h⟩ := h
          refine j_getI hE fg_X11_250 hk (by decide +kernel : decode cX11_empty 99 = .ok (.getfield 250, 3)) ?_
          refine j_iconst hE (by decide +kernel : decode cX11_empty 102 = .ok (.iconst 1, 1)) (v := (1 : Int32)) (by decide) ?_
          refine j_isub hE (by decide +kernel : decode cX11_empty 103 = .ok (.isub, 1)) ?_
          exact j_iret hE (by decide +kernel : decode cX11_empty 104 = .ok (.ireturn, 1)) ⟨_, rfl, h⟩
        · replace h := h.2 q
          refine j_weak [none, none, none, none] trivial ?_
          exact S_M_empty_43 hE _ h
set_option maxHeartbeats 4000000 in
set_option maxRecDepth 100000 in
theorem rl_M_empty {Γ : GAM} {l : Launch} {th : Nat} {p0 : Int32} {p1 : Int32} {p2 : Int32} {g : GH} {K : Int32 → GH → Prop} (h0 : B_M_empty_0 Γ K th p0 p1 p2 g) : MetA Γ l yX11_empty cX11_empty 4 (some (.int)) 1 22 [.ref th, .int p0, .int p1, .int p2] g (fun r g' => ∃ x, r = some (.int x) ∧ K x g') := by
  refine MetA.introL (Lx := [some (.ref th), some (.int p0), some (.int p1), some (.int p2)]) (by decide) (Nat.le_of_ble_eq_true rfl) rfl rfl ?_
  intro E hEl hE hnm
  exact S_M_empty_0 hE th p0 p1 p2 g h0
theorem mt_M_empty {Γ : GAM} {l : Launch} (th : Nat) (p0 : Int32) (p1 : Int32) (p2 : Int32) (g : GH) (K : Int32 → GH → Prop) (h : Sp_M_empty Γ th p0 p1 p2 g K) : MetA Γ l yX11_empty cX11_empty 4 (some (.int)) 1 22 [.ref th, .int p0, .int p1, .int p2] g (fun r g' => ∃ x, r = some (.int x) ∧ K x g') := by
  obtain ⟨ma, s, hI, hK⟩ := h
  refine rl_M_empty ?_
  obtain ⟨hkd, hS⟩ := hI.1
  obtain ⟨e1, e2, -⟩ := hI.emp
  have hnow := hI.now
  have hv1 := hI.vot.1
  have hv2 := hI.env.1
  obtain ⟨z_emptyBox1, z_emptyBox2, z_emptyBox3, z_emptyBox4, z_emptyBox5⟩ := hS 1565 20 200 rfl
  obtain ⟨z_emptyDay1, z_emptyDay2, z_emptyDay3, z_emptyDay4, z_emptyDay5⟩ := hS 1566 20 200 rfl
  obtain ⟨z_emptyMany1, z_emptyMany2, z_emptyMany3, z_emptyMany4, z_emptyMany5⟩ := hS 1567 20 200 rfl
  obtain ⟨z_emptyTold1, z_emptyTold2, z_emptyTold3, z_emptyTold4, z_emptyTold5⟩ := hS 1568 20 200 rfl
  have hno : ¬ ok_empty s p0 p1 p2 → K (-1) g := fun hn => by
    unfold p_empty q_empty at hK
    rw [if_neg hn, if_neg hn] at hK
    exact hK g FrL.rf hI
  have hyes : ok_empty s p0 p1 p2 → ∀ r g', r = nI (s_emp s).length → g' = (sI (sA (sA (sA (sA g 1565 th (s_emp s).length (p0)) 1566 th (s_emp s).length (p1)) 1567 th (s_emp s).length (p2)) 1568 th (s_emp s).length (s_now s)) 1541 th (nI ((s_emp s).length + 1))) → K r g' := fun hn r g' hr hg => by
    subst hr hg
    unfold p_empty q_empty at hK
    rw [if_pos hn, if_pos hn] at hK
    have hl : (s_emp s).length < 200 := by have := hn.1; omega
    exact hK _ (((((FrL.rf.tr FrL.sA).tr FrL.sA).tr FrL.sA).tr FrL.sA).tr FrL.sI) ⟨hI.1, hI.now, hI.siz, hI.prs, hI.stp, hI.vot, hI.mov, hI.env, hI.evt, (R_emp_push hI.emp hl (by simp [Gi_sI]) (fun k => by simp [Ia_sA, Ia_sI]) (fun k => by simp [Ia_sA, Ia_sI]) (fun k => by simp [Ia_sA, Ia_sI]) (fun k => by simp [Ia_sA, Ia_sI])), hI.rea, hI.tel, hI.boo, hI.wav, hI.hea, hI.tap, hI.law, hI.hof, hI.box, hI.roa, hI.las⟩
  have hcl : (nI (s_emp s).length).toNatClampNeg = (s_emp s).length := nj_cl (by omega)
  have hcap : (nI (s_emp s).length = (200 : Int32)) = ((s_emp s).length = 200) := propext (nj_eq (b := 200) (by omega) (by omega))
  have hib : (s_emp s).length ≠ 200 → inB (nI (s_emp s).length) 200 := fun h => inB_nI (by omega) (by omega)
  simp only [B_M_empty_43, B_M_empty_0, Sp_M_in, Sp_M_isShire, Sp_M_isVoter, Sp_M_isEnvelope, Sp_M_isKnowing, ifz, hkd, hnow, hv1, hv2, e1, z_emptyBox1, z_emptyBox2, z_emptyBox3, z_emptyBox4, z_emptyBox5, z_emptyDay1, z_emptyDay2, z_emptyDay3, z_emptyDay4, z_emptyDay5, z_emptyMany1, z_emptyMany2, z_emptyMany3, z_emptyMany4, z_emptyMany5, z_emptyTold1, z_emptyTold2, z_emptyTold3, z_emptyTold4, z_emptyTold5, true_and, Kd_sA, Gr_sA, Co_sA, Ow_sA, Ln_sA, Gi_sA, Kd_sI, Gi_sI, Option.some.injEq, exists_eq_left', forall_eq, and_self, if_true, nj_s, hcl, hcap, Int32.add_sub_cancel]
  repeat' with_reducible first | apply And.intro | intro _
  all_goals first | exact hno (by grind) | exact hib (by grind) | exact hyes (by grind) _ _ (by first | rfl | (rw [← nj_s]; exact Int32.add_sub_cancel)) rfl

abbrev ok_read (s : ST) (p0 : Int32) (p1 : Int32) : Prop := (s_rea s).length ≠ 400 ∧ (0 ≤ p0 ∧ p0 ≤ nI (s_env s).length - 1) ∧ (0 ≤ p1 ∧ p1 ≤ 99999999)
def p_read (s : ST) (p0 : Int32) (p1 : Int32) : Int32 := if ok_read s p0 p1 then 1 else 0
def q_read (s : ST) (p0 : Int32) (p1 : Int32) : ST := if ok_read s p0 p1 then u_rea s ((s_rea s) ++ [(p0, p1, s_now s)]) else s
def Sp_M_read (Γ : GAM) (m : Nat) (p0 : Int32) (p1 : Int32) (g : GH) (K : Int32 → GH → Prop) : Prop := ∃ ma s, RefI m ma g s ∧ ∀ g', FrL m g g' → RefI m ma g' (q_read s p0 p1) → K (p_read s p0 p1) g'
-- the walk of M_read
set_option maxRecDepth 100000 in
def B_M_read_28 (Γ : GAM) (K : Int32 → GH → Prop)  (g : GH) : Prop :=
  K (0 : Int32) g
set_option maxHeartbeats 4000000 in
set_option maxRecDepth 100000 in
theorem S_M_read_28 {Γ : GAM} {E : EV} {K : Int32 → GH → Prop} (hE : GE Γ E cX11_read 3 RX11 (some (.boolean)) 2 43 (fun r g' => ∃ x, r = some (.int x) ∧ K x g'))  (g : GH) (h : B_M_read_28 Γ K  g) : JW Γ E 28 [none, none, none] [] g := by
  unfold B_M_read_28 at h
  refine j_iconst hE (by decide +kernel : decode cX11_read 28 = .ok (.iconst 0, 1)) (v := (0 : Int32)) (by decide) ?_
  exact j_zret hE (Or.inl rfl) (by decide +kernel : decode cX11_read 29 = .ok (.ireturn, 1)) ⟨_, rfl, h⟩
set_option maxRecDepth 100000 in
def B_M_read_0 (Γ : GAM) (K : Int32 → GH → Prop) (th : Nat) (p0 : Int32) (p1 : Int32) (g : GH) : Prop :=
  Kd g th = 13 ∧ Sp_M_isEnvelope Γ th p0 g (fun (x2 : Int32) (g1 : GH) => ((x2 = 0 → B_M_read_28 Γ K g1) ∧ (¬ (x2 = 0) → Sp_M_in Γ p1 (0 : Int32) (99999999 : Int32) g1 (fun (x4 : Int32) (g3 : GH) => ((x4 = 0 → B_M_read_28 Γ K g3) ∧ (¬ (x4 = 0) → Kd g3 th = 13 ∧ ((¬ ((Gi g3 1542 th) = (400 : Int32)) → Kd g3 th = 13 ∧ ∃ a5 : Nat, Gr g3 1571 th = some a5 ∧ Kd g3 th = 13 ∧ Kd g3 a5 = 20 ∧ inB (Gi g3 1542 th) (Ln g3 a5) ∧ ∀ g6 : GH, g6 = sA g3 (Co g3 a5) (Ow g3 a5) (Gi g3 1542 th).toNatClampNeg p0 → Kd g6 th = 13 ∧ ∃ a7 : Nat, Gr g6 1572 th = some a7 ∧ Kd g6 th = 13 ∧ Kd g6 a7 = 20 ∧ inB (Gi g6 1542 th) (Ln g6 a7) ∧ ∀ g8 : GH, g8 = sA g6 (Co g6 a7) (Ow g6 a7) (Gi g6 1542 th).toNatClampNeg p1 → Kd g8 th = 13 ∧ ∃ a9 : Nat, Gr g8 1573 th = some a9 ∧ Kd g8 th = 13 ∧ Kd g8 th = 13 ∧ Kd g8 a9 = 20 ∧ inB (Gi g8 1542 th) (Ln g8 a9) ∧ ∀ g10 : GH, g10 = sA g8 (Co g8 a9) (Ow g8 a9) (Gi g8 1542 th).toNatClampNeg (Gi g8 1536 th) → Kd g10 th = 13 ∧ Kd g10 th = 13 ∧ ∀ g11 : GH, g11 = sI g10 1542 th ((Gi g10 1542 th) + (1 : Int32)) → K (1 : Int32) g11) ∧ ((Gi g3 1542 th) = (400 : Int32) → B_M_read_28 Γ K g3))))))))
set_option maxHeartbeats 4000000 in
set_option maxRecDepth 100000 in
theorem S_M_read_0 {Γ : GAM} {E : EV} {K : Int32 → GH → Prop} (hE : GE Γ E cX11_read 3 RX11 (some (.boolean)) 2 43 (fun r g' => ∃ x, r = some (.int x) ∧ K x g')) (th : Nat) (p0 : Int32) (p1 : Int32) (g : GH) (h : B_M_read_0 Γ K th p0 p1 g) : JW Γ E 0 [some (.ref th), some (.int p0), some (.int p1)] [] g := by
  unfold B_M_read_0 at h
  refine j_aload_n hE (by decide +kernel : decode cX11_read 0 = .ok (.aload_n 0, 1)) rfl rfl ?_
  refine j_iload_n hE (by decide +kernel : decode cX11_read 1 = .ok (.iload_n 1, 1)) rfl rfl ?_
  obtain ⟨hk, h⟩ := h
  refine j_callV hE rfl cl_X11_244 cf_12 im_X11_isEnvelope se_X11_isEnvelope ⟨by omega, by omega⟩ (As := [.int p0]) (rest := []) rfl rfl (Nat.le_of_ble_eq_true rfl) hk (by decide +kernel : decode cX11_read 2 = .ok (.invokevirtual 244, 3)) (mt_M_isEnvelope _ _ _ _ h) ?_
  rintro _ g1 ⟨x2, rfl, h⟩
  refine j_if_eq hE (by decide +kernel : decode cX11_read 5 = .ok (.ifCond .eq 23, 3)) (tgt := 28) (by decide) (fun q => ?_) (fun q => ?_)
  · replace h := h.1 q
    refine j_weak [none, none, none] trivial ?_
    exact S_M_read_28 hE _ h
  · replace h := h.2 q
    refine j_iload_n hE (by decide +kernel : decode cX11_read 8 = .ok (.iload_n 2, 1)) rfl rfl ?_
    refine j_iconst hE (by decide +kernel : decode cX11_read 9 = .ok (.iconst 0, 1)) (v := (0 : Int32)) (by decide) ?_
    refine j_ldc hE ct_X11_227 (by decide +kernel : decode cX11_read 10 = .ok (.ldc 227, 2)) ?_
    refine j_callS hE rfl cl_X11_213 st_X11_in ⟨by omega, by omega⟩ (As := [.int p1, .int (0 : Int32), .int (99999999 : Int32)]) (rest := []) rfl rfl (Nat.le_of_ble_eq_true rfl) (by decide +kernel : decode cX11_read 12 = .ok (.invokestatic 213, 3)) (mt_M_in _ _ _ _ _ h) ?_
    rintro _ g3 ⟨x4, rfl, h⟩
    refine j_if_eq hE (by decide +kernel : decode cX11_read 15 = .ok (.ifCond .eq 13, 3)) (tgt := 28) (by decide) (fun q => ?_) (fun q => ?_)
    · replace h := h.1 q
      refine j_weak [none, none, none] trivial ?_
      exact S_M_read_28 hE _ h
    · replace h := h.2 q
      refine j_aload_n hE (by decide +kernel : decode cX11_read 18 = .ok (.aload_n 0, 1)) rfl rfl ?_
      obtain ⟨hk, h⟩ := h
      refine j_getI hE fg_X11_282 hk (by decide +kernel : decode cX11_read 19 = .ok (.getfield 282, 3)) ?_
      refine j_sipush hE (by decide +kernel : decode cX11_read 22 = .ok (.sipush 400, 3)) (v := (400 : Int32)) (by decide) ?_
      refine j_icmp_ne hE (by decide +kernel : decode cX11_read 25 = .ok (.if_icmp .ne 5, 3)) (tgt := 30) (by decide) (fun q => ?_) (fun q => ?_)
      · replace h := h.1 q
        refine j_aload_n hE (by decide +kernel : decode cX11_read 30 = .ok (.aload_n 0, 1)) rfl rfl ?_
        obtain ⟨hk, h⟩ := h
        obtain ⟨a5, ha, h⟩ := h
        refine j_getRn hE fg_X11_74 hk ha (by decide +kernel : decode cX11_read 31 = .ok (.getfield 74, 3)) ?_
        refine j_aload_n hE (by decide +kernel : decode cX11_read 34 = .ok (.aload_n 0, 1)) rfl rfl ?_
        obtain ⟨hk, h⟩ := h
        refine j_getI hE fg_X11_282 hk (by decide +kernel : decode cX11_read 35 = .ok (.getfield 282, 3)) ?_
        refine j_iload_n hE (by decide +kernel : decode cX11_read 38 = .ok (.iload_n 1, 1)) rfl rfl ?_
        obtain ⟨hk, hb, h⟩ := h
        obtain ⟨g6, hg⟩ : ∃ z, z = sA g3 (Co g3 a5) (Ow g3 a5) (Gi g3 1542 th).toNatClampNeg p0 := ⟨_, rfl⟩; replace h := h g6 hg
        refine j_iast hE hk hb (by decide +kernel : decode cX11_read 39 = .ok (.iastore, 1)) ?_
        rw [← hg]
        refine j_aload_n hE (by decide +kernel : decode cX11_read 40 = .ok (.aload_n 0, 1)) rfl rfl ?_
        obtain ⟨hk, h⟩ := h
        obtain ⟨a7, ha, h⟩ := h
        refine j_getRn hE fg_X11_77 hk ha (by decide +kernel : decode cX11_read 41 = .ok (.getfield 77, 3)) ?_
        refine j_aload_n hE (by decide +kernel : decode cX11_read 44 = .ok (.aload_n 0, 1)) rfl rfl ?_
        obtain ⟨hk, h⟩ := h
        refine j_getI hE fg_X11_282 hk (by decide +kernel : decode cX11_read 45 = .ok (.getfield 282, 3)) ?_
        refine j_iload_n hE (by decide +kernel : decode cX11_read 48 = .ok (.iload_n 2, 1)) rfl rfl ?_
        obtain ⟨hk, hb, h⟩ := h
        obtain ⟨g8, hg⟩ : ∃ z, z = sA g6 (Co g6 a7) (Ow g6 a7) (Gi g6 1542 th).toNatClampNeg p1 := ⟨_, rfl⟩; replace h := h g8 hg
        refine j_iast hE hk hb (by decide +kernel : decode cX11_read 49 = .ok (.iastore, 1)) ?_
        rw [← hg]
        refine j_aload_n hE (by decide +kernel : decode cX11_read 50 = .ok (.aload_n 0, 1)) rfl rfl ?_
        obtain ⟨hk, h⟩ := h
        obtain ⟨a9, ha, h⟩ := h
        refine j_getRn hE fg_X11_80 hk ha (by decide +kernel : decode cX11_read 51 = .ok (.getfield 80, 3)) ?_
        refine j_aload_n hE (by decide +kernel : decode cX11_read 54 = .ok (.aload_n 0, 1)) rfl rfl ?_
        obtain ⟨hk, h⟩ := h
        refine j_getI hE fg_X11_282 hk (by decide +kernel : decode cX11_read 55 = .ok (.getfield 282, 3)) ?_
        refine j_aload_n hE (by decide +kernel : decode cX11_read 58 = .ok (.aload_n 0, 1)) rfl rfl ?_
        obtain ⟨hk, h⟩ := h
        refine j_getI hE fg_X11_217 hk (by decide +kernel : decode cX11_read 59 = .ok (.getfield 217, 3)) ?_
        obtain ⟨hk, hb, h⟩ := h
        obtain ⟨g10, hg⟩ : ∃ z, z = sA g8 (Co g8 a9) (Ow g8 a9) (Gi g8 1542 th).toNatClampNeg (Gi g8 1536 th) := ⟨_, rfl⟩; replace h := h g10 hg
        refine j_iast hE hk hb (by decide +kernel : decode cX11_read 62 = .ok (.iastore, 1)) ?_
        rw [← hg]
        refine j_aload_n hE (by decide +kernel : decode cX11_read 63 = .ok (.aload_n 0, 1)) rfl rfl ?_
        refine j_dup hE (by decide +kernel : decode cX11_read 64 = .ok (.dup, 1)) rfl ?_
        obtain ⟨hk, h⟩ := h
        refine j_getI hE fg_X11_282 hk (by decide +kernel : decode cX11_read 65 = .ok (.getfield 282, 3)) ?_
        refine j_iconst hE (by decide +kernel : decode cX11_read 68 = .ok (.iconst 1, 1)) (v := (1 : Int32)) (by decide) ?_
        refine j_iadd hE (by decide +kernel : decode cX11_read 69 = .ok (.iadd, 1)) ?_
        obtain ⟨hk, h⟩ := h
        obtain ⟨g11, hg⟩ : ∃ z, z = sI g10 1542 th ((Gi g10 1542 th) + (1 : Int32)) := ⟨_, rfl⟩; replace h := h g11 hg
        refine j_putI hE fa_X11_282 hk (fun q => by cases q) (by decide +kernel : decode cX11_read 70 = .ok (.putfield 282, 3)) ?_
        rw [← hg]
        refine j_iconst hE (by decide +kernel : decode cX11_read 73 = .ok (.iconst 1, 1)) (v := (1 : Int32)) (by decide) ?_
        exact j_zret hE (Or.inr rfl) (by decide +kernel : decode cX11_read 74 = .ok (.ireturn, 1)) ⟨_, rfl, h⟩
      · replace h := h.2 q
        refine j_weak [none, none, none] trivial ?_
        exact S_M_read_28 hE _ h
set_option maxHeartbeats 4000000 in
set_option maxRecDepth 100000 in
theorem rl_M_read {Γ : GAM} {l : Launch} {th : Nat} {p0 : Int32} {p1 : Int32} {g : GH} {K : Int32 → GH → Prop} (h0 : B_M_read_0 Γ K th p0 p1 g) : MetA Γ l yX11_read cX11_read 3 (some (.boolean)) 2 43 [.ref th, .int p0, .int p1] g (fun r g' => ∃ x, r = some (.int x) ∧ K x g') := by
  refine MetA.introL (Lx := [some (.ref th), some (.int p0), some (.int p1)]) (by decide) (Nat.le_of_ble_eq_true rfl) rfl rfl ?_
  intro E hEl hE hnm
  exact S_M_read_0 hE th p0 p1 g h0
theorem mt_M_read {Γ : GAM} {l : Launch} (th : Nat) (p0 : Int32) (p1 : Int32) (g : GH) (K : Int32 → GH → Prop) (h : Sp_M_read Γ th p0 p1 g K) : MetA Γ l yX11_read cX11_read 3 (some (.boolean)) 2 43 [.ref th, .int p0, .int p1] g (fun r g' => ∃ x, r = some (.int x) ∧ K x g') := by
  obtain ⟨ma, s, hI, hK⟩ := h
  refine rl_M_read ?_
  obtain ⟨hkd, hS⟩ := hI.1
  obtain ⟨e1, e2, -⟩ := hI.rea
  have hnow := hI.now
  have hv1 := hI.vot.1
  have hv2 := hI.env.1
  obtain ⟨z_readOf1, z_readOf2, z_readOf3, z_readOf4, z_readOf5⟩ := hS 1571 20 400 rfl
  obtain ⟨z_readSign1, z_readSign2, z_readSign3, z_readSign4, z_readSign5⟩ := hS 1572 20 400 rfl
  obtain ⟨z_readTold1, z_readTold2, z_readTold3, z_readTold4, z_readTold5⟩ := hS 1573 20 400 rfl
  have hno : ¬ ok_read s p0 p1 → K (0) g := fun hn => by
    unfold p_read q_read at hK
    rw [if_neg hn, if_neg hn] at hK
    exact hK g FrL.rf hI
  have hyes : ok_read s p0 p1 → ∀ r g', r = 1 → g' = (sI (sA (sA (sA g 1571 th (s_rea s).length (p0)) 1572 th (s_rea s).length (p1)) 1573 th (s_rea s).length (s_now s)) 1542 th (nI ((s_rea s).length + 1))) → K r g' := fun hn r g' hr hg => by
    subst hr hg
    unfold p_read q_read at hK
    rw [if_pos hn, if_pos hn] at hK
    have hl : (s_rea s).length < 400 := by have := hn.1; omega
    exact hK _ ((((FrL.rf.tr FrL.sA).tr FrL.sA).tr FrL.sA).tr FrL.sI) ⟨hI.1, hI.now, hI.siz, hI.prs, hI.stp, hI.vot, hI.mov, hI.env, hI.evt, hI.emp, (R_rea_push hI.rea hl (by simp [Gi_sI]) (fun k => by simp [Ia_sA, Ia_sI]) (fun k => by simp [Ia_sA, Ia_sI]) (fun k => by simp [Ia_sA, Ia_sI])), hI.tel, hI.boo, hI.wav, hI.hea, hI.tap, hI.law, hI.hof, hI.box, hI.roa, hI.las⟩
  have hcl : (nI (s_rea s).length).toNatClampNeg = (s_rea s).length := nj_cl (by omega)
  have hcap : (nI (s_rea s).length = (400 : Int32)) = ((s_rea s).length = 400) := propext (nj_eq (b := 400) (by omega) (by omega))
  have hib : (s_rea s).length ≠ 400 → inB (nI (s_rea s).length) 400 := fun h => inB_nI (by omega) (by omega)
  simp only [B_M_read_28, B_M_read_0, Sp_M_in, Sp_M_isShire, Sp_M_isVoter, Sp_M_isEnvelope, Sp_M_isKnowing, ifz, hkd, hnow, hv1, hv2, e1, z_readOf1, z_readOf2, z_readOf3, z_readOf4, z_readOf5, z_readSign1, z_readSign2, z_readSign3, z_readSign4, z_readSign5, z_readTold1, z_readTold2, z_readTold3, z_readTold4, z_readTold5, true_and, Kd_sA, Gr_sA, Co_sA, Ow_sA, Ln_sA, Gi_sA, Kd_sI, Gi_sI, Option.some.injEq, exists_eq_left', forall_eq, and_self, if_true, nj_s, hcl, hcap, Int32.add_sub_cancel]
  repeat' with_reducible first | apply And.intro | intro _
  all_goals first | exact hno (by grind) | exact hib (by grind) | exact hyes (by grind) _ _ (by first | rfl | (rw [← nj_s]; exact Int32.add_sub_cancel)) rfl

abbrev ok_booth (s : ST) (p0 : Int32) (p1 : Int32) : Prop := (s_boo s).length ≠ 100 ∧ (0 ≤ p0 ∧ p0 ≤ nI (s_vot s).length - 1) ∧ (0 ≤ p1 ∧ p1 ≤ s_now s)
def p_booth (s : ST) (p0 : Int32) (p1 : Int32) : Int32 := if ok_booth s p0 p1 then 1 else 0
def q_booth (s : ST) (p0 : Int32) (p1 : Int32) : ST := if ok_booth s p0 p1 then u_boo s ((s_boo s) ++ [(p0, p1, s_now s)]) else s
def Sp_M_booth (Γ : GAM) (m : Nat) (p0 : Int32) (p1 : Int32) (g : GH) (K : Int32 → GH → Prop) : Prop := ∃ ma s, RefI m ma g s ∧ ∀ g', FrL m g g' → RefI m ma g' (q_booth s p0 p1) → K (p_booth s p0 p1) g'
-- the walk of M_booth
set_option maxRecDepth 100000 in
def B_M_booth_29 (Γ : GAM) (K : Int32 → GH → Prop)  (g : GH) : Prop :=
  K (0 : Int32) g
set_option maxHeartbeats 4000000 in
set_option maxRecDepth 100000 in
theorem S_M_booth_29 {Γ : GAM} {E : EV} {K : Int32 → GH → Prop} (hE : GE Γ E cX11_booth 3 RX11 (some (.boolean)) 2 43 (fun r g' => ∃ x, r = some (.int x) ∧ K x g'))  (g : GH) (h : B_M_booth_29 Γ K  g) : JW Γ E 29 [none, none, none] [] g := by
  unfold B_M_booth_29 at h
  refine j_iconst hE (by decide +kernel : decode cX11_booth 29 = .ok (.iconst 0, 1)) (v := (0 : Int32)) (by decide) ?_
  exact j_zret hE (Or.inl rfl) (by decide +kernel : decode cX11_booth 30 = .ok (.ireturn, 1)) ⟨_, rfl, h⟩
set_option maxRecDepth 100000 in
def B_M_booth_0 (Γ : GAM) (K : Int32 → GH → Prop) (th : Nat) (p0 : Int32) (p1 : Int32) (g : GH) : Prop :=
  Kd g th = 13 ∧ Sp_M_isVoter Γ th p0 g (fun (x2 : Int32) (g1 : GH) => ((x2 = 0 → B_M_booth_29 Γ K g1) ∧ (¬ (x2 = 0) → Kd g1 th = 13 ∧ Sp_M_in Γ p1 (0 : Int32) (Gi g1 1536 th) g1 (fun (x4 : Int32) (g3 : GH) => ((x4 = 0 → B_M_booth_29 Γ K g3) ∧ (¬ (x4 = 0) → Kd g3 th = 13 ∧ ((¬ ((Gi g3 1544 th) = (100 : Int32)) → Kd g3 th = 13 ∧ ∃ a5 : Nat, Gr g3 1578 th = some a5 ∧ Kd g3 th = 13 ∧ Kd g3 a5 = 20 ∧ inB (Gi g3 1544 th) (Ln g3 a5) ∧ ∀ g6 : GH, g6 = sA g3 (Co g3 a5) (Ow g3 a5) (Gi g3 1544 th).toNatClampNeg p0 → Kd g6 th = 13 ∧ ∃ a7 : Nat, Gr g6 1579 th = some a7 ∧ Kd g6 th = 13 ∧ Kd g6 a7 = 20 ∧ inB (Gi g6 1544 th) (Ln g6 a7) ∧ ∀ g8 : GH, g8 = sA g6 (Co g6 a7) (Ow g6 a7) (Gi g6 1544 th).toNatClampNeg p1 → Kd g8 th = 13 ∧ ∃ a9 : Nat, Gr g8 1580 th = some a9 ∧ Kd g8 th = 13 ∧ Kd g8 th = 13 ∧ Kd g8 a9 = 20 ∧ inB (Gi g8 1544 th) (Ln g8 a9) ∧ ∀ g10 : GH, g10 = sA g8 (Co g8 a9) (Ow g8 a9) (Gi g8 1544 th).toNatClampNeg (Gi g8 1536 th) → Kd g10 th = 13 ∧ Kd g10 th = 13 ∧ ∀ g11 : GH, g11 = sI g10 1544 th ((Gi g10 1544 th) + (1 : Int32)) → K (1 : Int32) g11) ∧ ((Gi g3 1544 th) = (100 : Int32) → B_M_booth_29 Γ K g3))))))))
set_option maxHeartbeats 4000000 in
set_option maxRecDepth 100000 in
theorem S_M_booth_0 {Γ : GAM} {E : EV} {K : Int32 → GH → Prop} (hE : GE Γ E cX11_booth 3 RX11 (some (.boolean)) 2 43 (fun r g' => ∃ x, r = some (.int x) ∧ K x g')) (th : Nat) (p0 : Int32) (p1 : Int32) (g : GH) (h : B_M_booth_0 Γ K th p0 p1 g) : JW Γ E 0 [some (.ref th), some (.int p0), some (.int p1)] [] g := by
  unfold B_M_booth_0 at h
  refine j_aload_n hE (by decide +kernel : decode cX11_booth 0 = .ok (.aload_n 0, 1)) rfl rfl ?_
  refine j_iload_n hE (by decide +kernel : decode cX11_booth 1 = .ok (.iload_n 1, 1)) rfl rfl ?_
  obtain ⟨hk, h⟩ := h
  refine j_callV hE rfl cl_X11_228 cf_12 im_X11_isVoter se_X11_isVoter ⟨by omega, by omega⟩ (As := [.int p0]) (rest := []) rfl rfl (Nat.le_of_ble_eq_true rfl) hk (by decide +kernel : decode cX11_booth 2 = .ok (.invokevirtual 228, 3)) (mt_M_isVoter _ _ _ _ h) ?_
  rintro _ g1 ⟨x2, rfl, h⟩
  refine j_if_eq hE (by decide +kernel : decode cX11_booth 5 = .ok (.ifCond .eq 24, 3)) (tgt := 29) (by decide) (fun q => ?_) (fun q => ?_)
  · replace h := h.1 q
    refine j_weak [none, none, none] trivial ?_
    exact S_M_booth_29 hE _ h
  · replace h := h.2 q
    refine j_iload_n hE (by decide +kernel : decode cX11_booth 8 = .ok (.iload_n 2, 1)) rfl rfl ?_
    refine j_iconst hE (by decide +kernel : decode cX11_booth 9 = .ok (.iconst 0, 1)) (v := (0 : Int32)) (by decide) ?_
    refine j_aload_n hE (by decide +kernel : decode cX11_booth 10 = .ok (.aload_n 0, 1)) rfl rfl ?_
    obtain ⟨hk, h⟩ := h
    refine j_getI hE fg_X11_217 hk (by decide +kernel : decode cX11_booth 11 = .ok (.getfield 217, 3)) ?_
    refine j_callS hE rfl cl_X11_213 st_X11_in ⟨by omega, by omega⟩ (As := [.int p1, .int (0 : Int32), .int (Gi g1 1536 th)]) (rest := []) rfl rfl (Nat.le_of_ble_eq_true rfl) (by decide +kernel : decode cX11_booth 14 = .ok (.invokestatic 213, 3)) (mt_M_in _ _ _ _ _ h) ?_
    rintro _ g3 ⟨x4, rfl, h⟩
    refine j_if_eq hE (by decide +kernel : decode cX11_booth 17 = .ok (.ifCond .eq 12, 3)) (tgt := 29) (by decide) (fun q => ?_) (fun q => ?_)
    · replace h := h.1 q
      refine j_weak [none, none, none] trivial ?_
      exact S_M_booth_29 hE _ h
    · replace h := h.2 q
      refine j_aload_n hE (by decide +kernel : decode cX11_booth 20 = .ok (.aload_n 0, 1)) rfl rfl ?_
      obtain ⟨hk, h⟩ := h
      refine j_getI hE fg_X11_288 hk (by decide +kernel : decode cX11_booth 21 = .ok (.getfield 288, 3)) ?_
      refine j_bipush hE (by decide +kernel : decode cX11_booth 24 = .ok (.bipush 100, 2)) (v := (100 : Int32)) (by decide) ?_
      refine j_icmp_ne hE (by decide +kernel : decode cX11_booth 26 = .ok (.if_icmp .ne 5, 3)) (tgt := 31) (by decide) (fun q => ?_) (fun q => ?_)
      · replace h := h.1 q
        refine j_aload_n hE (by decide +kernel : decode cX11_booth 31 = .ok (.aload_n 0, 1)) rfl rfl ?_
        obtain ⟨hk, h⟩ := h
        obtain ⟨a5, ha, h⟩ := h
        refine j_getRn hE fg_X11_96 hk ha (by decide +kernel : decode cX11_booth 32 = .ok (.getfield 96, 3)) ?_
        refine j_aload_n hE (by decide +kernel : decode cX11_booth 35 = .ok (.aload_n 0, 1)) rfl rfl ?_
        obtain ⟨hk, h⟩ := h
        refine j_getI hE fg_X11_288 hk (by decide +kernel : decode cX11_booth 36 = .ok (.getfield 288, 3)) ?_
        refine j_iload_n hE (by decide +kernel : decode cX11_booth 39 = .ok (.iload_n 1, 1)) rfl rfl ?_
        obtain ⟨hk, hb, h⟩ := h
        obtain ⟨g6, hg⟩ : ∃ z, z = sA g3 (Co g3 a5) (Ow g3 a5) (Gi g3 1544 th).toNatClampNeg p0 := ⟨_, rfl⟩; replace h := h g6 hg
        refine j_iast hE hk hb (by decide +kernel : decode cX11_booth 40 = .ok (.iastore, 1)) ?_
        rw [← hg]
        refine j_aload_n hE (by decide +kernel : decode cX11_booth 41 = .ok (.aload_n 0, 1)) rfl rfl ?_
        obtain ⟨hk, h⟩ := h
        obtain ⟨a7, ha, h⟩ := h
        refine j_getRn hE fg_X11_99 hk ha (by decide +kernel : decode cX11_booth 42 = .ok (.getfield 99, 3)) ?_
        refine j_aload_n hE (by decide +kernel : decode cX11_booth 45 = .ok (.aload_n 0, 1)) rfl rfl ?_
        obtain ⟨hk, h⟩ := h
        refine j_getI hE fg_X11_288 hk (by decide +kernel : decode cX11_booth 46 = .ok (.getfield 288, 3)) ?_
        refine j_iload_n hE (by decide +kernel : decode cX11_booth 49 = .ok (.iload_n 2, 1)) rfl rfl ?_
        obtain ⟨hk, hb, h⟩ := h
        obtain ⟨g8, hg⟩ : ∃ z, z = sA g6 (Co g6 a7) (Ow g6 a7) (Gi g6 1544 th).toNatClampNeg p1 := ⟨_, rfl⟩; replace h := h g8 hg
        refine j_iast hE hk hb (by decide +kernel : decode cX11_booth 50 = .ok (.iastore, 1)) ?_
        rw [← hg]
        refine j_aload_n hE (by decide +kernel : decode cX11_booth 51 = .ok (.aload_n 0, 1)) rfl rfl ?_
        obtain ⟨hk, h⟩ := h
        obtain ⟨a9, ha, h⟩ := h
        refine j_getRn hE fg_X11_102 hk ha (by decide +kernel : decode cX11_booth 52 = .ok (.getfield 102, 3)) ?_
        refine j_aload_n hE (by decide +kernel : decode cX11_booth 55 = .ok (.aload_n 0, 1)) rfl rfl ?_
        obtain ⟨hk, h⟩ := h
        refine j_getI hE fg_X11_288 hk (by decide +kernel : decode cX11_booth 56 = .ok (.getfield 288, 3)) ?_
        refine j_aload_n hE (by decide +kernel : decode cX11_booth 59 = .ok (.aload_n 0, 1)) rfl rfl ?_
        obtain ⟨hk, h⟩ := h
        refine j_getI hE fg_X11_217 hk (by decide +kernel : decode cX11_booth 60 = .ok (.getfield 217, 3)) ?_
        obtain ⟨hk, hb, h⟩ := h
        obtain ⟨g10, hg⟩ : ∃ z, z = sA g8 (Co g8 a9) (Ow g8 a9) (Gi g8 1544 th).toNatClampNeg (Gi g8 1536 th) := ⟨_, rfl⟩; replace h := h g10 hg
        refine j_iast hE hk hb (by decide +kernel : decode cX11_booth 63 = .ok (.iastore, 1)) ?_
        rw [← hg]
        refine j_aload_n hE (by decide +kernel : decode cX11_booth 64 = .ok (.aload_n 0, 1)) rfl rfl ?_
        refine j_dup hE (by decide +kernel : decode cX11_booth 65 = .ok (.dup, 1)) rfl ?_
        obtain ⟨hk, h⟩ := h
        refine j_getI hE fg_X11_288 hk (by decide +kernel : decode cX11_booth 66 = .ok (.getfield 288, 3)) ?_
        refine j_iconst hE (by decide +kernel : decode cX11_booth 69 = .ok (.iconst 1, 1)) (v := (1 : Int32)) (by decide) ?_
        refine j_iadd hE (by decide +kernel : decode cX11_booth 70 = .ok (.iadd, 1)) ?_
        obtain ⟨hk, h⟩ := h
        obtain ⟨g11, hg⟩ : ∃ z, z = sI g10 1544 th ((Gi g10 1544 th) + (1 : Int32)) := ⟨_, rfl⟩; replace h := h g11 hg
        refine j_putI hE fa_X11_288 hk (fun q => by cases q) (by decide +kernel : decode cX11_booth 71 = .ok (.putfield 288, 3)) ?_
        rw [← hg]
        refine j_iconst hE (by decide +kernel : decode cX11_booth 74 = .ok (.iconst 1, 1)) (v := (1 : Int32)) (by decide) ?_
        exact j_zret hE (Or.inr rfl) (by decide +kernel : decode cX11_booth 75 = .ok (.ireturn, 1)) ⟨_, rfl, h⟩
      · replace h := h.2 q
        refine j_weak [none, none, none] trivial ?_
        exact S_M_booth_29 hE _ h
set_option maxHeartbeats 4000000 in
set_option maxRecDepth 100000 in
theorem rl_M_booth {Γ : GAM} {l : Launch} {th : Nat} {p0 : Int32} {p1 : Int32} {g : GH} {K : Int32 → GH → Prop} (h0 : B_M_booth_0 Γ K th p0 p1 g) : MetA Γ l yX11_booth cX11_booth 3 (some (.boolean)) 2 43 [.ref th, .int p0, .int p1] g (fun r g' => ∃ x, r = some (.int x) ∧ K x g') := by
  refine MetA.introL (Lx := [some (.ref th), some (.int p0), some (.int p1)]) (by decide) (Nat.le_of_ble_eq_true rfl) rfl rfl ?_
  intro E hEl hE hnm
  exact S_M_booth_0 hE th p0 p1 g h0
theorem mt_M_booth {Γ : GAM} {l : Launch} (th : Nat) (p0 : Int32) (p1 : Int32) (g : GH) (K : Int32 → GH → Prop) (h : Sp_M_booth Γ th p0 p1 g K) : MetA Γ l yX11_booth cX11_booth 3 (some (.boolean)) 2 43 [.ref th, .int p0, .int p1] g (fun r g' => ∃ x, r = some (.int x) ∧ K x g') := by
  obtain ⟨ma, s, hI, hK⟩ := h
  refine rl_M_booth ?_
  obtain ⟨hkd, hS⟩ := hI.1
  obtain ⟨e1, e2, -⟩ := hI.boo
  have hnow := hI.now
  have hv1 := hI.vot.1
  have hv2 := hI.env.1
  obtain ⟨z_boothOf1, z_boothOf2, z_boothOf3, z_boothOf4, z_boothOf5⟩ := hS 1578 20 100 rfl
  obtain ⟨z_boothDay1, z_boothDay2, z_boothDay3, z_boothDay4, z_boothDay5⟩ := hS 1579 20 100 rfl
  obtain ⟨z_boothTold1, z_boothTold2, z_boothTold3, z_boothTold4, z_boothTold5⟩ := hS 1580 20 100 rfl
  have hno : ¬ ok_booth s p0 p1 → K (0) g := fun hn => by
    unfold p_booth q_booth at hK
    rw [if_neg hn, if_neg hn] at hK
    exact hK g FrL.rf hI
  have hyes : ok_booth s p0 p1 → ∀ r g', r = 1 → g' = (sI (sA (sA (sA g 1578 th (s_boo s).length (p0)) 1579 th (s_boo s).length (p1)) 1580 th (s_boo s).length (s_now s)) 1544 th (nI ((s_boo s).length + 1))) → K r g' := fun hn r g' hr hg => by
    subst hr hg
    unfold p_booth q_booth at hK
    rw [if_pos hn, if_pos hn] at hK
    have hl : (s_boo s).length < 100 := by have := hn.1; omega
    exact hK _ ((((FrL.rf.tr FrL.sA).tr FrL.sA).tr FrL.sA).tr FrL.sI) ⟨hI.1, hI.now, hI.siz, hI.prs, hI.stp, hI.vot, hI.mov, hI.env, hI.evt, hI.emp, hI.rea, hI.tel, (R_boo_push hI.boo hl (by simp [Gi_sI]) (fun k => by simp [Ia_sA, Ia_sI]) (fun k => by simp [Ia_sA, Ia_sI]) (fun k => by simp [Ia_sA, Ia_sI])), hI.wav, hI.hea, hI.tap, hI.law, hI.hof, hI.box, hI.roa, hI.las⟩
  have hcl : (nI (s_boo s).length).toNatClampNeg = (s_boo s).length := nj_cl (by omega)
  have hcap : (nI (s_boo s).length = (100 : Int32)) = ((s_boo s).length = 100) := propext (nj_eq (b := 100) (by omega) (by omega))
  have hib : (s_boo s).length ≠ 100 → inB (nI (s_boo s).length) 100 := fun h => inB_nI (by omega) (by omega)
  simp only [B_M_booth_29, B_M_booth_0, Sp_M_in, Sp_M_isShire, Sp_M_isVoter, Sp_M_isEnvelope, Sp_M_isKnowing, ifz, hkd, hnow, hv1, hv2, e1, z_boothOf1, z_boothOf2, z_boothOf3, z_boothOf4, z_boothOf5, z_boothDay1, z_boothDay2, z_boothDay3, z_boothDay4, z_boothDay5, z_boothTold1, z_boothTold2, z_boothTold3, z_boothTold4, z_boothTold5, true_and, Kd_sA, Gr_sA, Co_sA, Ow_sA, Ln_sA, Gi_sA, Kd_sI, Gi_sI, Option.some.injEq, exists_eq_left', forall_eq, and_self, if_true, nj_s, hcl, hcap, Int32.add_sub_cancel]
  repeat' with_reducible first | apply And.intro | intro _
  all_goals first | exact hno (by grind) | exact hib (by grind) | exact hyes (by grind) _ _ (by first | rfl | (rw [← nj_s]; exact Int32.add_sub_cancel)) rfl

abbrev ok_wave (s : ST) (p0 : Int32) (p1 : Int32) (p2 : Int32) : Prop := (s_wav s).length ≠ 12 ∧ (1 ≤ p0 ∧ p0 ≤ 5000) ∧ (0 ≤ p1 ∧ p1 ≤ 400) ∧ (p1 ≤ p2 ∧ p2 ≤ 400)
def p_wave (s : ST) (p0 : Int32) (p1 : Int32) (p2 : Int32) : Int32 := if ok_wave s p0 p1 p2 then nI (s_wav s).length else -1
def q_wave (s : ST) (p0 : Int32) (p1 : Int32) (p2 : Int32) : ST := if ok_wave s p0 p1 p2 then u_wav s ((s_wav s) ++ [(p0, p1, p2)]) else s
def Sp_M_wave (Γ : GAM) (m : Nat) (p0 : Int32) (p1 : Int32) (p2 : Int32) (g : GH) (K : Int32 → GH → Prop) : Prop := ∃ ma s, RefI m ma g s ∧ ∀ g', FrL m g g' → RefI m ma g' (q_wave s p0 p1 p2) → K (p_wave s p0 p1 p2) g'
-- the walk of M_wave
set_option maxRecDepth 100000 in
def B_M_wave_42 (Γ : GAM) (K : Int32 → GH → Prop)  (g : GH) : Prop :=
  K (-1 : Int32) g
set_option maxHeartbeats 4000000 in
set_option maxRecDepth 100000 in
theorem S_M_wave_42 {Γ : GAM} {E : EV} {K : Int32 → GH → Prop} (hE : GE Γ E cX11_wave 4 RX11 (some (.int)) 1 22 (fun r g' => ∃ x, r = some (.int x) ∧ K x g'))  (g : GH) (h : B_M_wave_42 Γ K  g) : JW Γ E 42 [none, none, none, none] [] g := by
  unfold B_M_wave_42 at h
  refine j_iconst hE (by decide +kernel : decode cX11_wave 42 = .ok (.iconst (-1), 1)) (v := (-1 : Int32)) (by decide) ?_
  exact j_iret hE (by decide +kernel : decode cX11_wave 43 = .ok (.ireturn, 1)) ⟨_, rfl, h⟩
set_option maxRecDepth 100000 in
def B_M_wave_0 (Γ : GAM) (K : Int32 → GH → Prop) (th : Nat) (p0 : Int32) (p1 : Int32) (p2 : Int32) (g : GH) : Prop :=
  Kd g th = 13 ∧ (((Gi g 1546 th) = (12 : Int32) → B_M_wave_42 Γ K g) ∧ (¬ ((Gi g 1546 th) = (12 : Int32)) → Sp_M_in Γ p0 (1 : Int32) (5000 : Int32) g (fun (x2 : Int32) (g1 : GH) => ((x2 = 0 → B_M_wave_42 Γ K g1) ∧ (¬ (x2 = 0) → Sp_M_in Γ p1 (0 : Int32) (400 : Int32) g1 (fun (x4 : Int32) (g3 : GH) => ((x4 = 0 → B_M_wave_42 Γ K g3) ∧ (¬ (x4 = 0) → Sp_M_in Γ p2 p1 (400 : Int32) g3 (fun (x6 : Int32) (g5 : GH) => ((¬ (x6 = 0) → Kd g5 th = 13 ∧ ∃ a7 : Nat, Gr g5 1610 th = some a7 ∧ Kd g5 th = 13 ∧ Kd g5 a7 = 20 ∧ inB (Gi g5 1546 th) (Ln g5 a7) ∧ ∀ g8 : GH, g8 = sA g5 (Co g5 a7) (Ow g5 a7) (Gi g5 1546 th).toNatClampNeg p0 → Kd g8 th = 13 ∧ ∃ a9 : Nat, Gr g8 1611 th = some a9 ∧ Kd g8 th = 13 ∧ Kd g8 a9 = 20 ∧ inB (Gi g8 1546 th) (Ln g8 a9) ∧ ∀ g10 : GH, g10 = sA g8 (Co g8 a9) (Ow g8 a9) (Gi g8 1546 th).toNatClampNeg p1 → Kd g10 th = 13 ∧ ∃ a11 : Nat, Gr g10 1612 th = some a11 ∧ Kd g10 th = 13 ∧ Kd g10 a11 = 20 ∧ inB (Gi g10 1546 th) (Ln g10 a11) ∧ ∀ g12 : GH, g12 = sA g10 (Co g10 a11) (Ow g10 a11) (Gi g10 1546 th).toNatClampNeg p2 → Kd g12 th = 13 ∧ Kd g12 th = 13 ∧ ∀ g13 : GH, g13 = sI g12 1546 th ((Gi g12 1546 th) + (1 : Int32)) → Kd g13 th = 13 ∧ K ((Gi g13 1546 th) - (1 : Int32)) g13) ∧ (x6 = 0 → B_M_wave_42 Γ K g5)))))))))))
set_option maxHeartbeats 4000000 in
set_option maxRecDepth 100000 in
theorem S_M_wave_0 {Γ : GAM} {E : EV} {K : Int32 → GH → Prop} (hE : GE Γ E cX11_wave 4 RX11 (some (.int)) 1 22 (fun r g' => ∃ x, r = some (.int x) ∧ K x g')) (th : Nat) (p0 : Int32) (p1 : Int32) (p2 : Int32) (g : GH) (h : B_M_wave_0 Γ K th p0 p1 p2 g) : JW Γ E 0 [some (.ref th), some (.int p0), some (.int p1), some (.int p2)] [] g := by
  unfold B_M_wave_0 at h
  refine j_aload_n hE (by decide +kernel : decode cX11_wave 0 = .ok (.aload_n 0, 1)) rfl rfl ?_
  obtain ⟨hk, h⟩ := h
  refine j_getI hE fg_X11_459 hk (by decide +kernel : decode cX11_wave 1 = .ok (.getfield 459, 3)) ?_
  refine j_bipush hE (by decide +kernel : decode cX11_wave 4 = .ok (.bipush 12, 2)) (v := (12 : Int32)) (by decide) ?_
  refine j_icmp_eq hE (by decide +kernel : decode cX11_wave 6 = .ok (.if_icmp .eq 36, 3)) (tgt := 42) (by decide) (fun q => ?_) (fun q => ?_)
  · replace h := h.1 q
    refine j_weak [none, none, none, none] trivial ?_
    exact S_M_wave_42 hE _ h
  · replace h := h.2 q
    refine j_iload_n hE (by decide +kernel : decode cX11_wave 9 = .ok (.iload_n 1, 1)) rfl rfl ?_
    refine j_iconst hE (by decide +kernel : decode cX11_wave 10 = .ok (.iconst 1, 1)) (v := (1 : Int32)) (by decide) ?_
    refine j_sipush hE (by decide +kernel : decode cX11_wave 11 = .ok (.sipush 5000, 3)) (v := (5000 : Int32)) (by decide) ?_
    refine j_callS hE rfl cl_X11_213 st_X11_in ⟨by omega, by omega⟩ (As := [.int p0, .int (1 : Int32), .int (5000 : Int32)]) (rest := []) rfl rfl (Nat.le_of_ble_eq_true rfl) (by decide +kernel : decode cX11_wave 14 = .ok (.invokestatic 213, 3)) (mt_M_in _ _ _ _ _ h) ?_
    rintro _ g1 ⟨x2, rfl, h⟩
    refine j_if_eq hE (by decide +kernel : decode cX11_wave 17 = .ok (.ifCond .eq 25, 3)) (tgt := 42) (by decide) (fun q => ?_) (fun q => ?_)
    · replace h := h.1 q
      refine j_weak [none, none, none, none] trivial ?_
      exact S_M_wave_42 hE _ h
    · replace h := h.2 q
      refine j_iload_n hE (by decide +kernel : decode cX11_wave 20 = .ok (.iload_n 2, 1)) rfl rfl ?_
      refine j_iconst hE (by decide +kernel : decode cX11_wave 21 = .ok (.iconst 0, 1)) (v := (0 : Int32)) (by decide) ?_
      refine j_sipush hE (by decide +kernel : decode cX11_wave 22 = .ok (.sipush 400, 3)) (v := (400 : Int32)) (by decide) ?_
      refine j_callS hE rfl cl_X11_213 st_X11_in ⟨by omega, by omega⟩ (As := [.int p1, .int (0 : Int32), .int (400 : Int32)]) (rest := []) rfl rfl (Nat.le_of_ble_eq_true rfl) (by decide +kernel : decode cX11_wave 25 = .ok (.invokestatic 213, 3)) (mt_M_in _ _ _ _ _ h) ?_
      rintro _ g3 ⟨x4, rfl, h⟩
      refine j_if_eq hE (by decide +kernel : decode cX11_wave 28 = .ok (.ifCond .eq 14, 3)) (tgt := 42) (by decide) (fun q => ?_) (fun q => ?_)
      · replace h := h.1 q
        refine j_weak [none, none, none, none] trivial ?_
        exact S_M_wave_42 hE _ h
      · replace h := h.2 q
        refine j_iload_n hE (by decide +kernel : decode cX11_wave 31 = .ok (.iload_n 3, 1)) rfl rfl ?_
        refine j_iload_n hE (by decide +kernel : decode cX11_wave 32 = .ok (.iload_n 2, 1)) rfl rfl ?_
        refine j_sipush hE (by decide +kernel : decode cX11_wave 33 = .ok (.sipush 400, 3)) (v := (400 : Int32)) (by decide) ?_
        refine j_callS hE rfl cl_X11_213 st_X11_in ⟨by omega, by omega⟩ (As := [.int p2, .int p1, .int (400 : Int32)]) (rest := []) rfl rfl (Nat.le_of_ble_eq_true rfl) (by decide +kernel : decode cX11_wave 36 = .ok (.invokestatic 213, 3)) (mt_M_in _ _ _ _ _ h) ?_
        rintro _ g5 ⟨x6, rfl, h⟩
        refine j_if_ne hE (by decide +kernel : decode cX11_wave 39 = .ok (.ifCond .ne 5, 3)) (tgt := 44) (by decide) (fun q => ?_) (fun q => ?_)
        · replace h := h.1 q
          refine j_aload_n hE (by decide +kernel : decode cX11_wave 44 = .ok (.aload_n 0, 1)) rfl rfl ?_
          obtain ⟨hk, h⟩ := h
          obtain ⟨a7, ha, h⟩ := h
          refine j_getRn hE fg_X11_156 hk ha (by decide +kernel : decode cX11_wave 45 = .ok (.getfield 156, 3)) ?_
          refine j_aload_n hE (by decide +kernel : decode cX11_wave 48 = .ok (.aload_n 0, 1)) rfl rfl ?_
          obtain ⟨hk, h⟩ := h
          refine j_getI hE fg_X11_459 hk (by decide +kernel : decode cX11_wave 49 = .ok (.getfield 459, 3)) ?_
          refine j_iload_n hE (by decide +kernel : decode cX11_wave 52 = .ok (.iload_n 1, 1)) rfl rfl ?_
          obtain ⟨hk, hb, h⟩ := h
          obtain ⟨g8, hg⟩ : ∃ z, z = sA g5 (Co g5 a7) (Ow g5 a7) (Gi g5 1546 th).toNatClampNeg p0 := ⟨_, rfl⟩; replace h := h g8 hg
          refine j_iast hE hk hb (by decide +kernel : decode cX11_wave 53 = .ok (.iastore, 1)) ?_
          rw [← hg]
          refine j_aload_n hE (by decide +kernel : decode cX11_wave 54 = .ok (.aload_n 0, 1)) rfl rfl ?_
          obtain ⟨hk, h⟩ := h
          obtain ⟨a9, ha, h⟩ := h
          refine j_getRn hE fg_X11_159 hk ha (by decide +kernel : decode cX11_wave 55 = .ok (.getfield 159, 3)) ?_
          refine j_aload_n hE (by decide +kernel : decode cX11_wave 58 = .ok (.aload_n 0, 1)) rfl rfl ?_
          obtain ⟨hk, h⟩ := h
          refine j_getI hE fg_X11_459 hk (by decide +kernel : decode cX11_wave 59 = .ok (.getfield 459, 3)) ?_
          refine j_iload_n hE (by decide +kernel : decode cX11_wave 62 = .ok (.iload_n 2, 1)) rfl rfl ?_
          obtain ⟨hk, hb, h⟩ := h
          obtain ⟨g10, hg⟩ : ∃ z, z = sA g8 (Co g8 a9) (Ow g8 a9) (Gi g8 1546 th).toNatClampNeg p1 := ⟨_, rfl⟩; replace h := h g10 hg
          refine j_iast hE hk hb (by decide +kernel : decode cX11_wave 63 = .ok (.iastore, 1)) ?_
          rw [← hg]
          refine j_aload_n hE (by decide +kernel : decode cX11_wave 64 = .ok (.aload_n 0, 1)) rfl rfl ?_
          obtain ⟨hk, h⟩ := h
          obtain ⟨a11, ha, h⟩ := h
          refine j_getRn hE fg_X11_162 hk ha (by decide +kernel : decode cX11_wave 65 = .ok (.getfield 162, 3)) ?_
          refine j_aload_n hE (by decide +kernel : decode cX11_wave 68 = .ok (.aload_n 0, 1)) rfl rfl ?_
          obtain ⟨hk, h⟩ := h
          refine j_getI hE fg_X11_459 hk (by decide +kernel : decode cX11_wave 69 = .ok (.getfield 459, 3)) ?_
          refine j_iload_n hE (by decide +kernel : decode cX11_wave 72 = .ok (.iload_n 3, 1)) rfl rfl ?_
          obtain ⟨hk, hb, h⟩ := h
          obtain ⟨g12, hg⟩ : ∃ z, z = sA g10 (Co g10 a11) (Ow g10 a11) (Gi g10 1546 th).toNatClampNeg p2 := ⟨_, rfl⟩; replace h := h g12 hg
          refine j_iast hE hk hb (by decide +kernel : decode cX11_wave 73 = .ok (.iastore, 1)) ?_
          rw [← hg]
          refine j_aload_n hE (by decide +kernel : decode cX11_wave 74 = .ok (.aload_n 0, 1)) rfl rfl ?_
          refine j_dup hE (by decide +kernel : decode cX11_wave 75 = .ok (.dup, 1)) rfl ?_
          obtain ⟨hk, h⟩ := h
          refine j_getI hE fg_X11_459 hk (by decide +kernel : decode cX11_wave 76 = .ok (.getfield 459, 3)) ?_
          refine j_iconst hE (by decide +kernel : decode cX11_wave 79 = .ok (.iconst 1, 1)) (v := (1 : Int32)) (by decide) ?_
          refine j_iadd hE (by decide +kernel : decode cX11_wave 80 = .ok (.iadd, 1)) ?_
          obtain ⟨hk, h⟩ := h
          obtain ⟨g13, hg⟩ : ∃ z, z = sI g12 1546 th ((Gi g12 1546 th) + (1 : Int32)) := ⟨_, rfl⟩; replace h := h g13 hg
          refine j_putI hE fa_X11_459 hk (fun q => by cases q) (by decide +kernel : decode cX11_wave 81 = .ok (.putfield 459, 3)) ?_
          rw [← hg]
          refine j_aload_n hE (by decide +kernel : decode cX11_wave 84 = .ok (.aload_n 0, 1)) rfl rfl ?_
          obtain ⟨hk, h⟩ := h
          refine j_getI hE fg_X11_459 hk (by decide +kernel : decode cX11_wave 85 = .ok (.getfield 459, 3)) ?_
          refine j_iconst hE (by decide +kernel : decode cX11_wave 88 = .ok (.iconst 1, 1)) (v := (1 : Int32)) (by decide) ?_
          refine j_isub hE (by decide +kernel : decode cX11_wave 89 = .ok (.isub, 1)) ?_
          exact j_iret hE (by decide +kernel : decode cX11_wave 90 = .ok (.ireturn, 1)) ⟨_, rfl, h⟩
        · replace h := h.2 q
          refine j_weak [none, none, none, none] trivial ?_
          exact S_M_wave_42 hE _ h
set_option maxHeartbeats 4000000 in
set_option maxRecDepth 100000 in
theorem rl_M_wave {Γ : GAM} {l : Launch} {th : Nat} {p0 : Int32} {p1 : Int32} {p2 : Int32} {g : GH} {K : Int32 → GH → Prop} (h0 : B_M_wave_0 Γ K th p0 p1 p2 g) : MetA Γ l yX11_wave cX11_wave 4 (some (.int)) 1 22 [.ref th, .int p0, .int p1, .int p2] g (fun r g' => ∃ x, r = some (.int x) ∧ K x g') := by
  refine MetA.introL (Lx := [some (.ref th), some (.int p0), some (.int p1), some (.int p2)]) (by decide) (Nat.le_of_ble_eq_true rfl) rfl rfl ?_
  intro E hEl hE hnm
  exact S_M_wave_0 hE th p0 p1 p2 g h0
theorem mt_M_wave {Γ : GAM} {l : Launch} (th : Nat) (p0 : Int32) (p1 : Int32) (p2 : Int32) (g : GH) (K : Int32 → GH → Prop) (h : Sp_M_wave Γ th p0 p1 p2 g K) : MetA Γ l yX11_wave cX11_wave 4 (some (.int)) 1 22 [.ref th, .int p0, .int p1, .int p2] g (fun r g' => ∃ x, r = some (.int x) ∧ K x g') := by
  obtain ⟨ma, s, hI, hK⟩ := h
  refine rl_M_wave ?_
  obtain ⟨hkd, hS⟩ := hI.1
  obtain ⟨e1, e2, -⟩ := hI.wav
  have hnow := hI.now
  have hv1 := hI.vot.1
  have hv2 := hI.env.1
  obtain ⟨z_waveMany1, z_waveMany2, z_waveMany3, z_waveMany4, z_waveMany5⟩ := hS 1610 20 12 rfl
  obtain ⟨z_waveReady1, z_waveReady2, z_waveReady3, z_waveReady4, z_waveReady5⟩ := hS 1611 20 12 rfl
  obtain ⟨z_waveDue1, z_waveDue2, z_waveDue3, z_waveDue4, z_waveDue5⟩ := hS 1612 20 12 rfl
  have hno : ¬ ok_wave s p0 p1 p2 → K (-1) g := fun hn => by
    unfold p_wave q_wave at hK
    rw [if_neg hn, if_neg hn] at hK
    exact hK g FrL.rf hI
  have hyes : ok_wave s p0 p1 p2 → ∀ r g', r = nI (s_wav s).length → g' = (sI (sA (sA (sA g 1610 th (s_wav s).length (p0)) 1611 th (s_wav s).length (p1)) 1612 th (s_wav s).length (p2)) 1546 th (nI ((s_wav s).length + 1))) → K r g' := fun hn r g' hr hg => by
    subst hr hg
    unfold p_wave q_wave at hK
    rw [if_pos hn, if_pos hn] at hK
    have hl : (s_wav s).length < 12 := by have := hn.1; omega
    exact hK _ ((((FrL.rf.tr FrL.sA).tr FrL.sA).tr FrL.sA).tr FrL.sI) ⟨hI.1, hI.now, hI.siz, hI.prs, hI.stp, hI.vot, hI.mov, hI.env, hI.evt, hI.emp, hI.rea, hI.tel, hI.boo, (R_wav_push hI.wav hl (by simp [Gi_sI]) (fun k => by simp [Ia_sA, Ia_sI]) (fun k => by simp [Ia_sA, Ia_sI]) (fun k => by simp [Ia_sA, Ia_sI])), hI.hea, hI.tap, hI.law, hI.hof, hI.box, hI.roa, hI.las⟩
  have hcl : (nI (s_wav s).length).toNatClampNeg = (s_wav s).length := nj_cl (by omega)
  have hcap : (nI (s_wav s).length = (12 : Int32)) = ((s_wav s).length = 12) := propext (nj_eq (b := 12) (by omega) (by omega))
  have hib : (s_wav s).length ≠ 12 → inB (nI (s_wav s).length) 12 := fun h => inB_nI (by omega) (by omega)
  simp only [B_M_wave_42, B_M_wave_0, Sp_M_in, Sp_M_isShire, Sp_M_isVoter, Sp_M_isEnvelope, Sp_M_isKnowing, ifz, hkd, hnow, hv1, hv2, e1, z_waveMany1, z_waveMany2, z_waveMany3, z_waveMany4, z_waveMany5, z_waveReady1, z_waveReady2, z_waveReady3, z_waveReady4, z_waveReady5, z_waveDue1, z_waveDue2, z_waveDue3, z_waveDue4, z_waveDue5, true_and, Kd_sA, Gr_sA, Co_sA, Ow_sA, Ln_sA, Gi_sA, Kd_sI, Gi_sI, Option.some.injEq, exists_eq_left', forall_eq, and_self, if_true, nj_s, hcl, hcap, Int32.add_sub_cancel]
  repeat' with_reducible first | apply And.intro | intro _
  all_goals first | exact hno (by grind) | exact hib (by grind) | exact hyes (by grind) _ _ (by first | rfl | (rw [← nj_s]; exact Int32.add_sub_cancel)) rfl
