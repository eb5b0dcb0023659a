/-! the class: an envelope is laid on a heap -/
def Sp_Hp_lay (Γ : GAM) (m e : Nat) (g : GH) (K : GH → Prop) : Prop := ∃ sh d ch n, HpI m g sh d ch n ∧ Kd g e = 2 ∧ (¬ (0 ≤ Gi g 131 e ∧ Gi g 131 e ≤ 4) → K g) ∧ (∀ k, k < 5 → Gi g 131 e = nI k → K (sI (sA (sI g 134 e sh) 258 m k (ch k + 1)) 259 m (n + 1)))
-- the walk of Hp_lay
set_option maxRecDepth 100000 in
def B_Hp_lay_41 (Γ : GAM) (K : GH → Prop)  (g : GH) : Prop :=
  K g
set_option maxHeartbeats 4000000 in
set_option maxRecDepth 100000 in
theorem S_Hp_lay_41 {Γ : GAM} {E : EV} {K : GH → Prop} (hE : GE Γ E cX1_lay 2 RX1 none 2 42 (fun r g' => r = none ∧ K g'))  (g : GH) (h : B_Hp_lay_41 Γ K  g) : JW Γ E 41 [none, none] [] g := by
  unfold B_Hp_lay_41 at h
  exact j_vret hE (by decide +kernel : decode cX1_lay 41 = .ok (.return_, 1)) ⟨rfl, h⟩
set_option maxRecDepth 100000 in
def B_Hp_lay_0 (Γ : GAM) (K : GH → Prop) (th : Nat) (p0 : Nat) (g : GH) : Prop :=
  Kd g p0 = 2 ∧ Sp_PV_isChoice Γ (Gi g 131 p0) g (fun (x2 : Int32) (g1 : GH) => ((x2 = 0 → B_Hp_lay_41 Γ K g1) ∧ (¬ (x2 = 0) → Kd g1 th = 3 ∧ Kd g1 p0 = 2 ∧ ∀ g3 : GH, g3 = sI g1 134 p0 (Gi g1 256 th) → Kd g3 th = 3 ∧ ∃ a4 : Nat, Gr g3 258 th = some a4 ∧ Kd g3 p0 = 2 ∧ Kd g3 a4 = 20 ∧ inB (Gi g3 131 p0) (Ln g3 a4) ∧ Kd g3 a4 = 20 ∧ inB (Gi g3 131 p0) (Ln g3 a4) ∧ ∀ g5 : GH, g5 = sA g3 (Co g3 a4) (Ow g3 a4) (Gi g3 131 p0).toNatClampNeg ((Ia g3 (Co g3 a4) (Ow g3 a4) (Gi g3 131 p0).toNatClampNeg) + (1 : Int32)) → Kd g5 th = 3 ∧ Kd g5 th = 3 ∧ ∀ g6 : GH, g6 = sI g5 259 th ((Gi g5 259 th) + (1 : Int32)) → B_Hp_lay_41 Γ K g6)))
set_option maxHeartbeats 4000000 in
set_option maxRecDepth 100000 in
theorem S_Hp_lay_0 {Γ : GAM} {E : EV} {K : GH → Prop} (hE : GE Γ E cX1_lay 2 RX1 none 2 42 (fun r g' => r = none ∧ K g')) (th : Nat) (p0 : Nat) (g : GH) (h : B_Hp_lay_0 Γ K th p0 g) : JW Γ E 0 [some (.ref th), some (.ref p0)] [] g := by
  unfold B_Hp_lay_0 at h
  refine j_aload_n hE (by decide +kernel : decode cX1_lay 0 = .ok (.aload_n 1, 1)) rfl rfl ?_
  obtain ⟨hk, h⟩ := h
  refine j_getI hE fg_X1_22 hk (by decide +kernel : decode cX1_lay 1 = .ok (.getfield 22, 3)) ?_
  refine j_callSN hE rfl cl_X1_27 st_X10_isChoice ⟨by omega, by omega⟩ (As := [.int (Gi g 131 p0)]) (rest := []) rfl rfl (Nat.le_of_ble_eq_true rfl) (by decide +kernel : decode cX1_lay 4 = .ok (.invokestatic 27, 3)) (mt_PV_isChoice _ _ _ h) ?_
  rintro _ g1 ⟨x2, rfl, h⟩
  refine j_if_eq hE (by decide +kernel : decode cX1_lay 7 = .ok (.ifCond .eq 34, 3)) (tgt := 41) (by decide) (fun q => ?_) (fun q => ?_)
  · replace h := h.1 q
    refine j_weak [none, none] trivial ?_
    exact S_Hp_lay_41 hE _ h
  · replace h := h.2 q
    refine j_aload_n hE (by decide +kernel : decode cX1_lay 10 = .ok (.aload_n 1, 1)) rfl rfl ?_
    refine j_aload_n hE (by decide +kernel : decode cX1_lay 11 = .ok (.aload_n 0, 1)) rfl rfl ?_
    obtain ⟨hk, h⟩ := h
    refine j_getI hE fg_X1_15 hk (by decide +kernel : decode cX1_lay 12 = .ok (.getfield 15, 3)) ?_
    obtain ⟨hk, h⟩ := h
    obtain ⟨g3, hg⟩ : ∃ z, z = sI g1 134 p0 (Gi g1 256 th) := ⟨_, rfl⟩; replace h := h g3 hg
    refine j_putI hE fa_X1_31 hk (fun q => by cases q) (by decide +kernel : decode cX1_lay 15 = .ok (.putfield 31, 3)) ?_
    rw [← hg]
    refine j_aload_n hE (by decide +kernel : decode cX1_lay 18 = .ok (.aload_n 0, 1)) rfl rfl ?_
    obtain ⟨hk, h⟩ := h
    obtain ⟨a4, ha, h⟩ := h
    refine j_getRn hE fg_X1_9 hk ha (by decide +kernel : decode cX1_lay 19 = .ok (.getfield 9, 3)) ?_
    refine j_aload_n hE (by decide +kernel : decode cX1_lay 22 = .ok (.aload_n 1, 1)) rfl rfl ?_
    obtain ⟨hk, h⟩ := h
    refine j_getI hE fg_X1_22 hk (by decide +kernel : decode cX1_lay 23 = .ok (.getfield 22, 3)) ?_
    refine j_dup2 hE (by decide +kernel : decode cX1_lay 26 = .ok (.dup2, 1)) rfl rfl ?_
    obtain ⟨hk, hb, h⟩ := h
    refine j_iald hE hk hb (by decide +kernel : decode cX1_lay 27 = .ok (.iaload, 1)) ?_
    refine j_iconst hE (by decide +kernel : decode cX1_lay 28 = .ok (.iconst 1, 1)) (v := (1 : Int32)) (by decide) ?_
    refine j_iadd hE (by decide +kernel : decode cX1_lay 29 = .ok (.iadd, 1)) ?_
    obtain ⟨hk, hb, h⟩ := h
    obtain ⟨g5, hg⟩ : ∃ z, z = sA g3 (Co g3 a4) (Ow g3 a4) (Gi g3 131 p0).toNatClampNeg ((Ia g3 (Co g3 a4) (Ow g3 a4) (Gi g3 131 p0).toNatClampNeg) + (1 : Int32)) := ⟨_, rfl⟩; replace h := h g5 hg
    refine j_iast hE hk hb (by decide +kernel : decode cX1_lay 30 = .ok (.iastore, 1)) ?_
    rw [← hg]
    refine j_aload_n hE (by decide +kernel : decode cX1_lay 31 = .ok (.aload_n 0, 1)) rfl rfl ?_
    refine j_dup hE (by decide +kernel : decode cX1_lay 32 = .ok (.dup, 1)) rfl ?_
    obtain ⟨hk, h⟩ := h
    refine j_getI hE fg_X1_34 hk (by decide +kernel : decode cX1_lay 33 = .ok (.getfield 34, 3)) ?_
    refine j_iconst hE (by decide +kernel : decode cX1_lay 36 = .ok (.iconst 1, 1)) (v := (1 : Int32)) (by decide) ?_
    refine j_iadd hE (by decide +kernel : decode cX1_lay 37 = .ok (.iadd, 1)) ?_
    obtain ⟨hk, h⟩ := h
    obtain ⟨g6, hg⟩ : ∃ z, z = sI g5 259 th ((Gi g5 259 th) + (1 : Int32)) := ⟨_, rfl⟩; replace h := h g6 hg
    refine j_putI hE fa_X1_34 hk (fun q => by cases q) (by decide +kernel : decode cX1_lay 38 = .ok (.putfield 34, 3)) ?_
    rw [← hg]
    refine j_weak [none, none] trivial ?_
    exact S_Hp_lay_41 hE _ h
set_option maxHeartbeats 4000000 in
set_option maxRecDepth 100000 in
theorem rl_Hp_lay {Γ : GAM} {l : Launch} {th : Nat} {p0 : Nat} {g : GH} {K : GH → Prop} (h0 : B_Hp_lay_0 Γ K th p0 g) : MetA Γ l yX1_lay cX1_lay 2 none 2 42 [.ref th, .ref p0] g (fun r g' => r = none ∧ K g') := by
  refine MetA.introL (Lx := [some (.ref th), some (.ref p0)]) (by decide) (Nat.le_of_ble_eq_true rfl) rfl rfl ?_
  intro E hEl hE hnm
  exact S_Hp_lay_0 hE th p0 g h0
theorem mt_Hp_lay {Γ : GAM} {l : Launch} (th : Nat) (p0 : Nat) (g : GH) (K : GH → Prop) (h : Sp_Hp_lay Γ th p0 g K) : MetA Γ l yX1_lay cX1_lay 2 none 2 42 [.ref th, .ref p0] g (fun r g' => r = none ∧ K g') := by
  obtain ⟨sh, d, ch, n, ⟨hkd, ⟨a, a1, a2, a3, a4, a5⟩, h1, h2, h3, h4⟩, hke, hK0, hK1⟩ := h
  refine rl_Hp_lay ?_
  unfold B_Hp_lay_0 B_Hp_lay_41 Sp_PV_isChoice
  refine ⟨hke, fun u => hK0 (fun z => by rw [if_pos z] at u; exact absurd u (by decide)), fun u => ?_⟩
  have hin : 0 ≤ Gi g 131 p0 ∧ Gi g 131 p0 ≤ 4 := Classical.byContradiction (fun z => u (if_neg z))
  obtain ⟨k, hk, hk5⟩ : ∃ k, Gi g 131 p0 = nI k ∧ k < 5 := by
    have hn := nj_of hin.1
    have h2 := hin.2
    rw [hn.1] at h2
    exact ⟨_, hn.1, by have := (nj_le (b := 4) hn.2 (by omega)).mp h2; omega⟩
  have hb : inB (nI k) 5 := inB_nI hk5 (by omega)
  refine ⟨hkd, hke, ?_⟩
  rintro _ rfl
  have ec : ∀ v, Gi (sI g 134 p0 v) 131 p0 = nI k := fun v => by rw [Gi_sI, if_neg (fun z => absurd z.1 (by decide)), hk]
  refine ⟨hkd, a, a1, hke, a2, by rw [ec]; show inB _ (Ln g a); rw [a5]; exact hb, a2, by rw [ec]; show inB _ (Ln g a); rw [a5]; exact hb, ?_⟩
  rw [ec, Co_sI, Ow_sI, Ia_sI, a3, a4, nj_cl (by omega), h1, h4 k hk5]
  rintro _ rfl
  refine ⟨hkd, hkd, ?_⟩
  rintro _ rfl
  rw [Gi_sA, Gi_sI, if_neg (fun z => absurd z.1 (by decide)), h3]
  exact hK1 k hk5 hk
