/-! the class's face: what all calls have in common; the small ones -/
def PVC {α : Type} (Γ : GAM) (x : Nat) (g : GH) (K : α → GH → Prop) (p : ST → α) (q : ST → ST) : Prop := ∃ C s n, c_x C = x ∧ ClsI Γ C g s ∧ WF s ∧ RM Γ C g s (n + 1) ∧ ∀ C' g', FrC g g' → c_x C' = x → ClsI Γ C' g' (q s) → RM Γ C' g' (q s) n → K (p s) g'
theorem PVC.e {α : Type} {Γ : GAM} {x : Nat} {g : GH} {K : α → GH → Prop} {p : ST → α} {q : ST → ST} (h : PVC Γ x g K p q) : ∃ C s n, c_x C = x ∧ ClsI Γ C g s ∧ WF s ∧ RM Γ C g s (n + 1) ∧ ∀ C' g' r s', p s = r → q s = s' → FrC g g' → c_x C' = x → ClsI Γ C' g' s' → RM Γ C' g' s' n → K r g' := by
  obtain ⟨C, s, n, h1, h2, h3, h4, h5⟩ := h
  refine ⟨C, s, n, h1, h2, h3, h4, fun C' g' r s' e1 e2 => ?_⟩
  subst e1 e2
  exact h5 C' g'
theorem RM.dn {Γ : GAM} {C : CDR} {g : GH} {s : ST} {n : Nat} (h : RM Γ C g s (n + 1)) : RM Γ C g s n := by
  obtain ⟨h1, h2, h3⟩ := h
  exact ⟨by omega, by omega, by omega⟩
theorem RM.x {Γ : GAM} {C : CDR} {g g' : GH} {s : ST} {n m : Nat} {fs cs : List Nat} (h : RM Γ C g s (n + 1)) (k : FrX m fs cs g g') : RM Γ C g' s n := by
  obtain ⟨x1, x2, x3, x4, x5, x6, x7, x8, x9, x10, x11, x12⟩ := k.1
  have h := h.dn
  unfold RM phi cpA at h ⊢
  rw [x2, x9, x11, x12]
  exact h
theorem FrX.c {m : Nat} {fs cs : List Nat} {g g' : GH} (h : FrX m fs cs g g') (he : EN g) (h1 : ∀ f ∈ fs, f < 1536) (h2 : ∀ c ∈ cs, c < 1536) : FrC g g' := FrC.of (h.fr (als := []) he) h1 h2
theorem ite_z {c : Prop} [Decidable c] : ((if c then (1 : Int32) else 0) = 0) ↔ ¬ c := ifz _
theorem fold_cg {α β : Type} {f h : β → α → β} : ∀ (l : List α) (b : β), (∀ a, ∀ x ∈ l, f a x = h a x) → l.foldl f b = l.foldl h b := by
  intro l
  induction l with
  | nil => intro b _; rfl
  | cons x l ih =>
    intro b e
    rw [List.foldl_cons, List.foldl_cons, e b x List.mem_cons_self]
    exact ih _ (fun a y hy => e a y (List.mem_cons_of_mem _ hy))
theorem vDr_cg {s s' : ST} (hb : s_box s' = s_box s) (hr : s_roa s' = s_roa s) (hs : s_stp s' = s_stp s) : ∀ n path a t st, vDr s' n path a t st = vDr s n path a t st := by
  have e1 : ∀ a b, vRd s' a b = vRd s a b := fun a b => by unfold vRd; rw [hr]
  have e2 : ∀ b, vSt s' b = vSt s b := fun b => by unfold vSt; rw [hb]
  have e3 : ∀ b, vTo s' b = vTo s b := fun b => by unfold vTo; rw [hb]
  have e4 : ∀ b, vFr s' b = vFr s b := fun b => by unfold vFr; rw [hb]
  have e5 : ∀ a b t, vAr s' a b t = vAr s a b t := fun a b t => by unfold vAr vSp; rw [e1, e4, hs]
  intro n
  induction n with
  | zero =>
    intro path a t st
    show vUp st (t + vRd s' a 8) path = vUp st (t + vRd s a 8) path
    rw [e1]
  | succ n ih =>
    intro path a t st
    show (List.range 8).foldl _ st = (List.range 8).foldl _ st
    refine fold_cg _ _ (fun q b _ => ?_)
    by_cases c : vMay s path a t b
    · rw [if_pos (show vMay s' path a t b from ⟨by rw [e2]; exact c.1, c.2.1, by rw [e1, e3]; exact c.2.2⟩), if_pos c, ih, e5]
    · rw [if_neg (show ¬ vMay s' path a t b from fun z => c ⟨by rw [← e2]; exact z.1, z.2.1, by rw [← e1, ← e3]; exact z.2.2⟩), if_neg c]
theorem VnI.cg {m : Nat} {g : GH} {s s' : ST} (h : VnI m g s) (hb : s_box s' = s_box s) (hr : s_roa s' = s_roa s) (hs : s_stp s' = s_stp s) : VnI m g s' := by
  have eN : vN s' = vN s := by unfold vN vSt; rw [hb]
  have eA : vA s' = vA s := by unfold vA vSt; rw [hb]
  have eB : ∀ t, vBe s' t = vBe s t := fun t => by unfold vBe; rw [eN, vDr_cg hb hr hs]
  obtain ⟨⟨a, b, c, d, e, f⟩, q⟩ := h
  refine ⟨⟨a, by rw [hs]; exact b, by rw [eA]; exact c, by rw [eN]; exact d, by rw [hb]; exact e, by rw [hr]; exact f⟩, ?_⟩
  rcases q with q | ⟨t, t1, t2, t3⟩
  · exact .inl q
  · refine .inr ⟨t, t1, t2, ?_⟩
    unfold VD at t3 ⊢
    rw [eB]; exact t3
theorem pv_ite {c : Prop} [Decidable c] {A B : Prop} (h1 : ¬ c → A) (h2 : c → B) : ((if c then (1 : Int32) else 0) = 0 → A) ∧ (¬ (if c then (1 : Int32) else 0) = 0 → B) := ⟨fun u => h1 (ite_z.mp u), fun u => h2 (Classical.byContradiction (fun z => u (ite_z.mpr z)))⟩
theorem pv_ite' {c : Prop} [Decidable c] {A B : Prop} (h1 : ¬ c → A) (h2 : c → B) : (¬ (if c then (1 : Int32) else 0) = 0 → B) ∧ ((if c then (1 : Int32) else 0) = 0 → A) := ⟨(pv_ite h1 h2).2, (pv_ite h1 h2).1⟩
/-- a change of its own ints -/
theorem ClsI.own {Γ : GAM} {C : CDR} {g g' : GH} {s s' : ST} {fs cs : List Nat} (h : ClsI Γ C g s) (k : FrX (c_x C) fs cs g g') (h1 : ∀ f ∈ fs, 1408 ≤ f ∧ f < 1536) (h2 : ∀ c ∈ cs, 1408 ≤ c ∧ c < 1536) (hV : CV C g' s') (e1 : s_tap s' = s_tap s) (e2 : PrI (c_pr C) g s → PrI (c_pr C) g s') (e3 : VnI (c_vn C) g s → VnI (c_vn C) g s') (e4 : CH Γ C g s → CH Γ C g s') (e5 : PoI Γ (c_D C) g s → PoI Γ (c_D C) g s') : ClsI Γ C g' s' := by
  obtain ⟨a1, a2, a3, a4, a5, a6, a7, a8⟩ := h
  have he := a7.1.1
  have k' := k.fr (als := []) he
  have m1 : ∀ l, (∀ f ∈ l, f < 1408) → AV l fs := fun l hl f hf z => by have := hl f hf; have := h1 f z; omega
  have m2 : ∀ l, (∀ f ∈ l, f < 1408) → AV l cs := fun l hl f hf z => by have := hl f hf; have := h2 f z; omega
  exact ⟨a1.fr k', hV, by rw [e1]; exact a3.fr k' he (m1 _ (by decide)) (m2 _ (by decide)), (e2 a4).fr k' he (m1 _ (by decide)) (m2 _ (by decide)), (e3 a5).fr k' he (m1 _ (by decide)) (m2 _ (by decide)), (e4 a6).fr k' he (by simp) (m1 _ (by decide)) (m2 _ (by decide)), (e5 a7).fr2 k' ⟨m1 _ (by decide), m2 _ (by decide)⟩ (m1 _ (by decide)) (fun al ha => by cases ha), a8.fr2 k' (by simp) (m1 _ (by decide)) (m2 _ (by decide))⟩
/-- a change of the tape -/
theorem ClsI.tape {Γ : GAM} {C : CDR} {g g' : GH} {s : ST} {t : List Int32} {fs cs : List Nat} (h : ClsI Γ C g s) (k : FrX (c_ta C) fs cs g g') (h1 : ∀ f ∈ fs, 896 ≤ f ∧ f < 1024) (h2 : ∀ c ∈ cs, 896 ≤ c ∧ c < 1024) (hT : TT (c_ta C) g' t) : ClsI Γ C g' (u_tap s t) := by
  obtain ⟨a1, a2, a3, a4, a5, a6, a7, a8⟩ := h
  have he := a7.1.1
  have k' := k.fr (als := []) he
  have m1 : ∀ l, (∀ f ∈ l, f < 896 ∨ 1024 ≤ f) → AV l fs := fun l hl f hf z => by have := hl f hf; have := h1 f z; omega
  have m2 : ∀ l, (∀ f ∈ l, f < 896 ∨ 1024 ≤ f) → AV l cs := fun l hl f hf z => by have := hl f hf; have := h2 f z; omega
  have b2 : CV C g' s := a2.fr a1 k' (m1 _ (by decide)) (m2 _ (by decide))
  have b4 : PrI (c_pr C) g' s := a4.fr k' he (m1 _ (by decide)) (m2 _ (by decide))
  have b5 : VnI (c_vn C) g' (u_tap s t) := (a5.fr k' he (m1 _ (by decide)) (m2 _ (by decide))).cg rfl rfl rfl
  have b6 : CH Γ C g' s := a6.fr k' he (by simp) (m1 _ (by decide)) (m2 _ (by decide))
  have b7 : PoI Γ (c_D C) g' s := a7.fr2 k' ⟨m1 _ (by decide), m2 _ (by decide)⟩ (m1 _ (by decide)) (fun al ha => by cases ha)
  exact ⟨a1.fr k', b2, hT, b4, b5, b6, b7, a8.fr2 k' (by simp) (m1 _ (by decide)) (m2 _ (by decide))⟩
/-- a change of the press -/
theorem ClsI.prn {Γ : GAM} {C : CDR} {g g' : GH} {s s' : ST} {fs cs : List Nat} (h : ClsI Γ C g s) (k : FrX (c_pr C) fs cs g g') (h1 : ∀ f ∈ fs, 768 ≤ f ∧ f < 896) (h2 : ∀ c ∈ cs, 768 ≤ c ∧ c < 896) (hT : PrI (c_pr C) g' s') (e0 : CV C g s → CV C g s') (e1 : s_tap s' = s_tap s) (e3 : VnI (c_vn C) g s → VnI (c_vn C) g s') (e4 : CH Γ C g s → CH Γ C g s') (e5 : PoI Γ (c_D C) g s → PoI Γ (c_D C) g s') : ClsI Γ C g' s' := by
  obtain ⟨a1, a2, a3, a4, a5, a6, a7, a8⟩ := h
  have he := a7.1.1
  have k' := k.fr (als := []) he
  have m1 : ∀ l, (∀ f ∈ l, f < 768 ∨ 896 ≤ f) → AV l fs := fun l hl f hf z => by have := hl f hf; have := h1 f z; omega
  have m2 : ∀ l, (∀ f ∈ l, f < 768 ∨ 896 ≤ f) → AV l cs := fun l hl f hf z => by have := hl f hf; have := h2 f z; omega
  exact ⟨a1.fr k', (e0 a2).fr a1 k' (m1 _ (by decide)) (m2 _ (by decide)), by rw [e1]; exact a3.fr k' he (m1 _ (by decide)) (m2 _ (by decide)), hT, (e3 a5).fr k' he (m1 _ (by decide)) (m2 _ (by decide)), (e4 a6).fr k' he (by simp) (m1 _ (by decide)) (m2 _ (by decide)), (e5 a7).fr2 k' ⟨m1 _ (by decide), m2 _ (by decide)⟩ (m1 _ (by decide)) (fun al ha => by cases ha), a8.fr2 k' (by simp) (m1 _ (by decide)) (m2 _ (by decide))⟩
/-- a change of the van -/
theorem ClsI.van {Γ : GAM} {C : CDR} {g g' : GH} {s s' : ST} {fs cs : List Nat} (h : ClsI Γ C g s) (k : FrX (c_vn C) fs cs g g') (h1 : ∀ f ∈ fs, 1152 ≤ f ∧ f < 1280) (h2 : ∀ c ∈ cs, 1152 ≤ c ∧ c < 1280) (hT : VnI (c_vn C) g' s') (e0 : CV C g s → CV C g s') (e1 : s_tap s' = s_tap s) (e3 : PrI (c_pr C) g s → PrI (c_pr C) g s') (e4 : CH Γ C g s → CH Γ C g s') (e5 : PoI Γ (c_D C) g s → PoI Γ (c_D C) g s') : ClsI Γ C g' s' := by
  obtain ⟨a1, a2, a3, a4, a5, a6, a7, a8⟩ := h
  have he := a7.1.1
  have k' := k.fr (als := []) he
  have m1 : ∀ l, (∀ f ∈ l, f < 1152 ∨ 1280 ≤ f) → AV l fs := fun l hl f hf z => by have := hl f hf; have := h1 f z; omega
  have m2 : ∀ l, (∀ f ∈ l, f < 1152 ∨ 1280 ≤ f) → AV l cs := fun l hl f hf z => by have := hl f hf; have := h2 f z; omega
  exact ⟨a1.fr k', (e0 a2).fr a1 k' (m1 _ (by decide)) (m2 _ (by decide)), by rw [e1]; exact a3.fr k' he (m1 _ (by decide)) (m2 _ (by decide)), (e3 a4).fr k' he (m1 _ (by decide)) (m2 _ (by decide)), hT, (e4 a6).fr k' he (by simp) (m1 _ (by decide)) (m2 _ (by decide)), (e5 a7).fr2 k' ⟨m1 _ (by decide), m2 _ (by decide)⟩ (m1 _ (by decide)) (fun al ha => by cases ha), a8.fr2 k' (by simp) (m1 _ (by decide)) (m2 _ (by decide))⟩
theorem ClsI.pk {Γ : GAM} {C : CDR} {g : GH} {s : ST} (h : ClsI Γ C g s) : Kd g (c_x C) = 12 ∧ (Gr g 1410 (c_x C) = some (d_p (c_D C)) ∧ Kd g (d_p (c_D C)) = 6) ∧ (Gr g 1411 (c_x C) = some (c_ta C) ∧ Kd g (c_ta C) = 8) ∧ (Gr g 1412 (c_x C) = some (c_pr C) ∧ Kd g (c_pr C) = 7) ∧ (Gr g 1413 (c_x C) = some (c_vn C) ∧ Kd g (c_vn C) = 10) ∧ (Gr g 1414 (c_x C) = some (c_hl C) ∧ Kd g (c_hl C) = 1) ∧ Gi g 1408 (c_x C) = s_now s ∧ Gi g 1409 (c_x C) = s_siz s := by
  obtain ⟨⟨⟨h1, h2⟩, ⟨r1, r2, r3, r4, r5⟩, ⟨l0, l1, l2, l3⟩, -⟩, a2, a3, a4, a5, a6, a7, a8⟩ := h
  exact ⟨h2, ⟨r1, a7.2.1.1.2⟩, ⟨r2, a3.1.1⟩, ⟨r3, a4.1.1⟩, ⟨r4, a5.1.1.1⟩, ⟨r5, l1⟩, a2.1, a2.2.1⟩
def Sp_PV_days (Γ : GAM) (x : Nat) (p0 : Int32) (g : GH) (K : Int32 → GH → Prop) : Prop := PVC Γ x g K (fun s => p_days s p0) (fun s => q_days s p0)
-- the walk of PV_days
set_option maxRecDepth 100000 in
def B_PV_days_23 (Γ : GAM) (K : Int32 → GH → Prop)  (g : GH) : Prop :=
  K (-1 : Int32) g
set_option maxHeartbeats 4000000 in
set_option maxRecDepth 100000 in
theorem S_PV_days_23 {Γ : GAM} {E : EV} {K : Int32 → GH → Prop} (hE : GE Γ E cX10_days 2 RX10 (some (.int)) 1 22 (fun r g' => ∃ x, r = some (.int x) ∧ K x g'))  (g : GH) (h : B_PV_days_23 Γ K  g) : JW Γ E 23 [none, none] [] g := by
  unfold B_PV_days_23 at h
  refine j_iconst hE (by decide +kernel : decode cX10_days 23 = .ok (.iconst (-1), 1)) (v := (-1 : Int32)) (by decide) ?_
  exact j_iret hE (by decide +kernel : decode cX10_days 24 = .ok (.ireturn, 1)) ⟨_, rfl, h⟩
set_option maxRecDepth 100000 in
def B_PV_days_0 (Γ : GAM) (K : Int32 → GH → Prop) (th : Nat) (p0 : Int32) (g : GH) : Prop :=
  Sp_PV_isWithin Γ p0 (0 : Int32) (400 : Int32) g (fun (x2 : Int32) (g1 : GH) => ((x2 = 0 → B_PV_days_23 Γ K g1) ∧ (¬ (x2 = 0) → Kd g1 th = 12 ∧ ((((Gi g1 1408 th) + p0) ≤ (400 : Int32) → Kd g1 th = 12 ∧ Kd g1 th = 12 ∧ ∀ g3 : GH, g3 = sI g1 1408 th ((Gi g1 1408 th) + p0) → Kd g3 th = 12 ∧ K (Gi g3 1408 th) g3) ∧ (¬ (((Gi g1 1408 th) + p0) ≤ (400 : Int32)) → B_PV_days_23 Γ K g1)))))
set_option maxHeartbeats 4000000 in
set_option maxRecDepth 100000 in
theorem S_PV_days_0 {Γ : GAM} {E : EV} {K : Int32 → GH → Prop} (hE : GE Γ E cX10_days 2 RX10 (some (.int)) 1 22 (fun r g' => ∃ x, r = some (.int x) ∧ K x g')) (th : Nat) (p0 : Int32) (g : GH) (h : B_PV_days_0 Γ K th p0 g) : JW Γ E 0 [some (.ref th), some (.int p0)] [] g := by
  unfold B_PV_days_0 at h
  refine j_iload_n hE (by decide +kernel : decode cX10_days 0 = .ok (.iload_n 1, 1)) rfl rfl ?_
  refine j_iconst hE (by decide +kernel : decode cX10_days 1 = .ok (.iconst 0, 1)) (v := (0 : Int32)) (by decide) ?_
  refine j_sipush hE (by decide +kernel : decode cX10_days 2 = .ok (.sipush 400, 3)) (v := (400 : Int32)) (by decide) ?_
  refine j_callS hE rfl cl_X10_64 st_X10_isWithin ⟨by omega, by omega⟩ (As := [.int p0, .int (0 : Int32), .int (400 : Int32)]) (rest := []) rfl rfl (Nat.le_of_ble_eq_true rfl) (by decide +kernel : decode cX10_days 5 = .ok (.invokestatic 64, 3)) (mt_PV_isWithin _ _ _ _ _ h) ?_
  rintro _ g1 ⟨x2, rfl, h⟩
  refine j_if_eq hE (by decide +kernel : decode cX10_days 8 = .ok (.ifCond .eq 15, 3)) (tgt := 23) (by decide) (fun q => ?_) (fun q => ?_)
  · replace h := h.1 q
    refine j_weak [none, none] trivial ?_
    exact S_PV_days_23 hE _ h
  · replace h := h.2 q
    refine j_aload_n hE (by decide +kernel : decode cX10_days 11 = .ok (.aload_n 0, 1)) rfl rfl ?_
    obtain ⟨hk, h⟩ := h
    refine j_getI hE fg_X10_68 hk (by decide +kernel : decode cX10_days 12 = .ok (.getfield 68, 3)) ?_
    refine j_iload_n hE (by decide +kernel : decode cX10_days 15 = .ok (.iload_n 1, 1)) rfl rfl ?_
    refine j_iadd hE (by decide +kernel : decode cX10_days 16 = .ok (.iadd, 1)) ?_
    refine j_sipush hE (by decide +kernel : decode cX10_days 17 = .ok (.sipush 400, 3)) (v := (400 : Int32)) (by decide) ?_
    refine j_icmp_le hE (by decide +kernel : decode cX10_days 20 = .ok (.if_icmp .le 5, 3)) (tgt := 25) (by decide) (fun q => ?_) (fun q => ?_)
    · replace h := h.1 q
      refine j_aload_n hE (by decide +kernel : decode cX10_days 25 = .ok (.aload_n 0, 1)) rfl rfl ?_
      refine j_dup hE (by decide +kernel : decode cX10_days 26 = .ok (.dup, 1)) rfl ?_
      obtain ⟨hk, h⟩ := h
      refine j_getI hE fg_X10_68 hk (by decide +kernel : decode cX10_days 27 = .ok (.getfield 68, 3)) ?_
      refine j_iload_n hE (by decide +kernel : decode cX10_days 30 = .ok (.iload_n 1, 1)) rfl rfl ?_
      refine j_iadd hE (by decide +kernel : decode cX10_days 31 = .ok (.iadd, 1)) ?_
      obtain ⟨hk, h⟩ := h
      obtain ⟨g3, hg⟩ : ∃ z, z = sI g1 1408 th ((Gi g1 1408 th) + p0) := ⟨_, rfl⟩; replace h := h g3 hg
      refine j_putI hE fa_X10_68 hk (fun q => by cases q) (by decide +kernel : decode cX10_days 32 = .ok (.putfield 68, 3)) ?_
      rw [← hg]
      refine j_aload_n hE (by decide +kernel : decode cX10_days 35 = .ok (.aload_n 0, 1)) rfl rfl ?_
      obtain ⟨hk, h⟩ := h
      refine j_getI hE fg_X10_68 hk (by decide +kernel : decode cX10_days 36 = .ok (.getfield 68, 3)) ?_
      exact j_iret hE (by decide +kernel : decode cX10_days 39 = .ok (.ireturn, 1)) ⟨_, rfl, h⟩
    · replace h := h.2 q
      refine j_weak [none, none] trivial ?_
      exact S_PV_days_23 hE _ h
set_option maxHeartbeats 4000000 in
set_option maxRecDepth 100000 in
theorem rl_PV_days {Γ : GAM} {l : Launch} {th : Nat} {p0 : Int32} {g : GH} {K : Int32 → GH → Prop} (h0 : B_PV_days_0 Γ K th p0 g) : MetA Γ l yX10_days cX10_days 2 (some (.int)) 1 22 [.ref th, .int p0] g (fun r g' => ∃ x, r = some (.int x) ∧ K x g') := by
  refine MetA.introL (Lx := [some (.ref th), some (.int p0)]) (by decide) (Nat.le_of_ble_eq_true rfl) rfl rfl ?_
  intro E hEl hE hnm
  exact S_PV_days_0 hE th p0 g h0
theorem mt_PV_days {Γ : GAM} {l : Launch} (th : Nat) (p0 : Int32) (g : GH) (K : Int32 → GH → Prop) (h : Sp_PV_days Γ th p0 g K) : MetA Γ l yX10_days cX10_days 2 (some (.int)) 1 22 [.ref th, .int p0] g (fun r g' => ∃ x, r = some (.int x) ∧ K x g') := by
  obtain ⟨C, s, n, rfl, hI, hW, hR, hK⟩ := PVC.e h
  have he := hI.en
  obtain ⟨hkd, -, -, -, -, -, hnow, hsiz⟩ := hI.pk
  unfold p_days q_days at hK
  refine rl_PV_days ?_
  have hno : ¬ (0 ≤ p0 ∧ p0 ≤ 400 ∧ s_now s + p0 ≤ 400) → K (-1) g := fun u => hK C g _ _ (if_neg u) (if_neg u) (FrC.rf he) rfl hI hR.dn
  simp only [B_PV_days_23, B_PV_days_0, Sp_PV_isWithin, ite_z, Classical.not_not, hkd, hnow, true_and]
  refine ⟨fun u => hno (fun z => u ⟨z.1, z.2.1⟩), fun u => ⟨fun u2 => ?_, fun u2 => hno (fun z => u2 z.2.2)⟩⟩
  rintro g3 rfl
  have hx : FrX (c_x C) [1408] [] g (sI g 1408 (c_x C) (s_now s + p0)) := FrX.sI (by decide)
  have ok : 0 ≤ p0 ∧ p0 ≤ 400 ∧ s_now s + p0 ≤ 400 := ⟨u.1, u.2, u2⟩
  refine ⟨by rw [Kd_sI]; exact hkd, ?_⟩
  rw [Gi_sI, if_pos ⟨rfl, rfl⟩]
  refine hK C _ _ _ (if_pos ok) (if_pos ok) (hx.c he (by decide) (by simp)) rfl (hI.own hx (by decide) (by simp) ⟨by rw [Gi_sI, if_pos ⟨rfl, rfl⟩]; rfl, ?_, hI.2.1.2.2⟩ rfl (fun z => z) (fun z => z.cg rfl rfl rfl) (fun z => z) (fun z => z)) (hR.x hx)
  rw [Gi_sI, if_neg (fun z => absurd z.1 (by decide))]; exact hsiz
def Sp_PV_size (Γ : GAM) (x : Nat) (p0 : Int32) (g : GH) (K : Int32 → GH → Prop) : Prop := PVC Γ x g K (fun s => p_size s p0) (fun s => q_size s p0)
-- the walk of PV_size
set_option maxRecDepth 100000 in
def B_PV_size_20 (Γ : GAM) (K : Int32 → GH → Prop)  (g : GH) : Prop :=
  K (0 : Int32) g
set_option maxHeartbeats 4000000 in
set_option maxRecDepth 100000 in
theorem S_PV_size_20 {Γ : GAM} {E : EV} {K : Int32 → GH → Prop} (hE : GE Γ E cX10_size 2 RX10 (some (.boolean)) 1 22 (fun r g' => ∃ x, r = some (.int x) ∧ K x g'))  (g : GH) (h : B_PV_size_20 Γ K  g) : JW Γ E 20 [none, none] [] g := by
  unfold B_PV_size_20 at h
  refine j_iconst hE (by decide +kernel : decode cX10_size 20 = .ok (.iconst 0, 1)) (v := (0 : Int32)) (by decide) ?_
  exact j_zret hE (Or.inl rfl) (by decide +kernel : decode cX10_size 21 = .ok (.ireturn, 1)) ⟨_, rfl, h⟩
set_option maxRecDepth 100000 in
def B_PV_size_0 (Γ : GAM) (K : Int32 → GH → Prop) (th : Nat) (p0 : Int32) (g : GH) : Prop :=
  Sp_PV_isWithin Γ p0 (1 : Int32) (50 : Int32) g (fun (x2 : Int32) (g1 : GH) => ((x2 = 0 → B_PV_size_20 Γ K g1) ∧ (¬ (x2 = 0) → Kd g1 th = 12 ∧ ∃ a3 : Nat, Gr g1 1414 th = some a3 ∧ Kd g1 a3 = 1 ∧ Sp_AL_isEmpty Γ a3 g1 (fun (x5 : Int32) (g4 : GH) => ((¬ (x5 = 0) → Kd g4 th = 12 ∧ ∀ g6 : GH, g6 = sI g4 1409 th p0 → K (1 : Int32) g6) ∧ (x5 = 0 → B_PV_size_20 Γ K g4))))))
set_option maxHeartbeats 4000000 in
set_option maxRecDepth 100000 in
theorem S_PV_size_0 {Γ : GAM} {E : EV} {K : Int32 → GH → Prop} (hE : GE Γ E cX10_size 2 RX10 (some (.boolean)) 1 22 (fun r g' => ∃ x, r = some (.int x) ∧ K x g')) (th : Nat) (p0 : Int32) (g : GH) (h : B_PV_size_0 Γ K th p0 g) : JW Γ E 0 [some (.ref th), some (.int p0)] [] g := by
  unfold B_PV_size_0 at h
  refine j_iload_n hE (by decide +kernel : decode cX10_size 0 = .ok (.iload_n 1, 1)) rfl rfl ?_
  refine j_iconst hE (by decide +kernel : decode cX10_size 1 = .ok (.iconst 1, 1)) (v := (1 : Int32)) (by decide) ?_
  refine j_bipush hE (by decide +kernel : decode cX10_size 2 = .ok (.bipush 50, 2)) (v := (50 : Int32)) (by decide) ?_
  refine j_callS hE rfl cl_X10_64 st_X10_isWithin ⟨by omega, by omega⟩ (As := [.int p0, .int (1 : Int32), .int (50 : Int32)]) (rest := []) rfl rfl (Nat.le_of_ble_eq_true rfl) (by decide +kernel : decode cX10_size 4 = .ok (.invokestatic 64, 3)) (mt_PV_isWithin _ _ _ _ _ h) ?_
  rintro _ g1 ⟨x2, rfl, h⟩
  refine j_if_eq hE (by decide +kernel : decode cX10_size 7 = .ok (.ifCond .eq 13, 3)) (tgt := 20) (by decide) (fun q => ?_) (fun q => ?_)
  · replace h := h.1 q
    refine j_weak [none, none] trivial ?_
    exact S_PV_size_20 hE _ h
  · replace h := h.2 q
    refine j_aload_n hE (by decide +kernel : decode cX10_size 10 = .ok (.aload_n 0, 1)) rfl rfl ?_
    obtain ⟨hk, h⟩ := h
    obtain ⟨a3, ha, h⟩ := h
    refine j_getRn hE fg_X10_44 hk ha (by decide +kernel : decode cX10_size 11 = .ok (.getfield 44, 3)) ?_
    obtain ⟨hk, h⟩ := h
    refine j_callV hE rfl cl_X10_250 cf_0 im_Jx4a65c_isEmpty_aae02 se_Jx4a65c_isEmpty_aae02 ⟨by omega, by omega⟩ (As := []) (rest := []) rfl rfl (Nat.le_of_ble_eq_true rfl) hk (by decide +kernel : decode cX10_size 14 = .ok (.invokevirtual 250, 3)) (mt_AL_isEmpty _ _ _ h) ?_
    rintro _ g4 ⟨x5, rfl, h⟩
    refine j_if_ne hE (by decide +kernel : decode cX10_size 17 = .ok (.ifCond .ne 5, 3)) (tgt := 22) (by decide) (fun q => ?_) (fun q => ?_)
    · replace h := h.1 q
      refine j_aload_n hE (by decide +kernel : decode cX10_size 22 = .ok (.aload_n 0, 1)) rfl rfl ?_
      refine j_iload_n hE (by decide +kernel : decode cX10_size 23 = .ok (.iload_n 1, 1)) rfl rfl ?_
      obtain ⟨hk, h⟩ := h
      obtain ⟨g6, hg⟩ : ∃ z, z = sI g4 1409 th p0 := ⟨_, rfl⟩; replace h := h g6 hg
      refine j_putI hE fa_X10_9 hk (fun q => by cases q) (by decide +kernel : decode cX10_size 24 = .ok (.putfield 9, 3)) ?_
      rw [← hg]
      refine j_iconst hE (by decide +kernel : decode cX10_size 27 = .ok (.iconst 1, 1)) (v := (1 : Int32)) (by decide) ?_
      exact j_zret hE (Or.inr rfl) (by decide +kernel : decode cX10_size 28 = .ok (.ireturn, 1)) ⟨_, rfl, h⟩
    · replace h := h.2 q
      refine j_weak [none, none] trivial ?_
      exact S_PV_size_20 hE _ h
set_option maxHeartbeats 4000000 in
set_option maxRecDepth 100000 in
theorem rl_PV_size {Γ : GAM} {l : Launch} {th : Nat} {p0 : Int32} {g : GH} {K : Int32 → GH → Prop} (h0 : B_PV_size_0 Γ K th p0 g) : MetA Γ l yX10_size cX10_size 2 (some (.boolean)) 1 22 [.ref th, .int p0] g (fun r g' => ∃ x, r = some (.int x) ∧ K x g') := by
  refine MetA.introL (Lx := [some (.ref th), some (.int p0)]) (by decide) (Nat.le_of_ble_eq_true rfl) rfl rfl ?_
  intro E hEl hE hnm
  exact S_PV_size_0 hE th p0 g h0
theorem mt_PV_size {Γ : GAM} {l : Launch} (th : Nat) (p0 : Int32) (g : GH) (K : Int32 → GH → Prop) (h : Sp_PV_size Γ th p0 g K) : MetA Γ l yX10_size cX10_size 2 (some (.boolean)) 1 22 [.ref th, .int p0] g (fun r g' => ∃ x, r = some (.int x) ∧ K x g') := by
  obtain ⟨C, s, n, rfl, hI, hW, hR, hK⟩ := PVC.e h
  have he := hI.en
  obtain ⟨hkd, -, -, -, -, ⟨h1, h2⟩, hnow, hsiz⟩ := hI.pk
  have hl := hI.2.2.2.2.2.1.1.2.1
  rw [hI.2.2.2.2.2.1.2.1] at hl
  have h40 := hW.len.2.2.2.2.2.2.2.2.2.2.2
  unfold p_size q_size at hK
  refine rl_PV_size ?_
  have hno : ¬ ok_size s p0 → K 0 g := fun u => hK C g _ _ (if_neg u) (if_neg u) (FrC.rf he) rfl hI hR.dn
  simp only [B_PV_size_20, B_PV_size_0, Sp_PV_isWithin, Sp_AL_isEmpty, ite_z, Classical.not_not, hkd, h1, h2, hl, true_and, Option.some.injEq, exists_eq_left']
  have hz : nI (s_hea s).length = 0 ↔ (s_hea s).length = 0 := nj_eq (b := 0) (by omega) (by omega)
  refine ⟨fun u => hno (fun z => u z.1), fun u => ⟨fun u2 => ?_, fun u2 => hno (fun z => u2 (hz.mpr z.2))⟩⟩
  rintro g3 rfl
  have hx : FrX (c_x C) [1409] [] g (sI g 1409 (c_x C) p0) := FrX.sI (by decide)
  have ok : ok_size s p0 := ⟨u, hz.mp u2⟩
  refine hK C _ _ _ (if_pos ok) (if_pos ok) (hx.c he (by decide) (by simp)) rfl (hI.own hx (by decide) (by simp) ⟨?_, by rw [Gi_sI, if_pos ⟨rfl, rfl⟩]; rfl, hI.2.1.2.2⟩ rfl (fun z => z) (fun z => z.cg rfl rfl rfl) (fun z => z) (fun z => z)) (hR.x hx)
  rw [Gi_sI, if_neg (fun z => absurd z.1 (by decide))]; exact hnow
def Sp_PV_press (Γ : GAM) (x : Nat) (p0 : Int32) (g : GH) (K : Int32 → GH → Prop) : Prop := PVC Γ x g K (fun s => p_press s p0) (fun s => q_press s p0)
-- the walk of PV_press
set_option maxRecDepth 100000 in
def B_PV_press_0 (Γ : GAM) (K : Int32 → GH → Prop) (th : Nat) (p0 : Int32) (g : GH) : Prop :=
  Sp_PV_isWithin Γ p0 (1 : Int32) (1000 : Int32) g (fun (x2 : Int32) (g1 : GH) => ((¬ (x2 = 0) → Kd g1 th = 12 ∧ ∃ a3 : Nat, Gr g1 1412 th = some a3 ∧ Kd g1 a3 = 7 ∧ ∀ g4 : GH, g4 = sI g1 774 a3 p0 → K (1 : Int32) g4) ∧ (x2 = 0 → K (0 : Int32) g1)))
set_option maxHeartbeats 4000000 in
set_option maxRecDepth 100000 in
theorem S_PV_press_0 {Γ : GAM} {E : EV} {K : Int32 → GH → Prop} (hE : GE Γ E cX10_press 2 RX10 (some (.boolean)) 1 22 (fun r g' => ∃ x, r = some (.int x) ∧ K x g')) (th : Nat) (p0 : Int32) (g : GH) (h : B_PV_press_0 Γ K th p0 g) : JW Γ E 0 [some (.ref th), some (.int p0)] [] g := by
  unfold B_PV_press_0 at h
  refine j_iload_n hE (by decide +kernel : decode cX10_press 0 = .ok (.iload_n 1, 1)) rfl rfl ?_
  refine j_iconst hE (by decide +kernel : decode cX10_press 1 = .ok (.iconst 1, 1)) (v := (1 : Int32)) (by decide) ?_
  refine j_sipush hE (by decide +kernel : decode cX10_press 2 = .ok (.sipush 1000, 3)) (v := (1000 : Int32)) (by decide) ?_
  refine j_callS hE rfl cl_X10_64 st_X10_isWithin ⟨by omega, by omega⟩ (As := [.int p0, .int (1 : Int32), .int (1000 : Int32)]) (rest := []) rfl rfl (Nat.le_of_ble_eq_true rfl) (by decide +kernel : decode cX10_press 5 = .ok (.invokestatic 64, 3)) (mt_PV_isWithin _ _ _ _ _ h) ?_
  rintro _ g1 ⟨x2, rfl, h⟩
  refine j_if_ne hE (by decide +kernel : decode cX10_press 8 = .ok (.ifCond .ne 5, 3)) (tgt := 13) (by decide) (fun q => ?_) (fun q => ?_)
  · replace h := h.1 q
    refine j_aload_n hE (by decide +kernel : decode cX10_press 13 = .ok (.aload_n 0, 1)) rfl rfl ?_
    obtain ⟨hk, h⟩ := h
    obtain ⟨a3, ha, h⟩ := h
    refine j_getRn hE fg_X10_30 hk ha (by decide +kernel : decode cX10_press 14 = .ok (.getfield 30, 3)) ?_
    refine j_iload_n hE (by decide +kernel : decode cX10_press 17 = .ok (.iload_n 1, 1)) rfl rfl ?_
    obtain ⟨hk, h⟩ := h
    obtain ⟨g4, hg⟩ : ∃ z, z = sI g1 774 a3 p0 := ⟨_, rfl⟩; replace h := h g4 hg
    refine j_putI hE fa_X10_273 hk (fun q => by cases q) (by decide +kernel : decode cX10_press 18 = .ok (.putfield 273, 3)) ?_
    rw [← hg]
    refine j_iconst hE (by decide +kernel : decode cX10_press 21 = .ok (.iconst 1, 1)) (v := (1 : Int32)) (by decide) ?_
    exact j_zret hE (Or.inr rfl) (by decide +kernel : decode cX10_press 22 = .ok (.ireturn, 1)) ⟨_, rfl, h⟩
  · replace h := h.2 q
    refine j_iconst hE (by decide +kernel : decode cX10_press 11 = .ok (.iconst 0, 1)) (v := (0 : Int32)) (by decide) ?_
    exact j_zret hE (Or.inl rfl) (by decide +kernel : decode cX10_press 12 = .ok (.ireturn, 1)) ⟨_, rfl, h⟩
set_option maxHeartbeats 4000000 in
set_option maxRecDepth 100000 in
theorem rl_PV_press {Γ : GAM} {l : Launch} {th : Nat} {p0 : Int32} {g : GH} {K : Int32 → GH → Prop} (h0 : B_PV_press_0 Γ K th p0 g) : MetA Γ l yX10_press cX10_press 2 (some (.boolean)) 1 22 [.ref th, .int p0] g (fun r g' => ∃ x, r = some (.int x) ∧ K x g') := by
  refine MetA.introL (Lx := [some (.ref th), some (.int p0)]) (by decide) (Nat.le_of_ble_eq_true rfl) rfl rfl ?_
  intro E hEl hE hnm
  exact S_PV_press_0 hE th p0 g h0
theorem mt_PV_press {Γ : GAM} {l : Launch} (th : Nat) (p0 : Int32) (g : GH) (K : Int32 → GH → Prop) (h : Sp_PV_press Γ th p0 g K) : MetA Γ l yX10_press cX10_press 2 (some (.boolean)) 1 22 [.ref th, .int p0] g (fun r g' => ∃ x, r = some (.int x) ∧ K x g') := by
  obtain ⟨C, s, n, rfl, hI, hW, hR, hK⟩ := PVC.e h
  have he := hI.en
  obtain ⟨hkd, -, -, ⟨h1, h2⟩, -⟩ := hI.pk
  unfold p_press q_press at hK
  refine rl_PV_press ?_
  simp only [B_PV_press_0, Sp_PV_isWithin, ite_z, Classical.not_not, hkd, h1, h2, true_and, Option.some.injEq, exists_eq_left']
  refine ⟨fun u => ?_, fun u => hK C g _ _ (if_neg u) (if_neg u) (FrC.rf he) rfl hI hR.dn⟩
  rintro g3 rfl
  have hx : FrX (c_pr C) [774] [] g (sI g 774 (c_pr C) p0) := FrX.sI (by decide)
  obtain ⟨q1, q2, q3, q4⟩ := hI.2.2.2.1
  refine hK C _ _ _ (if_pos u) (if_pos u) (hx.c he (by decide) (by simp)) rfl (hI.prn hx (by decide) (by simp) ⟨q1, ?_, by rw [Gi_sI, if_pos ⟨rfl, rfl⟩]; rfl, q4⟩ (fun z => z) rfl (fun z => z.cg rfl rfl rfl) (fun z => z) (fun z => z)) (hR.x hx)
  rw [Gi_sI, if_neg (fun z => absurd z.1 (by decide))]; exact q2
def Sp_PV_stops (Γ : GAM) (x : Nat) (p0 : Int32) (g : GH) (K : Int32 → GH → Prop) : Prop := PVC Γ x g K (fun s => p_stops s p0) (fun s => q_stops s p0)
-- the walk of PV_stops
set_option maxRecDepth 100000 in
def B_PV_stops_0 (Γ : GAM) (K : Int32 → GH → Prop) (th : Nat) (p0 : Int32) (g : GH) : Prop :=
  Sp_PV_isWithin Γ p0 (0 : Int32) (30 : Int32) g (fun (x2 : Int32) (g1 : GH) => ((¬ (x2 = 0) → Kd g1 th = 12 ∧ ∃ a3 : Nat, Gr g1 1413 th = some a3 ∧ Kd g1 a3 = 10 ∧ Sp_Vn_setStop Γ a3 p0 g1 (fun (g4 : GH) => K (1 : Int32) g4)) ∧ (x2 = 0 → K (0 : Int32) g1)))
set_option maxHeartbeats 4000000 in
set_option maxRecDepth 100000 in
theorem S_PV_stops_0 {Γ : GAM} {E : EV} {K : Int32 → GH → Prop} (hE : GE Γ E cX10_stops 2 RX10 (some (.boolean)) 1 22 (fun r g' => ∃ x, r = some (.int x) ∧ K x g')) (th : Nat) (p0 : Int32) (g : GH) (h : B_PV_stops_0 Γ K th p0 g) : JW Γ E 0 [some (.ref th), some (.int p0)] [] g := by
  unfold B_PV_stops_0 at h
  refine j_iload_n hE (by decide +kernel : decode cX10_stops 0 = .ok (.iload_n 1, 1)) rfl rfl ?_
  refine j_iconst hE (by decide +kernel : decode cX10_stops 1 = .ok (.iconst 0, 1)) (v := (0 : Int32)) (by decide) ?_
  refine j_bipush hE (by decide +kernel : decode cX10_stops 2 = .ok (.bipush 30, 2)) (v := (30 : Int32)) (by decide) ?_
  refine j_callS hE rfl cl_X10_64 st_X10_isWithin ⟨by omega, by omega⟩ (As := [.int p0, .int (0 : Int32), .int (30 : Int32)]) (rest := []) rfl rfl (Nat.le_of_ble_eq_true rfl) (by decide +kernel : decode cX10_stops 4 = .ok (.invokestatic 64, 3)) (mt_PV_isWithin _ _ _ _ _ h) ?_
  rintro _ g1 ⟨x2, rfl, h⟩
  refine j_if_ne hE (by decide +kernel : decode cX10_stops 7 = .ok (.ifCond .ne 5, 3)) (tgt := 12) (by decide) (fun q => ?_) (fun q => ?_)
  · replace h := h.1 q
    refine j_aload_n hE (by decide +kernel : decode cX10_stops 12 = .ok (.aload_n 0, 1)) rfl rfl ?_
    obtain ⟨hk, h⟩ := h
    obtain ⟨a3, ha, h⟩ := h
    refine j_getRn hE fg_X10_37 hk ha (by decide +kernel : decode cX10_stops 13 = .ok (.getfield 37, 3)) ?_
    refine j_iload_n hE (by decide +kernel : decode cX10_stops 16 = .ok (.iload_n 1, 1)) rfl rfl ?_
    obtain ⟨hk, h⟩ := h
    refine j_callV hE rfl cl_X10_299 cf_9 im_X8_setStop se_X8_setStop ⟨by omega, by omega⟩ (As := [.int p0]) (rest := []) rfl rfl (Nat.le_of_ble_eq_true rfl) hk (by decide +kernel : decode cX10_stops 17 = .ok (.invokevirtual 299, 3)) (mt_Vn_setStop _ _ _ _ h) ?_
    rintro _ g4 ⟨rfl, h⟩
    refine j_iconst hE (by decide +kernel : decode cX10_stops 20 = .ok (.iconst 1, 1)) (v := (1 : Int32)) (by decide) ?_
    exact j_zret hE (Or.inr rfl) (by decide +kernel : decode cX10_stops 21 = .ok (.ireturn, 1)) ⟨_, rfl, h⟩
  · replace h := h.2 q
    refine j_iconst hE (by decide +kernel : decode cX10_stops 10 = .ok (.iconst 0, 1)) (v := (0 : Int32)) (by decide) ?_
    exact j_zret hE (Or.inl rfl) (by decide +kernel : decode cX10_stops 11 = .ok (.ireturn, 1)) ⟨_, rfl, h⟩
set_option maxHeartbeats 4000000 in
set_option maxRecDepth 100000 in
theorem rl_PV_stops {Γ : GAM} {l : Launch} {th : Nat} {p0 : Int32} {g : GH} {K : Int32 → GH → Prop} (h0 : B_PV_stops_0 Γ K th p0 g) : MetA Γ l yX10_stops cX10_stops 2 (some (.boolean)) 1 22 [.ref th, .int p0] g (fun r g' => ∃ x, r = some (.int x) ∧ K x g') := by
  refine MetA.introL (Lx := [some (.ref th), some (.int p0)]) (by decide) (Nat.le_of_ble_eq_true rfl) rfl rfl ?_
  intro E hEl hE hnm
  exact S_PV_stops_0 hE th p0 g h0
theorem mt_PV_stops {Γ : GAM} {l : Launch} (th : Nat) (p0 : Int32) (g : GH) (K : Int32 → GH → Prop) (h : Sp_PV_stops Γ th p0 g K) : MetA Γ l yX10_stops cX10_stops 2 (some (.boolean)) 1 22 [.ref th, .int p0] g (fun r g' => ∃ x, r = some (.int x) ∧ K x g') := by
  obtain ⟨C, s, n, rfl, hI, hW, hR, hK⟩ := PVC.e h
  have he := hI.en
  obtain ⟨hkd, -, -, -, ⟨h1, h2⟩, -⟩ := hI.pk
  unfold p_stops q_stops at hK
  refine rl_PV_stops ?_
  simp only [B_PV_stops_0, Sp_PV_isWithin, ite_z, Classical.not_not, hkd, h1, h2, true_and, Option.some.injEq, exists_eq_left']
  refine ⟨fun u => ⟨s, hI.2.2.2.2.1, fun g4 hx hV => ?_⟩, fun u => hK C g _ _ (if_neg u) (if_neg u) (FrC.rf he) rfl hI hR.dn⟩
  exact hK C _ _ _ (if_pos u) (if_pos u) (hx.c he (by decide) (by simp)) rfl (hI.van hx (by decide) (by simp) hV (fun z => z) rfl (fun z => z) (fun z => z) (fun z => z)) (hR.x hx)
def Sp_PV_stand (Γ : GAM) (x : Nat) (p0 p1 p2 : Int32) (g : GH) (K : Int32 → GH → Prop) : Prop := PVC Γ x g K (fun s => p_stand s p0 p1 p2) (fun s => q_stand s p0 p1 p2)
-- the walk of PV_stand
set_option maxRecDepth 100000 in
def B_PV_stand_26 (Γ : GAM) (K : Int32 → GH → Prop)  (g : GH) : Prop :=
  K (0 : Int32) g
set_option maxHeartbeats 4000000 in
set_option maxRecDepth 100000 in
theorem S_PV_stand_26 {Γ : GAM} {E : EV} {K : Int32 → GH → Prop} (hE : GE Γ E cX10_stand 4 RX10 (some (.boolean)) 3 65 (fun r g' => ∃ x, r = some (.int x) ∧ K x g'))  (g : GH) (h : B_PV_stand_26 Γ K  g) : JW Γ E 26 [none, none, none, none] [] g := by
  unfold B_PV_stand_26 at h
  refine j_iconst hE (by decide +kernel : decode cX10_stand 26 = .ok (.iconst 0, 1)) (v := (0 : Int32)) (by decide) ?_
  exact j_zret hE (Or.inl rfl) (by decide +kernel : decode cX10_stand 27 = .ok (.ireturn, 1)) ⟨_, rfl, h⟩
set_option maxRecDepth 100000 in
def B_PV_stand_0 (Γ : GAM) (K : Int32 → GH → Prop) (th : Nat) (p0 : Int32) (p1 : Int32) (p2 : Int32) (g : GH) : Prop :=
  Sp_PV_isBox Γ p0 g (fun (x2 : Int32) (g1 : GH) => ((x2 = 0 → B_PV_stand_26 Γ K g1) ∧ (¬ (x2 = 0) → Sp_PV_isMinute Γ p1 g1 (fun (x4 : Int32) (g3 : GH) => ((x4 = 0 → B_PV_stand_26 Γ K g3) ∧ (¬ (x4 = 0) → Sp_PV_isMinute Γ p2 g3 (fun (x6 : Int32) (g5 : GH) => ((x6 = 0 → B_PV_stand_26 Γ K g5) ∧ (¬ (x6 = 0) → ((p1 ≤ p2 → Kd g5 th = 12 ∧ ∃ a7 : Nat, Gr g5 1413 th = some a7 ∧ Kd g5 a7 = 10 ∧ Sp_Vn_setBox Γ a7 p0 p1 p2 g5 (fun (g8 : GH) => K (1 : Int32) g8)) ∧ (¬ (p1 ≤ p2) → B_PV_stand_26 Γ K g5)))))))))))
set_option maxHeartbeats 4000000 in
set_option maxRecDepth 100000 in
theorem S_PV_stand_0 {Γ : GAM} {E : EV} {K : Int32 → GH → Prop} (hE : GE Γ E cX10_stand 4 RX10 (some (.boolean)) 3 65 (fun r g' => ∃ x, r = some (.int x) ∧ K x g')) (th : Nat) (p0 : Int32) (p1 : Int32) (p2 : Int32) (g : GH) (h : B_PV_stand_0 Γ K th p0 p1 p2 g) : JW Γ E 0 [some (.ref th), some (.int p0), some (.int p1), some (.int p2)] [] g := by
  unfold B_PV_stand_0 at h
  refine j_iload_n hE (by decide +kernel : decode cX10_stand 0 = .ok (.iload_n 1, 1)) rfl rfl ?_
  refine j_callS hE rfl cl_X10_137 st_X10_isBox ⟨by omega, by omega⟩ (As := [.int p0]) (rest := []) rfl rfl (Nat.le_of_ble_eq_true rfl) (by decide +kernel : decode cX10_stand 1 = .ok (.invokestatic 137, 3)) (mt_PV_isBox _ _ _ h) ?_
  rintro _ g1 ⟨x2, rfl, h⟩
  refine j_if_eq hE (by decide +kernel : decode cX10_stand 4 = .ok (.ifCond .eq 22, 3)) (tgt := 26) (by decide) (fun q => ?_) (fun q => ?_)
  · replace h := h.1 q
    refine j_weak [none, none, none, none] trivial ?_
    exact S_PV_stand_26 hE _ h
  · replace h := h.2 q
    refine j_iload_n hE (by decide +kernel : decode cX10_stand 7 = .ok (.iload_n 2, 1)) rfl rfl ?_
    refine j_callS hE rfl cl_X10_290 st_X10_isMinute ⟨by omega, by omega⟩ (As := [.int p1]) (rest := []) rfl rfl (Nat.le_of_ble_eq_true rfl) (by decide +kernel : decode cX10_stand 8 = .ok (.invokestatic 290, 3)) (mt_PV_isMinute _ _ _ h) ?_
    rintro _ g3 ⟨x4, rfl, h⟩
    refine j_if_eq hE (by decide +kernel : decode cX10_stand 11 = .ok (.ifCond .eq 15, 3)) (tgt := 26) (by decide) (fun q => ?_) (fun q => ?_)
    · replace h := h.1 q
      refine j_weak [none, none, none, none] trivial ?_
      exact S_PV_stand_26 hE _ h
    · replace h := h.2 q
      refine j_iload_n hE (by decide +kernel : decode cX10_stand 14 = .ok (.iload_n 3, 1)) rfl rfl ?_
      refine j_callS hE rfl cl_X10_290 st_X10_isMinute ⟨by omega, by omega⟩ (As := [.int p2]) (rest := []) rfl rfl (Nat.le_of_ble_eq_true rfl) (by decide +kernel : decode cX10_stand 15 = .ok (.invokestatic 290, 3)) (mt_PV_isMinute _ _ _ h) ?_
      rintro _ g5 ⟨x6, rfl, h⟩
      refine j_if_eq hE (by decide +kernel : decode cX10_stand 18 = .ok (.ifCond .eq 8, 3)) (tgt := 26) (by decide) (fun q => ?_) (fun q => ?_)
      · replace h := h.1 q
        refine j_weak [none, none, none, none] trivial ?_
        exact S_PV_stand_26 hE _ h
      · replace h := h.2 q
        refine j_iload_n hE (by decide +kernel : decode cX10_stand 21 = .ok (.iload_n 3, 1)) rfl rfl ?_
        refine j_iload_n hE (by decide +kernel : decode cX10_stand 22 = .ok (.iload_n 2, 1)) rfl rfl ?_
        refine j_icmp_ge hE (by decide +kernel : decode cX10_stand 23 = .ok (.if_icmp .ge 5, 3)) (tgt := 28) (by decide) (fun q => ?_) (fun q => ?_)
        · replace h := h.1 q
          refine j_aload_n hE (by decide +kernel : decode cX10_stand 28 = .ok (.aload_n 0, 1)) rfl rfl ?_
          obtain ⟨hk, h⟩ := h
          obtain ⟨a7, ha, h⟩ := h
          refine j_getRn hE fg_X10_37 hk ha (by decide +kernel : decode cX10_stand 29 = .ok (.getfield 37, 3)) ?_
          refine j_iload_n hE (by decide +kernel : decode cX10_stand 32 = .ok (.iload_n 1, 1)) rfl rfl ?_
          refine j_iload_n hE (by decide +kernel : decode cX10_stand 33 = .ok (.iload_n 2, 1)) rfl rfl ?_
          refine j_iload_n hE (by decide +kernel : decode cX10_stand 34 = .ok (.iload_n 3, 1)) rfl rfl ?_
          obtain ⟨hk, h⟩ := h
          refine j_callV hE rfl cl_X10_293 cf_9 im_X8_setBox se_X8_setBox ⟨by omega, by omega⟩ (As := [.int p0, .int p1, .int p2]) (rest := []) rfl rfl (Nat.le_of_ble_eq_true rfl) hk (by decide +kernel : decode cX10_stand 35 = .ok (.invokevirtual 293, 3)) (mt_Vn_setBox _ _ _ _ _ _ h) ?_
          rintro _ g8 ⟨rfl, h⟩
          refine j_iconst hE (by decide +kernel : decode cX10_stand 38 = .ok (.iconst 1, 1)) (v := (1 : Int32)) (by decide) ?_
          exact j_zret hE (Or.inr rfl) (by decide +kernel : decode cX10_stand 39 = .ok (.ireturn, 1)) ⟨_, rfl, h⟩
        · replace h := h.2 q
          refine j_weak [none, none, none, none] trivial ?_
          exact S_PV_stand_26 hE _ h
set_option maxHeartbeats 4000000 in
set_option maxRecDepth 100000 in
theorem rl_PV_stand {Γ : GAM} {l : Launch} {th : Nat} {p0 : Int32} {p1 : Int32} {p2 : Int32} {g : GH} {K : Int32 → GH → Prop} (h0 : B_PV_stand_0 Γ K th p0 p1 p2 g) : MetA Γ l yX10_stand cX10_stand 4 (some (.boolean)) 3 65 [.ref th, .int p0, .int p1, .int p2] g (fun r g' => ∃ x, r = some (.int x) ∧ K x g') := by
  refine MetA.introL (Lx := [some (.ref th), some (.int p0), some (.int p1), some (.int p2)]) (by decide) (Nat.le_of_ble_eq_true rfl) rfl rfl ?_
  intro E hEl hE hnm
  exact S_PV_stand_0 hE th p0 p1 p2 g h0
theorem mt_PV_stand {Γ : GAM} {l : Launch} (th : Nat) (p0 : Int32) (p1 : Int32) (p2 : Int32) (g : GH) (K : Int32 → GH → Prop) (h : Sp_PV_stand Γ th p0 p1 p2 g K) : MetA Γ l yX10_stand cX10_stand 4 (some (.boolean)) 3 65 [.ref th, .int p0, .int p1, .int p2] g (fun r g' => ∃ x, r = some (.int x) ∧ K x g') := by
  obtain ⟨C, s, n, rfl, hI, hW, hR, hK⟩ := PVC.e h
  have he := hI.en
  obtain ⟨hkd, -, -, -, ⟨h1, h2⟩, -⟩ := hI.pk
  unfold p_stand q_stand at hK
  refine rl_PV_stand ?_
  have hno : ¬ ok_stand s p0 p1 p2 → K 0 g := fun u => hK C g _ _ (if_neg u) (if_neg u) (FrC.rf he) rfl hI hR.dn
  simp only [B_PV_stand_26, B_PV_stand_0, Sp_PV_isBox, Sp_PV_isMinute, ite_z, Classical.not_not, hkd, h1, h2, true_and, Option.some.injEq, exists_eq_left']
  refine ⟨fun u => hno (fun z => u z.1), fun u => ⟨fun u2 => hno (fun z => u2 z.2.1), fun u2 => ⟨fun u3 => hno (fun z => u3 ⟨Int32.le_trans z.2.1.1 z.2.2.1, z.2.2.2⟩), fun u3 => ⟨fun u4 => ?_, fun u4 => hno (fun z => u4 z.2.2.1)⟩⟩⟩⟩
  have ok : ok_stand s p0 p1 p2 := ⟨u, u2, u4, u3.2⟩
  have hn := nj_of u.1
  have h7 : p0.toNatClampNeg < 8 := by
    have h2 := u.2
    rw [hn.1] at h2
    have := (nj_le (b := 7) hn.2 (by omega)).mp h2
    omega
  refine ⟨s, p0.toNatClampNeg, hI.2.2.2.2.1, hn.1, h7, fun g4 hx hV => ?_⟩
  exact hK C _ _ _ (if_pos ok) (if_pos ok) (hx.c he (by decide) (by decide)) rfl (hI.van hx (by decide) (by decide) hV (fun z => z) rfl (fun z => z) (fun z => z) (fun z => z)) (hR.x hx)
def Sp_PV_road (Γ : GAM) (x : Nat) (p0 p1 p2 : Int32) (g : GH) (K : Int32 → GH → Prop) : Prop := PVC Γ x g K (fun s => p_road s p0 p1 p2) (fun s => q_road s p0 p1 p2)
-- the walk of PV_road
set_option maxRecDepth 100000 in
def B_PV_road_48 (Γ : GAM) (K : Int32 → GH → Prop)  (g : GH) : Prop :=
  K (0 : Int32) g
set_option maxHeartbeats 4000000 in
set_option maxRecDepth 100000 in
theorem S_PV_road_48 {Γ : GAM} {E : EV} {K : Int32 → GH → Prop} (hE : GE Γ E cX10_road 5 RX10 (some (.boolean)) 2 45 (fun r g' => ∃ x, r = some (.int x) ∧ K x g'))  (g : GH) (h : B_PV_road_48 Γ K  g) : JW Γ E 48 [none, none, none, none, none] [] g := by
  unfold B_PV_road_48 at h
  refine j_iconst hE (by decide +kernel : decode cX10_road 48 = .ok (.iconst 0, 1)) (v := (0 : Int32)) (by decide) ?_
  exact j_zret hE (Or.inl rfl) (by decide +kernel : decode cX10_road 49 = .ok (.ireturn, 1)) ⟨_, rfl, h⟩
set_option maxRecDepth 100000 in
def B_PV_road_30 (Γ : GAM) (K : Int32 → GH → Prop) (l0 : Nat) (l1 : Int32) (l2 : Int32) (l3 : Int32) (s0 : Int32) (g : GH) : Prop :=
  ((s0 = 0 → B_PV_road_48 Γ K g) ∧ (¬ (s0 = 0) → Sp_PV_isWithin Γ l3 (1 : Int32) (300 : Int32) g (fun (x2 : Int32) (g1 : GH) => ((¬ (x2 = 0) → Kd g1 l0 = 12 ∧ ∃ a3 : Nat, Gr g1 1413 l0 = some a3 ∧ Kd g1 a3 = 10 ∧ Sp_Vn_setRoad Γ a3 l1 l2 l3 g1 (fun (g4 : GH) => K (1 : Int32) g4)) ∧ (x2 = 0 → B_PV_road_48 Γ K g1)))))
set_option maxHeartbeats 4000000 in
set_option maxRecDepth 100000 in
theorem S_PV_road_30 {Γ : GAM} {E : EV} {K : Int32 → GH → Prop} (hE : GE Γ E cX10_road 5 RX10 (some (.boolean)) 2 45 (fun r g' => ∃ x, r = some (.int x) ∧ K x g')) (l0 : Nat) (l1 : Int32) (l2 : Int32) (l3 : Int32) (s0 : Int32) (g : GH) (h : B_PV_road_30 Γ K l0 l1 l2 l3 s0 g) : JW Γ E 30 [some (.ref l0), some (.int l1), some (.int l2), some (.int l3), none] [.int s0] g := by
  unfold B_PV_road_30 at h
  refine j_istore hE (by decide +kernel : decode cX10_road 30 = .ok (.istore 4, 2)) (Nat.le_of_ble_eq_true rfl) rfl ?_
  refine j_iload hE (by decide +kernel : decode cX10_road 32 = .ok (.iload 4, 2)) rfl ?_
  refine j_if_eq hE (by decide +kernel : decode cX10_road 34 = .ok (.ifCond .eq 14, 3)) (tgt := 48) (by decide) (fun q => ?_) (fun q => ?_)
  · replace h := h.1 q
    refine j_weak [none, none, none, none, none] trivial ?_
    exact S_PV_road_48 hE _ h
  · replace h := h.2 q
    refine j_iload_n hE (by decide +kernel : decode cX10_road 37 = .ok (.iload_n 3, 1)) rfl rfl ?_
    refine j_iconst hE (by decide +kernel : decode cX10_road 38 = .ok (.iconst 1, 1)) (v := (1 : Int32)) (by decide) ?_
    refine j_sipush hE (by decide +kernel : decode cX10_road 39 = .ok (.sipush 300, 3)) (v := (300 : Int32)) (by decide) ?_
    refine j_callS hE rfl cl_X10_64 st_X10_isWithin ⟨by omega, by omega⟩ (As := [.int l3, .int (1 : Int32), .int (300 : Int32)]) (rest := []) rfl rfl (Nat.le_of_ble_eq_true rfl) (by decide +kernel : decode cX10_road 42 = .ok (.invokestatic 64, 3)) (mt_PV_isWithin _ _ _ _ _ h) ?_
    rintro _ g1 ⟨x2, rfl, h⟩
    refine j_if_ne hE (by decide +kernel : decode cX10_road 45 = .ok (.ifCond .ne 5, 3)) (tgt := 50) (by decide) (fun q => ?_) (fun q => ?_)
    · replace h := h.1 q
      refine j_aload_n hE (by decide +kernel : decode cX10_road 50 = .ok (.aload_n 0, 1)) rfl rfl ?_
      obtain ⟨hk, h⟩ := h
      obtain ⟨a3, ha, h⟩ := h
      refine j_getRn hE fg_X10_37 hk ha (by decide +kernel : decode cX10_road 51 = .ok (.getfield 37, 3)) ?_
      refine j_iload_n hE (by decide +kernel : decode cX10_road 54 = .ok (.iload_n 1, 1)) rfl rfl ?_
      refine j_iload_n hE (by decide +kernel : decode cX10_road 55 = .ok (.iload_n 2, 1)) rfl rfl ?_
      refine j_iload_n hE (by decide +kernel : decode cX10_road 56 = .ok (.iload_n 3, 1)) rfl rfl ?_
      obtain ⟨hk, h⟩ := h
      refine j_callV hE rfl cl_X10_296 cf_9 im_X8_setRoad se_X8_setRoad ⟨by omega, by omega⟩ (As := [.int l1, .int l2, .int l3]) (rest := []) rfl rfl (Nat.le_of_ble_eq_true rfl) hk (by decide +kernel : decode cX10_road 57 = .ok (.invokevirtual 296, 3)) (mt_Vn_setRoad _ _ _ _ _ _ h) ?_
      rintro _ g4 ⟨rfl, h⟩
      refine j_iconst hE (by decide +kernel : decode cX10_road 60 = .ok (.iconst 1, 1)) (v := (1 : Int32)) (by decide) ?_
      exact j_zret hE (Or.inr rfl) (by decide +kernel : decode cX10_road 61 = .ok (.ireturn, 1)) ⟨_, rfl, h⟩
    · replace h := h.2 q
      refine j_weak [none, none, none, none, none] trivial ?_
      exact S_PV_road_48 hE _ h
set_option maxRecDepth 100000 in
def B_PV_road_29 (Γ : GAM) (K : Int32 → GH → Prop) (l0 : Nat) (l1 : Int32) (l2 : Int32) (l3 : Int32) (g : GH) : Prop :=
  B_PV_road_30 Γ K l0 l1 l2 l3 (0 : Int32) g
set_option maxHeartbeats 4000000 in
set_option maxRecDepth 100000 in
theorem S_PV_road_29 {Γ : GAM} {E : EV} {K : Int32 → GH → Prop} (hE : GE Γ E cX10_road 5 RX10 (some (.boolean)) 2 45 (fun r g' => ∃ x, r = some (.int x) ∧ K x g')) (l0 : Nat) (l1 : Int32) (l2 : Int32) (l3 : Int32) (g : GH) (h : B_PV_road_29 Γ K l0 l1 l2 l3 g) : JW Γ E 29 [some (.ref l0), some (.int l1), some (.int l2), some (.int l3), none] [] g := by
  unfold B_PV_road_29 at h
  refine j_iconst hE (by decide +kernel : decode cX10_road 29 = .ok (.iconst 0, 1)) (v := (0 : Int32)) (by decide) ?_
  exact S_PV_road_30 hE _ _ _ _ _ _ h
set_option maxRecDepth 100000 in
def B_PV_road_0 (Γ : GAM) (K : Int32 → GH → Prop) (th : Nat) (p0 : Int32) (p1 : Int32) (p2 : Int32) (g : GH) : Prop :=
  Sp_PV_isWithin Γ p0 (0 : Int32) (8 : Int32) g (fun (x2 : Int32) (g1 : GH) => ((x2 = 0 → B_PV_road_29 Γ K th p0 p1 p2 g1) ∧ (¬ (x2 = 0) → Sp_PV_isWithin Γ p1 (0 : Int32) (8 : Int32) g1 (fun (x4 : Int32) (g3 : GH) => ((x4 = 0 → B_PV_road_29 Γ K th p0 p1 p2 g3) ∧ (¬ (x4 = 0) → ((p0 = p1 → B_PV_road_29 Γ K th p0 p1 p2 g3) ∧ (¬ (p0 = p1) → B_PV_road_30 Γ K th p0 p1 p2 (1 : Int32) g3))))))))
set_option maxHeartbeats 4000000 in
set_option maxRecDepth 100000 in
theorem S_PV_road_0 {Γ : GAM} {E : EV} {K : Int32 → GH → Prop} (hE : GE Γ E cX10_road 5 RX10 (some (.boolean)) 2 45 (fun r g' => ∃ x, r = some (.int x) ∧ K x g')) (th : Nat) (p0 : Int32) (p1 : Int32) (p2 : Int32) (g : GH) (h : B_PV_road_0 Γ K th p0 p1 p2 g) : JW Γ E 0 [some (.ref th), some (.int p0), some (.int p1), some (.int p2), none] [] g := by
  unfold B_PV_road_0 at h
  refine j_iload_n hE (by decide +kernel : decode cX10_road 0 = .ok (.iload_n 1, 1)) rfl rfl ?_
  refine j_iconst hE (by decide +kernel : decode cX10_road 1 = .ok (.iconst 0, 1)) (v := (0 : Int32)) (by decide) ?_
  refine j_bipush hE (by decide +kernel : decode cX10_road 2 = .ok (.bipush 8, 2)) (v := (8 : Int32)) (by decide) ?_
  refine j_callS hE rfl cl_X10_64 st_X10_isWithin ⟨by omega, by omega⟩ (As := [.int p0, .int (0 : Int32), .int (8 : Int32)]) (rest := []) rfl rfl (Nat.le_of_ble_eq_true rfl) (by decide +kernel : decode cX10_road 4 = .ok (.invokestatic 64, 3)) (mt_PV_isWithin _ _ _ _ _ h) ?_
  rintro _ g1 ⟨x2, rfl, h⟩
  refine j_if_eq hE (by decide +kernel : decode cX10_road 7 = .ok (.ifCond .eq 22, 3)) (tgt := 29) (by decide) (fun q => ?_) (fun q => ?_)
  · replace h := h.1 q
    exact S_PV_road_29 hE _ _ _ _ _ h
  · replace h := h.2 q
    refine j_iload_n hE (by decide +kernel : decode cX10_road 10 = .ok (.iload_n 2, 1)) rfl rfl ?_
    refine j_iconst hE (by decide +kernel : decode cX10_road 11 = .ok (.iconst 0, 1)) (v := (0 : Int32)) (by decide) ?_
    refine j_bipush hE (by decide +kernel : decode cX10_road 12 = .ok (.bipush 8, 2)) (v := (8 : Int32)) (by decide) ?_
    refine j_callS hE rfl cl_X10_64 st_X10_isWithin ⟨by omega, by omega⟩ (As := [.int p1, .int (0 : Int32), .int (8 : Int32)]) (rest := []) rfl rfl (Nat.le_of_ble_eq_true rfl) (by decide +kernel : decode cX10_road 14 = .ok (.invokestatic 64, 3)) (mt_PV_isWithin _ _ _ _ _ h) ?_
    rintro _ g3 ⟨x4, rfl, h⟩
    refine j_if_eq hE (by decide +kernel : decode cX10_road 17 = .ok (.ifCond .eq 12, 3)) (tgt := 29) (by decide) (fun q => ?_) (fun q => ?_)
    · replace h := h.1 q
      exact S_PV_road_29 hE _ _ _ _ _ h
    · replace h := h.2 q
      refine j_iload_n hE (by decide +kernel : decode cX10_road 20 = .ok (.iload_n 1, 1)) rfl rfl ?_
      refine j_iload_n hE (by decide +kernel : decode cX10_road 21 = .ok (.iload_n 2, 1)) rfl rfl ?_
      refine j_icmp_eq hE (by decide +kernel : decode cX10_road 22 = .ok (.if_icmp .eq 7, 3)) (tgt := 29) (by decide) (fun q => ?_) (fun q => ?_)
      · replace h := h.1 q
        exact S_PV_road_29 hE _ _ _ _ _ h
      · replace h := h.2 q
        refine j_iconst hE (by decide +kernel : decode cX10_road 25 = .ok (.iconst 1, 1)) (v := (1 : Int32)) (by decide) ?_
        refine j_goto hE (by decide +kernel : decode cX10_road 26 = .ok (.goto 4, 3)) (tgt := 30) (by decide) ?_
        exact S_PV_road_30 hE _ _ _ _ _ _ h
set_option maxHeartbeats 4000000 in
set_option maxRecDepth 100000 in
theorem rl_PV_road {Γ : GAM} {l : Launch} {th : Nat} {p0 : Int32} {p1 : Int32} {p2 : Int32} {g : GH} {K : Int32 → GH → Prop} (h0 : B_PV_road_0 Γ K th p0 p1 p2 g) : MetA Γ l yX10_road cX10_road 5 (some (.boolean)) 2 45 [.ref th, .int p0, .int p1, .int p2] g (fun r g' => ∃ x, r = some (.int x) ∧ K x g') := by
  refine MetA.introL (Lx := [some (.ref th), some (.int p0), some (.int p1), some (.int p2), none]) (by decide) (Nat.le_of_ble_eq_true rfl) rfl rfl ?_
  intro E hEl hE hnm
  exact S_PV_road_0 hE th p0 p1 p2 g h0
theorem mt_PV_road {Γ : GAM} {l : Launch} (th : Nat) (p0 : Int32) (p1 : Int32) (p2 : Int32) (g : GH) (K : Int32 → GH → Prop) (h : Sp_PV_road Γ th p0 p1 p2 g K) : MetA Γ l yX10_road cX10_road 5 (some (.boolean)) 2 45 [.ref th, .int p0, .int p1, .int p2] g (fun r g' => ∃ x, r = some (.int x) ∧ K x g') := by
  obtain ⟨C, s, n, rfl, hI, hW, hR, hK⟩ := PVC.e h
  have he := hI.en
  obtain ⟨hkd, -, -, -, ⟨h1, h2⟩, -⟩ := hI.pk
  unfold p_road q_road at hK
  refine rl_PV_road ?_
  have hno : ¬ ok_road s p0 p1 p2 → K 0 g := fun u => hK C g _ _ (if_neg u) (if_neg u) (FrC.rf he) rfl hI hR.dn
  have h29 : ¬ ok_road s p0 p1 p2 → B_PV_road_29 Γ K (c_x C) p0 p1 p2 g := fun u => by
    unfold B_PV_road_29 B_PV_road_30 B_PV_road_48
    exact ⟨fun _ => hno u, fun z => absurd rfl z⟩
  unfold B_PV_road_0
  refine pv_ite (fun u => h29 (fun z => u z.1)) (fun u => pv_ite (fun u2 => h29 (fun z => u2 z.2.1)) (fun u2 => ⟨fun u3 => h29 (fun z => z.2.2.1 u3), fun u3 => ?_⟩))
  unfold B_PV_road_30 B_PV_road_48
  refine ⟨fun z => absurd z (by decide), fun _ => pv_ite' (fun u4 => hno (fun z => u4 z.2.2.2)) (fun u4 => ⟨hkd, _, h1, h2, ?_⟩)⟩
  have ok : ok_road s p0 p1 p2 := ⟨u, u2, u3, u4⟩
  have hn := nj_of u.1
  have hn1 := nj_of u2.1
  have h8 : p0.toNatClampNeg < 9 := by
    have h2 := u.2
    rw [hn.1] at h2
    have := (nj_le (b := 8) hn.2 (by omega)).mp h2
    omega
  have h8' : p1.toNatClampNeg < 9 := by
    have h2 := u2.2
    rw [hn1.1] at h2
    have := (nj_le (b := 8) hn1.2 (by omega)).mp h2
    omega
  have e9 : ∀ a b : Nat, a < 9 → b < 9 → (9 * nI a + nI b).toNatClampNeg = 9 * a + b := fun a b ha hb => by
    have : (9 : Int32) * nI a = nI (9 * a) := nI_mul9 9 a
    rw [this, nI_add9, nj_cl (by omega)]
  refine ⟨s, p0.toNatClampNeg, p1.toNatClampNeg, hI.2.2.2.2.1, hn.1, hn1.1, h8, h8', fun g4 hx hV => ?_⟩
  refine hK C _ _ _ (if_pos ok) (if_pos ok) (hx.c he (by decide) (by decide)) rfl (hI.van hx (by decide) (by decide) ?_ (fun z => z) rfl (fun z => z) (fun z => z) (fun z => z)) (hR.x hx)
  have e1 := e9 _ _ h8 h8'
  have e2 := e9 _ _ h8' h8
  rw [← hn.1, ← hn1.1] at e1
  rw [← hn.1, ← hn1.1] at e2
  rw [e1, e2]
  exact hV
def Sp_PV_ends (Γ : GAM) (x : Nat) (p0 p1 : Int32) (g : GH) (K : Int32 → GH → Prop) : Prop := PVC Γ x g K (fun s => p_ends s p0 p1) (fun s => q_ends s p0 p1)
-- the walk of PV_ends
set_option maxRecDepth 100000 in
def B_PV_ends_14 (Γ : GAM) (K : Int32 → GH → Prop)  (g : GH) : Prop :=
  K (0 : Int32) g
set_option maxHeartbeats 4000000 in
set_option maxRecDepth 100000 in
theorem S_PV_ends_14 {Γ : GAM} {E : EV} {K : Int32 → GH → Prop} (hE : GE Γ E cX10_ends 3 RX10 (some (.boolean)) 2 42 (fun r g' => ∃ x, r = some (.int x) ∧ K x g'))  (g : GH) (h : B_PV_ends_14 Γ K  g) : JW Γ E 14 [none, none, none] [] g := by
  unfold B_PV_ends_14 at h
  refine j_iconst hE (by decide +kernel : decode cX10_ends 14 = .ok (.iconst 0, 1)) (v := (0 : Int32)) (by decide) ?_
  exact j_zret hE (Or.inl rfl) (by decide +kernel : decode cX10_ends 15 = .ok (.ireturn, 1)) ⟨_, rfl, h⟩
set_option maxRecDepth 100000 in
def B_PV_ends_0 (Γ : GAM) (K : Int32 → GH → Prop) (th : Nat) (p0 : Int32) (p1 : Int32) (g : GH) : Prop :=
  Sp_PV_isShire Γ p0 g (fun (x2 : Int32) (g1 : GH) => ((x2 = 0 → B_PV_ends_14 Γ K g1) ∧ (¬ (x2 = 0) → Sp_PV_isDay Γ p1 g1 (fun (x4 : Int32) (g3 : GH) => ((¬ (x4 = 0) → Kd g3 th = 12 ∧ ∃ a5 : Nat, Gr g3 1415 th = some a5 ∧ Kd g3 a5 = 20 ∧ inB p0 (Ln g3 a5) ∧ ∀ g6 : GH, g6 = sA g3 (Co g3 a5) (Ow g3 a5) p0.toNatClampNeg p1 → K (1 : Int32) g6) ∧ (x4 = 0 → B_PV_ends_14 Γ K g3))))))
set_option maxHeartbeats 4000000 in
set_option maxRecDepth 100000 in
theorem S_PV_ends_0 {Γ : GAM} {E : EV} {K : Int32 → GH → Prop} (hE : GE Γ E cX10_ends 3 RX10 (some (.boolean)) 2 42 (fun r g' => ∃ x, r = some (.int x) ∧ K x g')) (th : Nat) (p0 : Int32) (p1 : Int32) (g : GH) (h : B_PV_ends_0 Γ K th p0 p1 g) : JW Γ E 0 [some (.ref th), some (.int p0), some (.int p1)] [] g := by
  unfold B_PV_ends_0 at h
  refine j_iload_n hE (by decide +kernel : decode cX10_ends 0 = .ok (.iload_n 1, 1)) rfl rfl ?_
  refine j_callS hE rfl cl_X10_71 st_X10_isShire ⟨by omega, by omega⟩ (As := [.int p0]) (rest := []) rfl rfl (Nat.le_of_ble_eq_true rfl) (by decide +kernel : decode cX10_ends 1 = .ok (.invokestatic 71, 3)) (mt_PV_isShire _ _ _ h) ?_
  rintro _ g1 ⟨x2, rfl, h⟩
  refine j_if_eq hE (by decide +kernel : decode cX10_ends 4 = .ok (.ifCond .eq 10, 3)) (tgt := 14) (by decide) (fun q => ?_) (fun q => ?_)
  · replace h := h.1 q
    refine j_weak [none, none, none] trivial ?_
    exact S_PV_ends_14 hE _ h
  · replace h := h.2 q
    refine j_iload_n hE (by decide +kernel : decode cX10_ends 7 = .ok (.iload_n 2, 1)) rfl rfl ?_
    refine j_callS hE rfl cl_X10_114 st_X10_isDay ⟨by omega, by omega⟩ (As := [.int p1]) (rest := []) rfl rfl (Nat.le_of_ble_eq_true rfl) (by decide +kernel : decode cX10_ends 8 = .ok (.invokestatic 114, 3)) (mt_PV_isDay _ _ _ h) ?_
    rintro _ g3 ⟨x4, rfl, h⟩
    refine j_if_ne hE (by decide +kernel : decode cX10_ends 11 = .ok (.ifCond .ne 5, 3)) (tgt := 16) (by decide) (fun q => ?_) (fun q => ?_)
    · replace h := h.1 q
      refine j_aload_n hE (by decide +kernel : decode cX10_ends 16 = .ok (.aload_n 0, 1)) rfl rfl ?_
      obtain ⟨hk, h⟩ := h
      obtain ⟨a5, ha, h⟩ := h
      refine j_getRn hE fg_X10_48 hk ha (by decide +kernel : decode cX10_ends 17 = .ok (.getfield 48, 3)) ?_
      refine j_iload_n hE (by decide +kernel : decode cX10_ends 20 = .ok (.iload_n 1, 1)) rfl rfl ?_
      refine j_iload_n hE (by decide +kernel : decode cX10_ends 21 = .ok (.iload_n 2, 1)) rfl rfl ?_
      obtain ⟨hk, hb, h⟩ := h
      obtain ⟨g6, hg⟩ : ∃ z, z = sA g3 (Co g3 a5) (Ow g3 a5) p0.toNatClampNeg p1 := ⟨_, rfl⟩; replace h := h g6 hg
      refine j_iast hE hk hb (by decide +kernel : decode cX10_ends 22 = .ok (.iastore, 1)) ?_
      rw [← hg]
      refine j_iconst hE (by decide +kernel : decode cX10_ends 23 = .ok (.iconst 1, 1)) (v := (1 : Int32)) (by decide) ?_
      exact j_zret hE (Or.inr rfl) (by decide +kernel : decode cX10_ends 24 = .ok (.ireturn, 1)) ⟨_, rfl, h⟩
    · replace h := h.2 q
      refine j_weak [none, none, none] trivial ?_
      exact S_PV_ends_14 hE _ h
set_option maxHeartbeats 4000000 in
set_option maxRecDepth 100000 in
theorem rl_PV_ends {Γ : GAM} {l : Launch} {th : Nat} {p0 : Int32} {p1 : Int32} {g : GH} {K : Int32 → GH → Prop} (h0 : B_PV_ends_0 Γ K th p0 p1 g) : MetA Γ l yX10_ends cX10_ends 3 (some (.boolean)) 2 42 [.ref th, .int p0, .int p1] g (fun r g' => ∃ x, r = some (.int x) ∧ K x g') := by
  refine MetA.introL (Lx := [some (.ref th), some (.int p0), some (.int p1)]) (by decide) (Nat.le_of_ble_eq_true rfl) rfl rfl ?_
  intro E hEl hE hnm
  exact S_PV_ends_0 hE th p0 p1 g h0
theorem mt_PV_ends {Γ : GAM} {l : Launch} (th : Nat) (p0 : Int32) (p1 : Int32) (g : GH) (K : Int32 → GH → Prop) (h : Sp_PV_ends Γ th p0 p1 g K) : MetA Γ l yX10_ends cX10_ends 3 (some (.boolean)) 2 42 [.ref th, .int p0, .int p1] g (fun r g' => ∃ x, r = some (.int x) ∧ K x g') := by
  obtain ⟨C, s, n, rfl, hI, hW, hR, hK⟩ := PVC.e h
  have he := hI.en
  obtain ⟨hkd, -, -, -, -, -, hnow, hsiz⟩ := hI.pk
  obtain ⟨a, a1, a2, a3, a4, a5⟩ := hI.1.2.2.2.1.e
  unfold p_ends q_ends at hK
  refine rl_PV_ends ?_
  have hno : ¬ ok_ends s p0 p1 → K 0 g := fun u => hK C g _ _ (if_neg u) (if_neg u) (FrC.rf he) rfl hI hR.dn
  simp only [B_PV_ends_14, B_PV_ends_0, Sp_PV_isShire, Sp_PV_isDay, ite_z, Classical.not_not, hkd, a1, a2, a3, a4, a5, true_and, Option.some.injEq, exists_eq_left']
  refine ⟨fun u => hno (fun z => u z.1), fun u => ⟨fun u2 => ⟨?_, ?_⟩, fun u2 => hno (fun z => u2 z.2)⟩⟩
  · exact ⟨u.1, by
      have hn := nj_of u.1
      have h2 := u.2
      rw [hn.1] at h2
      have := (nj_le (b := 3) hn.2 (by omega)).mp h2
      omega⟩
  rintro g3 rfl
  have hx : FrX (c_x C) [] [1415] g (sA g 1415 (c_x C) p0.toNatClampNeg p1) := FrX.sA (by decide)
  have ok : ok_ends s p0 p1 := ⟨u, u2⟩
  refine hK C _ _ _ (if_pos ok) (if_pos ok) (hx.c he (by simp) (by decide)) rfl (hI.own hx (by simp) (by decide) ⟨hnow, hsiz, fun k hk => ?_⟩ rfl (fun z => z) (fun z => z.cg rfl rfl rfl) (fun z => z) (fun z => z)) (hR.x hx)
  rw [Ia_sA]
  show _ = if k = p0.toNatClampNeg then p1 else s_las s k
  by_cases z : k = p0.toNatClampNeg
  · rw [if_pos ⟨rfl, rfl, z⟩, if_pos z]
  · rw [if_neg (fun w => z w.2.2), if_neg z]
    exact hI.2.1.2.2 k hk
