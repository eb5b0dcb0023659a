/-! the reference: its small methods, and the calls that tell it things -/
/-! what a telling call of the reference leaves alone: all but its own fields -/
def FrL (m : Nat) (g g' : GH) : Prop := (∀ f a, (a ≠ m ∨ f < 1536 ∨ 1664 ≤ f) → Gi g' f a = Gi g f a) ∧ Gr g' = Gr g ∧ (∀ c o, (o ≠ m ∨ c < 1536 ∨ 1664 ≤ c) → Ia g' c o = Ia g c o) ∧ Ra g' = Ra g ∧ La g' = La g ∧ Kd g' = Kd g ∧ Co g' = Co g ∧ Ow g' = Ow g ∧ Ln g' = Ln g ∧ Lq g' = Lq g ∧ Hn g' = Hn g ∧ Hu g' = Hu g
theorem FrL.rf {m : Nat} {g : GH} : FrL m g g := ⟨fun _ _ _ => rfl, rfl, fun _ _ _ => rfl, rfl, rfl, rfl, rfl, rfl, rfl, rfl, rfl, rfl⟩
theorem FrL.tr {m : Nat} {g g1 g2 : GH} (h : FrL m g g1) (k : FrL m g1 g2) : FrL m g g2 := by
  obtain ⟨a1, a2, a3, a4, a5, a6, a7, a8, a9, a10, a11, a12⟩ := h
  obtain ⟨b1, b2, b3, b4, b5, b6, b7, b8, b9, b10, b11, b12⟩ := k
  exact ⟨fun f a n => (b1 f a n).trans (a1 f a n), b2.trans a2, fun c o n => (b3 c o n).trans (a3 c o n), b4.trans a4, b5.trans a5, b6.trans a6, b7.trans a7, b8.trans a8, b9.trans a9, b10.trans a10, b11.trans a11, b12.trans a12⟩
theorem FrL.sI {m : Nat} {g : GH} {f : Nat} {v : Int32} (hf : 1536 ≤ f ∧ f < 1664 := by decide) : FrL m g (sI g f m v) := ⟨fun f' a h => by rw [Gi_sI, if_neg (fun q => by omega)], rfl, fun _ _ _ => rfl, rfl, rfl, rfl, rfl, rfl, rfl, rfl, rfl, rfl⟩
theorem FrL.sA {m : Nat} {g : GH} {c i : Nat} {v : Int32} (hf : 1536 ≤ c ∧ c < 1664 := by decide) : FrL m g (sA g c m i v) := ⟨fun _ _ _ => rfl, rfl, fun c' o h => by funext j; rw [Ia_sA, if_neg (fun q => by omega)], rfl, rfl, rfl, rfl, rfl, rfl, rfl, rfl, rfl⟩
theorem FrL.s {m : Nat} {ma : Nat → Nat} {g g' : GH} (h : FrL m g g') (k : RefS m ma g) : RefS m ma g' := by
  obtain ⟨a1, a2, a3, a4, a5, a6, a7, a8, a9, a10, a11, a12⟩ := h
  unfold RefS
  rw [a2, a6, a7, a8, a9]
  exact k
theorem FrX.l {m : Nat} {fs cs : List Nat} {g g' : GH} (h : FrX m fs cs g g') (h1 : ∀ f ∈ fs, 1536 ≤ f ∧ f < 1664) (h2 : ∀ c ∈ cs, 1536 ≤ c ∧ c < 1664) : FrL m g g' := by
  obtain ⟨⟨x1, x2, x3, x4, x5, x6, x7, x8, x9, x10, x11, x12⟩, y1, y2⟩ := h
  refine ⟨fun f a q => ?_, x2, fun c o q => ?_, x4, x5, x6, x7, x8, x9, x10, x11, x12⟩
  · by_cases e : a = m
    · subst e
      exact y1 f (fun z => by have := h1 f z; omega)
    · exact x1 f a e
  · by_cases e : o = m
    · subst e
      exact y2 c (fun z => by have := h2 c z; omega)
    · exact x3 c o e
def Sp_M_in (Γ : GAM) (v a b : Int32) (g : GH) (K : Int32 → GH → Prop) : Prop := K (if a ≤ v ∧ v ≤ b then 1 else 0) g
-- the walk of M_in
set_option maxRecDepth 100000 in
def B_M_in_15 (Γ : GAM) (K : Int32 → GH → Prop) (s0 : Int32) (g : GH) : Prop :=
  ((s0 = 0 ∨ s0 = 1) ∧ K s0 g)
set_option maxHeartbeats 4000000 in
set_option maxRecDepth 100000 in
theorem S_M_in_15 {Γ : GAM} {E : EV} {K : Int32 → GH → Prop} (hE : GE Γ E cX11_in 3 RX11 (some (.boolean)) 0 0 (fun r g' => ∃ x, r = some (.int x) ∧ K x g')) (s0 : Int32) (g : GH) (h : B_M_in_15 Γ K s0 g) : JW Γ E 15 [none, none, none] [.int s0] g := by
  unfold B_M_in_15 at h
  exact j_zret hE h.1 (by decide +kernel : decode cX11_in 15 = .ok (.ireturn, 1)) ⟨_, rfl, h.2⟩
set_option maxRecDepth 100000 in
def B_M_in_14 (Γ : GAM) (K : Int32 → GH → Prop)  (g : GH) : Prop :=
  B_M_in_15 Γ K (0 : Int32) g
set_option maxHeartbeats 4000000 in
set_option maxRecDepth 100000 in
theorem S_M_in_14 {Γ : GAM} {E : EV} {K : Int32 → GH → Prop} (hE : GE Γ E cX11_in 3 RX11 (some (.boolean)) 0 0 (fun r g' => ∃ x, r = some (.int x) ∧ K x g'))  (g : GH) (h : B_M_in_14 Γ K  g) : JW Γ E 14 [none, none, none] [] g := by
  unfold B_M_in_14 at h
  refine j_iconst hE (by decide +kernel : decode cX11_in 14 = .ok (.iconst 0, 1)) (v := (0 : Int32)) (by decide) ?_
  exact S_M_in_15 hE _ _ h
set_option maxRecDepth 100000 in
def B_M_in_0 (Γ : GAM) (K : Int32 → GH → Prop) (p0 : Int32) (p1 : Int32) (p2 : Int32) (g : GH) : Prop :=
  ((p0 < p1 → B_M_in_14 Γ K g) ∧ (¬ (p0 < p1) → ((p2 < p0 → B_M_in_14 Γ K g) ∧ (¬ (p2 < p0) → B_M_in_15 Γ K (1 : Int32) g))))
set_option maxHeartbeats 4000000 in
set_option maxRecDepth 100000 in
theorem S_M_in_0 {Γ : GAM} {E : EV} {K : Int32 → GH → Prop} (hE : GE Γ E cX11_in 3 RX11 (some (.boolean)) 0 0 (fun r g' => ∃ x, r = some (.int x) ∧ K x g')) (p0 : Int32) (p1 : Int32) (p2 : Int32) (g : GH) (h : B_M_in_0 Γ K p0 p1 p2 g) : JW Γ E 0 [some (.int p0), some (.int p1), some (.int p2)] [] g := by
  unfold B_M_in_0 at h
  refine j_iload_n hE (by decide +kernel : decode cX11_in 0 = .ok (.iload_n 0, 1)) rfl rfl ?_
  refine j_iload_n hE (by decide +kernel : decode cX11_in 1 = .ok (.iload_n 1, 1)) rfl rfl ?_
  refine j_icmp_lt hE (by decide +kernel : decode cX11_in 2 = .ok (.if_icmp .lt 12, 3)) (tgt := 14) (by decide) (fun q => ?_) (fun q => ?_)
  · replace h := h.1 q
    refine j_weak [none, none, none] trivial ?_
    exact S_M_in_14 hE _ h
  · replace h := h.2 q
    refine j_iload_n hE (by decide +kernel : decode cX11_in 5 = .ok (.iload_n 0, 1)) rfl rfl ?_
    refine j_iload_n hE (by decide +kernel : decode cX11_in 6 = .ok (.iload_n 2, 1)) rfl rfl ?_
    refine j_icmp_gt hE (by decide +kernel : decode cX11_in 7 = .ok (.if_icmp .gt 7, 3)) (tgt := 14) (by decide) (fun q => ?_) (fun q => ?_)
    · replace h := h.1 q
      refine j_weak [none, none, none] trivial ?_
      exact S_M_in_14 hE _ h
    · replace h := h.2 q
      refine j_iconst hE (by decide +kernel : decode cX11_in 10 = .ok (.iconst 1, 1)) (v := (1 : Int32)) (by decide) ?_
      refine j_goto hE (by decide +kernel : decode cX11_in 11 = .ok (.goto 4, 3)) (tgt := 15) (by decide) ?_
      refine j_weak [none, none, none] trivial ?_
      exact S_M_in_15 hE _ _ h
set_option maxHeartbeats 4000000 in
set_option maxRecDepth 100000 in
theorem rl_M_in {Γ : GAM} {l : Launch} {p0 : Int32} {p1 : Int32} {p2 : Int32} {g : GH} {K : Int32 → GH → Prop} (h0 : B_M_in_0 Γ K p0 p1 p2 g) : MetA Γ l yX11_in cX11_in 3 (some (.boolean)) 0 0 [.int p0, .int p1, .int p2] g (fun r g' => ∃ x, r = some (.int x) ∧ K x g') := by
  refine MetA.introL (Lx := [some (.int p0), some (.int p1), some (.int p2)]) (by decide) (Nat.le_of_ble_eq_true rfl) rfl rfl ?_
  intro E hEl hE hnm
  exact S_M_in_0 hE p0 p1 p2 g h0
theorem mt_M_in {Γ : GAM} {l : Launch} (p0 : Int32) (p1 : Int32) (p2 : Int32) (g : GH) (K : Int32 → GH → Prop) (h : Sp_M_in Γ p0 p1 p2 g K) : MetA Γ l yX11_in cX11_in 3 (some (.boolean)) 0 0 [.int p0, .int p1, .int p2] g (fun r g' => ∃ x, r = some (.int x) ∧ K x g') := by
  refine rl_M_in ?_
  unfold Sp_M_in at h
  unfold B_M_in_0 B_M_in_14 B_M_in_15
  refine ⟨fun q => ?_, fun q => ⟨fun q2 => ?_, fun q2 => ?_⟩⟩
  · rw [if_neg (fun z => absurd z.1 (Int32.not_le.mpr q))] at h
    exact ⟨Or.inl rfl, h⟩
  · rw [if_neg (fun z => absurd z.2 (Int32.not_le.mpr q2))] at h
    exact ⟨Or.inl rfl, h⟩
  · rw [if_pos ⟨Int32.not_lt.mp q, Int32.not_lt.mp q2⟩] at h
    exact ⟨Or.inr rfl, h⟩
theorem ite01 {p : Prop} (d : Decidable p) : (@ite Int32 p d 1 0) = 0 ∨ (@ite Int32 p d 1 0) = 1 := by
  by_cases h : p <;> simp [h]
def Sp_M_isShire (Γ : GAM) (v : Int32) (g : GH) (K : Int32 → GH → Prop) : Prop := K (if 0 ≤ v ∧ v ≤ 3 then 1 else 0) g
-- the walk of M_isShire
set_option maxRecDepth 100000 in
def B_M_isShire_0 (Γ : GAM) (K : Int32 → GH → Prop) (p0 : Int32) (g : GH) : Prop :=
  Sp_M_in Γ p0 (0 : Int32) (3 : Int32) g (fun (x2 : Int32) (g1 : GH) => ((x2 = 0 ∨ x2 = 1) ∧ K x2 g1))
set_option maxHeartbeats 4000000 in
set_option maxRecDepth 100000 in
theorem S_M_isShire_0 {Γ : GAM} {E : EV} {K : Int32 → GH → Prop} (hE : GE Γ E cX11_isShire 1 RX11 (some (.boolean)) 1 22 (fun r g' => ∃ x, r = some (.int x) ∧ K x g')) (p0 : Int32) (g : GH) (h : B_M_isShire_0 Γ K p0 g) : JW Γ E 0 [some (.int p0)] [] g := by
  unfold B_M_isShire_0 at h
  refine j_iload_n hE (by decide +kernel : decode cX11_isShire 0 = .ok (.iload_n 0, 1)) rfl rfl ?_
  refine j_iconst hE (by decide +kernel : decode cX11_isShire 1 = .ok (.iconst 0, 1)) (v := (0 : Int32)) (by decide) ?_
  refine j_iconst hE (by decide +kernel : decode cX11_isShire 2 = .ok (.iconst 3, 1)) (v := (3 : Int32)) (by decide) ?_
  refine j_callS hE rfl cl_X11_213 st_X11_in ⟨by omega, by omega⟩ (As := [.int p0, .int (0 : Int32), .int (3 : Int32)]) (rest := []) rfl rfl (Nat.le_of_ble_eq_true rfl) (by decide +kernel : decode cX11_isShire 3 = .ok (.invokestatic 213, 3)) (mt_M_in _ _ _ _ _ h) ?_
  rintro _ g1 ⟨x2, rfl, h⟩
  exact j_zret hE h.1 (by decide +kernel : decode cX11_isShire 6 = .ok (.ireturn, 1)) ⟨_, rfl, h.2⟩
set_option maxHeartbeats 4000000 in
set_option maxRecDepth 100000 in
theorem rl_M_isShire {Γ : GAM} {l : Launch} {p0 : Int32} {g : GH} {K : Int32 → GH → Prop} (h0 : B_M_isShire_0 Γ K p0 g) : MetA Γ l yX11_isShire cX11_isShire 1 (some (.boolean)) 1 22 [.int p0] g (fun r g' => ∃ x, r = some (.int x) ∧ K x g') := by
  refine MetA.introL (Lx := [some (.int p0)]) (by decide) (Nat.le_of_ble_eq_true rfl) rfl rfl ?_
  intro E hEl hE hnm
  exact S_M_isShire_0 hE p0 g h0
theorem mt_M_isShire {Γ : GAM} {l : Launch} (p0 : Int32) (g : GH) (K : Int32 → GH → Prop) (h : Sp_M_isShire Γ p0 g K) : MetA Γ l yX11_isShire cX11_isShire 1 (some (.boolean)) 1 22 [.int p0] g (fun r g' => ∃ x, r = some (.int x) ∧ K x g') := by
  exact rl_M_isShire ⟨ite01 _, h⟩
def Sp_M_isVoter (Γ : GAM) (m : Nat) (v : Int32) (g : GH) (K : Int32 → GH → Prop) : Prop := Kd g m = 13 ∧ K (if 0 ≤ v ∧ v ≤ Gi g 1537 m - 1 then 1 else 0) g
-- the walk of M_isVoter
set_option maxRecDepth 100000 in
def B_M_isVoter_0 (Γ : GAM) (K : Int32 → GH → Prop) (th : Nat) (p0 : Int32) (g : GH) : Prop :=
  Kd g th = 13 ∧ Sp_M_in Γ p0 (0 : Int32) ((Gi g 1537 th) - (1 : Int32)) g (fun (x2 : Int32) (g1 : GH) => ((x2 = 0 ∨ x2 = 1) ∧ K x2 g1))
set_option maxHeartbeats 4000000 in
set_option maxRecDepth 100000 in
theorem S_M_isVoter_0 {Γ : GAM} {E : EV} {K : Int32 → GH → Prop} (hE : GE Γ E cX11_isVoter 2 RX11 (some (.boolean)) 1 22 (fun r g' => ∃ x, r = some (.int x) ∧ K x g')) (th : Nat) (p0 : Int32) (g : GH) (h : B_M_isVoter_0 Γ K th p0 g) : JW Γ E 0 [some (.ref th), some (.int p0)] [] g := by
  unfold B_M_isVoter_0 at h
  refine j_iload_n hE (by decide +kernel : decode cX11_isVoter 0 = .ok (.iload_n 1, 1)) rfl rfl ?_
  refine j_iconst hE (by decide +kernel : decode cX11_isVoter 1 = .ok (.iconst 0, 1)) (v := (0 : Int32)) (by decide) ?_
  refine j_aload_n hE (by decide +kernel : decode cX11_isVoter 2 = .ok (.aload_n 0, 1)) rfl rfl ?_
  obtain ⟨hk, h⟩ := h
  refine j_getI hE fg_X11_220 hk (by decide +kernel : decode cX11_isVoter 3 = .ok (.getfield 220, 3)) ?_
  refine j_iconst hE (by decide +kernel : decode cX11_isVoter 6 = .ok (.iconst 1, 1)) (v := (1 : Int32)) (by decide) ?_
  refine j_isub hE (by decide +kernel : decode cX11_isVoter 7 = .ok (.isub, 1)) ?_
  refine j_callS hE rfl cl_X11_213 st_X11_in ⟨by omega, by omega⟩ (As := [.int p0, .int (0 : Int32), .int ((Gi g 1537 th) - (1 : Int32))]) (rest := []) rfl rfl (Nat.le_of_ble_eq_true rfl) (by decide +kernel : decode cX11_isVoter 8 = .ok (.invokestatic 213, 3)) (mt_M_in _ _ _ _ _ h) ?_
  rintro _ g1 ⟨x2, rfl, h⟩
  exact j_zret hE h.1 (by decide +kernel : decode cX11_isVoter 11 = .ok (.ireturn, 1)) ⟨_, rfl, h.2⟩
set_option maxHeartbeats 4000000 in
set_option maxRecDepth 100000 in
theorem rl_M_isVoter {Γ : GAM} {l : Launch} {th : Nat} {p0 : Int32} {g : GH} {K : Int32 → GH → Prop} (h0 : B_M_isVoter_0 Γ K th p0 g) : MetA Γ l yX11_isVoter cX11_isVoter 2 (some (.boolean)) 1 22 [.ref th, .int p0] g (fun r g' => ∃ x, r = some (.int x) ∧ K x g') := by
  refine MetA.introL (Lx := [some (.ref th), some (.int p0)]) (by decide) (Nat.le_of_ble_eq_true rfl) rfl rfl ?_
  intro E hEl hE hnm
  exact S_M_isVoter_0 hE th p0 g h0
theorem mt_M_isVoter {Γ : GAM} {l : Launch} (th : Nat) (p0 : Int32) (g : GH) (K : Int32 → GH → Prop) (h : Sp_M_isVoter Γ th p0 g K) : MetA Γ l yX11_isVoter cX11_isVoter 2 (some (.boolean)) 1 22 [.ref th, .int p0] g (fun r g' => ∃ x, r = some (.int x) ∧ K x g') := by
  exact rl_M_isVoter ⟨h.1, ite01 _, h.2⟩
def Sp_M_isKnowing (Γ : GAM) (m : Nat) (v : Int32) (g : GH) (K : Int32 → GH → Prop) : Prop := Kd g m = 13 ∧ K (if 0 ≤ v ∧ v ≤ Gi g 1536 m then 1 else 0) g
-- the walk of M_isKnowing
set_option maxRecDepth 100000 in
def B_M_isKnowing_0 (Γ : GAM) (K : Int32 → GH → Prop) (th : Nat) (p0 : Int32) (g : GH) : Prop :=
  Kd g th = 13 ∧ Sp_M_in Γ p0 (0 : Int32) (Gi g 1536 th) g (fun (x2 : Int32) (g1 : GH) => ((x2 = 0 ∨ x2 = 1) ∧ K x2 g1))
set_option maxHeartbeats 4000000 in
set_option maxRecDepth 100000 in
theorem S_M_isKnowing_0 {Γ : GAM} {E : EV} {K : Int32 → GH → Prop} (hE : GE Γ E cX11_isKnowing 2 RX11 (some (.boolean)) 1 22 (fun r g' => ∃ x, r = some (.int x) ∧ K x g')) (th : Nat) (p0 : Int32) (g : GH) (h : B_M_isKnowing_0 Γ K th p0 g) : JW Γ E 0 [some (.ref th), some (.int p0)] [] g := by
  unfold B_M_isKnowing_0 at h
  refine j_iload_n hE (by decide +kernel : decode cX11_isKnowing 0 = .ok (.iload_n 1, 1)) rfl rfl ?_
  refine j_iconst hE (by decide +kernel : decode cX11_isKnowing 1 = .ok (.iconst 0, 1)) (v := (0 : Int32)) (by decide) ?_
  refine j_aload_n hE (by decide +kernel : decode cX11_isKnowing 2 = .ok (.aload_n 0, 1)) rfl rfl ?_
  obtain ⟨hk, h⟩ := h
  refine j_getI hE fg_X11_217 hk (by decide +kernel : decode cX11_isKnowing 3 = .ok (.getfield 217, 3)) ?_
  refine j_callS hE rfl cl_X11_213 st_X11_in ⟨by omega, by omega⟩ (As := [.int p0, .int (0 : Int32), .int (Gi g 1536 th)]) (rest := []) rfl rfl (Nat.le_of_ble_eq_true rfl) (by decide +kernel : decode cX11_isKnowing 6 = .ok (.invokestatic 213, 3)) (mt_M_in _ _ _ _ _ h) ?_
  rintro _ g1 ⟨x2, rfl, h⟩
  exact j_zret hE h.1 (by decide +kernel : decode cX11_isKnowing 9 = .ok (.ireturn, 1)) ⟨_, rfl, h.2⟩
set_option maxHeartbeats 4000000 in
set_option maxRecDepth 100000 in
theorem rl_M_isKnowing {Γ : GAM} {l : Launch} {th : Nat} {p0 : Int32} {g : GH} {K : Int32 → GH → Prop} (h0 : B_M_isKnowing_0 Γ K th p0 g) : MetA Γ l yX11_isKnowing cX11_isKnowing 2 (some (.boolean)) 1 22 [.ref th, .int p0] g (fun r g' => ∃ x, r = some (.int x) ∧ K x g') := by
  refine MetA.introL (Lx := [some (.ref th), some (.int p0)]) (by decide) (Nat.le_of_ble_eq_true rfl) rfl rfl ?_
  intro E hEl hE hnm
  exact S_M_isKnowing_0 hE th p0 g h0
theorem mt_M_isKnowing {Γ : GAM} {l : Launch} (th : Nat) (p0 : Int32) (g : GH) (K : Int32 → GH → Prop) (h : Sp_M_isKnowing Γ th p0 g K) : MetA Γ l yX11_isKnowing cX11_isKnowing 2 (some (.boolean)) 1 22 [.ref th, .int p0] g (fun r g' => ∃ x, r = some (.int x) ∧ K x g') := by
  exact rl_M_isKnowing ⟨h.1, ite01 _, h.2⟩
def Sp_M_isEnvelope (Γ : GAM) (m : Nat) (v : Int32) (g : GH) (K : Int32 → GH → Prop) : Prop := Kd g m = 13 ∧ K (if 0 ≤ v ∧ v ≤ Gi g 1539 m - 1 then 1 else 0) g
-- the walk of M_isEnvelope
set_option maxRecDepth 100000 in
def B_M_isEnvelope_0 (Γ : GAM) (K : Int32 → GH → Prop) (th : Nat) (p0 : Int32) (g : GH) : Prop :=
  Kd g th = 13 ∧ Sp_M_in Γ p0 (0 : Int32) ((Gi g 1539 th) - (1 : Int32)) g (fun (x2 : Int32) (g1 : GH) => ((x2 = 0 ∨ x2 = 1) ∧ K x2 g1))
set_option maxHeartbeats 4000000 in
set_option maxRecDepth 100000 in
theorem S_M_isEnvelope_0 {Γ : GAM} {E : EV} {K : Int32 → GH → Prop} (hE : GE Γ E cX11_isEnvelope 2 RX11 (some (.boolean)) 1 22 (fun r g' => ∃ x, r = some (.int x) ∧ K x g')) (th : Nat) (p0 : Int32) (g : GH) (h : B_M_isEnvelope_0 Γ K th p0 g) : JW Γ E 0 [some (.ref th), some (.int p0)] [] g := by
  unfold B_M_isEnvelope_0 at h
  refine j_iload_n hE (by decide +kernel : decode cX11_isEnvelope 0 = .ok (.iload_n 1, 1)) rfl rfl ?_
  refine j_iconst hE (by decide +kernel : decode cX11_isEnvelope 1 = .ok (.iconst 0, 1)) (v := (0 : Int32)) (by decide) ?_
  refine j_aload_n hE (by decide +kernel : decode cX11_isEnvelope 2 = .ok (.aload_n 0, 1)) rfl rfl ?_
  obtain ⟨hk, h⟩ := h
  refine j_getI hE fg_X11_241 hk (by decide +kernel : decode cX11_isEnvelope 3 = .ok (.getfield 241, 3)) ?_
  refine j_iconst hE (by decide +kernel : decode cX11_isEnvelope 6 = .ok (.iconst 1, 1)) (v := (1 : Int32)) (by decide) ?_
  refine j_isub hE (by decide +kernel : decode cX11_isEnvelope 7 = .ok (.isub, 1)) ?_
  refine j_callS hE rfl cl_X11_213 st_X11_in ⟨by omega, by omega⟩ (As := [.int p0, .int (0 : Int32), .int ((Gi g 1539 th) - (1 : Int32))]) (rest := []) rfl rfl (Nat.le_of_ble_eq_true rfl) (by decide +kernel : decode cX11_isEnvelope 8 = .ok (.invokestatic 213, 3)) (mt_M_in _ _ _ _ _ h) ?_
  rintro _ g1 ⟨x2, rfl, h⟩
  exact j_zret hE h.1 (by decide +kernel : decode cX11_isEnvelope 11 = .ok (.ireturn, 1)) ⟨_, rfl, h.2⟩
set_option maxHeartbeats 4000000 in
set_option maxRecDepth 100000 in
theorem rl_M_isEnvelope {Γ : GAM} {l : Launch} {th : Nat} {p0 : Int32} {g : GH} {K : Int32 → GH → Prop} (h0 : B_M_isEnvelope_0 Γ K th p0 g) : MetA Γ l yX11_isEnvelope cX11_isEnvelope 2 (some (.boolean)) 1 22 [.ref th, .int p0] g (fun r g' => ∃ x, r = some (.int x) ∧ K x g') := by
  refine MetA.introL (Lx := [some (.ref th), some (.int p0)]) (by decide) (Nat.le_of_ble_eq_true rfl) rfl rfl ?_
  intro E hEl hE hnm
  exact S_M_isEnvelope_0 hE th p0 g h0
theorem mt_M_isEnvelope {Γ : GAM} {l : Launch} (th : Nat) (p0 : Int32) (g : GH) (K : Int32 → GH → Prop) (h : Sp_M_isEnvelope Γ th p0 g K) : MetA Γ l yX11_isEnvelope cX11_isEnvelope 2 (some (.boolean)) 1 22 [.ref th, .int p0] g (fun r g' => ∃ x, r = some (.int x) ∧ K x g') := by
  exact rl_M_isEnvelope ⟨h.1, ite01 _, h.2⟩
def okS (v : Int32) : Prop := 0 ≤ v ∧ v ≤ 3
def p_days (s : ST) (n : Int32) : Int32 := if 0 ≤ n ∧ n ≤ 400 ∧ s_now s + n ≤ 400 then s_now s + n else -1
def q_days (s : ST) (n : Int32) : ST := if 0 ≤ n ∧ n ≤ 400 ∧ s_now s + n ≤ 400 then u_now s (s_now s + n) else s
def Sp_M_days (Γ : GAM) (m : Nat) (n : Int32) (g : GH) (K : Int32 → GH → Prop) : Prop := ∃ ma s, RefI m ma g s ∧ ∀ g', FrL m g g' → RefI m ma g' (q_days s n) → K (p_days s n) g'
-- the walk of M_days
set_option maxRecDepth 100000 in
def B_M_days_23 (Γ : GAM) (K : Int32 → GH → Prop)  (g : GH) : Prop :=
  K (-1 : Int32) g
set_option maxHeartbeats 4000000 in
set_option maxRecDepth 100000 in
theorem S_M_days_23 {Γ : GAM} {E : EV} {K : Int32 → GH → Prop} (hE : GE Γ E cX11_days 2 RX11 (some (.int)) 1 22 (fun r g' => ∃ x, r = some (.int x) ∧ K x g'))  (g : GH) (h : B_M_days_23 Γ K  g) : JW Γ E 23 [none, none] [] g := by
  unfold B_M_days_23 at h
  refine j_iconst hE (by decide +kernel : decode cX11_days 23 = .ok (.iconst (-1), 1)) (v := (-1 : Int32)) (by decide) ?_
  exact j_iret hE (by decide +kernel : decode cX11_days 24 = .ok (.ireturn, 1)) ⟨_, rfl, h⟩
set_option maxRecDepth 100000 in
def B_M_days_0 (Γ : GAM) (K : Int32 → GH → Prop) (th : Nat) (p0 : Int32) (g : GH) : Prop :=
  Sp_M_in Γ p0 (0 : Int32) (400 : Int32) g (fun (x2 : Int32) (g1 : GH) => ((x2 = 0 → B_M_days_23 Γ K g1) ∧ (¬ (x2 = 0) → Kd g1 th = 13 ∧ ((((Gi g1 1536 th) + p0) ≤ (400 : Int32) → Kd g1 th = 13 ∧ Kd g1 th = 13 ∧ ∀ g3 : GH, g3 = sI g1 1536 th ((Gi g1 1536 th) + p0) → Kd g3 th = 13 ∧ K (Gi g3 1536 th) g3) ∧ (¬ (((Gi g1 1536 th) + p0) ≤ (400 : Int32)) → B_M_days_23 Γ K g1)))))
set_option maxHeartbeats 4000000 in
set_option maxRecDepth 100000 in
theorem S_M_days_0 {Γ : GAM} {E : EV} {K : Int32 → GH → Prop} (hE : GE Γ E cX11_days 2 RX11 (some (.int)) 1 22 (fun r g' => ∃ x, r = some (.int x) ∧ K x g')) (th : Nat) (p0 : Int32) (g : GH) (h : B_M_days_0 Γ K th p0 g) : JW Γ E 0 [some (.ref th), some (.int p0)] [] g := by
  unfold B_M_days_0 at h
  refine j_iload_n hE (by decide +kernel : decode cX11_days 0 = .ok (.iload_n 1, 1)) rfl rfl ?_
  refine j_iconst hE (by decide +kernel : decode cX11_days 1 = .ok (.iconst 0, 1)) (v := (0 : Int32)) (by decide) ?_
  refine j_sipush hE (by decide +kernel : decode cX11_days 2 = .ok (.sipush 400, 3)) (v := (400 : Int32)) (by decide) ?_
  refine j_callS hE rfl cl_X11_213 st_X11_in ⟨by omega, by omega⟩ (As := [.int p0, .int (0 : Int32), .int (400 : Int32)]) (rest := []) rfl rfl (Nat.le_of_ble_eq_true rfl) (by decide +kernel : decode cX11_days 5 = .ok (.invokestatic 213, 3)) (mt_M_in _ _ _ _ _ h) ?_
  rintro _ g1 ⟨x2, rfl, h⟩
  refine j_if_eq hE (by decide +kernel : decode cX11_days 8 = .ok (.ifCond .eq 15, 3)) (tgt := 23) (by decide) (fun q => ?_) (fun q => ?_)
  · replace h := h.1 q
    refine j_weak [none, none] trivial ?_
    exact S_M_days_23 hE _ h
  · replace h := h.2 q
    refine j_aload_n hE (by decide +kernel : decode cX11_days 11 = .ok (.aload_n 0, 1)) rfl rfl ?_
    obtain ⟨hk, h⟩ := h
    refine j_getI hE fg_X11_217 hk (by decide +kernel : decode cX11_days 12 = .ok (.getfield 217, 3)) ?_
    refine j_iload_n hE (by decide +kernel : decode cX11_days 15 = .ok (.iload_n 1, 1)) rfl rfl ?_
    refine j_iadd hE (by decide +kernel : decode cX11_days 16 = .ok (.iadd, 1)) ?_
    refine j_sipush hE (by decide +kernel : decode cX11_days 17 = .ok (.sipush 400, 3)) (v := (400 : Int32)) (by decide) ?_
    refine j_icmp_le hE (by decide +kernel : decode cX11_days 20 = .ok (.if_icmp .le 5, 3)) (tgt := 25) (by decide) (fun q => ?_) (fun q => ?_)
    · replace h := h.1 q
      refine j_aload_n hE (by decide +kernel : decode cX11_days 25 = .ok (.aload_n 0, 1)) rfl rfl ?_
      refine j_dup hE (by decide +kernel : decode cX11_days 26 = .ok (.dup, 1)) rfl ?_
      obtain ⟨hk, h⟩ := h
      refine j_getI hE fg_X11_217 hk (by decide +kernel : decode cX11_days 27 = .ok (.getfield 217, 3)) ?_
      refine j_iload_n hE (by decide +kernel : decode cX11_days 30 = .ok (.iload_n 1, 1)) rfl rfl ?_
      refine j_iadd hE (by decide +kernel : decode cX11_days 31 = .ok (.iadd, 1)) ?_
      obtain ⟨hk, h⟩ := h
      obtain ⟨g3, hg⟩ : ∃ z, z = sI g1 1536 th ((Gi g1 1536 th) + p0) := ⟨_, rfl⟩; replace h := h g3 hg
      refine j_putI hE fa_X11_217 hk (fun q => by cases q) (by decide +kernel : decode cX11_days 32 = .ok (.putfield 217, 3)) ?_
      rw [← hg]
      refine j_aload_n hE (by decide +kernel : decode cX11_days 35 = .ok (.aload_n 0, 1)) rfl rfl ?_
      obtain ⟨hk, h⟩ := h
      refine j_getI hE fg_X11_217 hk (by decide +kernel : decode cX11_days 36 = .ok (.getfield 217, 3)) ?_
      exact j_iret hE (by decide +kernel : decode cX11_days 39 = .ok (.ireturn, 1)) ⟨_, rfl, h⟩
    · replace h := h.2 q
      refine j_weak [none, none] trivial ?_
      exact S_M_days_23 hE _ h
set_option maxHeartbeats 4000000 in
set_option maxRecDepth 100000 in
theorem rl_M_days {Γ : GAM} {l : Launch} {th : Nat} {p0 : Int32} {g : GH} {K : Int32 → GH → Prop} (h0 : B_M_days_0 Γ K th p0 g) : MetA Γ l yX11_days cX11_days 2 (some (.int)) 1 22 [.ref th, .int p0] g (fun r g' => ∃ x, r = some (.int x) ∧ K x g') := by
  refine MetA.introL (Lx := [some (.ref th), some (.int p0)]) (by decide) (Nat.le_of_ble_eq_true rfl) rfl rfl ?_
  intro E hEl hE hnm
  exact S_M_days_0 hE th p0 g h0
theorem mt_M_days {Γ : GAM} {l : Launch} (th : Nat) (p0 : Int32) (g : GH) (K : Int32 → GH → Prop) (h : Sp_M_days Γ th p0 g K) : MetA Γ l yX11_days cX11_days 2 (some (.int)) 1 22 [.ref th, .int p0] g (fun r g' => ∃ x, r = some (.int x) ∧ K x g') := by
  obtain ⟨ma, s, hI, hK⟩ := h
  refine rl_M_days ?_
  have hkd := hI.1.1
  have hno : ¬ (0 ≤ p0 ∧ p0 ≤ 400 ∧ s_now s + p0 ≤ 400) → K (-1) g := fun hn => by
    unfold p_days q_days at hK
    rw [if_neg hn, if_neg hn] at hK
    exact hK g FrL.rf hI
  have hyes : (0 ≤ p0 ∧ p0 ≤ 400 ∧ s_now s + p0 ≤ 400) → K (s_now s + p0) (sI g 1536 th (s_now s + p0)) := fun hn => by
    unfold p_days q_days at hK
    rw [if_pos hn, if_pos hn] at hK
    refine hK _ FrL.sI ?_
    obtain ⟨i1, i2, i3⟩ := hI
    exact ⟨i1, by simp [Gi_sI, s_now_u_now], i3⟩
  simp only [B_M_days_23, B_M_days_0, Sp_M_in, ifz, hkd, hI.now, true_and, Kd_sI, Gi_sI, forall_eq, and_self, if_true]
  repeat' with_reducible first | apply And.intro | intro _
  all_goals first | exact hno (by grind) | exact hyes (by grind)
