/-! the reference: small methods -/
def bI (p : Prop) (h : Decidable p) : Int32 := @ite Int32 p h 1 0
def Sp_M_in (Γ : GAM) (v a b : Int32) (g : GH) (K : Int32 → GH → Prop) : Prop := K (if a ≤ v ∧ v ≤ b then 1 else 0) g
-- the walk of M_in
def B_M_in_15 (Γ : GAM) (K : Int32 → GH → Prop) (s0 : Int32) (g : GH) : Prop :=
  ((s0 = 0 ∨ s0 = 1) ∧ K s0 g)
set_option maxHeartbeats 4000000 in
set_option maxRecDepth 100000 in
theorem S_M_in_15 {Γ : GAM} {E : EV} {K : Int32 → GH → Prop} (hE : GE Γ E cX11_in 3 RX11 (some (.boolean)) 0 0 (fun r g' => ∃ x, r = some (.int x) ∧ K x g')) (s0 : Int32) (g : GH) (h : B_M_in_15 Γ K s0 g) : JW Γ E 15 [none, none, none] [.int s0] g := by
  unfold B_M_in_15 at h
  exact j_zret hE h.1 (by decide +kernel : decode cX11_in 15 = .ok (.ireturn, 1)) ⟨_, rfl, h.2⟩
def B_M_in_14 (Γ : GAM) (K : Int32 → GH → Prop)  (g : GH) : Prop :=
  B_M_in_15 Γ K (0 : Int32) g
set_option maxHeartbeats 4000000 in
set_option maxRecDepth 100000 in
theorem S_M_in_14 {Γ : GAM} {E : EV} {K : Int32 → GH → Prop} (hE : GE Γ E cX11_in 3 RX11 (some (.boolean)) 0 0 (fun r g' => ∃ x, r = some (.int x) ∧ K x g'))  (g : GH) (h : B_M_in_14 Γ K  g) : JW Γ E 14 [none, none, none] [] g := by
  unfold B_M_in_14 at h
  refine j_iconst hE (by decide +kernel : decode cX11_in 14 = .ok (.iconst 0, 1)) (v := (0 : Int32)) (by decide) ?_
  exact S_M_in_15 hE _ _ h
def B_M_in_0 (Γ : GAM) (K : Int32 → GH → Prop) (p0 : Int32) (p1 : Int32) (p2 : Int32) (g : GH) : Prop :=
  ((p0 < p1 → B_M_in_14 Γ K g) ∧ (¬ (p0 < p1) → ((p2 < p0 → B_M_in_14 Γ K g) ∧ (¬ (p2 < p0) → B_M_in_15 Γ K (1 : Int32) g))))
set_option maxHeartbeats 4000000 in
set_option maxRecDepth 100000 in
theorem S_M_in_0 {Γ : GAM} {E : EV} {K : Int32 → GH → Prop} (hE : GE Γ E cX11_in 3 RX11 (some (.boolean)) 0 0 (fun r g' => ∃ x, r = some (.int x) ∧ K x g')) (p0 : Int32) (p1 : Int32) (p2 : Int32) (g : GH) (h : B_M_in_0 Γ K p0 p1 p2 g) : JW Γ E 0 [some (.int p0), some (.int p1), some (.int p2)] [] g := by
  unfold B_M_in_0 at h
  refine j_iload_n hE (by decide +kernel : decode cX11_in 0 = .ok (.iload_n 0, 1)) rfl rfl ?_
  refine j_iload_n hE (by decide +kernel : decode cX11_in 1 = .ok (.iload_n 1, 1)) rfl rfl ?_
  refine j_icmp_lt hE (by decide +kernel : decode cX11_in 2 = .ok (.if_icmp .lt 12, 3)) (tgt := 14) (by decide) (fun q => ?_) (fun q => ?_)
  · have h := h.1 q
    refine j_weak [none, none, none] trivial ?_
    exact S_M_in_14 hE _ h
  · have h := h.2 q
    refine j_iload_n hE (by decide +kernel : decode cX11_in 5 = .ok (.iload_n 0, 1)) rfl rfl ?_
    refine j_iload_n hE (by decide +kernel : decode cX11_in 6 = .ok (.iload_n 2, 1)) rfl rfl ?_
    refine j_icmp_gt hE (by decide +kernel : decode cX11_in 7 = .ok (.if_icmp .gt 7, 3)) (tgt := 14) (by decide) (fun q => ?_) (fun q => ?_)
    · have h := h.1 q
      refine j_weak [none, none, none] trivial ?_
      exact S_M_in_14 hE _ h
    · have h := h.2 q
      refine j_iconst hE (by decide +kernel : decode cX11_in 10 = .ok (.iconst 1, 1)) (v := (1 : Int32)) (by decide) ?_
      refine j_goto hE (by decide +kernel : decode cX11_in 11 = .ok (.goto 4, 3)) (tgt := 15) (by decide) ?_
      refine j_weak [none, none, none] trivial ?_
      exact S_M_in_15 hE _ _ h
set_option maxHeartbeats 4000000 in
set_option maxRecDepth 100000 in
theorem rl_M_in {Γ : GAM} {l : Launch} {p0 : Int32} {p1 : Int32} {p2 : Int32} {g : GH} {K : Int32 → GH → Prop} (h0 : B_M_in_0 Γ K p0 p1 p2 g) : MetA Γ l yX11_in cX11_in 3 (some (.boolean)) 0 0 [.int p0, .int p1, .int p2] g (fun r g' => ∃ x, r = some (.int x) ∧ K x g') := by
  refine MetA.introL (Lx := [some (.int p0), some (.int p1), some (.int p2)]) (by decide) (Nat.le_of_ble_eq_true rfl) rfl rfl ?_
  intro E hEl hE hnm
  exact S_M_in_0 hE p0 p1 p2 g h0
theorem mt_M_in {Γ : GAM} {l : Launch} (p0 : Int32) (p1 : Int32) (p2 : Int32) (g : GH) (K : Int32 → GH → Prop) (h : Sp_M_in Γ p0 p1 p2 g K) : MetA Γ l yX11_in cX11_in 3 (some (.boolean)) 0 0 [.int p0, .int p1, .int p2] g (fun r g' => ∃ x, r = some (.int x) ∧ K x g') := by
  refine rl_M_in ?_
  unfold Sp_M_in at h
  unfold B_M_in_0 B_M_in_14 B_M_in_15
  refine ⟨fun q => ?_, fun q => ⟨fun q2 => ?_, fun q2 => ?_⟩⟩
  · rw [if_neg (fun z => absurd z.1 (Int32.not_le.mpr q))] at h
    exact ⟨Or.inl rfl, h⟩
  · rw [if_neg (fun z => absurd z.2 (Int32.not_le.mpr q2))] at h
    exact ⟨Or.inl rfl, h⟩
  · rw [if_pos ⟨Int32.not_lt.mp q, Int32.not_lt.mp q2⟩] at h
    exact ⟨Or.inr rfl, h⟩
def Sp_M_isVoter (Γ : GAM) (m : Nat) (v : Int32) (g : GH) (K : Int32 → GH → Prop) : Prop := Kd g m = 13 ∧ K (if 0 ≤ v ∧ v ≤ Gi g 1537 m - 1 then 1 else 0) g
-- the walk of M_isVoter
def B_M_isVoter_0 (Γ : GAM) (K : Int32 → GH → Prop) (th : Nat) (p0 : Int32) (g : GH) : Prop :=
  Kd g th = 13 ∧ Sp_M_in Γ p0 (0 : Int32) ((Gi g 1537 th) - (1 : Int32)) g (fun (x2 : Int32) (g1 : GH) => ((x2 = 0 ∨ x2 = 1) ∧ K x2 g1))
set_option maxHeartbeats 4000000 in
set_option maxRecDepth 100000 in
theorem S_M_isVoter_0 {Γ : GAM} {E : EV} {K : Int32 → GH → Prop} (hE : GE Γ E cX11_isVoter 2 RX11 (some (.boolean)) 1 22 (fun r g' => ∃ x, r = some (.int x) ∧ K x g')) (th : Nat) (p0 : Int32) (g : GH) (h : B_M_isVoter_0 Γ K th p0 g) : JW Γ E 0 [some (.ref th), some (.int p0)] [] g := by
  unfold B_M_isVoter_0 at h
  refine j_iload_n hE (by decide +kernel : decode cX11_isVoter 0 = .ok (.iload_n 1, 1)) rfl rfl ?_
  refine j_iconst hE (by decide +kernel : decode cX11_isVoter 1 = .ok (.iconst 0, 1)) (v := (0 : Int32)) (by decide) ?_
  refine j_aload_n hE (by decide +kernel : decode cX11_isVoter 2 = .ok (.aload_n 0, 1)) rfl rfl ?_
  obtain ⟨hk, h⟩ := h
  refine j_getI hE fg_X11_220 hk (by decide +kernel : decode cX11_isVoter 3 = .ok (.getfield 220, 3)) ?_
  refine j_iconst hE (by decide +kernel : decode cX11_isVoter 6 = .ok (.iconst 1, 1)) (v := (1 : Int32)) (by decide) ?_
  refine j_isub hE (by decide +kernel : decode cX11_isVoter 7 = .ok (.isub, 1)) ?_
  refine j_callS hE rfl cl_X11_213 st_X11_in ⟨by omega, by omega⟩ (As := [.int p0, .int (0 : Int32), .int ((Gi g 1537 th) - (1 : Int32))]) (rest := []) rfl rfl (Nat.le_of_ble_eq_true rfl) (by decide +kernel : decode cX11_isVoter 8 = .ok (.invokestatic 213, 3)) (mt_M_in _ _ _ _ _ h) ?_
  rintro _ g1 ⟨x2, rfl, h⟩
  exact j_zret hE h.1 (by decide +kernel : decode cX11_isVoter 11 = .ok (.ireturn, 1)) ⟨_, rfl, h.2⟩
set_option maxHeartbeats 4000000 in
set_option maxRecDepth 100000 in
theorem rl_M_isVoter {Γ : GAM} {l : Launch} {th : Nat} {p0 : Int32} {g : GH} {K : Int32 → GH → Prop} (h0 : B_M_isVoter_0 Γ K th p0 g) : MetA Γ l yX11_isVoter cX11_isVoter 2 (some (.boolean)) 1 22 [.ref th, .int p0] g (fun r g' => ∃ x, r = some (.int x) ∧ K x g') := by
  refine MetA.introL (Lx := [some (.ref th), some (.int p0)]) (by decide) (Nat.le_of_ble_eq_true rfl) rfl rfl ?_
  intro E hEl hE hnm
  exact S_M_isVoter_0 hE th p0 g h0
theorem mt_M_isVoter {Γ : GAM} {l : Launch} (th : Nat) (p0 : Int32) (g : GH) (K : Int32 → GH → Prop) (h : Sp_M_isVoter Γ th p0 g K) : MetA Γ l yX11_isVoter cX11_isVoter 2 (some (.boolean)) 1 22 [.ref th, .int p0] g (fun r g' => ∃ x, r = some (.int x) ∧ K x g') := by
  refine rl_M_isVoter ?_
  sorry
-- the walk of M_shireOn
def B_M_shireOn_86 (Γ : GAM) (K14 : Nat → Int32 → Int32 → Int32 → Int32 → Int32 → Int32 → GH → Prop) (K : Int32 → GH → Prop) (l0 : Nat) (l1 : Int32) (l2 : Int32) (l3 : Int32) (l4 : Int32) (l5 : Int32) (l6 : Int32) (g : GH) : Prop :=
  K14 l0 l1 l2 l3 l4 l5 (l6 + (1 : Int32)) g
set_option maxHeartbeats 4000000 in
set_option maxRecDepth 100000 in
theorem S_M_shireOn_86 {Γ : GAM} {E : EV} {K : Int32 → GH → Prop} (hE : GE Γ E cX11_shireOn 7 RX11 (some (.int)) 0 0 (fun r g' => ∃ x, r = some (.int x) ∧ K x g')) {K14 : Nat → Int32 → Int32 → Int32 → Int32 → Int32 → Int32 → GH → Prop} (hK14 : ∀ (l0 : Nat) (l1 : Int32) (l2 : Int32) (l3 : Int32) (l4 : Int32) (l5 : Int32) (l6 : Int32) (g : GH), K14 l0 l1 l2 l3 l4 l5 l6 g → JW Γ E 14 [some (.ref l0), some (.int l1), some (.int l2), some (.int l3), some (.int l4), some (.int l5), some (.int l6)] [] g) (l0 : Nat) (l1 : Int32) (l2 : Int32) (l3 : Int32) (l4 : Int32) (l5 : Int32) (l6 : Int32) (g : GH) (h : B_M_shireOn_86 Γ K14 K l0 l1 l2 l3 l4 l5 l6 g) : JW Γ E 86 [some (.ref l0), some (.int l1), some (.int l2), some (.int l3), some (.int l4), some (.int l5), some (.int l6)] [] g := by
  unfold B_M_shireOn_86 at h
  refine j_iinc hE (by decide +kernel : decode cX11_shireOn 86 = .ok (.iinc 6 1, 3)) (v := (1 : Int32)) (by decide) rfl (Nat.le_of_ble_eq_true rfl) rfl ?_
  refine j_goto hE (by decide +kernel : decode cX11_shireOn 89 = .ok (.goto (-75), 3)) (tgt := 14) (by decide) ?_
  exact hK14 _ _ _ _ _ _ _ _ h
def B_M_shireOn_14 (Γ : GAM) (K14 : Nat → Int32 → Int32 → Int32 → Int32 → Int32 → Int32 → GH → Prop) (K : Int32 → GH → Prop) (l0 : Nat) (l1 : Int32) (l2 : Int32) (l3 : Int32) (l4 : Int32) (l5 : Int32) (l6 : Int32) (g : GH) : Prop :=
  Kd g l0 = 13 ∧ (((Gi g 1538 l0) ≤ l6 → K l4 g) ∧ (¬ ((Gi g 1538 l0) ≤ l6) → Kd g l0 = 13 ∧ ∃ a1 : Nat, Gr g 1552 l0 = some a1 ∧ Kd g a1 = 20 ∧ inB l6 (Ln g a1) ∧ ((¬ ((Ia g (Co g a1) (Ow g a1) l6.toNatClampNeg) = l1) → B_M_shireOn_86 Γ K14 K l0 l1 l2 l3 l4 l5 l6 g) ∧ ((Ia g (Co g a1) (Ow g a1) l6.toNatClampNeg) = l1 → Kd g l0 = 13 ∧ ∃ a2 : Nat, Gr g 1555 l0 = some a2 ∧ Kd g a2 = 20 ∧ inB l6 (Ln g a2) ∧ ((l3 < (Ia g (Co g a2) (Ow g a2) l6.toNatClampNeg) → B_M_shireOn_86 Γ K14 K l0 l1 l2 l3 l4 l5 l6 g) ∧ (¬ (l3 < (Ia g (Co g a2) (Ow g a2) l6.toNatClampNeg)) → Kd g l0 = 13 ∧ ∃ a3 : Nat, Gr g 1554 l0 = some a3 ∧ Kd g a3 = 20 ∧ inB l6 (Ln g a3) ∧ ((l2 < (Ia g (Co g a3) (Ow g a3) l6.toNatClampNeg) → B_M_shireOn_86 Γ K14 K l0 l1 l2 l3 l4 l5 l6 g) ∧ (¬ (l2 < (Ia g (Co g a3) (Ow g a3) l6.toNatClampNeg)) → Kd g l0 = 13 ∧ ∃ a4 : Nat, Gr g 1554 l0 = some a4 ∧ Kd g a4 = 20 ∧ inB l6 (Ln g a4) ∧ (((Ia g (Co g a4) (Ow g a4) l6.toNatClampNeg) < l5 → B_M_shireOn_86 Γ K14 K l0 l1 l2 l3 l4 l5 l6 g) ∧ (¬ ((Ia g (Co g a4) (Ow g a4) l6.toNatClampNeg) < l5) → Kd g l0 = 13 ∧ ∃ a5 : Nat, Gr g 1553 l0 = some a5 ∧ Kd g a5 = 20 ∧ inB l6 (Ln g a5) ∧ ∀ x6 : Int32, x6 = (Ia g (Co g a5) (Ow g a5) l6.toNatClampNeg) → Kd g l0 = 13 ∧ ∃ a7 : Nat, Gr g 1554 l0 = some a7 ∧ Kd g a7 = 20 ∧ inB l6 (Ln g a7) ∧ ∀ x8 : Int32, x8 = (Ia g (Co g a7) (Ow g a7) l6.toNatClampNeg) → B_M_shireOn_86 Γ K14 K l0 l1 l2 l3 x6 x8 l6 g))))))))))
set_option maxHeartbeats 4000000 in
set_option maxRecDepth 100000 in
theorem S_M_shireOn_14 {Γ : GAM} {E : EV} {K : Int32 → GH → Prop} (hE : GE Γ E cX11_shireOn 7 RX11 (some (.int)) 0 0 (fun r g' => ∃ x, r = some (.int x) ∧ K x g')) {K14 : Nat → Int32 → Int32 → Int32 → Int32 → Int32 → Int32 → GH → Prop} (hK14 : ∀ (l0 : Nat) (l1 : Int32) (l2 : Int32) (l3 : Int32) (l4 : Int32) (l5 : Int32) (l6 : Int32) (g : GH), K14 l0 l1 l2 l3 l4 l5 l6 g → JW Γ E 14 [some (.ref l0), some (.int l1), some (.int l2), some (.int l3), some (.int l4), some (.int l5), some (.int l6)] [] g) (l0 : Nat) (l1 : Int32) (l2 : Int32) (l3 : Int32) (l4 : Int32) (l5 : Int32) (l6 : Int32) (g : GH) (h : B_M_shireOn_14 Γ K14 K l0 l1 l2 l3 l4 l5 l6 g) : JW Γ E 14 [some (.ref l0), some (.int l1), some (.int l2), some (.int l3), some (.int l4), some (.int l5), some (.int l6)] [] g := by
  unfold B_M_shireOn_14 at h
  refine j_iload hE (by decide +kernel : decode cX11_shireOn 14 = .ok (.iload 6, 2)) rfl ?_
  refine j_aload_n hE (by decide +kernel : decode cX11_shireOn 16 = .ok (.aload_n 0, 1)) rfl rfl ?_
  obtain ⟨hk, h⟩ := h
  refine j_getI hE fg_X11_231 hk (by decide +kernel : decode cX11_shireOn 17 = .ok (.getfield 231, 3)) ?_
  refine j_icmp_ge hE (by decide +kernel : decode cX11_shireOn 20 = .ok (.if_icmp .ge 72, 3)) (tgt := 92) (by decide) (fun q => ?_) (fun q => ?_)
  · have h := h.1 q
    refine j_iload hE (by decide +kernel : decode cX11_shireOn 92 = .ok (.iload 4, 2)) rfl ?_
    exact j_iret hE (by decide +kernel : decode cX11_shireOn 94 = .ok (.ireturn, 1)) ⟨_, rfl, h⟩
  · have h := h.2 q
    refine j_aload_n hE (by decide +kernel : decode cX11_shireOn 23 = .ok (.aload_n 0, 1)) rfl rfl ?_
    obtain ⟨hk, h⟩ := h
    obtain ⟨a1, ha, h⟩ := h
    refine j_getRn hE fg_X11_23 hk ha (by decide +kernel : decode cX11_shireOn 24 = .ok (.getfield 23, 3)) ?_
    refine j_iload hE (by decide +kernel : decode cX11_shireOn 27 = .ok (.iload 6, 2)) rfl ?_
    obtain ⟨hk, hb, h⟩ := h
    refine j_iald hE hk hb (by decide +kernel : decode cX11_shireOn 29 = .ok (.iaload, 1)) ?_
    refine j_iload_n hE (by decide +kernel : decode cX11_shireOn 30 = .ok (.iload_n 1, 1)) rfl rfl ?_
    refine j_icmp_ne hE (by decide +kernel : decode cX11_shireOn 31 = .ok (.if_icmp .ne 55, 3)) (tgt := 86) (by decide) (fun q => ?_) (fun q => ?_)
    · have h := h.1 q
      exact S_M_shireOn_86 hE hK14 _ _ _ _ _ _ _ _ h
    · have h := h.2 q
      refine j_aload_n hE (by decide +kernel : decode cX11_shireOn 34 = .ok (.aload_n 0, 1)) rfl rfl ?_
      obtain ⟨hk, h⟩ := h
      obtain ⟨a2, ha, h⟩ := h
      refine j_getRn hE fg_X11_32 hk ha (by decide +kernel : decode cX11_shireOn 35 = .ok (.getfield 32, 3)) ?_
      refine j_iload hE (by decide +kernel : decode cX11_shireOn 38 = .ok (.iload 6, 2)) rfl ?_
      obtain ⟨hk, hb, h⟩ := h
      refine j_iald hE hk hb (by decide +kernel : decode cX11_shireOn 40 = .ok (.iaload, 1)) ?_
      refine j_iload_n hE (by decide +kernel : decode cX11_shireOn 41 = .ok (.iload_n 3, 1)) rfl rfl ?_
      refine j_icmp_gt hE (by decide +kernel : decode cX11_shireOn 42 = .ok (.if_icmp .gt 44, 3)) (tgt := 86) (by decide) (fun q => ?_) (fun q => ?_)
      · have h := h.1 q
        exact S_M_shireOn_86 hE hK14 _ _ _ _ _ _ _ _ h
      · have h := h.2 q
        refine j_aload_n hE (by decide +kernel : decode cX11_shireOn 45 = .ok (.aload_n 0, 1)) rfl rfl ?_
        obtain ⟨hk, h⟩ := h
        obtain ⟨a3, ha, h⟩ := h
        refine j_getRn hE fg_X11_29 hk ha (by decide +kernel : decode cX11_shireOn 46 = .ok (.getfield 29, 3)) ?_
        refine j_iload hE (by decide +kernel : decode cX11_shireOn 49 = .ok (.iload 6, 2)) rfl ?_
        obtain ⟨hk, hb, h⟩ := h
        refine j_iald hE hk hb (by decide +kernel : decode cX11_shireOn 51 = .ok (.iaload, 1)) ?_
        refine j_iload_n hE (by decide +kernel : decode cX11_shireOn 52 = .ok (.iload_n 2, 1)) rfl rfl ?_
        refine j_icmp_gt hE (by decide +kernel : decode cX11_shireOn 53 = .ok (.if_icmp .gt 33, 3)) (tgt := 86) (by decide) (fun q => ?_) (fun q => ?_)
        · have h := h.1 q
          exact S_M_shireOn_86 hE hK14 _ _ _ _ _ _ _ _ h
        · have h := h.2 q
          refine j_aload_n hE (by decide +kernel : decode cX11_shireOn 56 = .ok (.aload_n 0, 1)) rfl rfl ?_
          obtain ⟨hk, h⟩ := h
          obtain ⟨a4, ha, h⟩ := h
          refine j_getRn hE fg_X11_29 hk ha (by decide +kernel : decode cX11_shireOn 57 = .ok (.getfield 29, 3)) ?_
          refine j_iload hE (by decide +kernel : decode cX11_shireOn 60 = .ok (.iload 6, 2)) rfl ?_
          obtain ⟨hk, hb, h⟩ := h
          refine j_iald hE hk hb (by decide +kernel : decode cX11_shireOn 62 = .ok (.iaload, 1)) ?_
          refine j_iload hE (by decide +kernel : decode cX11_shireOn 63 = .ok (.iload 5, 2)) rfl ?_
          refine j_icmp_lt hE (by decide +kernel : decode cX11_shireOn 65 = .ok (.if_icmp .lt 21, 3)) (tgt := 86) (by decide) (fun q => ?_) (fun q => ?_)
          · have h := h.1 q
            exact S_M_shireOn_86 hE hK14 _ _ _ _ _ _ _ _ h
          · have h := h.2 q
            refine j_aload_n hE (by decide +kernel : decode cX11_shireOn 68 = .ok (.aload_n 0, 1)) rfl rfl ?_
            obtain ⟨hk, h⟩ := h
            obtain ⟨a5, ha, h⟩ := h
            refine j_getRn hE fg_X11_26 hk ha (by decide +kernel : decode cX11_shireOn 69 = .ok (.getfield 26, 3)) ?_
            refine j_iload hE (by decide +kernel : decode cX11_shireOn 72 = .ok (.iload 6, 2)) rfl ?_
            obtain ⟨hk, hb, h⟩ := h
            refine j_iald hE hk hb (by decide +kernel : decode cX11_shireOn 74 = .ok (.iaload, 1)) ?_
            obtain ⟨x6, hx⟩ : ∃ z, z = (Ia g (Co g a5) (Ow g a5) l6.toNatClampNeg) := ⟨_, rfl⟩; have h := h x6 hx; rw [← hx]
            refine j_istore hE (by decide +kernel : decode cX11_shireOn 75 = .ok (.istore 4, 2)) (Nat.le_of_ble_eq_true rfl) rfl ?_
            refine j_aload_n hE (by decide +kernel : decode cX11_shireOn 77 = .ok (.aload_n 0, 1)) rfl rfl ?_
            obtain ⟨hk, h⟩ := h
            obtain ⟨a7, ha, h⟩ := h
            refine j_getRn hE fg_X11_29 hk ha (by decide +kernel : decode cX11_shireOn 78 = .ok (.getfield 29, 3)) ?_
            refine j_iload hE (by decide +kernel : decode cX11_shireOn 81 = .ok (.iload 6, 2)) rfl ?_
            obtain ⟨hk, hb, h⟩ := h
            refine j_iald hE hk hb (by decide +kernel : decode cX11_shireOn 83 = .ok (.iaload, 1)) ?_
            obtain ⟨x8, hx⟩ : ∃ z, z = (Ia g (Co g a7) (Ow g a7) l6.toNatClampNeg) := ⟨_, rfl⟩; have h := h x8 hx; rw [← hx]
            refine j_istore hE (by decide +kernel : decode cX11_shireOn 84 = .ok (.istore 5, 2)) (Nat.le_of_ble_eq_true rfl) rfl ?_
            exact S_M_shireOn_86 hE hK14 _ _ _ _ _ _ _ _ h
def B_M_shireOn_0 (Γ : GAM) (K14 : Nat → Int32 → Int32 → Int32 → Int32 → Int32 → Int32 → GH → Prop) (K : Int32 → GH → Prop) (th : Nat) (p0 : Int32) (p1 : Int32) (p2 : Int32) (g : GH) : Prop :=
  Kd g th = 13 ∧ ∃ a1 : Nat, Gr g 1549 th = some a1 ∧ Kd g a1 = 20 ∧ inB p0 (Ln g a1) ∧ ∀ x2 : Int32, x2 = (Ia g (Co g a1) (Ow g a1) p0.toNatClampNeg) → K14 th p0 p1 p2 x2 (-1 : Int32) (0 : Int32) g
set_option maxHeartbeats 4000000 in
set_option maxRecDepth 100000 in
theorem S_M_shireOn_0 {Γ : GAM} {E : EV} {K : Int32 → GH → Prop} (hE : GE Γ E cX11_shireOn 7 RX11 (some (.int)) 0 0 (fun r g' => ∃ x, r = some (.int x) ∧ K x g')) {K14 : Nat → Int32 → Int32 → Int32 → Int32 → Int32 → Int32 → GH → Prop} (hK14 : ∀ (l0 : Nat) (l1 : Int32) (l2 : Int32) (l3 : Int32) (l4 : Int32) (l5 : Int32) (l6 : Int32) (g : GH), K14 l0 l1 l2 l3 l4 l5 l6 g → JW Γ E 14 [some (.ref l0), some (.int l1), some (.int l2), some (.int l3), some (.int l4), some (.int l5), some (.int l6)] [] g) (th : Nat) (p0 : Int32) (p1 : Int32) (p2 : Int32) (g : GH) (h : B_M_shireOn_0 Γ K14 K th p0 p1 p2 g) : JW Γ E 0 [some (.ref th), some (.int p0), some (.int p1), some (.int p2), none, none, none] [] g := by
  unfold B_M_shireOn_0 at h
  refine j_aload_n hE (by decide +kernel : decode cX11_shireOn 0 = .ok (.aload_n 0, 1)) rfl rfl ?_
  obtain ⟨hk, h⟩ := h
  obtain ⟨a1, ha, h⟩ := h
  refine j_getRn hE fg_X11_13 hk ha (by decide +kernel : decode cX11_shireOn 1 = .ok (.getfield 13, 3)) ?_
  refine j_iload_n hE (by decide +kernel : decode cX11_shireOn 4 = .ok (.iload_n 1, 1)) rfl rfl ?_
  obtain ⟨hk, hb, h⟩ := h
  refine j_iald hE hk hb (by decide +kernel : decode cX11_shireOn 5 = .ok (.iaload, 1)) ?_
  obtain ⟨x2, hx⟩ : ∃ z, z = (Ia g (Co g a1) (Ow g a1) p0.toNatClampNeg) := ⟨_, rfl⟩; have h := h x2 hx; rw [← hx]
  refine j_istore hE (by decide +kernel : decode cX11_shireOn 6 = .ok (.istore 4, 2)) (Nat.le_of_ble_eq_true rfl) rfl ?_
  refine j_iconst hE (by decide +kernel : decode cX11_shireOn 8 = .ok (.iconst (-1), 1)) (v := (-1 : Int32)) (by decide) ?_
  refine j_istore hE (by decide +kernel : decode cX11_shireOn 9 = .ok (.istore 5, 2)) (Nat.le_of_ble_eq_true rfl) rfl ?_
  refine j_iconst hE (by decide +kernel : decode cX11_shireOn 11 = .ok (.iconst 0, 1)) (v := (0 : Int32)) (by decide) ?_
  refine j_istore hE (by decide +kernel : decode cX11_shireOn 12 = .ok (.istore 6, 2)) (Nat.le_of_ble_eq_true rfl) rfl ?_
  exact hK14 _ _ _ _ _ _ _ _ h
set_option maxHeartbeats 4000000 in
set_option maxRecDepth 100000 in
theorem rl_M_shireOn {Γ : GAM} {l : Launch} {th : Nat} {p0 : Int32} {p1 : Int32} {p2 : Int32} {g : GH} {K : Int32 → GH → Prop} (I14 : Nat → Nat → Int32 → Int32 → Int32 → Int32 → Int32 → Int32 → GH → Prop) (hh14 : ∀ n (l0 : Nat) (l1 : Int32) (l2 : Int32) (l3 : Int32) (l4 : Int32) (l5 : Int32) (l6 : Int32) (g : GH), I14 n l0 l1 l2 l3 l4 l5 l6 g → B_M_shireOn_14 Γ (fun l0 l1 l2 l3 l4 l5 l6 g => ∃ m, m < n ∧ I14 m l0 l1 l2 l3 l4 l5 l6 g) K l0 l1 l2 l3 l4 l5 l6 g) (h0 : B_M_shireOn_0 Γ (fun l0 l1 l2 l3 l4 l5 l6 g => ∃ m, I14 m l0 l1 l2 l3 l4 l5 l6 g) K th p0 p1 p2 g) : MetA Γ l yX11_shireOn cX11_shireOn 7 (some (.int)) 0 0 [.ref th, .int p0, .int p1, .int p2] g (fun r g' => ∃ x, r = some (.int x) ∧ K x g') := by
  refine MetA.introL (Lx := [some (.ref th), some (.int p0), some (.int p1), some (.int p2), none, none, none]) (by decide) (Nat.le_of_ble_eq_true rfl) rfl rfl ?_
  intro E hEl hE hnm
  have hall : ∀ n, (∀ (l0 : Nat) (l1 : Int32) (l2 : Int32) (l3 : Int32) (l4 : Int32) (l5 : Int32) (l6 : Int32) (g : GH), I14 n l0 l1 l2 l3 l4 l5 l6 g → JW Γ E 14 [some (.ref l0), some (.int l1), some (.int l2), some (.int l3), some (.int l4), some (.int l5), some (.int l6)] [] g) := by
    intro n
    induction n using Nat.strongRecOn with
    | ind n ih =>
      exact fun l0 l1 l2 l3 l4 l5 l6 g hi => S_M_shireOn_14 hE (fun l0 l1 l2 l3 l4 l5 l6 g hm => by obtain ⟨m, hm, h⟩ := hm; exact (ih m hm) l0 l1 l2 l3 l4 l5 l6 g h) l0 l1 l2 l3 l4 l5 l6 g (hh14 n l0 l1 l2 l3 l4 l5 l6 g hi)
  exact S_M_shireOn_0 hE (fun l0 l1 l2 l3 l4 l5 l6 g hm => by obtain ⟨m, h⟩ := hm; exact (hall m) l0 l1 l2 l3 l4 l5 l6 g h) th p0 p1 p2 g h0
