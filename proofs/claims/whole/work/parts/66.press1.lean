/-! the class: its press, the small methods -/
def P5 (m : Nat) (g : GH) : Prop := Kd g m = 7 ∧ ∃ a b c d e, (Gr g 768 m = some a ∧ Kd g a = 20 ∧ Co g a = 768 ∧ Ow g a = m ∧ Ln g a = 12) ∧ (Gr g 769 m = some b ∧ Kd g b = 20 ∧ Co g b = 769 ∧ Ow g b = m ∧ Ln g b = 12) ∧ (Gr g 770 m = some c ∧ Kd g c = 20 ∧ Co g c = 770 ∧ Ow g c = m ∧ Ln g c = 12) ∧ (Gr g 771 m = some d ∧ Kd g d = 20 ∧ Co g d = 771 ∧ Ow g d = m ∧ Ln g d = 12) ∧ (Gr g 772 m = some e ∧ Kd g e = 20 ∧ Co g e = 772 ∧ Ow g e = m ∧ Ln g e = 12)
theorem P5.x {m : Nat} {g g' : GH} {fs cs : List Nat} (h : P5 m g) (hx : FrX m fs cs g g') : P5 m g' := by
  obtain ⟨⟨x1, x2, x3, x4, x5, x6, x7, x8, x9, x10, x11, x12⟩, _, _⟩ := hx
  unfold P5 at h ⊢
  rw [x2, x6, x7, x8, x9]
  exact h
/-- what the press holds of a state -/
def PrI (m : Nat) (g : GH) (s : ST) : Prop := P5 m g ∧ Gi g 773 m = nI (s_wav s).length ∧ Gi g 774 m = s_prs s ∧ ∀ k x, (s_wav s)[k]? = some x → Ia g 768 m k = x.1 ∧ Ia g 769 m k = x.2.1 ∧ Ia g 770 m k = x.2.2
theorem PrI.x {m : Nat} {g g' : GH} {s : ST} (h : PrI m g s) (hx : FrX m [] [771, 772] g g') : PrI m g' s := by
  obtain ⟨a, b, c, d⟩ := h
  refine ⟨a.x hx, (hx.2.1 _ (by decide)).trans b, (hx.2.1 _ (by decide)).trans c, fun k x hk => ?_⟩
  rw [hx.2.2 _ (by decide), hx.2.2 _ (by decide), hx.2.2 _ (by decide)]
  exact d k x hk
def Sp_Pr_mostUrgent (Γ : GAM) (m : Nat) (d : Int32) (g : GH) (K : Int32 → GH → Prop) : Prop := ∃ s, PrI m g s ∧ (s_wav s).length ≤ 12 ∧ K (oI (sNx s (Ia g 771 m) d)) g
-- the walk of Pr_mostUrgent
set_option maxRecDepth 100000 in
def B_Pr_mostUrgent_65 (Γ : GAM) (K4 : Nat → Int32 → Int32 → Int32 → GH → Prop) (K : Int32 → GH → Prop) (l0 : Nat) (l1 : Int32) (l2 : Int32) (l3 : Int32) (g : GH) : Prop :=
  K4 l0 l1 l2 (l3 + (1 : Int32)) g
set_option maxHeartbeats 4000000 in
set_option maxRecDepth 100000 in
theorem S_Pr_mostUrgent_65 {Γ : GAM} {E : EV} {K : Int32 → GH → Prop} (hE : GE Γ E cX5_mostUrgent 5 RX5 (some (.int)) 0 0 (fun r g' => ∃ x, r = some (.int x) ∧ K x g')) {K4 : Nat → Int32 → Int32 → Int32 → GH → Prop} (hK4 : ∀ (l0 : Nat) (l1 : Int32) (l2 : Int32) (l3 : Int32) (g : GH), K4 l0 l1 l2 l3 g → JW Γ E 4 [some (.ref l0), some (.int l1), some (.int l2), some (.int l3), none] [] g) (l0 : Nat) (l1 : Int32) (l2 : Int32) (l3 : Int32) (g : GH) (h : B_Pr_mostUrgent_65 Γ K4 K l0 l1 l2 l3 g) : JW Γ E 65 [some (.ref l0), some (.int l1), some (.int l2), some (.int l3), none] [] g := by
  unfold B_Pr_mostUrgent_65 at h
  refine j_iinc hE (by decide +kernel : decode cX5_mostUrgent 65 = .ok (.iinc 3 1, 3)) (v := (1 : Int32)) (by decide) rfl (Nat.le_of_ble_eq_true rfl) rfl ?_
  refine j_goto hE (by decide +kernel : decode cX5_mostUrgent 68 = .ok (.goto (-64), 3)) (tgt := 4) (by decide) ?_
  exact hK4 _ _ _ _ _ h
set_option maxRecDepth 100000 in
def B_Pr_mostUrgent_63 (Γ : GAM) (K4 : Nat → Int32 → Int32 → Int32 → GH → Prop) (K : Int32 → GH → Prop) (l0 : Nat) (l1 : Int32) (l3 : Int32) (g : GH) : Prop :=
  B_Pr_mostUrgent_65 Γ K4 K l0 l1 l3 l3 g
set_option maxHeartbeats 4000000 in
set_option maxRecDepth 100000 in
theorem S_Pr_mostUrgent_63 {Γ : GAM} {E : EV} {K : Int32 → GH → Prop} (hE : GE Γ E cX5_mostUrgent 5 RX5 (some (.int)) 0 0 (fun r g' => ∃ x, r = some (.int x) ∧ K x g')) {K4 : Nat → Int32 → Int32 → Int32 → GH → Prop} (hK4 : ∀ (l0 : Nat) (l1 : Int32) (l2 : Int32) (l3 : Int32) (g : GH), K4 l0 l1 l2 l3 g → JW Γ E 4 [some (.ref l0), some (.int l1), some (.int l2), some (.int l3), none] [] g) (l0 : Nat) (l1 : Int32) (l3 : Int32) (g : GH) (h : B_Pr_mostUrgent_63 Γ K4 K l0 l1 l3 g) : JW Γ E 63 [some (.ref l0), some (.int l1), none, some (.int l3), none] [] g := by
  unfold B_Pr_mostUrgent_63 at h
  refine j_iload_n hE (by decide +kernel : decode cX5_mostUrgent 63 = .ok (.iload_n 3, 1)) rfl rfl ?_
  refine j_istore_n hE (by decide +kernel : decode cX5_mostUrgent 64 = .ok (.istore_n 2, 1)) rfl (Nat.le_of_ble_eq_true rfl) rfl ?_
  exact S_Pr_mostUrgent_65 hE hK4 _ _ _ _ _ h
set_option maxRecDepth 100000 in
def B_Pr_mostUrgent_36 (Γ : GAM) (K4 : Nat → Int32 → Int32 → Int32 → GH → Prop) (K : Int32 → GH → Prop) (l0 : Nat) (l1 : Int32) (l2 : Int32) (l3 : Int32) (s0 : Int32) (g : GH) : Prop :=
  ((s0 = 0 → B_Pr_mostUrgent_65 Γ K4 K l0 l1 l2 l3 g) ∧ (¬ (s0 = 0) → ((l2 = (-1 : Int32) → B_Pr_mostUrgent_63 Γ K4 K l0 l1 l3 g) ∧ (¬ (l2 = (-1 : Int32)) → Kd g l0 = 7 ∧ ∃ a1 : Nat, Gr g 770 l0 = some a1 ∧ Kd g a1 = 20 ∧ inB l3 (Ln g a1) ∧ Kd g l0 = 7 ∧ ∃ a2 : Nat, Gr g 770 l0 = some a2 ∧ Kd g a2 = 20 ∧ inB l2 (Ln g a2) ∧ (((Ia g (Co g a2) (Ow g a2) l2.toNatClampNeg) ≤ (Ia g (Co g a1) (Ow g a1) l3.toNatClampNeg) → B_Pr_mostUrgent_65 Γ K4 K l0 l1 l2 l3 g) ∧ (¬ ((Ia g (Co g a2) (Ow g a2) l2.toNatClampNeg) ≤ (Ia g (Co g a1) (Ow g a1) l3.toNatClampNeg)) → B_Pr_mostUrgent_63 Γ K4 K l0 l1 l3 g))))))
set_option maxHeartbeats 4000000 in
set_option maxRecDepth 100000 in
theorem S_Pr_mostUrgent_36 {Γ : GAM} {E : EV} {K : Int32 → GH → Prop} (hE : GE Γ E cX5_mostUrgent 5 RX5 (some (.int)) 0 0 (fun r g' => ∃ x, r = some (.int x) ∧ K x g')) {K4 : Nat → Int32 → Int32 → Int32 → GH → Prop} (hK4 : ∀ (l0 : Nat) (l1 : Int32) (l2 : Int32) (l3 : Int32) (g : GH), K4 l0 l1 l2 l3 g → JW Γ E 4 [some (.ref l0), some (.int l1), some (.int l2), some (.int l3), none] [] g) (l0 : Nat) (l1 : Int32) (l2 : Int32) (l3 : Int32) (s0 : Int32) (g : GH) (h : B_Pr_mostUrgent_36 Γ K4 K l0 l1 l2 l3 s0 g) : JW Γ E 36 [some (.ref l0), some (.int l1), some (.int l2), some (.int l3), none] [.int s0] g := by
  unfold B_Pr_mostUrgent_36 at h
  refine j_istore hE (by decide +kernel : decode cX5_mostUrgent 36 = .ok (.istore 4, 2)) (Nat.le_of_ble_eq_true rfl) rfl ?_
  refine j_iload hE (by decide +kernel : decode cX5_mostUrgent 38 = .ok (.iload 4, 2)) rfl ?_
  refine j_if_eq hE (by decide +kernel : decode cX5_mostUrgent 40 = .ok (.ifCond .eq 25, 3)) (tgt := 65) (by decide) (fun q => ?_) (fun q => ?_)
  · replace h := h.1 q
    refine j_weak [some (.ref l0), some (.int l1), some (.int l2), some (.int l3), none] ⟨rfl, ⟨rfl, ⟨rfl, ⟨rfl, trivial⟩⟩⟩⟩ ?_
    exact S_Pr_mostUrgent_65 hE hK4 _ _ _ _ _ h
  · replace h := h.2 q
    refine j_iload_n hE (by decide +kernel : decode cX5_mostUrgent 43 = .ok (.iload_n 2, 1)) rfl rfl ?_
    refine j_iconst hE (by decide +kernel : decode cX5_mostUrgent 44 = .ok (.iconst (-1), 1)) (v := (-1 : Int32)) (by decide) ?_
    refine j_icmp_eq hE (by decide +kernel : decode cX5_mostUrgent 45 = .ok (.if_icmp .eq 18, 3)) (tgt := 63) (by decide) (fun q => ?_) (fun q => ?_)
    · replace h := h.1 q
      refine j_weak [some (.ref l0), some (.int l1), none, some (.int l3), none] ⟨rfl, ⟨rfl, ⟨rfl, trivial⟩⟩⟩ ?_
      exact S_Pr_mostUrgent_63 hE hK4 _ _ _ _ h
    · replace h := h.2 q
      refine j_aload_n hE (by decide +kernel : decode cX5_mostUrgent 48 = .ok (.aload_n 0, 1)) rfl rfl ?_
      obtain ⟨hk, h⟩ := h
      obtain ⟨a1, ha, h⟩ := h
      refine j_getRn hE fg_X5_18 hk ha (by decide +kernel : decode cX5_mostUrgent 49 = .ok (.getfield 18, 3)) ?_
      refine j_iload_n hE (by decide +kernel : decode cX5_mostUrgent 52 = .ok (.iload_n 3, 1)) rfl rfl ?_
      obtain ⟨hk, hb, h⟩ := h
      refine j_iald hE hk hb (by decide +kernel : decode cX5_mostUrgent 53 = .ok (.iaload, 1)) ?_
      refine j_aload_n hE (by decide +kernel : decode cX5_mostUrgent 54 = .ok (.aload_n 0, 1)) rfl rfl ?_
      obtain ⟨hk, h⟩ := h
      obtain ⟨a2, ha, h⟩ := h
      refine j_getRn hE fg_X5_18 hk ha (by decide +kernel : decode cX5_mostUrgent 55 = .ok (.getfield 18, 3)) ?_
      refine j_iload_n hE (by decide +kernel : decode cX5_mostUrgent 58 = .ok (.iload_n 2, 1)) rfl rfl ?_
      obtain ⟨hk, hb, h⟩ := h
      refine j_iald hE hk hb (by decide +kernel : decode cX5_mostUrgent 59 = .ok (.iaload, 1)) ?_
      refine j_icmp_ge hE (by decide +kernel : decode cX5_mostUrgent 60 = .ok (.if_icmp .ge 5, 3)) (tgt := 65) (by decide) (fun q => ?_) (fun q => ?_)
      · replace h := h.1 q
        refine j_weak [some (.ref l0), some (.int l1), some (.int l2), some (.int l3), none] ⟨rfl, ⟨rfl, ⟨rfl, ⟨rfl, trivial⟩⟩⟩⟩ ?_
        exact S_Pr_mostUrgent_65 hE hK4 _ _ _ _ _ h
      · replace h := h.2 q
        refine j_weak [some (.ref l0), some (.int l1), none, some (.int l3), none] ⟨rfl, ⟨rfl, ⟨rfl, trivial⟩⟩⟩ ?_
        exact S_Pr_mostUrgent_63 hE hK4 _ _ _ _ h
set_option maxRecDepth 100000 in
def B_Pr_mostUrgent_35 (Γ : GAM) (K4 : Nat → Int32 → Int32 → Int32 → GH → Prop) (K : Int32 → GH → Prop) (l0 : Nat) (l1 : Int32) (l2 : Int32) (l3 : Int32) (g : GH) : Prop :=
  B_Pr_mostUrgent_36 Γ K4 K l0 l1 l2 l3 (0 : Int32) g
set_option maxHeartbeats 4000000 in
set_option maxRecDepth 100000 in
theorem S_Pr_mostUrgent_35 {Γ : GAM} {E : EV} {K : Int32 → GH → Prop} (hE : GE Γ E cX5_mostUrgent 5 RX5 (some (.int)) 0 0 (fun r g' => ∃ x, r = some (.int x) ∧ K x g')) {K4 : Nat → Int32 → Int32 → Int32 → GH → Prop} (hK4 : ∀ (l0 : Nat) (l1 : Int32) (l2 : Int32) (l3 : Int32) (g : GH), K4 l0 l1 l2 l3 g → JW Γ E 4 [some (.ref l0), some (.int l1), some (.int l2), some (.int l3), none] [] g) (l0 : Nat) (l1 : Int32) (l2 : Int32) (l3 : Int32) (g : GH) (h : B_Pr_mostUrgent_35 Γ K4 K l0 l1 l2 l3 g) : JW Γ E 35 [some (.ref l0), some (.int l1), some (.int l2), some (.int l3), none] [] g := by
  unfold B_Pr_mostUrgent_35 at h
  refine j_iconst hE (by decide +kernel : decode cX5_mostUrgent 35 = .ok (.iconst 0, 1)) (v := (0 : Int32)) (by decide) ?_
  exact S_Pr_mostUrgent_36 hE hK4 _ _ _ _ _ _ h
set_option maxRecDepth 100000 in
def B_Pr_mostUrgent_4 (Γ : GAM) (K4 : Nat → Int32 → Int32 → Int32 → GH → Prop) (K : Int32 → GH → Prop) (l0 : Nat) (l1 : Int32) (l2 : Int32) (l3 : Int32) (g : GH) : Prop :=
  Kd g l0 = 7 ∧ (((Gi g 773 l0) ≤ l3 → K l2 g) ∧ (¬ ((Gi g 773 l0) ≤ l3) → Kd g l0 = 7 ∧ ∃ a1 : Nat, Gr g 771 l0 = some a1 ∧ Kd g a1 = 20 ∧ inB l3 (Ln g a1) ∧ (((Ia g (Co g a1) (Ow g a1) l3.toNatClampNeg) ≤ 0 → B_Pr_mostUrgent_35 Γ K4 K l0 l1 l2 l3 g) ∧ (¬ ((Ia g (Co g a1) (Ow g a1) l3.toNatClampNeg) ≤ 0) → Kd g l0 = 7 ∧ ∃ a2 : Nat, Gr g 769 l0 = some a2 ∧ Kd g a2 = 20 ∧ inB l3 (Ln g a2) ∧ ((l1 < (Ia g (Co g a2) (Ow g a2) l3.toNatClampNeg) → B_Pr_mostUrgent_35 Γ K4 K l0 l1 l2 l3 g) ∧ (¬ (l1 < (Ia g (Co g a2) (Ow g a2) l3.toNatClampNeg)) → B_Pr_mostUrgent_36 Γ K4 K l0 l1 l2 l3 (1 : Int32) g))))))
set_option maxHeartbeats 4000000 in
set_option maxRecDepth 100000 in
theorem S_Pr_mostUrgent_4 {Γ : GAM} {E : EV} {K : Int32 → GH → Prop} (hE : GE Γ E cX5_mostUrgent 5 RX5 (some (.int)) 0 0 (fun r g' => ∃ x, r = some (.int x) ∧ K x g')) {K4 : Nat → Int32 → Int32 → Int32 → GH → Prop} (hK4 : ∀ (l0 : Nat) (l1 : Int32) (l2 : Int32) (l3 : Int32) (g : GH), K4 l0 l1 l2 l3 g → JW Γ E 4 [some (.ref l0), some (.int l1), some (.int l2), some (.int l3), none] [] g) (l0 : Nat) (l1 : Int32) (l2 : Int32) (l3 : Int32) (g : GH) (h : B_Pr_mostUrgent_4 Γ K4 K l0 l1 l2 l3 g) : JW Γ E 4 [some (.ref l0), some (.int l1), some (.int l2), some (.int l3), none] [] g := by
  unfold B_Pr_mostUrgent_4 at h
  refine j_iload_n hE (by decide +kernel : decode cX5_mostUrgent 4 = .ok (.iload_n 3, 1)) rfl rfl ?_
  refine j_aload_n hE (by decide +kernel : decode cX5_mostUrgent 5 = .ok (.aload_n 0, 1)) rfl rfl ?_
  obtain ⟨hk, h⟩ := h
  refine j_getI hE fg_X5_31 hk (by decide +kernel : decode cX5_mostUrgent 6 = .ok (.getfield 31, 3)) ?_
  refine j_icmp_ge hE (by decide +kernel : decode cX5_mostUrgent 9 = .ok (.if_icmp .ge 62, 3)) (tgt := 71) (by decide) (fun q => ?_) (fun q => ?_)
  · replace h := h.1 q
    refine j_iload_n hE (by decide +kernel : decode cX5_mostUrgent 71 = .ok (.iload_n 2, 1)) rfl rfl ?_
    exact j_iret hE (by decide +kernel : decode cX5_mostUrgent 72 = .ok (.ireturn, 1)) ⟨_, rfl, h⟩
  · replace h := h.2 q
    refine j_aload_n hE (by decide +kernel : decode cX5_mostUrgent 12 = .ok (.aload_n 0, 1)) rfl rfl ?_
    obtain ⟨hk, h⟩ := h
    obtain ⟨a1, ha, h⟩ := h
    refine j_getRn hE fg_X5_21 hk ha (by decide +kernel : decode cX5_mostUrgent 13 = .ok (.getfield 21, 3)) ?_
    refine j_iload_n hE (by decide +kernel : decode cX5_mostUrgent 16 = .ok (.iload_n 3, 1)) rfl rfl ?_
    obtain ⟨hk, hb, h⟩ := h
    refine j_iald hE hk hb (by decide +kernel : decode cX5_mostUrgent 17 = .ok (.iaload, 1)) ?_
    refine j_if_le hE (by decide +kernel : decode cX5_mostUrgent 18 = .ok (.ifCond .le 17, 3)) (tgt := 35) (by decide) (fun q => ?_) (fun q => ?_)
    · replace h := h.1 q
      exact S_Pr_mostUrgent_35 hE hK4 _ _ _ _ _ h
    · replace h := h.2 q
      refine j_aload_n hE (by decide +kernel : decode cX5_mostUrgent 21 = .ok (.aload_n 0, 1)) rfl rfl ?_
      obtain ⟨hk, h⟩ := h
      obtain ⟨a2, ha, h⟩ := h
      refine j_getRn hE fg_X5_15 hk ha (by decide +kernel : decode cX5_mostUrgent 22 = .ok (.getfield 15, 3)) ?_
      refine j_iload_n hE (by decide +kernel : decode cX5_mostUrgent 25 = .ok (.iload_n 3, 1)) rfl rfl ?_
      obtain ⟨hk, hb, h⟩ := h
      refine j_iald hE hk hb (by decide +kernel : decode cX5_mostUrgent 26 = .ok (.iaload, 1)) ?_
      refine j_iload_n hE (by decide +kernel : decode cX5_mostUrgent 27 = .ok (.iload_n 1, 1)) rfl rfl ?_
      refine j_icmp_gt hE (by decide +kernel : decode cX5_mostUrgent 28 = .ok (.if_icmp .gt 7, 3)) (tgt := 35) (by decide) (fun q => ?_) (fun q => ?_)
      · replace h := h.1 q
        exact S_Pr_mostUrgent_35 hE hK4 _ _ _ _ _ h
      · replace h := h.2 q
        refine j_iconst hE (by decide +kernel : decode cX5_mostUrgent 31 = .ok (.iconst 1, 1)) (v := (1 : Int32)) (by decide) ?_
        refine j_goto hE (by decide +kernel : decode cX5_mostUrgent 32 = .ok (.goto 4, 3)) (tgt := 36) (by decide) ?_
        exact S_Pr_mostUrgent_36 hE hK4 _ _ _ _ _ _ h
set_option maxRecDepth 100000 in
def B_Pr_mostUrgent_0 (Γ : GAM) (K4 : Nat → Int32 → Int32 → Int32 → GH → Prop) (K : Int32 → GH → Prop) (th : Nat) (p0 : Int32) (g : GH) : Prop :=
  K4 th p0 (-1 : Int32) (0 : Int32) g
set_option maxHeartbeats 4000000 in
set_option maxRecDepth 100000 in
theorem S_Pr_mostUrgent_0 {Γ : GAM} {E : EV} {K : Int32 → GH → Prop} (hE : GE Γ E cX5_mostUrgent 5 RX5 (some (.int)) 0 0 (fun r g' => ∃ x, r = some (.int x) ∧ K x g')) {K4 : Nat → Int32 → Int32 → Int32 → GH → Prop} (hK4 : ∀ (l0 : Nat) (l1 : Int32) (l2 : Int32) (l3 : Int32) (g : GH), K4 l0 l1 l2 l3 g → JW Γ E 4 [some (.ref l0), some (.int l1), some (.int l2), some (.int l3), none] [] g) (th : Nat) (p0 : Int32) (g : GH) (h : B_Pr_mostUrgent_0 Γ K4 K th p0 g) : JW Γ E 0 [some (.ref th), some (.int p0), none, none, none] [] g := by
  unfold B_Pr_mostUrgent_0 at h
  refine j_iconst hE (by decide +kernel : decode cX5_mostUrgent 0 = .ok (.iconst (-1), 1)) (v := (-1 : Int32)) (by decide) ?_
  refine j_istore_n hE (by decide +kernel : decode cX5_mostUrgent 1 = .ok (.istore_n 2, 1)) rfl (Nat.le_of_ble_eq_true rfl) rfl ?_
  refine j_iconst hE (by decide +kernel : decode cX5_mostUrgent 2 = .ok (.iconst 0, 1)) (v := (0 : Int32)) (by decide) ?_
  refine j_istore_n hE (by decide +kernel : decode cX5_mostUrgent 3 = .ok (.istore_n 3, 1)) rfl (Nat.le_of_ble_eq_true rfl) rfl ?_
  exact hK4 _ _ _ _ _ h
set_option maxHeartbeats 4000000 in
set_option maxRecDepth 100000 in
theorem rl_Pr_mostUrgent {Γ : GAM} {l : Launch} {th : Nat} {p0 : Int32} {g : GH} {K : Int32 → GH → Prop} (I4 : Nat → Nat → Int32 → Int32 → Int32 → GH → Prop) (hh4 : ∀ n (l0 : Nat) (l1 : Int32) (l2 : Int32) (l3 : Int32) (g : GH), I4 n l0 l1 l2 l3 g → B_Pr_mostUrgent_4 Γ (fun l0 l1 l2 l3 g => ∃ m, m < n ∧ I4 m l0 l1 l2 l3 g) K l0 l1 l2 l3 g) (h0 : B_Pr_mostUrgent_0 Γ (fun l0 l1 l2 l3 g => ∃ m, I4 m l0 l1 l2 l3 g) K th p0 g) : MetA Γ l yX5_mostUrgent cX5_mostUrgent 5 (some (.int)) 0 0 [.ref th, .int p0] g (fun r g' => ∃ x, r = some (.int x) ∧ K x g') := by
  refine MetA.introL (Lx := [some (.ref th), some (.int p0), none, none, none]) (by decide) (Nat.le_of_ble_eq_true rfl) rfl rfl ?_
  intro E hEl hE hnm
  have hall : ∀ n, (∀ (l0 : Nat) (l1 : Int32) (l2 : Int32) (l3 : Int32) (g : GH), I4 n l0 l1 l2 l3 g → JW Γ E 4 [some (.ref l0), some (.int l1), some (.int l2), some (.int l3), none] [] g) := by
    intro n
    induction n using Nat.strongRecOn with
    | ind n ih =>
      exact fun l0 l1 l2 l3 g hi => S_Pr_mostUrgent_4 hE (fun l0 l1 l2 l3 g hm => by obtain ⟨m, hm, h⟩ := hm; exact (ih m hm) l0 l1 l2 l3 g h) l0 l1 l2 l3 g (hh4 n l0 l1 l2 l3 g hi)
  exact S_Pr_mostUrgent_0 hE (fun l0 l1 l2 l3 g hm => by obtain ⟨m, h⟩ := hm; exact (hall m) l0 l1 l2 l3 g h) th p0 g h0
theorem mt_Pr_mostUrgent {Γ : GAM} {l : Launch} (th : Nat) (p0 : Int32) (g : GH) (K : Int32 → GH → Prop) (h : Sp_Pr_mostUrgent Γ th p0 g K) : MetA Γ l yX5_mostUrgent cX5_mostUrgent 5 (some (.int)) 0 0 [.ref th, .int p0] g (fun r g' => ∃ x, r = some (.int x) ∧ K x g') := by
  obtain ⟨s, hI, hlen, hK⟩ := h
  obtain ⟨⟨hkd, a1, a2, a3, a4, a5, _, ⟨b1, b2, b3, b4, b5⟩, ⟨c1, c2, c3, c4, c5⟩, ⟨d1, d2, d3, d4, d5⟩, _⟩, f1, _, f3⟩ := hI
  refine rl_Pr_mostUrgent (fun n l0 l1 l2 l3 g' => g = g' ∧ th = l0 ∧ p0 = l1 ∧ ∃ k, k ≤ (s_wav s).length ∧ n = (s_wav s).length - k ∧ l3 = nI k ∧ l2 = oI (((s_wav s).zipIdx.take k).foldl (nwS (Ia g 771 th) p0) none)) ?_ ?_
  · rintro n l0 l1 l2 l3 g' ⟨rfl, rfl, rfl, k, hk, rfl, rfl, hf⟩
    suffices H : ∀ K4 : Nat → Int32 → Int32 → Int32 → GH → Prop, (∀ a x, (s_wav s)[k]? = some x → a = oI (nwS (Ia g 771 th) p0 (((s_wav s).zipIdx.take k).foldl (nwS (Ia g 771 th) p0) none) (x, k)) → K4 th p0 a (nI (k + 1)) g) → B_Pr_mostUrgent_4 Γ K4 K th p0 l2 (nI k) g from
      H _ (fun a x hx ha => ⟨(s_wav s).length - (k + 1), by have := (List.getElem?_eq_some_iff.mp hx).1; omega, rfl, rfl, rfl, k + 1, (List.getElem?_eq_some_iff.mp hx).1, rfl, rfl, by rw [fold_take _ _ _ (zip_get hx)]; exact ha⟩)
    intro K4 hnext
    unfold B_Pr_mostUrgent_4
    rw [f1, nj_le (by omega) (by omega)]
    refine ⟨hkd, fun z => ?_, fun z => ?_⟩
    · have hz : (s_wav s).zipIdx.take k = (s_wav s).zipIdx := List.take_of_length_le (by rw [List.length_zipIdx]; exact z)
      rw [hz] at hf
      rw [hf]; exact hK
    · obtain ⟨x, hx⟩ := get_lt (show k < (s_wav s).length by omega)
      obtain ⟨x1, x2, x3⟩ := f3 k x hx
      have hb := inB_nI (show k < 12 by omega) (by omega)
      have hn := fun a => hnext a x hx
      generalize hF : ((s_wav s).zipIdx.take k).foldl (nwS (Ia g 771 th) p0) none = F at hf hn
      simp only [B_Pr_mostUrgent_36, B_Pr_mostUrgent_35, B_Pr_mostUrgent_63, B_Pr_mostUrgent_65, hkd, b1, b2, b3, b4, b5, c1, c2, c3, c4, c5, d1, d2, d3, d4, d5, Option.some.injEq, exists_eq_left', true_and, nj_cl (show k < 2147483648 by omega), x2, x3, hb, nj_s]
      cases F with
      | none =>
        rw [oI_n] at hf
        subst hf
        simp only [nwS] at hn
        have e0 := fun (u : Ia g 771 th k ≤ 0) => hn (-1) (by rw [if_pos u]; rfl)
        have e1 := fun (u : ¬ Ia g 771 th k ≤ 0) (u2 : p0 < x.2.1) => hn (-1) (by rw [if_neg u, if_pos u2]; rfl)
        refine ⟨fun u => ⟨fun _ => e0 u, fun q => absurd trivial q⟩, fun u => ⟨fun u2 => ⟨fun _ => e1 u u2, fun q => absurd trivial q⟩, fun u2 => ⟨fun q => absurd q (by decide), fun _ => ⟨fun _ => hn _ (by rw [if_neg u, if_neg u2]; rfl), fun u3 => absurd rfl u3⟩⟩⟩⟩
      | some b =>
        obtain ⟨i, y⟩ := b
        rw [oI_s] at hf
        subst hf
        have hy : (s_wav s)[i]? = some y := by
          refine fold_row (s_wav s) (fun a p => if p.2 < k then nwS (Ia g 771 th) p0 a p else a) (fun a p => ?_) (j := i) (x := y) ?_
          · split
            · exact nwS_row _ _ _ _
            · exact .inl rfl
          · rw [← hF, fold_ltake]
        have hi := (List.getElem?_eq_some_iff.mp hy).1
        have hbi := inB_nI (show i < 12 by omega) (by omega)
        simp only [nwS] at hn
        simp only [hbi, true_and, nj_cl (show i < 2147483648 by omega), (f3 i y hy).2.2]
        have hne := nI_nm1 (show i < 2147483648 by omega)
        have e0 := fun (u : Ia g 771 th k ≤ 0) => hn (nI i) (by rw [if_pos u]; rfl)
        have e1 := fun (u : ¬ Ia g 771 th k ≤ 0) (u2 : p0 < x.2.1) => hn (nI i) (by rw [if_neg u, if_pos u2]; rfl)
        refine ⟨fun u => ⟨fun _ => e0 u, fun q => absurd trivial q⟩, fun u => ⟨fun u2 => ⟨fun _ => e1 u u2, fun q => absurd trivial q⟩, fun u2 => ⟨fun q => absurd q (by decide), fun _ => ⟨fun u3 => absurd u3 hne, fun _ => ⟨fun u4 => hn _ (by rw [if_neg u, if_neg u2, if_pos u4]; rfl), fun u4 => hn _ (by rw [if_neg u, if_neg u2, if_neg u4]; rfl)⟩⟩⟩⟩⟩
  · unfold B_Pr_mostUrgent_0
    exact ⟨_, rfl, rfl, rfl, 0, Nat.zero_le _, rfl, nj_0, rfl⟩
/-- the next day on which a wave with something left gets ready -/
def NR (s : ST) (lf : Nat → Int32) (d : Int32) (k : Nat) (v : Int32) : Prop := (v = -1 ∧ ∀ i x, i < k → (s_wav s)[i]? = some x → lf i ≤ 0 ∨ x.2.1 ≤ d) ∨ (∃ i x, i < k ∧ (s_wav s)[i]? = some x ∧ ¬ lf i ≤ 0 ∧ ¬ x.2.1 ≤ d ∧ v = x.2.1) ∧ ∀ i x, i < k → (s_wav s)[i]? = some x → lf i ≤ 0 ∨ x.2.1 ≤ d ∨ v ≤ x.2.1
def Sp_Pr_nextReady (Γ : GAM) (m : Nat) (d : Int32) (g : GH) (K : Int32 → GH → Prop) : Prop := ∃ s, PrI m g s ∧ (s_wav s).length ≤ 12 ∧ (∀ x ∈ s_wav s, 0 ≤ x.2.1) ∧ ∀ v, NR s (Ia g 771 m) d (s_wav s).length v → K v g
-- the walk of Pr_nextReady
set_option maxRecDepth 100000 in
def B_Pr_nextReady_65 (Γ : GAM) (K4 : Nat → Int32 → Int32 → Int32 → GH → Prop) (K : Int32 → GH → Prop) (l0 : Nat) (l1 : Int32) (l2 : Int32) (l3 : Int32) (g : GH) : Prop :=
  K4 l0 l1 l2 (l3 + (1 : Int32)) g
set_option maxHeartbeats 4000000 in
set_option maxRecDepth 100000 in
theorem S_Pr_nextReady_65 {Γ : GAM} {E : EV} {K : Int32 → GH → Prop} (hE : GE Γ E cX5_nextReady 5 RX5 (some (.int)) 0 0 (fun r g' => ∃ x, r = some (.int x) ∧ K x g')) {K4 : Nat → Int32 → Int32 → Int32 → GH → Prop} (hK4 : ∀ (l0 : Nat) (l1 : Int32) (l2 : Int32) (l3 : Int32) (g : GH), K4 l0 l1 l2 l3 g → JW Γ E 4 [some (.ref l0), some (.int l1), some (.int l2), some (.int l3), none] [] g) (l0 : Nat) (l1 : Int32) (l2 : Int32) (l3 : Int32) (g : GH) (h : B_Pr_nextReady_65 Γ K4 K l0 l1 l2 l3 g) : JW Γ E 65 [some (.ref l0), some (.int l1), some (.int l2), some (.int l3), none] [] g := by
  unfold B_Pr_nextReady_65 at h
  refine j_iinc hE (by decide +kernel : decode cX5_nextReady 65 = .ok (.iinc 3 1, 3)) (v := (1 : Int32)) (by decide) rfl (Nat.le_of_ble_eq_true rfl) rfl ?_
  refine j_goto hE (by decide +kernel : decode cX5_nextReady 68 = .ok (.goto (-64), 3)) (tgt := 4) (by decide) ?_
  exact hK4 _ _ _ _ _ h
set_option maxRecDepth 100000 in
def B_Pr_nextReady_58 (Γ : GAM) (K4 : Nat → Int32 → Int32 → Int32 → GH → Prop) (K : Int32 → GH → Prop) (l0 : Nat) (l1 : Int32) (l3 : Int32) (g : GH) : Prop :=
  Kd g l0 = 7 ∧ ∃ a1 : Nat, Gr g 769 l0 = some a1 ∧ Kd g a1 = 20 ∧ inB l3 (Ln g a1) ∧ ∀ x2 : Int32, x2 = (Ia g (Co g a1) (Ow g a1) l3.toNatClampNeg) → B_Pr_nextReady_65 Γ K4 K l0 l1 x2 l3 g
set_option maxHeartbeats 4000000 in
set_option maxRecDepth 100000 in
theorem S_Pr_nextReady_58 {Γ : GAM} {E : EV} {K : Int32 → GH → Prop} (hE : GE Γ E cX5_nextReady 5 RX5 (some (.int)) 0 0 (fun r g' => ∃ x, r = some (.int x) ∧ K x g')) {K4 : Nat → Int32 → Int32 → Int32 → GH → Prop} (hK4 : ∀ (l0 : Nat) (l1 : Int32) (l2 : Int32) (l3 : Int32) (g : GH), K4 l0 l1 l2 l3 g → JW Γ E 4 [some (.ref l0), some (.int l1), some (.int l2), some (.int l3), none] [] g) (l0 : Nat) (l1 : Int32) (l3 : Int32) (g : GH) (h : B_Pr_nextReady_58 Γ K4 K l0 l1 l3 g) : JW Γ E 58 [some (.ref l0), some (.int l1), none, some (.int l3), none] [] g := by
  unfold B_Pr_nextReady_58 at h
  refine j_aload_n hE (by decide +kernel : decode cX5_nextReady 58 = .ok (.aload_n 0, 1)) rfl rfl ?_
  obtain ⟨hk, h⟩ := h
  obtain ⟨a1, ha, h⟩ := h
  refine j_getRn hE fg_X5_15 hk ha (by decide +kernel : decode cX5_nextReady 59 = .ok (.getfield 15, 3)) ?_
  refine j_iload_n hE (by decide +kernel : decode cX5_nextReady 62 = .ok (.iload_n 3, 1)) rfl rfl ?_
  obtain ⟨hk, hb, h⟩ := h
  refine j_iald hE hk hb (by decide +kernel : decode cX5_nextReady 63 = .ok (.iaload, 1)) ?_
  obtain ⟨x2, hx⟩ : ∃ z, z = (Ia g (Co g a1) (Ow g a1) l3.toNatClampNeg) := ⟨_, rfl⟩; replace h := h x2 hx; rw [← hx]
  refine j_istore_n hE (by decide +kernel : decode cX5_nextReady 64 = .ok (.istore_n 2, 1)) rfl (Nat.le_of_ble_eq_true rfl) rfl ?_
  exact S_Pr_nextReady_65 hE hK4 _ _ _ _ _ h
set_option maxRecDepth 100000 in
def B_Pr_nextReady_36 (Γ : GAM) (K4 : Nat → Int32 → Int32 → Int32 → GH → Prop) (K : Int32 → GH → Prop) (l0 : Nat) (l1 : Int32) (l2 : Int32) (l3 : Int32) (s0 : Int32) (g : GH) : Prop :=
  ((s0 = 0 → B_Pr_nextReady_65 Γ K4 K l0 l1 l2 l3 g) ∧ (¬ (s0 = 0) → ((l2 = (-1 : Int32) → B_Pr_nextReady_58 Γ K4 K l0 l1 l3 g) ∧ (¬ (l2 = (-1 : Int32)) → Kd g l0 = 7 ∧ ∃ a1 : Nat, Gr g 769 l0 = some a1 ∧ Kd g a1 = 20 ∧ inB l3 (Ln g a1) ∧ ((l2 ≤ (Ia g (Co g a1) (Ow g a1) l3.toNatClampNeg) → B_Pr_nextReady_65 Γ K4 K l0 l1 l2 l3 g) ∧ (¬ (l2 ≤ (Ia g (Co g a1) (Ow g a1) l3.toNatClampNeg)) → B_Pr_nextReady_58 Γ K4 K l0 l1 l3 g))))))
set_option maxHeartbeats 4000000 in
set_option maxRecDepth 100000 in
theorem S_Pr_nextReady_36 {Γ : GAM} {E : EV} {K : Int32 → GH → Prop} (hE : GE Γ E cX5_nextReady 5 RX5 (some (.int)) 0 0 (fun r g' => ∃ x, r = some (.int x) ∧ K x g')) {K4 : Nat → Int32 → Int32 → Int32 → GH → Prop} (hK4 : ∀ (l0 : Nat) (l1 : Int32) (l2 : Int32) (l3 : Int32) (g : GH), K4 l0 l1 l2 l3 g → JW Γ E 4 [some (.ref l0), some (.int l1), some (.int l2), some (.int l3), none] [] g) (l0 : Nat) (l1 : Int32) (l2 : Int32) (l3 : Int32) (s0 : Int32) (g : GH) (h : B_Pr_nextReady_36 Γ K4 K l0 l1 l2 l3 s0 g) : JW Γ E 36 [some (.ref l0), some (.int l1), some (.int l2), some (.int l3), none] [.int s0] g := by
  unfold B_Pr_nextReady_36 at h
  refine j_istore hE (by decide +kernel : decode cX5_nextReady 36 = .ok (.istore 4, 2)) (Nat.le_of_ble_eq_true rfl) rfl ?_
  refine j_iload hE (by decide +kernel : decode cX5_nextReady 38 = .ok (.iload 4, 2)) rfl ?_
  refine j_if_eq hE (by decide +kernel : decode cX5_nextReady 40 = .ok (.ifCond .eq 25, 3)) (tgt := 65) (by decide) (fun q => ?_) (fun q => ?_)
  · replace h := h.1 q
    refine j_weak [some (.ref l0), some (.int l1), some (.int l2), some (.int l3), none] ⟨rfl, ⟨rfl, ⟨rfl, ⟨rfl, trivial⟩⟩⟩⟩ ?_
    exact S_Pr_nextReady_65 hE hK4 _ _ _ _ _ h
  · replace h := h.2 q
    refine j_iload_n hE (by decide +kernel : decode cX5_nextReady 43 = .ok (.iload_n 2, 1)) rfl rfl ?_
    refine j_iconst hE (by decide +kernel : decode cX5_nextReady 44 = .ok (.iconst (-1), 1)) (v := (-1 : Int32)) (by decide) ?_
    refine j_icmp_eq hE (by decide +kernel : decode cX5_nextReady 45 = .ok (.if_icmp .eq 13, 3)) (tgt := 58) (by decide) (fun q => ?_) (fun q => ?_)
    · replace h := h.1 q
      refine j_weak [some (.ref l0), some (.int l1), none, some (.int l3), none] ⟨rfl, ⟨rfl, ⟨rfl, trivial⟩⟩⟩ ?_
      exact S_Pr_nextReady_58 hE hK4 _ _ _ _ h
    · replace h := h.2 q
      refine j_aload_n hE (by decide +kernel : decode cX5_nextReady 48 = .ok (.aload_n 0, 1)) rfl rfl ?_
      obtain ⟨hk, h⟩ := h
      obtain ⟨a1, ha, h⟩ := h
      refine j_getRn hE fg_X5_15 hk ha (by decide +kernel : decode cX5_nextReady 49 = .ok (.getfield 15, 3)) ?_
      refine j_iload_n hE (by decide +kernel : decode cX5_nextReady 52 = .ok (.iload_n 3, 1)) rfl rfl ?_
      obtain ⟨hk, hb, h⟩ := h
      refine j_iald hE hk hb (by decide +kernel : decode cX5_nextReady 53 = .ok (.iaload, 1)) ?_
      refine j_iload_n hE (by decide +kernel : decode cX5_nextReady 54 = .ok (.iload_n 2, 1)) rfl rfl ?_
      refine j_icmp_ge hE (by decide +kernel : decode cX5_nextReady 55 = .ok (.if_icmp .ge 10, 3)) (tgt := 65) (by decide) (fun q => ?_) (fun q => ?_)
      · replace h := h.1 q
        refine j_weak [some (.ref l0), some (.int l1), some (.int l2), some (.int l3), none] ⟨rfl, ⟨rfl, ⟨rfl, ⟨rfl, trivial⟩⟩⟩⟩ ?_
        exact S_Pr_nextReady_65 hE hK4 _ _ _ _ _ h
      · replace h := h.2 q
        refine j_weak [some (.ref l0), some (.int l1), none, some (.int l3), none] ⟨rfl, ⟨rfl, ⟨rfl, trivial⟩⟩⟩ ?_
        exact S_Pr_nextReady_58 hE hK4 _ _ _ _ h
set_option maxRecDepth 100000 in
def B_Pr_nextReady_35 (Γ : GAM) (K4 : Nat → Int32 → Int32 → Int32 → GH → Prop) (K : Int32 → GH → Prop) (l0 : Nat) (l1 : Int32) (l2 : Int32) (l3 : Int32) (g : GH) : Prop :=
  B_Pr_nextReady_36 Γ K4 K l0 l1 l2 l3 (0 : Int32) g
set_option maxHeartbeats 4000000 in
set_option maxRecDepth 100000 in
theorem S_Pr_nextReady_35 {Γ : GAM} {E : EV} {K : Int32 → GH → Prop} (hE : GE Γ E cX5_nextReady 5 RX5 (some (.int)) 0 0 (fun r g' => ∃ x, r = some (.int x) ∧ K x g')) {K4 : Nat → Int32 → Int32 → Int32 → GH → Prop} (hK4 : ∀ (l0 : Nat) (l1 : Int32) (l2 : Int32) (l3 : Int32) (g : GH), K4 l0 l1 l2 l3 g → JW Γ E 4 [some (.ref l0), some (.int l1), some (.int l2), some (.int l3), none] [] g) (l0 : Nat) (l1 : Int32) (l2 : Int32) (l3 : Int32) (g : GH) (h : B_Pr_nextReady_35 Γ K4 K l0 l1 l2 l3 g) : JW Γ E 35 [some (.ref l0), some (.int l1), some (.int l2), some (.int l3), none] [] g := by
  unfold B_Pr_nextReady_35 at h
  refine j_iconst hE (by decide +kernel : decode cX5_nextReady 35 = .ok (.iconst 0, 1)) (v := (0 : Int32)) (by decide) ?_
  exact S_Pr_nextReady_36 hE hK4 _ _ _ _ _ _ h
set_option maxRecDepth 100000 in
def B_Pr_nextReady_4 (Γ : GAM) (K4 : Nat → Int32 → Int32 → Int32 → GH → Prop) (K : Int32 → GH → Prop) (l0 : Nat) (l1 : Int32) (l2 : Int32) (l3 : Int32) (g : GH) : Prop :=
  Kd g l0 = 7 ∧ (((Gi g 773 l0) ≤ l3 → K l2 g) ∧ (¬ ((Gi g 773 l0) ≤ l3) → Kd g l0 = 7 ∧ ∃ a1 : Nat, Gr g 771 l0 = some a1 ∧ Kd g a1 = 20 ∧ inB l3 (Ln g a1) ∧ (((Ia g (Co g a1) (Ow g a1) l3.toNatClampNeg) ≤ 0 → B_Pr_nextReady_35 Γ K4 K l0 l1 l2 l3 g) ∧ (¬ ((Ia g (Co g a1) (Ow g a1) l3.toNatClampNeg) ≤ 0) → Kd g l0 = 7 ∧ ∃ a2 : Nat, Gr g 769 l0 = some a2 ∧ Kd g a2 = 20 ∧ inB l3 (Ln g a2) ∧ (((Ia g (Co g a2) (Ow g a2) l3.toNatClampNeg) ≤ l1 → B_Pr_nextReady_35 Γ K4 K l0 l1 l2 l3 g) ∧ (¬ ((Ia g (Co g a2) (Ow g a2) l3.toNatClampNeg) ≤ l1) → B_Pr_nextReady_36 Γ K4 K l0 l1 l2 l3 (1 : Int32) g))))))
set_option maxHeartbeats 4000000 in
set_option maxRecDepth 100000 in
theorem S_Pr_nextReady_4 {Γ : GAM} {E : EV} {K : Int32 → GH → Prop} (hE : GE Γ E cX5_nextReady 5 RX5 (some (.int)) 0 0 (fun r g' => ∃ x, r = some (.int x) ∧ K x g')) {K4 : Nat → Int32 → Int32 → Int32 → GH → Prop} (hK4 : ∀ (l0 : Nat) (l1 : Int32) (l2 : Int32) (l3 : Int32) (g : GH), K4 l0 l1 l2 l3 g → JW Γ E 4 [some (.ref l0), some (.int l1), some (.int l2), some (.int l3), none] [] g) (l0 : Nat) (l1 : Int32) (l2 : Int32) (l3 : Int32) (g : GH) (h : B_Pr_nextReady_4 Γ K4 K l0 l1 l2 l3 g) : JW Γ E 4 [some (.ref l0), some (.int l1), some (.int l2), some (.int l3), none] [] g := by
  unfold B_Pr_nextReady_4 at h
  refine j_iload_n hE (by decide +kernel : decode cX5_nextReady 4 = .ok (.iload_n 3, 1)) rfl rfl ?_
  refine j_aload_n hE (by decide +kernel : decode cX5_nextReady 5 = .ok (.aload_n 0, 1)) rfl rfl ?_
  obtain ⟨hk, h⟩ := h
  refine j_getI hE fg_X5_31 hk (by decide +kernel : decode cX5_nextReady 6 = .ok (.getfield 31, 3)) ?_
  refine j_icmp_ge hE (by decide +kernel : decode cX5_nextReady 9 = .ok (.if_icmp .ge 62, 3)) (tgt := 71) (by decide) (fun q => ?_) (fun q => ?_)
  · replace h := h.1 q
    refine j_iload_n hE (by decide +kernel : decode cX5_nextReady 71 = .ok (.iload_n 2, 1)) rfl rfl ?_
    exact j_iret hE (by decide +kernel : decode cX5_nextReady 72 = .ok (.ireturn, 1)) ⟨_, rfl, h⟩
  · replace h := h.2 q
    refine j_aload_n hE (by decide +kernel : decode cX5_nextReady 12 = .ok (.aload_n 0, 1)) rfl rfl ?_
    obtain ⟨hk, h⟩ := h
    obtain ⟨a1, ha, h⟩ := h
    refine j_getRn hE fg_X5_21 hk ha (by decide +kernel : decode cX5_nextReady 13 = .ok (.getfield 21, 3)) ?_
    refine j_iload_n hE (by decide +kernel : decode cX5_nextReady 16 = .ok (.iload_n 3, 1)) rfl rfl ?_
    obtain ⟨hk, hb, h⟩ := h
    refine j_iald hE hk hb (by decide +kernel : decode cX5_nextReady 17 = .ok (.iaload, 1)) ?_
    refine j_if_le hE (by decide +kernel : decode cX5_nextReady 18 = .ok (.ifCond .le 17, 3)) (tgt := 35) (by decide) (fun q => ?_) (fun q => ?_)
    · replace h := h.1 q
      exact S_Pr_nextReady_35 hE hK4 _ _ _ _ _ h
    · replace h := h.2 q
      refine j_aload_n hE (by decide +kernel : decode cX5_nextReady 21 = .ok (.aload_n 0, 1)) rfl rfl ?_
      obtain ⟨hk, h⟩ := h
      obtain ⟨a2, ha, h⟩ := h
      refine j_getRn hE fg_X5_15 hk ha (by decide +kernel : decode cX5_nextReady 22 = .ok (.getfield 15, 3)) ?_
      refine j_iload_n hE (by decide +kernel : decode cX5_nextReady 25 = .ok (.iload_n 3, 1)) rfl rfl ?_
      obtain ⟨hk, hb, h⟩ := h
      refine j_iald hE hk hb (by decide +kernel : decode cX5_nextReady 26 = .ok (.iaload, 1)) ?_
      refine j_iload_n hE (by decide +kernel : decode cX5_nextReady 27 = .ok (.iload_n 1, 1)) rfl rfl ?_
      refine j_icmp_le hE (by decide +kernel : decode cX5_nextReady 28 = .ok (.if_icmp .le 7, 3)) (tgt := 35) (by decide) (fun q => ?_) (fun q => ?_)
      · replace h := h.1 q
        exact S_Pr_nextReady_35 hE hK4 _ _ _ _ _ h
      · replace h := h.2 q
        refine j_iconst hE (by decide +kernel : decode cX5_nextReady 31 = .ok (.iconst 1, 1)) (v := (1 : Int32)) (by decide) ?_
        refine j_goto hE (by decide +kernel : decode cX5_nextReady 32 = .ok (.goto 4, 3)) (tgt := 36) (by decide) ?_
        exact S_Pr_nextReady_36 hE hK4 _ _ _ _ _ _ h
set_option maxRecDepth 100000 in
def B_Pr_nextReady_0 (Γ : GAM) (K4 : Nat → Int32 → Int32 → Int32 → GH → Prop) (K : Int32 → GH → Prop) (th : Nat) (p0 : Int32) (g : GH) : Prop :=
  K4 th p0 (-1 : Int32) (0 : Int32) g
set_option maxHeartbeats 4000000 in
set_option maxRecDepth 100000 in
theorem S_Pr_nextReady_0 {Γ : GAM} {E : EV} {K : Int32 → GH → Prop} (hE : GE Γ E cX5_nextReady 5 RX5 (some (.int)) 0 0 (fun r g' => ∃ x, r = some (.int x) ∧ K x g')) {K4 : Nat → Int32 → Int32 → Int32 → GH → Prop} (hK4 : ∀ (l0 : Nat) (l1 : Int32) (l2 : Int32) (l3 : Int32) (g : GH), K4 l0 l1 l2 l3 g → JW Γ E 4 [some (.ref l0), some (.int l1), some (.int l2), some (.int l3), none] [] g) (th : Nat) (p0 : Int32) (g : GH) (h : B_Pr_nextReady_0 Γ K4 K th p0 g) : JW Γ E 0 [some (.ref th), some (.int p0), none, none, none] [] g := by
  unfold B_Pr_nextReady_0 at h
  refine j_iconst hE (by decide +kernel : decode cX5_nextReady 0 = .ok (.iconst (-1), 1)) (v := (-1 : Int32)) (by decide) ?_
  refine j_istore_n hE (by decide +kernel : decode cX5_nextReady 1 = .ok (.istore_n 2, 1)) rfl (Nat.le_of_ble_eq_true rfl) rfl ?_
  refine j_iconst hE (by decide +kernel : decode cX5_nextReady 2 = .ok (.iconst 0, 1)) (v := (0 : Int32)) (by decide) ?_
  refine j_istore_n hE (by decide +kernel : decode cX5_nextReady 3 = .ok (.istore_n 3, 1)) rfl (Nat.le_of_ble_eq_true rfl) rfl ?_
  exact hK4 _ _ _ _ _ h
set_option maxHeartbeats 4000000 in
set_option maxRecDepth 100000 in
theorem rl_Pr_nextReady {Γ : GAM} {l : Launch} {th : Nat} {p0 : Int32} {g : GH} {K : Int32 → GH → Prop} (I4 : Nat → Nat → Int32 → Int32 → Int32 → GH → Prop) (hh4 : ∀ n (l0 : Nat) (l1 : Int32) (l2 : Int32) (l3 : Int32) (g : GH), I4 n l0 l1 l2 l3 g → B_Pr_nextReady_4 Γ (fun l0 l1 l2 l3 g => ∃ m, m < n ∧ I4 m l0 l1 l2 l3 g) K l0 l1 l2 l3 g) (h0 : B_Pr_nextReady_0 Γ (fun l0 l1 l2 l3 g => ∃ m, I4 m l0 l1 l2 l3 g) K th p0 g) : MetA Γ l yX5_nextReady cX5_nextReady 5 (some (.int)) 0 0 [.ref th, .int p0] g (fun r g' => ∃ x, r = some (.int x) ∧ K x g') := by
  refine MetA.introL (Lx := [some (.ref th), some (.int p0), none, none, none]) (by decide) (Nat.le_of_ble_eq_true rfl) rfl rfl ?_
  intro E hEl hE hnm
  have hall : ∀ n, (∀ (l0 : Nat) (l1 : Int32) (l2 : Int32) (l3 : Int32) (g : GH), I4 n l0 l1 l2 l3 g → JW Γ E 4 [some (.ref l0), some (.int l1), some (.int l2), some (.int l3), none] [] g) := by
    intro n
    induction n using Nat.strongRecOn with
    | ind n ih =>
      exact fun l0 l1 l2 l3 g hi => S_Pr_nextReady_4 hE (fun l0 l1 l2 l3 g hm => by obtain ⟨m, hm, h⟩ := hm; exact (ih m hm) l0 l1 l2 l3 g h) l0 l1 l2 l3 g (hh4 n l0 l1 l2 l3 g hi)
  exact S_Pr_nextReady_0 hE (fun l0 l1 l2 l3 g hm => by obtain ⟨m, h⟩ := hm; exact (hall m) l0 l1 l2 l3 g h) th p0 g h0
theorem mt_Pr_nextReady {Γ : GAM} {l : Launch} (th : Nat) (p0 : Int32) (g : GH) (K : Int32 → GH → Prop) (h : Sp_Pr_nextReady Γ th p0 g K) : MetA Γ l yX5_nextReady cX5_nextReady 5 (some (.int)) 0 0 [.ref th, .int p0] g (fun r g' => ∃ x, r = some (.int x) ∧ K x g') := by
  obtain ⟨s, hI, hlen, hpos, hK⟩ := h
  obtain ⟨⟨hkd, a1, a2, a3, a4, a5, _, ⟨b1, b2, b3, b4, b5⟩, _, ⟨d1, d2, d3, d4, d5⟩, _⟩, f1, _, f3⟩ := hI
  refine rl_Pr_nextReady (fun n l0 l1 l2 l3 g' => g = g' ∧ th = l0 ∧ p0 = l1 ∧ ∃ k, k ≤ (s_wav s).length ∧ n = (s_wav s).length - k ∧ l3 = nI k ∧ NR s (Ia g 771 th) p0 k l2) ?_ ?_
  · rintro n l0 l1 l2 l3 g' ⟨rfl, rfl, rfl, k, hk, rfl, rfl, hf⟩
    suffices H : ∀ K4 : Nat → Int32 → Int32 → Int32 → GH → Prop, (∀ a, k < (s_wav s).length → NR s (Ia g 771 th) p0 (k + 1) a → K4 th p0 a (nI (k + 1)) g) → B_Pr_nextReady_4 Γ K4 K th p0 l2 (nI k) g from
      H _ (fun a hlt ha => ⟨(s_wav s).length - (k + 1), by omega, rfl, rfl, rfl, k + 1, hlt, rfl, rfl, ha⟩)
    intro K4 hnext
    unfold B_Pr_nextReady_4
    rw [f1, nj_le (by omega) (by omega)]
    refine ⟨hkd, fun z => hK _ ?_, fun z => ?_⟩
    · rw [show (s_wav s).length = k by omega]; exact hf
    · have hlt : k < (s_wav s).length := by omega
      obtain ⟨x, hx⟩ := get_lt hlt
      obtain ⟨x1, x2, x3⟩ := f3 k x hx
      have hb := inB_nI (show k < 12 by omega) (by omega)
      have hn := fun a => hnext a hlt
      have hall : ∀ (Q : Nat → Int32 × Int32 × Int32 → Prop), (∀ i y, i < k → (s_wav s)[i]? = some y → Q i y) → Q k x → ∀ i y, i < k + 1 → (s_wav s)[i]? = some y → Q i y := fun Q h1 h2 i y hi hy => by
        by_cases e : i = k
        · subst e; rw [hx] at hy; cases hy; exact h2
        · exact h1 i y (by omega) hy
      -- nothing new
      have hno : (Ia g 771 th k ≤ 0 ∨ x.2.1 ≤ p0) → NR s (Ia g 771 th) p0 (k + 1) l2 := fun u => by
        rcases hf with ⟨e, h1⟩ | ⟨⟨i, y, hi, hy, h2, h3, h4⟩, h1⟩
        · exact .inl ⟨e, hall (fun i y => Ia g 771 th i ≤ 0 ∨ y.2.1 ≤ p0) h1 u⟩
        · refine .inr ⟨⟨i, y, by omega, hy, h2, h3, h4⟩, hall (fun i y => Ia g 771 th i ≤ 0 ∨ y.2.1 ≤ p0 ∨ l2 ≤ y.2.1) h1 ?_⟩
          rcases u with u | u
          · exact .inl u
          · exact .inr (.inl u)
      simp only [B_Pr_nextReady_36, B_Pr_nextReady_35, B_Pr_nextReady_58, B_Pr_nextReady_65, hkd, b1, b2, b3, b4, b5, d1, d2, d3, d4, d5, Option.some.injEq, exists_eq_left', true_and, nj_cl (show k < 2147483648 by omega), x2, hb, nj_s, forall_eq]
      refine ⟨fun u => ⟨fun _ => hn _ (hno (.inl u)), fun q => absurd trivial q⟩, fun u => ⟨fun u2 => ⟨fun _ => hn _ (hno (.inr u2)), fun q => absurd trivial q⟩, fun u2 => ⟨fun q => absurd q (by decide), fun _ => ⟨fun u3 => hn _ ?_, fun u3 => ⟨fun u4 => hn _ ?_, fun u4 => hn _ ?_⟩⟩⟩⟩⟩
      · refine .inr ⟨⟨k, x, by omega, hx, u, u2, rfl⟩, hall (fun i y => Ia g 771 th i ≤ 0 ∨ y.2.1 ≤ p0 ∨ x.2.1 ≤ y.2.1) (fun i y hi hy => ?_) (.inr (.inr (Int32.le_refl _)))⟩
        rcases hf with ⟨e, h1⟩ | ⟨⟨i', y', hi', hy', h2, h3, h4⟩, h1⟩
        · rcases h1 i y hi hy with z | z
          · exact .inl z
          · exact .inr (.inl z)
        · have := hpos y' (List.mem_of_getElem? hy')
          rw [← h4, u3] at this
          exact absurd this (by decide)
      · rcases hf with ⟨e, h1⟩ | ⟨⟨i', y', hi', hy', h2, h3, h4⟩, h1⟩
        · exact absurd e u3
        · exact .inr ⟨⟨i', y', by omega, hy', h2, h3, h4⟩, hall (fun i y => Ia g 771 th i ≤ 0 ∨ y.2.1 ≤ p0 ∨ l2 ≤ y.2.1) h1 (.inr (.inr u4))⟩
      · rcases hf with ⟨e, h1⟩ | ⟨⟨i', y', hi', hy', h2, h3, h4⟩, h1⟩
        · exact absurd e u3
        · refine .inr ⟨⟨k, x, by omega, hx, u, u2, rfl⟩, hall (fun i y => Ia g 771 th i ≤ 0 ∨ y.2.1 ≤ p0 ∨ x.2.1 ≤ y.2.1) (fun i y hi hy => ?_) (.inr (.inr (Int32.le_refl _)))⟩
          rcases h1 i y hi hy with z | z | z
          · exact .inl z
          · exact .inr (.inl z)
          · exact .inr (.inr (Int32.le_trans (Int32.le_of_lt (Int32.not_le.mp u4)) z))
  · unfold B_Pr_nextReady_0
    exact ⟨_, rfl, rfl, rfl, 0, Nat.zero_le _, rfl, nj_0, .inl ⟨rfl, fun i x hi => absurd hi (Nat.not_lt_zero _)⟩⟩
def Sp_Pr_wholeDays (Γ : GAM) (m : Nat) (a d n : Int32) (g : GH) (K : Int32 → GH → Prop) : Prop := Kd g m = 7 ∧ 1 ≤ Gi g 774 m ∧ K (if n = -1 then (a - 1) / Gi g 774 m else if n - d - 1 < (a - 1) / Gi g 774 m then n - d - 1 else (a - 1) / Gi g 774 m) g
-- the walk of Pr_wholeDays
set_option maxRecDepth 100000 in
def B_Pr_wholeDays_42 (Γ : GAM) (K : Int32 → GH → Prop) (s0 : Int32) (g : GH) : Prop :=
  K s0 g
set_option maxHeartbeats 4000000 in
set_option maxRecDepth 100000 in
theorem S_Pr_wholeDays_42 {Γ : GAM} {E : EV} {K : Int32 → GH → Prop} (hE : GE Γ E cX5_wholeDays 5 RX5 (some (.int)) 1 30 (fun r g' => ∃ x, r = some (.int x) ∧ K x g')) (s0 : Int32) (g : GH) (h : B_Pr_wholeDays_42 Γ K s0 g) : JW Γ E 42 [none, none, none, none, none] [.int s0] g := by
  unfold B_Pr_wholeDays_42 at h
  exact j_iret hE (by decide +kernel : decode cX5_wholeDays 42 = .ok (.ireturn, 1)) ⟨_, rfl, h⟩
set_option maxRecDepth 100000 in
def B_Pr_wholeDays_20 (Γ : GAM) (K : Int32 → GH → Prop) (l2 : Int32) (l3 : Int32) (s0 : Int32) (g : GH) : Prop :=
  ((¬ (l3 = (-1 : Int32)) → B_Pr_wholeDays_42 Γ K (if ((l3 - l2) - (1 : Int32)) < s0 then ((l3 - l2) - (1 : Int32)) else s0) g) ∧ (l3 = (-1 : Int32) → B_Pr_wholeDays_42 Γ K s0 g))
set_option maxHeartbeats 4000000 in
set_option maxRecDepth 100000 in
theorem S_Pr_wholeDays_20 {Γ : GAM} {E : EV} {K : Int32 → GH → Prop} (hE : GE Γ E cX5_wholeDays 5 RX5 (some (.int)) 1 30 (fun r g' => ∃ x, r = some (.int x) ∧ K x g')) (l2 : Int32) (l3 : Int32) (s0 : Int32) (g : GH) (h : B_Pr_wholeDays_20 Γ K l2 l3 s0 g) : JW Γ E 20 [none, none, some (.int l2), some (.int l3), none] [.int s0] g := by
  unfold B_Pr_wholeDays_20 at h
  refine j_istore hE (by decide +kernel : decode cX5_wholeDays 20 = .ok (.istore 4, 2)) (Nat.le_of_ble_eq_true rfl) rfl ?_
  refine j_iload_n hE (by decide +kernel : decode cX5_wholeDays 22 = .ok (.iload_n 3, 1)) rfl rfl ?_
  refine j_iconst hE (by decide +kernel : decode cX5_wholeDays 23 = .ok (.iconst (-1), 1)) (v := (-1 : Int32)) (by decide) ?_
  refine j_icmp_ne hE (by decide +kernel : decode cX5_wholeDays 24 = .ok (.if_icmp .ne 8, 3)) (tgt := 32) (by decide) (fun q => ?_) (fun q => ?_)
  · replace h := h.1 q
    refine j_iload hE (by decide +kernel : decode cX5_wholeDays 32 = .ok (.iload 4, 2)) rfl ?_
    refine j_iload_n hE (by decide +kernel : decode cX5_wholeDays 34 = .ok (.iload_n 3, 1)) rfl rfl ?_
    refine j_iload_n hE (by decide +kernel : decode cX5_wholeDays 35 = .ok (.iload_n 2, 1)) rfl rfl ?_
    refine j_isub hE (by decide +kernel : decode cX5_wholeDays 36 = .ok (.isub, 1)) ?_
    refine j_iconst hE (by decide +kernel : decode cX5_wholeDays 37 = .ok (.iconst 1, 1)) (v := (1 : Int32)) (by decide) ?_
    refine j_isub hE (by decide +kernel : decode cX5_wholeDays 38 = .ok (.isub, 1)) ?_
    refine j_mmin hE rfl ml_X5_51 st_J9_min_7cf53 in_Math co_J9_min_7cf53 (Nat.le_of_ble_eq_true rfl) (by omega) (by omega) (by decide +kernel : decode cX5_wholeDays 39 = .ok (.invokestatic 51, 3)) ?_
    refine j_weak [none, none, none, none, none] trivial ?_
    exact S_Pr_wholeDays_42 hE _ _ h
  · replace h := h.2 q
    refine j_iload hE (by decide +kernel : decode cX5_wholeDays 27 = .ok (.iload 4, 2)) rfl ?_
    refine j_goto hE (by decide +kernel : decode cX5_wholeDays 29 = .ok (.goto 13, 3)) (tgt := 42) (by decide) ?_
    refine j_weak [none, none, none, none, none] trivial ?_
    exact S_Pr_wholeDays_42 hE _ _ h
set_option maxRecDepth 100000 in
def B_Pr_wholeDays_0 (Γ : GAM) (K : Int32 → GH → Prop) (th : Nat) (p0 : Int32) (p1 : Int32) (p2 : Int32) (g : GH) : Prop :=
  Kd g th = 7 ∧ (((1 : Int32) ≤ (Gi g 774 th) → Kd g th = 7 ∧ ¬ ((Gi g 774 th) = 0) ∧ B_Pr_wholeDays_20 Γ K p1 p2 ((p0 - (1 : Int32)) / (Gi g 774 th)) g) ∧ (¬ ((1 : Int32) ≤ (Gi g 774 th)) → B_Pr_wholeDays_20 Γ K p1 p2 (0 : Int32) g))
set_option maxHeartbeats 4000000 in
set_option maxRecDepth 100000 in
theorem S_Pr_wholeDays_0 {Γ : GAM} {E : EV} {K : Int32 → GH → Prop} (hE : GE Γ E cX5_wholeDays 5 RX5 (some (.int)) 1 30 (fun r g' => ∃ x, r = some (.int x) ∧ K x g')) (th : Nat) (p0 : Int32) (p1 : Int32) (p2 : Int32) (g : GH) (h : B_Pr_wholeDays_0 Γ K th p0 p1 p2 g) : JW Γ E 0 [some (.ref th), some (.int p0), some (.int p1), some (.int p2), none] [] g := by
  unfold B_Pr_wholeDays_0 at h
  refine j_aload_n hE (by decide +kernel : decode cX5_wholeDays 0 = .ok (.aload_n 0, 1)) rfl rfl ?_
  obtain ⟨hk, h⟩ := h
  refine j_getI hE fg_X5_27 hk (by decide +kernel : decode cX5_wholeDays 1 = .ok (.getfield 27, 3)) ?_
  refine j_iconst hE (by decide +kernel : decode cX5_wholeDays 4 = .ok (.iconst 1, 1)) (v := (1 : Int32)) (by decide) ?_
  refine j_icmp_ge hE (by decide +kernel : decode cX5_wholeDays 5 = .ok (.if_icmp .ge 7, 3)) (tgt := 12) (by decide) (fun q => ?_) (fun q => ?_)
  · replace h := h.1 q
    refine j_iload_n hE (by decide +kernel : decode cX5_wholeDays 12 = .ok (.iload_n 1, 1)) rfl rfl ?_
    refine j_iconst hE (by decide +kernel : decode cX5_wholeDays 13 = .ok (.iconst 1, 1)) (v := (1 : Int32)) (by decide) ?_
    refine j_isub hE (by decide +kernel : decode cX5_wholeDays 14 = .ok (.isub, 1)) ?_
    refine j_aload_n hE (by decide +kernel : decode cX5_wholeDays 15 = .ok (.aload_n 0, 1)) rfl rfl ?_
    obtain ⟨hk, h⟩ := h
    refine j_getI hE fg_X5_27 hk (by decide +kernel : decode cX5_wholeDays 16 = .ok (.getfield 27, 3)) ?_
    obtain ⟨hne, h⟩ := h
    refine j_idiv hE (by decide +kernel : decode cX5_wholeDays 19 = .ok (.idiv, 1)) hne ?_
    refine j_weak [none, none, some (.int p1), some (.int p2), none] ⟨rfl, ⟨rfl, trivial⟩⟩ ?_
    exact S_Pr_wholeDays_20 hE _ _ _ _ h
  · replace h := h.2 q
    refine j_iconst hE (by decide +kernel : decode cX5_wholeDays 8 = .ok (.iconst 0, 1)) (v := (0 : Int32)) (by decide) ?_
    refine j_goto hE (by decide +kernel : decode cX5_wholeDays 9 = .ok (.goto 11, 3)) (tgt := 20) (by decide) ?_
    refine j_weak [none, none, some (.int p1), some (.int p2), none] ⟨rfl, ⟨rfl, trivial⟩⟩ ?_
    exact S_Pr_wholeDays_20 hE _ _ _ _ h
set_option maxHeartbeats 4000000 in
set_option maxRecDepth 100000 in
theorem rl_Pr_wholeDays {Γ : GAM} {l : Launch} {th : Nat} {p0 : Int32} {p1 : Int32} {p2 : Int32} {g : GH} {K : Int32 → GH → Prop} (h0 : B_Pr_wholeDays_0 Γ K th p0 p1 p2 g) : MetA Γ l yX5_wholeDays cX5_wholeDays 5 (some (.int)) 1 30 [.ref th, .int p0, .int p1, .int p2] g (fun r g' => ∃ x, r = some (.int x) ∧ K x g') := by
  refine MetA.introL (Lx := [some (.ref th), some (.int p0), some (.int p1), some (.int p2), none]) (by decide) (Nat.le_of_ble_eq_true rfl) rfl rfl ?_
  intro E hEl hE hnm
  exact S_Pr_wholeDays_0 hE th p0 p1 p2 g h0
theorem mt_Pr_wholeDays {Γ : GAM} {l : Launch} (th : Nat) (p0 : Int32) (p1 : Int32) (p2 : Int32) (g : GH) (K : Int32 → GH → Prop) (h : Sp_Pr_wholeDays Γ th p0 p1 p2 g K) : MetA Γ l yX5_wholeDays cX5_wholeDays 5 (some (.int)) 1 30 [.ref th, .int p0, .int p1, .int p2] g (fun r g' => ∃ x, r = some (.int x) ∧ K x g') := by
  obtain ⟨hkd, h1, hK⟩ := h
  refine rl_Pr_wholeDays ?_
  unfold B_Pr_wholeDays_0 B_Pr_wholeDays_20 B_Pr_wholeDays_42
  refine ⟨hkd, fun _ => ⟨hkd, fun z => by rw [z] at h1; exact absurd h1 (by decide), fun u => ?_, fun u => ?_⟩, fun u => absurd h1 u⟩
  · rw [if_neg u] at hK; exact hK
  · rw [if_pos u] at hK; exact hK
theorem nj_div {a b : Nat} (ha : a < 2147483648) (hb : b < 2147483648) : nI a / nI b = nI (a / b) := by
  apply Int32.toInt_inj.mp
  rw [Int32.toInt_div_of_ne_right _ _ (nI_nm1 hb), nj_toInt ha, nj_toInt hb, nj_toInt (Nat.lt_of_le_of_lt (Nat.div_le_self a b) ha)]
  exact (Int.ofNat_tdiv a b).symm
