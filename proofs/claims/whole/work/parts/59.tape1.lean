/-! the class: its reader of laws, the small methods -/
def TA (m : Nat) (g : GH) : Prop := Kd g m = 8 ∧ ∃ a b c d, (Gr g 896 m = some a ∧ Kd g a = 20 ∧ Co g a = 896 ∧ Ow g a = m ∧ Ln g a = 200) ∧ (Gr g 898 m = some b ∧ Kd g b = 20 ∧ Co g b = 898 ∧ Ow g b = m ∧ Ln g b = 200) ∧ (Gr g 900 m = some c ∧ Kd g c = 20 ∧ Co g c = 900 ∧ Ow g c = m ∧ Ln g c = 81) ∧ (Gr g 901 m = some d ∧ Kd g d = 20 ∧ Co g d = 901 ∧ Ow g d = m ∧ Ln g d = 40)
theorem TA.x {m : Nat} {g g' : GH} {fs cs : List Nat} (h : TA m g) (hx : FrX m fs cs g g') : TA m g' := by
  obtain ⟨⟨x1, x2, x3, x4, x5, x6, x7, x8, x9, x10, x11, x12⟩, _, _⟩ := hx
  unfold TA at h ⊢
  rw [x2, x6, x7, x8, x9]
  exact h
def TT (m : Nat) (g : GH) (t : List Int32) : Prop := TA m g ∧ Gi g 897 m = nI t.length ∧ t.length ≤ 200 ∧ (∀ k x, t[k]? = some x → Ia g 896 m k = x) ∧ ∀ x ∈ t, 1 ≤ x ∧ x ≤ 255
theorem TT.x {m : Nat} {g g' : GH} {t : List Int32} {fs cs : List Nat} (h : TT m g t) (hx : FrX m fs cs g g') (h1 : 897 ∉ fs) (h2 : 896 ∉ cs) : TT m g' t := by
  obtain ⟨a, b, c, d, e⟩ := h
  refine ⟨a.x hx, (hx.2.1 _ h1).trans b, c, fun k x hk => ?_, e⟩
  rw [hx.2.2 _ h2]; exact d k x hk
def TN (m : Nat) (g : GH) (t : List Int32) (p : Nat) (ws : List Int32) : Prop := TT m g t ∧ Gi g 903 m = nI p ∧ p ≤ t.length ∧ Gi g 899 m = nI ws.length ∧ ws.length ≤ 200 ∧ ∀ k x, ws[k]? = some x → Ia g 898 m k = x
theorem TN.at {m : Nat} {g : GH} {t : List Int32} {p q : Nat} {ws : List Int32} (h : TN m g t p ws) (hq : q ≤ t.length) : TN m (sI g 903 m (nI q)) t q ws ∧ FrX m [903, 899] [898] g (sI g 903 m (nI q)) := by
  obtain ⟨a, b, c, d, e, f⟩ := h
  refine ⟨⟨a.x (FrX.sI (fs := [903]) (cs := []) (by decide)) (by decide) (by decide), by rw [Gi_sI, if_pos ⟨rfl, rfl⟩], hq, by rw [Gi_sI, if_neg (fun q => absurd q.1 (by decide))]; exact d, e, f⟩, FrX.sI (by decide)⟩
def sg (t : List Int32) (p : Nat) : Int32 := if p < t.length then chr t p else 0
theorem sg_eq {t : List Int32} {p : Nat} {c : Int32} (h0 : c ≠ 0) (h1 : c ≠ -1) : sg t p = c ↔ chr t p = c := by
  unfold sg
  split
  · exact Iff.rfl
  · rename_i h
    rw [chr_end (by omega)]
    exact ⟨fun q => absurd q.symm h0, fun q => absurd q.symm h1⟩
theorem sg_0 {t : List Int32} {p : Nat} (ht : ∀ x ∈ t, 1 ≤ x ∧ x ≤ 255) : sg t p = 0 ↔ t.length ≤ p := by
  unfold sg
  split
  · rename_i h
    have := ht _ (List.mem_of_getElem? (chr_lt h))
    refine ⟨fun q => ?_, fun q => absurd q (by omega)⟩
    rw [q] at this; exact absurd this.1 (by decide)
  · exact ⟨fun _ => by omega, fun _ => rfl⟩
theorem sg_in {t : List Int32} {p : Nat} {c : Int32} (h0 : c ≠ 0) (h : sg t p = c) : p < t.length := by
  unfold sg at h
  split at h
  · assumption
  · exact absurd h.symm h0
theorem sg_dg {t : List Int32} {p : Nat} : isDg (sg t p) ↔ isDg (chr t p) := by
  unfold sg
  split
  · exact Iff.rfl
  · rw [chr_end (by omega)]; exact ⟨fun h => absurd h (by decide), fun h => absurd h (by decide)⟩
theorem sg_lt {t : List Int32} {p : Nat} : okLt (sg t p) ↔ okLt (chr t p) := by
  unfold sg
  split
  · exact Iff.rfl
  · rw [chr_end (by omega)]; exact ⟨fun h => absurd h (by decide), fun h => absurd h (by decide)⟩
theorem sg_bd {t : List Int32} {p : Nat} (ht : ∀ x ∈ t, 1 ≤ x ∧ x ≤ 255) : 0 ≤ sg t p ∧ sg t p ≤ 255 := by
  unfold sg
  split
  · rename_i h
    have := ht _ (List.mem_of_getElem? (chr_lt h))
    exact ⟨Int32.le_trans (by decide) this.1, this.2⟩
  · exact ⟨by decide, by decide⟩
def Sp_PV_isWithin (Γ : GAM) (v a b : Int32) (g : GH) (K : Int32 → GH → Prop) : Prop := K (if a ≤ v ∧ v ≤ b then 1 else 0) g
-- the walk of PV_isWithin
set_option maxRecDepth 100000 in
def B_PV_isWithin_15 (Γ : GAM) (K : Int32 → GH → Prop) (s0 : Int32) (g : GH) : Prop :=
  ((s0 = 0 ∨ s0 = 1) ∧ K s0 g)
set_option maxHeartbeats 4000000 in
set_option maxRecDepth 100000 in
theorem S_PV_isWithin_15 {Γ : GAM} {E : EV} {K : Int32 → GH → Prop} (hE : GE Γ E cX10_isWithin 3 RX10 (some (.boolean)) 0 0 (fun r g' => ∃ x, r = some (.int x) ∧ K x g')) (s0 : Int32) (g : GH) (h : B_PV_isWithin_15 Γ K s0 g) : JW Γ E 15 [none, none, none] [.int s0] g := by
  unfold B_PV_isWithin_15 at h
  exact j_zret hE h.1 (by decide +kernel : decode cX10_isWithin 15 = .ok (.ireturn, 1)) ⟨_, rfl, h.2⟩
set_option maxRecDepth 100000 in
def B_PV_isWithin_14 (Γ : GAM) (K : Int32 → GH → Prop)  (g : GH) : Prop :=
  B_PV_isWithin_15 Γ K (0 : Int32) g
set_option maxHeartbeats 4000000 in
set_option maxRecDepth 100000 in
theorem S_PV_isWithin_14 {Γ : GAM} {E : EV} {K : Int32 → GH → Prop} (hE : GE Γ E cX10_isWithin 3 RX10 (some (.boolean)) 0 0 (fun r g' => ∃ x, r = some (.int x) ∧ K x g'))  (g : GH) (h : B_PV_isWithin_14 Γ K  g) : JW Γ E 14 [none, none, none] [] g := by
  unfold B_PV_isWithin_14 at h
  refine j_iconst hE (by decide +kernel : decode cX10_isWithin 14 = .ok (.iconst 0, 1)) (v := (0 : Int32)) (by decide) ?_
  exact S_PV_isWithin_15 hE _ _ h
set_option maxRecDepth 100000 in
def B_PV_isWithin_0 (Γ : GAM) (K : Int32 → GH → Prop) (p0 : Int32) (p1 : Int32) (p2 : Int32) (g : GH) : Prop :=
  ((p0 < p1 → B_PV_isWithin_14 Γ K g) ∧ (¬ (p0 < p1) → ((p2 < p0 → B_PV_isWithin_14 Γ K g) ∧ (¬ (p2 < p0) → B_PV_isWithin_15 Γ K (1 : Int32) g))))
set_option maxHeartbeats 4000000 in
set_option maxRecDepth 100000 in
theorem S_PV_isWithin_0 {Γ : GAM} {E : EV} {K : Int32 → GH → Prop} (hE : GE Γ E cX10_isWithin 3 RX10 (some (.boolean)) 0 0 (fun r g' => ∃ x, r = some (.int x) ∧ K x g')) (p0 : Int32) (p1 : Int32) (p2 : Int32) (g : GH) (h : B_PV_isWithin_0 Γ K p0 p1 p2 g) : JW Γ E 0 [some (.int p0), some (.int p1), some (.int p2)] [] g := by
  unfold B_PV_isWithin_0 at h
  refine j_iload_n hE (by decide +kernel : decode cX10_isWithin 0 = .ok (.iload_n 0, 1)) rfl rfl ?_
  refine j_iload_n hE (by decide +kernel : decode cX10_isWithin 1 = .ok (.iload_n 1, 1)) rfl rfl ?_
  refine j_icmp_lt hE (by decide +kernel : decode cX10_isWithin 2 = .ok (.if_icmp .lt 12, 3)) (tgt := 14) (by decide) (fun q => ?_) (fun q => ?_)
  · replace h := h.1 q
    refine j_weak [none, none, none] trivial ?_
    exact S_PV_isWithin_14 hE _ h
  · replace h := h.2 q
    refine j_iload_n hE (by decide +kernel : decode cX10_isWithin 5 = .ok (.iload_n 0, 1)) rfl rfl ?_
    refine j_iload_n hE (by decide +kernel : decode cX10_isWithin 6 = .ok (.iload_n 2, 1)) rfl rfl ?_
    refine j_icmp_gt hE (by decide +kernel : decode cX10_isWithin 7 = .ok (.if_icmp .gt 7, 3)) (tgt := 14) (by decide) (fun q => ?_) (fun q => ?_)
    · replace h := h.1 q
      refine j_weak [none, none, none] trivial ?_
      exact S_PV_isWithin_14 hE _ h
    · replace h := h.2 q
      refine j_iconst hE (by decide +kernel : decode cX10_isWithin 10 = .ok (.iconst 1, 1)) (v := (1 : Int32)) (by decide) ?_
      refine j_goto hE (by decide +kernel : decode cX10_isWithin 11 = .ok (.goto 4, 3)) (tgt := 15) (by decide) ?_
      refine j_weak [none, none, none] trivial ?_
      exact S_PV_isWithin_15 hE _ _ h
set_option maxHeartbeats 4000000 in
set_option maxRecDepth 100000 in
theorem rl_PV_isWithin {Γ : GAM} {l : Launch} {p0 : Int32} {p1 : Int32} {p2 : Int32} {g : GH} {K : Int32 → GH → Prop} (h0 : B_PV_isWithin_0 Γ K p0 p1 p2 g) : MetA Γ l yX10_isWithin cX10_isWithin 3 (some (.boolean)) 0 0 [.int p0, .int p1, .int p2] g (fun r g' => ∃ x, r = some (.int x) ∧ K x g') := by
  refine MetA.introL (Lx := [some (.int p0), some (.int p1), some (.int p2)]) (by decide) (Nat.le_of_ble_eq_true rfl) rfl rfl ?_
  intro E hEl hE hnm
  exact S_PV_isWithin_0 hE p0 p1 p2 g h0
theorem mt_PV_isWithin {Γ : GAM} {l : Launch} (p0 : Int32) (p1 : Int32) (p2 : Int32) (g : GH) (K : Int32 → GH → Prop) (h : Sp_PV_isWithin Γ p0 p1 p2 g K) : MetA Γ l yX10_isWithin cX10_isWithin 3 (some (.boolean)) 0 0 [.int p0, .int p1, .int p2] g (fun r g' => ∃ x, r = some (.int x) ∧ K x g') := by
  refine rl_PV_isWithin ?_
  unfold Sp_PV_isWithin at h
  unfold B_PV_isWithin_0 B_PV_isWithin_14 B_PV_isWithin_15
  refine ⟨fun q => ?_, fun q => ⟨fun q2 => ?_, fun q2 => ?_⟩⟩
  · rw [if_neg (fun z => absurd z.1 (Int32.not_le.mpr q))] at h
    exact ⟨Or.inl rfl, h⟩
  · rw [if_neg (fun z => absurd z.2 (Int32.not_le.mpr q2))] at h
    exact ⟨Or.inl rfl, h⟩
  · rw [if_pos ⟨Int32.not_lt.mp q, Int32.not_lt.mp q2⟩] at h
    exact ⟨Or.inr rfl, h⟩
def Sp_Ta_nextSign (Γ : GAM) (m : Nat) (g : GH) (K : Int32 → GH → Prop) : Prop := ∃ t p ws, TN m g t p ws ∧ ∀ g', FrX m [903, 899] [898] g g' → TN m g' t (skp t p) ws → K (sg t (skp t p)) g'
-- the walk of Ta_nextSign
set_option maxRecDepth 100000 in
def B_Ta_nextSign_62 (Γ : GAM) (K0 : Nat → GH → Prop) (K : Int32 → GH → Prop) (s0 : Int32) (g : GH) : Prop :=
  K s0 g
set_option maxHeartbeats 4000000 in
set_option maxRecDepth 100000 in
theorem S_Ta_nextSign_62 {Γ : GAM} {E : EV} {K : Int32 → GH → Prop} (hE : GE Γ E cX6_nextSign 1 RX6 (some (.int)) 0 0 (fun r g' => ∃ x, r = some (.int x) ∧ K x g')) {K0 : Nat → GH → Prop} (hK0 : ∀ (l0 : Nat) (g : GH), K0 l0 g → JW Γ E 0 [some (.ref l0)] [] g) (s0 : Int32) (g : GH) (h : B_Ta_nextSign_62 Γ K0 K s0 g) : JW Γ E 62 [none] [.int s0] g := by
  unfold B_Ta_nextSign_62 at h
  exact j_iret hE (by decide +kernel : decode cX6_nextSign 62 = .ok (.ireturn, 1)) ⟨_, rfl, h⟩
set_option maxRecDepth 100000 in
def B_Ta_nextSign_38 (Γ : GAM) (K0 : Nat → GH → Prop) (K : Int32 → GH → Prop) (l0 : Nat) (g : GH) : Prop :=
  Kd g l0 = 8 ∧ Kd g l0 = 8 ∧ (((Gi g 897 l0) ≤ (Gi g 903 l0) → B_Ta_nextSign_62 Γ K0 K (0 : Int32) g) ∧ (¬ ((Gi g 897 l0) ≤ (Gi g 903 l0)) → Kd g l0 = 8 ∧ ∃ a1 : Nat, Gr g 896 l0 = some a1 ∧ Kd g l0 = 8 ∧ Kd g a1 = 20 ∧ inB (Gi g 903 l0) (Ln g a1) ∧ B_Ta_nextSign_62 Γ K0 K (Ia g (Co g a1) (Ow g a1) (Gi g 903 l0).toNatClampNeg) g))
set_option maxHeartbeats 4000000 in
set_option maxRecDepth 100000 in
theorem S_Ta_nextSign_38 {Γ : GAM} {E : EV} {K : Int32 → GH → Prop} (hE : GE Γ E cX6_nextSign 1 RX6 (some (.int)) 0 0 (fun r g' => ∃ x, r = some (.int x) ∧ K x g')) {K0 : Nat → GH → Prop} (hK0 : ∀ (l0 : Nat) (g : GH), K0 l0 g → JW Γ E 0 [some (.ref l0)] [] g) (l0 : Nat) (g : GH) (h : B_Ta_nextSign_38 Γ K0 K l0 g) : JW Γ E 38 [some (.ref l0)] [] g := by
  unfold B_Ta_nextSign_38 at h
  refine j_aload_n hE (by decide +kernel : decode cX6_nextSign 38 = .ok (.aload_n 0, 1)) rfl rfl ?_
  obtain ⟨hk, h⟩ := h
  refine j_getI hE fg_X6_28 hk (by decide +kernel : decode cX6_nextSign 39 = .ok (.getfield 28, 3)) ?_
  refine j_aload_n hE (by decide +kernel : decode cX6_nextSign 42 = .ok (.aload_n 0, 1)) rfl rfl ?_
  obtain ⟨hk, h⟩ := h
  refine j_getI hE fg_X6_24 hk (by decide +kernel : decode cX6_nextSign 43 = .ok (.getfield 24, 3)) ?_
  refine j_icmp_ge hE (by decide +kernel : decode cX6_nextSign 46 = .ok (.if_icmp .ge 15, 3)) (tgt := 61) (by decide) (fun q => ?_) (fun q => ?_)
  · replace h := h.1 q
    refine j_iconst hE (by decide +kernel : decode cX6_nextSign 61 = .ok (.iconst 0, 1)) (v := (0 : Int32)) (by decide) ?_
    refine j_weak [none] trivial ?_
    exact S_Ta_nextSign_62 hE hK0 _ _ h
  · replace h := h.2 q
    refine j_aload_n hE (by decide +kernel : decode cX6_nextSign 49 = .ok (.aload_n 0, 1)) rfl rfl ?_
    obtain ⟨hk, h⟩ := h
    obtain ⟨a1, ha, h⟩ := h
    refine j_getRn hE fg_X6_9 hk ha (by decide +kernel : decode cX6_nextSign 50 = .ok (.getfield 9, 3)) ?_
    refine j_aload_n hE (by decide +kernel : decode cX6_nextSign 53 = .ok (.aload_n 0, 1)) rfl rfl ?_
    obtain ⟨hk, h⟩ := h
    refine j_getI hE fg_X6_28 hk (by decide +kernel : decode cX6_nextSign 54 = .ok (.getfield 28, 3)) ?_
    obtain ⟨hk, hb, h⟩ := h
    refine j_iald hE hk hb (by decide +kernel : decode cX6_nextSign 57 = .ok (.iaload, 1)) ?_
    refine j_goto hE (by decide +kernel : decode cX6_nextSign 58 = .ok (.goto 4, 3)) (tgt := 62) (by decide) ?_
    refine j_weak [none] trivial ?_
    exact S_Ta_nextSign_62 hE hK0 _ _ h
set_option maxRecDepth 100000 in
def B_Ta_nextSign_0 (Γ : GAM) (K0 : Nat → GH → Prop) (K : Int32 → GH → Prop) (l0 : Nat) (g : GH) : Prop :=
  Kd g l0 = 8 ∧ Kd g l0 = 8 ∧ (((Gi g 897 l0) ≤ (Gi g 903 l0) → B_Ta_nextSign_38 Γ K0 K l0 g) ∧ (¬ ((Gi g 897 l0) ≤ (Gi g 903 l0)) → Kd g l0 = 8 ∧ ∃ a1 : Nat, Gr g 896 l0 = some a1 ∧ Kd g l0 = 8 ∧ Kd g a1 = 20 ∧ inB (Gi g 903 l0) (Ln g a1) ∧ ((¬ ((Ia g (Co g a1) (Ow g a1) (Gi g 903 l0).toNatClampNeg) = (32 : Int32)) → B_Ta_nextSign_38 Γ K0 K l0 g) ∧ ((Ia g (Co g a1) (Ow g a1) (Gi g 903 l0).toNatClampNeg) = (32 : Int32) → Kd g l0 = 8 ∧ Kd g l0 = 8 ∧ ∀ g2 : GH, g2 = sI g 903 l0 ((Gi g 903 l0) + (1 : Int32)) → K0 l0 g2))))
set_option maxHeartbeats 4000000 in
set_option maxRecDepth 100000 in
theorem S_Ta_nextSign_0 {Γ : GAM} {E : EV} {K : Int32 → GH → Prop} (hE : GE Γ E cX6_nextSign 1 RX6 (some (.int)) 0 0 (fun r g' => ∃ x, r = some (.int x) ∧ K x g')) {K0 : Nat → GH → Prop} (hK0 : ∀ (l0 : Nat) (g : GH), K0 l0 g → JW Γ E 0 [some (.ref l0)] [] g) (l0 : Nat) (g : GH) (h : B_Ta_nextSign_0 Γ K0 K l0 g) : JW Γ E 0 [some (.ref l0)] [] g := by
  unfold B_Ta_nextSign_0 at h
  refine j_aload_n hE (by decide +kernel : decode cX6_nextSign 0 = .ok (.aload_n 0, 1)) rfl rfl ?_
  obtain ⟨hk, h⟩ := h
  refine j_getI hE fg_X6_28 hk (by decide +kernel : decode cX6_nextSign 1 = .ok (.getfield 28, 3)) ?_
  refine j_aload_n hE (by decide +kernel : decode cX6_nextSign 4 = .ok (.aload_n 0, 1)) rfl rfl ?_
  obtain ⟨hk, h⟩ := h
  refine j_getI hE fg_X6_24 hk (by decide +kernel : decode cX6_nextSign 5 = .ok (.getfield 24, 3)) ?_
  refine j_icmp_ge hE (by decide +kernel : decode cX6_nextSign 8 = .ok (.if_icmp .ge 30, 3)) (tgt := 38) (by decide) (fun q => ?_) (fun q => ?_)
  · replace h := h.1 q
    exact S_Ta_nextSign_38 hE hK0 _ _ h
  · replace h := h.2 q
    refine j_aload_n hE (by decide +kernel : decode cX6_nextSign 11 = .ok (.aload_n 0, 1)) rfl rfl ?_
    obtain ⟨hk, h⟩ := h
    obtain ⟨a1, ha, h⟩ := h
    refine j_getRn hE fg_X6_9 hk ha (by decide +kernel : decode cX6_nextSign 12 = .ok (.getfield 9, 3)) ?_
    refine j_aload_n hE (by decide +kernel : decode cX6_nextSign 15 = .ok (.aload_n 0, 1)) rfl rfl ?_
    obtain ⟨hk, h⟩ := h
    refine j_getI hE fg_X6_28 hk (by decide +kernel : decode cX6_nextSign 16 = .ok (.getfield 28, 3)) ?_
    obtain ⟨hk, hb, h⟩ := h
    refine j_iald hE hk hb (by decide +kernel : decode cX6_nextSign 19 = .ok (.iaload, 1)) ?_
    refine j_bipush hE (by decide +kernel : decode cX6_nextSign 20 = .ok (.bipush 32, 2)) (v := (32 : Int32)) (by decide) ?_
    refine j_icmp_ne hE (by decide +kernel : decode cX6_nextSign 22 = .ok (.if_icmp .ne 16, 3)) (tgt := 38) (by decide) (fun q => ?_) (fun q => ?_)
    · replace h := h.1 q
      exact S_Ta_nextSign_38 hE hK0 _ _ h
    · replace h := h.2 q
      refine j_aload_n hE (by decide +kernel : decode cX6_nextSign 25 = .ok (.aload_n 0, 1)) rfl rfl ?_
      refine j_dup hE (by decide +kernel : decode cX6_nextSign 26 = .ok (.dup, 1)) rfl ?_
      obtain ⟨hk, h⟩ := h
      refine j_getI hE fg_X6_28 hk (by decide +kernel : decode cX6_nextSign 27 = .ok (.getfield 28, 3)) ?_
      refine j_iconst hE (by decide +kernel : decode cX6_nextSign 30 = .ok (.iconst 1, 1)) (v := (1 : Int32)) (by decide) ?_
      refine j_iadd hE (by decide +kernel : decode cX6_nextSign 31 = .ok (.iadd, 1)) ?_
      obtain ⟨hk, h⟩ := h
      obtain ⟨g2, hg⟩ : ∃ z, z = sI g 903 l0 ((Gi g 903 l0) + (1 : Int32)) := ⟨_, rfl⟩; replace h := h g2 hg
      refine j_putI hE fa_X6_28 hk (fun q => by cases q) (by decide +kernel : decode cX6_nextSign 32 = .ok (.putfield 28, 3)) ?_
      rw [← hg]
      refine j_goto hE (by decide +kernel : decode cX6_nextSign 35 = .ok (.goto (-35), 3)) (tgt := 0) (by decide) ?_
      exact hK0 _ _ h
set_option maxHeartbeats 4000000 in
set_option maxRecDepth 100000 in
theorem rl_Ta_nextSign {Γ : GAM} {l : Launch} {th : Nat} {g : GH} {K : Int32 → GH → Prop} (I0 : Nat → Nat → GH → Prop) (hh0 : ∀ n (l0 : Nat) (g : GH), I0 n l0 g → B_Ta_nextSign_0 Γ (fun l0 g => ∃ m, m < n ∧ I0 m l0 g) K l0 g) (h0 : ∃ m, I0 m th g) : MetA Γ l yX6_nextSign cX6_nextSign 1 (some (.int)) 0 0 [.ref th] g (fun r g' => ∃ x, r = some (.int x) ∧ K x g') := by
  refine MetA.introL (Lx := [some (.ref th)]) (by decide) (Nat.le_of_ble_eq_true rfl) rfl rfl ?_
  intro E hEl hE hnm
  have hall : ∀ n, (∀ (l0 : Nat) (g : GH), I0 n l0 g → JW Γ E 0 [some (.ref l0)] [] g) := by
    intro n
    induction n using Nat.strongRecOn with
    | ind n ih =>
      exact fun l0 g hi => S_Ta_nextSign_0 hE (fun l0 g hm => by obtain ⟨m, hm, h⟩ := hm; exact (ih m hm) l0 g h) l0 g (hh0 n l0 g hi)
  obtain ⟨m0, h0⟩ := h0
  exact (hall m0) th g h0
theorem mt_Ta_nextSign {Γ : GAM} {l : Launch} (th : Nat) (g : GH) (K : Int32 → GH → Prop) (h : Sp_Ta_nextSign Γ th g K) : MetA Γ l yX6_nextSign cX6_nextSign 1 (some (.int)) 0 0 [.ref th] g (fun r g' => ∃ x, r = some (.int x) ∧ K x g') := by
  obtain ⟨t, a, ws, hN, hK⟩ := h
  have hT := hN.1.2.2.1
  refine rl_Ta_nextSign (fun n l0 g' => th = l0 ∧ ∃ b, TN th g' t b ws ∧ FrX th [903, 899] [898] g g' ∧ skp t b = skp t a ∧ n = 1001 - b) ?_ ⟨_, rfl, a, hN, FrX.rf, rfl, rfl⟩
  rintro n l0 g' ⟨rfl, b, hb, hx, hs, rfl⟩
  obtain ⟨⟨⟨hkd, a1, a2, a3, a4, ⟨z1, z2, z3, z4, z5⟩, _⟩, t1, t2, t3, t4⟩, n1, n2, n3, n4, n5⟩ := id hb
  suffices H : ∀ (K0 : Nat → GH → Prop), (∀ g2, b < t.length → chr t b = 32 → TN th g2 t (b + 1) ws → FrX th [903, 899] [898] g g2 → K0 th g2) → B_Ta_nextSign_0 Γ K0 K th g' from
    H _ (fun g2 h0 h1 h2 h3 => ⟨1001 - (b + 1), by omega, rfl, b + 1, h2, h3, by rw [← skp_s h1]; exact hs, rfl⟩)
  intro K0 h0
  have h38 : chr t b ≠ 32 → B_Ta_nextSign_38 Γ K0 K th g' := fun q => by
    have hsb : skp t b = b := skp_n q
    have hK' := hK g' hx (by rw [← hs, hsb]; exact hb)
    rw [← hs, hsb] at hK'
    unfold B_Ta_nextSign_38 B_Ta_nextSign_62
    rw [t1, n1, nj_le (by omega) (by omega)]
    refine ⟨hkd, hkd, fun u => by unfold sg at hK'; rw [if_neg (by omega)] at hK'; exact hK', fun u => ⟨hkd, _, z1, hkd, z2, by rw [z5]; exact inB_nI (by omega) (by omega), ?_⟩⟩
    rw [z3, z4, nj_cl (by omega), t3 b _ (chr_lt (by omega))]
    unfold sg at hK'; rw [if_pos (by omega)] at hK'; exact hK'
  unfold B_Ta_nextSign_0
  rw [t1, n1, nj_le (by omega) (by omega)]
  refine ⟨hkd, hkd, fun u => h38 (by rw [chr_end u]; decide), fun u => ⟨hkd, _, z1, hkd, z2, by rw [z5]; exact inB_nI (by omega) (by omega), ?_⟩⟩
  rw [z3, z4, nj_cl (by omega), t3 b _ (chr_lt (by omega)), nj_s]
  refine ⟨h38, fun q => ⟨hkd, hkd, fun g2 hg2 => ?_⟩⟩
  obtain ⟨y1, y2⟩ := hb.at (q := b + 1) (by omega)
  rw [← hg2] at y1 y2
  exact h0 g2 (by omega) q y1 (hx.tr y2)
def Sp_Ta_takes (Γ : GAM) (m : Nat) (c : Int32) (g : GH) (K : Int32 → GH → Prop) : Prop := ∃ t p ws, TN m g t p ws ∧ c ≠ 0 ∧ c ≠ -1 ∧ (chr t (skp t p) = c → ∀ g', FrX m [903, 899] [898] g g' → TN m g' t (skp t p + 1) ws → skp t p < t.length → K 1 g') ∧ (chr t (skp t p) ≠ c → ∀ g', FrX m [903, 899] [898] g g' → TN m g' t (skp t p) ws → K 0 g')
-- the walk of Ta_takes
set_option maxRecDepth 100000 in
def B_Ta_takes_28 (Γ : GAM) (K : Int32 → GH → Prop) (l2 : Int32) (s0 : Int32) (s1 : Int32) (s2 : Nat) (g : GH) : Prop :=
  Kd g s2 = 8 ∧ ∀ g1 : GH, g1 = sI g 903 s2 (s1 + s0) → ((l2 = 0 ∨ l2 = 1) ∧ K l2 g1)
set_option maxHeartbeats 4000000 in
set_option maxRecDepth 100000 in
theorem S_Ta_takes_28 {Γ : GAM} {E : EV} {K : Int32 → GH → Prop} (hE : GE Γ E cX6_takes 3 RX6 (some (.boolean)) 1 20 (fun r g' => ∃ x, r = some (.int x) ∧ K x g')) (l2 : Int32) (s0 : Int32) (s1 : Int32) (s2 : Nat) (g : GH) (h : B_Ta_takes_28 Γ K l2 s0 s1 s2 g) : JW Γ E 28 [none, none, some (.int l2)] [.int s0, .int s1, .ref s2] g := by
  unfold B_Ta_takes_28 at h
  refine j_iadd hE (by decide +kernel : decode cX6_takes 28 = .ok (.iadd, 1)) ?_
  obtain ⟨hk, h⟩ := h
  obtain ⟨g1, hg⟩ : ∃ z, z = sI g 903 s2 (s1 + s0) := ⟨_, rfl⟩; replace h := h g1 hg
  refine j_putI hE fa_X6_28 hk (fun q => by cases q) (by decide +kernel : decode cX6_takes 29 = .ok (.putfield 28, 3)) ?_
  rw [← hg]
  refine j_iload_n hE (by decide +kernel : decode cX6_takes 32 = .ok (.iload_n 2, 1)) rfl rfl ?_
  exact j_zret hE h.1 (by decide +kernel : decode cX6_takes 33 = .ok (.ireturn, 1)) ⟨_, rfl, h.2⟩
set_option maxRecDepth 100000 in
def B_Ta_takes_13 (Γ : GAM) (K : Int32 → GH → Prop) (l0 : Nat) (s0 : Int32) (g : GH) : Prop :=
  Kd g l0 = 8 ∧ ((s0 = 0 → B_Ta_takes_28 Γ K s0 (0 : Int32) (Gi g 903 l0) l0 g) ∧ (¬ (s0 = 0) → B_Ta_takes_28 Γ K s0 (1 : Int32) (Gi g 903 l0) l0 g))
set_option maxHeartbeats 4000000 in
set_option maxRecDepth 100000 in
theorem S_Ta_takes_13 {Γ : GAM} {E : EV} {K : Int32 → GH → Prop} (hE : GE Γ E cX6_takes 3 RX6 (some (.boolean)) 1 20 (fun r g' => ∃ x, r = some (.int x) ∧ K x g')) (l0 : Nat) (s0 : Int32) (g : GH) (h : B_Ta_takes_13 Γ K l0 s0 g) : JW Γ E 13 [some (.ref l0), none, none] [.int s0] g := by
  unfold B_Ta_takes_13 at h
  refine j_istore_n hE (by decide +kernel : decode cX6_takes 13 = .ok (.istore_n 2, 1)) rfl (Nat.le_of_ble_eq_true rfl) rfl ?_
  refine j_aload_n hE (by decide +kernel : decode cX6_takes 14 = .ok (.aload_n 0, 1)) rfl rfl ?_
  refine j_dup hE (by decide +kernel : decode cX6_takes 15 = .ok (.dup, 1)) rfl ?_
  obtain ⟨hk, h⟩ := h
  refine j_getI hE fg_X6_28 hk (by decide +kernel : decode cX6_takes 16 = .ok (.getfield 28, 3)) ?_
  refine j_iload_n hE (by decide +kernel : decode cX6_takes 19 = .ok (.iload_n 2, 1)) rfl rfl ?_
  refine j_if_eq hE (by decide +kernel : decode cX6_takes 20 = .ok (.ifCond .eq 7, 3)) (tgt := 27) (by decide) (fun q => ?_) (fun q => ?_)
  · replace h := h.1 q
    refine j_iconst hE (by decide +kernel : decode cX6_takes 27 = .ok (.iconst 0, 1)) (v := (0 : Int32)) (by decide) ?_
    refine j_weak [none, none, some (.int s0)] ⟨rfl, trivial⟩ ?_
    exact S_Ta_takes_28 hE _ _ _ _ _ h
  · replace h := h.2 q
    refine j_iconst hE (by decide +kernel : decode cX6_takes 23 = .ok (.iconst 1, 1)) (v := (1 : Int32)) (by decide) ?_
    refine j_goto hE (by decide +kernel : decode cX6_takes 24 = .ok (.goto 4, 3)) (tgt := 28) (by decide) ?_
    refine j_weak [none, none, some (.int s0)] ⟨rfl, trivial⟩ ?_
    exact S_Ta_takes_28 hE _ _ _ _ _ h
set_option maxRecDepth 100000 in
def B_Ta_takes_0 (Γ : GAM) (K : Int32 → GH → Prop) (th : Nat) (p0 : Int32) (g : GH) : Prop :=
  Kd g th = 8 ∧ Sp_Ta_nextSign Γ th g (fun (x2 : Int32) (g1 : GH) => ((¬ (x2 = p0) → B_Ta_takes_13 Γ K th (0 : Int32) g1) ∧ (x2 = p0 → B_Ta_takes_13 Γ K th (1 : Int32) g1)))
set_option maxHeartbeats 4000000 in
set_option maxRecDepth 100000 in
theorem S_Ta_takes_0 {Γ : GAM} {E : EV} {K : Int32 → GH → Prop} (hE : GE Γ E cX6_takes 3 RX6 (some (.boolean)) 1 20 (fun r g' => ∃ x, r = some (.int x) ∧ K x g')) (th : Nat) (p0 : Int32) (g : GH) (h : B_Ta_takes_0 Γ K th p0 g) : JW Γ E 0 [some (.ref th), some (.int p0), none] [] g := by
  unfold B_Ta_takes_0 at h
  refine j_aload_n hE (by decide +kernel : decode cX6_takes 0 = .ok (.aload_n 0, 1)) rfl rfl ?_
  obtain ⟨hk, h⟩ := h
  refine j_callV hE rfl cl_X6_45 cf_7 im_X6_nextSign se_X6_nextSign ⟨by omega, by omega⟩ (As := []) (rest := []) rfl rfl (Nat.le_of_ble_eq_true rfl) hk (by decide +kernel : decode cX6_takes 1 = .ok (.invokevirtual 45, 3)) (mt_Ta_nextSign _ _ _ h) ?_
  rintro _ g1 ⟨x2, rfl, h⟩
  refine j_iload_n hE (by decide +kernel : decode cX6_takes 4 = .ok (.iload_n 1, 1)) rfl rfl ?_
  refine j_icmp_ne hE (by decide +kernel : decode cX6_takes 5 = .ok (.if_icmp .ne 7, 3)) (tgt := 12) (by decide) (fun q => ?_) (fun q => ?_)
  · replace h := h.1 q
    refine j_iconst hE (by decide +kernel : decode cX6_takes 12 = .ok (.iconst 0, 1)) (v := (0 : Int32)) (by decide) ?_
    refine j_weak [some (.ref th), none, none] ⟨rfl, trivial⟩ ?_
    exact S_Ta_takes_13 hE _ _ _ h
  · replace h := h.2 q
    refine j_iconst hE (by decide +kernel : decode cX6_takes 8 = .ok (.iconst 1, 1)) (v := (1 : Int32)) (by decide) ?_
    refine j_goto hE (by decide +kernel : decode cX6_takes 9 = .ok (.goto 4, 3)) (tgt := 13) (by decide) ?_
    refine j_weak [some (.ref th), none, none] ⟨rfl, trivial⟩ ?_
    exact S_Ta_takes_13 hE _ _ _ h
set_option maxHeartbeats 4000000 in
set_option maxRecDepth 100000 in
theorem rl_Ta_takes {Γ : GAM} {l : Launch} {th : Nat} {p0 : Int32} {g : GH} {K : Int32 → GH → Prop} (h0 : B_Ta_takes_0 Γ K th p0 g) : MetA Γ l yX6_takes cX6_takes 3 (some (.boolean)) 1 20 [.ref th, .int p0] g (fun r g' => ∃ x, r = some (.int x) ∧ K x g') := by
  refine MetA.introL (Lx := [some (.ref th), some (.int p0), none]) (by decide) (Nat.le_of_ble_eq_true rfl) rfl rfl ?_
  intro E hEl hE hnm
  exact S_Ta_takes_0 hE th p0 g h0
theorem mt_Ta_takes {Γ : GAM} {l : Launch} (th : Nat) (p0 : Int32) (g : GH) (K : Int32 → GH → Prop) (h : Sp_Ta_takes Γ th p0 g K) : MetA Γ l yX6_takes cX6_takes 3 (some (.boolean)) 1 20 [.ref th, .int p0] g (fun r g' => ∃ x, r = some (.int x) ∧ K x g') := by
  obtain ⟨t, p, ws, hN, hc0, hc1, hK1, hK0⟩ := h
  refine rl_Ta_takes ?_
  unfold B_Ta_takes_0 B_Ta_takes_13 B_Ta_takes_28
  refine ⟨hN.1.1.1, t, p, ws, hN, fun g1 hx1 hN1 => ?_⟩
  have hkd1 := hN1.1.1.1
  show (¬ (sg t (skp t p) = p0) → _) ∧ (sg t (skp t p) = p0 → _)
  rw [sg_eq hc0 hc1]
  refine ⟨fun u => ⟨hkd1, fun _ => ⟨hkd1, ?_⟩, fun z => absurd rfl z⟩, fun u => ⟨hkd1, fun z => absurd z (by decide), fun _ => ⟨hkd1, ?_⟩⟩⟩
  · rintro g2 rfl
    obtain ⟨y1, y2⟩ := hN1.at hN1.2.2.1
    rw [← hN1.2.1] at y1 y2
    rw [Int32.add_zero]
    exact ⟨.inl rfl, hK0 u _ (hx1.tr y2) y1⟩
  · rintro g2 rfl
    have hlt : skp t p < t.length := chr_in (by rw [u]; exact hc1)
    obtain ⟨y1, y2⟩ := hN1.at (q := skp t p + 1) hlt
    rw [← nj_s, ← hN1.2.1] at y1 y2
    exact ⟨.inr rfl, hK1 u _ (hx1.tr y2) y1 hlt⟩
theorem TN.wr {m : Nat} {g : GH} {t : List Int32} {p : Nat} {ws : List Int32} (h : TN m g t p ws) (hl : ws.length < 200) (c : Int32) : TN m (sI (sA g 898 m ws.length c) 899 m (nI (ws.length + 1))) t p (ws ++ [c]) ∧ FrX m [903, 899] [898] g (sI (sA g 898 m ws.length c) 899 m (nI (ws.length + 1))) := by
  obtain ⟨a, b, c', d, e, f⟩ := h
  have hx : FrX m [903, 899] [898] g (sI (sA g 898 m ws.length c) 899 m (nI (ws.length + 1))) := (FrX.sA (by decide)).tr (FrX.sI (by decide))
  refine ⟨⟨a.x hx (by decide) (by decide), by rw [Gi_sI, if_neg (fun q => absurd q.1 (by decide)), Gi_sA]; exact b, c', ?_, by simp; omega, fun k x hk => ?_⟩, hx⟩
  · rw [Gi_sI, if_pos ⟨rfl, rfl⟩, List.length_append]; rfl
  · rw [Ia_sI, Ia_sA]
    rw [List.getElem?_append] at hk
    split at hk
    · rw [if_neg (fun q => by omega)]; exact f k x hk
    · have hj := (List.getElem?_eq_some_iff.mp hk).1
      simp at hj
      have hj3 : k = ws.length := by omega
      subst hj3
      simp at hk
      rw [if_pos ⟨rfl, rfl, rfl⟩, hk]
def Sp_Ta_write (Γ : GAM) (m : Nat) (c : Int32) (g : GH) (K : GH → Prop) : Prop := ∃ t p ws, TN m g t p ws ∧ ∀ g' ws', FrX m [903, 899] [898] g g' → TN m g' t p ws' → (ws.length < 200 → ws' = ws ++ [c]) → K g'
-- the walk of Ta_write
set_option maxRecDepth 100000 in
def B_Ta_write_32 (Γ : GAM) (K : GH → Prop)  (g : GH) : Prop :=
  K g
set_option maxHeartbeats 4000000 in
set_option maxRecDepth 100000 in
theorem S_Ta_write_32 {Γ : GAM} {E : EV} {K : GH → Prop} (hE : GE Γ E cX6_write 2 RX6 none 0 0 (fun r g' => r = none ∧ K g'))  (g : GH) (h : B_Ta_write_32 Γ K  g) : JW Γ E 32 [none, none] [] g := by
  unfold B_Ta_write_32 at h
  exact j_vret hE (by decide +kernel : decode cX6_write 32 = .ok (.return_, 1)) ⟨rfl, h⟩
set_option maxRecDepth 100000 in
def B_Ta_write_0 (Γ : GAM) (K : GH → Prop) (th : Nat) (p0 : Int32) (g : GH) : Prop :=
  Kd g th = 8 ∧ Kd g th = 8 ∧ ∃ a1 : Nat, Gr g 898 th = some a1 ∧ (20 ≤ Kd g a1 ∧ Kd g a1 < 24) ∧ (((Int32.ofNat (Ln g a1)) ≤ (Gi g 899 th) → B_Ta_write_32 Γ K g) ∧ (¬ ((Int32.ofNat (Ln g a1)) ≤ (Gi g 899 th)) → Kd g th = 8 ∧ ∃ a2 : Nat, Gr g 898 th = some a2 ∧ Kd g th = 8 ∧ Kd g a2 = 20 ∧ inB (Gi g 899 th) (Ln g a2) ∧ ∀ g3 : GH, g3 = sA g (Co g a2) (Ow g a2) (Gi g 899 th).toNatClampNeg p0 → Kd g3 th = 8 ∧ Kd g3 th = 8 ∧ ∀ g4 : GH, g4 = sI g3 899 th ((Gi g3 899 th) + (1 : Int32)) → B_Ta_write_32 Γ K g4))
set_option maxHeartbeats 4000000 in
set_option maxRecDepth 100000 in
theorem S_Ta_write_0 {Γ : GAM} {E : EV} {K : GH → Prop} (hE : GE Γ E cX6_write 2 RX6 none 0 0 (fun r g' => r = none ∧ K g')) (th : Nat) (p0 : Int32) (g : GH) (h : B_Ta_write_0 Γ K th p0 g) : JW Γ E 0 [some (.ref th), some (.int p0)] [] g := by
  unfold B_Ta_write_0 at h
  refine j_aload_n hE (by decide +kernel : decode cX6_write 0 = .ok (.aload_n 0, 1)) rfl rfl ?_
  obtain ⟨hk, h⟩ := h
  refine j_getI hE fg_X6_31 hk (by decide +kernel : decode cX6_write 1 = .ok (.getfield 31, 3)) ?_
  refine j_aload_n hE (by decide +kernel : decode cX6_write 4 = .ok (.aload_n 0, 1)) rfl rfl ?_
  obtain ⟨hk, h⟩ := h
  obtain ⟨a1, ha, h⟩ := h
  refine j_getRn hE fg_X6_15 hk ha (by decide +kernel : decode cX6_write 5 = .ok (.getfield 15, 3)) ?_
  obtain ⟨hk, h⟩ := h
  refine j_alen hE hk (by decide +kernel : decode cX6_write 8 = .ok (.arraylength, 1)) ?_
  refine j_icmp_ge hE (by decide +kernel : decode cX6_write 9 = .ok (.if_icmp .ge 23, 3)) (tgt := 32) (by decide) (fun q => ?_) (fun q => ?_)
  · replace h := h.1 q
    refine j_weak [none, none] trivial ?_
    exact S_Ta_write_32 hE _ h
  · replace h := h.2 q
    refine j_aload_n hE (by decide +kernel : decode cX6_write 12 = .ok (.aload_n 0, 1)) rfl rfl ?_
    obtain ⟨hk, h⟩ := h
    obtain ⟨a2, ha, h⟩ := h
    refine j_getRn hE fg_X6_15 hk ha (by decide +kernel : decode cX6_write 13 = .ok (.getfield 15, 3)) ?_
    refine j_aload_n hE (by decide +kernel : decode cX6_write 16 = .ok (.aload_n 0, 1)) rfl rfl ?_
    obtain ⟨hk, h⟩ := h
    refine j_getI hE fg_X6_31 hk (by decide +kernel : decode cX6_write 17 = .ok (.getfield 31, 3)) ?_
    refine j_iload_n hE (by decide +kernel : decode cX6_write 20 = .ok (.iload_n 1, 1)) rfl rfl ?_
    obtain ⟨hk, hb, h⟩ := h
    obtain ⟨g3, hg⟩ : ∃ z, z = sA g (Co g a2) (Ow g a2) (Gi g 899 th).toNatClampNeg p0 := ⟨_, rfl⟩; replace h := h g3 hg
    refine j_iast hE hk hb (by decide +kernel : decode cX6_write 21 = .ok (.iastore, 1)) ?_
    rw [← hg]
    refine j_aload_n hE (by decide +kernel : decode cX6_write 22 = .ok (.aload_n 0, 1)) rfl rfl ?_
    refine j_dup hE (by decide +kernel : decode cX6_write 23 = .ok (.dup, 1)) rfl ?_
    obtain ⟨hk, h⟩ := h
    refine j_getI hE fg_X6_31 hk (by decide +kernel : decode cX6_write 24 = .ok (.getfield 31, 3)) ?_
    refine j_iconst hE (by decide +kernel : decode cX6_write 27 = .ok (.iconst 1, 1)) (v := (1 : Int32)) (by decide) ?_
    refine j_iadd hE (by decide +kernel : decode cX6_write 28 = .ok (.iadd, 1)) ?_
    obtain ⟨hk, h⟩ := h
    obtain ⟨g4, hg⟩ : ∃ z, z = sI g3 899 th ((Gi g3 899 th) + (1 : Int32)) := ⟨_, rfl⟩; replace h := h g4 hg
    refine j_putI hE fa_X6_31 hk (fun q => by cases q) (by decide +kernel : decode cX6_write 29 = .ok (.putfield 31, 3)) ?_
    rw [← hg]
    refine j_weak [none, none] trivial ?_
    exact S_Ta_write_32 hE _ h
set_option maxHeartbeats 4000000 in
set_option maxRecDepth 100000 in
theorem rl_Ta_write {Γ : GAM} {l : Launch} {th : Nat} {p0 : Int32} {g : GH} {K : GH → Prop} (h0 : B_Ta_write_0 Γ K th p0 g) : MetA Γ l yX6_write cX6_write 2 none 0 0 [.ref th, .int p0] g (fun r g' => r = none ∧ K g') := by
  refine MetA.introL (Lx := [some (.ref th), some (.int p0)]) (by decide) (Nat.le_of_ble_eq_true rfl) rfl rfl ?_
  intro E hEl hE hnm
  exact S_Ta_write_0 hE th p0 g h0
theorem mt_Ta_write {Γ : GAM} {l : Launch} (th : Nat) (p0 : Int32) (g : GH) (K : GH → Prop) (h : Sp_Ta_write Γ th p0 g K) : MetA Γ l yX6_write cX6_write 2 none 0 0 [.ref th, .int p0] g (fun r g' => r = none ∧ K g') := by
  obtain ⟨t, p, ws, hN, hK⟩ := h
  obtain ⟨⟨⟨hkd, a1, a2, a3, a4, y1, ⟨z1, z2, z3, z4, z5⟩, y2⟩, t1, t2, t3, t4⟩, n1, n2, n3, n4, n5⟩ := id hN
  have e200 : Int32.ofNat (Ln g a2) = nI 200 := by rw [z5]; rfl
  refine rl_Ta_write ?_
  unfold B_Ta_write_0 B_Ta_write_32
  refine ⟨hkd, hkd, a2, z1, ⟨by omega, by omega⟩, ?_⟩
  rw [e200, n3, nj_le (by omega) (by omega)]
  refine ⟨fun u => hK g ws FrX.rf hN (fun q => by omega), fun u => ⟨hkd, a2, z1, hkd, z2, by rw [z5]; exact inB_nI (by omega) (by omega), ?_⟩⟩
  rw [z3, z4, nj_cl (by omega)]
  rintro g3 rfl
  refine ⟨hkd, hkd, ?_⟩
  rintro g4 rfl
  rw [Gi_sA, n3, nj_s]
  obtain ⟨w1, w2⟩ := hN.wr (by omega) p0
  exact hK _ _ w2 w1 (fun _ => rfl)
/-- what a piece answers -/
def TO (m : Nat) (g : GH) (t ws : List Int32) (r : PRs) (b : Int32) : Prop := match r with
  | .inl e => b = 0 ∧ ∃ ws', TN m g t e ws'
  | .inr (p2, w) => b = 1 ∧ TN m g t p2 (ws ++ w)
def SpT (S : List Int32 → Nat → PRs) (Γ : GAM) (m : Nat) (g : GH) (K : Int32 → GH → Prop) : Prop := ∃ t p ws, TN m g t p ws ∧ ws.length ≤ p ∧ ∀ b g', FrX m [903, 899] [898] g g' → TO m g' t ws (S t p) b → K b g'
def Sp_Ta_readNumber : GAM → Nat → GH → (Int32 → GH → Prop) → Prop := SpT pNm
-- the walk of Ta_readNumber
set_option maxRecDepth 100000 in
def B_Ta_readNumber_89 (Γ : GAM) (K20 : Nat → Int32 → Int32 → GH → Prop) (K : Int32 → GH → Prop) (l0 : Nat) (l1 : Int32) (g : GH) : Prop :=
  Kd g l0 = 8 ∧ Sp_Ta_write Γ l0 l1 g (fun (g1 : GH) => K (1 : Int32) g1)
set_option maxHeartbeats 4000000 in
set_option maxRecDepth 100000 in
theorem S_Ta_readNumber_89 {Γ : GAM} {E : EV} {K : Int32 → GH → Prop} (hE : GE Γ E cX6_readNumber 3 RX6 (some (.boolean)) 1 22 (fun r g' => ∃ x, r = some (.int x) ∧ K x g')) {K20 : Nat → Int32 → Int32 → GH → Prop} (hK20 : ∀ (l0 : Nat) (l1 : Int32) (l2 : Int32) (g : GH), K20 l0 l1 l2 g → JW Γ E 20 [some (.ref l0), some (.int l1), some (.int l2)] [] g) (l0 : Nat) (l1 : Int32) (g : GH) (h : B_Ta_readNumber_89 Γ K20 K l0 l1 g) : JW Γ E 89 [some (.ref l0), some (.int l1), none] [] g := by
  unfold B_Ta_readNumber_89 at h
  refine j_aload_n hE (by decide +kernel : decode cX6_readNumber 89 = .ok (.aload_n 0, 1)) rfl rfl ?_
  refine j_iload_n hE (by decide +kernel : decode cX6_readNumber 90 = .ok (.iload_n 1, 1)) rfl rfl ?_
  obtain ⟨hk, h⟩ := h
  refine j_callV hE rfl cl_X6_64 cf_7 im_X6_write se_X6_write ⟨by omega, by omega⟩ (As := [.int l1]) (rest := []) rfl rfl (Nat.le_of_ble_eq_true rfl) hk (by decide +kernel : decode cX6_readNumber 91 = .ok (.invokevirtual 64, 3)) (mt_Ta_write _ _ _ _ h) ?_
  rintro _ g1 ⟨rfl, h⟩
  refine j_iconst hE (by decide +kernel : decode cX6_readNumber 94 = .ok (.iconst 1, 1)) (v := (1 : Int32)) (by decide) ?_
  exact j_zret hE (Or.inr rfl) (by decide +kernel : decode cX6_readNumber 95 = .ok (.ireturn, 1)) ⟨_, rfl, h⟩
set_option maxRecDepth 100000 in
def B_Ta_readNumber_20 (Γ : GAM) (K20 : Nat → Int32 → Int32 → GH → Prop) (K : Int32 → GH → Prop) (l0 : Nat) (l1 : Int32) (l2 : Int32) (g : GH) : Prop :=
  (((4 : Int32) ≤ l2 → B_Ta_readNumber_89 Γ K20 K l0 l1 g) ∧ (¬ ((4 : Int32) ≤ l2) → Kd g l0 = 8 ∧ Kd g l0 = 8 ∧ (((Gi g 897 l0) ≤ (Gi g 903 l0) → B_Ta_readNumber_89 Γ K20 K l0 l1 g) ∧ (¬ ((Gi g 897 l0) ≤ (Gi g 903 l0)) → Kd g l0 = 8 ∧ ∃ a1 : Nat, Gr g 896 l0 = some a1 ∧ Kd g l0 = 8 ∧ Kd g a1 = 20 ∧ inB (Gi g 903 l0) (Ln g a1) ∧ Sp_PV_isWithin Γ (Ia g (Co g a1) (Ow g a1) (Gi g 903 l0).toNatClampNeg) (48 : Int32) (57 : Int32) g (fun (x3 : Int32) (g2 : GH) => ((x3 = 0 → B_Ta_readNumber_89 Γ K20 K l0 l1 g2) ∧ (¬ (x3 = 0) → Kd g2 l0 = 8 ∧ ∃ a4 : Nat, Gr g2 896 l0 = some a4 ∧ Kd g2 l0 = 8 ∧ Kd g2 a4 = 20 ∧ inB (Gi g2 903 l0) (Ln g2 a4) ∧ ∀ x5 : Int32, x5 = (((l1 * (10 : Int32)) + (Ia g2 (Co g2 a4) (Ow g2 a4) (Gi g2 903 l0).toNatClampNeg)) - (48 : Int32)) → Kd g2 l0 = 8 ∧ Kd g2 l0 = 8 ∧ ∀ g6 : GH, g6 = sI g2 903 l0 ((Gi g2 903 l0) + (1 : Int32)) → K20 l0 x5 (l2 + (1 : Int32)) g6)))))))
set_option maxHeartbeats 4000000 in
set_option maxRecDepth 100000 in
theorem S_Ta_readNumber_20 {Γ : GAM} {E : EV} {K : Int32 → GH → Prop} (hE : GE Γ E cX6_readNumber 3 RX6 (some (.boolean)) 1 22 (fun r g' => ∃ x, r = some (.int x) ∧ K x g')) {K20 : Nat → Int32 → Int32 → GH → Prop} (hK20 : ∀ (l0 : Nat) (l1 : Int32) (l2 : Int32) (g : GH), K20 l0 l1 l2 g → JW Γ E 20 [some (.ref l0), some (.int l1), some (.int l2)] [] g) (l0 : Nat) (l1 : Int32) (l2 : Int32) (g : GH) (h : B_Ta_readNumber_20 Γ K20 K l0 l1 l2 g) : JW Γ E 20 [some (.ref l0), some (.int l1), some (.int l2)] [] g := by
  unfold B_Ta_readNumber_20 at h
  refine j_iload_n hE (by decide +kernel : decode cX6_readNumber 20 = .ok (.iload_n 2, 1)) rfl rfl ?_
  refine j_iconst hE (by decide +kernel : decode cX6_readNumber 21 = .ok (.iconst 4, 1)) (v := (4 : Int32)) (by decide) ?_
  refine j_icmp_ge hE (by decide +kernel : decode cX6_readNumber 22 = .ok (.if_icmp .ge 67, 3)) (tgt := 89) (by decide) (fun q => ?_) (fun q => ?_)
  · replace h := h.1 q
    refine j_weak [some (.ref l0), some (.int l1), none] ⟨rfl, ⟨rfl, trivial⟩⟩ ?_
    exact S_Ta_readNumber_89 hE hK20 _ _ _ h
  · replace h := h.2 q
    refine j_aload_n hE (by decide +kernel : decode cX6_readNumber 25 = .ok (.aload_n 0, 1)) rfl rfl ?_
    obtain ⟨hk, h⟩ := h
    refine j_getI hE fg_X6_28 hk (by decide +kernel : decode cX6_readNumber 26 = .ok (.getfield 28, 3)) ?_
    refine j_aload_n hE (by decide +kernel : decode cX6_readNumber 29 = .ok (.aload_n 0, 1)) rfl rfl ?_
    obtain ⟨hk, h⟩ := h
    refine j_getI hE fg_X6_24 hk (by decide +kernel : decode cX6_readNumber 30 = .ok (.getfield 24, 3)) ?_
    refine j_icmp_ge hE (by decide +kernel : decode cX6_readNumber 33 = .ok (.if_icmp .ge 56, 3)) (tgt := 89) (by decide) (fun q => ?_) (fun q => ?_)
    · replace h := h.1 q
      refine j_weak [some (.ref l0), some (.int l1), none] ⟨rfl, ⟨rfl, trivial⟩⟩ ?_
      exact S_Ta_readNumber_89 hE hK20 _ _ _ h
    · replace h := h.2 q
      refine j_aload_n hE (by decide +kernel : decode cX6_readNumber 36 = .ok (.aload_n 0, 1)) rfl rfl ?_
      obtain ⟨hk, h⟩ := h
      obtain ⟨a1, ha, h⟩ := h
      refine j_getRn hE fg_X6_9 hk ha (by decide +kernel : decode cX6_readNumber 37 = .ok (.getfield 9, 3)) ?_
      refine j_aload_n hE (by decide +kernel : decode cX6_readNumber 40 = .ok (.aload_n 0, 1)) rfl rfl ?_
      obtain ⟨hk, h⟩ := h
      refine j_getI hE fg_X6_28 hk (by decide +kernel : decode cX6_readNumber 41 = .ok (.getfield 28, 3)) ?_
      obtain ⟨hk, hb, h⟩ := h
      refine j_iald hE hk hb (by decide +kernel : decode cX6_readNumber 44 = .ok (.iaload, 1)) ?_
      refine j_bipush hE (by decide +kernel : decode cX6_readNumber 45 = .ok (.bipush 48, 2)) (v := (48 : Int32)) (by decide) ?_
      refine j_bipush hE (by decide +kernel : decode cX6_readNumber 47 = .ok (.bipush 57, 2)) (v := (57 : Int32)) (by decide) ?_
      refine j_callSN hE rfl cl_X6_83 st_X10_isWithin ⟨by omega, by omega⟩ (As := [.int (Ia g (Co g a1) (Ow g a1) (Gi g 903 l0).toNatClampNeg), .int (48 : Int32), .int (57 : Int32)]) (rest := []) rfl rfl (Nat.le_of_ble_eq_true rfl) (by decide +kernel : decode cX6_readNumber 49 = .ok (.invokestatic 83, 3)) (mt_PV_isWithin _ _ _ _ _ h) ?_
      rintro _ g2 ⟨x3, rfl, h⟩
      refine j_if_eq hE (by decide +kernel : decode cX6_readNumber 52 = .ok (.ifCond .eq 37, 3)) (tgt := 89) (by decide) (fun q => ?_) (fun q => ?_)
      · replace h := h.1 q
        refine j_weak [some (.ref l0), some (.int l1), none] ⟨rfl, ⟨rfl, trivial⟩⟩ ?_
        exact S_Ta_readNumber_89 hE hK20 _ _ _ h
      · replace h := h.2 q
        refine j_iload_n hE (by decide +kernel : decode cX6_readNumber 55 = .ok (.iload_n 1, 1)) rfl rfl ?_
        refine j_bipush hE (by decide +kernel : decode cX6_readNumber 56 = .ok (.bipush 10, 2)) (v := (10 : Int32)) (by decide) ?_
        refine j_imul hE (by decide +kernel : decode cX6_readNumber 58 = .ok (.imul, 1)) ?_
        refine j_aload_n hE (by decide +kernel : decode cX6_readNumber 59 = .ok (.aload_n 0, 1)) rfl rfl ?_
        obtain ⟨hk, h⟩ := h
        obtain ⟨a4, ha, h⟩ := h
        refine j_getRn hE fg_X6_9 hk ha (by decide +kernel : decode cX6_readNumber 60 = .ok (.getfield 9, 3)) ?_
        refine j_aload_n hE (by decide +kernel : decode cX6_readNumber 63 = .ok (.aload_n 0, 1)) rfl rfl ?_
        obtain ⟨hk, h⟩ := h
        refine j_getI hE fg_X6_28 hk (by decide +kernel : decode cX6_readNumber 64 = .ok (.getfield 28, 3)) ?_
        obtain ⟨hk, hb, h⟩ := h
        refine j_iald hE hk hb (by decide +kernel : decode cX6_readNumber 67 = .ok (.iaload, 1)) ?_
        refine j_iadd hE (by decide +kernel : decode cX6_readNumber 68 = .ok (.iadd, 1)) ?_
        refine j_bipush hE (by decide +kernel : decode cX6_readNumber 69 = .ok (.bipush 48, 2)) (v := (48 : Int32)) (by decide) ?_
        refine j_isub hE (by decide +kernel : decode cX6_readNumber 71 = .ok (.isub, 1)) ?_
        obtain ⟨x5, hx⟩ : ∃ z, z = (((l1 * (10 : Int32)) + (Ia g2 (Co g2 a4) (Ow g2 a4) (Gi g2 903 l0).toNatClampNeg)) - (48 : Int32)) := ⟨_, rfl⟩; replace h := h x5 hx; rw [← hx]
        refine j_istore_n hE (by decide +kernel : decode cX6_readNumber 72 = .ok (.istore_n 1, 1)) rfl (Nat.le_of_ble_eq_true rfl) rfl ?_
        refine j_aload_n hE (by decide +kernel : decode cX6_readNumber 73 = .ok (.aload_n 0, 1)) rfl rfl ?_
        refine j_dup hE (by decide +kernel : decode cX6_readNumber 74 = .ok (.dup, 1)) rfl ?_
        obtain ⟨hk, h⟩ := h
        refine j_getI hE fg_X6_28 hk (by decide +kernel : decode cX6_readNumber 75 = .ok (.getfield 28, 3)) ?_
        refine j_iconst hE (by decide +kernel : decode cX6_readNumber 78 = .ok (.iconst 1, 1)) (v := (1 : Int32)) (by decide) ?_
        refine j_iadd hE (by decide +kernel : decode cX6_readNumber 79 = .ok (.iadd, 1)) ?_
        obtain ⟨hk, h⟩ := h
        obtain ⟨g6, hg⟩ : ∃ z, z = sI g2 903 l0 ((Gi g2 903 l0) + (1 : Int32)) := ⟨_, rfl⟩; replace h := h g6 hg
        refine j_putI hE fa_X6_28 hk (fun q => by cases q) (by decide +kernel : decode cX6_readNumber 80 = .ok (.putfield 28, 3)) ?_
        rw [← hg]
        refine j_iinc hE (by decide +kernel : decode cX6_readNumber 83 = .ok (.iinc 2 1, 3)) (v := (1 : Int32)) (by decide) rfl (Nat.le_of_ble_eq_true rfl) rfl ?_
        refine j_goto hE (by decide +kernel : decode cX6_readNumber 86 = .ok (.goto (-66), 3)) (tgt := 20) (by decide) ?_
        exact hK20 _ _ _ _ h
set_option maxRecDepth 100000 in
def B_Ta_readNumber_0 (Γ : GAM) (K20 : Nat → Int32 → Int32 → GH → Prop) (K : Int32 → GH → Prop) (th : Nat) (g : GH) : Prop :=
  Kd g th = 8 ∧ Sp_Ta_nextSign Γ th g (fun (x2 : Int32) (g1 : GH) => Sp_PV_isWithin Γ x2 (48 : Int32) (57 : Int32) g1 (fun (x4 : Int32) (g3 : GH) => ((¬ (x4 = 0) → K20 th (0 : Int32) (0 : Int32) g3) ∧ (x4 = 0 → K (0 : Int32) g3))))
set_option maxHeartbeats 4000000 in
set_option maxRecDepth 100000 in
theorem S_Ta_readNumber_0 {Γ : GAM} {E : EV} {K : Int32 → GH → Prop} (hE : GE Γ E cX6_readNumber 3 RX6 (some (.boolean)) 1 22 (fun r g' => ∃ x, r = some (.int x) ∧ K x g')) {K20 : Nat → Int32 → Int32 → GH → Prop} (hK20 : ∀ (l0 : Nat) (l1 : Int32) (l2 : Int32) (g : GH), K20 l0 l1 l2 g → JW Γ E 20 [some (.ref l0), some (.int l1), some (.int l2)] [] g) (th : Nat) (g : GH) (h : B_Ta_readNumber_0 Γ K20 K th g) : JW Γ E 0 [some (.ref th), none, none] [] g := by
  unfold B_Ta_readNumber_0 at h
  refine j_aload_n hE (by decide +kernel : decode cX6_readNumber 0 = .ok (.aload_n 0, 1)) rfl rfl ?_
  obtain ⟨hk, h⟩ := h
  refine j_callV hE rfl cl_X6_45 cf_7 im_X6_nextSign se_X6_nextSign ⟨by omega, by omega⟩ (As := []) (rest := []) rfl rfl (Nat.le_of_ble_eq_true rfl) hk (by decide +kernel : decode cX6_readNumber 1 = .ok (.invokevirtual 45, 3)) (mt_Ta_nextSign _ _ _ h) ?_
  rintro _ g1 ⟨x2, rfl, h⟩
  refine j_bipush hE (by decide +kernel : decode cX6_readNumber 4 = .ok (.bipush 48, 2)) (v := (48 : Int32)) (by decide) ?_
  refine j_bipush hE (by decide +kernel : decode cX6_readNumber 6 = .ok (.bipush 57, 2)) (v := (57 : Int32)) (by decide) ?_
  refine j_callSN hE rfl cl_X6_83 st_X10_isWithin ⟨by omega, by omega⟩ (As := [.int x2, .int (48 : Int32), .int (57 : Int32)]) (rest := []) rfl rfl (Nat.le_of_ble_eq_true rfl) (by decide +kernel : decode cX6_readNumber 8 = .ok (.invokestatic 83, 3)) (mt_PV_isWithin _ _ _ _ _ h) ?_
  rintro _ g3 ⟨x4, rfl, h⟩
  refine j_if_ne hE (by decide +kernel : decode cX6_readNumber 11 = .ok (.ifCond .ne 5, 3)) (tgt := 16) (by decide) (fun q => ?_) (fun q => ?_)
  · replace h := h.1 q
    refine j_iconst hE (by decide +kernel : decode cX6_readNumber 16 = .ok (.iconst 0, 1)) (v := (0 : Int32)) (by decide) ?_
    refine j_istore_n hE (by decide +kernel : decode cX6_readNumber 17 = .ok (.istore_n 1, 1)) rfl (Nat.le_of_ble_eq_true rfl) rfl ?_
    refine j_iconst hE (by decide +kernel : decode cX6_readNumber 18 = .ok (.iconst 0, 1)) (v := (0 : Int32)) (by decide) ?_
    refine j_istore_n hE (by decide +kernel : decode cX6_readNumber 19 = .ok (.istore_n 2, 1)) rfl (Nat.le_of_ble_eq_true rfl) rfl ?_
    exact hK20 _ _ _ _ h
  · replace h := h.2 q
    refine j_iconst hE (by decide +kernel : decode cX6_readNumber 14 = .ok (.iconst 0, 1)) (v := (0 : Int32)) (by decide) ?_
    exact j_zret hE (Or.inl rfl) (by decide +kernel : decode cX6_readNumber 15 = .ok (.ireturn, 1)) ⟨_, rfl, h⟩
set_option maxHeartbeats 4000000 in
set_option maxRecDepth 100000 in
theorem rl_Ta_readNumber {Γ : GAM} {l : Launch} {th : Nat} {g : GH} {K : Int32 → GH → Prop} (I20 : Nat → Nat → Int32 → Int32 → GH → Prop) (hh20 : ∀ n (l0 : Nat) (l1 : Int32) (l2 : Int32) (g : GH), I20 n l0 l1 l2 g → B_Ta_readNumber_20 Γ (fun l0 l1 l2 g => ∃ m, m < n ∧ I20 m l0 l1 l2 g) K l0 l1 l2 g) (h0 : B_Ta_readNumber_0 Γ (fun l0 l1 l2 g => ∃ m, I20 m l0 l1 l2 g) K th g) : MetA Γ l yX6_readNumber cX6_readNumber 3 (some (.boolean)) 1 22 [.ref th] g (fun r g' => ∃ x, r = some (.int x) ∧ K x g') := by
  refine MetA.introL (Lx := [some (.ref th), none, none]) (by decide) (Nat.le_of_ble_eq_true rfl) rfl rfl ?_
  intro E hEl hE hnm
  have hall : ∀ n, (∀ (l0 : Nat) (l1 : Int32) (l2 : Int32) (g : GH), I20 n l0 l1 l2 g → JW Γ E 20 [some (.ref l0), some (.int l1), some (.int l2)] [] g) := by
    intro n
    induction n using Nat.strongRecOn with
    | ind n ih =>
      exact fun l0 l1 l2 g hi => S_Ta_readNumber_20 hE (fun l0 l1 l2 g hm => by obtain ⟨m, hm, h⟩ := hm; exact (ih m hm) l0 l1 l2 g h) l0 l1 l2 g (hh20 n l0 l1 l2 g hi)
  exact S_Ta_readNumber_0 hE (fun l0 l1 l2 g hm => by obtain ⟨m, h⟩ := hm; exact (hall m) l0 l1 l2 g h) th g h0
theorem mt_Ta_readNumber {Γ : GAM} {l : Launch} (th : Nat) (g : GH) (K : Int32 → GH → Prop) (h : Sp_Ta_readNumber Γ th g K) : MetA Γ l yX6_readNumber cX6_readNumber 3 (some (.boolean)) 1 22 [.ref th] g (fun r g' => ∃ x, r = some (.int x) ∧ K x g') := by
  obtain ⟨t, p, ws, hN, hwp, hK⟩ := h
  have hpl := hN.2.2.1
  have gg1 := skp_ge t p
  have gg2 := skp_le hpl
  refine rl_Ta_readNumber (fun n l0 v k g' => th = l0 ∧ ∃ q j, k = nI j ∧ j ≤ 4 ∧ n = 4 - j ∧ FrX th [903, 899] [898] g g' ∧ TN th g' t q ws ∧ (ws.length ≤ q ∧ (j ≠ 0 → ws.length < q) ∧ (j = 0 → isDg (chr t q))) ∧ pNm t p = .inr ((nmL t (4 - j) q v).1, [(nmL t (4 - j) q v).2])) ?_ ?_
  · rintro n l0 v k g' ⟨rfl, q, j, rfl, hj, rfl, hx, hQ, ⟨hwq, hwq1, hwq0⟩, hp⟩
    obtain ⟨⟨⟨hkd, a1, a2, a3, a4, ⟨z1, z2, z3, z4, z5⟩, y2⟩, t1, t2, t3, t4⟩, n1, n2, n3, n4, n5⟩ := id hQ
    suffices H : ∀ (K20 : Nat → Int32 → Int32 → GH → Prop), (∀ g2 v2, j < 4 → FrX th [903, 899] [898] g g2 → TN th g2 t (q + 1) ws → pNm t p = .inr ((nmL t (4 - (j + 1)) (q + 1) v2).1, [(nmL t (4 - (j + 1)) (q + 1) v2).2]) → K20 th v2 (nI (j + 1)) g2) → B_Ta_readNumber_20 Γ K20 K th v (nI j) g' from
      H _ (fun g2 v2 hj4 h1 h2 h3 => ⟨4 - (j + 1), by omega, rfl, q + 1, j + 1, rfl, by omega, rfl, h1, h2, ⟨by omega, fun _ => by omega, fun z => by omega⟩, h3⟩)
    intro K20 h20
    have h89 : (¬ (j < 4 ∧ isDg (chr t q))) → B_Ta_readNumber_89 Γ K20 K th v g' := fun hd => by
      have e : nmL t (4 - j) q v = (q, v) := by
        rcases Nat.lt_or_ge j 4 with h4 | h4
        · rw [show 4 - j = (3 - j) + 1 by omega]
          unfold nmL
          rw [if_neg (fun z => hd ⟨h4, z⟩)]
        · rw [show 4 - j = 0 by omega]; rfl
      rw [e] at hp
      unfold B_Ta_readNumber_89
      refine ⟨hkd, t, q, ws, hQ, fun g1 ws' hx1 hN1 hw => ?_⟩
      refine hK 1 g1 (hx.tr hx1) ?_
      rw [hp]
      have hj0 : j ≠ 0 := fun z => hd ⟨by omega, hwq0 z⟩
      rw [hw (by have := hwq1 hj0; omega)] at hN1
      exact ⟨rfl, hN1⟩
    unfold B_Ta_readNumber_20
    have e4 : ((4 : Int32) ≤ nI j) ↔ 4 ≤ j := nj_le (a := 4) (by omega) (by omega)
    rw [e4, t1, n1, nj_le (by omega) (by omega)]
    refine ⟨fun u => h89 (fun z => by omega), fun u => ⟨hkd, hkd, fun u2 => h89 (fun z => by have := chr_in (dg_n z.2).2.1; omega), fun u2 => ⟨hkd, a1, z1, hkd, z2, by rw [z5]; exact inB_nI (by omega) (by omega), ?_⟩⟩⟩
    rw [z3, z4, nj_cl (by omega), t3 q _ (chr_lt (by omega))]
    unfold Sp_PV_isWithin
    refine ⟨fun u3 => h89 (fun z => ?_), fun u3 => ⟨hkd, a1, z1, hkd, z2, by rw [n1, z5]; exact inB_nI (by omega) (by omega), ?_⟩⟩
    · rw [if_pos z.2] at u3; exact absurd u3 (by decide)
    · have hd : isDg (chr t q) := Classical.byContradiction (fun z => u3 (if_neg z))
      rw [n1, z3, z4, nj_cl (by omega), t3 q _ (chr_lt (by omega))]
      rintro v2 rfl
      refine ⟨hkd, hkd, ?_⟩
      rintro g6 rfl
      rw [nj_s, nj_s]
      obtain ⟨w1, w2⟩ := hQ.at (q := q + 1) (by omega)
      refine h20 _ _ (by omega) (hx.tr w2) w1 ?_
      rw [hp, show 4 - j = (4 - (j + 1)) + 1 by omega]
      show _ = Sum.inr _
      rw [show nmL t (4 - (j + 1) + 1) q v = nmL t (4 - (j + 1)) (q + 1) (10 * v + chr t q - 48) by rw [nmL, if_pos hd], Int32.mul_comm]
  · unfold B_Ta_readNumber_0
    refine ⟨hN.1.1.1, t, p, ws, hN, fun g1 hx1 hN1 => ?_⟩
    unfold Sp_PV_isWithin
    have hpn : pNm t p = if isDg (chr t (skp t p)) then .inr ((nmL t 4 (skp t p) 0).1, [(nmL t 4 (skp t p) 0).2]) else .inl (skp t p) := rfl
    refine ⟨fun u => ?_, fun u => ?_⟩
    · have hd : isDg (chr t (skp t p)) := sg_dg.mp (Classical.byContradiction (fun z => u (if_neg z)))
      refine ⟨4, rfl, skp t p, 0, rfl, by omega, rfl, hx1, hN1, ⟨by omega, fun z => absurd rfl z, fun _ => hd⟩, ?_⟩
      rw [hpn, if_pos hd]
    · have hd : ¬ isDg (chr t (skp t p)) := fun z => by
        rw [if_pos (sg_dg.mpr z)] at u; exact absurd u (by decide)
      refine hK 0 g1 hx1 ?_
      rw [hpn, if_neg hd]
      exact ⟨rfl, _, hN1⟩
