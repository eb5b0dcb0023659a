/-! the reference: the reader of laws, its small methods -/
def PN (m : Nat) (g : GH) (s : ST) (p : Nat) (sd : List Int32) (dd : Nat) : Prop := Gi g 1589 m = nI p ∧ p ≤ (s_tap s).length ∧ Gi g 1590 m = -1 ∧ Gi g 1591 m = nI dd ∧ dd ≤ 8 ∧ Gi g 1592 m = nI sd.length ∧ ∀ j v, sd[j]? = some v → Ia g 1583 m j = v
def WR (m : Nat) (g : GH) (e B : Nat) : Prop := Gi g 1590 m = nI e ∧ e ≤ 200 ∧ ∃ a k, Gi g 1589 m = nI a ∧ a ≤ 200 + B ∧ Gi g 1592 m = nI k ∧ k ≤ 402 + B
abbrev stk (t : List Int32) (p : Nat) : Prop := isDg (chr t p)
def PO (m : Nat) (g : GH) (s : ST) (sd : List Int32) (dd B : Nat) (r : PRs) : Prop := match r with
  | .inl e => WR m g e B
  | .inr (p2, w) => PN m g s p2 (sd ++ enC w) dd ∨ (stk (s_tap s) p2 ∧ WR m g p2 B)
theorem WR.up {m : Nat} {g : GH} {e B B' : Nat} (h : WR m g e B) (hb : B ≤ B') : WR m g e B' := by
  obtain ⟨h1, h2, a, k, h3, h4, h5, h6⟩ := h
  exact ⟨h1, h2, a, k, h3, by omega, h5, by omega⟩
theorem PO.up {m : Nat} {g : GH} {s : ST} {sd : List Int32} {dd B B' : Nat} {r : PRs} (h : PO m g s sd dd B r) (hb : B ≤ B') : PO m g s sd dd B' r := by
  cases r with
  | inl e => exact WR.up h hb
  | inr x =>
    rcases h with h | ⟨h1, h2⟩
    · exact .inl h
    · exact .inr ⟨h1, h2.up hb⟩
def Sp_M_look (Γ : GAM) (m : Nat) (g : GH) (K : Int32 → GH → Prop) : Prop := ∃ ma s a, RefI m ma g s ∧ WF s ∧ Gi g 1589 m = nI a ∧ a ≤ 1000 ∧ ∀ g', FrX m [1589] [] g g' → Gi g' 1589 m = nI (skp (s_tap s) a) → K (chr (s_tap s) (skp (s_tap s) a)) g'
-- the walk of M_look
set_option maxRecDepth 100000 in
def B_M_look_62 (Γ : GAM) (K0 : Nat → GH → Prop) (K : Int32 → GH → Prop) (s0 : Int32) (g : GH) : Prop :=
  K s0 g
set_option maxHeartbeats 4000000 in
set_option maxRecDepth 100000 in
theorem S_M_look_62 {Γ : GAM} {E : EV} {K : Int32 → GH → Prop} (hE : GE Γ E cX11_look 1 RX11 (some (.int)) 0 0 (fun r g' => ∃ x, r = some (.int x) ∧ K x g')) {K0 : Nat → GH → Prop} (hK0 : ∀ (l0 : Nat) (g : GH), K0 l0 g → JW Γ E 0 [some (.ref l0)] [] g) (s0 : Int32) (g : GH) (h : B_M_look_62 Γ K0 K s0 g) : JW Γ E 62 [none] [.int s0] g := by
  unfold B_M_look_62 at h
  exact j_iret hE (by decide +kernel : decode cX11_look 62 = .ok (.ireturn, 1)) ⟨_, rfl, h⟩
set_option maxRecDepth 100000 in
def B_M_look_38 (Γ : GAM) (K0 : Nat → GH → Prop) (K : Int32 → GH → Prop) (l0 : Nat) (g : GH) : Prop :=
  Kd g l0 = 13 ∧ Kd g l0 = 13 ∧ (((Gi g 1588 l0) ≤ (Gi g 1589 l0) → B_M_look_62 Γ K0 K (-1 : Int32) g) ∧ (¬ ((Gi g 1588 l0) ≤ (Gi g 1589 l0)) → Kd g l0 = 13 ∧ ∃ a1 : Nat, Gr g 1581 l0 = some a1 ∧ Kd g l0 = 13 ∧ Kd g a1 = 20 ∧ inB (Gi g 1589 l0) (Ln g a1) ∧ B_M_look_62 Γ K0 K (Ia g (Co g a1) (Ow g a1) (Gi g 1589 l0).toNatClampNeg) g))
set_option maxHeartbeats 4000000 in
set_option maxRecDepth 100000 in
theorem S_M_look_38 {Γ : GAM} {E : EV} {K : Int32 → GH → Prop} (hE : GE Γ E cX11_look 1 RX11 (some (.int)) 0 0 (fun r g' => ∃ x, r = some (.int x) ∧ K x g')) {K0 : Nat → GH → Prop} (hK0 : ∀ (l0 : Nat) (g : GH), K0 l0 g → JW Γ E 0 [some (.ref l0)] [] g) (l0 : Nat) (g : GH) (h : B_M_look_38 Γ K0 K l0 g) : JW Γ E 38 [some (.ref l0)] [] g := by
  unfold B_M_look_38 at h
  refine j_aload_n hE (by decide +kernel : decode cX11_look 38 = .ok (.aload_n 0, 1)) rfl rfl ?_
  obtain ⟨hk, h⟩ := h
  refine j_getI hE fg_X11_301 hk (by decide +kernel : decode cX11_look 39 = .ok (.getfield 301, 3)) ?_
  refine j_aload_n hE (by decide +kernel : decode cX11_look 42 = .ok (.aload_n 0, 1)) rfl rfl ?_
  obtain ⟨hk, h⟩ := h
  refine j_getI hE fg_X11_298 hk (by decide +kernel : decode cX11_look 43 = .ok (.getfield 298, 3)) ?_
  refine j_icmp_ge hE (by decide +kernel : decode cX11_look 46 = .ok (.if_icmp .ge 15, 3)) (tgt := 61) (by decide) (fun q => ?_) (fun q => ?_)
  · replace h := h.1 q
    refine j_iconst hE (by decide +kernel : decode cX11_look 61 = .ok (.iconst (-1), 1)) (v := (-1 : Int32)) (by decide) ?_
    refine j_weak [none] trivial ?_
    exact S_M_look_62 hE hK0 _ _ h
  · replace h := h.2 q
    refine j_aload_n hE (by decide +kernel : decode cX11_look 49 = .ok (.aload_n 0, 1)) rfl rfl ?_
    obtain ⟨hk, h⟩ := h
    obtain ⟨a1, ha, h⟩ := h
    refine j_getRn hE fg_X11_105 hk ha (by decide +kernel : decode cX11_look 50 = .ok (.getfield 105, 3)) ?_
    refine j_aload_n hE (by decide +kernel : decode cX11_look 53 = .ok (.aload_n 0, 1)) rfl rfl ?_
    obtain ⟨hk, h⟩ := h
    refine j_getI hE fg_X11_301 hk (by decide +kernel : decode cX11_look 54 = .ok (.getfield 301, 3)) ?_
    obtain ⟨hk, hb, h⟩ := h
    refine j_iald hE hk hb (by decide +kernel : decode cX11_look 57 = .ok (.iaload, 1)) ?_
    refine j_goto hE (by decide +kernel : decode cX11_look 58 = .ok (.goto 4, 3)) (tgt := 62) (by decide) ?_
    refine j_weak [none] trivial ?_
    exact S_M_look_62 hE hK0 _ _ h
set_option maxRecDepth 100000 in
def B_M_look_0 (Γ : GAM) (K0 : Nat → GH → Prop) (K : Int32 → GH → Prop) (l0 : Nat) (g : GH) : Prop :=
  Kd g l0 = 13 ∧ Kd g l0 = 13 ∧ (((Gi g 1588 l0) ≤ (Gi g 1589 l0) → B_M_look_38 Γ K0 K l0 g) ∧ (¬ ((Gi g 1588 l0) ≤ (Gi g 1589 l0)) → Kd g l0 = 13 ∧ ∃ a1 : Nat, Gr g 1581 l0 = some a1 ∧ Kd g l0 = 13 ∧ Kd g a1 = 20 ∧ inB (Gi g 1589 l0) (Ln g a1) ∧ ((¬ ((Ia g (Co g a1) (Ow g a1) (Gi g 1589 l0).toNatClampNeg) = (32 : Int32)) → B_M_look_38 Γ K0 K l0 g) ∧ ((Ia g (Co g a1) (Ow g a1) (Gi g 1589 l0).toNatClampNeg) = (32 : Int32) → Kd g l0 = 13 ∧ Kd g l0 = 13 ∧ ∀ g2 : GH, g2 = sI g 1589 l0 ((Gi g 1589 l0) + (1 : Int32)) → K0 l0 g2))))
set_option maxHeartbeats 4000000 in
set_option maxRecDepth 100000 in
theorem S_M_look_0 {Γ : GAM} {E : EV} {K : Int32 → GH → Prop} (hE : GE Γ E cX11_look 1 RX11 (some (.int)) 0 0 (fun r g' => ∃ x, r = some (.int x) ∧ K x g')) {K0 : Nat → GH → Prop} (hK0 : ∀ (l0 : Nat) (g : GH), K0 l0 g → JW Γ E 0 [some (.ref l0)] [] g) (l0 : Nat) (g : GH) (h : B_M_look_0 Γ K0 K l0 g) : JW Γ E 0 [some (.ref l0)] [] g := by
  unfold B_M_look_0 at h
  refine j_aload_n hE (by decide +kernel : decode cX11_look 0 = .ok (.aload_n 0, 1)) rfl rfl ?_
  obtain ⟨hk, h⟩ := h
  refine j_getI hE fg_X11_301 hk (by decide +kernel : decode cX11_look 1 = .ok (.getfield 301, 3)) ?_
  refine j_aload_n hE (by decide +kernel : decode cX11_look 4 = .ok (.aload_n 0, 1)) rfl rfl ?_
  obtain ⟨hk, h⟩ := h
  refine j_getI hE fg_X11_298 hk (by decide +kernel : decode cX11_look 5 = .ok (.getfield 298, 3)) ?_
  refine j_icmp_ge hE (by decide +kernel : decode cX11_look 8 = .ok (.if_icmp .ge 30, 3)) (tgt := 38) (by decide) (fun q => ?_) (fun q => ?_)
  · replace h := h.1 q
    exact S_M_look_38 hE hK0 _ _ h
  · replace h := h.2 q
    refine j_aload_n hE (by decide +kernel : decode cX11_look 11 = .ok (.aload_n 0, 1)) rfl rfl ?_
    obtain ⟨hk, h⟩ := h
    obtain ⟨a1, ha, h⟩ := h
    refine j_getRn hE fg_X11_105 hk ha (by decide +kernel : decode cX11_look 12 = .ok (.getfield 105, 3)) ?_
    refine j_aload_n hE (by decide +kernel : decode cX11_look 15 = .ok (.aload_n 0, 1)) rfl rfl ?_
    obtain ⟨hk, h⟩ := h
    refine j_getI hE fg_X11_301 hk (by decide +kernel : decode cX11_look 16 = .ok (.getfield 301, 3)) ?_
    obtain ⟨hk, hb, h⟩ := h
    refine j_iald hE hk hb (by decide +kernel : decode cX11_look 19 = .ok (.iaload, 1)) ?_
    refine j_bipush hE (by decide +kernel : decode cX11_look 20 = .ok (.bipush 32, 2)) (v := (32 : Int32)) (by decide) ?_
    refine j_icmp_ne hE (by decide +kernel : decode cX11_look 22 = .ok (.if_icmp .ne 16, 3)) (tgt := 38) (by decide) (fun q => ?_) (fun q => ?_)
    · replace h := h.1 q
      exact S_M_look_38 hE hK0 _ _ h
    · replace h := h.2 q
      refine j_aload_n hE (by decide +kernel : decode cX11_look 25 = .ok (.aload_n 0, 1)) rfl rfl ?_
      refine j_dup hE (by decide +kernel : decode cX11_look 26 = .ok (.dup, 1)) rfl ?_
      obtain ⟨hk, h⟩ := h
      refine j_getI hE fg_X11_301 hk (by decide +kernel : decode cX11_look 27 = .ok (.getfield 301, 3)) ?_
      refine j_iconst hE (by decide +kernel : decode cX11_look 30 = .ok (.iconst 1, 1)) (v := (1 : Int32)) (by decide) ?_
      refine j_iadd hE (by decide +kernel : decode cX11_look 31 = .ok (.iadd, 1)) ?_
      obtain ⟨hk, h⟩ := h
      obtain ⟨g2, hg⟩ : ∃ z, z = sI g 1589 l0 ((Gi g 1589 l0) + (1 : Int32)) := ⟨_, rfl⟩; replace h := h g2 hg
      refine j_putI hE fa_X11_301 hk (fun q => by cases q) (by decide +kernel : decode cX11_look 32 = .ok (.putfield 301, 3)) ?_
      rw [← hg]
      refine j_goto hE (by decide +kernel : decode cX11_look 35 = .ok (.goto (-35), 3)) (tgt := 0) (by decide) ?_
      exact hK0 _ _ h
set_option maxHeartbeats 4000000 in
set_option maxRecDepth 100000 in
theorem rl_M_look {Γ : GAM} {l : Launch} {th : Nat} {g : GH} {K : Int32 → GH → Prop} (I0 : Nat → Nat → GH → Prop) (hh0 : ∀ n (l0 : Nat) (g : GH), I0 n l0 g → B_M_look_0 Γ (fun l0 g => ∃ m, m < n ∧ I0 m l0 g) K l0 g) (h0 : ∃ m, I0 m th g) : MetA Γ l yX11_look cX11_look 1 (some (.int)) 0 0 [.ref th] g (fun r g' => ∃ x, r = some (.int x) ∧ K x g') := by
  refine MetA.introL (Lx := [some (.ref th)]) (by decide) (Nat.le_of_ble_eq_true rfl) rfl rfl ?_
  intro E hEl hE hnm
  have hall : ∀ n, (∀ (l0 : Nat) (g : GH), I0 n l0 g → JW Γ E 0 [some (.ref l0)] [] g) := by
    intro n
    induction n using Nat.strongRecOn with
    | ind n ih =>
      exact fun l0 g hi => S_M_look_0 hE (fun l0 g hm => by obtain ⟨m, hm, h⟩ := hm; exact (ih m hm) l0 g h) l0 g (hh0 n l0 g hi)
  obtain ⟨m0, h0⟩ := h0
  exact (hall m0) th g h0
theorem mt_M_look {Γ : GAM} {l : Launch} (th : Nat) (g : GH) (K : Int32 → GH → Prop) (h : Sp_M_look Γ th g K) : MetA Γ l yX11_look cX11_look 1 (some (.int)) 0 0 [.ref th] g (fun r g' => ∃ x, r = some (.int x) ∧ K x g') := by
  obtain ⟨ma, s, a, hI, hw, ha, hal, hK⟩ := h
  have hT := hw.len.2.2.2.2.2.2.2.2.1
  refine rl_M_look (fun n l0 g' => th = l0 ∧ ∃ b, Gi g' 1589 th = nI b ∧ FrX th [1589] [] g g' ∧ skp (s_tap s) b = skp (s_tap s) a ∧ b ≤ 1000 ∧ n = 1001 - b) ?_ ⟨_, rfl, a, ha, FrX.rf, rfl, hal, rfl⟩
  rintro n l0 g' ⟨rfl, b, hb, hx, hs, hbl, rfl⟩
  have hI' := hI.x hx (by decide +kernel)
  obtain ⟨hkd, hS⟩ := hI'.1
  obtain ⟨t1, t2, t3⟩ := hI'.tap
  obtain ⟨z_tape1, z_tape2, z_tape3, z_tape4, z_tape5⟩ := hS 1581 20 200 rfl
  suffices H : ∀ (K0 : Nat → GH → Prop), (∀ g2, b < (s_tap s).length → chr (s_tap s) b = 32 → FrX th [1589] [] g g2 → Gi g2 1589 th = nI (b + 1) → K0 th g2) → B_M_look_0 Γ K0 K th g' from
    H _ (fun g2 h0 h1 h2 h3 => ⟨1001 - (b + 1), by omega, rfl, b + 1, h3, h2, by rw [← skp_s h1]; exact hs, by omega, rfl⟩)
  intro K0 h0
  have h38 : chr (s_tap s) b ≠ 32 → B_M_look_38 Γ K0 K th g' := fun q => by
    have hsb : skp (s_tap s) b = b := skp_n q
    have hK' := hK g' hx (by rw [hb, ← hs, hsb])
    rw [← hs, hsb] at hK'
    unfold B_M_look_38 B_M_look_62
    rw [t1, hb, nj_le (by omega) (by omega)]
    refine ⟨hkd, hkd, fun u => by rw [chr_end u] at hK'; exact hK', fun u => ⟨hkd, _, z_tape1, hkd, z_tape2, by rw [z_tape5]; exact inB_nI (by omega) (by omega), ?_⟩⟩
    rw [z_tape3, z_tape4, nj_cl (by omega), t3 b _ (chr_lt (by omega))]
    exact hK'
  unfold B_M_look_0
  rw [t1, hb, nj_le (by omega) (by omega)]
  refine ⟨hkd, hkd, fun u => h38 (by rw [chr_end u]; decide), fun u => ⟨hkd, _, z_tape1, hkd, z_tape2, by rw [z_tape5]; exact inB_nI (by omega) (by omega), ?_⟩⟩
  rw [z_tape3, z_tape4, nj_cl (by omega), t3 b _ (chr_lt (by omega)), nj_s]
  refine ⟨h38, fun q => ⟨hkd, hkd, fun g2 hg2 => h0 g2 (by omega) q (hx.tr (by rw [hg2]; exact FrX.sI (by decide))) (by rw [hg2, Gi_sI, if_pos ⟨rfl, rfl⟩])⟩⟩
def Sp_M_bad (Γ : GAM) (m : Nat) (g : GH) (K : GH → Prop) : Prop := Kd g m = 13 ∧ ∀ g', g' = sI g 1590 m (if Gi g 1590 m = -1 then Gi g 1589 m else Gi g 1590 m) → K g'
-- the walk of M_bad
set_option maxRecDepth 100000 in
def B_M_bad_20 (Γ : GAM) (K : GH → Prop) (s0 : Int32) (s1 : Nat) (g : GH) : Prop :=
  Kd g s1 = 13 ∧ ∀ g1 : GH, g1 = sI g 1590 s1 s0 → K g1
set_option maxHeartbeats 4000000 in
set_option maxRecDepth 100000 in
theorem S_M_bad_20 {Γ : GAM} {E : EV} {K : GH → Prop} (hE : GE Γ E cX11_bad 1 RX11 none 0 0 (fun r g' => r = none ∧ K g')) (s0 : Int32) (s1 : Nat) (g : GH) (h : B_M_bad_20 Γ K s0 s1 g) : JW Γ E 20 [none] [.int s0, .ref s1] g := by
  unfold B_M_bad_20 at h
  obtain ⟨hk, h⟩ := h
  obtain ⟨g1, hg⟩ : ∃ z, z = sI g 1590 s1 s0 := ⟨_, rfl⟩; replace h := h g1 hg
  refine j_putI hE fa_X11_304 hk (fun q => by cases q) (by decide +kernel : decode cX11_bad 20 = .ok (.putfield 304, 3)) ?_
  rw [← hg]
  exact j_vret hE (by decide +kernel : decode cX11_bad 23 = .ok (.return_, 1)) ⟨rfl, h⟩
set_option maxRecDepth 100000 in
def B_M_bad_0 (Γ : GAM) (K : GH → Prop) (th : Nat) (g : GH) : Prop :=
  Kd g th = 13 ∧ ((¬ ((Gi g 1590 th) = (-1 : Int32)) → Kd g th = 13 ∧ B_M_bad_20 Γ K (Gi g 1590 th) th g) ∧ ((Gi g 1590 th) = (-1 : Int32) → Kd g th = 13 ∧ B_M_bad_20 Γ K (Gi g 1589 th) th g))
set_option maxHeartbeats 4000000 in
set_option maxRecDepth 100000 in
theorem S_M_bad_0 {Γ : GAM} {E : EV} {K : GH → Prop} (hE : GE Γ E cX11_bad 1 RX11 none 0 0 (fun r g' => r = none ∧ K g')) (th : Nat) (g : GH) (h : B_M_bad_0 Γ K th g) : JW Γ E 0 [some (.ref th)] [] g := by
  unfold B_M_bad_0 at h
  refine j_aload_n hE (by decide +kernel : decode cX11_bad 0 = .ok (.aload_n 0, 1)) rfl rfl ?_
  refine j_aload_n hE (by decide +kernel : decode cX11_bad 1 = .ok (.aload_n 0, 1)) rfl rfl ?_
  obtain ⟨hk, h⟩ := h
  refine j_getI hE fg_X11_304 hk (by decide +kernel : decode cX11_bad 2 = .ok (.getfield 304, 3)) ?_
  refine j_iconst hE (by decide +kernel : decode cX11_bad 5 = .ok (.iconst (-1), 1)) (v := (-1 : Int32)) (by decide) ?_
  refine j_icmp_ne hE (by decide +kernel : decode cX11_bad 6 = .ok (.if_icmp .ne 10, 3)) (tgt := 16) (by decide) (fun q => ?_) (fun q => ?_)
  · replace h := h.1 q
    refine j_aload_n hE (by decide +kernel : decode cX11_bad 16 = .ok (.aload_n 0, 1)) rfl rfl ?_
    obtain ⟨hk, h⟩ := h
    refine j_getI hE fg_X11_304 hk (by decide +kernel : decode cX11_bad 17 = .ok (.getfield 304, 3)) ?_
    refine j_weak [none] trivial ?_
    exact S_M_bad_20 hE _ _ _ h
  · replace h := h.2 q
    refine j_aload_n hE (by decide +kernel : decode cX11_bad 9 = .ok (.aload_n 0, 1)) rfl rfl ?_
    obtain ⟨hk, h⟩ := h
    refine j_getI hE fg_X11_301 hk (by decide +kernel : decode cX11_bad 10 = .ok (.getfield 301, 3)) ?_
    refine j_goto hE (by decide +kernel : decode cX11_bad 13 = .ok (.goto 7, 3)) (tgt := 20) (by decide) ?_
    refine j_weak [none] trivial ?_
    exact S_M_bad_20 hE _ _ _ h
set_option maxHeartbeats 4000000 in
set_option maxRecDepth 100000 in
theorem rl_M_bad {Γ : GAM} {l : Launch} {th : Nat} {g : GH} {K : GH → Prop} (h0 : B_M_bad_0 Γ K th g) : MetA Γ l yX11_bad cX11_bad 1 none 0 0 [.ref th] g (fun r g' => r = none ∧ K g') := by
  refine MetA.introL (Lx := [some (.ref th)]) (by decide) (Nat.le_of_ble_eq_true rfl) rfl rfl ?_
  intro E hEl hE hnm
  exact S_M_bad_0 hE th g h0
theorem mt_M_bad {Γ : GAM} {l : Launch} (th : Nat) (g : GH) (K : GH → Prop) (h : Sp_M_bad Γ th g K) : MetA Γ l yX11_bad cX11_bad 1 none 0 0 [.ref th] g (fun r g' => r = none ∧ K g') := by
  obtain ⟨hkd, hK⟩ := h
  refine rl_M_bad ?_
  unfold B_M_bad_0 B_M_bad_20
  refine ⟨hkd, fun u => ⟨hkd, hkd, fun g1 hg1 => hK g1 (by rw [if_neg u]; exact hg1)⟩, fun u => ⟨hkd, hkd, fun g1 hg1 => hK g1 (by rw [if_pos u]; exact hg1)⟩⟩
def Sp_M_say (Γ : GAM) (m : Nat) (c : Int32) (g : GH) (K : GH → Prop) : Prop := ∃ ma s k, RefI m ma g s ∧ Gi g 1592 m = nI k ∧ k < 520 ∧ ∀ g', g' = sI (sA g 1583 m k c) 1592 m (nI (k + 1)) → K g'
-- the walk of M_say
set_option maxRecDepth 100000 in
def B_M_say_0 (Γ : GAM) (K : GH → Prop) (th : Nat) (p0 : Int32) (g : GH) : Prop :=
  Kd g th = 13 ∧ ∃ a1 : Nat, Gr g 1583 th = some a1 ∧ Kd g th = 13 ∧ Kd g a1 = 20 ∧ inB (Gi g 1592 th) (Ln g a1) ∧ ∀ g2 : GH, g2 = sA g (Co g a1) (Ow g a1) (Gi g 1592 th).toNatClampNeg p0 → Kd g2 th = 13 ∧ Kd g2 th = 13 ∧ ∀ g3 : GH, g3 = sI g2 1592 th ((Gi g2 1592 th) + (1 : Int32)) → K g3
set_option maxHeartbeats 4000000 in
set_option maxRecDepth 100000 in
theorem S_M_say_0 {Γ : GAM} {E : EV} {K : GH → Prop} (hE : GE Γ E cX11_say 2 RX11 none 0 0 (fun r g' => r = none ∧ K g')) (th : Nat) (p0 : Int32) (g : GH) (h : B_M_say_0 Γ K th p0 g) : JW Γ E 0 [some (.ref th), some (.int p0)] [] g := by
  unfold B_M_say_0 at h
  refine j_aload_n hE (by decide +kernel : decode cX11_say 0 = .ok (.aload_n 0, 1)) rfl rfl ?_
  obtain ⟨hk, h⟩ := h
  obtain ⟨a1, ha, h⟩ := h
  refine j_getRn hE fg_X11_111 hk ha (by decide +kernel : decode cX11_say 1 = .ok (.getfield 111, 3)) ?_
  refine j_aload_n hE (by decide +kernel : decode cX11_say 4 = .ok (.aload_n 0, 1)) rfl rfl ?_
  obtain ⟨hk, h⟩ := h
  refine j_getI hE fg_X11_307 hk (by decide +kernel : decode cX11_say 5 = .ok (.getfield 307, 3)) ?_
  refine j_iload_n hE (by decide +kernel : decode cX11_say 8 = .ok (.iload_n 1, 1)) rfl rfl ?_
  obtain ⟨hk, hb, h⟩ := h
  obtain ⟨g2, hg⟩ : ∃ z, z = sA g (Co g a1) (Ow g a1) (Gi g 1592 th).toNatClampNeg p0 := ⟨_, rfl⟩; replace h := h g2 hg
  refine j_iast hE hk hb (by decide +kernel : decode cX11_say 9 = .ok (.iastore, 1)) ?_
  rw [← hg]
  refine j_aload_n hE (by decide +kernel : decode cX11_say 10 = .ok (.aload_n 0, 1)) rfl rfl ?_
  refine j_dup hE (by decide +kernel : decode cX11_say 11 = .ok (.dup, 1)) rfl ?_
  obtain ⟨hk, h⟩ := h
  refine j_getI hE fg_X11_307 hk (by decide +kernel : decode cX11_say 12 = .ok (.getfield 307, 3)) ?_
  refine j_iconst hE (by decide +kernel : decode cX11_say 15 = .ok (.iconst 1, 1)) (v := (1 : Int32)) (by decide) ?_
  refine j_iadd hE (by decide +kernel : decode cX11_say 16 = .ok (.iadd, 1)) ?_
  obtain ⟨hk, h⟩ := h
  obtain ⟨g3, hg⟩ : ∃ z, z = sI g2 1592 th ((Gi g2 1592 th) + (1 : Int32)) := ⟨_, rfl⟩; replace h := h g3 hg
  refine j_putI hE fa_X11_307 hk (fun q => by cases q) (by decide +kernel : decode cX11_say 17 = .ok (.putfield 307, 3)) ?_
  rw [← hg]
  exact j_vret hE (by decide +kernel : decode cX11_say 20 = .ok (.return_, 1)) ⟨rfl, h⟩
set_option maxHeartbeats 4000000 in
set_option maxRecDepth 100000 in
theorem rl_M_say {Γ : GAM} {l : Launch} {th : Nat} {p0 : Int32} {g : GH} {K : GH → Prop} (h0 : B_M_say_0 Γ K th p0 g) : MetA Γ l yX11_say cX11_say 2 none 0 0 [.ref th, .int p0] g (fun r g' => r = none ∧ K g') := by
  refine MetA.introL (Lx := [some (.ref th), some (.int p0)]) (by decide) (Nat.le_of_ble_eq_true rfl) rfl rfl ?_
  intro E hEl hE hnm
  exact S_M_say_0 hE th p0 g h0
theorem mt_M_say {Γ : GAM} {l : Launch} (th : Nat) (p0 : Int32) (g : GH) (K : GH → Prop) (h : Sp_M_say Γ th p0 g K) : MetA Γ l yX11_say cX11_say 2 none 0 0 [.ref th, .int p0] g (fun r g' => r = none ∧ K g') := by
  obtain ⟨ma, s, k, hI, hk, hkl, hK⟩ := h
  obtain ⟨hkd, hS⟩ := hI.1
  obtain ⟨z_saying1, z_saying2, z_saying3, z_saying4, z_saying5⟩ := hS 1583 20 520 rfl
  refine rl_M_say ?_
  unfold B_M_say_0
  refine ⟨hkd, _, z_saying1, hkd, z_saying2, by rw [hk, z_saying5]; exact inB_nI hkl (by omega), ?_⟩
  rw [hk, z_saying3, z_saying4, nj_cl (by omega)]
  rintro g2 rfl
  refine ⟨hkd, hkd, ?_⟩
  rw [Gi_sA, hk, nj_s]
  exact hK
def Sp_M_isDigit (Γ : GAM) (c : Int32) (g : GH) (K : Int32 → GH → Prop) : Prop := K (if isDg c then 1 else 0) g
-- the walk of M_isDigit
set_option maxRecDepth 100000 in
def B_M_isDigit_17 (Γ : GAM) (K : Int32 → GH → Prop) (s0 : Int32) (g : GH) : Prop :=
  ((s0 = 0 ∨ s0 = 1) ∧ K s0 g)
set_option maxHeartbeats 4000000 in
set_option maxRecDepth 100000 in
theorem S_M_isDigit_17 {Γ : GAM} {E : EV} {K : Int32 → GH → Prop} (hE : GE Γ E cX11_isDigit 1 RX11 (some (.boolean)) 0 0 (fun r g' => ∃ x, r = some (.int x) ∧ K x g')) (s0 : Int32) (g : GH) (h : B_M_isDigit_17 Γ K s0 g) : JW Γ E 17 [none] [.int s0] g := by
  unfold B_M_isDigit_17 at h
  exact j_zret hE h.1 (by decide +kernel : decode cX11_isDigit 17 = .ok (.ireturn, 1)) ⟨_, rfl, h.2⟩
set_option maxRecDepth 100000 in
def B_M_isDigit_16 (Γ : GAM) (K : Int32 → GH → Prop)  (g : GH) : Prop :=
  B_M_isDigit_17 Γ K (0 : Int32) g
set_option maxHeartbeats 4000000 in
set_option maxRecDepth 100000 in
theorem S_M_isDigit_16 {Γ : GAM} {E : EV} {K : Int32 → GH → Prop} (hE : GE Γ E cX11_isDigit 1 RX11 (some (.boolean)) 0 0 (fun r g' => ∃ x, r = some (.int x) ∧ K x g'))  (g : GH) (h : B_M_isDigit_16 Γ K  g) : JW Γ E 16 [none] [] g := by
  unfold B_M_isDigit_16 at h
  refine j_iconst hE (by decide +kernel : decode cX11_isDigit 16 = .ok (.iconst 0, 1)) (v := (0 : Int32)) (by decide) ?_
  exact S_M_isDigit_17 hE _ _ h
set_option maxRecDepth 100000 in
def B_M_isDigit_0 (Γ : GAM) (K : Int32 → GH → Prop) (p0 : Int32) (g : GH) : Prop :=
  ((p0 < (48 : Int32) → B_M_isDigit_16 Γ K g) ∧ (¬ (p0 < (48 : Int32)) → (((57 : Int32) < p0 → B_M_isDigit_16 Γ K g) ∧ (¬ ((57 : Int32) < p0) → B_M_isDigit_17 Γ K (1 : Int32) g))))
set_option maxHeartbeats 4000000 in
set_option maxRecDepth 100000 in
theorem S_M_isDigit_0 {Γ : GAM} {E : EV} {K : Int32 → GH → Prop} (hE : GE Γ E cX11_isDigit 1 RX11 (some (.boolean)) 0 0 (fun r g' => ∃ x, r = some (.int x) ∧ K x g')) (p0 : Int32) (g : GH) (h : B_M_isDigit_0 Γ K p0 g) : JW Γ E 0 [some (.int p0)] [] g := by
  unfold B_M_isDigit_0 at h
  refine j_iload_n hE (by decide +kernel : decode cX11_isDigit 0 = .ok (.iload_n 0, 1)) rfl rfl ?_
  refine j_bipush hE (by decide +kernel : decode cX11_isDigit 1 = .ok (.bipush 48, 2)) (v := (48 : Int32)) (by decide) ?_
  refine j_icmp_lt hE (by decide +kernel : decode cX11_isDigit 3 = .ok (.if_icmp .lt 13, 3)) (tgt := 16) (by decide) (fun q => ?_) (fun q => ?_)
  · replace h := h.1 q
    refine j_weak [none] trivial ?_
    exact S_M_isDigit_16 hE _ h
  · replace h := h.2 q
    refine j_iload_n hE (by decide +kernel : decode cX11_isDigit 6 = .ok (.iload_n 0, 1)) rfl rfl ?_
    refine j_bipush hE (by decide +kernel : decode cX11_isDigit 7 = .ok (.bipush 57, 2)) (v := (57 : Int32)) (by decide) ?_
    refine j_icmp_gt hE (by decide +kernel : decode cX11_isDigit 9 = .ok (.if_icmp .gt 7, 3)) (tgt := 16) (by decide) (fun q => ?_) (fun q => ?_)
    · replace h := h.1 q
      refine j_weak [none] trivial ?_
      exact S_M_isDigit_16 hE _ h
    · replace h := h.2 q
      refine j_iconst hE (by decide +kernel : decode cX11_isDigit 12 = .ok (.iconst 1, 1)) (v := (1 : Int32)) (by decide) ?_
      refine j_goto hE (by decide +kernel : decode cX11_isDigit 13 = .ok (.goto 4, 3)) (tgt := 17) (by decide) ?_
      refine j_weak [none] trivial ?_
      exact S_M_isDigit_17 hE _ _ h
set_option maxHeartbeats 4000000 in
set_option maxRecDepth 100000 in
theorem rl_M_isDigit {Γ : GAM} {l : Launch} {p0 : Int32} {g : GH} {K : Int32 → GH → Prop} (h0 : B_M_isDigit_0 Γ K p0 g) : MetA Γ l yX11_isDigit cX11_isDigit 1 (some (.boolean)) 0 0 [.int p0] g (fun r g' => ∃ x, r = some (.int x) ∧ K x g') := by
  refine MetA.introL (Lx := [some (.int p0)]) (by decide) (Nat.le_of_ble_eq_true rfl) rfl rfl ?_
  intro E hEl hE hnm
  exact S_M_isDigit_0 hE p0 g h0
theorem mt_M_isDigit {Γ : GAM} {l : Launch} (p0 : Int32) (g : GH) (K : Int32 → GH → Prop) (h : Sp_M_isDigit Γ p0 g K) : MetA Γ l yX11_isDigit cX11_isDigit 1 (some (.boolean)) 0 0 [.int p0] g (fun r g' => ∃ x, r = some (.int x) ∧ K x g') := by
  unfold Sp_M_isDigit at h
  refine rl_M_isDigit ?_
  unfold B_M_isDigit_0 B_M_isDigit_16 B_M_isDigit_17
  have hno : ¬ isDg p0 → ((0 : Int32) = 0 ∨ (0 : Int32) = 1) ∧ K 0 g := fun q => by rw [if_neg q] at h; exact ⟨.inl rfl, h⟩
  exact ⟨fun q => hno (fun z => by have := z.1; grind), fun q => ⟨fun q2 => hno (fun z => by have := z.2; grind), fun q2 => ⟨.inr rfl, by rw [if_pos ⟨Int32.not_lt.mp q, Int32.not_lt.mp q2⟩] at h; exact h⟩⟩⟩
theorem PN.x {m : Nat} {g g' : GH} {s : ST} {p q : Nat} {sd : List Int32} {dd : Nat} (h : PN m g s p sd dd) (hx : FrX m [1589] [] g g') (ha : Gi g' 1589 m = nI q) (hq : q ≤ (s_tap s).length) : PN m g' s q sd dd := by
  obtain ⟨h1, h2, h3, h4, h5, h6, h7⟩ := h
  have f := fun f (hf : f ∉ [1589]) => hx.2.1 f hf
  refine ⟨ha, hq, (f _ (by decide)).trans h3, (f _ (by decide)).trans h4, h5, (f _ (by decide)).trans h6, fun j v hv => ?_⟩
  rw [hx.2.2 _ (by simp)]; exact h7 j v hv
theorem PN.say {m : Nat} {g : GH} {s : ST} {p : Nat} {sd : List Int32} {dd : Nat} {c : Int32} (h : PN m g s p sd dd) : PN m (sI (sA g 1583 m sd.length c) 1592 m (nI (sd.length + 1))) s p (sd ++ [c]) dd := by
  obtain ⟨h1, h2, h3, h4, h5, h6, h7⟩ := h
  refine ⟨by simp [Gi_sI, Gi_sA, h1], h2, by simp [Gi_sI, Gi_sA, h3], by simp [Gi_sI, Gi_sA, h4], h5, by simp [Gi_sI], fun j v hv => ?_⟩
  rw [Ia_sI, Ia_sA]
  rw [List.getElem?_append] at hv
  split at hv
  · rw [if_neg (fun q => by omega)]; exact h7 j v hv
  · have hj := (List.getElem?_eq_some_iff.mp hv).1
    simp at hj
    have hj3 : j = sd.length := by omega
    subst hj3
    simp at hv
    rw [if_pos ⟨rfl, rfl, rfl⟩, hv]
theorem FrP {m : Nat} {g : GH} {k : Nat} {c v : Int32} : FrX m [1589, 1590, 1591, 1592] [1583] g (sI (sA g 1583 m k c) 1592 m v) := (FrX.sA (by decide)).tr (FrX.sI (by decide))
theorem nI_nm {e : Nat} (h : e ≤ 1000) : ¬ nI e = (-1 : Int32) := nI_nm1 (by omega)
/-- a piece has been read, well or not: one more word -/
theorem PO.k {m : Nat} {g : GH} {s : ST} {sd : List Int32} {dd B : Nat} {r : PRs} (h : PO m g s sd dd B r) (hB : B ≤ 100) (hb : ∀ p2 w, r = .inr (p2, w) → (sd ++ enC w).length ≤ 402) : ∃ k, Gi g 1592 m = nI k ∧ k < 520 ∧ ∀ c, enW (-c) = [c] → PO m (sI (sA g 1583 m k c) 1592 m (nI (k + 1))) s sd dd (B + 1) (pOp c r) := by
  have hW : ∀ e, WR m g e B → ∃ k, Gi g 1592 m = nI k ∧ k < 520 ∧ ∀ c, WR m (sI (sA g 1583 m k c) 1592 m (nI (k + 1))) e (B + 1) := fun e he => by
    obtain ⟨h1, h2, a, k, h3, h4, h5, h6⟩ := he
    exact ⟨k, h5, by omega, fun c => ⟨by simp [Gi_sI, Gi_sA, h1], h2, a, k + 1, by simp [Gi_sI, Gi_sA, h3], by omega, by simp [Gi_sI], by omega⟩⟩
  cases r with
  | inl e =>
    obtain ⟨k, h1, h2, h3⟩ := hW e h
    exact ⟨k, h1, h2, fun c _ => h3 c⟩
  | inr x =>
    obtain ⟨p2, w⟩ := x
    rcases h with h | ⟨hs, h⟩
    · have := hb p2 w rfl
      refine ⟨_, h.2.2.2.2.2.1, by omega, fun c hc => .inl ?_⟩
      have h2 := PN.say (c := c) h
      rw [enC_app, enC_1, hc, ← List.append_assoc]
      exact h2
    · obtain ⟨k, h1, h2, h3⟩ := hW p2 h
      exact ⟨k, h1, h2, fun c _ => .inr ⟨hs, h3 c⟩⟩
theorem PO.dn {m : Nat} {g : GH} {s : ST} {sd : List Int32} {dd B : Nat} {r : PRs} (h : PO m g s sd (dd + 1) B r) : PO m (sI g 1591 m (Gi g 1591 m - 1)) s sd dd B r := by
  have hW : ∀ e, WR m g e B → WR m (sI g 1591 m (Gi g 1591 m - 1)) e B := fun e he => by
    obtain ⟨h1, h2, a, k, h3, h4, h5, h6⟩ := he
    exact ⟨by simp [Gi_sI, h1], h2, a, k, by simp [Gi_sI, h3], h4, by simp [Gi_sI, h5], h6⟩
  cases r with
  | inl e => exact hW e h
  | inr x =>
    obtain ⟨p2, w⟩ := x
    rcases h with h | ⟨hs, h⟩
    · obtain ⟨h1, h2, h3, h4, h5, h6, h7⟩ := h
      refine .inl ⟨by simp [Gi_sI, h1], h2, by simp [Gi_sI, h3], ?_, by omega, by rw [Gi_sI, if_neg (fun q => absurd q.1 (by decide))]; exact h6, h7⟩
      rw [Gi_sI, if_pos ⟨rfl, rfl⟩, h4, ← nj_s]
      exact Int32.add_sub_cancel _ _
    · exact .inr ⟨hs, hW p2 h⟩
def Sp_M_opens (Γ : GAM) (m : Nat) (g : GH) (K : Int32 → GH → Prop) : Prop := ∃ s p sd dd, Kd g m = 13 ∧ PN m g s p sd dd ∧ p < (s_tap s).length ∧ (s_tap s).length ≤ 200 ∧ sd.length ≤ 402 ∧ (dd ≠ 8 → ∀ g', FrX m [1589, 1590, 1591, 1592] [1583] g g' → PN m g' s (p + 1) sd (dd + 1) → K 1 g') ∧ (dd = 8 → ∀ g', FrX m [1589, 1590, 1591, 1592] [1583] g g' → WR m g' p 0 → K 0 g')
-- the walk of M_opens
set_option maxRecDepth 100000 in
def B_M_opens_0 (Γ : GAM) (K : Int32 → GH → Prop) (th : Nat) (g : GH) : Prop :=
  Kd g th = 13 ∧ ((¬ ((Gi g 1591 th) = (8 : Int32)) → Kd g th = 13 ∧ Kd g th = 13 ∧ ∀ g1 : GH, g1 = sI g 1591 th ((Gi g 1591 th) + (1 : Int32)) → Kd g1 th = 13 ∧ Kd g1 th = 13 ∧ ∀ g2 : GH, g2 = sI g1 1589 th ((Gi g1 1589 th) + (1 : Int32)) → K (1 : Int32) g2) ∧ ((Gi g 1591 th) = (8 : Int32) → Kd g th = 13 ∧ Sp_M_bad Γ th g (fun (g3 : GH) => K (0 : Int32) g3)))
set_option maxHeartbeats 4000000 in
set_option maxRecDepth 100000 in
theorem S_M_opens_0 {Γ : GAM} {E : EV} {K : Int32 → GH → Prop} (hE : GE Γ E cX11_opens 1 RX11 (some (.boolean)) 1 20 (fun r g' => ∃ x, r = some (.int x) ∧ K x g')) (th : Nat) (g : GH) (h : B_M_opens_0 Γ K th g) : JW Γ E 0 [some (.ref th)] [] g := by
  unfold B_M_opens_0 at h
  refine j_aload_n hE (by decide +kernel : decode cX11_opens 0 = .ok (.aload_n 0, 1)) rfl rfl ?_
  obtain ⟨hk, h⟩ := h
  refine j_getI hE fg_X11_310 hk (by decide +kernel : decode cX11_opens 1 = .ok (.getfield 310, 3)) ?_
  refine j_bipush hE (by decide +kernel : decode cX11_opens 4 = .ok (.bipush 8, 2)) (v := (8 : Int32)) (by decide) ?_
  refine j_icmp_ne hE (by decide +kernel : decode cX11_opens 6 = .ok (.if_icmp .ne 9, 3)) (tgt := 15) (by decide) (fun q => ?_) (fun q => ?_)
  · replace h := h.1 q
    refine j_aload_n hE (by decide +kernel : decode cX11_opens 15 = .ok (.aload_n 0, 1)) rfl rfl ?_
    refine j_dup hE (by decide +kernel : decode cX11_opens 16 = .ok (.dup, 1)) rfl ?_
    obtain ⟨hk, h⟩ := h
    refine j_getI hE fg_X11_310 hk (by decide +kernel : decode cX11_opens 17 = .ok (.getfield 310, 3)) ?_
    refine j_iconst hE (by decide +kernel : decode cX11_opens 20 = .ok (.iconst 1, 1)) (v := (1 : Int32)) (by decide) ?_
    refine j_iadd hE (by decide +kernel : decode cX11_opens 21 = .ok (.iadd, 1)) ?_
    obtain ⟨hk, h⟩ := h
    obtain ⟨g1, hg⟩ : ∃ z, z = sI g 1591 th ((Gi g 1591 th) + (1 : Int32)) := ⟨_, rfl⟩; replace h := h g1 hg
    refine j_putI hE fa_X11_310 hk (fun q => by cases q) (by decide +kernel : decode cX11_opens 22 = .ok (.putfield 310, 3)) ?_
    rw [← hg]
    refine j_aload_n hE (by decide +kernel : decode cX11_opens 25 = .ok (.aload_n 0, 1)) rfl rfl ?_
    refine j_dup hE (by decide +kernel : decode cX11_opens 26 = .ok (.dup, 1)) rfl ?_
    obtain ⟨hk, h⟩ := h
    refine j_getI hE fg_X11_301 hk (by decide +kernel : decode cX11_opens 27 = .ok (.getfield 301, 3)) ?_
    refine j_iconst hE (by decide +kernel : decode cX11_opens 30 = .ok (.iconst 1, 1)) (v := (1 : Int32)) (by decide) ?_
    refine j_iadd hE (by decide +kernel : decode cX11_opens 31 = .ok (.iadd, 1)) ?_
    obtain ⟨hk, h⟩ := h
    obtain ⟨g2, hg⟩ : ∃ z, z = sI g1 1589 th ((Gi g1 1589 th) + (1 : Int32)) := ⟨_, rfl⟩; replace h := h g2 hg
    refine j_putI hE fa_X11_301 hk (fun q => by cases q) (by decide +kernel : decode cX11_opens 32 = .ok (.putfield 301, 3)) ?_
    rw [← hg]
    refine j_iconst hE (by decide +kernel : decode cX11_opens 35 = .ok (.iconst 1, 1)) (v := (1 : Int32)) (by decide) ?_
    exact j_zret hE (Or.inr rfl) (by decide +kernel : decode cX11_opens 36 = .ok (.ireturn, 1)) ⟨_, rfl, h⟩
  · replace h := h.2 q
    refine j_aload_n hE (by decide +kernel : decode cX11_opens 9 = .ok (.aload_n 0, 1)) rfl rfl ?_
    obtain ⟨hk, h⟩ := h
    refine j_callV hE rfl cl_X11_313 cf_12 im_X11_bad se_X11_bad ⟨by omega, by omega⟩ (As := []) (rest := []) rfl rfl (Nat.le_of_ble_eq_true rfl) hk (by decide +kernel : decode cX11_opens 10 = .ok (.invokevirtual 313, 3)) (mt_M_bad _ _ _ h) ?_
    rintro _ g3 ⟨rfl, h⟩
    refine j_iconst hE (by decide +kernel : decode cX11_opens 13 = .ok (.iconst 0, 1)) (v := (0 : Int32)) (by decide) ?_
    exact j_zret hE (Or.inl rfl) (by decide +kernel : decode cX11_opens 14 = .ok (.ireturn, 1)) ⟨_, rfl, h⟩
set_option maxHeartbeats 4000000 in
set_option maxRecDepth 100000 in
theorem rl_M_opens {Γ : GAM} {l : Launch} {th : Nat} {g : GH} {K : Int32 → GH → Prop} (h0 : B_M_opens_0 Γ K th g) : MetA Γ l yX11_opens cX11_opens 1 (some (.boolean)) 1 20 [.ref th] g (fun r g' => ∃ x, r = some (.int x) ∧ K x g') := by
  refine MetA.introL (Lx := [some (.ref th)]) (by decide) (Nat.le_of_ble_eq_true rfl) rfl rfl ?_
  intro E hEl hE hnm
  exact S_M_opens_0 hE th g h0
theorem mt_M_opens {Γ : GAM} {l : Launch} (th : Nat) (g : GH) (K : Int32 → GH → Prop) (h : Sp_M_opens Γ th g K) : MetA Γ l yX11_opens cX11_opens 1 (some (.boolean)) 1 20 [.ref th] g (fun r g' => ∃ x, r = some (.int x) ∧ K x g') := by
  obtain ⟨s, p, sd, dd, hkd, hP, hp, hT, hsl, hK1, hK2⟩ := h
  obtain ⟨h1, h2, h3, h4, h5, h6, h7⟩ := id hP
  refine rl_M_opens ?_
  unfold B_M_opens_0
  have h8 : ((nI dd : Int32) = (8 : Int32)) ↔ dd = 8 := nj_eq (b := 8) (by omega) (by omega)
  rw [h4, h8]
  refine ⟨hkd, fun u => ⟨hkd, hkd, ?_⟩, fun u => ⟨hkd, hkd, ?_⟩⟩
  · rintro g1 rfl
    refine ⟨hkd, hkd, ?_⟩
    rintro g2 rfl
    refine hK1 u _ ((FrX.sI (by decide)).tr (FrX.sI (by decide))) ⟨?_, hp, by simp [Gi_sI, h3], ?_, by omega, by simp [Gi_sI, h6], h7⟩
    · rw [Gi_sI, if_pos ⟨rfl, rfl⟩, Gi_sI, if_neg (fun q => absurd q.1 (by decide)), h1, nj_s]
    · rw [Gi_sI, if_neg (fun q => absurd q.1 (by decide)), Gi_sI, if_pos ⟨rfl, rfl⟩, nj_s]
  · rintro g3 rfl
    refine hK2 u _ (FrX.sI (by decide)) ⟨?_, by omega, p, _, by simp [Gi_sI, h1], by omega, by rw [Gi_sI, if_neg (fun q => absurd q.1 (by decide))]; exact h6, by omega⟩
    rw [Gi_sI, if_pos ⟨rfl, rfl⟩, if_pos h3, h1]
def Sp_M_closes (Γ : GAM) (m : Nat) (c : Int32) (g : GH) (K : GH → Prop) : Prop := ∃ ma s sd dd B r, RefI m ma g s ∧ WF s ∧ ¬ isDg c ∧ PO m g s sd (dd + 1) B r ∧ (∀ p2 w, r = .inr (p2, w) → (sd ++ enC w).length ≤ 402 ∧ p2 ≤ (s_tap s).length) ∧ c ≠ -1 ∧ ∀ g', FrX m [1589, 1590, 1591, 1592] [1583] g g' → PO m g' s sd dd (B + 1) (pCl (s_tap s) c r) → K g'
-- the walk of M_closes
set_option maxRecDepth 100000 in
def B_M_closes_20 (Γ : GAM) (K : GH → Prop) (l0 : Nat) (g : GH) : Prop :=
  Kd g l0 = 13 ∧ Kd g l0 = 13 ∧ ∀ g1 : GH, g1 = sI g 1589 l0 ((Gi g 1589 l0) + (1 : Int32)) → Kd g1 l0 = 13 ∧ Kd g1 l0 = 13 ∧ ∀ g2 : GH, g2 = sI g1 1591 l0 ((Gi g1 1591 l0) - (1 : Int32)) → K g2
set_option maxHeartbeats 4000000 in
set_option maxRecDepth 100000 in
theorem S_M_closes_20 {Γ : GAM} {E : EV} {K : GH → Prop} (hE : GE Γ E cX11_closes 2 RX11 none 1 20 (fun r g' => r = none ∧ K g')) (l0 : Nat) (g : GH) (h : B_M_closes_20 Γ K l0 g) : JW Γ E 20 [some (.ref l0), none] [] g := by
  unfold B_M_closes_20 at h
  refine j_aload_n hE (by decide +kernel : decode cX11_closes 20 = .ok (.aload_n 0, 1)) rfl rfl ?_
  refine j_dup hE (by decide +kernel : decode cX11_closes 21 = .ok (.dup, 1)) rfl ?_
  obtain ⟨hk, h⟩ := h
  refine j_getI hE fg_X11_301 hk (by decide +kernel : decode cX11_closes 22 = .ok (.getfield 301, 3)) ?_
  refine j_iconst hE (by decide +kernel : decode cX11_closes 25 = .ok (.iconst 1, 1)) (v := (1 : Int32)) (by decide) ?_
  refine j_iadd hE (by decide +kernel : decode cX11_closes 26 = .ok (.iadd, 1)) ?_
  obtain ⟨hk, h⟩ := h
  obtain ⟨g1, hg⟩ : ∃ z, z = sI g 1589 l0 ((Gi g 1589 l0) + (1 : Int32)) := ⟨_, rfl⟩; replace h := h g1 hg
  refine j_putI hE fa_X11_301 hk (fun q => by cases q) (by decide +kernel : decode cX11_closes 27 = .ok (.putfield 301, 3)) ?_
  rw [← hg]
  refine j_aload_n hE (by decide +kernel : decode cX11_closes 30 = .ok (.aload_n 0, 1)) rfl rfl ?_
  refine j_dup hE (by decide +kernel : decode cX11_closes 31 = .ok (.dup, 1)) rfl ?_
  obtain ⟨hk, h⟩ := h
  refine j_getI hE fg_X11_310 hk (by decide +kernel : decode cX11_closes 32 = .ok (.getfield 310, 3)) ?_
  refine j_iconst hE (by decide +kernel : decode cX11_closes 35 = .ok (.iconst 1, 1)) (v := (1 : Int32)) (by decide) ?_
  refine j_isub hE (by decide +kernel : decode cX11_closes 36 = .ok (.isub, 1)) ?_
  obtain ⟨hk, h⟩ := h
  obtain ⟨g2, hg⟩ : ∃ z, z = sI g1 1591 l0 ((Gi g1 1591 l0) - (1 : Int32)) := ⟨_, rfl⟩; replace h := h g2 hg
  refine j_putI hE fa_X11_310 hk (fun q => by cases q) (by decide +kernel : decode cX11_closes 37 = .ok (.putfield 310, 3)) ?_
  rw [← hg]
  exact j_vret hE (by decide +kernel : decode cX11_closes 40 = .ok (.return_, 1)) ⟨rfl, h⟩
set_option maxRecDepth 100000 in
def B_M_closes_0 (Γ : GAM) (K : GH → Prop) (th : Nat) (p0 : Int32) (g : GH) : Prop :=
  Kd g th = 13 ∧ ((¬ ((Gi g 1590 th) = (-1 : Int32)) → B_M_closes_20 Γ K th g) ∧ ((Gi g 1590 th) = (-1 : Int32) → Kd g th = 13 ∧ Sp_M_look Γ th g (fun (x2 : Int32) (g1 : GH) => ((x2 = p0 → B_M_closes_20 Γ K th g1) ∧ (¬ (x2 = p0) → Kd g1 th = 13 ∧ Sp_M_bad Γ th g1 (fun (g3 : GH) => B_M_closes_20 Γ K th g3))))))
set_option maxHeartbeats 4000000 in
set_option maxRecDepth 100000 in
theorem S_M_closes_0 {Γ : GAM} {E : EV} {K : GH → Prop} (hE : GE Γ E cX11_closes 2 RX11 none 1 20 (fun r g' => r = none ∧ K g')) (th : Nat) (p0 : Int32) (g : GH) (h : B_M_closes_0 Γ K th p0 g) : JW Γ E 0 [some (.ref th), some (.int p0)] [] g := by
  unfold B_M_closes_0 at h
  refine j_aload_n hE (by decide +kernel : decode cX11_closes 0 = .ok (.aload_n 0, 1)) rfl rfl ?_
  obtain ⟨hk, h⟩ := h
  refine j_getI hE fg_X11_304 hk (by decide +kernel : decode cX11_closes 1 = .ok (.getfield 304, 3)) ?_
  refine j_iconst hE (by decide +kernel : decode cX11_closes 4 = .ok (.iconst (-1), 1)) (v := (-1 : Int32)) (by decide) ?_
  refine j_icmp_ne hE (by decide +kernel : decode cX11_closes 5 = .ok (.if_icmp .ne 15, 3)) (tgt := 20) (by decide) (fun q => ?_) (fun q => ?_)
  · replace h := h.1 q
    refine j_weak [some (.ref th), none] ⟨rfl, trivial⟩ ?_
    exact S_M_closes_20 hE _ _ h
  · replace h := h.2 q
    refine j_aload_n hE (by decide +kernel : decode cX11_closes 8 = .ok (.aload_n 0, 1)) rfl rfl ?_
    obtain ⟨hk, h⟩ := h
    refine j_callV hE rfl cl_X11_316 cf_12 im_X11_look se_X11_look ⟨by omega, by omega⟩ (As := []) (rest := []) rfl rfl (Nat.le_of_ble_eq_true rfl) hk (by decide +kernel : decode cX11_closes 9 = .ok (.invokevirtual 316, 3)) (mt_M_look _ _ _ h) ?_
    rintro _ g1 ⟨x2, rfl, h⟩
    refine j_iload_n hE (by decide +kernel : decode cX11_closes 12 = .ok (.iload_n 1, 1)) rfl rfl ?_
    refine j_icmp_eq hE (by decide +kernel : decode cX11_closes 13 = .ok (.if_icmp .eq 7, 3)) (tgt := 20) (by decide) (fun q => ?_) (fun q => ?_)
    · replace h := h.1 q
      refine j_weak [some (.ref th), none] ⟨rfl, trivial⟩ ?_
      exact S_M_closes_20 hE _ _ h
    · replace h := h.2 q
      refine j_aload_n hE (by decide +kernel : decode cX11_closes 16 = .ok (.aload_n 0, 1)) rfl rfl ?_
      obtain ⟨hk, h⟩ := h
      refine j_callV hE rfl cl_X11_313 cf_12 im_X11_bad se_X11_bad ⟨by omega, by omega⟩ (As := []) (rest := []) rfl rfl (Nat.le_of_ble_eq_true rfl) hk (by decide +kernel : decode cX11_closes 17 = .ok (.invokevirtual 313, 3)) (mt_M_bad _ _ _ h) ?_
      rintro _ g3 ⟨rfl, h⟩
      refine j_weak [some (.ref th), none] ⟨rfl, trivial⟩ ?_
      exact S_M_closes_20 hE _ _ h
set_option maxHeartbeats 4000000 in
set_option maxRecDepth 100000 in
theorem rl_M_closes {Γ : GAM} {l : Launch} {th : Nat} {p0 : Int32} {g : GH} {K : GH → Prop} (h0 : B_M_closes_0 Γ K th p0 g) : MetA Γ l yX11_closes cX11_closes 2 none 1 20 [.ref th, .int p0] g (fun r g' => r = none ∧ K g') := by
  refine MetA.introL (Lx := [some (.ref th), some (.int p0)]) (by decide) (Nat.le_of_ble_eq_true rfl) rfl rfl ?_
  intro E hEl hE hnm
  exact S_M_closes_0 hE th p0 g h0
theorem mt_M_closes {Γ : GAM} {l : Launch} (th : Nat) (p0 : Int32) (g : GH) (K : GH → Prop) (h : Sp_M_closes Γ th p0 g K) : MetA Γ l yX11_closes cX11_closes 2 none 1 20 [.ref th, .int p0] g (fun r g' => r = none ∧ K g') := by
  obtain ⟨ma, s, sd, dd, B, r, hI, hw, hnd, hP, hb, hc1, hK⟩ := h
  have hT := hw.len.2.2.2.2.2.2.2.2.1
  have hkd := hI.1.1
  refine rl_M_closes ?_
  have h20w : ∀ g1 e, Kd g1 th = 13 → FrX th [1589, 1590, 1591, 1592] [1583] g g1 → WR th g1 e B → pCl (s_tap s) p0 r = .inl e → B_M_closes_20 Γ K th g1 := fun g1 e hk hx he hr => by
    unfold B_M_closes_20
    obtain ⟨h1, h2, a, k, h3, h4, h5, h6⟩ := he
    refine ⟨hk, hk, ?_⟩
    rintro g2 rfl
    refine ⟨hk, hk, ?_⟩
    rintro g3 rfl
    refine hK _ (hx.tr ((FrX.sI (by decide)).tr (FrX.sI (by decide)))) ?_
    rw [hr]
    refine ⟨by simp [Gi_sI, h1], h2, a + 1, k, ?_, by omega, by simp [Gi_sI, h5], by omega⟩
    rw [Gi_sI, if_neg (fun q => absurd q.1 (by decide)), Gi_sI, if_pos ⟨rfl, rfl⟩, h3, nj_s]
  unfold B_M_closes_0
  refine ⟨hkd, fun u => ?_, fun u => ⟨hkd, ?_⟩⟩
  · cases r with
    | inl e => exact h20w g e hkd FrX.rf hP rfl
    | inr x =>
      obtain ⟨p2, w⟩ := x
      rcases hP with hP | ⟨hs, hP⟩
      · exact absurd hP.2.2.1 u
      · refine h20w g p2 hkd FrX.rf hP ?_
        have hd := dg_n hs
        unfold pCl
        simp only
        rw [skp_n hd.1, if_neg (fun q => hnd (by rw [← q]; exact hs))]
  · cases r with
    | inl e => exact absurd (hP.1.symm.trans u) (nI_nm (by have := hP.2.1; omega))
    | inr x =>
      obtain ⟨p2, w⟩ := x
      have hP : PN th g s p2 (sd ++ enC w) (dd + 1) := by
        rcases hP with hP | ⟨hs, hP⟩
        · exact hP
        · exact absurd (hP.1.symm.trans u) (nI_nm (by have := hP.2.1; omega))
      obtain ⟨hb1, hb2⟩ := hb p2 w rfl
      refine ⟨ma, s, p2, hI, hw, hP.1, by omega, fun g1 hx1 ha1 => ?_⟩
      have hf1 : FrX th [1589, 1590, 1591, 1592] [1583] g g1 := hx1.up (by decide) (by decide)
      have hkd1 := (hI.x hx1 (by decide +kernel)).1.1
      have hP1 := hP.x hx1 ha1 (skp_le hb2)
      refine ⟨fun q => ?_, fun q => ⟨hkd1, hkd1, ?_⟩⟩
      · unfold B_M_closes_20
        refine ⟨hkd1, hkd1, ?_⟩
        rintro g2 rfl
        refine ⟨hkd1, hkd1, ?_⟩
        rintro g3 rfl
        refine hK _ (hf1.tr ((FrX.sI (by decide)).tr (FrX.sI (by decide)))) ?_
        unfold pCl
        simp only
        rw [if_pos q]
        obtain ⟨h1, h2, h3, h4, h5, h6, h7⟩ := hP1
        have hlt := chr_in (t := s_tap s) (p := skp (s_tap s) p2) (by rw [q]; exact hc1)
        refine .inl ⟨?_, by omega, by simp [Gi_sI, h3], ?_, by omega, by rw [Gi_sI, if_neg (fun q => absurd q.1 (by decide)), Gi_sI, if_neg (fun q => absurd q.1 (by decide))]; exact h6, h7⟩
        · rw [Gi_sI, if_neg (fun q => absurd q.1 (by decide)), Gi_sI, if_pos ⟨rfl, rfl⟩, h1, nj_s]
        · rw [Gi_sI, if_pos ⟨rfl, rfl⟩, Gi_sI, if_neg (fun q => absurd q.1 (by decide)), h4, ← nj_s]
          exact Int32.add_sub_cancel _ _
      · rintro g3 rfl
        obtain ⟨h1, h2, h3, h4, h5, h6, h7⟩ := hP1
        refine h20w _ (skp (s_tap s) p2) hkd1 (hf1.tr (FrX.sI (by decide))) ⟨?_, by omega, skp (s_tap s) p2, _, by simp [Gi_sI, h1], by omega, by rw [Gi_sI, if_neg (fun q => absurd q.1 (by decide))]; exact h6, by omega⟩ ?_
        · rw [Gi_sI, if_pos ⟨rfl, rfl⟩, if_pos h3, h1]
        · unfold pCl
          simp only
          rw [if_neg q]
def SpR (S : List Int32 → Nat → PRs) (B dd : Nat) (Γ : GAM) (m : Nat) (g : GH) (K : GH → Prop) : Prop := ∃ ma s p sd, RefI m ma g s ∧ WF s ∧ PN m g s p sd dd ∧ sd.length ≤ 2 * p ∧ ∀ g', FrX m [1589, 1590, 1591, 1592] [1583] g g' → PO m g' s sd dd B (S (s_tap s) p) → K g'
def Sp_M_number (Γ : GAM) (m : Nat) (g : GH) (K : GH → Prop) : Prop := ∃ dd, SpR pNm 0 dd Γ m g K
-- the walk of M_number
set_option maxRecDepth 100000 in
def B_M_number_89 (Γ : GAM) (K19 : Nat → Int32 → Int32 → GH → Prop) (K : GH → Prop) (l0 : Nat) (l1 : Int32) (g : GH) : Prop :=
  Kd g l0 = 13 ∧ Sp_M_say Γ l0 (0 : Int32) g (fun (g1 : GH) => Kd g1 l0 = 13 ∧ Sp_M_say Γ l0 l1 g1 (fun (g2 : GH) => K g2))
set_option maxHeartbeats 4000000 in
set_option maxRecDepth 100000 in
theorem S_M_number_89 {Γ : GAM} {E : EV} {K : GH → Prop} (hE : GE Γ E cX11_number 3 RX11 none 1 21 (fun r g' => r = none ∧ K g')) {K19 : Nat → Int32 → Int32 → GH → Prop} (hK19 : ∀ (l0 : Nat) (l1 : Int32) (l2 : Int32) (g : GH), K19 l0 l1 l2 g → JW Γ E 19 [some (.ref l0), some (.int l1), some (.int l2)] [] g) (l0 : Nat) (l1 : Int32) (g : GH) (h : B_M_number_89 Γ K19 K l0 l1 g) : JW Γ E 89 [some (.ref l0), some (.int l1), none] [] g := by
  unfold B_M_number_89 at h
  refine j_aload_n hE (by decide +kernel : decode cX11_number 89 = .ok (.aload_n 0, 1)) rfl rfl ?_
  refine j_iconst hE (by decide +kernel : decode cX11_number 90 = .ok (.iconst 0, 1)) (v := (0 : Int32)) (by decide) ?_
  obtain ⟨hk, h⟩ := h
  refine j_callV hE rfl cl_X11_323 cf_12 im_X11_say se_X11_say ⟨by omega, by omega⟩ (As := [.int (0 : Int32)]) (rest := []) rfl rfl (Nat.le_of_ble_eq_true rfl) hk (by decide +kernel : decode cX11_number 91 = .ok (.invokevirtual 323, 3)) (mt_M_say _ _ _ _ h) ?_
  rintro _ g1 ⟨rfl, h⟩
  refine j_aload_n hE (by decide +kernel : decode cX11_number 94 = .ok (.aload_n 0, 1)) rfl rfl ?_
  refine j_iload_n hE (by decide +kernel : decode cX11_number 95 = .ok (.iload_n 1, 1)) rfl rfl ?_
  obtain ⟨hk, h⟩ := h
  refine j_callV hE rfl cl_X11_323 cf_12 im_X11_say se_X11_say ⟨by omega, by omega⟩ (As := [.int l1]) (rest := []) rfl rfl (Nat.le_of_ble_eq_true rfl) hk (by decide +kernel : decode cX11_number 96 = .ok (.invokevirtual 323, 3)) (mt_M_say _ _ _ _ h) ?_
  rintro _ g2 ⟨rfl, h⟩
  exact j_vret hE (by decide +kernel : decode cX11_number 99 = .ok (.return_, 1)) ⟨rfl, h⟩
set_option maxRecDepth 100000 in
def B_M_number_19 (Γ : GAM) (K19 : Nat → Int32 → Int32 → GH → Prop) (K : GH → Prop) (l0 : Nat) (l1 : Int32) (l2 : Int32) (g : GH) : Prop :=
  Kd g l0 = 13 ∧ Kd g l0 = 13 ∧ (((Gi g 1588 l0) ≤ (Gi g 1589 l0) → B_M_number_89 Γ K19 K l0 l1 g) ∧ (¬ ((Gi g 1588 l0) ≤ (Gi g 1589 l0)) → Kd g l0 = 13 ∧ ∃ a1 : Nat, Gr g 1581 l0 = some a1 ∧ Kd g l0 = 13 ∧ Kd g a1 = 20 ∧ inB (Gi g 1589 l0) (Ln g a1) ∧ Sp_M_isDigit Γ (Ia g (Co g a1) (Ow g a1) (Gi g 1589 l0).toNatClampNeg) g (fun (x3 : Int32) (g2 : GH) => ((x3 = 0 → B_M_number_89 Γ K19 K l0 l1 g2) ∧ (¬ (x3 = 0) → ((¬ (l2 = (4 : Int32)) → Kd g2 l0 = 13 ∧ ∃ a4 : Nat, Gr g2 1581 l0 = some a4 ∧ Kd g2 l0 = 13 ∧ Kd g2 a4 = 20 ∧ inB (Gi g2 1589 l0) (Ln g2 a4) ∧ ∀ x5 : Int32, x5 = ((((10 : Int32) * l1) + (Ia g2 (Co g2 a4) (Ow g2 a4) (Gi g2 1589 l0).toNatClampNeg)) - (48 : Int32)) → Kd g2 l0 = 13 ∧ Kd g2 l0 = 13 ∧ ∀ g6 : GH, g6 = sI g2 1589 l0 ((Gi g2 1589 l0) + (1 : Int32)) → K19 l0 x5 (l2 + (1 : Int32)) g6) ∧ (l2 = (4 : Int32) → Kd g2 l0 = 13 ∧ Sp_M_bad Γ l0 g2 (fun (g7 : GH) => K g7))))))))
set_option maxHeartbeats 4000000 in
set_option maxRecDepth 100000 in
theorem S_M_number_19 {Γ : GAM} {E : EV} {K : GH → Prop} (hE : GE Γ E cX11_number 3 RX11 none 1 21 (fun r g' => r = none ∧ K g')) {K19 : Nat → Int32 → Int32 → GH → Prop} (hK19 : ∀ (l0 : Nat) (l1 : Int32) (l2 : Int32) (g : GH), K19 l0 l1 l2 g → JW Γ E 19 [some (.ref l0), some (.int l1), some (.int l2)] [] g) (l0 : Nat) (l1 : Int32) (l2 : Int32) (g : GH) (h : B_M_number_19 Γ K19 K l0 l1 l2 g) : JW Γ E 19 [some (.ref l0), some (.int l1), some (.int l2)] [] g := by
  unfold B_M_number_19 at h
  refine j_aload_n hE (by decide +kernel : decode cX11_number 19 = .ok (.aload_n 0, 1)) rfl rfl ?_
  obtain ⟨hk, h⟩ := h
  refine j_getI hE fg_X11_301 hk (by decide +kernel : decode cX11_number 20 = .ok (.getfield 301, 3)) ?_
  refine j_aload_n hE (by decide +kernel : decode cX11_number 23 = .ok (.aload_n 0, 1)) rfl rfl ?_
  obtain ⟨hk, h⟩ := h
  refine j_getI hE fg_X11_298 hk (by decide +kernel : decode cX11_number 24 = .ok (.getfield 298, 3)) ?_
  refine j_icmp_ge hE (by decide +kernel : decode cX11_number 27 = .ok (.if_icmp .ge 62, 3)) (tgt := 89) (by decide) (fun q => ?_) (fun q => ?_)
  · replace h := h.1 q
    refine j_weak [some (.ref l0), some (.int l1), none] ⟨rfl, ⟨rfl, trivial⟩⟩ ?_
    exact S_M_number_89 hE hK19 _ _ _ h
  · replace h := h.2 q
    refine j_aload_n hE (by decide +kernel : decode cX11_number 30 = .ok (.aload_n 0, 1)) rfl rfl ?_
    obtain ⟨hk, h⟩ := h
    obtain ⟨a1, ha, h⟩ := h
    refine j_getRn hE fg_X11_105 hk ha (by decide +kernel : decode cX11_number 31 = .ok (.getfield 105, 3)) ?_
    refine j_aload_n hE (by decide +kernel : decode cX11_number 34 = .ok (.aload_n 0, 1)) rfl rfl ?_
    obtain ⟨hk, h⟩ := h
    refine j_getI hE fg_X11_301 hk (by decide +kernel : decode cX11_number 35 = .ok (.getfield 301, 3)) ?_
    obtain ⟨hk, hb, h⟩ := h
    refine j_iald hE hk hb (by decide +kernel : decode cX11_number 38 = .ok (.iaload, 1)) ?_
    refine j_callS hE rfl cl_X11_320 st_X11_isDigit ⟨by omega, by omega⟩ (As := [.int (Ia g (Co g a1) (Ow g a1) (Gi g 1589 l0).toNatClampNeg)]) (rest := []) rfl rfl (Nat.le_of_ble_eq_true rfl) (by decide +kernel : decode cX11_number 39 = .ok (.invokestatic 320, 3)) (mt_M_isDigit _ _ _ h) ?_
    rintro _ g2 ⟨x3, rfl, h⟩
    refine j_if_eq hE (by decide +kernel : decode cX11_number 42 = .ok (.ifCond .eq 47, 3)) (tgt := 89) (by decide) (fun q => ?_) (fun q => ?_)
    · replace h := h.1 q
      refine j_weak [some (.ref l0), some (.int l1), none] ⟨rfl, ⟨rfl, trivial⟩⟩ ?_
      exact S_M_number_89 hE hK19 _ _ _ h
    · replace h := h.2 q
      refine j_iload_n hE (by decide +kernel : decode cX11_number 45 = .ok (.iload_n 2, 1)) rfl rfl ?_
      refine j_iconst hE (by decide +kernel : decode cX11_number 46 = .ok (.iconst 4, 1)) (v := (4 : Int32)) (by decide) ?_
      refine j_icmp_ne hE (by decide +kernel : decode cX11_number 47 = .ok (.if_icmp .ne 8, 3)) (tgt := 55) (by decide) (fun q => ?_) (fun q => ?_)
      · replace h := h.1 q
        refine j_bipush hE (by decide +kernel : decode cX11_number 55 = .ok (.bipush 10, 2)) (v := (10 : Int32)) (by decide) ?_
        refine j_iload_n hE (by decide +kernel : decode cX11_number 57 = .ok (.iload_n 1, 1)) rfl rfl ?_
        refine j_imul hE (by decide +kernel : decode cX11_number 58 = .ok (.imul, 1)) ?_
        refine j_aload_n hE (by decide +kernel : decode cX11_number 59 = .ok (.aload_n 0, 1)) rfl rfl ?_
        obtain ⟨hk, h⟩ := h
        obtain ⟨a4, ha, h⟩ := h
        refine j_getRn hE fg_X11_105 hk ha (by decide +kernel : decode cX11_number 60 = .ok (.getfield 105, 3)) ?_
        refine j_aload_n hE (by decide +kernel : decode cX11_number 63 = .ok (.aload_n 0, 1)) rfl rfl ?_
        obtain ⟨hk, h⟩ := h
        refine j_getI hE fg_X11_301 hk (by decide +kernel : decode cX11_number 64 = .ok (.getfield 301, 3)) ?_
        obtain ⟨hk, hb, h⟩ := h
        refine j_iald hE hk hb (by decide +kernel : decode cX11_number 67 = .ok (.iaload, 1)) ?_
        refine j_iadd hE (by decide +kernel : decode cX11_number 68 = .ok (.iadd, 1)) ?_
        refine j_bipush hE (by decide +kernel : decode cX11_number 69 = .ok (.bipush 48, 2)) (v := (48 : Int32)) (by decide) ?_
        refine j_isub hE (by decide +kernel : decode cX11_number 71 = .ok (.isub, 1)) ?_
        obtain ⟨x5, hx⟩ : ∃ z, z = ((((10 : Int32) * l1) + (Ia g2 (Co g2 a4) (Ow g2 a4) (Gi g2 1589 l0).toNatClampNeg)) - (48 : Int32)) := ⟨_, rfl⟩; replace h := h x5 hx; rw [← hx]
        refine j_istore_n hE (by decide +kernel : decode cX11_number 72 = .ok (.istore_n 1, 1)) rfl (Nat.le_of_ble_eq_true rfl) rfl ?_
        refine j_iinc hE (by decide +kernel : decode cX11_number 73 = .ok (.iinc 2 1, 3)) (v := (1 : Int32)) (by decide) rfl (Nat.le_of_ble_eq_true rfl) rfl ?_
        refine j_aload_n hE (by decide +kernel : decode cX11_number 76 = .ok (.aload_n 0, 1)) rfl rfl ?_
        refine j_dup hE (by decide +kernel : decode cX11_number 77 = .ok (.dup, 1)) rfl ?_
        obtain ⟨hk, h⟩ := h
        refine j_getI hE fg_X11_301 hk (by decide +kernel : decode cX11_number 78 = .ok (.getfield 301, 3)) ?_
        refine j_iconst hE (by decide +kernel : decode cX11_number 81 = .ok (.iconst 1, 1)) (v := (1 : Int32)) (by decide) ?_
        refine j_iadd hE (by decide +kernel : decode cX11_number 82 = .ok (.iadd, 1)) ?_
        obtain ⟨hk, h⟩ := h
        obtain ⟨g6, hg⟩ : ∃ z, z = sI g2 1589 l0 ((Gi g2 1589 l0) + (1 : Int32)) := ⟨_, rfl⟩; replace h := h g6 hg
        refine j_putI hE fa_X11_301 hk (fun q => by cases q) (by decide +kernel : decode cX11_number 83 = .ok (.putfield 301, 3)) ?_
        rw [← hg]
        refine j_goto hE (by decide +kernel : decode cX11_number 86 = .ok (.goto (-67), 3)) (tgt := 19) (by decide) ?_
        exact hK19 _ _ _ _ h
      · replace h := h.2 q
        refine j_aload_n hE (by decide +kernel : decode cX11_number 50 = .ok (.aload_n 0, 1)) rfl rfl ?_
        obtain ⟨hk, h⟩ := h
        refine j_callV hE rfl cl_X11_313 cf_12 im_X11_bad se_X11_bad ⟨by omega, by omega⟩ (As := []) (rest := []) rfl rfl (Nat.le_of_ble_eq_true rfl) hk (by decide +kernel : decode cX11_number 51 = .ok (.invokevirtual 313, 3)) (mt_M_bad _ _ _ h) ?_
        rintro _ g7 ⟨rfl, h⟩
        exact j_vret hE (by decide +kernel : decode cX11_number 54 = .ok (.return_, 1)) ⟨rfl, h⟩
set_option maxRecDepth 100000 in
def B_M_number_0 (Γ : GAM) (K19 : Nat → Int32 → Int32 → GH → Prop) (K : GH → Prop) (th : Nat) (g : GH) : Prop :=
  Kd g th = 13 ∧ Sp_M_look Γ th g (fun (x2 : Int32) (g1 : GH) => Sp_M_isDigit Γ x2 g1 (fun (x4 : Int32) (g3 : GH) => ((¬ (x4 = 0) → K19 th (0 : Int32) (0 : Int32) g3) ∧ (x4 = 0 → Kd g3 th = 13 ∧ Sp_M_bad Γ th g3 (fun (g5 : GH) => K g5)))))
set_option maxHeartbeats 4000000 in
set_option maxRecDepth 100000 in
theorem S_M_number_0 {Γ : GAM} {E : EV} {K : GH → Prop} (hE : GE Γ E cX11_number 3 RX11 none 1 21 (fun r g' => r = none ∧ K g')) {K19 : Nat → Int32 → Int32 → GH → Prop} (hK19 : ∀ (l0 : Nat) (l1 : Int32) (l2 : Int32) (g : GH), K19 l0 l1 l2 g → JW Γ E 19 [some (.ref l0), some (.int l1), some (.int l2)] [] g) (th : Nat) (g : GH) (h : B_M_number_0 Γ K19 K th g) : JW Γ E 0 [some (.ref th), none, none] [] g := by
  unfold B_M_number_0 at h
  refine j_aload_n hE (by decide +kernel : decode cX11_number 0 = .ok (.aload_n 0, 1)) rfl rfl ?_
  obtain ⟨hk, h⟩ := h
  refine j_callV hE rfl cl_X11_316 cf_12 im_X11_look se_X11_look ⟨by omega, by omega⟩ (As := []) (rest := []) rfl rfl (Nat.le_of_ble_eq_true rfl) hk (by decide +kernel : decode cX11_number 1 = .ok (.invokevirtual 316, 3)) (mt_M_look _ _ _ h) ?_
  rintro _ g1 ⟨x2, rfl, h⟩
  refine j_callS hE rfl cl_X11_320 st_X11_isDigit ⟨by omega, by omega⟩ (As := [.int x2]) (rest := []) rfl rfl (Nat.le_of_ble_eq_true rfl) (by decide +kernel : decode cX11_number 4 = .ok (.invokestatic 320, 3)) (mt_M_isDigit _ _ _ h) ?_
  rintro _ g3 ⟨x4, rfl, h⟩
  refine j_if_ne hE (by decide +kernel : decode cX11_number 7 = .ok (.ifCond .ne 8, 3)) (tgt := 15) (by decide) (fun q => ?_) (fun q => ?_)
  · replace h := h.1 q
    refine j_iconst hE (by decide +kernel : decode cX11_number 15 = .ok (.iconst 0, 1)) (v := (0 : Int32)) (by decide) ?_
    refine j_istore_n hE (by decide +kernel : decode cX11_number 16 = .ok (.istore_n 1, 1)) rfl (Nat.le_of_ble_eq_true rfl) rfl ?_
    refine j_iconst hE (by decide +kernel : decode cX11_number 17 = .ok (.iconst 0, 1)) (v := (0 : Int32)) (by decide) ?_
    refine j_istore_n hE (by decide +kernel : decode cX11_number 18 = .ok (.istore_n 2, 1)) rfl (Nat.le_of_ble_eq_true rfl) rfl ?_
    exact hK19 _ _ _ _ h
  · replace h := h.2 q
    refine j_aload_n hE (by decide +kernel : decode cX11_number 10 = .ok (.aload_n 0, 1)) rfl rfl ?_
    obtain ⟨hk, h⟩ := h
    refine j_callV hE rfl cl_X11_313 cf_12 im_X11_bad se_X11_bad ⟨by omega, by omega⟩ (As := []) (rest := []) rfl rfl (Nat.le_of_ble_eq_true rfl) hk (by decide +kernel : decode cX11_number 11 = .ok (.invokevirtual 313, 3)) (mt_M_bad _ _ _ h) ?_
    rintro _ g5 ⟨rfl, h⟩
    exact j_vret hE (by decide +kernel : decode cX11_number 14 = .ok (.return_, 1)) ⟨rfl, h⟩
set_option maxHeartbeats 4000000 in
set_option maxRecDepth 100000 in
theorem rl_M_number {Γ : GAM} {l : Launch} {th : Nat} {g : GH} {K : GH → Prop} (I19 : Nat → Nat → Int32 → Int32 → GH → Prop) (hh19 : ∀ n (l0 : Nat) (l1 : Int32) (l2 : Int32) (g : GH), I19 n l0 l1 l2 g → B_M_number_19 Γ (fun l0 l1 l2 g => ∃ m, m < n ∧ I19 m l0 l1 l2 g) K l0 l1 l2 g) (h0 : B_M_number_0 Γ (fun l0 l1 l2 g => ∃ m, I19 m l0 l1 l2 g) K th g) : MetA Γ l yX11_number cX11_number 3 none 1 21 [.ref th] g (fun r g' => r = none ∧ K g') := by
  refine MetA.introL (Lx := [some (.ref th), none, none]) (by decide) (Nat.le_of_ble_eq_true rfl) rfl rfl ?_
  intro E hEl hE hnm
  have hall : ∀ n, (∀ (l0 : Nat) (l1 : Int32) (l2 : Int32) (g : GH), I19 n l0 l1 l2 g → JW Γ E 19 [some (.ref l0), some (.int l1), some (.int l2)] [] g) := by
    intro n
    induction n using Nat.strongRecOn with
    | ind n ih =>
      exact fun l0 l1 l2 g hi => S_M_number_19 hE (fun l0 l1 l2 g hm => by obtain ⟨m, hm, h⟩ := hm; exact (ih m hm) l0 l1 l2 g h) l0 l1 l2 g (hh19 n l0 l1 l2 g hi)
  exact S_M_number_0 hE (fun l0 l1 l2 g hm => by obtain ⟨m, h⟩ := hm; exact (hall m) l0 l1 l2 g h) th g h0
theorem mt_M_number {Γ : GAM} {l : Launch} (th : Nat) (g : GH) (K : GH → Prop) (h : Sp_M_number Γ th g K) : MetA Γ l yX11_number cX11_number 3 none 1 21 [.ref th] g (fun r g' => r = none ∧ K g') := by
  obtain ⟨dd, ma, s, p, sd, hI, hw, hP, hsl, hK⟩ := h
  have hT := hw.len.2.2.2.2.2.2.2.2.1
  have hkd := hI.1.1
  have hpl := hP.2.1
  have g2 := skp_le hpl
  have g1 := skp_ge (s_tap s) p
  refine rl_M_number (fun n l0 l1 l2 g' => th = l0 ∧ ∃ k q, k ≤ 4 ∧ l2 = nI k ∧ n = 4 - k ∧ FrX th [1589, 1590, 1591, 1592] [1583] g g' ∧ PN th g' s q sd dd ∧ isDg (chr (s_tap s) (skp (s_tap s) p)) ∧ (1 ≤ k → skp (s_tap s) p < q) ∧ skp (s_tap s) p ≤ q ∧ (k = 0 → skp (s_tap s) p = q) ∧ nmL (s_tap s) 4 (skp (s_tap s) p) 0 = nmL (s_tap s) (4 - k) q l1) ?_ ?_
  · rintro n l0 l1 l2 g' ⟨rfl, k, q, hk, rfl, rfl, hfx, hP', hd, hkq, hqq, hk0, hnm⟩
    have hI' := hI.x hfx (by decide +kernel)
    obtain ⟨hkd', hS⟩ := hI'.1
    obtain ⟨t1, t2, t3⟩ := hI'.tap
    obtain ⟨h1, h2, h3, h4, h5, h6, h7⟩ := id hP'
    obtain ⟨z_tape1, z_tape2, z_tape3, z_tape4, z_tape5⟩ := hS 1581 20 200 rfl
    suffices H : ∀ (K19 : Nat → Int32 → Int32 → GH → Prop), (∀ g2, k < 4 → isDg (chr (s_tap s) q) → FrX th [1589, 1590, 1591, 1592] [1583] g g2 → PN th g2 s (q + 1) sd dd → K19 th (10 * l1 + chr (s_tap s) q - 48) (nI (k + 1)) g2) → B_M_number_19 Γ K19 K th l1 (nI k) g' from
      H _ (fun g2 hk4 hdq h1 h2 => ⟨4 - (k + 1), by omega, rfl, k + 1, q + 1, by omega, rfl, rfl, h1, h2, hd, fun _ => by omega, by omega, fun z => absurd z (by omega), by
        rw [hnm, show 4 - k = (4 - (k + 1)) + 1 by omega]
        show (if isDg (chr (s_tap s) q) then _ else _) = _
        rw [if_pos hdq]⟩)
    intro K19 h19
    have hend : nmL (s_tap s) 4 (skp (s_tap s) p) 0 = (q, l1) → 1 ≤ k → B_M_number_89 Γ K19 K th l1 g' := fun hr hk1 => by
      unfold B_M_number_89
      have hq1 := hkq hk1
      refine ⟨hkd', ma, s, sd.length, hI', h6, by omega, ?_⟩
      intro g3 hg3
      have hx3 : FrX th [1589, 1590, 1591, 1592] [1583] g' g3 := by rw [hg3]; exact FrP
      have hI3 := hI'.x hx3 (by decide +kernel)
      have hP3 : PN th g3 s q (sd ++ [0]) dd := by rw [hg3]; exact hP'.say
      refine ⟨hI3.1.1, ma, s, _, hI3, hP3.2.2.2.2.2.1, by rw [List.length_append]; simp; omega, ?_⟩
      intro g4 hg4
      have hx4 : FrX th [1589, 1590, 1591, 1592] [1583] g3 g4 := by rw [hg4]; exact FrP
      refine hK g4 (hfx.tr (hx3.tr hx4)) ?_
      unfold pNm
      rw [if_pos hd, hr]
      refine .inl ?_
      have : enC [l1] = [0, l1] := by
        obtain ⟨a, b, c, j, hj, e⟩ := nmL_ok (t := s_tap s) 4 (skp (s_tap s) p) 0 g2 (by decide) (by omega)
        rw [← nj_0, hr] at e
        have e : l1 = nI j := e
        rw [enC_1]
        unfold enW
        rw [if_pos (by rw [e]; exact nj_nneg (by omega))]
      rw [this]
      have h9 := hP3.say (c := l1)
      rw [← hg4] at h9
      simpa using h9
    unfold B_M_number_19
    rw [t1, h1, nj_le (by omega) (by omega)]
    refine ⟨hkd', hkd', fun u => ?_, fun u => ?_⟩
    · have hne : ¬ isDg (chr (s_tap s) q) := fun z => by rw [chr_end u] at z; exact absurd z (by decide)
      have hk1 : 1 ≤ k := Classical.byContradiction (fun z => by
        have := hk0 (by omega)
        rw [this] at hd
        exact hne hd)
      refine hend ?_ hk1
      rw [hnm]
      cases hkk : 4 - k with
      | zero => rfl
      | succ n => show (if isDg (chr (s_tap s) q) then _ else _) = _; rw [if_neg hne]
    · refine ⟨hkd', _, z_tape1, hkd', z_tape2, by rw [z_tape5]; exact inB_nI (by omega) (by omega), ?_⟩
      rw [z_tape3, z_tape4, nj_cl (by omega), t3 q _ (chr_lt (by omega))]
      unfold Sp_M_isDigit
      refine ⟨fun z => ?_, fun z => ⟨fun z2 => ?_, fun z2 => ?_⟩⟩
      · have hne : ¬ isDg (chr (s_tap s) q) := fun w => by rw [if_pos w] at z; exact absurd z (by decide)
        have hk1 : 1 ≤ k := Classical.byContradiction (fun z => by
          have := hk0 (by omega)
          rw [this] at hd
          exact hne hd)
        refine hend ?_ hk1
        rw [hnm]
        cases hkk : 4 - k with
        | zero => rfl
        | succ n => show (if isDg (chr (s_tap s) q) then _ else _) = _; rw [if_neg hne]
      · have hdq : isDg (chr (s_tap s) q) := Classical.byContradiction (fun w => z (by rw [if_neg w]))
        have hk4 : k < 4 := Classical.byContradiction (fun w => z2 (by rw [show k = 4 by omega]; rfl))
        refine ⟨hkd', _, z_tape1, hkd', z_tape2, by rw [h1, z_tape5]; exact inB_nI (k := q) (by omega) (by omega), ?_⟩
        rw [z_tape3, z_tape4, h1, nj_cl (show q < 2147483648 by omega), t3 q _ (chr_lt (by omega)), nj_s, nj_s]
        rintro x5 rfl
        refine ⟨hkd', hkd', fun g6 hg6 => ?_⟩
        have hx6 : FrX th [1589] [] g' g6 := by rw [hg6]; exact FrX.sI (by decide)
        exact h19 g6 hk4 hdq (hfx.tr (hx6.up (by decide) (by decide))) (hP'.x hx6 (by rw [hg6, Gi_sI, if_pos ⟨rfl, rfl⟩]) (by omega))
      · have hdq : isDg (chr (s_tap s) q) := Classical.byContradiction (fun w => z (by rw [if_neg w]))
        have hk4 : k = 4 := (nj_eq (b := 4) (by omega) (by omega)).mp z2
        subst hk4
        refine ⟨hkd', hkd', ?_⟩
        rintro g7 rfl
        refine hK _ (hfx.tr (FrX.sI (by decide))) ?_
        unfold pNm
        rw [if_pos hd, hnm]
        refine .inr ⟨hdq, ?_, by show q ≤ 200; omega, q, _, by rw [Gi_sI, if_neg (fun q => absurd q.1 (by decide))]; exact h1, by omega, by rw [Gi_sI, if_neg (fun q => absurd q.1 (by decide))]; exact h6, by omega⟩
        rw [Gi_sI, if_pos ⟨rfl, rfl⟩, if_pos h3, h1]
        rfl
  · unfold B_M_number_0
    refine ⟨hkd, ma, s, p, hI, hw, hP.1, by omega, fun g3 hx3 ha3 => ?_⟩
    have hf3 : FrX th [1589, 1590, 1591, 1592] [1583] g g3 := hx3.up (by decide) (by decide)
    have hI3 := hI.x hx3 (by decide +kernel)
    have hP3 := hP.x hx3 ha3 g2
    unfold Sp_M_isDigit
    refine ⟨fun z => ?_, fun z => ⟨hI3.1.1, hI3.1.1, ?_⟩⟩
    · have hd : isDg (chr (s_tap s) (skp (s_tap s) p)) := Classical.byContradiction (fun w => z (by rw [if_neg w]))
      exact ⟨_, rfl, 0, skp (s_tap s) p, by omega, nj_0, rfl, hf3, hP3, hd, fun w => absurd w (by omega), Nat.le_refl _, fun _ => rfl, rfl⟩
    · have hd : ¬ isDg (chr (s_tap s) (skp (s_tap s) p)) := fun w => by rw [if_pos w] at z; exact absurd z (by decide)
      rintro g5 rfl
      obtain ⟨h1, h2, h3, h4, h5, h6, h7⟩ := hP3
      refine hK _ (hf3.tr (FrX.sI (by decide))) ?_
      unfold pNm
      rw [if_neg hd]
      refine ⟨?_, by omega, skp (s_tap s) p, _, by rw [Gi_sI, if_neg (fun q => absurd q.1 (by decide))]; exact h1, by omega, by rw [Gi_sI, if_neg (fun q => absurd q.1 (by decide))]; exact h6, by omega⟩
      rw [Gi_sI, if_pos ⟨rfl, rfl⟩, if_pos h3, h1]
