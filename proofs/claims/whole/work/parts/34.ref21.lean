/-! the reference: bytes fed to the tape -/
def fdL (a b c d f : Int32) (k : Nat) : List Int32 := ((List.range 20).take k).foldl (fun l i => if byB a b c d f (nI i) = 0 then l else l ++ [byB a b c d f (nI i)]) []
theorem fdL_s {a b c d f : Int32} {k : Nat} (h : k < 20) : fdL a b c d f (k + 1) = if byB a b c d f (nI k) = 0 then fdL a b c d f k else fdL a b c d f k ++ [byB a b c d f (nI k)] := fold_take _ _ _ (range_get h)
theorem fdL_le {a b c d f : Int32} : ∀ k, k ≤ 20 → (fdL a b c d f k).length ≤ k := by
  intro k
  induction k with
  | zero => intro _; exact Nat.le_refl _
  | succ k ih =>
    intro h
    rw [fdL_s (by omega)]
    have := ih (by omega)
    split
    · omega
    · rw [List.length_append, List.length_singleton]; omega
theorem fdL_mono {a b c d f : Int32} {k : Nat} : ∀ j, k + j ≤ 20 → (fdL a b c d f k).length ≤ (fdL a b c d f (k + j)).length := by
  intro j
  induction j with
  | zero => intro _; exact Nat.le_refl _
  | succ j ih =>
    intro h
    have := ih (by omega)
    rw [show k + (j + 1) = (k + j) + 1 from rfl, fdL_s (by omega)]
    split
    · exact this
    · rw [List.length_append, List.length_singleton]; omega
theorem tap_push {m : Nat} {ma : Nat → Nat} {g : GH} {s : ST} {L : List Int32} {b : Int32} (h : RefI m ma g (u_tap s L)) (hl : L.length < 200) : RefI m ma (sI (sA g 1581 m L.length b) 1588 m (nI (L.length + 1))) (u_tap s (L ++ [b])) := by
  have hT : R_tap m (sI (sA g 1581 m L.length b) 1588 m (nI (L.length + 1))) (L ++ [b]) := by
    obtain ⟨h1, h2, h3⟩ := h.tap
    refine ⟨by simp [Gi_sI], by simp; omega, fun k x hx => ?_⟩
    rw [List.getElem?_append] at hx
    split at hx
    · rename_i hk
      have := h3 k x hx
      simp [Ia_sI, Ia_sA, show k ≠ L.length by omega, this]
    · rename_i hk
      by_cases q : k = L.length
      · rw [q] at hx ⊢
        simp at hx
        simp [Ia_sI, Ia_sA, hx]
      · rw [List.getElem?_eq_none (by simp; omega)] at hx; cases hx
  exact ⟨h.1, h.now, h.siz, h.prs, h.stp, h.vot, h.mov, h.env, h.evt, h.emp, h.rea, h.tel, h.boo, h.wav, h.hea, hT, h.law, h.hof, h.box, h.roa, h.las⟩
theorem u_tap_id (s : ST) : u_tap s (s_tap s) = s := rfl
def p_feed (s : ST) (p0 p1 p2 p3 p4 : Int32) : Int32 := if (s_tap s).length + (fdL p0 p1 p2 p3 p4 20).length ≤ 200 then nI ((s_tap s).length + (fdL p0 p1 p2 p3 p4 20).length) else -1
def q_feed (s : ST) (p0 p1 p2 p3 p4 : Int32) : ST := if (s_tap s).length + (fdL p0 p1 p2 p3 p4 20).length ≤ 200 then u_tap s (s_tap s ++ fdL p0 p1 p2 p3 p4 20) else s
def Sp_M_feed (Γ : GAM) (m : Nat) (p0 p1 p2 p3 p4 : Int32) (g : GH) (K : Int32 → GH → Prop) : Prop := ∃ ma s, RefI m ma g s ∧ WF s ∧ ∀ g', FrL m g g' → RefI m ma g' (q_feed s p0 p1 p2 p3 p4) → K (p_feed s p0 p1 p2 p3 p4) g'
-- the walk of M_feed
set_option maxRecDepth 100000 in
def B_M_feed_109 (Γ : GAM) (K6 : Nat → Int32 → Int32 → Int32 → Int32 → Int32 → Int32 → Int32 → GH → Prop) (K62 : Nat → Int32 → Int32 → Int32 → Int32 → Int32 → Int32 → GH → Prop) (K : Int32 → GH → Prop) (l0 : Nat) (l1 : Int32) (l2 : Int32) (l3 : Int32) (l4 : Int32) (l5 : Int32) (l7 : Int32) (g : GH) : Prop :=
  K62 l0 l1 l2 l3 l4 l5 (l7 + (1 : Int32)) g
set_option maxHeartbeats 4000000 in
set_option maxRecDepth 100000 in
theorem S_M_feed_109 {Γ : GAM} {E : EV} {K : Int32 → GH → Prop} (hE : GE Γ E cX11_feed 9 RX11 (some (.int)) 1 26 (fun r g' => ∃ x, r = some (.int x) ∧ K x g')) {K6 : Nat → Int32 → Int32 → Int32 → Int32 → Int32 → Int32 → Int32 → GH → Prop} {K62 : Nat → Int32 → Int32 → Int32 → Int32 → Int32 → Int32 → GH → Prop} (hK6 : ∀ (l0 : Nat) (l1 : Int32) (l2 : Int32) (l3 : Int32) (l4 : Int32) (l5 : Int32) (l6 : Int32) (l7 : Int32) (g : GH), K6 l0 l1 l2 l3 l4 l5 l6 l7 g → JW Γ E 6 [some (.ref l0), some (.int l1), some (.int l2), some (.int l3), some (.int l4), some (.int l5), some (.int l6), some (.int l7), none] [] g) (hK62 : ∀ (l0 : Nat) (l1 : Int32) (l2 : Int32) (l3 : Int32) (l4 : Int32) (l5 : Int32) (l7 : Int32) (g : GH), K62 l0 l1 l2 l3 l4 l5 l7 g → JW Γ E 62 [some (.ref l0), some (.int l1), some (.int l2), some (.int l3), some (.int l4), some (.int l5), none, some (.int l7), none] [] g) (l0 : Nat) (l1 : Int32) (l2 : Int32) (l3 : Int32) (l4 : Int32) (l5 : Int32) (l7 : Int32) (g : GH) (h : B_M_feed_109 Γ K6 K62 K l0 l1 l2 l3 l4 l5 l7 g) : JW Γ E 109 [some (.ref l0), some (.int l1), some (.int l2), some (.int l3), some (.int l4), some (.int l5), none, some (.int l7), none] [] g := by
  unfold B_M_feed_109 at h
  refine j_iinc hE (by decide +kernel : decode cX11_feed 109 = .ok (.iinc 7 1, 3)) (v := (1 : Int32)) (by decide) rfl (Nat.le_of_ble_eq_true rfl) rfl ?_
  refine j_goto hE (by decide +kernel : decode cX11_feed 112 = .ok (.goto (-50), 3)) (tgt := 62) (by decide) ?_
  exact hK62 _ _ _ _ _ _ _ _ h
set_option maxRecDepth 100000 in
def B_M_feed_62 (Γ : GAM) (K6 : Nat → Int32 → Int32 → Int32 → Int32 → Int32 → Int32 → Int32 → GH → Prop) (K62 : Nat → Int32 → Int32 → Int32 → Int32 → Int32 → Int32 → GH → Prop) (K : Int32 → GH → Prop) (l0 : Nat) (l1 : Int32) (l2 : Int32) (l3 : Int32) (l4 : Int32) (l5 : Int32) (l7 : Int32) (g : GH) : Prop :=
  (((20 : Int32) ≤ l7 → Kd g l0 = 13 ∧ K (Gi g 1588 l0) g) ∧ (¬ ((20 : Int32) ≤ l7) → Sp_M_byteOf Γ l1 l2 l3 l4 l5 l7 g (fun (x2 : Int32) (g1 : GH) => ((x2 = 0 → B_M_feed_109 Γ K6 K62 K l0 l1 l2 l3 l4 l5 l7 g1) ∧ (¬ (x2 = 0) → Kd g1 l0 = 13 ∧ ∃ a3 : Nat, Gr g1 1581 l0 = some a3 ∧ Kd g1 l0 = 13 ∧ Kd g1 a3 = 20 ∧ inB (Gi g1 1588 l0) (Ln g1 a3) ∧ ∀ g4 : GH, g4 = sA g1 (Co g1 a3) (Ow g1 a3) (Gi g1 1588 l0).toNatClampNeg x2 → Kd g4 l0 = 13 ∧ Kd g4 l0 = 13 ∧ ∀ g5 : GH, g5 = sI g4 1588 l0 ((Gi g4 1588 l0) + (1 : Int32)) → B_M_feed_109 Γ K6 K62 K l0 l1 l2 l3 l4 l5 l7 g5)))))
set_option maxHeartbeats 4000000 in
set_option maxRecDepth 100000 in
theorem S_M_feed_62 {Γ : GAM} {E : EV} {K : Int32 → GH → Prop} (hE : GE Γ E cX11_feed 9 RX11 (some (.int)) 1 26 (fun r g' => ∃ x, r = some (.int x) ∧ K x g')) {K6 : Nat → Int32 → Int32 → Int32 → Int32 → Int32 → Int32 → Int32 → GH → Prop} {K62 : Nat → Int32 → Int32 → Int32 → Int32 → Int32 → Int32 → GH → Prop} (hK6 : ∀ (l0 : Nat) (l1 : Int32) (l2 : Int32) (l3 : Int32) (l4 : Int32) (l5 : Int32) (l6 : Int32) (l7 : Int32) (g : GH), K6 l0 l1 l2 l3 l4 l5 l6 l7 g → JW Γ E 6 [some (.ref l0), some (.int l1), some (.int l2), some (.int l3), some (.int l4), some (.int l5), some (.int l6), some (.int l7), none] [] g) (hK62 : ∀ (l0 : Nat) (l1 : Int32) (l2 : Int32) (l3 : Int32) (l4 : Int32) (l5 : Int32) (l7 : Int32) (g : GH), K62 l0 l1 l2 l3 l4 l5 l7 g → JW Γ E 62 [some (.ref l0), some (.int l1), some (.int l2), some (.int l3), some (.int l4), some (.int l5), none, some (.int l7), none] [] g) (l0 : Nat) (l1 : Int32) (l2 : Int32) (l3 : Int32) (l4 : Int32) (l5 : Int32) (l7 : Int32) (g : GH) (h : B_M_feed_62 Γ K6 K62 K l0 l1 l2 l3 l4 l5 l7 g) : JW Γ E 62 [some (.ref l0), some (.int l1), some (.int l2), some (.int l3), some (.int l4), some (.int l5), none, some (.int l7), none] [] g := by
  unfold B_M_feed_62 at h
  refine j_iload hE (by decide +kernel : decode cX11_feed 62 = .ok (.iload 7, 2)) rfl ?_
  refine j_bipush hE (by decide +kernel : decode cX11_feed 64 = .ok (.bipush 20, 2)) (v := (20 : Int32)) (by decide) ?_
  refine j_icmp_ge hE (by decide +kernel : decode cX11_feed 66 = .ok (.if_icmp .ge 49, 3)) (tgt := 115) (by decide) (fun q => ?_) (fun q => ?_)
  · replace h := h.1 q
    refine j_aload_n hE (by decide +kernel : decode cX11_feed 115 = .ok (.aload_n 0, 1)) rfl rfl ?_
    obtain ⟨hk, h⟩ := h
    refine j_getI hE fg_X11_298 hk (by decide +kernel : decode cX11_feed 116 = .ok (.getfield 298, 3)) ?_
    exact j_iret hE (by decide +kernel : decode cX11_feed 119 = .ok (.ireturn, 1)) ⟨_, rfl, h⟩
  · replace h := h.2 q
    refine j_iload_n hE (by decide +kernel : decode cX11_feed 69 = .ok (.iload_n 1, 1)) rfl rfl ?_
    refine j_iload_n hE (by decide +kernel : decode cX11_feed 70 = .ok (.iload_n 2, 1)) rfl rfl ?_
    refine j_iload_n hE (by decide +kernel : decode cX11_feed 71 = .ok (.iload_n 3, 1)) rfl rfl ?_
    refine j_iload hE (by decide +kernel : decode cX11_feed 72 = .ok (.iload 4, 2)) rfl ?_
    refine j_iload hE (by decide +kernel : decode cX11_feed 74 = .ok (.iload 5, 2)) rfl ?_
    refine j_iload hE (by decide +kernel : decode cX11_feed 76 = .ok (.iload 7, 2)) rfl ?_
    refine j_callS hE rfl cl_X11_294 st_X11_byteOf ⟨by omega, by omega⟩ (As := [.int l1, .int l2, .int l3, .int l4, .int l5, .int l7]) (rest := []) rfl rfl (Nat.le_of_ble_eq_true rfl) (by decide +kernel : decode cX11_feed 78 = .ok (.invokestatic 294, 3)) (mt_M_byteOf _ _ _ _ _ _ _ _ h) ?_
    rintro _ g1 ⟨x2, rfl, h⟩
    refine j_istore hE (by decide +kernel : decode cX11_feed 81 = .ok (.istore 8, 2)) (Nat.le_of_ble_eq_true rfl) rfl ?_
    refine j_iload hE (by decide +kernel : decode cX11_feed 83 = .ok (.iload 8, 2)) rfl ?_
    refine j_if_eq hE (by decide +kernel : decode cX11_feed 85 = .ok (.ifCond .eq 24, 3)) (tgt := 109) (by decide) (fun q => ?_) (fun q => ?_)
    · replace h := h.1 q
      refine j_weak [some (.ref l0), some (.int l1), some (.int l2), some (.int l3), some (.int l4), some (.int l5), none, some (.int l7), none] ⟨rfl, ⟨rfl, ⟨rfl, ⟨rfl, ⟨rfl, ⟨rfl, ⟨rfl, trivial⟩⟩⟩⟩⟩⟩⟩ ?_
      exact S_M_feed_109 hE hK6 hK62 _ _ _ _ _ _ _ _ h
    · replace h := h.2 q
      refine j_aload_n hE (by decide +kernel : decode cX11_feed 88 = .ok (.aload_n 0, 1)) rfl rfl ?_
      obtain ⟨hk, h⟩ := h
      obtain ⟨a3, ha, h⟩ := h
      refine j_getRn hE fg_X11_105 hk ha (by decide +kernel : decode cX11_feed 89 = .ok (.getfield 105, 3)) ?_
      refine j_aload_n hE (by decide +kernel : decode cX11_feed 92 = .ok (.aload_n 0, 1)) rfl rfl ?_
      obtain ⟨hk, h⟩ := h
      refine j_getI hE fg_X11_298 hk (by decide +kernel : decode cX11_feed 93 = .ok (.getfield 298, 3)) ?_
      refine j_iload hE (by decide +kernel : decode cX11_feed 96 = .ok (.iload 8, 2)) rfl ?_
      obtain ⟨hk, hb, h⟩ := h
      obtain ⟨g4, hg⟩ : ∃ z, z = sA g1 (Co g1 a3) (Ow g1 a3) (Gi g1 1588 l0).toNatClampNeg x2 := ⟨_, rfl⟩; replace h := h g4 hg
      refine j_iast hE hk hb (by decide +kernel : decode cX11_feed 98 = .ok (.iastore, 1)) ?_
      rw [← hg]
      refine j_aload_n hE (by decide +kernel : decode cX11_feed 99 = .ok (.aload_n 0, 1)) rfl rfl ?_
      refine j_dup hE (by decide +kernel : decode cX11_feed 100 = .ok (.dup, 1)) rfl ?_
      obtain ⟨hk, h⟩ := h
      refine j_getI hE fg_X11_298 hk (by decide +kernel : decode cX11_feed 101 = .ok (.getfield 298, 3)) ?_
      refine j_iconst hE (by decide +kernel : decode cX11_feed 104 = .ok (.iconst 1, 1)) (v := (1 : Int32)) (by decide) ?_
      refine j_iadd hE (by decide +kernel : decode cX11_feed 105 = .ok (.iadd, 1)) ?_
      obtain ⟨hk, h⟩ := h
      obtain ⟨g5, hg⟩ : ∃ z, z = sI g4 1588 l0 ((Gi g4 1588 l0) + (1 : Int32)) := ⟨_, rfl⟩; replace h := h g5 hg
      refine j_putI hE fa_X11_298 hk (fun q => by cases q) (by decide +kernel : decode cX11_feed 106 = .ok (.putfield 298, 3)) ?_
      rw [← hg]
      refine j_weak [some (.ref l0), some (.int l1), some (.int l2), some (.int l3), some (.int l4), some (.int l5), none, some (.int l7), none] ⟨rfl, ⟨rfl, ⟨rfl, ⟨rfl, ⟨rfl, ⟨rfl, ⟨rfl, trivial⟩⟩⟩⟩⟩⟩⟩ ?_
      exact S_M_feed_109 hE hK6 hK62 _ _ _ _ _ _ _ _ h
set_option maxRecDepth 100000 in
def B_M_feed_35 (Γ : GAM) (K6 : Nat → Int32 → Int32 → Int32 → Int32 → Int32 → Int32 → Int32 → GH → Prop) (K62 : Nat → Int32 → Int32 → Int32 → Int32 → Int32 → Int32 → GH → Prop) (K : Int32 → GH → Prop) (l0 : Nat) (l1 : Int32) (l2 : Int32) (l3 : Int32) (l4 : Int32) (l5 : Int32) (l7 : Int32) (s0 : Int32) (s1 : Int32) (g : GH) : Prop :=
  ∀ x1 : Int32, x1 = (s1 + s0) → K6 l0 l1 l2 l3 l4 l5 x1 (l7 + (1 : Int32)) g
set_option maxHeartbeats 4000000 in
set_option maxRecDepth 100000 in
theorem S_M_feed_35 {Γ : GAM} {E : EV} {K : Int32 → GH → Prop} (hE : GE Γ E cX11_feed 9 RX11 (some (.int)) 1 26 (fun r g' => ∃ x, r = some (.int x) ∧ K x g')) {K6 : Nat → Int32 → Int32 → Int32 → Int32 → Int32 → Int32 → Int32 → GH → Prop} {K62 : Nat → Int32 → Int32 → Int32 → Int32 → Int32 → Int32 → GH → Prop} (hK6 : ∀ (l0 : Nat) (l1 : Int32) (l2 : Int32) (l3 : Int32) (l4 : Int32) (l5 : Int32) (l6 : Int32) (l7 : Int32) (g : GH), K6 l0 l1 l2 l3 l4 l5 l6 l7 g → JW Γ E 6 [some (.ref l0), some (.int l1), some (.int l2), some (.int l3), some (.int l4), some (.int l5), some (.int l6), some (.int l7), none] [] g) (hK62 : ∀ (l0 : Nat) (l1 : Int32) (l2 : Int32) (l3 : Int32) (l4 : Int32) (l5 : Int32) (l7 : Int32) (g : GH), K62 l0 l1 l2 l3 l4 l5 l7 g → JW Γ E 62 [some (.ref l0), some (.int l1), some (.int l2), some (.int l3), some (.int l4), some (.int l5), none, some (.int l7), none] [] g) (l0 : Nat) (l1 : Int32) (l2 : Int32) (l3 : Int32) (l4 : Int32) (l5 : Int32) (l7 : Int32) (s0 : Int32) (s1 : Int32) (g : GH) (h : B_M_feed_35 Γ K6 K62 K l0 l1 l2 l3 l4 l5 l7 s0 s1 g) : JW Γ E 35 [some (.ref l0), some (.int l1), some (.int l2), some (.int l3), some (.int l4), some (.int l5), none, some (.int l7), none] [.int s0, .int s1] g := by
  unfold B_M_feed_35 at h
  refine j_iadd hE (by decide +kernel : decode cX11_feed 35 = .ok (.iadd, 1)) ?_
  obtain ⟨x1, hx⟩ : ∃ z, z = (s1 + s0) := ⟨_, rfl⟩; replace h := h x1 hx; rw [← hx]
  refine j_istore hE (by decide +kernel : decode cX11_feed 36 = .ok (.istore 6, 2)) (Nat.le_of_ble_eq_true rfl) rfl ?_
  refine j_iinc hE (by decide +kernel : decode cX11_feed 38 = .ok (.iinc 7 1, 3)) (v := (1 : Int32)) (by decide) rfl (Nat.le_of_ble_eq_true rfl) rfl ?_
  refine j_goto hE (by decide +kernel : decode cX11_feed 41 = .ok (.goto (-35), 3)) (tgt := 6) (by decide) ?_
  exact hK6 _ _ _ _ _ _ _ _ _ h
set_option maxRecDepth 100000 in
def B_M_feed_6 (Γ : GAM) (K6 : Nat → Int32 → Int32 → Int32 → Int32 → Int32 → Int32 → Int32 → GH → Prop) (K62 : Nat → Int32 → Int32 → Int32 → Int32 → Int32 → Int32 → GH → Prop) (K : Int32 → GH → Prop) (l0 : Nat) (l1 : Int32) (l2 : Int32) (l3 : Int32) (l4 : Int32) (l5 : Int32) (l6 : Int32) (l7 : Int32) (g : GH) : Prop :=
  (((20 : Int32) ≤ l7 → Kd g l0 = 13 ∧ ((((Gi g 1588 l0) + l6) ≤ (200 : Int32) → K62 l0 l1 l2 l3 l4 l5 (0 : Int32) g) ∧ (¬ (((Gi g 1588 l0) + l6) ≤ (200 : Int32)) → K (-1 : Int32) g))) ∧ (¬ ((20 : Int32) ≤ l7) → Sp_M_byteOf Γ l1 l2 l3 l4 l5 l7 g (fun (x2 : Int32) (g1 : GH) => ((x2 = 0 → B_M_feed_35 Γ K6 K62 K l0 l1 l2 l3 l4 l5 l7 (0 : Int32) l6 g1) ∧ (¬ (x2 = 0) → B_M_feed_35 Γ K6 K62 K l0 l1 l2 l3 l4 l5 l7 (1 : Int32) l6 g1)))))
set_option maxHeartbeats 4000000 in
set_option maxRecDepth 100000 in
theorem S_M_feed_6 {Γ : GAM} {E : EV} {K : Int32 → GH → Prop} (hE : GE Γ E cX11_feed 9 RX11 (some (.int)) 1 26 (fun r g' => ∃ x, r = some (.int x) ∧ K x g')) {K6 : Nat → Int32 → Int32 → Int32 → Int32 → Int32 → Int32 → Int32 → GH → Prop} {K62 : Nat → Int32 → Int32 → Int32 → Int32 → Int32 → Int32 → GH → Prop} (hK6 : ∀ (l0 : Nat) (l1 : Int32) (l2 : Int32) (l3 : Int32) (l4 : Int32) (l5 : Int32) (l6 : Int32) (l7 : Int32) (g : GH), K6 l0 l1 l2 l3 l4 l5 l6 l7 g → JW Γ E 6 [some (.ref l0), some (.int l1), some (.int l2), some (.int l3), some (.int l4), some (.int l5), some (.int l6), some (.int l7), none] [] g) (hK62 : ∀ (l0 : Nat) (l1 : Int32) (l2 : Int32) (l3 : Int32) (l4 : Int32) (l5 : Int32) (l7 : Int32) (g : GH), K62 l0 l1 l2 l3 l4 l5 l7 g → JW Γ E 62 [some (.ref l0), some (.int l1), some (.int l2), some (.int l3), some (.int l4), some (.int l5), none, some (.int l7), none] [] g) (l0 : Nat) (l1 : Int32) (l2 : Int32) (l3 : Int32) (l4 : Int32) (l5 : Int32) (l6 : Int32) (l7 : Int32) (g : GH) (h : B_M_feed_6 Γ K6 K62 K l0 l1 l2 l3 l4 l5 l6 l7 g) : JW Γ E 6 [some (.ref l0), some (.int l1), some (.int l2), some (.int l3), some (.int l4), some (.int l5), some (.int l6), some (.int l7), none] [] g := by
  unfold B_M_feed_6 at h
  refine j_iload hE (by decide +kernel : decode cX11_feed 6 = .ok (.iload 7, 2)) rfl ?_
  refine j_bipush hE (by decide +kernel : decode cX11_feed 8 = .ok (.bipush 20, 2)) (v := (20 : Int32)) (by decide) ?_
  refine j_icmp_ge hE (by decide +kernel : decode cX11_feed 10 = .ok (.if_icmp .ge 34, 3)) (tgt := 44) (by decide) (fun q => ?_) (fun q => ?_)
  · replace h := h.1 q
    refine j_aload_n hE (by decide +kernel : decode cX11_feed 44 = .ok (.aload_n 0, 1)) rfl rfl ?_
    obtain ⟨hk, h⟩ := h
    refine j_getI hE fg_X11_298 hk (by decide +kernel : decode cX11_feed 45 = .ok (.getfield 298, 3)) ?_
    refine j_iload hE (by decide +kernel : decode cX11_feed 48 = .ok (.iload 6, 2)) rfl ?_
    refine j_iadd hE (by decide +kernel : decode cX11_feed 50 = .ok (.iadd, 1)) ?_
    refine j_sipush hE (by decide +kernel : decode cX11_feed 51 = .ok (.sipush 200, 3)) (v := (200 : Int32)) (by decide) ?_
    refine j_icmp_le hE (by decide +kernel : decode cX11_feed 54 = .ok (.if_icmp .le 5, 3)) (tgt := 59) (by decide) (fun q => ?_) (fun q => ?_)
    · replace h := h.1 q
      refine j_iconst hE (by decide +kernel : decode cX11_feed 59 = .ok (.iconst 0, 1)) (v := (0 : Int32)) (by decide) ?_
      refine j_istore hE (by decide +kernel : decode cX11_feed 60 = .ok (.istore 7, 2)) (Nat.le_of_ble_eq_true rfl) rfl ?_
      refine j_weak [some (.ref l0), some (.int l1), some (.int l2), some (.int l3), some (.int l4), some (.int l5), none, some (.int (0 : Int32)), none] ⟨rfl, ⟨rfl, ⟨rfl, ⟨rfl, ⟨rfl, ⟨rfl, ⟨rfl, trivial⟩⟩⟩⟩⟩⟩⟩ ?_
      exact hK62 _ _ _ _ _ _ _ _ h
    · replace h := h.2 q
      refine j_iconst hE (by decide +kernel : decode cX11_feed 57 = .ok (.iconst (-1), 1)) (v := (-1 : Int32)) (by decide) ?_
      exact j_iret hE (by decide +kernel : decode cX11_feed 58 = .ok (.ireturn, 1)) ⟨_, rfl, h⟩
  · replace h := h.2 q
    refine j_iload hE (by decide +kernel : decode cX11_feed 13 = .ok (.iload 6, 2)) rfl ?_
    refine j_iload_n hE (by decide +kernel : decode cX11_feed 15 = .ok (.iload_n 1, 1)) rfl rfl ?_
    refine j_iload_n hE (by decide +kernel : decode cX11_feed 16 = .ok (.iload_n 2, 1)) rfl rfl ?_
    refine j_iload_n hE (by decide +kernel : decode cX11_feed 17 = .ok (.iload_n 3, 1)) rfl rfl ?_
    refine j_iload hE (by decide +kernel : decode cX11_feed 18 = .ok (.iload 4, 2)) rfl ?_
    refine j_iload hE (by decide +kernel : decode cX11_feed 20 = .ok (.iload 5, 2)) rfl ?_
    refine j_iload hE (by decide +kernel : decode cX11_feed 22 = .ok (.iload 7, 2)) rfl ?_
    refine j_callS hE rfl cl_X11_294 st_X11_byteOf ⟨by omega, by omega⟩ (As := [.int l1, .int l2, .int l3, .int l4, .int l5, .int l7]) (rest := [.int l6]) rfl rfl (Nat.le_of_ble_eq_true rfl) (by decide +kernel : decode cX11_feed 24 = .ok (.invokestatic 294, 3)) (mt_M_byteOf _ _ _ _ _ _ _ _ h) ?_
    rintro _ g1 ⟨x2, rfl, h⟩
    refine j_if_eq hE (by decide +kernel : decode cX11_feed 27 = .ok (.ifCond .eq 7, 3)) (tgt := 34) (by decide) (fun q => ?_) (fun q => ?_)
    · replace h := h.1 q
      refine j_iconst hE (by decide +kernel : decode cX11_feed 34 = .ok (.iconst 0, 1)) (v := (0 : Int32)) (by decide) ?_
      refine j_weak [some (.ref l0), some (.int l1), some (.int l2), some (.int l3), some (.int l4), some (.int l5), none, some (.int l7), none] ⟨rfl, ⟨rfl, ⟨rfl, ⟨rfl, ⟨rfl, ⟨rfl, ⟨rfl, trivial⟩⟩⟩⟩⟩⟩⟩ ?_
      exact S_M_feed_35 hE hK6 hK62 _ _ _ _ _ _ _ _ _ _ h
    · replace h := h.2 q
      refine j_iconst hE (by decide +kernel : decode cX11_feed 30 = .ok (.iconst 1, 1)) (v := (1 : Int32)) (by decide) ?_
      refine j_goto hE (by decide +kernel : decode cX11_feed 31 = .ok (.goto 4, 3)) (tgt := 35) (by decide) ?_
      refine j_weak [some (.ref l0), some (.int l1), some (.int l2), some (.int l3), some (.int l4), some (.int l5), none, some (.int l7), none] ⟨rfl, ⟨rfl, ⟨rfl, ⟨rfl, ⟨rfl, ⟨rfl, ⟨rfl, trivial⟩⟩⟩⟩⟩⟩⟩ ?_
      exact S_M_feed_35 hE hK6 hK62 _ _ _ _ _ _ _ _ _ _ h
set_option maxRecDepth 100000 in
def B_M_feed_0 (Γ : GAM) (K6 : Nat → Int32 → Int32 → Int32 → Int32 → Int32 → Int32 → Int32 → GH → Prop) (K62 : Nat → Int32 → Int32 → Int32 → Int32 → Int32 → Int32 → GH → Prop) (K : Int32 → GH → Prop) (th : Nat) (p0 : Int32) (p1 : Int32) (p2 : Int32) (p3 : Int32) (p4 : Int32) (g : GH) : Prop :=
  K6 th p0 p1 p2 p3 p4 (0 : Int32) (0 : Int32) g
set_option maxHeartbeats 4000000 in
set_option maxRecDepth 100000 in
theorem S_M_feed_0 {Γ : GAM} {E : EV} {K : Int32 → GH → Prop} (hE : GE Γ E cX11_feed 9 RX11 (some (.int)) 1 26 (fun r g' => ∃ x, r = some (.int x) ∧ K x g')) {K6 : Nat → Int32 → Int32 → Int32 → Int32 → Int32 → Int32 → Int32 → GH → Prop} {K62 : Nat → Int32 → Int32 → Int32 → Int32 → Int32 → Int32 → GH → Prop} (hK6 : ∀ (l0 : Nat) (l1 : Int32) (l2 : Int32) (l3 : Int32) (l4 : Int32) (l5 : Int32) (l6 : Int32) (l7 : Int32) (g : GH), K6 l0 l1 l2 l3 l4 l5 l6 l7 g → JW Γ E 6 [some (.ref l0), some (.int l1), some (.int l2), some (.int l3), some (.int l4), some (.int l5), some (.int l6), some (.int l7), none] [] g) (hK62 : ∀ (l0 : Nat) (l1 : Int32) (l2 : Int32) (l3 : Int32) (l4 : Int32) (l5 : Int32) (l7 : Int32) (g : GH), K62 l0 l1 l2 l3 l4 l5 l7 g → JW Γ E 62 [some (.ref l0), some (.int l1), some (.int l2), some (.int l3), some (.int l4), some (.int l5), none, some (.int l7), none] [] g) (th : Nat) (p0 : Int32) (p1 : Int32) (p2 : Int32) (p3 : Int32) (p4 : Int32) (g : GH) (h : B_M_feed_0 Γ K6 K62 K th p0 p1 p2 p3 p4 g) : JW Γ E 0 [some (.ref th), some (.int p0), some (.int p1), some (.int p2), some (.int p3), some (.int p4), none, none, none] [] g := by
  unfold B_M_feed_0 at h
  refine j_iconst hE (by decide +kernel : decode cX11_feed 0 = .ok (.iconst 0, 1)) (v := (0 : Int32)) (by decide) ?_
  refine j_istore hE (by decide +kernel : decode cX11_feed 1 = .ok (.istore 6, 2)) (Nat.le_of_ble_eq_true rfl) rfl ?_
  refine j_iconst hE (by decide +kernel : decode cX11_feed 3 = .ok (.iconst 0, 1)) (v := (0 : Int32)) (by decide) ?_
  refine j_istore hE (by decide +kernel : decode cX11_feed 4 = .ok (.istore 7, 2)) (Nat.le_of_ble_eq_true rfl) rfl ?_
  exact hK6 _ _ _ _ _ _ _ _ _ h
set_option maxHeartbeats 4000000 in
set_option maxRecDepth 100000 in
theorem rl_M_feed {Γ : GAM} {l : Launch} {th : Nat} {p0 : Int32} {p1 : Int32} {p2 : Int32} {p3 : Int32} {p4 : Int32} {g : GH} {K : Int32 → GH → Prop} (I6 : Nat → Nat → Int32 → Int32 → Int32 → Int32 → Int32 → Int32 → Int32 → GH → Prop) (I62 : Nat → Nat → Int32 → Int32 → Int32 → Int32 → Int32 → Int32 → GH → Prop) (hh6 : ∀ n (l0 : Nat) (l1 : Int32) (l2 : Int32) (l3 : Int32) (l4 : Int32) (l5 : Int32) (l6 : Int32) (l7 : Int32) (g : GH), I6 n l0 l1 l2 l3 l4 l5 l6 l7 g → B_M_feed_6 Γ (fun l0 l1 l2 l3 l4 l5 l6 l7 g => ∃ m, m < n ∧ I6 m l0 l1 l2 l3 l4 l5 l6 l7 g) (fun l0 l1 l2 l3 l4 l5 l7 g => ∃ m, m < n ∧ I62 m l0 l1 l2 l3 l4 l5 l7 g) K l0 l1 l2 l3 l4 l5 l6 l7 g) (hh62 : ∀ n (l0 : Nat) (l1 : Int32) (l2 : Int32) (l3 : Int32) (l4 : Int32) (l5 : Int32) (l7 : Int32) (g : GH), I62 n l0 l1 l2 l3 l4 l5 l7 g → B_M_feed_62 Γ (fun l0 l1 l2 l3 l4 l5 l6 l7 g => ∃ m, m < n ∧ I6 m l0 l1 l2 l3 l4 l5 l6 l7 g) (fun l0 l1 l2 l3 l4 l5 l7 g => ∃ m, m < n ∧ I62 m l0 l1 l2 l3 l4 l5 l7 g) K l0 l1 l2 l3 l4 l5 l7 g) (h0 : B_M_feed_0 Γ (fun l0 l1 l2 l3 l4 l5 l6 l7 g => ∃ m, I6 m l0 l1 l2 l3 l4 l5 l6 l7 g) (fun l0 l1 l2 l3 l4 l5 l7 g => ∃ m, I62 m l0 l1 l2 l3 l4 l5 l7 g) K th p0 p1 p2 p3 p4 g) : MetA Γ l yX11_feed cX11_feed 9 (some (.int)) 1 26 [.ref th, .int p0, .int p1, .int p2, .int p3, .int p4] g (fun r g' => ∃ x, r = some (.int x) ∧ K x g') := by
  refine MetA.introL (Lx := [some (.ref th), some (.int p0), some (.int p1), some (.int p2), some (.int p3), some (.int p4), none, none, none]) (by decide) (Nat.le_of_ble_eq_true rfl) rfl rfl ?_
  intro E hEl hE hnm
  have hall : ∀ n, (∀ (l0 : Nat) (l1 : Int32) (l2 : Int32) (l3 : Int32) (l4 : Int32) (l5 : Int32) (l6 : Int32) (l7 : Int32) (g : GH), I6 n l0 l1 l2 l3 l4 l5 l6 l7 g → JW Γ E 6 [some (.ref l0), some (.int l1), some (.int l2), some (.int l3), some (.int l4), some (.int l5), some (.int l6), some (.int l7), none] [] g) ∧ (∀ (l0 : Nat) (l1 : Int32) (l2 : Int32) (l3 : Int32) (l4 : Int32) (l5 : Int32) (l7 : Int32) (g : GH), I62 n l0 l1 l2 l3 l4 l5 l7 g → JW Γ E 62 [some (.ref l0), some (.int l1), some (.int l2), some (.int l3), some (.int l4), some (.int l5), none, some (.int l7), none] [] g) := by
    intro n
    induction n using Nat.strongRecOn with
    | ind n ih =>
      exact ⟨fun l0 l1 l2 l3 l4 l5 l6 l7 g hi => S_M_feed_6 hE (fun l0 l1 l2 l3 l4 l5 l6 l7 g hm => by obtain ⟨m, hm, h⟩ := hm; exact (ih m hm).1 l0 l1 l2 l3 l4 l5 l6 l7 g h) (fun l0 l1 l2 l3 l4 l5 l7 g hm => by obtain ⟨m, hm, h⟩ := hm; exact (ih m hm).2 l0 l1 l2 l3 l4 l5 l7 g h) l0 l1 l2 l3 l4 l5 l6 l7 g (hh6 n l0 l1 l2 l3 l4 l5 l6 l7 g hi), fun l0 l1 l2 l3 l4 l5 l7 g hi => S_M_feed_62 hE (fun l0 l1 l2 l3 l4 l5 l6 l7 g hm => by obtain ⟨m, hm, h⟩ := hm; exact (ih m hm).1 l0 l1 l2 l3 l4 l5 l6 l7 g h) (fun l0 l1 l2 l3 l4 l5 l7 g hm => by obtain ⟨m, hm, h⟩ := hm; exact (ih m hm).2 l0 l1 l2 l3 l4 l5 l7 g h) l0 l1 l2 l3 l4 l5 l7 g (hh62 n l0 l1 l2 l3 l4 l5 l7 g hi)⟩
  exact S_M_feed_0 hE (fun l0 l1 l2 l3 l4 l5 l6 l7 g hm => by obtain ⟨m, h⟩ := hm; exact (hall m).1 l0 l1 l2 l3 l4 l5 l6 l7 g h) (fun l0 l1 l2 l3 l4 l5 l7 g hm => by obtain ⟨m, h⟩ := hm; exact (hall m).2 l0 l1 l2 l3 l4 l5 l7 g h) th p0 p1 p2 p3 p4 g h0
theorem mt_M_feed {Γ : GAM} {l : Launch} (th : Nat) (p0 : Int32) (p1 : Int32) (p2 : Int32) (p3 : Int32) (p4 : Int32) (g : GH) (K : Int32 → GH → Prop) (h : Sp_M_feed Γ th p0 p1 p2 p3 p4 g K) : MetA Γ l yX11_feed cX11_feed 9 (some (.int)) 1 26 [.ref th, .int p0, .int p1, .int p2, .int p3, .int p4] g (fun r g' => ∃ x, r = some (.int x) ∧ K x g') := by
  obtain ⟨ma, s, hI, hw, hK⟩ := h
  have hT := hw.len.2.2.2.2.2.2.2.2.1
  unfold p_feed q_feed at hK
  refine rl_M_feed (fun n l0 l1 l2 l3 l4 l5 l6 l7 g' => g = g' ∧ th = l0 ∧ p0 = l1 ∧ p1 = l2 ∧ p2 = l3 ∧ p3 = l4 ∧ p4 = l5 ∧ ∃ k, k ≤ 20 ∧ n = 100 + (20 - k) ∧ l7 = nI k ∧ l6 = nI (fdL p0 p1 p2 p3 p4 k).length)
    (fun n l0 l1 l2 l3 l4 l5 l7 g' => th = l0 ∧ p0 = l1 ∧ p1 = l2 ∧ p2 = l3 ∧ p3 = l4 ∧ p4 = l5 ∧ (s_tap s).length + (fdL p0 p1 p2 p3 p4 20).length ≤ 200 ∧ ∃ k, k ≤ 20 ∧ n = 20 - k ∧ l7 = nI k ∧ FrL th g g' ∧ RefI th ma g' (u_tap s (s_tap s ++ fdL p0 p1 p2 p3 p4 k))) ?_ ?_ ?_
  · rintro n l0 l1 l2 l3 l4 l5 l6 l7 g' ⟨rfl, rfl, rfl, rfl, rfl, rfl, rfl, k, hk, rfl, rfl, rfl⟩
    have hle := fdL_le (a := p0) (b := p1) (c := p2) (d := p3) (f := p4) k hk
    have h20 : ((20 : Int32) ≤ nI k) ↔ 20 ≤ k := nj_le (a := 20) (by omega) (by omega)
    suffices H : ∀ (K6 : Nat → Int32 → Int32 → Int32 → Int32 → Int32 → Int32 → Int32 → GH → Prop) (K62 : Nat → Int32 → Int32 → Int32 → Int32 → Int32 → Int32 → GH → Prop), (∀ a, k < 20 → a = nI (fdL p0 p1 p2 p3 p4 (k + 1)).length → K6 th p0 p1 p2 p3 p4 a (nI (k + 1)) g) → ((s_tap s).length + (fdL p0 p1 p2 p3 p4 20).length ≤ 200 → K62 th p0 p1 p2 p3 p4 0 g) → B_M_feed_6 Γ K6 K62 K th p0 p1 p2 p3 p4 (nI (fdL p0 p1 p2 p3 p4 k).length) (nI k) g from
      H _ _ (fun a hlt ha => ⟨100 + (20 - (k + 1)), by omega, rfl, rfl, rfl, rfl, rfl, rfl, rfl, k + 1, by omega, rfl, rfl, ha⟩)
        (fun hs => ⟨20, by omega, rfl, rfl, rfl, rfl, rfl, rfl, hs, 0, by omega, rfl, nj_0, FrL.rf, by rw [show fdL p0 p1 p2 p3 p4 0 = [] from rfl, List.append_nil, u_tap_id]; exact hI⟩)
    intro K6 K62 h6 h62
    have hadd : nI (s_tap s).length + nI (fdL p0 p1 p2 p3 p4 k).length = nI ((s_tap s).length + (fdL p0 p1 p2 p3 p4 k).length) := by unfold nI; rw [Int32.ofNat_add]
    have hcmp : (nI ((s_tap s).length + (fdL p0 p1 p2 p3 p4 k).length) ≤ (200 : Int32)) ↔ (s_tap s).length + (fdL p0 p1 p2 p3 p4 k).length ≤ 200 := nj_le (b := 200) (by omega) (by omega)
    unfold B_M_feed_6
    simp only [h20, hI.1.1, hI.tap.1, hadd, hcmp, true_and, Sp_M_byteOf, B_M_feed_35, forall_eq, nj_s]
    refine ⟨fun z => ?_, fun z => ⟨fun u => h6 _ (by omega) ?_, fun u => h6 _ (by omega) ?_⟩⟩
    · have : k = 20 := by omega
      subst this
      refine ⟨h62, fun u => ?_⟩
      have := hK g FrL.rf (by rw [if_neg u]; exact hI)
      rw [if_neg u] at this
      exact this
    · rw [fdL_s (by omega), if_pos u]; exact Int32.add_zero _
    · rw [fdL_s (by omega), if_neg u, List.length_append, List.length_singleton]
  · rintro n l0 l1 l2 l3 l4 l5 l7 g' ⟨rfl, rfl, rfl, rfl, rfl, rfl, hs, k, hk, rfl, rfl, hfx, hI'⟩
    have hle := fdL_le (a := p0) (b := p1) (c := p2) (d := p3) (f := p4) k hk
    have h20 : ((20 : Int32) ≤ nI k) ↔ 20 ≤ k := nj_le (a := 20) (by omega) (by omega)
    obtain ⟨hkd, hS⟩ := hI'.1
    have ht1 : Gi g' 1588 th = nI (s_tap s ++ fdL p0 p1 p2 p3 p4 k).length := hI'.tap.1
    obtain ⟨z_tape1, z_tape2, z_tape3, z_tape4, z_tape5⟩ := hS 1581 20 200 rfl
    suffices H : ∀ (K6 : Nat → Int32 → Int32 → Int32 → Int32 → Int32 → Int32 → Int32 → GH → Prop) (K62 : Nat → Int32 → Int32 → Int32 → Int32 → Int32 → Int32 → GH → Prop), (∀ g2, k < 20 → FrL th g g2 → RefI th ma g2 (u_tap s (s_tap s ++ fdL p0 p1 p2 p3 p4 (k + 1))) → K62 th p0 p1 p2 p3 p4 (nI (k + 1)) g2) → B_M_feed_62 Γ K6 K62 K th p0 p1 p2 p3 p4 (nI k) g' from
      H _ _ (fun g2 hlt h1 h2 => ⟨20 - (k + 1), by omega, rfl, rfl, rfl, rfl, rfl, rfl, hs, k + 1, by omega, rfl, rfl, h1, h2⟩)
    intro K6 K62 h62
    unfold B_M_feed_62
    rw [h20]
    refine ⟨fun z => ⟨hkd, ?_⟩, fun z => ?_⟩
    · have : k = 20 := by omega
      subst this
      have := hK g' hfx (by rw [if_pos hs]; exact hI')
      rw [if_pos hs] at this
      rw [ht1, List.length_append]
      exact this
    · have hlt : k < 20 := by omega
      have hfs := fdL_s (a := p0) (b := p1) (c := p2) (d := p3) (f := p4) hlt
      refine ⟨fun u => ?_, fun u => ?_⟩
      · unfold B_M_feed_109
        rw [nj_s]
        rw [if_pos u] at hfs
        exact h62 g' hlt hfx (by rw [hfs]; exact hI')
      · rw [if_neg u] at hfs
        have hm := fdL_mono (a := p0) (b := p1) (c := p2) (d := p3) (f := p4) (k := k + 1) (20 - (k + 1)) (by omega)
        rw [show k + 1 + (20 - (k + 1)) = 20 by omega, hfs, List.length_append, List.length_singleton] at hm
        have hlen : (s_tap s ++ fdL p0 p1 p2 p3 p4 k).length < 200 := by rw [List.length_append]; omega
        have hb := inB_nI hlen (by omega)
        have hp := tap_push (b := byB p0 p1 p2 p3 p4 (nI k)) hI' hlen
        have hnx := h62 _ hlt (hfx.tr ((FrL.sA (c := 1581) (by decide)).tr (FrL.sI (f := 1588) (by decide)))) (by rw [hfs, ← List.append_assoc]; exact hp)
        simp (decide := true) only [B_M_feed_109, Gi_sI, Gr_sI, Ia_sI, Ra_sI, La_sI, Kd_sI, Co_sI, Ow_sI, Ln_sI, Lq_sI, Hn_sI, Hu_sI, Gi_sR, Gr_sR, Ia_sR, Ra_sR, La_sR, Kd_sR, Co_sR, Ow_sR, Ln_sR, Lq_sR, Hn_sR, Hu_sR, Gi_sA, Gr_sA, Ia_sA, Ra_sA, La_sA, Kd_sA, Co_sA, Ow_sA, Ln_sA, Lq_sA, Hn_sA, Hu_sA, Gi_sRA, Gr_sRA, Ia_sRA, Ra_sRA, La_sRA, Kd_sRA, Co_sRA, Ow_sRA, Ln_sRA, Lq_sRA, Hn_sRA, Hu_sRA, Gi_sLA, Gr_sLA, Ia_sLA, Ra_sLA, La_sLA, Kd_sLA, Co_sLA, Ow_sLA, Ln_sLA, Lq_sLA, Hn_sLA, Hu_sLA, Gi_sAf, Gr_sAf, Ia_sAf, Ra_sAf, La_sAf, Kd_sAf, Co_sAf, Ow_sAf, Ln_sAf, Lq_sAf, Hn_sAf, Hu_sAf, Gi_sRAf, Gr_sRAf, Ia_sRAf, Ra_sRAf, La_sRAf, Kd_sRAf, Co_sRAf, Ow_sRAf, Ln_sRAf, Lq_sRAf, Hn_sRAf, Hu_sRAf, Gi_sLq, Gr_sLq, Ia_sLq, Ra_sLq, La_sLq, Kd_sLq, Co_sLq, Ow_sLq, Ln_sLq, Lq_sLq, Hn_sLq, Hu_sLq, Gi_nO, Gr_nO, Ia_nO, Ra_nO, La_nO, Kd_nO, Co_nO, Ow_nO, Ln_nO, Lq_nO, Hn_nO, Hu_nO, Gi_nX, Gr_nX, Ia_nX, Ra_nX, La_nX, Kd_nX, Co_nX, Ow_nX, Ln_nX, Lq_nX, Hn_nX, Hu_nX, Gi_nA, Gr_nA, Ia_nA, Ra_nA, La_nA, Kd_nA, Co_nA, Ow_nA, Ln_nA, Lq_nA, Hn_nA, Hu_nA, Gi_mv, Gr_mv, Ia_mv, Ra_mv, La_mv, Kd_mv, Co_mv, Ow_mv, Ln_mv, Lq_mv, Hn_mv, Hu_mv, z_tape1, z_tape2, z_tape3, z_tape4, z_tape5, hkd, ht1, hb, nj_s, nj_cl (show (s_tap s ++ fdL p0 p1 p2 p3 p4 k).length < 2147483648 by omega), forall_eq, true_and, Option.some.injEq, exists_eq_left', and_self, if_true, if_false]
        exact hnx
  · unfold B_M_feed_0
    exact ⟨_, rfl, rfl, rfl, rfl, rfl, rfl, rfl, 0, Nat.zero_le _, rfl, nj_0, rfl⟩
