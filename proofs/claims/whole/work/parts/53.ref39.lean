/-! the reference: law -/
theorem RefI.lawU {m : Nat} {ma : Nat → Nat} {g g' : GH} {s : ST} {L : List (Int32 × Int32 × Int32 × List Rl)} {T : List Int32} (h : RefI m ma g s) (hx : FrX m [1545, 1588] [1584, 1585, 1586, 1587, 1582] g g') (hL : R_law m g' L) (hT : R_tap m g' T) : RefI m ma g' (u_tap (u_law s L) T) := by
  have f : ∀ f, f ∉ [1545, 1588] → Gi g' f m = Gi g f m := fun f hf => hx.2.1 f hf
  have c : ∀ c, c ∉ [1584, 1585, 1586, 1587, 1582] → Ia g' c m = Ia g c m := fun c hc => hx.2.2 c hc
  refine ⟨hx.1.s h.1, (f _ (by decide)).trans h.now, (f _ (by decide)).trans h.siz, (f _ (by decide)).trans h.prs, (f _ (by decide)).trans h.stp, ?_, ?_, ?_, ?_, ?_, ?_, ?_, ?_, ?_, ?_, hT, hL, ?_, ?_, ?_, ?_⟩
  · have := h.vot; show R_vot m g' (s_vot s); unfold R_vot at this ⊢; rw [f _ (by decide), c _ (by decide), c _ (by decide), c _ (by decide)]; exact this
  · have := h.mov; show R_mov m g' (s_mov s); unfold R_mov at this ⊢; rw [f _ (by decide), c _ (by decide), c _ (by decide), c _ (by decide), c _ (by decide)]; exact this
  · have := h.env; show R_env m g' (s_env s); unfold R_env at this ⊢; rw [f _ (by decide), c _ (by decide), c _ (by decide), c _ (by decide), c _ (by decide)]; exact this
  · have := h.evt; show R_evt m g' (s_evt s); unfold R_evt at this ⊢; rw [f _ (by decide), c _ (by decide), c _ (by decide), c _ (by decide), c _ (by decide), c _ (by decide)]; exact this
  · have := h.emp; show R_emp m g' (s_emp s); unfold R_emp at this ⊢; rw [f _ (by decide), c _ (by decide), c _ (by decide), c _ (by decide), c _ (by decide)]; exact this
  · have := h.rea; show R_rea m g' (s_rea s); unfold R_rea at this ⊢; rw [f _ (by decide), c _ (by decide), c _ (by decide), c _ (by decide)]; exact this
  · have := h.tel; show R_tel m g' (s_tel s); unfold R_tel at this ⊢; rw [f _ (by decide), c _ (by decide), c _ (by decide), c _ (by decide), c _ (by decide)]; exact this
  · have := h.boo; show R_boo m g' (s_boo s); unfold R_boo at this ⊢; rw [f _ (by decide), c _ (by decide), c _ (by decide), c _ (by decide)]; exact this
  · have := h.wav; show R_wav m g' (s_wav s); unfold R_wav at this ⊢; rw [f _ (by decide), c _ (by decide), c _ (by decide), c _ (by decide)]; exact this
  · have := h.hea; show R_hea m g' (s_hea s); unfold R_hea at this ⊢; rw [f _ (by decide), c _ (by decide), c _ (by decide)]; exact this
  · have := h.hof; show R_hof m g' (s_hof s); unfold R_hof at this ⊢; rw [c _ (by decide)]; exact this
  · have := h.box; show R_box m g' (s_box s); unfold R_box at this ⊢; rw [c _ (by decide), c _ (by decide), c _ (by decide)]; exact this
  · have := h.roa; show R_roa m g' (s_roa s); unfold R_roa at this ⊢; rw [c _ (by decide)]; exact this
  · have := h.las; show R_las m g' (s_las s); unfold R_las at this ⊢; rw [c _ (by decide)]; exact this
abbrev ok_law (s : ST) (p0 p1 : Int32) : Prop := (0 ≤ p0 ∧ p0 ≤ 3) ∧ (0 ≤ p1 ∧ p1 ≤ 400) ∧ (s_law s).length ≠ 30
def p_law (s : ST) (p0 p1 : Int32) : Int32 := if ok_law s p0 p1 then (match pAll (s_tap s) with
  | .inl _ => -1
  | .inr _ => nI (s_law s).length) else -1
def q_law (s : ST) (p0 p1 : Int32) : ST := if ok_law s p0 p1 then (match pAll (s_tap s) with
  | .inl _ => s
  | .inr rs => u_tap (u_law s (s_law s ++ [(p0, p1, s_now s, rs)])) []) else s
def Sp_M_law (Γ : GAM) (m : Nat) (p0 p1 : Int32) (g : GH) (K : Int32 → GH → Prop) : Prop := ∃ ma s, RefI m ma g s ∧ WF s ∧ ∀ g', FrL m g g' → RefI m ma g' (q_law s p0 p1) → K (p_law s p0 p1) g'
-- the walk of M_law
set_option maxRecDepth 100000 in
def B_M_law_39 (Γ : GAM) (K39 : Nat → Int32 → Int32 → Int32 → GH → Prop) (K : Int32 → GH → Prop) (l0 : Nat) (l1 : Int32) (l2 : Int32) (l3 : Int32) (g : GH) : Prop :=
  Kd g l0 = 13 ∧ (((Gi g 1592 l0) ≤ l3 → Kd g l0 = 13 ∧ ∃ a1 : Nat, Gr g 1584 l0 = some a1 ∧ Kd g l0 = 13 ∧ Kd g a1 = 20 ∧ inB (Gi g 1545 l0) (Ln g a1) ∧ ∀ g2 : GH, g2 = sA g (Co g a1) (Ow g a1) (Gi g 1545 l0).toNatClampNeg l1 → Kd g2 l0 = 13 ∧ ∃ a3 : Nat, Gr g2 1585 l0 = some a3 ∧ Kd g2 l0 = 13 ∧ Kd g2 a3 = 20 ∧ inB (Gi g2 1545 l0) (Ln g2 a3) ∧ ∀ g4 : GH, g4 = sA g2 (Co g2 a3) (Ow g2 a3) (Gi g2 1545 l0).toNatClampNeg l2 → Kd g4 l0 = 13 ∧ ∃ a5 : Nat, Gr g4 1586 l0 = some a5 ∧ Kd g4 l0 = 13 ∧ Kd g4 l0 = 13 ∧ Kd g4 a5 = 20 ∧ inB (Gi g4 1545 l0) (Ln g4 a5) ∧ ∀ g6 : GH, g6 = sA g4 (Co g4 a5) (Ow g4 a5) (Gi g4 1545 l0).toNatClampNeg (Gi g4 1536 l0) → Kd g6 l0 = 13 ∧ ∃ a7 : Nat, Gr g6 1587 l0 = some a7 ∧ Kd g6 l0 = 13 ∧ Kd g6 l0 = 13 ∧ Kd g6 a7 = 20 ∧ inB (Gi g6 1545 l0) (Ln g6 a7) ∧ ∀ g8 : GH, g8 = sA g6 (Co g6 a7) (Ow g6 a7) (Gi g6 1545 l0).toNatClampNeg (Gi g6 1593 l0) → Kd g8 l0 = 13 ∧ Kd g8 l0 = 13 ∧ ∀ g9 : GH, g9 = sI g8 1545 l0 ((Gi g8 1545 l0) + (1 : Int32)) → Kd g9 l0 = 13 ∧ ∀ g10 : GH, g10 = sI g9 1588 l0 (0 : Int32) → Kd g10 l0 = 13 ∧ K ((Gi g10 1545 l0) - (1 : Int32)) g10) ∧ (¬ ((Gi g 1592 l0) ≤ l3) → Kd g l0 = 13 ∧ ∃ a11 : Nat, Gr g 1582 l0 = some a11 ∧ Kd g l0 = 13 ∧ Kd g l0 = 13 ∧ ∃ a12 : Nat, Gr g 1583 l0 = some a12 ∧ Kd g a12 = 20 ∧ inB l3 (Ln g a12) ∧ Kd g a11 = 20 ∧ inB (((520 : Int32) * (Gi g 1545 l0)) + l3) (Ln g a11) ∧ ∀ g13 : GH, g13 = sA g (Co g a11) (Ow g a11) (((520 : Int32) * (Gi g 1545 l0)) + l3).toNatClampNeg (Ia g (Co g a12) (Ow g a12) l3.toNatClampNeg) → K39 l0 l1 l2 (l3 + (1 : Int32)) g13))
set_option maxHeartbeats 4000000 in
set_option maxRecDepth 100000 in
theorem S_M_law_39 {Γ : GAM} {E : EV} {K : Int32 → GH → Prop} (hE : GE Γ E cX11_law 4 RX11 (some (.int)) 93 17062 (fun r g' => ∃ x, r = some (.int x) ∧ K x g')) {K39 : Nat → Int32 → Int32 → Int32 → GH → Prop} (hK39 : ∀ (l0 : Nat) (l1 : Int32) (l2 : Int32) (l3 : Int32) (g : GH), K39 l0 l1 l2 l3 g → JW Γ E 39 [some (.ref l0), some (.int l1), some (.int l2), some (.int l3)] [] g) (l0 : Nat) (l1 : Int32) (l2 : Int32) (l3 : Int32) (g : GH) (h : B_M_law_39 Γ K39 K l0 l1 l2 l3 g) : JW Γ E 39 [some (.ref l0), some (.int l1), some (.int l2), some (.int l3)] [] g := by
  unfold B_M_law_39 at h
  refine j_iload_n hE (by decide +kernel : decode cX11_law 39 = .ok (.iload_n 3, 1)) rfl rfl ?_
  refine j_aload_n hE (by decide +kernel : decode cX11_law 40 = .ok (.aload_n 0, 1)) rfl rfl ?_
  obtain ⟨hk, h⟩ := h
  refine j_getI hE fg_X11_307 hk (by decide +kernel : decode cX11_law 41 = .ok (.getfield 307, 3)) ?_
  refine j_icmp_ge hE (by decide +kernel : decode cX11_law 44 = .ok (.if_icmp .ge 30, 3)) (tgt := 74) (by decide) (fun q => ?_) (fun q => ?_)
  · replace h := h.1 q
    refine j_aload_n hE (by decide +kernel : decode cX11_law 74 = .ok (.aload_n 0, 1)) rfl rfl ?_
    obtain ⟨hk, h⟩ := h
    obtain ⟨a1, ha, h⟩ := h
    refine j_getRn hE fg_X11_114 hk ha (by decide +kernel : decode cX11_law 75 = .ok (.getfield 114, 3)) ?_
    refine j_aload_n hE (by decide +kernel : decode cX11_law 78 = .ok (.aload_n 0, 1)) rfl rfl ?_
    obtain ⟨hk, h⟩ := h
    refine j_getI hE fg_X11_364 hk (by decide +kernel : decode cX11_law 79 = .ok (.getfield 364, 3)) ?_
    refine j_iload_n hE (by decide +kernel : decode cX11_law 82 = .ok (.iload_n 1, 1)) rfl rfl ?_
    obtain ⟨hk, hb, h⟩ := h
    obtain ⟨g2, hg⟩ : ∃ z, z = sA g (Co g a1) (Ow g a1) (Gi g 1545 l0).toNatClampNeg l1 := ⟨_, rfl⟩; replace h := h g2 hg
    refine j_iast hE hk hb (by decide +kernel : decode cX11_law 83 = .ok (.iastore, 1)) ?_
    rw [← hg]
    refine j_aload_n hE (by decide +kernel : decode cX11_law 84 = .ok (.aload_n 0, 1)) rfl rfl ?_
    obtain ⟨hk, h⟩ := h
    obtain ⟨a3, ha, h⟩ := h
    refine j_getRn hE fg_X11_117 hk ha (by decide +kernel : decode cX11_law 85 = .ok (.getfield 117, 3)) ?_
    refine j_aload_n hE (by decide +kernel : decode cX11_law 88 = .ok (.aload_n 0, 1)) rfl rfl ?_
    obtain ⟨hk, h⟩ := h
    refine j_getI hE fg_X11_364 hk (by decide +kernel : decode cX11_law 89 = .ok (.getfield 364, 3)) ?_
    refine j_iload_n hE (by decide +kernel : decode cX11_law 92 = .ok (.iload_n 2, 1)) rfl rfl ?_
    obtain ⟨hk, hb, h⟩ := h
    obtain ⟨g4, hg⟩ : ∃ z, z = sA g2 (Co g2 a3) (Ow g2 a3) (Gi g2 1545 l0).toNatClampNeg l2 := ⟨_, rfl⟩; replace h := h g4 hg
    refine j_iast hE hk hb (by decide +kernel : decode cX11_law 93 = .ok (.iastore, 1)) ?_
    rw [← hg]
    refine j_aload_n hE (by decide +kernel : decode cX11_law 94 = .ok (.aload_n 0, 1)) rfl rfl ?_
    obtain ⟨hk, h⟩ := h
    obtain ⟨a5, ha, h⟩ := h
    refine j_getRn hE fg_X11_120 hk ha (by decide +kernel : decode cX11_law 95 = .ok (.getfield 120, 3)) ?_
    refine j_aload_n hE (by decide +kernel : decode cX11_law 98 = .ok (.aload_n 0, 1)) rfl rfl ?_
    obtain ⟨hk, h⟩ := h
    refine j_getI hE fg_X11_364 hk (by decide +kernel : decode cX11_law 99 = .ok (.getfield 364, 3)) ?_
    refine j_aload_n hE (by decide +kernel : decode cX11_law 102 = .ok (.aload_n 0, 1)) rfl rfl ?_
    obtain ⟨hk, h⟩ := h
    refine j_getI hE fg_X11_217 hk (by decide +kernel : decode cX11_law 103 = .ok (.getfield 217, 3)) ?_
    obtain ⟨hk, hb, h⟩ := h
    obtain ⟨g6, hg⟩ : ∃ z, z = sA g4 (Co g4 a5) (Ow g4 a5) (Gi g4 1545 l0).toNatClampNeg (Gi g4 1536 l0) := ⟨_, rfl⟩; replace h := h g6 hg
    refine j_iast hE hk hb (by decide +kernel : decode cX11_law 106 = .ok (.iastore, 1)) ?_
    rw [← hg]
    refine j_aload_n hE (by decide +kernel : decode cX11_law 107 = .ok (.aload_n 0, 1)) rfl rfl ?_
    obtain ⟨hk, h⟩ := h
    obtain ⟨a7, ha, h⟩ := h
    refine j_getRn hE fg_X11_123 hk ha (by decide +kernel : decode cX11_law 108 = .ok (.getfield 123, 3)) ?_
    refine j_aload_n hE (by decide +kernel : decode cX11_law 111 = .ok (.aload_n 0, 1)) rfl rfl ?_
    obtain ⟨hk, h⟩ := h
    refine j_getI hE fg_X11_364 hk (by decide +kernel : decode cX11_law 112 = .ok (.getfield 364, 3)) ?_
    refine j_aload_n hE (by decide +kernel : decode cX11_law 115 = .ok (.aload_n 0, 1)) rfl rfl ?_
    obtain ⟨hk, h⟩ := h
    refine j_getI hE fg_X11_358 hk (by decide +kernel : decode cX11_law 116 = .ok (.getfield 358, 3)) ?_
    obtain ⟨hk, hb, h⟩ := h
    obtain ⟨g8, hg⟩ : ∃ z, z = sA g6 (Co g6 a7) (Ow g6 a7) (Gi g6 1545 l0).toNatClampNeg (Gi g6 1593 l0) := ⟨_, rfl⟩; replace h := h g8 hg
    refine j_iast hE hk hb (by decide +kernel : decode cX11_law 119 = .ok (.iastore, 1)) ?_
    rw [← hg]
    refine j_aload_n hE (by decide +kernel : decode cX11_law 120 = .ok (.aload_n 0, 1)) rfl rfl ?_
    refine j_dup hE (by decide +kernel : decode cX11_law 121 = .ok (.dup, 1)) rfl ?_
    obtain ⟨hk, h⟩ := h
    refine j_getI hE fg_X11_364 hk (by decide +kernel : decode cX11_law 122 = .ok (.getfield 364, 3)) ?_
    refine j_iconst hE (by decide +kernel : decode cX11_law 125 = .ok (.iconst 1, 1)) (v := (1 : Int32)) (by decide) ?_
    refine j_iadd hE (by decide +kernel : decode cX11_law 126 = .ok (.iadd, 1)) ?_
    obtain ⟨hk, h⟩ := h
    obtain ⟨g9, hg⟩ : ∃ z, z = sI g8 1545 l0 ((Gi g8 1545 l0) + (1 : Int32)) := ⟨_, rfl⟩; replace h := h g9 hg
    refine j_putI hE fa_X11_364 hk (fun q => by cases q) (by decide +kernel : decode cX11_law 127 = .ok (.putfield 364, 3)) ?_
    rw [← hg]
    refine j_aload_n hE (by decide +kernel : decode cX11_law 130 = .ok (.aload_n 0, 1)) rfl rfl ?_
    refine j_iconst hE (by decide +kernel : decode cX11_law 131 = .ok (.iconst 0, 1)) (v := (0 : Int32)) (by decide) ?_
    obtain ⟨hk, h⟩ := h
    obtain ⟨g10, hg⟩ : ∃ z, z = sI g9 1588 l0 (0 : Int32) := ⟨_, rfl⟩; replace h := h g10 hg
    refine j_putI hE fa_X11_298 hk (fun q => by cases q) (by decide +kernel : decode cX11_law 132 = .ok (.putfield 298, 3)) ?_
    rw [← hg]
    refine j_aload_n hE (by decide +kernel : decode cX11_law 135 = .ok (.aload_n 0, 1)) rfl rfl ?_
    obtain ⟨hk, h⟩ := h
    refine j_getI hE fg_X11_364 hk (by decide +kernel : decode cX11_law 136 = .ok (.getfield 364, 3)) ?_
    refine j_iconst hE (by decide +kernel : decode cX11_law 139 = .ok (.iconst 1, 1)) (v := (1 : Int32)) (by decide) ?_
    refine j_isub hE (by decide +kernel : decode cX11_law 140 = .ok (.isub, 1)) ?_
    exact j_iret hE (by decide +kernel : decode cX11_law 141 = .ok (.ireturn, 1)) ⟨_, rfl, h⟩
  · replace h := h.2 q
    refine j_aload_n hE (by decide +kernel : decode cX11_law 47 = .ok (.aload_n 0, 1)) rfl rfl ?_
    obtain ⟨hk, h⟩ := h
    obtain ⟨a11, ha, h⟩ := h
    refine j_getRn hE fg_X11_108 hk ha (by decide +kernel : decode cX11_law 48 = .ok (.getfield 108, 3)) ?_
    refine j_sipush hE (by decide +kernel : decode cX11_law 51 = .ok (.sipush 520, 3)) (v := (520 : Int32)) (by decide) ?_
    refine j_aload_n hE (by decide +kernel : decode cX11_law 54 = .ok (.aload_n 0, 1)) rfl rfl ?_
    obtain ⟨hk, h⟩ := h
    refine j_getI hE fg_X11_364 hk (by decide +kernel : decode cX11_law 55 = .ok (.getfield 364, 3)) ?_
    refine j_imul hE (by decide +kernel : decode cX11_law 58 = .ok (.imul, 1)) ?_
    refine j_iload_n hE (by decide +kernel : decode cX11_law 59 = .ok (.iload_n 3, 1)) rfl rfl ?_
    refine j_iadd hE (by decide +kernel : decode cX11_law 60 = .ok (.iadd, 1)) ?_
    refine j_aload_n hE (by decide +kernel : decode cX11_law 61 = .ok (.aload_n 0, 1)) rfl rfl ?_
    obtain ⟨hk, h⟩ := h
    obtain ⟨a12, ha, h⟩ := h
    refine j_getRn hE fg_X11_111 hk ha (by decide +kernel : decode cX11_law 62 = .ok (.getfield 111, 3)) ?_
    refine j_iload_n hE (by decide +kernel : decode cX11_law 65 = .ok (.iload_n 3, 1)) rfl rfl ?_
    obtain ⟨hk, hb, h⟩ := h
    refine j_iald hE hk hb (by decide +kernel : decode cX11_law 66 = .ok (.iaload, 1)) ?_
    obtain ⟨hk, hb, h⟩ := h
    obtain ⟨g13, hg⟩ : ∃ z, z = sA g (Co g a11) (Ow g a11) (((520 : Int32) * (Gi g 1545 l0)) + l3).toNatClampNeg (Ia g (Co g a12) (Ow g a12) l3.toNatClampNeg) := ⟨_, rfl⟩; replace h := h g13 hg
    refine j_iast hE hk hb (by decide +kernel : decode cX11_law 67 = .ok (.iastore, 1)) ?_
    rw [← hg]
    refine j_iinc hE (by decide +kernel : decode cX11_law 68 = .ok (.iinc 3 1, 3)) (v := (1 : Int32)) (by decide) rfl (Nat.le_of_ble_eq_true rfl) rfl ?_
    refine j_goto hE (by decide +kernel : decode cX11_law 71 = .ok (.goto (-32), 3)) (tgt := 39) (by decide) ?_
    exact hK39 _ _ _ _ _ h
set_option maxRecDepth 100000 in
def B_M_law_35 (Γ : GAM) (K39 : Nat → Int32 → Int32 → Int32 → GH → Prop) (K : Int32 → GH → Prop)  (g : GH) : Prop :=
  K (-1 : Int32) g
set_option maxHeartbeats 4000000 in
set_option maxRecDepth 100000 in
theorem S_M_law_35 {Γ : GAM} {E : EV} {K : Int32 → GH → Prop} (hE : GE Γ E cX11_law 4 RX11 (some (.int)) 93 17062 (fun r g' => ∃ x, r = some (.int x) ∧ K x g')) {K39 : Nat → Int32 → Int32 → Int32 → GH → Prop} (hK39 : ∀ (l0 : Nat) (l1 : Int32) (l2 : Int32) (l3 : Int32) (g : GH), K39 l0 l1 l2 l3 g → JW Γ E 39 [some (.ref l0), some (.int l1), some (.int l2), some (.int l3)] [] g)  (g : GH) (h : B_M_law_35 Γ K39 K  g) : JW Γ E 35 [none, none, none, none] [] g := by
  unfold B_M_law_35 at h
  refine j_iconst hE (by decide +kernel : decode cX11_law 35 = .ok (.iconst (-1), 1)) (v := (-1 : Int32)) (by decide) ?_
  exact j_iret hE (by decide +kernel : decode cX11_law 36 = .ok (.ireturn, 1)) ⟨_, rfl, h⟩
set_option maxRecDepth 100000 in
def B_M_law_0 (Γ : GAM) (K39 : Nat → Int32 → Int32 → Int32 → GH → Prop) (K : Int32 → GH → Prop) (th : Nat) (p0 : Int32) (p1 : Int32) (g : GH) : Prop :=
  Sp_M_isShire Γ p0 g (fun (x2 : Int32) (g1 : GH) => ((x2 = 0 → B_M_law_35 Γ K39 K g1) ∧ (¬ (x2 = 0) → Sp_M_in Γ p1 (0 : Int32) (400 : Int32) g1 (fun (x4 : Int32) (g3 : GH) => ((x4 = 0 → B_M_law_35 Γ K39 K g3) ∧ (¬ (x4 = 0) → Kd g3 th = 13 ∧ (((Gi g3 1545 th) = (30 : Int32) → B_M_law_35 Γ K39 K g3) ∧ (¬ ((Gi g3 1545 th) = (30 : Int32)) → Kd g3 th = 13 ∧ Sp_M_fault Γ th g3 (fun (x6 : Int32) (g5 : GH) => ((x6 = (-1 : Int32) → K39 th p0 p1 (0 : Int32) g5) ∧ (¬ (x6 = (-1 : Int32)) → B_M_law_35 Γ K39 K g5)))))))))))
set_option maxHeartbeats 4000000 in
set_option maxRecDepth 100000 in
theorem S_M_law_0 {Γ : GAM} {E : EV} {K : Int32 → GH → Prop} (hE : GE Γ E cX11_law 4 RX11 (some (.int)) 93 17062 (fun r g' => ∃ x, r = some (.int x) ∧ K x g')) {K39 : Nat → Int32 → Int32 → Int32 → GH → Prop} (hK39 : ∀ (l0 : Nat) (l1 : Int32) (l2 : Int32) (l3 : Int32) (g : GH), K39 l0 l1 l2 l3 g → JW Γ E 39 [some (.ref l0), some (.int l1), some (.int l2), some (.int l3)] [] g) (th : Nat) (p0 : Int32) (p1 : Int32) (g : GH) (h : B_M_law_0 Γ K39 K th p0 p1 g) : JW Γ E 0 [some (.ref th), some (.int p0), some (.int p1), none] [] g := by
  unfold B_M_law_0 at h
  refine j_iload_n hE (by decide +kernel : decode cX11_law 0 = .ok (.iload_n 1, 1)) rfl rfl ?_
  refine j_callS hE rfl cl_X11_223 st_X11_isShire ⟨by omega, by omega⟩ (As := [.int p0]) (rest := []) rfl rfl (Nat.le_of_ble_eq_true rfl) (by decide +kernel : decode cX11_law 1 = .ok (.invokestatic 223, 3)) (mt_M_isShire _ _ _ h) ?_
  rintro _ g1 ⟨x2, rfl, h⟩
  refine j_if_eq hE (by decide +kernel : decode cX11_law 4 = .ok (.ifCond .eq 31, 3)) (tgt := 35) (by decide) (fun q => ?_) (fun q => ?_)
  · replace h := h.1 q
    refine j_weak [none, none, none, none] trivial ?_
    exact S_M_law_35 hE hK39 _ h
  · replace h := h.2 q
    refine j_iload_n hE (by decide +kernel : decode cX11_law 7 = .ok (.iload_n 2, 1)) rfl rfl ?_
    refine j_iconst hE (by decide +kernel : decode cX11_law 8 = .ok (.iconst 0, 1)) (v := (0 : Int32)) (by decide) ?_
    refine j_sipush hE (by decide +kernel : decode cX11_law 9 = .ok (.sipush 400, 3)) (v := (400 : Int32)) (by decide) ?_
    refine j_callS hE rfl cl_X11_213 st_X11_in ⟨by omega, by omega⟩ (As := [.int p1, .int (0 : Int32), .int (400 : Int32)]) (rest := []) rfl rfl (Nat.le_of_ble_eq_true rfl) (by decide +kernel : decode cX11_law 12 = .ok (.invokestatic 213, 3)) (mt_M_in _ _ _ _ _ h) ?_
    rintro _ g3 ⟨x4, rfl, h⟩
    refine j_if_eq hE (by decide +kernel : decode cX11_law 15 = .ok (.ifCond .eq 20, 3)) (tgt := 35) (by decide) (fun q => ?_) (fun q => ?_)
    · replace h := h.1 q
      refine j_weak [none, none, none, none] trivial ?_
      exact S_M_law_35 hE hK39 _ h
    · replace h := h.2 q
      refine j_aload_n hE (by decide +kernel : decode cX11_law 18 = .ok (.aload_n 0, 1)) rfl rfl ?_
      obtain ⟨hk, h⟩ := h
      refine j_getI hE fg_X11_364 hk (by decide +kernel : decode cX11_law 19 = .ok (.getfield 364, 3)) ?_
      refine j_bipush hE (by decide +kernel : decode cX11_law 22 = .ok (.bipush 30, 2)) (v := (30 : Int32)) (by decide) ?_
      refine j_icmp_eq hE (by decide +kernel : decode cX11_law 24 = .ok (.if_icmp .eq 11, 3)) (tgt := 35) (by decide) (fun q => ?_) (fun q => ?_)
      · replace h := h.1 q
        refine j_weak [none, none, none, none] trivial ?_
        exact S_M_law_35 hE hK39 _ h
      · replace h := h.2 q
        refine j_aload_n hE (by decide +kernel : decode cX11_law 27 = .ok (.aload_n 0, 1)) rfl rfl ?_
        obtain ⟨hk, h⟩ := h
        refine j_callV hE rfl cl_X11_367 cf_12 im_X11_fault se_X11_fault ⟨by omega, by omega⟩ (As := []) (rest := []) rfl rfl (Nat.le_of_ble_eq_true rfl) hk (by decide +kernel : decode cX11_law 28 = .ok (.invokevirtual 367, 3)) (mt_M_fault _ _ _ h) ?_
        rintro _ g5 ⟨x6, rfl, h⟩
        refine j_iconst hE (by decide +kernel : decode cX11_law 31 = .ok (.iconst (-1), 1)) (v := (-1 : Int32)) (by decide) ?_
        refine j_icmp_eq hE (by decide +kernel : decode cX11_law 32 = .ok (.if_icmp .eq 5, 3)) (tgt := 37) (by decide) (fun q => ?_) (fun q => ?_)
        · replace h := h.1 q
          refine j_iconst hE (by decide +kernel : decode cX11_law 37 = .ok (.iconst 0, 1)) (v := (0 : Int32)) (by decide) ?_
          refine j_istore_n hE (by decide +kernel : decode cX11_law 38 = .ok (.istore_n 3, 1)) rfl (Nat.le_of_ble_eq_true rfl) rfl ?_
          exact hK39 _ _ _ _ _ h
        · replace h := h.2 q
          refine j_weak [none, none, none, none] trivial ?_
          exact S_M_law_35 hE hK39 _ h
set_option maxHeartbeats 4000000 in
set_option maxRecDepth 100000 in
theorem rl_M_law {Γ : GAM} {l : Launch} {th : Nat} {p0 : Int32} {p1 : Int32} {g : GH} {K : Int32 → GH → Prop} (I39 : Nat → Nat → Int32 → Int32 → Int32 → GH → Prop) (hh39 : ∀ n (l0 : Nat) (l1 : Int32) (l2 : Int32) (l3 : Int32) (g : GH), I39 n l0 l1 l2 l3 g → B_M_law_39 Γ (fun l0 l1 l2 l3 g => ∃ m, m < n ∧ I39 m l0 l1 l2 l3 g) K l0 l1 l2 l3 g) (h0 : B_M_law_0 Γ (fun l0 l1 l2 l3 g => ∃ m, I39 m l0 l1 l2 l3 g) K th p0 p1 g) : MetA Γ l yX11_law cX11_law 4 (some (.int)) 93 17062 [.ref th, .int p0, .int p1] g (fun r g' => ∃ x, r = some (.int x) ∧ K x g') := by
  refine MetA.introL (Lx := [some (.ref th), some (.int p0), some (.int p1), none]) (by decide) (Nat.le_of_ble_eq_true rfl) rfl rfl ?_
  intro E hEl hE hnm
  have hall : ∀ n, (∀ (l0 : Nat) (l1 : Int32) (l2 : Int32) (l3 : Int32) (g : GH), I39 n l0 l1 l2 l3 g → JW Γ E 39 [some (.ref l0), some (.int l1), some (.int l2), some (.int l3)] [] g) := by
    intro n
    induction n using Nat.strongRecOn with
    | ind n ih =>
      exact fun l0 l1 l2 l3 g hi => S_M_law_39 hE (fun l0 l1 l2 l3 g hm => by obtain ⟨m, hm, h⟩ := hm; exact (ih m hm) l0 l1 l2 l3 g h) l0 l1 l2 l3 g (hh39 n l0 l1 l2 l3 g hi)
  exact S_M_law_0 hE (fun l0 l1 l2 l3 g hm => by obtain ⟨m, h⟩ := hm; exact (hall m) l0 l1 l2 l3 g h) th p0 p1 g h0
theorem mt_M_law {Γ : GAM} {l : Launch} (th : Nat) (p0 : Int32) (p1 : Int32) (g : GH) (K : Int32 → GH → Prop) (h : Sp_M_law Γ th p0 p1 g K) : MetA Γ l yX11_law cX11_law 4 (some (.int)) 93 17062 [.ref th, .int p0, .int p1] g (fun r g' => ∃ x, r = some (.int x) ∧ K x g') := by
  obtain ⟨ma, s, hI, hw, hK⟩ := h
  have hT := hw.len.2.2.2.2.2.2.2.2.1
  have hLn := hw.len.2.2.2.2.2.2.2.2.2.1
  have hkd := hI.1.1
  have hno : ¬ ok_law s p0 p1 → K (-1) g := fun hn => by
    have := hK g FrL.rf
    unfold p_law q_law at this
    rw [if_neg hn, if_neg hn] at this
    exact this hI
  refine rl_M_law (fun n l0 l1 l2 l3 g' => th = l0 ∧ p0 = l1 ∧ p1 = l2 ∧ ok_law s p0 p1 ∧ ∃ rs g5 j, pAll (s_tap s) = .inr rs ∧ FrL th g g5 ∧ RefI th ma g5 s ∧ FR th g5 (.inr rs) ∧ j ≤ (enL rs).length ∧ n = (enL rs).length - j ∧ l3 = nI j ∧ FrX th [] [1582] g5 g' ∧ (∀ x, x < 520 * (s_law s).length → Ia g' 1582 th x = Ia g5 1582 th x) ∧ ∀ i v, i < j → (enL rs)[i]? = some v → Ia g' 1582 th (520 * (s_law s).length + i) = v) ?_ ?_
  · rintro n l0 l1 l2 l3 g' ⟨rfl, rfl, rfl, hok, rs, g5, j, hall, hfm, hI5, hF, hj, rfl, rfl, hx, hlo, hhi⟩
    obtain ⟨f1, f2, f3, f4⟩ := hF
    obtain ⟨a1, a2, a3, a4⟩ := pAll_ok hT hall
    have hS5 := hx.1.s hI5.1
    obtain ⟨hkd', hS⟩ := hS5
    obtain ⟨w1, w2, w3⟩ := hI5.law
    have hL30 := hok.2.2
    obtain ⟨z_codes1, z_codes2, z_codes3, z_codes4, z_codes5⟩ := hS 1582 20 15600 rfl
    obtain ⟨z_saying1, z_saying2, z_saying3, z_saying4, z_saying5⟩ := hS 1583 20 520 rfl
    obtain ⟨z_lawShire1, z_lawShire2, z_lawShire3, z_lawShire4, z_lawShire5⟩ := hS 1584 20 30 rfl
    obtain ⟨z_lawDay1, z_lawDay2, z_lawDay3, z_lawDay4, z_lawDay5⟩ := hS 1585 20 30 rfl
    obtain ⟨z_lawTold1, z_lawTold2, z_lawTold3, z_lawTold4, z_lawTold5⟩ := hS 1586 20 30 rfl
    obtain ⟨z_lawRules1, z_lawRules2, z_lawRules3, z_lawRules4, z_lawRules5⟩ := hS 1587 20 30 rfl
    have e_said : Gi g' 1592 th = nI (enL rs).length := by rw [hx.2.1 _ (by decide)]; exact f2
    have e_laws : Gi g' 1545 th = nI (s_law s).length := by rw [hx.2.1 _ (by decide)]; exact w1
    have e_rm : Gi g' 1593 th = nI rs.length := by rw [hx.2.1 _ (by decide)]; exact f4
    have e_now : Gi g' 1536 th = s_now s := by rw [hx.2.1 _ (by decide)]; exact hI5.now
    suffices H : ∀ (K39 : Nat → Int32 → Int32 → Int32 → GH → Prop), (∀ g2, j < (enL rs).length → FrX th [] [1582] g5 g2 → (∀ x, x < 520 * (s_law s).length → Ia g2 1582 th x = Ia g5 1582 th x) → (∀ i v, i < j + 1 → (enL rs)[i]? = some v → Ia g2 1582 th (520 * (s_law s).length + i) = v) → K39 th p0 p1 (nI (j + 1)) g2) → B_M_law_39 Γ K39 K th p0 p1 (nI j) g' from
      H _ (fun g2 hlt h1 h2 h3 => ⟨(enL rs).length - (j + 1), by omega, rfl, rfl, rfl, hok, rs, g5, j + 1, hall, hfm, hI5, ⟨f1, f2, f3, f4⟩, hlt, rfl, rfl, h1, h2, h3⟩)
    intro K39 h39
    unfold B_M_law_39
    rw [e_said, nj_le (by omega) (by omega)]
    refine ⟨hkd', fun z => ?_, fun z => ?_⟩
    · have hje : j = (enL rs).length := by omega
      subst hje
      have hib : inB (nI (s_law s).length) 30 := inB_nI (by omega) (by omega)
      have hcl := nj_cl (show (s_law s).length < 2147483648 by omega)
      refine ⟨hkd', _, z_lawShire1, hkd', z_lawShire2, by rw [e_laws, z_lawShire5]; exact hib, ?_⟩
      rw [z_lawShire3, z_lawShire4, e_laws, hcl]
      intro g2 hg2
      have hx2 : FrX th [1545, 1588] [1584, 1585, 1586, 1587, 1582] g5 g2 := (hx.up (by decide) (by decide)).tr (by rw [hg2]; exact FrX.sA (by decide))
      obtain ⟨hkd2, hS2⟩ := hx2.1.s hI5.1
      have e2 : ∀ f, Gi g2 f th = Gi g' f th := fun f => by rw [hg2, Gi_sA]
      obtain ⟨z_lawDay1, z_lawDay2, z_lawDay3, z_lawDay4, z_lawDay5⟩ := hS2 1585 20 30 rfl
      refine ⟨hkd2, _, z_lawDay1, hkd2, z_lawDay2, by rw [e2, e_laws, z_lawDay5]; exact hib, ?_⟩
      rw [z_lawDay3, z_lawDay4, e2, e_laws, hcl]
      intro g4 hg4
      have hx4 : FrX th [1545, 1588] [1584, 1585, 1586, 1587, 1582] g5 g4 := hx2.tr (by rw [hg4]; exact FrX.sA (by decide))
      obtain ⟨hkd4, hS4⟩ := hx4.1.s hI5.1
      have e4 : ∀ f, Gi g4 f th = Gi g' f th := fun f => by rw [hg4, Gi_sA, e2]
      obtain ⟨z_lawTold1, z_lawTold2, z_lawTold3, z_lawTold4, z_lawTold5⟩ := hS4 1586 20 30 rfl
      refine ⟨hkd4, _, z_lawTold1, hkd4, hkd4, z_lawTold2, by rw [e4, e_laws, z_lawTold5]; exact hib, ?_⟩
      rw [z_lawTold3, z_lawTold4, e4, e_laws, hcl, e4, e_now]
      intro g6 hg6
      have hx6 : FrX th [1545, 1588] [1584, 1585, 1586, 1587, 1582] g5 g6 := hx4.tr (by rw [hg6]; exact FrX.sA (by decide))
      obtain ⟨hkd6, hS6⟩ := hx6.1.s hI5.1
      have e6 : ∀ f, Gi g6 f th = Gi g' f th := fun f => by rw [hg6, Gi_sA, e4]
      obtain ⟨z_lawRules1, z_lawRules2, z_lawRules3, z_lawRules4, z_lawRules5⟩ := hS6 1587 20 30 rfl
      refine ⟨hkd6, _, z_lawRules1, hkd6, hkd6, z_lawRules2, by rw [e6, e_laws, z_lawRules5]; exact hib, ?_⟩
      rw [z_lawRules3, z_lawRules4, e6, e_laws, hcl, e6, e_rm]
      intro g8 hg8
      have hx8 : FrX th [1545, 1588] [1584, 1585, 1586, 1587, 1582] g5 g8 := hx6.tr (by rw [hg8]; exact FrX.sA (by decide))
      have hkd8 := (hx8.1.s hI5.1).1
      have e8 : ∀ f, Gi g8 f th = Gi g' f th := fun f => by rw [hg8, Gi_sA, e6]
      refine ⟨hkd8, hkd8, ?_⟩
      rw [e8, e_laws, nj_s]
      intro g9 hg9
      have hx9 : FrX th [1545, 1588] [1584, 1585, 1586, 1587, 1582] g5 g9 := hx8.tr (by rw [hg9]; exact FrX.sI (by decide))
      refine ⟨(hx9.1.s hI5.1).1, fun g10 hg10 => ?_⟩
      have hx10 : FrX th [1545, 1588] [1584, 1585, 1586, 1587, 1582] g5 g10 := hx9.tr (by rw [hg10]; exact FrX.sI (by decide))
      have e10 : Gi g10 1545 th = nI ((s_law s).length + 1) := by rw [hg10, Gi_sI, if_neg (fun q => absurd q.1 (by decide)), hg9, Gi_sI, if_pos ⟨rfl, rfl⟩]
      have ia : ∀ c k, Ia g10 c th k = if c = 1584 ∧ k = (s_law s).length then p0 else if c = 1585 ∧ k = (s_law s).length then p1 else if c = 1586 ∧ k = (s_law s).length then s_now s else if c = 1587 ∧ k = (s_law s).length then nI rs.length else Ia g' c th k := fun c k => by
        rw [hg10, Ia_sI, hg9, Ia_sI, hg8, Ia_sA, hg6, Ia_sA, hg4, Ia_sA, hg2, Ia_sA]
        by_cases u : k = (s_law s).length
        · by_cases v1 : c = 1584
          · subst v1; simp [u]
          · by_cases v2 : c = 1585
            · subst v2; simp [u]
            · by_cases v3 : c = 1586
              · subst v3; simp [u]
              · by_cases v4 : c = 1587
                · subst v4; simp [u]
                · simp [u, v1, v2, v3, v4]
        · simp [u]
      have iL : ∀ c, c ≠ 1582 → Ia g' c th = Ia g5 c th := fun c hc => hx.2.2 c (by simpa using hc)
      refine ⟨(hx10.1.s hI5.1).1, ?_⟩
      have hK' := hK g10 (hfm.tr (hx10.l (by decide) (by decide)))
      unfold p_law q_law at hK'
      rw [if_pos hok, if_pos hok, hall] at hK'
      have h1 : nI ((s_law s).length + 1) - 1 = nI (s_law s).length := by rw [← nj_s]; exact Int32.add_sub_cancel _ _
      rw [e10, h1]
      refine hK' (hI5.lawU hx10 ⟨by rw [e10, List.length_append]; rfl, by rw [List.length_append]; simp only [List.length_cons, List.length_nil]; omega, fun k x hxk => ?_⟩ ⟨by rw [hg10, Gi_sI, if_pos ⟨rfl, rfl⟩]; rfl, Nat.zero_le _, fun k x hxk => by simp at hxk⟩)
      rw [List.getElem?_append] at hxk
      split at hxk
      · rename_i hk
        obtain ⟨b1, b2, b3, b4, b5, b6⟩ := w3 k x hxk
        have hne : ¬ k = (s_law s).length := by omega
        refine ⟨?_, ?_, ?_, ?_, b5, fun i v hv => ?_⟩
        · rw [ia]; simp only [hne, and_false, if_false]; rw [iL _ (by decide)]; exact b1
        · rw [ia]; simp only [hne, and_false, if_false]; rw [iL _ (by decide)]; exact b2
        · rw [ia]; simp only [hne, and_false, if_false]; rw [iL _ (by decide)]; exact b3
        · rw [ia]; simp only [hne, and_false, if_false]; rw [iL _ (by decide)]; exact b4
        · rw [ia]
          rw [if_neg (fun q => absurd q.1 (by decide)), if_neg (fun q => absurd q.1 (by decide)), if_neg (fun q => absurd q.1 (by decide)), if_neg (fun q => absurd q.1 (by decide))]
          have hi := (List.getElem?_eq_some_iff.mp hv).1
          rw [hlo _ (by omega)]
          exact b6 i v hv
      · have hk := (List.getElem?_eq_some_iff.mp hxk).1
        simp only [List.length_cons, List.length_nil] at hk
        have hke : k = (s_law s).length := by omega
        subst hke
        simp only [Nat.sub_self, List.getElem?_cons_zero, Option.some.injEq] at hxk
        subst hxk
        refine ⟨?_, ?_, ?_, ?_, by show (enL rs).length ≤ 520; omega, fun i v hv => ?_⟩
        · rw [ia]; simp
        · rw [ia]; simp
        · rw [ia]; simp
        · rw [ia]; simp
        · rw [ia]
          rw [if_neg (fun q => absurd q.1 (by decide)), if_neg (fun q => absurd q.1 (by decide)), if_neg (fun q => absurd q.1 (by decide)), if_neg (fun q => absurd q.1 (by decide))]
          exact hhi i v (List.getElem?_eq_some_iff.mp hv).1 hv
    · have hlt : j < (enL rs).length := by omega
      obtain ⟨v, hv⟩ := get_lt hlt
      have hidx : (520 : Int32) * nI (s_law s).length + nI j = nI (520 * (s_law s).length + j) := by
        have : (520 : Int32) = nI 520 := rfl
        rw [this, nj_mul, nI_add]
      refine ⟨hkd', _, z_codes1, hkd', hkd', _, z_saying1, z_saying2, by rw [z_saying5]; exact inB_nI (by omega) (by omega), z_codes2, by rw [e_laws, hidx, z_codes5]; exact inB_nI (by omega) (by omega), ?_⟩
      rw [z_codes3, z_codes4, z_saying3, z_saying4, e_laws, hidx, nj_cl (show j < 2147483648 by omega), nj_cl (show 520 * (s_law s).length + j < 2147483648 by omega), nj_s, hx.2.2 1583 (by decide), f3 j v hv]
      intro g13 hg13
      refine h39 g13 hlt (hx.tr (by rw [hg13]; exact FrX.sA (by decide))) (fun x hxl => ?_) (fun i w hi hw2 => ?_)
      · rw [hg13, Ia_sA, if_neg (fun q => by omega)]; exact hlo x hxl
      · rw [hg13, Ia_sA]
        by_cases u : i = j
        · subst u
          rw [hv] at hw2; cases hw2
          rw [if_pos ⟨rfl, rfl, rfl⟩]
        · rw [if_neg (fun q => u (by omega))]; exact hhi i w (by omega) hw2
  · unfold B_M_law_0 B_M_law_35 Sp_M_isShire Sp_M_in
    refine ⟨fun u => hno (fun q => by rw [if_pos q.1] at u; exact absurd u (by decide)), fun u => ⟨fun u2 => hno (fun q => by rw [if_pos q.2.1] at u2; exact absurd u2 (by decide)), fun u2 => ⟨hkd, ?_⟩⟩⟩
    have h30 : ((nI (s_law s).length : Int32) = (30 : Int32)) ↔ (s_law s).length = 30 := nj_eq (b := 30) (by omega) (by omega)
    rw [hI.law.1, h30]
    refine ⟨fun u3 => hno (fun q => q.2.2 u3), fun u3 => ⟨hkd, ma, s, hI, hw, fun g5 hx5 hF => ?_⟩⟩
    have hok : ok_law s p0 p1 := ⟨Classical.byContradiction (fun q => u (by rw [if_neg q])), Classical.byContradiction (fun q => u2 (by rw [if_neg q])), u3⟩
    have hI5 := hI.x hx5 (by decide +kernel)
    cases hall : pAll (s_tap s) with
    | inl e =>
      rw [hall] at hF
      have hp : p_fault s = nI e := by unfold p_fault; rw [hall]
      rw [hp]
      refine ⟨fun z => absurd z (nI_nm (by have := hF.2; omega)), fun _ => ?_⟩
      have := hK g5 (hx5.l (by decide) (by decide))
      unfold p_law q_law at this
      rw [if_pos hok, if_pos hok, hall] at this
      exact this hI5
    | inr rs =>
      rw [hall] at hF
      have hp : p_fault s = -1 := by unfold p_fault; rw [hall]
      rw [hp]
      exact ⟨fun _ => ⟨_, rfl, rfl, rfl, hok, rs, g5, 0, rfl, hx5.l (by decide) (by decide), hI5, hF, Nat.zero_le _, rfl, nj_0, FrX.rf, fun _ _ => rfl, fun i v hi => absurd hi (Nat.not_lt_zero _)⟩, fun z => absurd rfl z⟩
