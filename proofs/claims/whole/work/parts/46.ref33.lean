/-! the reference: open -/
abbrev opC (s : ST) (sh : Int32) (e : Nat) : Prop := (sCn s (s_vot s).length).1 e = some sh ∧ s_hof s e = 0
def opN (s : ST) (sh : Int32) (k : Nat) : Nat := (((List.range (s_env s).length).take k).filter (fun e => decide (opC s sh e))).length
abbrev ok_open (s : ST) (p0 : Int32) : Prop := (0 ≤ p0 ∧ p0 ≤ 3) ∧ (s_hea s).length ≠ 40 ∧ s_siz s ≤ nI (opN s p0 (s_env s).length)
def p_open (s : ST) (p0 : Int32) : Int32 := if ok_open s p0 then nI (s_hea s).length else -1
def opF (s : ST) (p0 : Int32) (k : Nat) (e : Nat) : Nat := if e < k ∧ opC s p0 e then (s_hea s).length + 1 else s_hof s e
def opU (s : ST) (p0 : Int32) (k : Nat) : ST := u_hof (u_hea s (s_hea s ++ [(p0, s_now s)])) (opF s p0 k)
def q_open (s : ST) (p0 : Int32) : ST := if ok_open s p0 then opU s p0 (s_env s).length else s
theorem RefI.hofU {m : Nat} {ma : Nat → Nat} {g g' : GH} {s : ST} {v : Nat → Nat} (h : RefI m ma g s) (hx : FrX m [] [1628] g g') (hh : ∀ e, e < 200 → Ia g' 1628 m e = nI (v e)) : RefI m ma g' (u_hof s v) := by
  have f : ∀ f, Gi g' f m = Gi g f m := fun f => hx.2.1 f (by simp)
  have c : ∀ c, c ≠ 1628 → Ia g' c m = Ia g c m := fun c hc => hx.2.2 c (by simpa using hc)
  refine ⟨hx.1.s h.1, (f _).trans (h.now.trans (s_now_u_hof s v).symm), (f _).trans (h.siz.trans (s_siz_u_hof s v).symm), (f _).trans (h.prs.trans (s_prs_u_hof s v).symm), (f _).trans (h.stp.trans (s_stp_u_hof s v).symm), ?_, ?_, ?_, ?_, ?_, ?_, ?_, ?_, ?_, ?_, ?_, ?_, ?_, ?_, ?_, ?_⟩
  · have := h.vot; rw [s_vot_u_hof]; unfold R_vot at this ⊢; rw [f, c _ (by decide), c _ (by decide), c _ (by decide)]; exact this
  · have := h.mov; rw [s_mov_u_hof]; unfold R_mov at this ⊢; rw [f, c _ (by decide), c _ (by decide), c _ (by decide), c _ (by decide)]; exact this
  · have := h.env; rw [s_env_u_hof]; unfold R_env at this ⊢; rw [f, c _ (by decide), c _ (by decide), c _ (by decide), c _ (by decide)]; exact this
  · have := h.evt; rw [s_evt_u_hof]; unfold R_evt at this ⊢; rw [f, c _ (by decide), c _ (by decide), c _ (by decide), c _ (by decide), c _ (by decide)]; exact this
  · have := h.emp; rw [s_emp_u_hof]; unfold R_emp at this ⊢; rw [f, c _ (by decide), c _ (by decide), c _ (by decide), c _ (by decide)]; exact this
  · have := h.rea; rw [s_rea_u_hof]; unfold R_rea at this ⊢; rw [f, c _ (by decide), c _ (by decide), c _ (by decide)]; exact this
  · have := h.tel; rw [s_tel_u_hof]; unfold R_tel at this ⊢; rw [f, c _ (by decide), c _ (by decide), c _ (by decide), c _ (by decide)]; exact this
  · have := h.boo; rw [s_boo_u_hof]; unfold R_boo at this ⊢; rw [f, c _ (by decide), c _ (by decide), c _ (by decide)]; exact this
  · have := h.wav; rw [s_wav_u_hof]; unfold R_wav at this ⊢; rw [f, c _ (by decide), c _ (by decide), c _ (by decide)]; exact this
  · have := h.hea; rw [s_hea_u_hof]; unfold R_hea at this ⊢; rw [f, c _ (by decide), c _ (by decide)]; exact this
  · have := h.tap; rw [s_tap_u_hof]; unfold R_tap at this ⊢; rw [f, c _ (by decide)]; exact this
  · have := h.law; rw [s_law_u_hof]; unfold R_law at this ⊢; rw [f, c _ (by decide), c _ (by decide), c _ (by decide), c _ (by decide), c _ (by decide)]; exact this
  · rw [s_hof_u_hof]; exact hh
  · have := h.box; rw [s_box_u_hof]; unfold R_box at this ⊢; rw [c _ (by decide), c _ (by decide), c _ (by decide)]; exact this
  · have := h.roa; rw [s_roa_u_hof]; unfold R_roa at this ⊢; rw [c _ (by decide)]; exact this
  · have := h.las; rw [s_las_u_hof]; unfold R_las at this ⊢; rw [c _ (by decide)]; exact this
theorem u_hof2 (s : ST) (v w : Nat → Nat) : u_hof (u_hof s v) w = u_hof s w := rfl
theorem opU_i {m : Nat} {ma : Nat → Nat} {g g' : GH} {s : ST} {p0 : Int32} {k : Nat} (h : RefI m ma g (opU s p0 k)) (hx : FrX m [] [1628] g g') (hh : ∀ e, e < 200 → Ia g' 1628 m e = if e < k + 1 ∧ opC s p0 e then nI ((s_hea s).length + 1) else nI (s_hof s e)) : RefI m ma g' (opU s p0 (k + 1)) := by
  unfold opU at h ⊢
  have := RefI.hofU (v := opF s p0 (k + 1)) h hx (fun e he => by
    rw [hh e he]
    unfold opF
    split <;> rfl)
  rw [u_hof2] at this
  exact this
def Sp_M_open (Γ : GAM) (m : Nat) (p0 : Int32) (g : GH) (K : Int32 → GH → Prop) : Prop := ∃ ma s, RefI m ma g s ∧ WF s ∧ ∀ g', FrL m g g' → RefI m ma g' (q_open s p0) → K (p_open s p0) g'
-- the walk of M_open
set_option maxRecDepth 100000 in
def B_M_open_168 (Γ : GAM) (K27 : Nat → Int32 → Int32 → Int32 → GH → Prop) (K122 : Nat → Int32 → Int32 → GH → Prop) (K : Int32 → GH → Prop) (l0 : Nat) (l1 : Int32) (l3 : Int32) (g : GH) : Prop :=
  K122 l0 l1 (l3 + (1 : Int32)) g
set_option maxHeartbeats 4000000 in
set_option maxRecDepth 100000 in
theorem S_M_open_168 {Γ : GAM} {E : EV} {K : Int32 → GH → Prop} (hE : GE Γ E cX11_open 4 RX11 (some (.int)) 9 226 (fun r g' => ∃ x, r = some (.int x) ∧ K x g')) {K27 : Nat → Int32 → Int32 → Int32 → GH → Prop} {K122 : Nat → Int32 → Int32 → GH → Prop} (hK27 : ∀ (l0 : Nat) (l1 : Int32) (l2 : Int32) (l3 : Int32) (g : GH), K27 l0 l1 l2 l3 g → JW Γ E 27 [some (.ref l0), some (.int l1), some (.int l2), some (.int l3)] [] g) (hK122 : ∀ (l0 : Nat) (l1 : Int32) (l3 : Int32) (g : GH), K122 l0 l1 l3 g → JW Γ E 122 [some (.ref l0), some (.int l1), none, some (.int l3)] [] g) (l0 : Nat) (l1 : Int32) (l3 : Int32) (g : GH) (h : B_M_open_168 Γ K27 K122 K l0 l1 l3 g) : JW Γ E 168 [some (.ref l0), some (.int l1), none, some (.int l3)] [] g := by
  unfold B_M_open_168 at h
  refine j_iinc hE (by decide +kernel : decode cX11_open 168 = .ok (.iinc 3 1, 3)) (v := (1 : Int32)) (by decide) rfl (Nat.le_of_ble_eq_true rfl) rfl ?_
  refine j_goto hE (by decide +kernel : decode cX11_open 171 = .ok (.goto (-49), 3)) (tgt := 122) (by decide) ?_
  exact hK122 _ _ _ _ h
set_option maxRecDepth 100000 in
def B_M_open_122 (Γ : GAM) (K27 : Nat → Int32 → Int32 → Int32 → GH → Prop) (K122 : Nat → Int32 → Int32 → GH → Prop) (K : Int32 → GH → Prop) (l0 : Nat) (l1 : Int32) (l3 : Int32) (g : GH) : Prop :=
  Kd g l0 = 13 ∧ (((Gi g 1539 l0) ≤ l3 → Kd g l0 = 13 ∧ K ((Gi g 1547 l0) - (1 : Int32)) g) ∧ (¬ ((Gi g 1539 l0) ≤ l3) → Kd g l0 = 13 ∧ ∃ a1 : Nat, Gr g 1607 l0 = some a1 ∧ Kd g a1 = 21 ∧ inB l3 (Ln g a1) ∧ (((Ia g (Co g a1) (Ow g a1) l3.toNatClampNeg) = 0 → B_M_open_168 Γ K27 K122 K l0 l1 l3 g) ∧ (¬ ((Ia g (Co g a1) (Ow g a1) l3.toNatClampNeg) = 0) → Kd g l0 = 13 ∧ ∃ a2 : Nat, Gr g 1608 l0 = some a2 ∧ Kd g a2 = 20 ∧ inB l3 (Ln g a2) ∧ ((¬ ((Ia g (Co g a2) (Ow g a2) l3.toNatClampNeg) = l1) → B_M_open_168 Γ K27 K122 K l0 l1 l3 g) ∧ ((Ia g (Co g a2) (Ow g a2) l3.toNatClampNeg) = l1 → Kd g l0 = 13 ∧ ∃ a3 : Nat, Gr g 1628 l0 = some a3 ∧ Kd g a3 = 20 ∧ inB l3 (Ln g a3) ∧ ((¬ ((Ia g (Co g a3) (Ow g a3) l3.toNatClampNeg) = 0) → B_M_open_168 Γ K27 K122 K l0 l1 l3 g) ∧ ((Ia g (Co g a3) (Ow g a3) l3.toNatClampNeg) = 0 → Kd g l0 = 13 ∧ ∃ a4 : Nat, Gr g 1628 l0 = some a4 ∧ Kd g l0 = 13 ∧ Kd g a4 = 20 ∧ inB l3 (Ln g a4) ∧ ∀ g5 : GH, g5 = sA g (Co g a4) (Ow g a4) l3.toNatClampNeg (Gi g 1547 l0) → B_M_open_168 Γ K27 K122 K l0 l1 l3 g5))))))))
set_option maxHeartbeats 4000000 in
set_option maxRecDepth 100000 in
theorem S_M_open_122 {Γ : GAM} {E : EV} {K : Int32 → GH → Prop} (hE : GE Γ E cX11_open 4 RX11 (some (.int)) 9 226 (fun r g' => ∃ x, r = some (.int x) ∧ K x g')) {K27 : Nat → Int32 → Int32 → Int32 → GH → Prop} {K122 : Nat → Int32 → Int32 → GH → Prop} (hK27 : ∀ (l0 : Nat) (l1 : Int32) (l2 : Int32) (l3 : Int32) (g : GH), K27 l0 l1 l2 l3 g → JW Γ E 27 [some (.ref l0), some (.int l1), some (.int l2), some (.int l3)] [] g) (hK122 : ∀ (l0 : Nat) (l1 : Int32) (l3 : Int32) (g : GH), K122 l0 l1 l3 g → JW Γ E 122 [some (.ref l0), some (.int l1), none, some (.int l3)] [] g) (l0 : Nat) (l1 : Int32) (l3 : Int32) (g : GH) (h : B_M_open_122 Γ K27 K122 K l0 l1 l3 g) : JW Γ E 122 [some (.ref l0), some (.int l1), none, some (.int l3)] [] g := by
  unfold B_M_open_122 at h
  refine j_iload_n hE (by decide +kernel : decode cX11_open 122 = .ok (.iload_n 3, 1)) rfl rfl ?_
  refine j_aload_n hE (by decide +kernel : decode cX11_open 123 = .ok (.aload_n 0, 1)) rfl rfl ?_
  obtain ⟨hk, h⟩ := h
  refine j_getI hE fg_X11_241 hk (by decide +kernel : decode cX11_open 124 = .ok (.getfield 241, 3)) ?_
  refine j_icmp_ge hE (by decide +kernel : decode cX11_open 127 = .ok (.if_icmp .ge 47, 3)) (tgt := 174) (by decide) (fun q => ?_) (fun q => ?_)
  · replace h := h.1 q
    refine j_aload_n hE (by decide +kernel : decode cX11_open 174 = .ok (.aload_n 0, 1)) rfl rfl ?_
    obtain ⟨hk, h⟩ := h
    refine j_getI hE fg_X11_449 hk (by decide +kernel : decode cX11_open 175 = .ok (.getfield 449, 3)) ?_
    refine j_iconst hE (by decide +kernel : decode cX11_open 178 = .ok (.iconst 1, 1)) (v := (1 : Int32)) (by decide) ?_
    refine j_isub hE (by decide +kernel : decode cX11_open 179 = .ok (.isub, 1)) ?_
    exact j_iret hE (by decide +kernel : decode cX11_open 180 = .ok (.ireturn, 1)) ⟨_, rfl, h⟩
  · replace h := h.2 q
    refine j_aload_n hE (by decide +kernel : decode cX11_open 130 = .ok (.aload_n 0, 1)) rfl rfl ?_
    obtain ⟨hk, h⟩ := h
    obtain ⟨a1, ha, h⟩ := h
    refine j_getRn hE fg_X11_147 hk ha (by decide +kernel : decode cX11_open 131 = .ok (.getfield 147, 3)) ?_
    refine j_iload_n hE (by decide +kernel : decode cX11_open 134 = .ok (.iload_n 3, 1)) rfl rfl ?_
    obtain ⟨hk, hb, h⟩ := h
    refine j_zald hE hk hb (by decide +kernel : decode cX11_open 135 = .ok (.baload, 1)) ?_
    refine j_if_eq hE (by decide +kernel : decode cX11_open 136 = .ok (.ifCond .eq 32, 3)) (tgt := 168) (by decide) (fun q => ?_) (fun q => ?_)
    · replace h := h.1 q
      exact S_M_open_168 hE hK27 hK122 _ _ _ _ h
    · replace h := h.2 q
      refine j_aload_n hE (by decide +kernel : decode cX11_open 139 = .ok (.aload_n 0, 1)) rfl rfl ?_
      obtain ⟨hk, h⟩ := h
      obtain ⟨a2, ha, h⟩ := h
      refine j_getRn hE fg_X11_150 hk ha (by decide +kernel : decode cX11_open 140 = .ok (.getfield 150, 3)) ?_
      refine j_iload_n hE (by decide +kernel : decode cX11_open 143 = .ok (.iload_n 3, 1)) rfl rfl ?_
      obtain ⟨hk, hb, h⟩ := h
      refine j_iald hE hk hb (by decide +kernel : decode cX11_open 144 = .ok (.iaload, 1)) ?_
      refine j_iload_n hE (by decide +kernel : decode cX11_open 145 = .ok (.iload_n 1, 1)) rfl rfl ?_
      refine j_icmp_ne hE (by decide +kernel : decode cX11_open 146 = .ok (.if_icmp .ne 22, 3)) (tgt := 168) (by decide) (fun q => ?_) (fun q => ?_)
      · replace h := h.1 q
        exact S_M_open_168 hE hK27 hK122 _ _ _ _ h
      · replace h := h.2 q
        refine j_aload_n hE (by decide +kernel : decode cX11_open 149 = .ok (.aload_n 0, 1)) rfl rfl ?_
        obtain ⟨hk, h⟩ := h
        obtain ⟨a3, ha, h⟩ := h
        refine j_getRn hE fg_X11_204 hk ha (by decide +kernel : decode cX11_open 150 = .ok (.getfield 204, 3)) ?_
        refine j_iload_n hE (by decide +kernel : decode cX11_open 153 = .ok (.iload_n 3, 1)) rfl rfl ?_
        obtain ⟨hk, hb, h⟩ := h
        refine j_iald hE hk hb (by decide +kernel : decode cX11_open 154 = .ok (.iaload, 1)) ?_
        refine j_if_ne hE (by decide +kernel : decode cX11_open 155 = .ok (.ifCond .ne 13, 3)) (tgt := 168) (by decide) (fun q => ?_) (fun q => ?_)
        · replace h := h.1 q
          exact S_M_open_168 hE hK27 hK122 _ _ _ _ h
        · replace h := h.2 q
          refine j_aload_n hE (by decide +kernel : decode cX11_open 158 = .ok (.aload_n 0, 1)) rfl rfl ?_
          obtain ⟨hk, h⟩ := h
          obtain ⟨a4, ha, h⟩ := h
          refine j_getRn hE fg_X11_204 hk ha (by decide +kernel : decode cX11_open 159 = .ok (.getfield 204, 3)) ?_
          refine j_iload_n hE (by decide +kernel : decode cX11_open 162 = .ok (.iload_n 3, 1)) rfl rfl ?_
          refine j_aload_n hE (by decide +kernel : decode cX11_open 163 = .ok (.aload_n 0, 1)) rfl rfl ?_
          obtain ⟨hk, h⟩ := h
          refine j_getI hE fg_X11_449 hk (by decide +kernel : decode cX11_open 164 = .ok (.getfield 449, 3)) ?_
          obtain ⟨hk, hb, h⟩ := h
          obtain ⟨g5, hg⟩ : ∃ z, z = sA g (Co g a4) (Ow g a4) l3.toNatClampNeg (Gi g 1547 l0) := ⟨_, rfl⟩; replace h := h g5 hg
          refine j_iast hE hk hb (by decide +kernel : decode cX11_open 167 = .ok (.iastore, 1)) ?_
          rw [← hg]
          exact S_M_open_168 hE hK27 hK122 _ _ _ _ h
set_option maxRecDepth 100000 in
def B_M_open_69 (Γ : GAM) (K27 : Nat → Int32 → Int32 → Int32 → GH → Prop) (K122 : Nat → Int32 → Int32 → GH → Prop) (K : Int32 → GH → Prop) (l0 : Nat) (l1 : Int32) (l3 : Int32) (s0 : Int32) (s1 : Int32) (g : GH) : Prop :=
  ∀ x1 : Int32, x1 = (s1 + s0) → K27 l0 l1 x1 (l3 + (1 : Int32)) g
set_option maxHeartbeats 4000000 in
set_option maxRecDepth 100000 in
theorem S_M_open_69 {Γ : GAM} {E : EV} {K : Int32 → GH → Prop} (hE : GE Γ E cX11_open 4 RX11 (some (.int)) 9 226 (fun r g' => ∃ x, r = some (.int x) ∧ K x g')) {K27 : Nat → Int32 → Int32 → Int32 → GH → Prop} {K122 : Nat → Int32 → Int32 → GH → Prop} (hK27 : ∀ (l0 : Nat) (l1 : Int32) (l2 : Int32) (l3 : Int32) (g : GH), K27 l0 l1 l2 l3 g → JW Γ E 27 [some (.ref l0), some (.int l1), some (.int l2), some (.int l3)] [] g) (hK122 : ∀ (l0 : Nat) (l1 : Int32) (l3 : Int32) (g : GH), K122 l0 l1 l3 g → JW Γ E 122 [some (.ref l0), some (.int l1), none, some (.int l3)] [] g) (l0 : Nat) (l1 : Int32) (l3 : Int32) (s0 : Int32) (s1 : Int32) (g : GH) (h : B_M_open_69 Γ K27 K122 K l0 l1 l3 s0 s1 g) : JW Γ E 69 [some (.ref l0), some (.int l1), none, some (.int l3)] [.int s0, .int s1] g := by
  unfold B_M_open_69 at h
  refine j_iadd hE (by decide +kernel : decode cX11_open 69 = .ok (.iadd, 1)) ?_
  obtain ⟨x1, hx⟩ : ∃ z, z = (s1 + s0) := ⟨_, rfl⟩; replace h := h x1 hx; rw [← hx]
  refine j_istore_n hE (by decide +kernel : decode cX11_open 70 = .ok (.istore_n 2, 1)) rfl (Nat.le_of_ble_eq_true rfl) rfl ?_
  refine j_iinc hE (by decide +kernel : decode cX11_open 71 = .ok (.iinc 3 1, 3)) (v := (1 : Int32)) (by decide) rfl (Nat.le_of_ble_eq_true rfl) rfl ?_
  refine j_goto hE (by decide +kernel : decode cX11_open 74 = .ok (.goto (-47), 3)) (tgt := 27) (by decide) ?_
  exact hK27 _ _ _ _ _ h
set_option maxRecDepth 100000 in
def B_M_open_68 (Γ : GAM) (K27 : Nat → Int32 → Int32 → Int32 → GH → Prop) (K122 : Nat → Int32 → Int32 → GH → Prop) (K : Int32 → GH → Prop) (l0 : Nat) (l1 : Int32) (l3 : Int32) (s0 : Int32) (g : GH) : Prop :=
  B_M_open_69 Γ K27 K122 K l0 l1 l3 (0 : Int32) s0 g
set_option maxHeartbeats 4000000 in
set_option maxRecDepth 100000 in
theorem S_M_open_68 {Γ : GAM} {E : EV} {K : Int32 → GH → Prop} (hE : GE Γ E cX11_open 4 RX11 (some (.int)) 9 226 (fun r g' => ∃ x, r = some (.int x) ∧ K x g')) {K27 : Nat → Int32 → Int32 → Int32 → GH → Prop} {K122 : Nat → Int32 → Int32 → GH → Prop} (hK27 : ∀ (l0 : Nat) (l1 : Int32) (l2 : Int32) (l3 : Int32) (g : GH), K27 l0 l1 l2 l3 g → JW Γ E 27 [some (.ref l0), some (.int l1), some (.int l2), some (.int l3)] [] g) (hK122 : ∀ (l0 : Nat) (l1 : Int32) (l3 : Int32) (g : GH), K122 l0 l1 l3 g → JW Γ E 122 [some (.ref l0), some (.int l1), none, some (.int l3)] [] g) (l0 : Nat) (l1 : Int32) (l3 : Int32) (s0 : Int32) (g : GH) (h : B_M_open_68 Γ K27 K122 K l0 l1 l3 s0 g) : JW Γ E 68 [some (.ref l0), some (.int l1), none, some (.int l3)] [.int s0] g := by
  unfold B_M_open_68 at h
  refine j_iconst hE (by decide +kernel : decode cX11_open 68 = .ok (.iconst 0, 1)) (v := (0 : Int32)) (by decide) ?_
  exact S_M_open_69 hE hK27 hK122 _ _ _ _ _ _ h
set_option maxRecDepth 100000 in
def B_M_open_27 (Γ : GAM) (K27 : Nat → Int32 → Int32 → Int32 → GH → Prop) (K122 : Nat → Int32 → Int32 → GH → Prop) (K : Int32 → GH → Prop) (l0 : Nat) (l1 : Int32) (l2 : Int32) (l3 : Int32) (g : GH) : Prop :=
  Kd g l0 = 13 ∧ (((Gi g 1539 l0) ≤ l3 → Kd g l0 = 13 ∧ (((Gi g 1548 l0) ≤ l2 → Kd g l0 = 13 ∧ ∃ a1 : Nat, Gr g 1629 l0 = some a1 ∧ Kd g l0 = 13 ∧ Kd g a1 = 20 ∧ inB (Gi g 1547 l0) (Ln g a1) ∧ ∀ g2 : GH, g2 = sA g (Co g a1) (Ow g a1) (Gi g 1547 l0).toNatClampNeg l1 → Kd g2 l0 = 13 ∧ ∃ a3 : Nat, Gr g2 1630 l0 = some a3 ∧ Kd g2 l0 = 13 ∧ Kd g2 l0 = 13 ∧ Kd g2 a3 = 20 ∧ inB (Gi g2 1547 l0) (Ln g2 a3) ∧ ∀ g4 : GH, g4 = sA g2 (Co g2 a3) (Ow g2 a3) (Gi g2 1547 l0).toNatClampNeg (Gi g2 1536 l0) → Kd g4 l0 = 13 ∧ Kd g4 l0 = 13 ∧ ∀ g5 : GH, g5 = sI g4 1547 l0 ((Gi g4 1547 l0) + (1 : Int32)) → K122 l0 l1 (0 : Int32) g5) ∧ (¬ ((Gi g 1548 l0) ≤ l2) → K (-1 : Int32) g))) ∧ (¬ ((Gi g 1539 l0) ≤ l3) → Kd g l0 = 13 ∧ ∃ a6 : Nat, Gr g 1607 l0 = some a6 ∧ Kd g a6 = 21 ∧ inB l3 (Ln g a6) ∧ (((Ia g (Co g a6) (Ow g a6) l3.toNatClampNeg) = 0 → B_M_open_68 Γ K27 K122 K l0 l1 l3 l2 g) ∧ (¬ ((Ia g (Co g a6) (Ow g a6) l3.toNatClampNeg) = 0) → Kd g l0 = 13 ∧ ∃ a7 : Nat, Gr g 1608 l0 = some a7 ∧ Kd g a7 = 20 ∧ inB l3 (Ln g a7) ∧ ((¬ ((Ia g (Co g a7) (Ow g a7) l3.toNatClampNeg) = l1) → B_M_open_68 Γ K27 K122 K l0 l1 l3 l2 g) ∧ ((Ia g (Co g a7) (Ow g a7) l3.toNatClampNeg) = l1 → Kd g l0 = 13 ∧ ∃ a8 : Nat, Gr g 1628 l0 = some a8 ∧ Kd g a8 = 20 ∧ inB l3 (Ln g a8) ∧ ((¬ ((Ia g (Co g a8) (Ow g a8) l3.toNatClampNeg) = 0) → B_M_open_68 Γ K27 K122 K l0 l1 l3 l2 g) ∧ ((Ia g (Co g a8) (Ow g a8) l3.toNatClampNeg) = 0 → B_M_open_69 Γ K27 K122 K l0 l1 l3 (1 : Int32) l2 g))))))))
set_option maxHeartbeats 4000000 in
set_option maxRecDepth 100000 in
theorem S_M_open_27 {Γ : GAM} {E : EV} {K : Int32 → GH → Prop} (hE : GE Γ E cX11_open 4 RX11 (some (.int)) 9 226 (fun r g' => ∃ x, r = some (.int x) ∧ K x g')) {K27 : Nat → Int32 → Int32 → Int32 → GH → Prop} {K122 : Nat → Int32 → Int32 → GH → Prop} (hK27 : ∀ (l0 : Nat) (l1 : Int32) (l2 : Int32) (l3 : Int32) (g : GH), K27 l0 l1 l2 l3 g → JW Γ E 27 [some (.ref l0), some (.int l1), some (.int l2), some (.int l3)] [] g) (hK122 : ∀ (l0 : Nat) (l1 : Int32) (l3 : Int32) (g : GH), K122 l0 l1 l3 g → JW Γ E 122 [some (.ref l0), some (.int l1), none, some (.int l3)] [] g) (l0 : Nat) (l1 : Int32) (l2 : Int32) (l3 : Int32) (g : GH) (h : B_M_open_27 Γ K27 K122 K l0 l1 l2 l3 g) : JW Γ E 27 [some (.ref l0), some (.int l1), some (.int l2), some (.int l3)] [] g := by
  unfold B_M_open_27 at h
  refine j_iload_n hE (by decide +kernel : decode cX11_open 27 = .ok (.iload_n 3, 1)) rfl rfl ?_
  refine j_aload_n hE (by decide +kernel : decode cX11_open 28 = .ok (.aload_n 0, 1)) rfl rfl ?_
  obtain ⟨hk, h⟩ := h
  refine j_getI hE fg_X11_241 hk (by decide +kernel : decode cX11_open 29 = .ok (.getfield 241, 3)) ?_
  refine j_icmp_ge hE (by decide +kernel : decode cX11_open 32 = .ok (.if_icmp .ge 45, 3)) (tgt := 77) (by decide) (fun q => ?_) (fun q => ?_)
  · replace h := h.1 q
    refine j_iload_n hE (by decide +kernel : decode cX11_open 77 = .ok (.iload_n 2, 1)) rfl rfl ?_
    refine j_aload_n hE (by decide +kernel : decode cX11_open 78 = .ok (.aload_n 0, 1)) rfl rfl ?_
    obtain ⟨hk, h⟩ := h
    refine j_getI hE fg_X11_7 hk (by decide +kernel : decode cX11_open 79 = .ok (.getfield 7, 3)) ?_
    refine j_icmp_ge hE (by decide +kernel : decode cX11_open 82 = .ok (.if_icmp .ge 5, 3)) (tgt := 87) (by decide) (fun q => ?_) (fun q => ?_)
    · replace h := h.1 q
      refine j_aload_n hE (by decide +kernel : decode cX11_open 87 = .ok (.aload_n 0, 1)) rfl rfl ?_
      obtain ⟨hk, h⟩ := h
      obtain ⟨a1, ha, h⟩ := h
      refine j_getRn hE fg_X11_207 hk ha (by decide +kernel : decode cX11_open 88 = .ok (.getfield 207, 3)) ?_
      refine j_aload_n hE (by decide +kernel : decode cX11_open 91 = .ok (.aload_n 0, 1)) rfl rfl ?_
      obtain ⟨hk, h⟩ := h
      refine j_getI hE fg_X11_449 hk (by decide +kernel : decode cX11_open 92 = .ok (.getfield 449, 3)) ?_
      refine j_iload_n hE (by decide +kernel : decode cX11_open 95 = .ok (.iload_n 1, 1)) rfl rfl ?_
      obtain ⟨hk, hb, h⟩ := h
      obtain ⟨g2, hg⟩ : ∃ z, z = sA g (Co g a1) (Ow g a1) (Gi g 1547 l0).toNatClampNeg l1 := ⟨_, rfl⟩; replace h := h g2 hg
      refine j_iast hE hk hb (by decide +kernel : decode cX11_open 96 = .ok (.iastore, 1)) ?_
      rw [← hg]
      refine j_aload_n hE (by decide +kernel : decode cX11_open 97 = .ok (.aload_n 0, 1)) rfl rfl ?_
      obtain ⟨hk, h⟩ := h
      obtain ⟨a3, ha, h⟩ := h
      refine j_getRn hE fg_X11_210 hk ha (by decide +kernel : decode cX11_open 98 = .ok (.getfield 210, 3)) ?_
      refine j_aload_n hE (by decide +kernel : decode cX11_open 101 = .ok (.aload_n 0, 1)) rfl rfl ?_
      obtain ⟨hk, h⟩ := h
      refine j_getI hE fg_X11_449 hk (by decide +kernel : decode cX11_open 102 = .ok (.getfield 449, 3)) ?_
      refine j_aload_n hE (by decide +kernel : decode cX11_open 105 = .ok (.aload_n 0, 1)) rfl rfl ?_
      obtain ⟨hk, h⟩ := h
      refine j_getI hE fg_X11_217 hk (by decide +kernel : decode cX11_open 106 = .ok (.getfield 217, 3)) ?_
      obtain ⟨hk, hb, h⟩ := h
      obtain ⟨g4, hg⟩ : ∃ z, z = sA g2 (Co g2 a3) (Ow g2 a3) (Gi g2 1547 l0).toNatClampNeg (Gi g2 1536 l0) := ⟨_, rfl⟩; replace h := h g4 hg
      refine j_iast hE hk hb (by decide +kernel : decode cX11_open 109 = .ok (.iastore, 1)) ?_
      rw [← hg]
      refine j_aload_n hE (by decide +kernel : decode cX11_open 110 = .ok (.aload_n 0, 1)) rfl rfl ?_
      refine j_dup hE (by decide +kernel : decode cX11_open 111 = .ok (.dup, 1)) rfl ?_
      obtain ⟨hk, h⟩ := h
      refine j_getI hE fg_X11_449 hk (by decide +kernel : decode cX11_open 112 = .ok (.getfield 449, 3)) ?_
      refine j_iconst hE (by decide +kernel : decode cX11_open 115 = .ok (.iconst 1, 1)) (v := (1 : Int32)) (by decide) ?_
      refine j_iadd hE (by decide +kernel : decode cX11_open 116 = .ok (.iadd, 1)) ?_
      obtain ⟨hk, h⟩ := h
      obtain ⟨g5, hg⟩ : ∃ z, z = sI g4 1547 l0 ((Gi g4 1547 l0) + (1 : Int32)) := ⟨_, rfl⟩; replace h := h g5 hg
      refine j_putI hE fa_X11_449 hk (fun q => by cases q) (by decide +kernel : decode cX11_open 117 = .ok (.putfield 449, 3)) ?_
      rw [← hg]
      refine j_iconst hE (by decide +kernel : decode cX11_open 120 = .ok (.iconst 0, 1)) (v := (0 : Int32)) (by decide) ?_
      refine j_istore_n hE (by decide +kernel : decode cX11_open 121 = .ok (.istore_n 3, 1)) rfl (Nat.le_of_ble_eq_true rfl) rfl ?_
      refine j_weak [some (.ref l0), some (.int l1), none, some (.int (0 : Int32))] ⟨rfl, ⟨rfl, ⟨rfl, trivial⟩⟩⟩ ?_
      exact hK122 _ _ _ _ h
    · replace h := h.2 q
      refine j_iconst hE (by decide +kernel : decode cX11_open 85 = .ok (.iconst (-1), 1)) (v := (-1 : Int32)) (by decide) ?_
      exact j_iret hE (by decide +kernel : decode cX11_open 86 = .ok (.ireturn, 1)) ⟨_, rfl, h⟩
  · replace h := h.2 q
    refine j_iload_n hE (by decide +kernel : decode cX11_open 35 = .ok (.iload_n 2, 1)) rfl rfl ?_
    refine j_aload_n hE (by decide +kernel : decode cX11_open 36 = .ok (.aload_n 0, 1)) rfl rfl ?_
    obtain ⟨hk, h⟩ := h
    obtain ⟨a6, ha, h⟩ := h
    refine j_getRn hE fg_X11_147 hk ha (by decide +kernel : decode cX11_open 37 = .ok (.getfield 147, 3)) ?_
    refine j_iload_n hE (by decide +kernel : decode cX11_open 40 = .ok (.iload_n 3, 1)) rfl rfl ?_
    obtain ⟨hk, hb, h⟩ := h
    refine j_zald hE hk hb (by decide +kernel : decode cX11_open 41 = .ok (.baload, 1)) ?_
    refine j_if_eq hE (by decide +kernel : decode cX11_open 42 = .ok (.ifCond .eq 26, 3)) (tgt := 68) (by decide) (fun q => ?_) (fun q => ?_)
    · replace h := h.1 q
      refine j_weak [some (.ref l0), some (.int l1), none, some (.int l3)] ⟨rfl, ⟨rfl, ⟨rfl, trivial⟩⟩⟩ ?_
      exact S_M_open_68 hE hK27 hK122 _ _ _ _ _ h
    · replace h := h.2 q
      refine j_aload_n hE (by decide +kernel : decode cX11_open 45 = .ok (.aload_n 0, 1)) rfl rfl ?_
      obtain ⟨hk, h⟩ := h
      obtain ⟨a7, ha, h⟩ := h
      refine j_getRn hE fg_X11_150 hk ha (by decide +kernel : decode cX11_open 46 = .ok (.getfield 150, 3)) ?_
      refine j_iload_n hE (by decide +kernel : decode cX11_open 49 = .ok (.iload_n 3, 1)) rfl rfl ?_
      obtain ⟨hk, hb, h⟩ := h
      refine j_iald hE hk hb (by decide +kernel : decode cX11_open 50 = .ok (.iaload, 1)) ?_
      refine j_iload_n hE (by decide +kernel : decode cX11_open 51 = .ok (.iload_n 1, 1)) rfl rfl ?_
      refine j_icmp_ne hE (by decide +kernel : decode cX11_open 52 = .ok (.if_icmp .ne 16, 3)) (tgt := 68) (by decide) (fun q => ?_) (fun q => ?_)
      · replace h := h.1 q
        refine j_weak [some (.ref l0), some (.int l1), none, some (.int l3)] ⟨rfl, ⟨rfl, ⟨rfl, trivial⟩⟩⟩ ?_
        exact S_M_open_68 hE hK27 hK122 _ _ _ _ _ h
      · replace h := h.2 q
        refine j_aload_n hE (by decide +kernel : decode cX11_open 55 = .ok (.aload_n 0, 1)) rfl rfl ?_
        obtain ⟨hk, h⟩ := h
        obtain ⟨a8, ha, h⟩ := h
        refine j_getRn hE fg_X11_204 hk ha (by decide +kernel : decode cX11_open 56 = .ok (.getfield 204, 3)) ?_
        refine j_iload_n hE (by decide +kernel : decode cX11_open 59 = .ok (.iload_n 3, 1)) rfl rfl ?_
        obtain ⟨hk, hb, h⟩ := h
        refine j_iald hE hk hb (by decide +kernel : decode cX11_open 60 = .ok (.iaload, 1)) ?_
        refine j_if_ne hE (by decide +kernel : decode cX11_open 61 = .ok (.ifCond .ne 7, 3)) (tgt := 68) (by decide) (fun q => ?_) (fun q => ?_)
        · replace h := h.1 q
          refine j_weak [some (.ref l0), some (.int l1), none, some (.int l3)] ⟨rfl, ⟨rfl, ⟨rfl, trivial⟩⟩⟩ ?_
          exact S_M_open_68 hE hK27 hK122 _ _ _ _ _ h
        · replace h := h.2 q
          refine j_iconst hE (by decide +kernel : decode cX11_open 64 = .ok (.iconst 1, 1)) (v := (1 : Int32)) (by decide) ?_
          refine j_goto hE (by decide +kernel : decode cX11_open 65 = .ok (.goto 4, 3)) (tgt := 69) (by decide) ?_
          refine j_weak [some (.ref l0), some (.int l1), none, some (.int l3)] ⟨rfl, ⟨rfl, ⟨rfl, trivial⟩⟩⟩ ?_
          exact S_M_open_69 hE hK27 hK122 _ _ _ _ _ _ h
set_option maxRecDepth 100000 in
def B_M_open_16 (Γ : GAM) (K27 : Nat → Int32 → Int32 → Int32 → GH → Prop) (K122 : Nat → Int32 → Int32 → GH → Prop) (K : Int32 → GH → Prop)  (g : GH) : Prop :=
  K (-1 : Int32) g
set_option maxHeartbeats 4000000 in
set_option maxRecDepth 100000 in
theorem S_M_open_16 {Γ : GAM} {E : EV} {K : Int32 → GH → Prop} (hE : GE Γ E cX11_open 4 RX11 (some (.int)) 9 226 (fun r g' => ∃ x, r = some (.int x) ∧ K x g')) {K27 : Nat → Int32 → Int32 → Int32 → GH → Prop} {K122 : Nat → Int32 → Int32 → GH → Prop} (hK27 : ∀ (l0 : Nat) (l1 : Int32) (l2 : Int32) (l3 : Int32) (g : GH), K27 l0 l1 l2 l3 g → JW Γ E 27 [some (.ref l0), some (.int l1), some (.int l2), some (.int l3)] [] g) (hK122 : ∀ (l0 : Nat) (l1 : Int32) (l3 : Int32) (g : GH), K122 l0 l1 l3 g → JW Γ E 122 [some (.ref l0), some (.int l1), none, some (.int l3)] [] g)  (g : GH) (h : B_M_open_16 Γ K27 K122 K  g) : JW Γ E 16 [none, none, none, none] [] g := by
  unfold B_M_open_16 at h
  refine j_iconst hE (by decide +kernel : decode cX11_open 16 = .ok (.iconst (-1), 1)) (v := (-1 : Int32)) (by decide) ?_
  exact j_iret hE (by decide +kernel : decode cX11_open 17 = .ok (.ireturn, 1)) ⟨_, rfl, h⟩
set_option maxRecDepth 100000 in
def B_M_open_0 (Γ : GAM) (K27 : Nat → Int32 → Int32 → Int32 → GH → Prop) (K122 : Nat → Int32 → Int32 → GH → Prop) (K : Int32 → GH → Prop) (th : Nat) (p0 : Int32) (g : GH) : Prop :=
  Sp_M_isShire Γ p0 g (fun (x2 : Int32) (g1 : GH) => ((x2 = 0 → B_M_open_16 Γ K27 K122 K g1) ∧ (¬ (x2 = 0) → Kd g1 th = 13 ∧ ((¬ ((Gi g1 1547 th) = (40 : Int32)) → Kd g1 th = 13 ∧ Sp_M_findCounted Γ th g1 (fun (x4 : Int32) (g3 : GH) => K27 th p0 (0 : Int32) (0 : Int32) g3)) ∧ ((Gi g1 1547 th) = (40 : Int32) → B_M_open_16 Γ K27 K122 K g1)))))
set_option maxHeartbeats 4000000 in
set_option maxRecDepth 100000 in
theorem S_M_open_0 {Γ : GAM} {E : EV} {K : Int32 → GH → Prop} (hE : GE Γ E cX11_open 4 RX11 (some (.int)) 9 226 (fun r g' => ∃ x, r = some (.int x) ∧ K x g')) {K27 : Nat → Int32 → Int32 → Int32 → GH → Prop} {K122 : Nat → Int32 → Int32 → GH → Prop} (hK27 : ∀ (l0 : Nat) (l1 : Int32) (l2 : Int32) (l3 : Int32) (g : GH), K27 l0 l1 l2 l3 g → JW Γ E 27 [some (.ref l0), some (.int l1), some (.int l2), some (.int l3)] [] g) (hK122 : ∀ (l0 : Nat) (l1 : Int32) (l3 : Int32) (g : GH), K122 l0 l1 l3 g → JW Γ E 122 [some (.ref l0), some (.int l1), none, some (.int l3)] [] g) (th : Nat) (p0 : Int32) (g : GH) (h : B_M_open_0 Γ K27 K122 K th p0 g) : JW Γ E 0 [some (.ref th), some (.int p0), none, none] [] g := by
  unfold B_M_open_0 at h
  refine j_iload_n hE (by decide +kernel : decode cX11_open 0 = .ok (.iload_n 1, 1)) rfl rfl ?_
  refine j_callS hE rfl cl_X11_223 st_X11_isShire ⟨by omega, by omega⟩ (As := [.int p0]) (rest := []) rfl rfl (Nat.le_of_ble_eq_true rfl) (by decide +kernel : decode cX11_open 1 = .ok (.invokestatic 223, 3)) (mt_M_isShire _ _ _ h) ?_
  rintro _ g1 ⟨x2, rfl, h⟩
  refine j_if_eq hE (by decide +kernel : decode cX11_open 4 = .ok (.ifCond .eq 12, 3)) (tgt := 16) (by decide) (fun q => ?_) (fun q => ?_)
  · replace h := h.1 q
    refine j_weak [none, none, none, none] trivial ?_
    exact S_M_open_16 hE hK27 hK122 _ h
  · replace h := h.2 q
    refine j_aload_n hE (by decide +kernel : decode cX11_open 7 = .ok (.aload_n 0, 1)) rfl rfl ?_
    obtain ⟨hk, h⟩ := h
    refine j_getI hE fg_X11_449 hk (by decide +kernel : decode cX11_open 8 = .ok (.getfield 449, 3)) ?_
    refine j_bipush hE (by decide +kernel : decode cX11_open 11 = .ok (.bipush 40, 2)) (v := (40 : Int32)) (by decide) ?_
    refine j_icmp_ne hE (by decide +kernel : decode cX11_open 13 = .ok (.if_icmp .ne 5, 3)) (tgt := 18) (by decide) (fun q => ?_) (fun q => ?_)
    · replace h := h.1 q
      refine j_aload_n hE (by decide +kernel : decode cX11_open 18 = .ok (.aload_n 0, 1)) rfl rfl ?_
      obtain ⟨hk, h⟩ := h
      refine j_callV hE rfl cl_X11_452 cf_12 im_X11_findCounted se_X11_findCounted ⟨by omega, by omega⟩ (As := []) (rest := []) rfl rfl (Nat.le_of_ble_eq_true rfl) hk (by decide +kernel : decode cX11_open 19 = .ok (.invokevirtual 452, 3)) (mt_M_findCounted _ _ _ h) ?_
      rintro _ g3 ⟨x4, rfl, h⟩
      refine j_pop hE (by decide +kernel : decode cX11_open 22 = .ok (.pop, 1)) rfl ?_
      refine j_iconst hE (by decide +kernel : decode cX11_open 23 = .ok (.iconst 0, 1)) (v := (0 : Int32)) (by decide) ?_
      refine j_istore_n hE (by decide +kernel : decode cX11_open 24 = .ok (.istore_n 2, 1)) rfl (Nat.le_of_ble_eq_true rfl) rfl ?_
      refine j_iconst hE (by decide +kernel : decode cX11_open 25 = .ok (.iconst 0, 1)) (v := (0 : Int32)) (by decide) ?_
      refine j_istore_n hE (by decide +kernel : decode cX11_open 26 = .ok (.istore_n 3, 1)) rfl (Nat.le_of_ble_eq_true rfl) rfl ?_
      exact hK27 _ _ _ _ _ h
    · replace h := h.2 q
      refine j_weak [none, none, none, none] trivial ?_
      exact S_M_open_16 hE hK27 hK122 _ h
set_option maxHeartbeats 4000000 in
set_option maxRecDepth 100000 in
theorem rl_M_open {Γ : GAM} {l : Launch} {th : Nat} {p0 : Int32} {g : GH} {K : Int32 → GH → Prop} (I27 : Nat → Nat → Int32 → Int32 → Int32 → GH → Prop) (I122 : Nat → Nat → Int32 → Int32 → GH → Prop) (hh27 : ∀ n (l0 : Nat) (l1 : Int32) (l2 : Int32) (l3 : Int32) (g : GH), I27 n l0 l1 l2 l3 g → B_M_open_27 Γ (fun l0 l1 l2 l3 g => ∃ m, m < n ∧ I27 m l0 l1 l2 l3 g) (fun l0 l1 l3 g => ∃ m, m < n ∧ I122 m l0 l1 l3 g) K l0 l1 l2 l3 g) (hh122 : ∀ n (l0 : Nat) (l1 : Int32) (l3 : Int32) (g : GH), I122 n l0 l1 l3 g → B_M_open_122 Γ (fun l0 l1 l2 l3 g => ∃ m, m < n ∧ I27 m l0 l1 l2 l3 g) (fun l0 l1 l3 g => ∃ m, m < n ∧ I122 m l0 l1 l3 g) K l0 l1 l3 g) (h0 : B_M_open_0 Γ (fun l0 l1 l2 l3 g => ∃ m, I27 m l0 l1 l2 l3 g) (fun l0 l1 l3 g => ∃ m, I122 m l0 l1 l3 g) K th p0 g) : MetA Γ l yX11_open cX11_open 4 (some (.int)) 9 226 [.ref th, .int p0] g (fun r g' => ∃ x, r = some (.int x) ∧ K x g') := by
  refine MetA.introL (Lx := [some (.ref th), some (.int p0), none, none]) (by decide) (Nat.le_of_ble_eq_true rfl) rfl rfl ?_
  intro E hEl hE hnm
  have hall : ∀ n, (∀ (l0 : Nat) (l1 : Int32) (l2 : Int32) (l3 : Int32) (g : GH), I27 n l0 l1 l2 l3 g → JW Γ E 27 [some (.ref l0), some (.int l1), some (.int l2), some (.int l3)] [] g) ∧ (∀ (l0 : Nat) (l1 : Int32) (l3 : Int32) (g : GH), I122 n l0 l1 l3 g → JW Γ E 122 [some (.ref l0), some (.int l1), none, some (.int l3)] [] g) := by
    intro n
    induction n using Nat.strongRecOn with
    | ind n ih =>
      exact ⟨fun l0 l1 l2 l3 g hi => S_M_open_27 hE (fun l0 l1 l2 l3 g hm => by obtain ⟨m, hm, h⟩ := hm; exact (ih m hm).1 l0 l1 l2 l3 g h) (fun l0 l1 l3 g hm => by obtain ⟨m, hm, h⟩ := hm; exact (ih m hm).2 l0 l1 l3 g h) l0 l1 l2 l3 g (hh27 n l0 l1 l2 l3 g hi), fun l0 l1 l3 g hi => S_M_open_122 hE (fun l0 l1 l2 l3 g hm => by obtain ⟨m, hm, h⟩ := hm; exact (ih m hm).1 l0 l1 l2 l3 g h) (fun l0 l1 l3 g hm => by obtain ⟨m, hm, h⟩ := hm; exact (ih m hm).2 l0 l1 l3 g h) l0 l1 l3 g (hh122 n l0 l1 l3 g hi)⟩
  exact S_M_open_0 hE (fun l0 l1 l2 l3 g hm => by obtain ⟨m, h⟩ := hm; exact (hall m).1 l0 l1 l2 l3 g h) (fun l0 l1 l3 g hm => by obtain ⟨m, h⟩ := hm; exact (hall m).2 l0 l1 l3 g h) th p0 g h0
theorem mt_M_open {Γ : GAM} {l : Launch} (th : Nat) (p0 : Int32) (g : GH) (K : Int32 → GH → Prop) (h : Sp_M_open Γ th p0 g K) : MetA Γ l yX11_open cX11_open 4 (some (.int)) 9 226 [.ref th, .int p0] g (fun r g' => ∃ x, r = some (.int x) ∧ K x g') := by
  obtain ⟨ma, s, hI, hw, hK⟩ := h
  have hN := hw.len.2.2.1
  have hH := hw.len.2.2.2.2.2.2.2.2.2.2.2
  have hkd := hI.1.1
  have hno : ∀ g', FrX th [1569, 1570, 1595, 1602] [1594, 1596, 1597, 1598, 1599, 1600, 1601, 1607, 1608] g g' → ¬ ok_open s p0 → K (-1) g' := fun g' hx hn => by
    have := hK g' (hx.l (by decide) (by decide))
    unfold p_open q_open at this
    rw [if_neg hn, if_neg hn] at this
    exact this (hI.x hx (by decide +kernel))
  have hopl : ∀ k, k ≤ (s_env s).length → opN s p0 k ≤ k := fun k hk => by
    have := List.length_filter_le (fun e => decide (opC s p0 e)) ((List.range (s_env s).length).take k)
    rw [List.length_take] at this; unfold opN; omega
  refine rl_M_open (fun n l0 l1 l2 l3 g' => th = l0 ∧ p0 = l1 ∧ (0 ≤ p0 ∧ p0 ≤ 3) ∧ (s_hea s).length ≠ 40 ∧ ∃ k, k ≤ (s_env s).length ∧ n = 1000 + ((s_env s).length - k) ∧ l3 = nI k ∧ FrX th [1569, 1570, 1595, 1602] [1594, 1596, 1597, 1598, 1599, 1600, 1601, 1607, 1608] g g' ∧ CN th g' s (s_vot s).length ∧ l2 = nI (opN s p0 k))
    (fun n l0 l1 l3 g' => th = l0 ∧ p0 = l1 ∧ ok_open s p0 ∧ ∃ k, k ≤ (s_env s).length ∧ n = (s_env s).length - k ∧ l3 = nI k ∧ FrL th g g' ∧ CN th g' s (s_vot s).length ∧ RefI th ma g' (opU s p0 k)) ?_ ?_ ?_
  · rintro n l0 l1 l2 l3 g' ⟨rfl, rfl, hok1, hok2, k, hk, rfl, rfl, hfx, hC, rfl⟩
    have hI' := hI.x hfx (by decide +kernel)
    obtain ⟨hkd', hS⟩ := hI'.1
    obtain ⟨z_counted1, z_counted2, z_counted3, z_counted4, z_counted5⟩ := hS 1607 21 200 rfl
    obtain ⟨z_countedShire1, z_countedShire2, z_countedShire3, z_countedShire4, z_countedShire5⟩ := hS 1608 20 200 rfl
    obtain ⟨z_heapOf1, z_heapOf2, z_heapOf3, z_heapOf4, z_heapOf5⟩ := hS 1628 20 200 rfl
    obtain ⟨z_heapShire1, z_heapShire2, z_heapShire3, z_heapShire4, z_heapShire5⟩ := hS 1629 20 40 rfl
    suffices H : ∀ (K27 : Nat → Int32 → Int32 → Int32 → GH → Prop) (K122 : Nat → Int32 → Int32 → GH → Prop), (k < (s_env s).length → K27 th p0 (nI (opN s p0 (k + 1))) (nI (k + 1)) g') → (∀ g2, ok_open s p0 → FrL th g g2 → CN th g2 s (s_vot s).length → RefI th ma g2 (opU s p0 0) → K122 th p0 0 g2) → B_M_open_27 Γ K27 K122 K th p0 (nI (opN s p0 k)) (nI k) g' from
      H _ _ (fun hlt => ⟨1000 + ((s_env s).length - (k + 1)), by omega, rfl, rfl, hok1, hok2, k + 1, by omega, rfl, rfl, hfx, hC, rfl⟩) (fun g2 h1 h2 h3 h4 => ⟨(s_env s).length - 0, by omega, rfl, rfl, h1, 0, Nat.zero_le _, rfl, nj_0, h2, h3, h4⟩)
    intro K27 K122 h27 h122
    have hst : k < (s_env s).length → opN s p0 (k + 1) = opN s p0 k + if opC s p0 k then 1 else 0 := fun hlt => by
      unfold opN
      rw [List.take_succ, List.filter_append, range_get hlt, List.length_append]
      congr 1
      by_cases q : opC s p0 k <;> simp [q]
    unfold B_M_open_27
    rw [hI'.env.1, hI'.siz, hI'.hea.1, nj_le (show (s_env s).length < 2147483648 by omega) (show k < 2147483648 by omega)]
    refine ⟨hkd', fun z => ⟨hkd', fun u => ?_, fun u => ?_⟩, fun z => ?_⟩
    · have hke : k = (s_env s).length := by omega
      subst hke
      have hok : ok_open s p0 := ⟨hok1, hok2, u⟩
      have hib : inB (nI (s_hea s).length) 40 := inB_nI (by omega) (by omega)
      have hch := nj_cl (show (s_hea s).length < 2147483648 by omega)
      refine ⟨hkd', _, z_heapShire1, hkd', z_heapShire2, by rw [z_heapShire5]; exact hib, ?_⟩
      rw [z_heapShire3, z_heapShire4, hch]
      intro g2 hg2
      have hm2 : FrL th g' g2 := by rw [hg2]; exact FrL.sA
      obtain ⟨hkd2, hS2⟩ := hm2.s hI'.1
      have hh2 : Gi g2 1547 th = nI (s_hea s).length := by rw [hg2]; exact hI'.hea.1
      have hn2 : Gi g2 1536 th = s_now s := by rw [hg2]; exact hI'.now
      obtain ⟨z_heapDay1, z_heapDay2, z_heapDay3, z_heapDay4, z_heapDay5⟩ := hS2 1630 20 40 rfl
      refine ⟨hkd2, _, z_heapDay1, hkd2, hkd2, z_heapDay2, by rw [hh2, z_heapDay5]; exact hib, ?_⟩
      rw [z_heapDay3, z_heapDay4, hh2, hn2, hch]
      intro g4 hg4
      have hm4 : FrL th g' g4 := hm2.tr (by rw [hg4]; exact FrL.sA)
      have hkd4 := (hm4.s hI'.1).1
      have hh4 : Gi g4 1547 th = nI (s_hea s).length := by rw [hg4]; exact hh2
      refine ⟨hkd4, hkd4, ?_⟩
      rw [hh4, nj_s]
      intro g5 hg5
      have hm5 : FrL th g' g5 := hm4.tr (by rw [hg5]; exact FrL.sI)
      have hg5' : g5 = sI (sA (sA g' 1629 th (s_hea s).length p0) 1630 th (s_hea s).length (s_now s)) 1547 th (nI ((s_hea s).length + 1)) := by rw [hg5, hg4, hg2]
      refine h122 g5 hok ((hfx.l (by decide) (by decide)).tr hm5) (hC.cg (by rw [hg5']; funext i; simp [Ia_sA, Ia_sI]) (by rw [hg5']; funext i; simp [Ia_sA, Ia_sI])) ?_
      subst hg5'
      unfold opU
      exact ⟨hm5.s hI'.1, hI'.now, hI'.siz, hI'.prs, hI'.stp, hI'.vot, hI'.mov, hI'.env, hI'.evt, hI'.emp, hI'.rea, hI'.tel, hI'.boo, hI'.wav, (R_hea_push (x := (p0, s_now s)) hI'.hea (by omega) (by simp [Gi_sI]) (fun k => by simp [Ia_sA, Ia_sI]) (fun k => by simp [Ia_sA, Ia_sI])), hI'.tap, hI'.law, (fun e he => by
        show _ = nI (opF s p0 0 e)
        unfold opF
        rw [if_neg (fun q => absurd q.1 (Nat.not_lt_zero _))]
        have := hI'.hof e he
        simpa [Ia_sA, Ia_sI] using this), hI'.box, hI'.roa, hI'.las⟩
    · have hke : k = (s_env s).length := by omega
      subst hke
      exact hno g' hfx (fun q => u q.2.2)
    · have hlt : k < (s_env s).length := by omega
      have hib := inB_nI (show k < 200 by omega) (by omega)
      have hck := nj_cl (show k < 2147483648 by omega)
      have hh := hI'.hof k (by omega)
      have hhl := (hw.hof k).1
      obtain ⟨c1, c2⟩ := hC k hlt
      have hy : opC s p0 k → B_M_open_69 Γ K27 K122 K th p0 (nI k) 1 (nI (opN s p0 k)) g' := fun q => by
        unfold B_M_open_69
        rintro x1 rfl
        have := h27 hlt
        rw [hst hlt, if_pos q, ← nj_s, ← nj_s] at this
        exact this
      have hn : ¬ opC s p0 k → B_M_open_68 Γ K27 K122 K th p0 (nI k) (nI (opN s p0 k)) g' := fun q => by
        unfold B_M_open_68 B_M_open_69
        rintro x1 rfl
        have := h27 hlt
        rw [hst hlt, if_neg q, ← nj_s (k := k)] at this
        rw [Int32.add_zero]
        exact this
      refine ⟨hkd', _, z_counted1, z_counted2, by rw [z_counted5]; exact hib, ?_⟩
      rw [z_counted3, z_counted4, hck, c1]
      refine ⟨fun u => hn (fun q => by rw [q.1] at u; simp at u), fun u => ⟨hkd', _, z_countedShire1, z_countedShire2, by rw [z_countedShire5]; exact hib, ?_⟩⟩
      obtain ⟨sh, hsh⟩ : ∃ sh, (sCn s (s_vot s).length).1 k = some sh := by
        cases hc : (sCn s (s_vot s).length).1 k with
        | none => rw [hc] at u; simp at u
        | some sh => exact ⟨sh, rfl⟩
      rw [z_countedShire3, z_countedShire4, c2 sh hsh]
      refine ⟨fun u2 => hn (fun q => by have q1 := q.1; rw [hsh] at q1; exact u2 (Option.some.inj q1)), fun u2 => ⟨hkd', _, z_heapOf1, z_heapOf2, by rw [z_heapOf5]; exact hib, ?_⟩⟩
      rw [z_heapOf3, z_heapOf4, hh]
      refine ⟨fun u3 => hn (fun q => u3 (by rw [q.2]; rfl)), fun u3 => hy ⟨by rw [hsh, u2], ?_⟩⟩
      exact (nj_eq (b := 0) (by omega) (by omega)).mp u3
  · rintro n l0 l1 l3 g' ⟨rfl, rfl, hok, k, hk, rfl, rfl, hfm, hC, hI'⟩
    obtain ⟨hkd', hS⟩ := hI'.1
    obtain ⟨z_counted1, z_counted2, z_counted3, z_counted4, z_counted5⟩ := hS 1607 21 200 rfl
    obtain ⟨z_countedShire1, z_countedShire2, z_countedShire3, z_countedShire4, z_countedShire5⟩ := hS 1608 20 200 rfl
    obtain ⟨z_heapOf1, z_heapOf2, z_heapOf3, z_heapOf4, z_heapOf5⟩ := hS 1628 20 200 rfl
    suffices H : ∀ (K27 : Nat → Int32 → Int32 → Int32 → GH → Prop) (K122 : Nat → Int32 → Int32 → GH → Prop), (∀ g2, k < (s_env s).length → FrL th g g2 → CN th g2 s (s_vot s).length → RefI th ma g2 (opU s p0 (k + 1)) → K122 th p0 (nI (k + 1)) g2) → B_M_open_122 Γ K27 K122 K th p0 (nI k) g' from
      H _ _ (fun g2 hlt h1 h2 h3 => ⟨(s_env s).length - (k + 1), by omega, rfl, rfl, hok, k + 1, by omega, rfl, rfl, h1, h2, h3⟩)
    intro K27 K122 h122
    have hel : Gi g' 1539 th = nI (s_env s).length := hI'.env.1
    have hhl : Gi g' 1547 th = nI ((s_hea s).length + 1) := by
      have := hI'.hea.1
      rw [this]
      show nI (s_hea s ++ [(p0, s_now s)]).length = _
      rw [List.length_append]; rfl
    unfold B_M_open_122 B_M_open_168
    rw [hel, nj_le (show (s_env s).length < 2147483648 by omega) (show k < 2147483648 by omega), hhl, nj_s]
    refine ⟨hkd', fun z => ⟨hkd', ?_⟩, fun z => ?_⟩
    · have hke : k = (s_env s).length := by omega
      subst hke
      have := hK g' hfm
      unfold p_open q_open at this
      rw [if_pos hok, if_pos hok] at this
      have h1 : nI ((s_hea s).length + 1) - 1 = nI (s_hea s).length := by rw [← nj_s]; exact Int32.add_sub_cancel _ _
      rw [h1]
      exact this hI'
    · have hlt : k < (s_env s).length := by omega
      have hib := inB_nI (show k < 200 by omega) (by omega)
      have hck := nj_cl (show k < 2147483648 by omega)
      have hho : ∀ e, e < 200 → Ia g' 1628 th e = nI (if e < k ∧ opC s p0 e then (s_hea s).length + 1 else s_hof s e) := fun e he => by have := hI'.hof e he; unfold opU at this; rw [s_hof_u_hof] at this; exact this
      have hh := hho k (by omega)
      rw [if_neg (fun q => absurd q.1 (Nat.lt_irrefl _))] at hh
      have hhl2 := (hw.hof k).1
      obtain ⟨c1, c2⟩ := hC k hlt
      have hn : ¬ opC s p0 k → K122 th p0 (nI (k + 1)) g' := fun q => by
        refine h122 g' hlt hfm hC (opU_i hI' FrX.rf (fun e he => ?_))
        rw [hho e he]
        by_cases u : e = k
        · subst u
          rw [if_neg (fun w => absurd w.1 (Nat.lt_irrefl _)), if_neg (fun w => q w.2)]
        · have : (e < k + 1 ∧ opC s p0 e) ↔ (e < k ∧ opC s p0 e) := ⟨fun w => ⟨by omega, w.2⟩, fun w => ⟨by omega, w.2⟩⟩
          by_cases w : e < k ∧ opC s p0 e
          · rw [if_pos w, if_pos (this.mpr w)]
          · rw [if_neg w, if_neg (fun x => w (this.mp x))]
      refine ⟨hkd', _, z_counted1, z_counted2, by rw [z_counted5]; exact hib, ?_⟩
      rw [z_counted3, z_counted4, hck, c1]
      refine ⟨fun u => hn (fun q => by rw [q.1] at u; simp at u), fun u => ⟨hkd', _, z_countedShire1, z_countedShire2, by rw [z_countedShire5]; exact hib, ?_⟩⟩
      obtain ⟨sh, hsh⟩ : ∃ sh, (sCn s (s_vot s).length).1 k = some sh := by
        cases hc : (sCn s (s_vot s).length).1 k with
        | none => rw [hc] at u; simp at u
        | some sh => exact ⟨sh, rfl⟩
      rw [z_countedShire3, z_countedShire4, c2 sh hsh]
      refine ⟨fun u2 => hn (fun q => by have q1 := q.1; rw [hsh] at q1; exact u2 (Option.some.inj q1)), fun u2 => ⟨hkd', _, z_heapOf1, z_heapOf2, by rw [z_heapOf5]; exact hib, ?_⟩⟩
      rw [z_heapOf3, z_heapOf4, hh]
      refine ⟨fun u3 => hn (fun q => u3 (by rw [q.2]; rfl)), fun u3 => ?_⟩
      have hop : opC s p0 k := ⟨by rw [hsh, u2], (nj_eq (b := 0) (by omega) (by omega)).mp u3⟩
      refine ⟨hkd', _, z_heapOf1, hkd', z_heapOf2, by rw [z_heapOf5]; exact hib, ?_⟩
      rw [z_heapOf3, z_heapOf4]
      intro g5 hg5
      have hx5 : FrX th [] [1628] g' g5 := by rw [hg5]; exact FrX.sA (by decide)
      refine h122 g5 hlt (hfm.tr (hx5.l (by decide) (by decide))) (hC.cg (hx5.2.2 _ (by decide)) (hx5.2.2 _ (by decide))) (opU_i hI' hx5 (fun e he => ?_))
      rw [hg5, Ia_sA]
      by_cases u : e = k
      · subst u
        rw [if_pos ⟨rfl, rfl, rfl⟩, if_pos ⟨Nat.lt_succ_self _, hop⟩]
      · rw [if_neg (fun w => u w.2.2), hho e he]
        have : (e < k + 1 ∧ opC s p0 e) ↔ (e < k ∧ opC s p0 e) := ⟨fun w => ⟨by omega, w.2⟩, fun w => ⟨by omega, w.2⟩⟩
        by_cases w : e < k ∧ opC s p0 e
        · rw [if_pos w, if_pos (this.mpr w)]
        · rw [if_neg w, if_neg (fun x => w (this.mp x))]
  · unfold B_M_open_0 B_M_open_16 Sp_M_isShire
    have h40 : ((nI (s_hea s).length : Int32) = (40 : Int32)) ↔ (s_hea s).length = 40 := nj_eq (b := 40) (by omega) (by omega)
    refine ⟨fun u => hno g FrX.rf (fun q => by rw [if_pos q.1] at u; exact absurd u (by decide)), fun u => ⟨hkd, ?_⟩⟩
    rw [hI.hea.1, h40]
    refine ⟨fun u2 => ⟨hkd, ma, s, hI, hw, fun g2 hx2 hC => ?_⟩, fun u2 => hno g FrX.rf (fun q => q.2.1 u2)⟩
    exact ⟨_, rfl, rfl, Classical.byContradiction (fun q => u (by rw [if_neg q])), u2, 0, Nat.zero_le _, rfl, nj_0, hx2, hC, rfl⟩
