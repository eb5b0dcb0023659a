/-! the reference: the work on a part of a law -/
def Sp_M_work (Γ : GAM) (m : Nat) (pl e q ahead : Int32) (g : GH) (K : Int32 → GH → Prop) : Prop := ∃ ma s, RefI m ma g s ∧ WF s ∧ eOk s e ∧ ∃ c tm p tf, pl = nI p ∧ Wds (Ia g 1582 m) (enC c ++ [tm]) p ∧ p + (enC c).length + 1 ≤ 15600 ∧ (tm = 2 ∨ tm = 3) ∧ tyC c [] = some tf ∧ tf.length ≤ 1 ∧ c.length ≤ 200 ∧
  ∀ g', FrX m [1569, 1570, 1595] [1594] g g' → Gi g' 1595 m = nI (p + (enC c).length + 1) → K (sEval (fun c => sLet s e c q ahead) c) g'
-- the walk of M_work
set_option maxRecDepth 100000 in
def B_M_work_268 (Γ : GAM) (K8 : Nat → Int32 → Int32 → Int32 → Int32 → GH → Prop) (K : Int32 → GH → Prop) (s0 : Int32) (g : GH) : Prop :=
  K s0 g
set_option maxHeartbeats 4000000 in
set_option maxRecDepth 100000 in
theorem S_M_work_268 {Γ : GAM} {E : EV} {K : Int32 → GH → Prop} (hE : GE Γ E cX11_work 7 RX11 (some (.int)) 5 123 (fun r g' => ∃ x, r = some (.int x) ∧ K x g')) {K8 : Nat → Int32 → Int32 → Int32 → Int32 → GH → Prop} (hK8 : ∀ (l0 : Nat) (l2 : Int32) (l3 : Int32) (l4 : Int32) (l5 : Int32) (g : GH), K8 l0 l2 l3 l4 l5 g → JW Γ E 8 [some (.ref l0), none, some (.int l2), some (.int l3), some (.int l4), some (.int l5), none] [] g) (s0 : Int32) (g : GH) (h : B_M_work_268 Γ K8 K s0 g) : JW Γ E 268 [none, none, none, none, none, none, none] [.int s0] g := by
  unfold B_M_work_268 at h
  exact j_iret hE (by decide +kernel : decode cX11_work 268 = .ok (.ireturn, 1)) ⟨_, rfl, h⟩
set_option maxRecDepth 100000 in
def B_M_work_243 (Γ : GAM) (K8 : Nat → Int32 → Int32 → Int32 → Int32 → GH → Prop) (K : Int32 → GH → Prop) (l0 : Nat) (l5 : Int32) (g : GH) : Prop :=
  Kd g l0 = 13 ∧ Kd g l0 = 13 ∧ ∀ g1 : GH, g1 = sI g 1595 l0 ((Gi g 1595 l0) + (1 : Int32)) → ((¬ (l5 = 0) → Kd g1 l0 = 13 ∧ ∃ a2 : Nat, Gr g1 1594 l0 = some a2 ∧ Kd g1 a2 = 20 ∧ inB (0 : Int32) (Ln g1 a2) ∧ B_M_work_268 Γ K8 K (Ia g1 (Co g1 a2) (Ow g1 a2) (0 : Int32).toNatClampNeg) g1) ∧ (l5 = 0 → B_M_work_268 Γ K8 K (0 : Int32) g1))
set_option maxHeartbeats 4000000 in
set_option maxRecDepth 100000 in
theorem S_M_work_243 {Γ : GAM} {E : EV} {K : Int32 → GH → Prop} (hE : GE Γ E cX11_work 7 RX11 (some (.int)) 5 123 (fun r g' => ∃ x, r = some (.int x) ∧ K x g')) {K8 : Nat → Int32 → Int32 → Int32 → Int32 → GH → Prop} (hK8 : ∀ (l0 : Nat) (l2 : Int32) (l3 : Int32) (l4 : Int32) (l5 : Int32) (g : GH), K8 l0 l2 l3 l4 l5 g → JW Γ E 8 [some (.ref l0), none, some (.int l2), some (.int l3), some (.int l4), some (.int l5), none] [] g) (l0 : Nat) (l5 : Int32) (g : GH) (h : B_M_work_243 Γ K8 K l0 l5 g) : JW Γ E 243 [some (.ref l0), none, none, none, none, some (.int l5), none] [] g := by
  unfold B_M_work_243 at h
  refine j_aload_n hE (by decide +kernel : decode cX11_work 243 = .ok (.aload_n 0, 1)) rfl rfl ?_
  refine j_dup hE (by decide +kernel : decode cX11_work 244 = .ok (.dup, 1)) rfl ?_
  obtain ⟨hk, h⟩ := h
  refine j_getI hE fg_X11_398 hk (by decide +kernel : decode cX11_work 245 = .ok (.getfield 398, 3)) ?_
  refine j_iconst hE (by decide +kernel : decode cX11_work 248 = .ok (.iconst 1, 1)) (v := (1 : Int32)) (by decide) ?_
  refine j_iadd hE (by decide +kernel : decode cX11_work 249 = .ok (.iadd, 1)) ?_
  obtain ⟨hk, h⟩ := h
  obtain ⟨g1, hg⟩ : ∃ z, z = sI g 1595 l0 ((Gi g 1595 l0) + (1 : Int32)) := ⟨_, rfl⟩; replace h := h g1 hg
  refine j_putI hE fa_X11_398 hk (fun q => by cases q) (by decide +kernel : decode cX11_work 250 = .ok (.putfield 398, 3)) ?_
  rw [← hg]
  refine j_iload hE (by decide +kernel : decode cX11_work 253 = .ok (.iload 5, 2)) rfl ?_
  refine j_if_ne hE (by decide +kernel : decode cX11_work 255 = .ok (.ifCond .ne 7, 3)) (tgt := 262) (by decide) (fun q => ?_) (fun q => ?_)
  · replace h := h.1 q
    refine j_aload_n hE (by decide +kernel : decode cX11_work 262 = .ok (.aload_n 0, 1)) rfl rfl ?_
    obtain ⟨hk, h⟩ := h
    obtain ⟨a2, ha, h⟩ := h
    refine j_getRn hE fg_X11_126 hk ha (by decide +kernel : decode cX11_work 263 = .ok (.getfield 126, 3)) ?_
    refine j_iconst hE (by decide +kernel : decode cX11_work 266 = .ok (.iconst 0, 1)) (v := (0 : Int32)) (by decide) ?_
    obtain ⟨hk, hb, h⟩ := h
    refine j_iald hE hk hb (by decide +kernel : decode cX11_work 267 = .ok (.iaload, 1)) ?_
    refine j_weak [none, none, none, none, none, none, none] trivial ?_
    exact S_M_work_268 hE hK8 _ _ h
  · replace h := h.2 q
    refine j_iconst hE (by decide +kernel : decode cX11_work 258 = .ok (.iconst 0, 1)) (v := (0 : Int32)) (by decide) ?_
    refine j_goto hE (by decide +kernel : decode cX11_work 259 = .ok (.goto 9, 3)) (tgt := 268) (by decide) ?_
    refine j_weak [none, none, none, none, none, none, none] trivial ?_
    exact S_M_work_268 hE hK8 _ _ h
set_option maxRecDepth 100000 in
def B_M_work_203 (Γ : GAM) (K8 : Nat → Int32 → Int32 → Int32 → Int32 → GH → Prop) (K : Int32 → GH → Prop) (l0 : Nat) (l2 : Int32) (l3 : Int32) (l4 : Int32) (l5 : Int32) (s0 : Int32) (s1 : Int32) (s2 : Nat) (g : GH) : Prop :=
  Kd g s2 = 20 ∧ inB s1 (Ln g s2) ∧ ∀ g1 : GH, g1 = sA g (Co g s2) (Ow g s2) s1.toNatClampNeg s0 → K8 l0 l2 l3 l4 l5 g1
set_option maxHeartbeats 4000000 in
set_option maxRecDepth 100000 in
theorem S_M_work_203 {Γ : GAM} {E : EV} {K : Int32 → GH → Prop} (hE : GE Γ E cX11_work 7 RX11 (some (.int)) 5 123 (fun r g' => ∃ x, r = some (.int x) ∧ K x g')) {K8 : Nat → Int32 → Int32 → Int32 → Int32 → GH → Prop} (hK8 : ∀ (l0 : Nat) (l2 : Int32) (l3 : Int32) (l4 : Int32) (l5 : Int32) (g : GH), K8 l0 l2 l3 l4 l5 g → JW Γ E 8 [some (.ref l0), none, some (.int l2), some (.int l3), some (.int l4), some (.int l5), none] [] g) (l0 : Nat) (l2 : Int32) (l3 : Int32) (l4 : Int32) (l5 : Int32) (s0 : Int32) (s1 : Int32) (s2 : Nat) (g : GH) (h : B_M_work_203 Γ K8 K l0 l2 l3 l4 l5 s0 s1 s2 g) : JW Γ E 203 [some (.ref l0), none, some (.int l2), some (.int l3), some (.int l4), some (.int l5), none] [.int s0, .int s1, .ref s2] g := by
  unfold B_M_work_203 at h
  obtain ⟨hk, hb, h⟩ := h
  obtain ⟨g1, hg⟩ : ∃ z, z = sA g (Co g s2) (Ow g s2) s1.toNatClampNeg s0 := ⟨_, rfl⟩; replace h := h g1 hg
  refine j_iast hE hk hb (by decide +kernel : decode cX11_work 203 = .ok (.iastore, 1)) ?_
  rw [← hg]
  refine j_goto hE (by decide +kernel : decode cX11_work 204 = .ok (.goto (-196), 3)) (tgt := 8) (by decide) ?_
  exact hK8 _ _ _ _ _ _ h
set_option maxRecDepth 100000 in
def B_M_work_145 (Γ : GAM) (K8 : Nat → Int32 → Int32 → Int32 → Int32 → GH → Prop) (K : Int32 → GH → Prop) (l0 : Nat) (l2 : Int32) (l3 : Int32) (l4 : Int32) (l5 : Int32) (g : GH) : Prop :=
  Kd g l0 = 13 ∧ ∃ a1 : Nat, Gr g 1594 l0 = some a1 ∧ Kd g l0 = 13 ∧ ∃ a2 : Nat, Gr g 1594 l0 = some a2 ∧ Kd g a2 = 20 ∧ inB (l5 - (1 : Int32)) (Ln g a2) ∧ Sp_M_bounded Γ ((-(Ia g (Co g a2) (Ow g a2) (l5 - (1 : Int32)).toNatClampNeg)).toInt64) g (fun (x4 : Int32) (g3 : GH) => Kd g3 a1 = 20 ∧ inB (l5 - (1 : Int32)) (Ln g3 a1) ∧ ∀ g5 : GH, g5 = sA g3 (Co g3 a1) (Ow g3 a1) (l5 - (1 : Int32)).toNatClampNeg x4 → K8 l0 l2 l3 l4 l5 g5)
set_option maxHeartbeats 4000000 in
set_option maxRecDepth 100000 in
theorem S_M_work_145 {Γ : GAM} {E : EV} {K : Int32 → GH → Prop} (hE : GE Γ E cX11_work 7 RX11 (some (.int)) 5 123 (fun r g' => ∃ x, r = some (.int x) ∧ K x g')) {K8 : Nat → Int32 → Int32 → Int32 → Int32 → GH → Prop} (hK8 : ∀ (l0 : Nat) (l2 : Int32) (l3 : Int32) (l4 : Int32) (l5 : Int32) (g : GH), K8 l0 l2 l3 l4 l5 g → JW Γ E 8 [some (.ref l0), none, some (.int l2), some (.int l3), some (.int l4), some (.int l5), none] [] g) (l0 : Nat) (l2 : Int32) (l3 : Int32) (l4 : Int32) (l5 : Int32) (g : GH) (h : B_M_work_145 Γ K8 K l0 l2 l3 l4 l5 g) : JW Γ E 145 [some (.ref l0), none, some (.int l2), some (.int l3), some (.int l4), some (.int l5), none] [] g := by
  unfold B_M_work_145 at h
  refine j_aload_n hE (by decide +kernel : decode cX11_work 145 = .ok (.aload_n 0, 1)) rfl rfl ?_
  obtain ⟨hk, h⟩ := h
  obtain ⟨a1, ha, h⟩ := h
  refine j_getRn hE fg_X11_126 hk ha (by decide +kernel : decode cX11_work 146 = .ok (.getfield 126, 3)) ?_
  refine j_iload hE (by decide +kernel : decode cX11_work 149 = .ok (.iload 5, 2)) rfl ?_
  refine j_iconst hE (by decide +kernel : decode cX11_work 151 = .ok (.iconst 1, 1)) (v := (1 : Int32)) (by decide) ?_
  refine j_isub hE (by decide +kernel : decode cX11_work 152 = .ok (.isub, 1)) ?_
  refine j_aload_n hE (by decide +kernel : decode cX11_work 153 = .ok (.aload_n 0, 1)) rfl rfl ?_
  obtain ⟨hk, h⟩ := h
  obtain ⟨a2, ha, h⟩ := h
  refine j_getRn hE fg_X11_126 hk ha (by decide +kernel : decode cX11_work 154 = .ok (.getfield 126, 3)) ?_
  refine j_iload hE (by decide +kernel : decode cX11_work 157 = .ok (.iload 5, 2)) rfl ?_
  refine j_iconst hE (by decide +kernel : decode cX11_work 159 = .ok (.iconst 1, 1)) (v := (1 : Int32)) (by decide) ?_
  refine j_isub hE (by decide +kernel : decode cX11_work 160 = .ok (.isub, 1)) ?_
  obtain ⟨hk, hb, h⟩ := h
  refine j_iald hE hk hb (by decide +kernel : decode cX11_work 161 = .ok (.iaload, 1)) ?_
  refine j_ineg hE (by decide +kernel : decode cX11_work 162 = .ok (.ineg, 1)) ?_
  refine j_i2l hE (by decide +kernel : decode cX11_work 163 = .ok (.i2l, 1)) ?_
  refine j_callS hE rfl cl_X11_405 st_X11_bounded ⟨by omega, by omega⟩ (As := [.long ((-(Ia g (Co g a2) (Ow g a2) (l5 - (1 : Int32)).toNatClampNeg)).toInt64)]) (rest := [.int (l5 - (1 : Int32)), .ref a1]) rfl rfl (Nat.le_of_ble_eq_true rfl) (by decide +kernel : decode cX11_work 164 = .ok (.invokestatic 405, 3)) (mt_M_bounded _ _ _ h) ?_
  rintro _ g3 ⟨x4, rfl, h⟩
  obtain ⟨hk, hb, h⟩ := h
  obtain ⟨g5, hg⟩ : ∃ z, z = sA g3 (Co g3 a1) (Ow g3 a1) (l5 - (1 : Int32)).toNatClampNeg x4 := ⟨_, rfl⟩; replace h := h g5 hg
  refine j_iast hE hk hb (by decide +kernel : decode cX11_work 167 = .ok (.iastore, 1)) ?_
  rw [← hg]
  refine j_goto hE (by decide +kernel : decode cX11_work 168 = .ok (.goto (-160), 3)) (tgt := 8) (by decide) ?_
  exact hK8 _ _ _ _ _ _ h
set_option maxRecDepth 100000 in
def B_M_work_8 (Γ : GAM) (K8 : Nat → Int32 → Int32 → Int32 → Int32 → GH → Prop) (K : Int32 → GH → Prop) (l0 : Nat) (l2 : Int32) (l3 : Int32) (l4 : Int32) (l5 : Int32) (g : GH) : Prop :=
  Kd g l0 = 13 ∧ ∃ a1 : Nat, Gr g 1582 l0 = some a1 ∧ Kd g l0 = 13 ∧ Kd g a1 = 20 ∧ inB (Gi g 1595 l0) (Ln g a1) ∧ (((Ia g (Co g a1) (Ow g a1) (Gi g 1595 l0).toNatClampNeg) = (2 : Int32) → B_M_work_243 Γ K8 K l0 l5 g) ∧ (¬ ((Ia g (Co g a1) (Ow g a1) (Gi g 1595 l0).toNatClampNeg) = (2 : Int32)) → Kd g l0 = 13 ∧ ∃ a2 : Nat, Gr g 1582 l0 = some a2 ∧ Kd g l0 = 13 ∧ Kd g a2 = 20 ∧ inB (Gi g 1595 l0) (Ln g a2) ∧ (((Ia g (Co g a2) (Ow g a2) (Gi g 1595 l0).toNatClampNeg) = (3 : Int32) → B_M_work_243 Γ K8 K l0 l5 g) ∧ (¬ ((Ia g (Co g a2) (Ow g a2) (Gi g 1595 l0).toNatClampNeg) = (3 : Int32)) → Kd g l0 = 13 ∧ ∃ a3 : Nat, Gr g 1582 l0 = some a3 ∧ Kd g l0 = 13 ∧ Kd g a3 = 20 ∧ inB (Gi g 1595 l0) (Ln g a3) ∧ ∀ x4 : Int32, x4 = (Ia g (Co g a3) (Ow g a3) (Gi g 1595 l0).toNatClampNeg) → Kd g l0 = 13 ∧ Kd g l0 = 13 ∧ ∀ g5 : GH, g5 = sI g 1595 l0 ((Gi g 1595 l0) + (1 : Int32)) → ((¬ (x4 = 0) → ((¬ (x4 = (1 : Int32)) → ((¬ (x4 = (126 : Int32)) → ((¬ (x4 = (33 : Int32)) → Kd g5 l0 = 13 ∧ ∃ a6 : Nat, Gr g5 1594 l0 = some a6 ∧ Kd g5 l0 = 13 ∧ ∃ a7 : Nat, Gr g5 1594 l0 = some a7 ∧ Kd g5 a7 = 20 ∧ inB ((l5 + (-1 : Int32)) - (1 : Int32)) (Ln g5 a7) ∧ Kd g5 l0 = 13 ∧ ∃ a8 : Nat, Gr g5 1594 l0 = some a8 ∧ Kd g5 a8 = 20 ∧ inB (l5 + (-1 : Int32)) (Ln g5 a8) ∧ Sp_M_both Γ x4 (Ia g5 (Co g5 a7) (Ow g5 a7) ((l5 + (-1 : Int32)) - (1 : Int32)).toNatClampNeg) (Ia g5 (Co g5 a8) (Ow g5 a8) (l5 + (-1 : Int32)).toNatClampNeg) g5 (fun (x10 : Int32) (g9 : GH) => Kd g9 a6 = 20 ∧ inB ((l5 + (-1 : Int32)) - (1 : Int32)) (Ln g9 a6) ∧ ∀ g11 : GH, g11 = sA g9 (Co g9 a6) (Ow g9 a6) ((l5 + (-1 : Int32)) - (1 : Int32)).toNatClampNeg x10 → K8 l0 l2 l3 l4 (l5 + (-1 : Int32)) g11)) ∧ (x4 = (33 : Int32) → Kd g5 l0 = 13 ∧ ∃ a12 : Nat, Gr g5 1594 l0 = some a12 ∧ Kd g5 l0 = 13 ∧ ∃ a13 : Nat, Gr g5 1594 l0 = some a13 ∧ Kd g5 a13 = 20 ∧ inB (l5 - (1 : Int32)) (Ln g5 a13) ∧ ((¬ ((Ia g5 (Co g5 a13) (Ow g5 a13) (l5 - (1 : Int32)).toNatClampNeg) = 0) → B_M_work_203 Γ K8 K l0 l2 l3 l4 l5 (0 : Int32) (l5 - (1 : Int32)) a12 g5) ∧ ((Ia g5 (Co g5 a13) (Ow g5 a13) (l5 - (1 : Int32)).toNatClampNeg) = 0 → B_M_work_203 Γ K8 K l0 l2 l3 l4 l5 (1 : Int32) (l5 - (1 : Int32)) a12 g5))))) ∧ (x4 = (126 : Int32) → B_M_work_145 Γ K8 K l0 l2 l3 l4 l5 g5))) ∧ (x4 = (1 : Int32) → Kd g5 l0 = 13 ∧ ∃ a14 : Nat, Gr g5 1594 l0 = some a14 ∧ Kd g5 l0 = 13 ∧ ∃ a15 : Nat, Gr g5 1582 l0 = some a15 ∧ Kd g5 l0 = 13 ∧ Kd g5 a15 = 20 ∧ inB (Gi g5 1595 l0) (Ln g5 a15) ∧ Kd g5 l0 = 13 ∧ Sp_M_letterOf Γ l0 l2 (Ia g5 (Co g5 a15) (Ow g5 a15) (Gi g5 1595 l0).toNatClampNeg) l3 l4 g5 (fun (x17 : Int32) (g16 : GH) => Kd g16 a14 = 20 ∧ inB l5 (Ln g16 a14) ∧ ∀ g18 : GH, g18 = sA g16 (Co g16 a14) (Ow g16 a14) l5.toNatClampNeg x17 → Kd g18 l0 = 13 ∧ Kd g18 l0 = 13 ∧ ∀ g19 : GH, g19 = sI g18 1595 l0 ((Gi g18 1595 l0) + (1 : Int32)) → K8 l0 l2 l3 l4 (l5 + (1 : Int32)) g19)))) ∧ (x4 = 0 → Kd g5 l0 = 13 ∧ ∃ a20 : Nat, Gr g5 1594 l0 = some a20 ∧ Kd g5 l0 = 13 ∧ ∃ a21 : Nat, Gr g5 1582 l0 = some a21 ∧ Kd g5 l0 = 13 ∧ Kd g5 a21 = 20 ∧ inB (Gi g5 1595 l0) (Ln g5 a21) ∧ Kd g5 a20 = 20 ∧ inB l5 (Ln g5 a20) ∧ ∀ g22 : GH, g22 = sA g5 (Co g5 a20) (Ow g5 a20) l5.toNatClampNeg (Ia g5 (Co g5 a21) (Ow g5 a21) (Gi g5 1595 l0).toNatClampNeg) → Kd g22 l0 = 13 ∧ Kd g22 l0 = 13 ∧ ∀ g23 : GH, g23 = sI g22 1595 l0 ((Gi g22 1595 l0) + (1 : Int32)) → K8 l0 l2 l3 l4 (l5 + (1 : Int32)) g23))))))
set_option maxHeartbeats 4000000 in
set_option maxRecDepth 100000 in
theorem S_M_work_8 {Γ : GAM} {E : EV} {K : Int32 → GH → Prop} (hE : GE Γ E cX11_work 7 RX11 (some (.int)) 5 123 (fun r g' => ∃ x, r = some (.int x) ∧ K x g')) {K8 : Nat → Int32 → Int32 → Int32 → Int32 → GH → Prop} (hK8 : ∀ (l0 : Nat) (l2 : Int32) (l3 : Int32) (l4 : Int32) (l5 : Int32) (g : GH), K8 l0 l2 l3 l4 l5 g → JW Γ E 8 [some (.ref l0), none, some (.int l2), some (.int l3), some (.int l4), some (.int l5), none] [] g) (l0 : Nat) (l2 : Int32) (l3 : Int32) (l4 : Int32) (l5 : Int32) (g : GH) (h : B_M_work_8 Γ K8 K l0 l2 l3 l4 l5 g) : JW Γ E 8 [some (.ref l0), none, some (.int l2), some (.int l3), some (.int l4), some (.int l5), none] [] g := by
  unfold B_M_work_8 at h
  refine j_aload_n hE (by decide +kernel : decode cX11_work 8 = .ok (.aload_n 0, 1)) rfl rfl ?_
  obtain ⟨hk, h⟩ := h
  obtain ⟨a1, ha, h⟩ := h
  refine j_getRn hE fg_X11_108 hk ha (by decide +kernel : decode cX11_work 9 = .ok (.getfield 108, 3)) ?_
  refine j_aload_n hE (by decide +kernel : decode cX11_work 12 = .ok (.aload_n 0, 1)) rfl rfl ?_
  obtain ⟨hk, h⟩ := h
  refine j_getI hE fg_X11_398 hk (by decide +kernel : decode cX11_work 13 = .ok (.getfield 398, 3)) ?_
  obtain ⟨hk, hb, h⟩ := h
  refine j_iald hE hk hb (by decide +kernel : decode cX11_work 16 = .ok (.iaload, 1)) ?_
  refine j_iconst hE (by decide +kernel : decode cX11_work 17 = .ok (.iconst 2, 1)) (v := (2 : Int32)) (by decide) ?_
  refine j_icmp_eq hE (by decide +kernel : decode cX11_work 18 = .ok (.if_icmp .eq 225, 3)) (tgt := 243) (by decide) (fun q => ?_) (fun q => ?_)
  · replace h := h.1 q
    refine j_weak [some (.ref l0), none, none, none, none, some (.int l5), none] ⟨rfl, ⟨rfl, trivial⟩⟩ ?_
    exact S_M_work_243 hE hK8 _ _ _ h
  · replace h := h.2 q
    refine j_aload_n hE (by decide +kernel : decode cX11_work 21 = .ok (.aload_n 0, 1)) rfl rfl ?_
    obtain ⟨hk, h⟩ := h
    obtain ⟨a2, ha, h⟩ := h
    refine j_getRn hE fg_X11_108 hk ha (by decide +kernel : decode cX11_work 22 = .ok (.getfield 108, 3)) ?_
    refine j_aload_n hE (by decide +kernel : decode cX11_work 25 = .ok (.aload_n 0, 1)) rfl rfl ?_
    obtain ⟨hk, h⟩ := h
    refine j_getI hE fg_X11_398 hk (by decide +kernel : decode cX11_work 26 = .ok (.getfield 398, 3)) ?_
    obtain ⟨hk, hb, h⟩ := h
    refine j_iald hE hk hb (by decide +kernel : decode cX11_work 29 = .ok (.iaload, 1)) ?_
    refine j_iconst hE (by decide +kernel : decode cX11_work 30 = .ok (.iconst 3, 1)) (v := (3 : Int32)) (by decide) ?_
    refine j_icmp_eq hE (by decide +kernel : decode cX11_work 31 = .ok (.if_icmp .eq 212, 3)) (tgt := 243) (by decide) (fun q => ?_) (fun q => ?_)
    · replace h := h.1 q
      refine j_weak [some (.ref l0), none, none, none, none, some (.int l5), none] ⟨rfl, ⟨rfl, trivial⟩⟩ ?_
      exact S_M_work_243 hE hK8 _ _ _ h
    · replace h := h.2 q
      refine j_aload_n hE (by decide +kernel : decode cX11_work 34 = .ok (.aload_n 0, 1)) rfl rfl ?_
      obtain ⟨hk, h⟩ := h
      obtain ⟨a3, ha, h⟩ := h
      refine j_getRn hE fg_X11_108 hk ha (by decide +kernel : decode cX11_work 35 = .ok (.getfield 108, 3)) ?_
      refine j_aload_n hE (by decide +kernel : decode cX11_work 38 = .ok (.aload_n 0, 1)) rfl rfl ?_
      obtain ⟨hk, h⟩ := h
      refine j_getI hE fg_X11_398 hk (by decide +kernel : decode cX11_work 39 = .ok (.getfield 398, 3)) ?_
      obtain ⟨hk, hb, h⟩ := h
      refine j_iald hE hk hb (by decide +kernel : decode cX11_work 42 = .ok (.iaload, 1)) ?_
      obtain ⟨x4, hx⟩ : ∃ z, z = (Ia g (Co g a3) (Ow g a3) (Gi g 1595 l0).toNatClampNeg) := ⟨_, rfl⟩; replace h := h x4 hx; rw [← hx]
      refine j_istore hE (by decide +kernel : decode cX11_work 43 = .ok (.istore 6, 2)) (Nat.le_of_ble_eq_true rfl) rfl ?_
      refine j_aload_n hE (by decide +kernel : decode cX11_work 45 = .ok (.aload_n 0, 1)) rfl rfl ?_
      refine j_dup hE (by decide +kernel : decode cX11_work 46 = .ok (.dup, 1)) rfl ?_
      obtain ⟨hk, h⟩ := h
      refine j_getI hE fg_X11_398 hk (by decide +kernel : decode cX11_work 47 = .ok (.getfield 398, 3)) ?_
      refine j_iconst hE (by decide +kernel : decode cX11_work 50 = .ok (.iconst 1, 1)) (v := (1 : Int32)) (by decide) ?_
      refine j_iadd hE (by decide +kernel : decode cX11_work 51 = .ok (.iadd, 1)) ?_
      obtain ⟨hk, h⟩ := h
      obtain ⟨g5, hg⟩ : ∃ z, z = sI g 1595 l0 ((Gi g 1595 l0) + (1 : Int32)) := ⟨_, rfl⟩; replace h := h g5 hg
      refine j_putI hE fa_X11_398 hk (fun q => by cases q) (by decide +kernel : decode cX11_work 52 = .ok (.putfield 398, 3)) ?_
      rw [← hg]
      refine j_iload hE (by decide +kernel : decode cX11_work 55 = .ok (.iload 6, 2)) rfl ?_
      refine j_if_ne hE (by decide +kernel : decode cX11_work 57 = .ok (.ifCond .ne 35, 3)) (tgt := 92) (by decide) (fun q => ?_) (fun q => ?_)
      · replace h := h.1 q
        refine j_iload hE (by decide +kernel : decode cX11_work 92 = .ok (.iload 6, 2)) rfl ?_
        refine j_iconst hE (by decide +kernel : decode cX11_work 94 = .ok (.iconst 1, 1)) (v := (1 : Int32)) (by decide) ?_
        refine j_icmp_ne hE (by decide +kernel : decode cX11_work 95 = .ok (.if_icmp .ne 43, 3)) (tgt := 138) (by decide) (fun q => ?_) (fun q => ?_)
        · replace h := h.1 q
          refine j_iload hE (by decide +kernel : decode cX11_work 138 = .ok (.iload 6, 2)) rfl ?_
          refine j_bipush hE (by decide +kernel : decode cX11_work 140 = .ok (.bipush 126, 2)) (v := (126 : Int32)) (by decide) ?_
          refine j_icmp_ne hE (by decide +kernel : decode cX11_work 142 = .ok (.if_icmp .ne 29, 3)) (tgt := 171) (by decide) (fun q => ?_) (fun q => ?_)
          · replace h := h.1 q
            refine j_iload hE (by decide +kernel : decode cX11_work 171 = .ok (.iload 6, 2)) rfl ?_
            refine j_bipush hE (by decide +kernel : decode cX11_work 173 = .ok (.bipush 33, 2)) (v := (33 : Int32)) (by decide) ?_
            refine j_icmp_ne hE (by decide +kernel : decode cX11_work 175 = .ok (.if_icmp .ne 32, 3)) (tgt := 207) (by decide) (fun q => ?_) (fun q => ?_)
            · replace h := h.1 q
              refine j_iinc hE (by decide +kernel : decode cX11_work 207 = .ok (.iinc 5 (-1), 3)) (v := (-1 : Int32)) (by decide) rfl (Nat.le_of_ble_eq_true rfl) rfl ?_
              refine j_aload_n hE (by decide +kernel : decode cX11_work 210 = .ok (.aload_n 0, 1)) rfl rfl ?_
              obtain ⟨hk, h⟩ := h
              obtain ⟨a6, ha, h⟩ := h
              refine j_getRn hE fg_X11_126 hk ha (by decide +kernel : decode cX11_work 211 = .ok (.getfield 126, 3)) ?_
              refine j_iload hE (by decide +kernel : decode cX11_work 214 = .ok (.iload 5, 2)) rfl ?_
              refine j_iconst hE (by decide +kernel : decode cX11_work 216 = .ok (.iconst 1, 1)) (v := (1 : Int32)) (by decide) ?_
              refine j_isub hE (by decide +kernel : decode cX11_work 217 = .ok (.isub, 1)) ?_
              refine j_iload hE (by decide +kernel : decode cX11_work 218 = .ok (.iload 6, 2)) rfl ?_
              refine j_aload_n hE (by decide +kernel : decode cX11_work 220 = .ok (.aload_n 0, 1)) rfl rfl ?_
              obtain ⟨hk, h⟩ := h
              obtain ⟨a7, ha, h⟩ := h
              refine j_getRn hE fg_X11_126 hk ha (by decide +kernel : decode cX11_work 221 = .ok (.getfield 126, 3)) ?_
              refine j_iload hE (by decide +kernel : decode cX11_work 224 = .ok (.iload 5, 2)) rfl ?_
              refine j_iconst hE (by decide +kernel : decode cX11_work 226 = .ok (.iconst 1, 1)) (v := (1 : Int32)) (by decide) ?_
              refine j_isub hE (by decide +kernel : decode cX11_work 227 = .ok (.isub, 1)) ?_
              obtain ⟨hk, hb, h⟩ := h
              refine j_iald hE hk hb (by decide +kernel : decode cX11_work 228 = .ok (.iaload, 1)) ?_
              refine j_aload_n hE (by decide +kernel : decode cX11_work 229 = .ok (.aload_n 0, 1)) rfl rfl ?_
              obtain ⟨hk, h⟩ := h
              obtain ⟨a8, ha, h⟩ := h
              refine j_getRn hE fg_X11_126 hk ha (by decide +kernel : decode cX11_work 230 = .ok (.getfield 126, 3)) ?_
              refine j_iload hE (by decide +kernel : decode cX11_work 233 = .ok (.iload 5, 2)) rfl ?_
              obtain ⟨hk, hb, h⟩ := h
              refine j_iald hE hk hb (by decide +kernel : decode cX11_work 235 = .ok (.iaload, 1)) ?_
              refine j_callS hE rfl cl_X11_409 st_X11_both ⟨by omega, by omega⟩ (As := [.int x4, .int (Ia g5 (Co g5 a7) (Ow g5 a7) ((l5 + (-1 : Int32)) - (1 : Int32)).toNatClampNeg), .int (Ia g5 (Co g5 a8) (Ow g5 a8) (l5 + (-1 : Int32)).toNatClampNeg)]) (rest := [.int ((l5 + (-1 : Int32)) - (1 : Int32)), .ref a6]) rfl rfl (Nat.le_of_ble_eq_true rfl) (by decide +kernel : decode cX11_work 236 = .ok (.invokestatic 409, 3)) (mt_M_both _ _ _ _ _ h) ?_
              rintro _ g9 ⟨x10, rfl, h⟩
              obtain ⟨hk, hb, h⟩ := h
              obtain ⟨g11, hg⟩ : ∃ z, z = sA g9 (Co g9 a6) (Ow g9 a6) ((l5 + (-1 : Int32)) - (1 : Int32)).toNatClampNeg x10 := ⟨_, rfl⟩; replace h := h g11 hg
              refine j_iast hE hk hb (by decide +kernel : decode cX11_work 239 = .ok (.iastore, 1)) ?_
              rw [← hg]
              refine j_goto hE (by decide +kernel : decode cX11_work 240 = .ok (.goto (-232), 3)) (tgt := 8) (by decide) ?_
              refine j_weak [some (.ref l0), none, some (.int l2), some (.int l3), some (.int l4), some (.int (l5 + (-1 : Int32))), none] ⟨rfl, ⟨rfl, ⟨rfl, ⟨rfl, ⟨rfl, trivial⟩⟩⟩⟩⟩ ?_
              exact hK8 _ _ _ _ _ _ h
            · replace h := h.2 q
              refine j_aload_n hE (by decide +kernel : decode cX11_work 178 = .ok (.aload_n 0, 1)) rfl rfl ?_
              obtain ⟨hk, h⟩ := h
              obtain ⟨a12, ha, h⟩ := h
              refine j_getRn hE fg_X11_126 hk ha (by decide +kernel : decode cX11_work 179 = .ok (.getfield 126, 3)) ?_
              refine j_iload hE (by decide +kernel : decode cX11_work 182 = .ok (.iload 5, 2)) rfl ?_
              refine j_iconst hE (by decide +kernel : decode cX11_work 184 = .ok (.iconst 1, 1)) (v := (1 : Int32)) (by decide) ?_
              refine j_isub hE (by decide +kernel : decode cX11_work 185 = .ok (.isub, 1)) ?_
              refine j_aload_n hE (by decide +kernel : decode cX11_work 186 = .ok (.aload_n 0, 1)) rfl rfl ?_
              obtain ⟨hk, h⟩ := h
              obtain ⟨a13, ha, h⟩ := h
              refine j_getRn hE fg_X11_126 hk ha (by decide +kernel : decode cX11_work 187 = .ok (.getfield 126, 3)) ?_
              refine j_iload hE (by decide +kernel : decode cX11_work 190 = .ok (.iload 5, 2)) rfl ?_
              refine j_iconst hE (by decide +kernel : decode cX11_work 192 = .ok (.iconst 1, 1)) (v := (1 : Int32)) (by decide) ?_
              refine j_isub hE (by decide +kernel : decode cX11_work 193 = .ok (.isub, 1)) ?_
              obtain ⟨hk, hb, h⟩ := h
              refine j_iald hE hk hb (by decide +kernel : decode cX11_work 194 = .ok (.iaload, 1)) ?_
              refine j_if_ne hE (by decide +kernel : decode cX11_work 195 = .ok (.ifCond .ne 7, 3)) (tgt := 202) (by decide) (fun q => ?_) (fun q => ?_)
              · replace h := h.1 q
                refine j_iconst hE (by decide +kernel : decode cX11_work 202 = .ok (.iconst 0, 1)) (v := (0 : Int32)) (by decide) ?_
                refine j_weak [some (.ref l0), none, some (.int l2), some (.int l3), some (.int l4), some (.int l5), none] ⟨rfl, ⟨rfl, ⟨rfl, ⟨rfl, ⟨rfl, trivial⟩⟩⟩⟩⟩ ?_
                exact S_M_work_203 hE hK8 _ _ _ _ _ _ _ _ _ h
              · replace h := h.2 q
                refine j_iconst hE (by decide +kernel : decode cX11_work 198 = .ok (.iconst 1, 1)) (v := (1 : Int32)) (by decide) ?_
                refine j_goto hE (by decide +kernel : decode cX11_work 199 = .ok (.goto 4, 3)) (tgt := 203) (by decide) ?_
                refine j_weak [some (.ref l0), none, some (.int l2), some (.int l3), some (.int l4), some (.int l5), none] ⟨rfl, ⟨rfl, ⟨rfl, ⟨rfl, ⟨rfl, trivial⟩⟩⟩⟩⟩ ?_
                exact S_M_work_203 hE hK8 _ _ _ _ _ _ _ _ _ h
          · replace h := h.2 q
            refine j_weak [some (.ref l0), none, some (.int l2), some (.int l3), some (.int l4), some (.int l5), none] ⟨rfl, ⟨rfl, ⟨rfl, ⟨rfl, ⟨rfl, trivial⟩⟩⟩⟩⟩ ?_
            exact S_M_work_145 hE hK8 _ _ _ _ _ _ h
        · replace h := h.2 q
          refine j_aload_n hE (by decide +kernel : decode cX11_work 98 = .ok (.aload_n 0, 1)) rfl rfl ?_
          obtain ⟨hk, h⟩ := h
          obtain ⟨a14, ha, h⟩ := h
          refine j_getRn hE fg_X11_126 hk ha (by decide +kernel : decode cX11_work 99 = .ok (.getfield 126, 3)) ?_
          refine j_iload hE (by decide +kernel : decode cX11_work 102 = .ok (.iload 5, 2)) rfl ?_
          refine j_aload_n hE (by decide +kernel : decode cX11_work 104 = .ok (.aload_n 0, 1)) rfl rfl ?_
          refine j_iload_n hE (by decide +kernel : decode cX11_work 105 = .ok (.iload_n 2, 1)) rfl rfl ?_
          refine j_aload_n hE (by decide +kernel : decode cX11_work 106 = .ok (.aload_n 0, 1)) rfl rfl ?_
          obtain ⟨hk, h⟩ := h
          obtain ⟨a15, ha, h⟩ := h
          refine j_getRn hE fg_X11_108 hk ha (by decide +kernel : decode cX11_work 107 = .ok (.getfield 108, 3)) ?_
          refine j_aload_n hE (by decide +kernel : decode cX11_work 110 = .ok (.aload_n 0, 1)) rfl rfl ?_
          obtain ⟨hk, h⟩ := h
          refine j_getI hE fg_X11_398 hk (by decide +kernel : decode cX11_work 111 = .ok (.getfield 398, 3)) ?_
          obtain ⟨hk, hb, h⟩ := h
          refine j_iald hE hk hb (by decide +kernel : decode cX11_work 114 = .ok (.iaload, 1)) ?_
          refine j_iload_n hE (by decide +kernel : decode cX11_work 115 = .ok (.iload_n 3, 1)) rfl rfl ?_
          refine j_iload hE (by decide +kernel : decode cX11_work 116 = .ok (.iload 4, 2)) rfl ?_
          obtain ⟨hk, h⟩ := h
          refine j_callV hE rfl cl_X11_401 cf_12 im_X11_letterOf se_X11_letterOf ⟨by omega, by omega⟩ (As := [.int l2, .int (Ia g5 (Co g5 a15) (Ow g5 a15) (Gi g5 1595 l0).toNatClampNeg), .int l3, .int l4]) (rest := [.int l5, .ref a14]) rfl rfl (Nat.le_of_ble_eq_true rfl) hk (by decide +kernel : decode cX11_work 118 = .ok (.invokevirtual 401, 3)) (mt_M_letterOf _ _ _ _ _ _ _ h) ?_
          rintro _ g16 ⟨x17, rfl, h⟩
          obtain ⟨hk, hb, h⟩ := h
          obtain ⟨g18, hg⟩ : ∃ z, z = sA g16 (Co g16 a14) (Ow g16 a14) l5.toNatClampNeg x17 := ⟨_, rfl⟩; replace h := h g18 hg
          refine j_iast hE hk hb (by decide +kernel : decode cX11_work 121 = .ok (.iastore, 1)) ?_
          rw [← hg]
          refine j_aload_n hE (by decide +kernel : decode cX11_work 122 = .ok (.aload_n 0, 1)) rfl rfl ?_
          refine j_dup hE (by decide +kernel : decode cX11_work 123 = .ok (.dup, 1)) rfl ?_
          obtain ⟨hk, h⟩ := h
          refine j_getI hE fg_X11_398 hk (by decide +kernel : decode cX11_work 124 = .ok (.getfield 398, 3)) ?_
          refine j_iconst hE (by decide +kernel : decode cX11_work 127 = .ok (.iconst 1, 1)) (v := (1 : Int32)) (by decide) ?_
          refine j_iadd hE (by decide +kernel : decode cX11_work 128 = .ok (.iadd, 1)) ?_
          obtain ⟨hk, h⟩ := h
          obtain ⟨g19, hg⟩ : ∃ z, z = sI g18 1595 l0 ((Gi g18 1595 l0) + (1 : Int32)) := ⟨_, rfl⟩; replace h := h g19 hg
          refine j_putI hE fa_X11_398 hk (fun q => by cases q) (by decide +kernel : decode cX11_work 129 = .ok (.putfield 398, 3)) ?_
          rw [← hg]
          refine j_iinc hE (by decide +kernel : decode cX11_work 132 = .ok (.iinc 5 1, 3)) (v := (1 : Int32)) (by decide) rfl (Nat.le_of_ble_eq_true rfl) rfl ?_
          refine j_goto hE (by decide +kernel : decode cX11_work 135 = .ok (.goto (-127), 3)) (tgt := 8) (by decide) ?_
          refine j_weak [some (.ref l0), none, some (.int l2), some (.int l3), some (.int l4), some (.int (l5 + (1 : Int32))), none] ⟨rfl, ⟨rfl, ⟨rfl, ⟨rfl, ⟨rfl, trivial⟩⟩⟩⟩⟩ ?_
          exact hK8 _ _ _ _ _ _ h
      · replace h := h.2 q
        refine j_aload_n hE (by decide +kernel : decode cX11_work 60 = .ok (.aload_n 0, 1)) rfl rfl ?_
        obtain ⟨hk, h⟩ := h
        obtain ⟨a20, ha, h⟩ := h
        refine j_getRn hE fg_X11_126 hk ha (by decide +kernel : decode cX11_work 61 = .ok (.getfield 126, 3)) ?_
        refine j_iload hE (by decide +kernel : decode cX11_work 64 = .ok (.iload 5, 2)) rfl ?_
        refine j_aload_n hE (by decide +kernel : decode cX11_work 66 = .ok (.aload_n 0, 1)) rfl rfl ?_
        obtain ⟨hk, h⟩ := h
        obtain ⟨a21, ha, h⟩ := h
        refine j_getRn hE fg_X11_108 hk ha (by decide +kernel : decode cX11_work 67 = .ok (.getfield 108, 3)) ?_
        refine j_aload_n hE (by decide +kernel : decode cX11_work 70 = .ok (.aload_n 0, 1)) rfl rfl ?_
        obtain ⟨hk, h⟩ := h
        refine j_getI hE fg_X11_398 hk (by decide +kernel : decode cX11_work 71 = .ok (.getfield 398, 3)) ?_
        obtain ⟨hk, hb, h⟩ := h
        refine j_iald hE hk hb (by decide +kernel : decode cX11_work 74 = .ok (.iaload, 1)) ?_
        obtain ⟨hk, hb, h⟩ := h
        obtain ⟨g22, hg⟩ : ∃ z, z = sA g5 (Co g5 a20) (Ow g5 a20) l5.toNatClampNeg (Ia g5 (Co g5 a21) (Ow g5 a21) (Gi g5 1595 l0).toNatClampNeg) := ⟨_, rfl⟩; replace h := h g22 hg
        refine j_iast hE hk hb (by decide +kernel : decode cX11_work 75 = .ok (.iastore, 1)) ?_
        rw [← hg]
        refine j_aload_n hE (by decide +kernel : decode cX11_work 76 = .ok (.aload_n 0, 1)) rfl rfl ?_
        refine j_dup hE (by decide +kernel : decode cX11_work 77 = .ok (.dup, 1)) rfl ?_
        obtain ⟨hk, h⟩ := h
        refine j_getI hE fg_X11_398 hk (by decide +kernel : decode cX11_work 78 = .ok (.getfield 398, 3)) ?_
        refine j_iconst hE (by decide +kernel : decode cX11_work 81 = .ok (.iconst 1, 1)) (v := (1 : Int32)) (by decide) ?_
        refine j_iadd hE (by decide +kernel : decode cX11_work 82 = .ok (.iadd, 1)) ?_
        obtain ⟨hk, h⟩ := h
        obtain ⟨g23, hg⟩ : ∃ z, z = sI g22 1595 l0 ((Gi g22 1595 l0) + (1 : Int32)) := ⟨_, rfl⟩; replace h := h g23 hg
        refine j_putI hE fa_X11_398 hk (fun q => by cases q) (by decide +kernel : decode cX11_work 83 = .ok (.putfield 398, 3)) ?_
        rw [← hg]
        refine j_iinc hE (by decide +kernel : decode cX11_work 86 = .ok (.iinc 5 1, 3)) (v := (1 : Int32)) (by decide) rfl (Nat.le_of_ble_eq_true rfl) rfl ?_
        refine j_goto hE (by decide +kernel : decode cX11_work 89 = .ok (.goto (-81), 3)) (tgt := 8) (by decide) ?_
        refine j_weak [some (.ref l0), none, some (.int l2), some (.int l3), some (.int l4), some (.int (l5 + (1 : Int32))), none] ⟨rfl, ⟨rfl, ⟨rfl, ⟨rfl, ⟨rfl, trivial⟩⟩⟩⟩⟩ ?_
        exact hK8 _ _ _ _ _ _ h
set_option maxRecDepth 100000 in
def B_M_work_0 (Γ : GAM) (K8 : Nat → Int32 → Int32 → Int32 → Int32 → GH → Prop) (K : Int32 → GH → Prop) (th : Nat) (p0 : Int32) (p1 : Int32) (p2 : Int32) (p3 : Int32) (g : GH) : Prop :=
  Kd g th = 13 ∧ ∀ g1 : GH, g1 = sI g 1595 th p0 → K8 th p1 p2 p3 (0 : Int32) g1
set_option maxHeartbeats 4000000 in
set_option maxRecDepth 100000 in
theorem S_M_work_0 {Γ : GAM} {E : EV} {K : Int32 → GH → Prop} (hE : GE Γ E cX11_work 7 RX11 (some (.int)) 5 123 (fun r g' => ∃ x, r = some (.int x) ∧ K x g')) {K8 : Nat → Int32 → Int32 → Int32 → Int32 → GH → Prop} (hK8 : ∀ (l0 : Nat) (l2 : Int32) (l3 : Int32) (l4 : Int32) (l5 : Int32) (g : GH), K8 l0 l2 l3 l4 l5 g → JW Γ E 8 [some (.ref l0), none, some (.int l2), some (.int l3), some (.int l4), some (.int l5), none] [] g) (th : Nat) (p0 : Int32) (p1 : Int32) (p2 : Int32) (p3 : Int32) (g : GH) (h : B_M_work_0 Γ K8 K th p0 p1 p2 p3 g) : JW Γ E 0 [some (.ref th), some (.int p0), some (.int p1), some (.int p2), some (.int p3), none, none] [] g := by
  unfold B_M_work_0 at h
  refine j_iconst hE (by decide +kernel : decode cX11_work 0 = .ok (.iconst 0, 1)) (v := (0 : Int32)) (by decide) ?_
  refine j_istore hE (by decide +kernel : decode cX11_work 1 = .ok (.istore 5, 2)) (Nat.le_of_ble_eq_true rfl) rfl ?_
  refine j_aload_n hE (by decide +kernel : decode cX11_work 3 = .ok (.aload_n 0, 1)) rfl rfl ?_
  refine j_iload_n hE (by decide +kernel : decode cX11_work 4 = .ok (.iload_n 1, 1)) rfl rfl ?_
  obtain ⟨hk, h⟩ := h
  obtain ⟨g1, hg⟩ : ∃ z, z = sI g 1595 th p0 := ⟨_, rfl⟩; replace h := h g1 hg
  refine j_putI hE fa_X11_398 hk (fun q => by cases q) (by decide +kernel : decode cX11_work 5 = .ok (.putfield 398, 3)) ?_
  rw [← hg]
  refine j_weak [some (.ref th), none, some (.int p1), some (.int p2), some (.int p3), some (.int (0 : Int32)), none] ⟨rfl, ⟨rfl, ⟨rfl, ⟨rfl, ⟨rfl, trivial⟩⟩⟩⟩⟩ ?_
  exact hK8 _ _ _ _ _ _ h
set_option maxHeartbeats 4000000 in
set_option maxRecDepth 100000 in
theorem rl_M_work {Γ : GAM} {l : Launch} {th : Nat} {p0 : Int32} {p1 : Int32} {p2 : Int32} {p3 : Int32} {g : GH} {K : Int32 → GH → Prop} (I8 : Nat → Nat → Int32 → Int32 → Int32 → Int32 → GH → Prop) (hh8 : ∀ n (l0 : Nat) (l2 : Int32) (l3 : Int32) (l4 : Int32) (l5 : Int32) (g : GH), I8 n l0 l2 l3 l4 l5 g → B_M_work_8 Γ (fun l0 l2 l3 l4 l5 g => ∃ m, m < n ∧ I8 m l0 l2 l3 l4 l5 g) K l0 l2 l3 l4 l5 g) (h0 : B_M_work_0 Γ (fun l0 l2 l3 l4 l5 g => ∃ m, I8 m l0 l2 l3 l4 l5 g) K th p0 p1 p2 p3 g) : MetA Γ l yX11_work cX11_work 7 (some (.int)) 5 123 [.ref th, .int p0, .int p1, .int p2, .int p3] g (fun r g' => ∃ x, r = some (.int x) ∧ K x g') := by
  refine MetA.introL (Lx := [some (.ref th), some (.int p0), some (.int p1), some (.int p2), some (.int p3), none, none]) (by decide) (Nat.le_of_ble_eq_true rfl) rfl rfl ?_
  intro E hEl hE hnm
  have hall : ∀ n, (∀ (l0 : Nat) (l2 : Int32) (l3 : Int32) (l4 : Int32) (l5 : Int32) (g : GH), I8 n l0 l2 l3 l4 l5 g → JW Γ E 8 [some (.ref l0), none, some (.int l2), some (.int l3), some (.int l4), some (.int l5), none] [] g) := by
    intro n
    induction n using Nat.strongRecOn with
    | ind n ih =>
      exact fun l0 l2 l3 l4 l5 g hi => S_M_work_8 hE (fun l0 l2 l3 l4 l5 g hm => by obtain ⟨m, hm, h⟩ := hm; exact (ih m hm) l0 l2 l3 l4 l5 g h) l0 l2 l3 l4 l5 g (hh8 n l0 l2 l3 l4 l5 g hi)
  exact S_M_work_0 hE (fun l0 l2 l3 l4 l5 g hm => by obtain ⟨m, h⟩ := hm; exact (hall m) l0 l2 l3 l4 l5 g h) th p0 p1 p2 p3 g h0
theorem mt_M_work {Γ : GAM} {l : Launch} (th : Nat) (p0 : Int32) (p1 : Int32) (p2 : Int32) (p3 : Int32) (g : GH) (K : Int32 → GH → Prop) (h : Sp_M_work Γ th p0 p1 p2 p3 g K) : MetA Γ l yX11_work cX11_work 7 (some (.int)) 5 123 [.ref th, .int p0, .int p1, .int p2, .int p3] g (fun r g' => ∃ x, r = some (.int x) ∧ K x g') := by
  obtain ⟨ma, s, hI, hw, he, c, tm, p, tf, rfl, hW, hE, htm, hty, htl, hcl, hK⟩ := h
  refine rl_M_work (fun n l0 l2 l3 l4 l5 g' => th = l0 ∧ p1 = l2 ∧ p2 = l3 ∧ p3 = l4 ∧ ∃ c' stk pos, n = c'.length ∧ InvW th (fun c => sLet s p1 c p2 p3) (p + (enC c).length + 1) (evC (fun c => sLet s p1 c p2 p3) c) tm c' stk pos l5 g g') ?_ ?_
  · rintro n l0 l2 l3 l4 l5 g' ⟨rfl, rfl, rfl, rfl, c', stk, pos, rfl, hV⟩
    have hV0 := hV
    obtain ⟨h1, h2, h3, ⟨ty, tf', h4, h5, h6⟩, h7, h8, h9, h10, h11⟩ := hV
    have hI' := hI.x h11 (by decide +kernel)
    obtain ⟨hkd, hS⟩ := hI'.1
    obtain ⟨z_codes1, z_codes2, z_codes3, z_codes4, z_codes5⟩ := hS 1582 20 15600 rfl
    obtain ⟨z_pile1, z_pile2, z_pile3, z_pile4, z_pile5⟩ := hS 1594 20 260 rfl
    have hbp := inB_nI (show pos < 15600 by omega) (by omega)
    cases c' with
    | nil =>
      have ht2 : Ia g' 1582 th pos = tm := h1.1
      have hr : tf' = ty := by cases h4; rfl
      have h56 : stk.length ≤ 1 := by rw [h6, ← hr]; exact h5
      have h10' : stk = evC (fun c => sLet s p1 c p2 p3) c := h10
      have hfin : ∀ v g2, FrX th [1569, 1570, 1595] [1594] g' g2 → Gi g2 1595 th = nI (pos + 1) → v = stk.headD 0 → K v g2 := by
        intro v g2 hx hp hv
        have h3' : pos + 0 + 1 = p + (enC c).length + 1 := h3
        have := hK g2 (h11.tr hx) (by rw [hp, ← h3'])
        rw [hv, h10']; exact this
      have hx1 : FrX th [1569, 1570, 1595] [1594] g' (sI g' 1595 th (nI (pos + 1))) := FrX.sI (by decide)
      have hv1 : Gi (sI g' 1595 th (nI (pos + 1))) 1595 th = nI (pos + 1) := by simp only [Gi_sI, Gr_sI, Ia_sI, Ra_sI, La_sI, Kd_sI, Co_sI, Ow_sI, Ln_sI, Lq_sI, Hn_sI, Hu_sI, Gi_sR, Gr_sR, Ia_sR, Ra_sR, La_sR, Kd_sR, Co_sR, Ow_sR, Ln_sR, Lq_sR, Hn_sR, Hu_sR, Gi_sA, Gr_sA, Ia_sA, Ra_sA, La_sA, Kd_sA, Co_sA, Ow_sA, Ln_sA, Lq_sA, Hn_sA, Hu_sA, Gi_sRA, Gr_sRA, Ia_sRA, Ra_sRA, La_sRA, Kd_sRA, Co_sRA, Ow_sRA, Ln_sRA, Lq_sRA, Hn_sRA, Hu_sRA, Gi_sLA, Gr_sLA, Ia_sLA, Ra_sLA, La_sLA, Kd_sLA, Co_sLA, Ow_sLA, Ln_sLA, Lq_sLA, Hn_sLA, Hu_sLA, Gi_sAf, Gr_sAf, Ia_sAf, Ra_sAf, La_sAf, Kd_sAf, Co_sAf, Ow_sAf, Ln_sAf, Lq_sAf, Hn_sAf, Hu_sAf, Gi_sRAf, Gr_sRAf, Ia_sRAf, Ra_sRAf, La_sRAf, Kd_sRAf, Co_sRAf, Ow_sRAf, Ln_sRAf, Lq_sRAf, Hn_sRAf, Hu_sRAf, Gi_sLq, Gr_sLq, Ia_sLq, Ra_sLq, La_sLq, Kd_sLq, Co_sLq, Ow_sLq, Ln_sLq, Lq_sLq, Hn_sLq, Hu_sLq, Gi_nO, Gr_nO, Ia_nO, Ra_nO, La_nO, Kd_nO, Co_nO, Ow_nO, Ln_nO, Lq_nO, Hn_nO, Hu_nO, Gi_nX, Gr_nX, Ia_nX, Ra_nX, La_nX, Kd_nX, Co_nX, Ow_nX, Ln_nX, Lq_nX, Hn_nX, Hu_nX, Gi_nA, Gr_nA, Ia_nA, Ra_nA, La_nA, Kd_nA, Co_nA, Ow_nA, Ln_nA, Lq_nA, Hn_nA, Hu_nA, Gi_mv, Gr_mv, Ia_mv, Ra_mv, La_mv, Kd_mv, Co_mv, Ow_mv, Ln_mv, Lq_mv, Hn_mv, Hu_mv, and_self, if_true]
      have hend : B_M_work_243 Γ (fun l0 l2 l3 l4 l5 g_1 => ∃ m, m < ([] : List Int32).length ∧ th = l0 ∧ p1 = l2 ∧ p2 = l3 ∧ p3 = l4 ∧ ∃ c' stk pos, m = c'.length ∧ InvW th (fun c => sLet s p1 c p2 p3) (p + (enC c).length + 1) (evC (fun c => sLet s p1 c p2 p3) c) tm c' stk pos l5 g g_1) K th l5 g' := by
        simp only [B_M_work_243, B_M_work_268, Gi_sI, Gr_sI, Ia_sI, Ra_sI, La_sI, Kd_sI, Co_sI, Ow_sI, Ln_sI, Lq_sI, Hn_sI, Hu_sI, Gi_sR, Gr_sR, Ia_sR, Ra_sR, La_sR, Kd_sR, Co_sR, Ow_sR, Ln_sR, Lq_sR, Hn_sR, Hu_sR, Gi_sA, Gr_sA, Ia_sA, Ra_sA, La_sA, Kd_sA, Co_sA, Ow_sA, Ln_sA, Lq_sA, Hn_sA, Hu_sA, Gi_sRA, Gr_sRA, Ia_sRA, Ra_sRA, La_sRA, Kd_sRA, Co_sRA, Ow_sRA, Ln_sRA, Lq_sRA, Hn_sRA, Hu_sRA, Gi_sLA, Gr_sLA, Ia_sLA, Ra_sLA, La_sLA, Kd_sLA, Co_sLA, Ow_sLA, Ln_sLA, Lq_sLA, Hn_sLA, Hu_sLA, Gi_sAf, Gr_sAf, Ia_sAf, Ra_sAf, La_sAf, Kd_sAf, Co_sAf, Ow_sAf, Ln_sAf, Lq_sAf, Hn_sAf, Hu_sAf, Gi_sRAf, Gr_sRAf, Ia_sRAf, Ra_sRAf, La_sRAf, Kd_sRAf, Co_sRAf, Ow_sRAf, Ln_sRAf, Lq_sRAf, Hn_sRAf, Hu_sRAf, Gi_sLq, Gr_sLq, Ia_sLq, Ra_sLq, La_sLq, Kd_sLq, Co_sLq, Ow_sLq, Ln_sLq, Lq_sLq, Hn_sLq, Hu_sLq, Gi_nO, Gr_nO, Ia_nO, Ra_nO, La_nO, Kd_nO, Co_nO, Ow_nO, Ln_nO, Lq_nO, Hn_nO, Hu_nO, Gi_nX, Gr_nX, Ia_nX, Ra_nX, La_nX, Kd_nX, Co_nX, Ow_nX, Ln_nX, Lq_nX, Hn_nX, Hu_nX, Gi_nA, Gr_nA, Ia_nA, Ra_nA, La_nA, Kd_nA, Co_nA, Ow_nA, Ln_nA, Lq_nA, Hn_nA, Hu_nA, Gi_mv, Gr_mv, Ia_mv, Ra_mv, La_mv, Kd_mv, Co_mv, Ow_mv, Ln_mv, Lq_mv, Hn_mv, Hu_mv, z_codes1, z_codes2, z_codes3, z_codes4, z_codes5, z_pile1, z_pile2, z_pile3, z_pile4, z_pile5, hkd, h2, nj_s, forall_eq, true_and, Option.some.injEq, exists_eq_left']
        refine ⟨fun q => ?_, fun q => hfin _ _ hx1 hv1 ?_⟩
        · match stk, h8, h56, h9 with
          | [], _, _, h9 => exact absurd h9 q
          | x :: t, h8, h56, _ =>
            have ht : t.length = 0 := by simp only [List.length_cons] at h56; omega
            have : Ia g' 1594 th 0 = x := by rw [← ht]; exact h8.1
            exact ⟨inB_nI (k := 0) (by omega) (by omega), hfin _ _ hx1 hv1 this⟩
        · match stk, h9, h56 with
          | [], _, _ => rfl
          | x :: t, h9, h56 =>
            exfalso
            have ht : t.length = 0 := by simp only [List.length_cons] at h56; omega
            rw [h9] at q
            simp only [List.length_cons, ht] at q
            revert q; decide
      unfold B_M_work_8
      simp only [hkd, z_codes1, z_codes2, z_codes3, z_codes4, z_codes5, z_pile1, z_pile2, z_pile3, z_pile4, z_pile5, h2, hbp, nj_cl (show pos < 2147483648 by omega), ht2, true_and, Option.some.injEq, exists_eq_left']
      exact ⟨fun _ => hend, fun q => ⟨fun _ => hend, fun q2 => absurd htm (by simp [q, q2])⟩⟩
    | cons w c' =>
      suffices H : ∀ K8 : Nat → Int32 → Int32 → Int32 → Int32 → GH → Prop, (∀ stk' pos' l5' g2, InvW th (fun c => sLet s p1 c p2 p3) (p + (enC c).length + 1) (evC (fun c => sLet s p1 c p2 p3) c) tm c' stk' pos' l5' g g2 → K8 th p1 p2 p3 l5' g2) → B_M_work_8 Γ K8 K th p1 p2 p3 l5 g' from H _ (fun stk' pos' l5' g2 h => ⟨c'.length, by simp, rfl, rfl, rfl, rfl, c', stk', pos', rfl, h⟩)
      intro K8 hnext
      have h4' : (match tyW w ty with | none => none | some t => tyC c' t) = some tf' := h4
      rw [show enC (w :: c') = enW w ++ enC c' from rfl] at h1 h3
      simp only [List.length_cons] at h7
      cases hty1 : tyW w ty with
      | none => rw [hty1] at h4'; cases h4'
      | some t1 =>
      have hcs := tyW_cs hty1
      have hbs := inB_nI (show stk.length < 260 by omega) (by omega)
      have hps : (pos : Nat) < 2147483648 := by omega
      rcases hcs with ⟨c1, c2, _⟩ | ⟨c1, c2, c3, _⟩ | ⟨c1, c2, c3, r, hr, _⟩ | ⟨c1, c2, c3, r, hr, _⟩ | hbin
      · have hen : enW w = [0, w] := if_pos c1
        rw [hen] at h1 h3
        have d0 : Ia g' 1582 th pos = 0 := h1.1
        have d1 : Ia g' 1582 th (pos + 1) = w := h1.2.1
        simp only [List.length_append, List.length_cons, List.length_nil] at h3
        have hb1 := inB_nI (show pos + 1 < 15600 by omega) (by omega)
        have hK8 := hnext _ _ _ _ (hV0.push (.inl hen) (by unfold evW; rw [if_pos c1]) FrX.rf)
        unfold B_M_work_8
        simp (decide := true) only [Gi_sI, Gr_sI, Ia_sI, Ra_sI, La_sI, Kd_sI, Co_sI, Ow_sI, Ln_sI, Lq_sI, Hn_sI, Hu_sI, Gi_sR, Gr_sR, Ia_sR, Ra_sR, La_sR, Kd_sR, Co_sR, Ow_sR, Ln_sR, Lq_sR, Hn_sR, Hu_sR, Gi_sA, Gr_sA, Ia_sA, Ra_sA, La_sA, Kd_sA, Co_sA, Ow_sA, Ln_sA, Lq_sA, Hn_sA, Hu_sA, Gi_sRA, Gr_sRA, Ia_sRA, Ra_sRA, La_sRA, Kd_sRA, Co_sRA, Ow_sRA, Ln_sRA, Lq_sRA, Hn_sRA, Hu_sRA, Gi_sLA, Gr_sLA, Ia_sLA, Ra_sLA, La_sLA, Kd_sLA, Co_sLA, Ow_sLA, Ln_sLA, Lq_sLA, Hn_sLA, Hu_sLA, Gi_sAf, Gr_sAf, Ia_sAf, Ra_sAf, La_sAf, Kd_sAf, Co_sAf, Ow_sAf, Ln_sAf, Lq_sAf, Hn_sAf, Hu_sAf, Gi_sRAf, Gr_sRAf, Ia_sRAf, Ra_sRAf, La_sRAf, Kd_sRAf, Co_sRAf, Ow_sRAf, Ln_sRAf, Lq_sRAf, Hn_sRAf, Hu_sRAf, Gi_sLq, Gr_sLq, Ia_sLq, Ra_sLq, La_sLq, Kd_sLq, Co_sLq, Ow_sLq, Ln_sLq, Lq_sLq, Hn_sLq, Hu_sLq, Gi_nO, Gr_nO, Ia_nO, Ra_nO, La_nO, Kd_nO, Co_nO, Ow_nO, Ln_nO, Lq_nO, Hn_nO, Hu_nO, Gi_nX, Gr_nX, Ia_nX, Ra_nX, La_nX, Kd_nX, Co_nX, Ow_nX, Ln_nX, Lq_nX, Hn_nX, Hu_nX, Gi_nA, Gr_nA, Ia_nA, Ra_nA, La_nA, Kd_nA, Co_nA, Ow_nA, Ln_nA, Lq_nA, Hn_nA, Hu_nA, Gi_mv, Gr_mv, Ia_mv, Ra_mv, La_mv, Kd_mv, Co_mv, Ow_mv, Ln_mv, Lq_mv, Hn_mv, Hu_mv, z_codes1, z_codes2, z_codes3, z_codes4, z_codes5, z_pile1, z_pile2, z_pile3, z_pile4, z_pile5, hkd, h2, hbp, hb1, hbs, h9, nj_s, nj_cl hps, nj_cl (show pos + 1 < 2147483648 by omega), nj_cl (show stk.length < 2147483648 by omega), d0, d1, forall_eq, true_and, Option.some.injEq, exists_eq_left', not_true_eq_false, false_implies, not_false_eq_true, true_implies, and_true, and_self, if_true, if_false]
        exact hK8
      · have hen : enW w = [1, -w] := by unfold enW; rw [if_neg c1, if_pos c2]
        rw [hen] at h1 h3
        have d0 : Ia g' 1582 th pos = 1 := h1.1
        have d1 : Ia g' 1582 th (pos + 1) = -w := h1.2.1
        simp only [List.length_append, List.length_cons, List.length_nil] at h3
        have hb1 := inB_nI (show pos + 1 < 15600 by omega) (by omega)
        unfold B_M_work_8
        simp (decide := true) only [Gi_sI, Gr_sI, Ia_sI, Ra_sI, La_sI, Kd_sI, Co_sI, Ow_sI, Ln_sI, Lq_sI, Hn_sI, Hu_sI, Gi_sR, Gr_sR, Ia_sR, Ra_sR, La_sR, Kd_sR, Co_sR, Ow_sR, Ln_sR, Lq_sR, Hn_sR, Hu_sR, Gi_sA, Gr_sA, Ia_sA, Ra_sA, La_sA, Kd_sA, Co_sA, Ow_sA, Ln_sA, Lq_sA, Hn_sA, Hu_sA, Gi_sRA, Gr_sRA, Ia_sRA, Ra_sRA, La_sRA, Kd_sRA, Co_sRA, Ow_sRA, Ln_sRA, Lq_sRA, Hn_sRA, Hu_sRA, Gi_sLA, Gr_sLA, Ia_sLA, Ra_sLA, La_sLA, Kd_sLA, Co_sLA, Ow_sLA, Ln_sLA, Lq_sLA, Hn_sLA, Hu_sLA, Gi_sAf, Gr_sAf, Ia_sAf, Ra_sAf, La_sAf, Kd_sAf, Co_sAf, Ow_sAf, Ln_sAf, Lq_sAf, Hn_sAf, Hu_sAf, Gi_sRAf, Gr_sRAf, Ia_sRAf, Ra_sRAf, La_sRAf, Kd_sRAf, Co_sRAf, Ow_sRAf, Ln_sRAf, Lq_sRAf, Hn_sRAf, Hu_sRAf, Gi_sLq, Gr_sLq, Ia_sLq, Ra_sLq, La_sLq, Kd_sLq, Co_sLq, Ow_sLq, Ln_sLq, Lq_sLq, Hn_sLq, Hu_sLq, Gi_nO, Gr_nO, Ia_nO, Ra_nO, La_nO, Kd_nO, Co_nO, Ow_nO, Ln_nO, Lq_nO, Hn_nO, Hu_nO, Gi_nX, Gr_nX, Ia_nX, Ra_nX, La_nX, Kd_nX, Co_nX, Ow_nX, Ln_nX, Lq_nX, Hn_nX, Hu_nX, Gi_nA, Gr_nA, Ia_nA, Ra_nA, La_nA, Kd_nA, Co_nA, Ow_nA, Ln_nA, Lq_nA, Hn_nA, Hu_nA, Gi_mv, Gr_mv, Ia_mv, Ra_mv, La_mv, Kd_mv, Co_mv, Ow_mv, Ln_mv, Lq_mv, Hn_mv, Hu_mv, z_codes1, z_codes2, z_codes3, z_codes4, z_codes5, z_pile1, z_pile2, z_pile3, z_pile4, z_pile5, hkd, h2, hbp, hb1, hbs, h9, nj_s, nj_cl hps, nj_cl (show pos + 1 < 2147483648 by omega), nj_cl (show stk.length < 2147483648 by omega), d0, d1, forall_eq, true_and, Option.some.injEq, exists_eq_left', not_true_eq_false, false_implies, not_false_eq_true, true_implies, and_true, and_self, if_true, if_false]
        refine ⟨ma, s, hI'.x (FrX.sI (f := 1595) (fs := [1595]) (cs := []) (by decide)) (by decide +kernel), hw, he, fun g6 hx6 => ?_⟩
        have hK8 := hnext _ _ _ _ (hV0.push (.inr hen) (v := sLet s p1 (-w) p2 p3) (by unfold evW; rw [if_neg c1, if_pos c2]) hx6)
        have hI6 := (hI'.x (FrX.sI (f := 1595) (fs := [1595]) (cs := []) (v := nI (pos + 1)) (by decide)) (by decide +kernel)).x hx6 (by decide +kernel)
        obtain ⟨hkd6, hS6⟩ := hI6.1
        obtain ⟨z_codes1, z_codes2, z_codes3, z_codes4, z_codes5⟩ := hS6 1582 20 15600 rfl
        obtain ⟨z_pile1, z_pile2, z_pile3, z_pile4, z_pile5⟩ := hS6 1594 20 260 rfl
        have hp6 : Gi g6 1595 th = nI (pos + 1) := by rw [hx6.2.1 1595 (by decide)]; simp [Gi_sI]
        simp (decide := true) only [Gi_sI, Gr_sI, Ia_sI, Ra_sI, La_sI, Kd_sI, Co_sI, Ow_sI, Ln_sI, Lq_sI, Hn_sI, Hu_sI, Gi_sR, Gr_sR, Ia_sR, Ra_sR, La_sR, Kd_sR, Co_sR, Ow_sR, Ln_sR, Lq_sR, Hn_sR, Hu_sR, Gi_sA, Gr_sA, Ia_sA, Ra_sA, La_sA, Kd_sA, Co_sA, Ow_sA, Ln_sA, Lq_sA, Hn_sA, Hu_sA, Gi_sRA, Gr_sRA, Ia_sRA, Ra_sRA, La_sRA, Kd_sRA, Co_sRA, Ow_sRA, Ln_sRA, Lq_sRA, Hn_sRA, Hu_sRA, Gi_sLA, Gr_sLA, Ia_sLA, Ra_sLA, La_sLA, Kd_sLA, Co_sLA, Ow_sLA, Ln_sLA, Lq_sLA, Hn_sLA, Hu_sLA, Gi_sAf, Gr_sAf, Ia_sAf, Ra_sAf, La_sAf, Kd_sAf, Co_sAf, Ow_sAf, Ln_sAf, Lq_sAf, Hn_sAf, Hu_sAf, Gi_sRAf, Gr_sRAf, Ia_sRAf, Ra_sRAf, La_sRAf, Kd_sRAf, Co_sRAf, Ow_sRAf, Ln_sRAf, Lq_sRAf, Hn_sRAf, Hu_sRAf, Gi_sLq, Gr_sLq, Ia_sLq, Ra_sLq, La_sLq, Kd_sLq, Co_sLq, Ow_sLq, Ln_sLq, Lq_sLq, Hn_sLq, Hu_sLq, Gi_nO, Gr_nO, Ia_nO, Ra_nO, La_nO, Kd_nO, Co_nO, Ow_nO, Ln_nO, Lq_nO, Hn_nO, Hu_nO, Gi_nX, Gr_nX, Ia_nX, Ra_nX, La_nX, Kd_nX, Co_nX, Ow_nX, Ln_nX, Lq_nX, Hn_nX, Hu_nX, Gi_nA, Gr_nA, Ia_nA, Ra_nA, La_nA, Kd_nA, Co_nA, Ow_nA, Ln_nA, Lq_nA, Hn_nA, Hu_nA, Gi_mv, Gr_mv, Ia_mv, Ra_mv, La_mv, Kd_mv, Co_mv, Ow_mv, Ln_mv, Lq_mv, Hn_mv, Hu_mv, z_codes1, z_codes2, z_codes3, z_codes4, z_codes5, z_pile1, z_pile2, z_pile3, z_pile4, z_pile5, hkd6, hp6, hbs, nj_s, forall_eq, true_and, and_self, if_true, nj_cl (show stk.length < 2147483648 by omega)]
        exact hK8
      · have hen : enW w = [-w] := by unfold enW; rw [if_neg c1, if_neg c2]
        rw [hen] at h1 h3
        have d0 : Ia g' 1582 th pos = -w := h1.1
        rw [c3] at d0
        match stk, hr, h6, h8, h9, h7, hV0 with
        | x :: t, hr, h6, h8, h9, h7, hV0 =>
        have hq := fun v hv => hnext _ _ _ _ (hV0.put hen (v := v) (t := t) hv h8.2)
        have hev : evW (fun c => sLet s p1 c p2 p3) w (x :: t) = (if x = 0 then 1 else 0) :: t := by unfold evW; rw [if_neg c1, if_neg c2, if_pos c3]
        simp only [List.length_cons] at h7 h9
        have hbt := inB_nI (show t.length < 260 by omega) (by omega)
        have hx : Ia g' 1594 th t.length = x := h8.1
        subst h9
        unfold B_M_work_8
        simp (decide := true) only [B_M_work_203, Gi_sI, Gr_sI, Ia_sI, Ra_sI, La_sI, Kd_sI, Co_sI, Ow_sI, Ln_sI, Lq_sI, Hn_sI, Hu_sI, Gi_sR, Gr_sR, Ia_sR, Ra_sR, La_sR, Kd_sR, Co_sR, Ow_sR, Ln_sR, Lq_sR, Hn_sR, Hu_sR, Gi_sA, Gr_sA, Ia_sA, Ra_sA, La_sA, Kd_sA, Co_sA, Ow_sA, Ln_sA, Lq_sA, Hn_sA, Hu_sA, Gi_sRA, Gr_sRA, Ia_sRA, Ra_sRA, La_sRA, Kd_sRA, Co_sRA, Ow_sRA, Ln_sRA, Lq_sRA, Hn_sRA, Hu_sRA, Gi_sLA, Gr_sLA, Ia_sLA, Ra_sLA, La_sLA, Kd_sLA, Co_sLA, Ow_sLA, Ln_sLA, Lq_sLA, Hn_sLA, Hu_sLA, Gi_sAf, Gr_sAf, Ia_sAf, Ra_sAf, La_sAf, Kd_sAf, Co_sAf, Ow_sAf, Ln_sAf, Lq_sAf, Hn_sAf, Hu_sAf, Gi_sRAf, Gr_sRAf, Ia_sRAf, Ra_sRAf, La_sRAf, Kd_sRAf, Co_sRAf, Ow_sRAf, Ln_sRAf, Lq_sRAf, Hn_sRAf, Hu_sRAf, Gi_sLq, Gr_sLq, Ia_sLq, Ra_sLq, La_sLq, Kd_sLq, Co_sLq, Ow_sLq, Ln_sLq, Lq_sLq, Hn_sLq, Hu_sLq, Gi_nO, Gr_nO, Ia_nO, Ra_nO, La_nO, Kd_nO, Co_nO, Ow_nO, Ln_nO, Lq_nO, Hn_nO, Hu_nO, Gi_nX, Gr_nX, Ia_nX, Ra_nX, La_nX, Kd_nX, Co_nX, Ow_nX, Ln_nX, Lq_nX, Hn_nX, Hu_nX, Gi_nA, Gr_nA, Ia_nA, Ra_nA, La_nA, Kd_nA, Co_nA, Ow_nA, Ln_nA, Lq_nA, Hn_nA, Hu_nA, Gi_mv, Gr_mv, Ia_mv, Ra_mv, La_mv, Kd_mv, Co_mv, Ow_mv, Ln_mv, Lq_mv, Hn_mv, Hu_mv, z_codes1, z_codes2, z_codes3, z_codes4, z_codes5, z_pile1, z_pile2, z_pile3, z_pile4, z_pile5, hkd, h2, hbp, hbt, hx, nj_s, nj_p, nj_cl hps, nj_cl (show t.length < 2147483648 by omega), d0, forall_eq, true_and, Option.some.injEq, exists_eq_left', not_true_eq_false, false_implies, not_false_eq_true, true_implies, and_true, and_self, if_true, if_false]
        exact ⟨fun q => hq 0 (by rw [hev, if_neg q]), fun q => hq 1 (by rw [hev, if_pos q])⟩
      · have hen : enW w = [-w] := by unfold enW; rw [if_neg c1, if_neg c2]
        rw [hen] at h1 h3
        have d0 : Ia g' 1582 th pos = -w := h1.1
        rw [c3] at d0
        match stk, hr, h6, h8, h9, h7, hV0 with
        | x :: t, hr, h6, h8, h9, h7, hV0 =>
        have hev : evW (fun c => sLet s p1 c p2 p3) w (x :: t) = sBnd ((-x).toInt64) :: t := by unfold evW; rw [if_neg c1, if_neg c2, if_neg (by rw [c3]; decide), if_pos c3]
        have hq := hnext _ _ _ _ (hV0.put hen hev h8.2)
        simp only [List.length_cons] at h7 h9
        have hbt := inB_nI (show t.length < 260 by omega) (by omega)
        have hx : Ia g' 1594 th t.length = x := h8.1
        subst h9
        unfold B_M_work_8
        simp (decide := true) only [B_M_work_145, Sp_M_bounded, Gi_sI, Gr_sI, Ia_sI, Ra_sI, La_sI, Kd_sI, Co_sI, Ow_sI, Ln_sI, Lq_sI, Hn_sI, Hu_sI, Gi_sR, Gr_sR, Ia_sR, Ra_sR, La_sR, Kd_sR, Co_sR, Ow_sR, Ln_sR, Lq_sR, Hn_sR, Hu_sR, Gi_sA, Gr_sA, Ia_sA, Ra_sA, La_sA, Kd_sA, Co_sA, Ow_sA, Ln_sA, Lq_sA, Hn_sA, Hu_sA, Gi_sRA, Gr_sRA, Ia_sRA, Ra_sRA, La_sRA, Kd_sRA, Co_sRA, Ow_sRA, Ln_sRA, Lq_sRA, Hn_sRA, Hu_sRA, Gi_sLA, Gr_sLA, Ia_sLA, Ra_sLA, La_sLA, Kd_sLA, Co_sLA, Ow_sLA, Ln_sLA, Lq_sLA, Hn_sLA, Hu_sLA, Gi_sAf, Gr_sAf, Ia_sAf, Ra_sAf, La_sAf, Kd_sAf, Co_sAf, Ow_sAf, Ln_sAf, Lq_sAf, Hn_sAf, Hu_sAf, Gi_sRAf, Gr_sRAf, Ia_sRAf, Ra_sRAf, La_sRAf, Kd_sRAf, Co_sRAf, Ow_sRAf, Ln_sRAf, Lq_sRAf, Hn_sRAf, Hu_sRAf, Gi_sLq, Gr_sLq, Ia_sLq, Ra_sLq, La_sLq, Kd_sLq, Co_sLq, Ow_sLq, Ln_sLq, Lq_sLq, Hn_sLq, Hu_sLq, Gi_nO, Gr_nO, Ia_nO, Ra_nO, La_nO, Kd_nO, Co_nO, Ow_nO, Ln_nO, Lq_nO, Hn_nO, Hu_nO, Gi_nX, Gr_nX, Ia_nX, Ra_nX, La_nX, Kd_nX, Co_nX, Ow_nX, Ln_nX, Lq_nX, Hn_nX, Hu_nX, Gi_nA, Gr_nA, Ia_nA, Ra_nA, La_nA, Kd_nA, Co_nA, Ow_nA, Ln_nA, Lq_nA, Hn_nA, Hu_nA, Gi_mv, Gr_mv, Ia_mv, Ra_mv, La_mv, Kd_mv, Co_mv, Ow_mv, Ln_mv, Lq_mv, Hn_mv, Hu_mv, z_codes1, z_codes2, z_codes3, z_codes4, z_codes5, z_pile1, z_pile2, z_pile3, z_pile4, z_pile5, hkd, h2, hbp, hbt, hx, nj_s, nj_p, nj_cl hps, nj_cl (show t.length < 2147483648 by omega), d0, forall_eq, true_and, Option.some.injEq, exists_eq_left', not_true_eq_false, false_implies, not_false_eq_true, true_implies, and_true, and_self, if_true, if_false]
        exact hq
      · have hop : ¬ 0 ≤ w ∧ ¬ (97 ≤ -w ∧ -w ≤ 122) ∧ -w ≠ 0 ∧ -w ≠ 1 ∧ -w ≠ 2 ∧ -w ≠ 3 ∧ -w ≠ 33 ∧ -w ≠ 126 ∧ ∃ a b r, ty = a :: b :: r := by
          rcases hbin with ⟨c1, c2, c3, r, hr, _⟩ | ⟨c1, c2, c3, r, hr, _⟩ | ⟨c1, c2, c3, r, hr, _⟩ <;> refine ⟨c1, c2, ?_, ?_, ?_, ?_, ?_, ?_, _, _, _, hr⟩ <;> grind
        obtain ⟨c1, c2, n0, n1, n2, n3, n33, n126, aa, bb, r, hr⟩ := hop
        have hen : enW w = [-w] := by unfold enW; rw [if_neg c1, if_neg c2]
        rw [hen] at h1 h3
        have d0 : Ia g' 1582 th pos = -w := h1.1
        rw [hr] at h6
        match stk, h6, h8, h9, h7, hV0 with
        | y :: x :: t, h6, h8, h9, h7, hV0 =>
        have hev : evW (fun c => sLet s p1 c p2 p3) w (y :: x :: t) = sBoth (-w) x y :: t := by unfold evW; rw [if_neg c1, if_neg c2, if_neg n33, if_neg n126]
        have hq := hnext _ _ _ _ (hV0.put hen hev h8.2.2)
        simp only [List.length_cons] at h7 h9
        have hbt := inB_nI (show t.length < 260 by omega) (by omega)
        have hbt1 := inB_nI (show t.length + 1 < 260 by omega) (by omega)
        have hy : Ia g' 1594 th (t.length + 1) = y := h8.1
        have hx : Ia g' 1594 th t.length = x := h8.2.1
        subst h9
        unfold B_M_work_8
        simp (decide := true) only [n0, n1, n2, n3, n33, n126, Sp_M_both, Gi_sI, Gr_sI, Ia_sI, Ra_sI, La_sI, Kd_sI, Co_sI, Ow_sI, Ln_sI, Lq_sI, Hn_sI, Hu_sI, Gi_sR, Gr_sR, Ia_sR, Ra_sR, La_sR, Kd_sR, Co_sR, Ow_sR, Ln_sR, Lq_sR, Hn_sR, Hu_sR, Gi_sA, Gr_sA, Ia_sA, Ra_sA, La_sA, Kd_sA, Co_sA, Ow_sA, Ln_sA, Lq_sA, Hn_sA, Hu_sA, Gi_sRA, Gr_sRA, Ia_sRA, Ra_sRA, La_sRA, Kd_sRA, Co_sRA, Ow_sRA, Ln_sRA, Lq_sRA, Hn_sRA, Hu_sRA, Gi_sLA, Gr_sLA, Ia_sLA, Ra_sLA, La_sLA, Kd_sLA, Co_sLA, Ow_sLA, Ln_sLA, Lq_sLA, Hn_sLA, Hu_sLA, Gi_sAf, Gr_sAf, Ia_sAf, Ra_sAf, La_sAf, Kd_sAf, Co_sAf, Ow_sAf, Ln_sAf, Lq_sAf, Hn_sAf, Hu_sAf, Gi_sRAf, Gr_sRAf, Ia_sRAf, Ra_sRAf, La_sRAf, Kd_sRAf, Co_sRAf, Ow_sRAf, Ln_sRAf, Lq_sRAf, Hn_sRAf, Hu_sRAf, Gi_sLq, Gr_sLq, Ia_sLq, Ra_sLq, La_sLq, Kd_sLq, Co_sLq, Ow_sLq, Ln_sLq, Lq_sLq, Hn_sLq, Hu_sLq, Gi_nO, Gr_nO, Ia_nO, Ra_nO, La_nO, Kd_nO, Co_nO, Ow_nO, Ln_nO, Lq_nO, Hn_nO, Hu_nO, Gi_nX, Gr_nX, Ia_nX, Ra_nX, La_nX, Kd_nX, Co_nX, Ow_nX, Ln_nX, Lq_nX, Hn_nX, Hu_nX, Gi_nA, Gr_nA, Ia_nA, Ra_nA, La_nA, Kd_nA, Co_nA, Ow_nA, Ln_nA, Lq_nA, Hn_nA, Hu_nA, Gi_mv, Gr_mv, Ia_mv, Ra_mv, La_mv, Kd_mv, Co_mv, Ow_mv, Ln_mv, Lq_mv, Hn_mv, Hu_mv, z_codes1, z_codes2, z_codes3, z_codes4, z_codes5, z_pile1, z_pile2, z_pile3, z_pile4, z_pile5, hkd, h2, hbp, hbt, hbt1, hx, hy, nj_s, nj_p, nj_m, nj_cl hps, nj_cl (show t.length < 2147483648 by omega), nj_cl (show t.length + 1 < 2147483648 by omega), d0, forall_eq, true_and, Option.some.injEq, exists_eq_left', not_true_eq_false, false_implies, not_false_eq_true, true_implies, and_true, and_self, if_true, if_false]
        exact hq
  · unfold B_M_work_0
    obtain ⟨hkd, hS⟩ := hI.1
    refine ⟨hkd, ?_⟩
    rintro _ rfl
    refine ⟨_, rfl, rfl, rfl, rfl, c, [], p, rfl, ?_⟩
    refine ⟨by simpa only [Gi_sI, Gr_sI, Ia_sI, Ra_sI, La_sI, Kd_sI, Co_sI, Ow_sI, Ln_sI, Lq_sI, Hn_sI, Hu_sI, Gi_sR, Gr_sR, Ia_sR, Ra_sR, La_sR, Kd_sR, Co_sR, Ow_sR, Ln_sR, Lq_sR, Hn_sR, Hu_sR, Gi_sA, Gr_sA, Ia_sA, Ra_sA, La_sA, Kd_sA, Co_sA, Ow_sA, Ln_sA, Lq_sA, Hn_sA, Hu_sA, Gi_sRA, Gr_sRA, Ia_sRA, Ra_sRA, La_sRA, Kd_sRA, Co_sRA, Ow_sRA, Ln_sRA, Lq_sRA, Hn_sRA, Hu_sRA, Gi_sLA, Gr_sLA, Ia_sLA, Ra_sLA, La_sLA, Kd_sLA, Co_sLA, Ow_sLA, Ln_sLA, Lq_sLA, Hn_sLA, Hu_sLA, Gi_sAf, Gr_sAf, Ia_sAf, Ra_sAf, La_sAf, Kd_sAf, Co_sAf, Ow_sAf, Ln_sAf, Lq_sAf, Hn_sAf, Hu_sAf, Gi_sRAf, Gr_sRAf, Ia_sRAf, Ra_sRAf, La_sRAf, Kd_sRAf, Co_sRAf, Ow_sRAf, Ln_sRAf, Lq_sRAf, Hn_sRAf, Hu_sRAf, Gi_sLq, Gr_sLq, Ia_sLq, Ra_sLq, La_sLq, Kd_sLq, Co_sLq, Ow_sLq, Ln_sLq, Lq_sLq, Hn_sLq, Hu_sLq, Gi_nO, Gr_nO, Ia_nO, Ra_nO, La_nO, Kd_nO, Co_nO, Ow_nO, Ln_nO, Lq_nO, Hn_nO, Hu_nO, Gi_nX, Gr_nX, Ia_nX, Ra_nX, La_nX, Kd_nX, Co_nX, Ow_nX, Ln_nX, Lq_nX, Hn_nX, Hu_nX, Gi_nA, Gr_nA, Ia_nA, Ra_nA, La_nA, Kd_nA, Co_nA, Ow_nA, Ln_nA, Lq_nA, Hn_nA, Hu_nA, Gi_mv, Gr_mv, Ia_mv, Ra_mv, La_mv, Kd_mv, Co_mv, Ow_mv, Ln_mv, Lq_mv, Hn_mv, Hu_mv] using hW, by simp only [Gi_sI, Gr_sI, Ia_sI, Ra_sI, La_sI, Kd_sI, Co_sI, Ow_sI, Ln_sI, Lq_sI, Hn_sI, Hu_sI, Gi_sR, Gr_sR, Ia_sR, Ra_sR, La_sR, Kd_sR, Co_sR, Ow_sR, Ln_sR, Lq_sR, Hn_sR, Hu_sR, Gi_sA, Gr_sA, Ia_sA, Ra_sA, La_sA, Kd_sA, Co_sA, Ow_sA, Ln_sA, Lq_sA, Hn_sA, Hu_sA, Gi_sRA, Gr_sRA, Ia_sRA, Ra_sRA, La_sRA, Kd_sRA, Co_sRA, Ow_sRA, Ln_sRA, Lq_sRA, Hn_sRA, Hu_sRA, Gi_sLA, Gr_sLA, Ia_sLA, Ra_sLA, La_sLA, Kd_sLA, Co_sLA, Ow_sLA, Ln_sLA, Lq_sLA, Hn_sLA, Hu_sLA, Gi_sAf, Gr_sAf, Ia_sAf, Ra_sAf, La_sAf, Kd_sAf, Co_sAf, Ow_sAf, Ln_sAf, Lq_sAf, Hn_sAf, Hu_sAf, Gi_sRAf, Gr_sRAf, Ia_sRAf, Ra_sRAf, La_sRAf, Kd_sRAf, Co_sRAf, Ow_sRAf, Ln_sRAf, Lq_sRAf, Hn_sRAf, Hu_sRAf, Gi_sLq, Gr_sLq, Ia_sLq, Ra_sLq, La_sLq, Kd_sLq, Co_sLq, Ow_sLq, Ln_sLq, Lq_sLq, Hn_sLq, Hu_sLq, Gi_nO, Gr_nO, Ia_nO, Ra_nO, La_nO, Kd_nO, Co_nO, Ow_nO, Ln_nO, Lq_nO, Hn_nO, Hu_nO, Gi_nX, Gr_nX, Ia_nX, Ra_nX, La_nX, Kd_nX, Co_nX, Ow_nX, Ln_nX, Lq_nX, Hn_nX, Hu_nX, Gi_nA, Gr_nA, Ia_nA, Ra_nA, La_nA, Kd_nA, Co_nA, Ow_nA, Ln_nA, Lq_nA, Hn_nA, Hu_nA, Gi_mv, Gr_mv, Ia_mv, Ra_mv, La_mv, Kd_mv, Co_mv, Ow_mv, Ln_mv, Lq_mv, Hn_mv, Hu_mv, and_self, if_true], rfl, ⟨[], tf, hty, htl, rfl⟩, by simpa using hcl, trivial, rfl, rfl, FrX.sI (by decide)⟩
