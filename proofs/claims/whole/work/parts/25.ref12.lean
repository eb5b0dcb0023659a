/-! the reference: the judgement of one envelope -/
theorem Wds_rule {a : Nat → Int32} {r : List Int32 × Int32 × List Int32} {rs : List (List Int32 × Int32 × List Int32)} {p : Nat} (h : Wds a (enL (r :: rs)) p) : Wds a (enC r.1 ++ [2]) p ∧ a (p + (enC r.1).length + 1) = r.2.1 ∧ Wds a (enC r.2.2 ++ [3]) (p + (enC r.1).length + 1 + 1) ∧ Wds a (enL rs) (p + (enC r.1).length + 1 + 1 + (enC r.2.2).length + 1) := by
  have he : enL (r :: rs) = enC r.1 ++ ([2] ++ ([r.2.1] ++ (enC r.2.2 ++ ([3] ++ enL rs)))) := by
    show enR r ++ enL rs = _
    unfold enR
    simp only [List.append_assoc, List.cons_append, List.nil_append]
  rw [he] at h
  rw [Wds_app, Wds_app, Wds_app, Wds_app, Wds_app] at h
  obtain ⟨h1, h2, h3, h4, h5, h6⟩ := h
  exact ⟨Wds_app.mpr ⟨h1, h2⟩, h3.1, Wds_app.mpr ⟨h4, h5⟩, h6⟩
theorem enL_len (r : List Int32 × Int32 × List Int32) (rs : List (List Int32 × Int32 × List Int32)) : (enL (r :: rs)).length = (enC r.1).length + 1 + 1 + (enC r.2.2).length + 1 + (enL rs).length := by
  show (enR r ++ enL rs).length = _
  unfold enR
  simp only [List.length_append, List.length_cons, List.length_nil]
theorem enL_ge : ∀ rs : List (List Int32 × Int32 × List Int32), rs.length ≤ (enL rs).length := by
  intro rs
  induction rs with
  | nil => exact Nat.le_refl _
  | cons r rs ih => rw [enL_len, List.length_cons]; omega
def sVer (s : ST) (e q what v k : Int32) : Int32 × Int32 × Int32 :=
  if what = 103 then (2, -1, k) else if what = 119 then (3, -1, k) else if what = 118 then (4, v, k)
  else if ¬ sDay s e 6 q = -1 ∧ ¬ v < sDay s e 6 q then (2, -1, k) else if v < q then (4, 9990, k) else (3, -1, k)
def sRule (s : ST) (e q ahead : Int32) (rs : List (List Int32 × Int32 × List Int32)) (k : Nat) : Int32 × Int32 × Int32 := match rs with
  | [] => (4, 9991, -1)
  | r :: rs => if sEval (fun c => sLet s e c q ahead) r.1 = 0 then sRule s e q ahead rs (k + 1) else sVer s e q r.2.1 (sEval (fun c => sLet s e c q ahead) r.2.2) (nI k)
def sOne (s : ST) (e q ahead : Int32) : Int32 × Int32 × Int32 := match sLaw s (sShire s (sEnv s e).1.toNatClampNeg (sCome s e q).1 q) (sCome s e q).1 q with
  | none => (3, -1, -1)
  | some p => sRule s e q ahead p.2.2.2.2 0
def Sp_M_judgeOne (Γ : GAM) (m : Nat) (e q ahead : Int32) (g : GH) (K : GH → Prop) : Prop := ∃ ma s, RefI m ma g s ∧ WF s ∧ eOk s e ∧ Ia g 1600 m e.toNatClampNeg = (sCome s e q).1 ∧ Ia g 1597 m e.toNatClampNeg = -1 ∧ Ia g 1598 m e.toNatClampNeg = -1 ∧
  ∀ g', FrX m [1569, 1570, 1595] [1594, 1596, 1597, 1598] g g' → (∀ c i, c ≠ 1594 → i ≠ e.toNatClampNeg → Ia g' c m i = Ia g c m i) → (Ia g' 1596 m e.toNatClampNeg, Ia g' 1597 m e.toNatClampNeg, Ia g' 1598 m e.toNatClampNeg) = sOne s e q ahead → K g'
-- the walk of M_judgeOne
set_option maxRecDepth 100000 in
def B_M_judgeOne_260 (Γ : GAM) (K55 : Nat → Int32 → Int32 → Int32 → Int32 → Int32 → Int32 → GH → Prop) (K : GH → Prop)  (g : GH) : Prop :=
  K g
set_option maxHeartbeats 4000000 in
set_option maxRecDepth 100000 in
theorem S_M_judgeOne_260 {Γ : GAM} {E : EV} {K : GH → Prop} (hE : GE Γ E cX11_judgeOne 11 RX11 none 6 149 (fun r g' => r = none ∧ K g')) {K55 : Nat → Int32 → Int32 → Int32 → Int32 → Int32 → Int32 → GH → Prop} (hK55 : ∀ (l0 : Nat) (l1 : Int32) (l2 : Int32) (l3 : Int32) (l4 : Int32) (l5 : Int32) (l6 : Int32) (g : GH), K55 l0 l1 l2 l3 l4 l5 l6 g → JW Γ E 55 [some (.ref l0), some (.int l1), some (.int l2), some (.int l3), some (.int l4), some (.int l5), some (.int l6), none, none, none, none] [] g)  (g : GH) (h : B_M_judgeOne_260 Γ K55 K  g) : JW Γ E 260 [none, none, none, none, none, none, none, none, none, none, none] [] g := by
  unfold B_M_judgeOne_260 at h
  exact j_vret hE (by decide +kernel : decode cX11_judgeOne 260 = .ok (.return_, 1)) ⟨rfl, h⟩
set_option maxRecDepth 100000 in
def B_M_judgeOne_259 (Γ : GAM) (K55 : Nat → Int32 → Int32 → Int32 → Int32 → Int32 → Int32 → GH → Prop) (K : GH → Prop) (s0 : Int32) (s1 : Int32) (s2 : Nat) (g : GH) : Prop :=
  Kd g s2 = 20 ∧ inB s1 (Ln g s2) ∧ ∀ g1 : GH, g1 = sA g (Co g s2) (Ow g s2) s1.toNatClampNeg s0 → B_M_judgeOne_260 Γ K55 K g1
set_option maxHeartbeats 4000000 in
set_option maxRecDepth 100000 in
theorem S_M_judgeOne_259 {Γ : GAM} {E : EV} {K : GH → Prop} (hE : GE Γ E cX11_judgeOne 11 RX11 none 6 149 (fun r g' => r = none ∧ K g')) {K55 : Nat → Int32 → Int32 → Int32 → Int32 → Int32 → Int32 → GH → Prop} (hK55 : ∀ (l0 : Nat) (l1 : Int32) (l2 : Int32) (l3 : Int32) (l4 : Int32) (l5 : Int32) (l6 : Int32) (g : GH), K55 l0 l1 l2 l3 l4 l5 l6 g → JW Γ E 55 [some (.ref l0), some (.int l1), some (.int l2), some (.int l3), some (.int l4), some (.int l5), some (.int l6), none, none, none, none] [] g) (s0 : Int32) (s1 : Int32) (s2 : Nat) (g : GH) (h : B_M_judgeOne_259 Γ K55 K s0 s1 s2 g) : JW Γ E 259 [none, none, none, none, none, none, none, none, none, none, none] [.int s0, .int s1, .ref s2] g := by
  unfold B_M_judgeOne_259 at h
  obtain ⟨hk, hb, h⟩ := h
  obtain ⟨g1, hg⟩ : ∃ z, z = sA g (Co g s2) (Ow g s2) s1.toNatClampNeg s0 := ⟨_, rfl⟩; replace h := h g1 hg
  refine j_iast hE hk hb (by decide +kernel : decode cX11_judgeOne 259 = .ok (.iastore, 1)) ?_
  rw [← hg]
  exact S_M_judgeOne_260 hE hK55 _ h
set_option maxRecDepth 100000 in
def B_M_judgeOne_236 (Γ : GAM) (K55 : Nat → Int32 → Int32 → Int32 → Int32 → Int32 → Int32 → GH → Prop) (K : GH → Prop) (l0 : Nat) (l1 : Int32) (s0 : Int32) (s1 : Int32) (s2 : Nat) (g : GH) : Prop :=
  Kd g s2 = 20 ∧ inB s1 (Ln g s2) ∧ ∀ g1 : GH, g1 = sA g (Co g s2) (Ow g s2) s1.toNatClampNeg s0 → Kd g1 l0 = 13 ∧ ∃ a2 : Nat, Gr g1 1597 l0 = some a2 ∧ Kd g1 l0 = 13 ∧ ∃ a3 : Nat, Gr g1 1596 l0 = some a3 ∧ Kd g1 a3 = 20 ∧ inB l1 (Ln g1 a3) ∧ ((¬ ((Ia g1 (Co g1 a3) (Ow g1 a3) l1.toNatClampNeg) = (4 : Int32)) → B_M_judgeOne_259 Γ K55 K (-1 : Int32) l1 a2 g1) ∧ ((Ia g1 (Co g1 a3) (Ow g1 a3) l1.toNatClampNeg) = (4 : Int32) → B_M_judgeOne_259 Γ K55 K (9990 : Int32) l1 a2 g1))
set_option maxHeartbeats 4000000 in
set_option maxRecDepth 100000 in
theorem S_M_judgeOne_236 {Γ : GAM} {E : EV} {K : GH → Prop} (hE : GE Γ E cX11_judgeOne 11 RX11 none 6 149 (fun r g' => r = none ∧ K g')) {K55 : Nat → Int32 → Int32 → Int32 → Int32 → Int32 → Int32 → GH → Prop} (hK55 : ∀ (l0 : Nat) (l1 : Int32) (l2 : Int32) (l3 : Int32) (l4 : Int32) (l5 : Int32) (l6 : Int32) (g : GH), K55 l0 l1 l2 l3 l4 l5 l6 g → JW Γ E 55 [some (.ref l0), some (.int l1), some (.int l2), some (.int l3), some (.int l4), some (.int l5), some (.int l6), none, none, none, none] [] g) (l0 : Nat) (l1 : Int32) (s0 : Int32) (s1 : Int32) (s2 : Nat) (g : GH) (h : B_M_judgeOne_236 Γ K55 K l0 l1 s0 s1 s2 g) : JW Γ E 236 [some (.ref l0), some (.int l1), none, none, none, none, none, none, none, none, none] [.int s0, .int s1, .ref s2] g := by
  unfold B_M_judgeOne_236 at h
  obtain ⟨hk, hb, h⟩ := h
  obtain ⟨g1, hg⟩ : ∃ z, z = sA g (Co g s2) (Ow g s2) s1.toNatClampNeg s0 := ⟨_, rfl⟩; replace h := h g1 hg
  refine j_iast hE hk hb (by decide +kernel : decode cX11_judgeOne 236 = .ok (.iastore, 1)) ?_
  rw [← hg]
  refine j_aload_n hE (by decide +kernel : decode cX11_judgeOne 237 = .ok (.aload_n 0, 1)) rfl rfl ?_
  obtain ⟨hk, h⟩ := h
  obtain ⟨a2, ha, h⟩ := h
  refine j_getRn hE fg_X11_132 hk ha (by decide +kernel : decode cX11_judgeOne 238 = .ok (.getfield 132, 3)) ?_
  refine j_iload_n hE (by decide +kernel : decode cX11_judgeOne 241 = .ok (.iload_n 1, 1)) rfl rfl ?_
  refine j_aload_n hE (by decide +kernel : decode cX11_judgeOne 242 = .ok (.aload_n 0, 1)) rfl rfl ?_
  obtain ⟨hk, h⟩ := h
  obtain ⟨a3, ha, h⟩ := h
  refine j_getRn hE fg_X11_129 hk ha (by decide +kernel : decode cX11_judgeOne 243 = .ok (.getfield 129, 3)) ?_
  refine j_iload_n hE (by decide +kernel : decode cX11_judgeOne 246 = .ok (.iload_n 1, 1)) rfl rfl ?_
  obtain ⟨hk, hb, h⟩ := h
  refine j_iald hE hk hb (by decide +kernel : decode cX11_judgeOne 247 = .ok (.iaload, 1)) ?_
  refine j_iconst hE (by decide +kernel : decode cX11_judgeOne 248 = .ok (.iconst 4, 1)) (v := (4 : Int32)) (by decide) ?_
  refine j_icmp_ne hE (by decide +kernel : decode cX11_judgeOne 249 = .ok (.if_icmp .ne 9, 3)) (tgt := 258) (by decide) (fun q => ?_) (fun q => ?_)
  · replace h := h.1 q
    refine j_iconst hE (by decide +kernel : decode cX11_judgeOne 258 = .ok (.iconst (-1), 1)) (v := (-1 : Int32)) (by decide) ?_
    refine j_weak [none, none, none, none, none, none, none, none, none, none, none] trivial ?_
    exact S_M_judgeOne_259 hE hK55 _ _ _ _ h
  · replace h := h.2 q
    refine j_sipush hE (by decide +kernel : decode cX11_judgeOne 252 = .ok (.sipush 9990, 3)) (v := (9990 : Int32)) (by decide) ?_
    refine j_goto hE (by decide +kernel : decode cX11_judgeOne 255 = .ok (.goto 4, 3)) (tgt := 259) (by decide) ?_
    refine j_weak [none, none, none, none, none, none, none, none, none, none, none] trivial ?_
    exact S_M_judgeOne_259 hE hK55 _ _ _ _ h
set_option maxRecDepth 100000 in
def B_M_judgeOne_225 (Γ : GAM) (K55 : Nat → Int32 → Int32 → Int32 → Int32 → Int32 → Int32 → GH → Prop) (K : GH → Prop) (l0 : Nat) (l1 : Int32) (l2 : Int32) (l9 : Int32) (s0 : Int32) (s1 : Nat) (g : GH) : Prop :=
  ((l9 < l2 → B_M_judgeOne_236 Γ K55 K l0 l1 (4 : Int32) s0 s1 g) ∧ (¬ (l9 < l2) → B_M_judgeOne_236 Γ K55 K l0 l1 (3 : Int32) s0 s1 g))
set_option maxHeartbeats 4000000 in
set_option maxRecDepth 100000 in
theorem S_M_judgeOne_225 {Γ : GAM} {E : EV} {K : GH → Prop} (hE : GE Γ E cX11_judgeOne 11 RX11 none 6 149 (fun r g' => r = none ∧ K g')) {K55 : Nat → Int32 → Int32 → Int32 → Int32 → Int32 → Int32 → GH → Prop} (hK55 : ∀ (l0 : Nat) (l1 : Int32) (l2 : Int32) (l3 : Int32) (l4 : Int32) (l5 : Int32) (l6 : Int32) (g : GH), K55 l0 l1 l2 l3 l4 l5 l6 g → JW Γ E 55 [some (.ref l0), some (.int l1), some (.int l2), some (.int l3), some (.int l4), some (.int l5), some (.int l6), none, none, none, none] [] g) (l0 : Nat) (l1 : Int32) (l2 : Int32) (l9 : Int32) (s0 : Int32) (s1 : Nat) (g : GH) (h : B_M_judgeOne_225 Γ K55 K l0 l1 l2 l9 s0 s1 g) : JW Γ E 225 [some (.ref l0), some (.int l1), some (.int l2), none, none, none, none, none, none, some (.int l9), none] [.int s0, .ref s1] g := by
  unfold B_M_judgeOne_225 at h
  refine j_iload_n hE (by decide +kernel : decode cX11_judgeOne 225 = .ok (.iload_n 2, 1)) rfl rfl ?_
  refine j_iload hE (by decide +kernel : decode cX11_judgeOne 226 = .ok (.iload 9, 2)) rfl ?_
  refine j_icmp_gt hE (by decide +kernel : decode cX11_judgeOne 228 = .ok (.if_icmp .gt 7, 3)) (tgt := 235) (by decide) (fun q => ?_) (fun q => ?_)
  · replace h := h.1 q
    refine j_iconst hE (by decide +kernel : decode cX11_judgeOne 235 = .ok (.iconst 4, 1)) (v := (4 : Int32)) (by decide) ?_
    refine j_weak [some (.ref l0), some (.int l1), none, none, none, none, none, none, none, none, none] ⟨rfl, ⟨rfl, trivial⟩⟩ ?_
    exact S_M_judgeOne_236 hE hK55 _ _ _ _ _ _ h
  · replace h := h.2 q
    refine j_iconst hE (by decide +kernel : decode cX11_judgeOne 231 = .ok (.iconst 3, 1)) (v := (3 : Int32)) (by decide) ?_
    refine j_goto hE (by decide +kernel : decode cX11_judgeOne 232 = .ok (.goto 4, 3)) (tgt := 236) (by decide) ?_
    refine j_weak [some (.ref l0), some (.int l1), none, none, none, none, none, none, none, none, none] ⟨rfl, ⟨rfl, trivial⟩⟩ ?_
    exact S_M_judgeOne_236 hE hK55 _ _ _ _ _ _ h
set_option maxRecDepth 100000 in
def B_M_judgeOne_84 (Γ : GAM) (K55 : Nat → Int32 → Int32 → Int32 → Int32 → Int32 → Int32 → GH → Prop) (K : GH → Prop) (l0 : Nat) (l1 : Int32) (l2 : Int32) (l3 : Int32) (l4 : Int32) (l6 : Int32) (s0 : Int32) (g : GH) : Prop :=
  Kd g l0 = 13 ∧ ∃ a1 : Nat, Gr g 1582 l0 = some a1 ∧ Kd g l0 = 13 ∧ Kd g a1 = 20 ∧ inB (Gi g 1595 l0) (Ln g a1) ∧ ∀ x2 : Int32, x2 = (Ia g (Co g a1) (Ow g a1) (Gi g 1595 l0).toNatClampNeg) → Kd g l0 = 13 ∧ Kd g l0 = 13 ∧ Sp_M_work Γ l0 ((Gi g 1595 l0) + (1 : Int32)) l1 l2 l3 g (fun (x4 : Int32) (g3 : GH) => Kd g3 l0 = 13 ∧ ∀ x5 : Int32, x5 = (Gi g3 1595 l0) → ((¬ (s0 = 0) → Kd g3 l0 = 13 ∧ ∃ a6 : Nat, Gr g3 1598 l0 = some a6 ∧ Kd g3 a6 = 20 ∧ inB l1 (Ln g3 a6) ∧ ∀ g7 : GH, g7 = sA g3 (Co g3 a6) (Ow g3 a6) l1.toNatClampNeg l6 → ((¬ (x2 = (103 : Int32)) → ((¬ (x2 = (119 : Int32)) → ((¬ (x2 = (118 : Int32)) → Kd g7 l0 = 13 ∧ Sp_M_dayOf Γ l0 l1 (6 : Int32) l2 g7 (fun (x9 : Int32) (g8 : GH) => Kd g8 l0 = 13 ∧ ∃ a10 : Nat, Gr g8 1596 l0 = some a10 ∧ ((x9 = (-1 : Int32) → B_M_judgeOne_225 Γ K55 K l0 l1 l2 x4 l1 a10 g8) ∧ (¬ (x9 = (-1 : Int32)) → ((x4 < x9 → B_M_judgeOne_225 Γ K55 K l0 l1 l2 x4 l1 a10 g8) ∧ (¬ (x4 < x9) → B_M_judgeOne_236 Γ K55 K l0 l1 (2 : Int32) l1 a10 g8)))))) ∧ (x2 = (118 : Int32) → Kd g7 l0 = 13 ∧ ∃ a11 : Nat, Gr g7 1596 l0 = some a11 ∧ Kd g7 a11 = 20 ∧ inB l1 (Ln g7 a11) ∧ ∀ g12 : GH, g12 = sA g7 (Co g7 a11) (Ow g7 a11) l1.toNatClampNeg (4 : Int32) → Kd g12 l0 = 13 ∧ ∃ a13 : Nat, Gr g12 1597 l0 = some a13 ∧ Kd g12 a13 = 20 ∧ inB l1 (Ln g12 a13) ∧ ∀ g14 : GH, g14 = sA g12 (Co g12 a13) (Ow g12 a13) l1.toNatClampNeg x4 → B_M_judgeOne_260 Γ K55 K g14))) ∧ (x2 = (119 : Int32) → Kd g7 l0 = 13 ∧ ∃ a15 : Nat, Gr g7 1596 l0 = some a15 ∧ Kd g7 a15 = 20 ∧ inB l1 (Ln g7 a15) ∧ ∀ g16 : GH, g16 = sA g7 (Co g7 a15) (Ow g7 a15) l1.toNatClampNeg (3 : Int32) → B_M_judgeOne_260 Γ K55 K g16))) ∧ (x2 = (103 : Int32) → Kd g7 l0 = 13 ∧ ∃ a17 : Nat, Gr g7 1596 l0 = some a17 ∧ Kd g7 a17 = 20 ∧ inB l1 (Ln g7 a17) ∧ ∀ g18 : GH, g18 = sA g7 (Co g7 a17) (Ow g7 a17) l1.toNatClampNeg (2 : Int32) → B_M_judgeOne_260 Γ K55 K g18))) ∧ (s0 = 0 → K55 l0 l1 l2 l3 l4 x5 (l6 + (1 : Int32)) g3)))
set_option maxHeartbeats 4000000 in
set_option maxRecDepth 100000 in
theorem S_M_judgeOne_84 {Γ : GAM} {E : EV} {K : GH → Prop} (hE : GE Γ E cX11_judgeOne 11 RX11 none 6 149 (fun r g' => r = none ∧ K g')) {K55 : Nat → Int32 → Int32 → Int32 → Int32 → Int32 → Int32 → GH → Prop} (hK55 : ∀ (l0 : Nat) (l1 : Int32) (l2 : Int32) (l3 : Int32) (l4 : Int32) (l5 : Int32) (l6 : Int32) (g : GH), K55 l0 l1 l2 l3 l4 l5 l6 g → JW Γ E 55 [some (.ref l0), some (.int l1), some (.int l2), some (.int l3), some (.int l4), some (.int l5), some (.int l6), none, none, none, none] [] g) (l0 : Nat) (l1 : Int32) (l2 : Int32) (l3 : Int32) (l4 : Int32) (l6 : Int32) (s0 : Int32) (g : GH) (h : B_M_judgeOne_84 Γ K55 K l0 l1 l2 l3 l4 l6 s0 g) : JW Γ E 84 [some (.ref l0), some (.int l1), some (.int l2), some (.int l3), some (.int l4), none, some (.int l6), none, none, none, none] [.int s0] g := by
  unfold B_M_judgeOne_84 at h
  refine j_istore hE (by decide +kernel : decode cX11_judgeOne 84 = .ok (.istore 7, 2)) (Nat.le_of_ble_eq_true rfl) rfl ?_
  refine j_aload_n hE (by decide +kernel : decode cX11_judgeOne 86 = .ok (.aload_n 0, 1)) rfl rfl ?_
  obtain ⟨hk, h⟩ := h
  obtain ⟨a1, ha, h⟩ := h
  refine j_getRn hE fg_X11_108 hk ha (by decide +kernel : decode cX11_judgeOne 87 = .ok (.getfield 108, 3)) ?_
  refine j_aload_n hE (by decide +kernel : decode cX11_judgeOne 90 = .ok (.aload_n 0, 1)) rfl rfl ?_
  obtain ⟨hk, h⟩ := h
  refine j_getI hE fg_X11_398 hk (by decide +kernel : decode cX11_judgeOne 91 = .ok (.getfield 398, 3)) ?_
  obtain ⟨hk, hb, h⟩ := h
  refine j_iald hE hk hb (by decide +kernel : decode cX11_judgeOne 94 = .ok (.iaload, 1)) ?_
  obtain ⟨x2, hx⟩ : ∃ z, z = (Ia g (Co g a1) (Ow g a1) (Gi g 1595 l0).toNatClampNeg) := ⟨_, rfl⟩; replace h := h x2 hx; rw [← hx]
  refine j_istore hE (by decide +kernel : decode cX11_judgeOne 95 = .ok (.istore 8, 2)) (Nat.le_of_ble_eq_true rfl) rfl ?_
  refine j_aload_n hE (by decide +kernel : decode cX11_judgeOne 97 = .ok (.aload_n 0, 1)) rfl rfl ?_
  refine j_aload_n hE (by decide +kernel : decode cX11_judgeOne 98 = .ok (.aload_n 0, 1)) rfl rfl ?_
  obtain ⟨hk, h⟩ := h
  refine j_getI hE fg_X11_398 hk (by decide +kernel : decode cX11_judgeOne 99 = .ok (.getfield 398, 3)) ?_
  refine j_iconst hE (by decide +kernel : decode cX11_judgeOne 102 = .ok (.iconst 1, 1)) (v := (1 : Int32)) (by decide) ?_
  refine j_iadd hE (by decide +kernel : decode cX11_judgeOne 103 = .ok (.iadd, 1)) ?_
  refine j_iload_n hE (by decide +kernel : decode cX11_judgeOne 104 = .ok (.iload_n 1, 1)) rfl rfl ?_
  refine j_iload_n hE (by decide +kernel : decode cX11_judgeOne 105 = .ok (.iload_n 2, 1)) rfl rfl ?_
  refine j_iload_n hE (by decide +kernel : decode cX11_judgeOne 106 = .ok (.iload_n 3, 1)) rfl rfl ?_
  obtain ⟨hk, h⟩ := h
  refine j_callV hE rfl cl_X11_415 cf_12 im_X11_work se_X11_work ⟨by omega, by omega⟩ (As := [.int ((Gi g 1595 l0) + (1 : Int32)), .int l1, .int l2, .int l3]) (rest := []) rfl rfl (Nat.le_of_ble_eq_true rfl) hk (by decide +kernel : decode cX11_judgeOne 107 = .ok (.invokevirtual 415, 3)) (mt_M_work _ _ _ _ _ _ _ h) ?_
  rintro _ g3 ⟨x4, rfl, h⟩
  refine j_istore hE (by decide +kernel : decode cX11_judgeOne 110 = .ok (.istore 9, 2)) (Nat.le_of_ble_eq_true rfl) rfl ?_
  refine j_aload_n hE (by decide +kernel : decode cX11_judgeOne 112 = .ok (.aload_n 0, 1)) rfl rfl ?_
  obtain ⟨hk, h⟩ := h
  refine j_getI hE fg_X11_398 hk (by decide +kernel : decode cX11_judgeOne 113 = .ok (.getfield 398, 3)) ?_
  obtain ⟨x5, hx⟩ : ∃ z, z = (Gi g3 1595 l0) := ⟨_, rfl⟩; replace h := h x5 hx; rw [← hx]
  refine j_istore hE (by decide +kernel : decode cX11_judgeOne 116 = .ok (.istore 5, 2)) (Nat.le_of_ble_eq_true rfl) rfl ?_
  refine j_iload hE (by decide +kernel : decode cX11_judgeOne 118 = .ok (.iload 7, 2)) rfl ?_
  refine j_if_ne hE (by decide +kernel : decode cX11_judgeOne 120 = .ok (.ifCond .ne 6, 3)) (tgt := 126) (by decide) (fun q => ?_) (fun q => ?_)
  · replace h := h.1 q
    refine j_aload_n hE (by decide +kernel : decode cX11_judgeOne 126 = .ok (.aload_n 0, 1)) rfl rfl ?_
    obtain ⟨hk, h⟩ := h
    obtain ⟨a6, ha, h⟩ := h
    refine j_getRn hE fg_X11_135 hk ha (by decide +kernel : decode cX11_judgeOne 127 = .ok (.getfield 135, 3)) ?_
    refine j_iload_n hE (by decide +kernel : decode cX11_judgeOne 130 = .ok (.iload_n 1, 1)) rfl rfl ?_
    refine j_iload hE (by decide +kernel : decode cX11_judgeOne 131 = .ok (.iload 6, 2)) rfl ?_
    obtain ⟨hk, hb, h⟩ := h
    obtain ⟨g7, hg⟩ : ∃ z, z = sA g3 (Co g3 a6) (Ow g3 a6) l1.toNatClampNeg l6 := ⟨_, rfl⟩; replace h := h g7 hg
    refine j_iast hE hk hb (by decide +kernel : decode cX11_judgeOne 133 = .ok (.iastore, 1)) ?_
    rw [← hg]
    refine j_iload hE (by decide +kernel : decode cX11_judgeOne 134 = .ok (.iload 8, 2)) rfl ?_
    refine j_bipush hE (by decide +kernel : decode cX11_judgeOne 136 = .ok (.bipush 103, 2)) (v := (103 : Int32)) (by decide) ?_
    refine j_icmp_ne hE (by decide +kernel : decode cX11_judgeOne 138 = .ok (.if_icmp .ne 13, 3)) (tgt := 151) (by decide) (fun q => ?_) (fun q => ?_)
    · replace h := h.1 q
      refine j_iload hE (by decide +kernel : decode cX11_judgeOne 151 = .ok (.iload 8, 2)) rfl ?_
      refine j_bipush hE (by decide +kernel : decode cX11_judgeOne 153 = .ok (.bipush 119, 2)) (v := (119 : Int32)) (by decide) ?_
      refine j_icmp_ne hE (by decide +kernel : decode cX11_judgeOne 155 = .ok (.if_icmp .ne 13, 3)) (tgt := 168) (by decide) (fun q => ?_) (fun q => ?_)
      · replace h := h.1 q
        refine j_iload hE (by decide +kernel : decode cX11_judgeOne 168 = .ok (.iload 8, 2)) rfl ?_
        refine j_bipush hE (by decide +kernel : decode cX11_judgeOne 170 = .ok (.bipush 118, 2)) (v := (118 : Int32)) (by decide) ?_
        refine j_icmp_ne hE (by decide +kernel : decode cX11_judgeOne 172 = .ok (.if_icmp .ne 21, 3)) (tgt := 193) (by decide) (fun q => ?_) (fun q => ?_)
        · replace h := h.1 q
          refine j_aload_n hE (by decide +kernel : decode cX11_judgeOne 193 = .ok (.aload_n 0, 1)) rfl rfl ?_
          refine j_iload_n hE (by decide +kernel : decode cX11_judgeOne 194 = .ok (.iload_n 1, 1)) rfl rfl ?_
          refine j_bipush hE (by decide +kernel : decode cX11_judgeOne 195 = .ok (.bipush 6, 2)) (v := (6 : Int32)) (by decide) ?_
          refine j_iload_n hE (by decide +kernel : decode cX11_judgeOne 197 = .ok (.iload_n 2, 1)) rfl rfl ?_
          obtain ⟨hk, h⟩ := h
          refine j_callV hE rfl cl_X11_256 cf_12 im_X11_dayOf se_X11_dayOf ⟨by omega, by omega⟩ (As := [.int l1, .int (6 : Int32), .int l2]) (rest := []) rfl rfl (Nat.le_of_ble_eq_true rfl) hk (by decide +kernel : decode cX11_judgeOne 198 = .ok (.invokevirtual 256, 3)) (mt_M_dayOf _ _ _ _ _ _ h) ?_
          rintro _ g8 ⟨x9, rfl, h⟩
          refine j_istore hE (by decide +kernel : decode cX11_judgeOne 201 = .ok (.istore 10, 2)) (Nat.le_of_ble_eq_true rfl) rfl ?_
          refine j_aload_n hE (by decide +kernel : decode cX11_judgeOne 203 = .ok (.aload_n 0, 1)) rfl rfl ?_
          obtain ⟨hk, h⟩ := h
          obtain ⟨a10, ha, h⟩ := h
          refine j_getRn hE fg_X11_129 hk ha (by decide +kernel : decode cX11_judgeOne 204 = .ok (.getfield 129, 3)) ?_
          refine j_iload_n hE (by decide +kernel : decode cX11_judgeOne 207 = .ok (.iload_n 1, 1)) rfl rfl ?_
          refine j_iload hE (by decide +kernel : decode cX11_judgeOne 208 = .ok (.iload 10, 2)) rfl ?_
          refine j_iconst hE (by decide +kernel : decode cX11_judgeOne 210 = .ok (.iconst (-1), 1)) (v := (-1 : Int32)) (by decide) ?_
          refine j_icmp_eq hE (by decide +kernel : decode cX11_judgeOne 211 = .ok (.if_icmp .eq 14, 3)) (tgt := 225) (by decide) (fun q => ?_) (fun q => ?_)
          · replace h := h.1 q
            refine j_weak [some (.ref l0), some (.int l1), some (.int l2), none, none, none, none, none, none, some (.int x4), none] ⟨rfl, ⟨rfl, ⟨rfl, ⟨rfl, trivial⟩⟩⟩⟩ ?_
            exact S_M_judgeOne_225 hE hK55 _ _ _ _ _ _ _ h
          · replace h := h.2 q
            refine j_iload hE (by decide +kernel : decode cX11_judgeOne 214 = .ok (.iload 10, 2)) rfl ?_
            refine j_iload hE (by decide +kernel : decode cX11_judgeOne 216 = .ok (.iload 9, 2)) rfl ?_
            refine j_icmp_gt hE (by decide +kernel : decode cX11_judgeOne 218 = .ok (.if_icmp .gt 7, 3)) (tgt := 225) (by decide) (fun q => ?_) (fun q => ?_)
            · replace h := h.1 q
              refine j_weak [some (.ref l0), some (.int l1), some (.int l2), none, none, none, none, none, none, some (.int x4), none] ⟨rfl, ⟨rfl, ⟨rfl, ⟨rfl, trivial⟩⟩⟩⟩ ?_
              exact S_M_judgeOne_225 hE hK55 _ _ _ _ _ _ _ h
            · replace h := h.2 q
              refine j_iconst hE (by decide +kernel : decode cX11_judgeOne 221 = .ok (.iconst 2, 1)) (v := (2 : Int32)) (by decide) ?_
              refine j_goto hE (by decide +kernel : decode cX11_judgeOne 222 = .ok (.goto 14, 3)) (tgt := 236) (by decide) ?_
              refine j_weak [some (.ref l0), some (.int l1), none, none, none, none, none, none, none, none, none] ⟨rfl, ⟨rfl, trivial⟩⟩ ?_
              exact S_M_judgeOne_236 hE hK55 _ _ _ _ _ _ h
        · replace h := h.2 q
          refine j_aload_n hE (by decide +kernel : decode cX11_judgeOne 175 = .ok (.aload_n 0, 1)) rfl rfl ?_
          obtain ⟨hk, h⟩ := h
          obtain ⟨a11, ha, h⟩ := h
          refine j_getRn hE fg_X11_129 hk ha (by decide +kernel : decode cX11_judgeOne 176 = .ok (.getfield 129, 3)) ?_
          refine j_iload_n hE (by decide +kernel : decode cX11_judgeOne 179 = .ok (.iload_n 1, 1)) rfl rfl ?_
          refine j_iconst hE (by decide +kernel : decode cX11_judgeOne 180 = .ok (.iconst 4, 1)) (v := (4 : Int32)) (by decide) ?_
          obtain ⟨hk, hb, h⟩ := h
          obtain ⟨g12, hg⟩ : ∃ z, z = sA g7 (Co g7 a11) (Ow g7 a11) l1.toNatClampNeg (4 : Int32) := ⟨_, rfl⟩; replace h := h g12 hg
          refine j_iast hE hk hb (by decide +kernel : decode cX11_judgeOne 181 = .ok (.iastore, 1)) ?_
          rw [← hg]
          refine j_aload_n hE (by decide +kernel : decode cX11_judgeOne 182 = .ok (.aload_n 0, 1)) rfl rfl ?_
          obtain ⟨hk, h⟩ := h
          obtain ⟨a13, ha, h⟩ := h
          refine j_getRn hE fg_X11_132 hk ha (by decide +kernel : decode cX11_judgeOne 183 = .ok (.getfield 132, 3)) ?_
          refine j_iload_n hE (by decide +kernel : decode cX11_judgeOne 186 = .ok (.iload_n 1, 1)) rfl rfl ?_
          refine j_iload hE (by decide +kernel : decode cX11_judgeOne 187 = .ok (.iload 9, 2)) rfl ?_
          obtain ⟨hk, hb, h⟩ := h
          obtain ⟨g14, hg⟩ : ∃ z, z = sA g12 (Co g12 a13) (Ow g12 a13) l1.toNatClampNeg x4 := ⟨_, rfl⟩; replace h := h g14 hg
          refine j_iast hE hk hb (by decide +kernel : decode cX11_judgeOne 189 = .ok (.iastore, 1)) ?_
          rw [← hg]
          refine j_goto hE (by decide +kernel : decode cX11_judgeOne 190 = .ok (.goto 70, 3)) (tgt := 260) (by decide) ?_
          refine j_weak [none, none, none, none, none, none, none, none, none, none, none] trivial ?_
          exact S_M_judgeOne_260 hE hK55 _ h
      · replace h := h.2 q
        refine j_aload_n hE (by decide +kernel : decode cX11_judgeOne 158 = .ok (.aload_n 0, 1)) rfl rfl ?_
        obtain ⟨hk, h⟩ := h
        obtain ⟨a15, ha, h⟩ := h
        refine j_getRn hE fg_X11_129 hk ha (by decide +kernel : decode cX11_judgeOne 159 = .ok (.getfield 129, 3)) ?_
        refine j_iload_n hE (by decide +kernel : decode cX11_judgeOne 162 = .ok (.iload_n 1, 1)) rfl rfl ?_
        refine j_iconst hE (by decide +kernel : decode cX11_judgeOne 163 = .ok (.iconst 3, 1)) (v := (3 : Int32)) (by decide) ?_
        obtain ⟨hk, hb, h⟩ := h
        obtain ⟨g16, hg⟩ : ∃ z, z = sA g7 (Co g7 a15) (Ow g7 a15) l1.toNatClampNeg (3 : Int32) := ⟨_, rfl⟩; replace h := h g16 hg
        refine j_iast hE hk hb (by decide +kernel : decode cX11_judgeOne 164 = .ok (.iastore, 1)) ?_
        rw [← hg]
        refine j_goto hE (by decide +kernel : decode cX11_judgeOne 165 = .ok (.goto 95, 3)) (tgt := 260) (by decide) ?_
        refine j_weak [none, none, none, none, none, none, none, none, none, none, none] trivial ?_
        exact S_M_judgeOne_260 hE hK55 _ h
    · replace h := h.2 q
      refine j_aload_n hE (by decide +kernel : decode cX11_judgeOne 141 = .ok (.aload_n 0, 1)) rfl rfl ?_
      obtain ⟨hk, h⟩ := h
      obtain ⟨a17, ha, h⟩ := h
      refine j_getRn hE fg_X11_129 hk ha (by decide +kernel : decode cX11_judgeOne 142 = .ok (.getfield 129, 3)) ?_
      refine j_iload_n hE (by decide +kernel : decode cX11_judgeOne 145 = .ok (.iload_n 1, 1)) rfl rfl ?_
      refine j_iconst hE (by decide +kernel : decode cX11_judgeOne 146 = .ok (.iconst 2, 1)) (v := (2 : Int32)) (by decide) ?_
      obtain ⟨hk, hb, h⟩ := h
      obtain ⟨g18, hg⟩ : ∃ z, z = sA g7 (Co g7 a17) (Ow g7 a17) l1.toNatClampNeg (2 : Int32) := ⟨_, rfl⟩; replace h := h g18 hg
      refine j_iast hE hk hb (by decide +kernel : decode cX11_judgeOne 147 = .ok (.iastore, 1)) ?_
      rw [← hg]
      refine j_goto hE (by decide +kernel : decode cX11_judgeOne 148 = .ok (.goto 112, 3)) (tgt := 260) (by decide) ?_
      refine j_weak [none, none, none, none, none, none, none, none, none, none, none] trivial ?_
      exact S_M_judgeOne_260 hE hK55 _ h
  · replace h := h.2 q
    refine j_goto hE (by decide +kernel : decode cX11_judgeOne 123 = .ok (.goto 138, 3)) (tgt := 261) (by decide) ?_
    refine j_iinc hE (by decide +kernel : decode cX11_judgeOne 261 = .ok (.iinc 6 1, 3)) (v := (1 : Int32)) (by decide) rfl (Nat.le_of_ble_eq_true rfl) rfl ?_
    refine j_goto hE (by decide +kernel : decode cX11_judgeOne 264 = .ok (.goto (-209), 3)) (tgt := 55) (by decide) ?_
    refine j_weak [some (.ref l0), some (.int l1), some (.int l2), some (.int l3), some (.int l4), some (.int x5), some (.int (l6 + (1 : Int32))), none, none, none, none] ⟨rfl, ⟨rfl, ⟨rfl, ⟨rfl, ⟨rfl, ⟨rfl, ⟨rfl, trivial⟩⟩⟩⟩⟩⟩⟩ ?_
    exact hK55 _ _ _ _ _ _ _ _ h
set_option maxRecDepth 100000 in
def B_M_judgeOne_55 (Γ : GAM) (K55 : Nat → Int32 → Int32 → Int32 → Int32 → Int32 → Int32 → GH → Prop) (K : GH → Prop) (l0 : Nat) (l1 : Int32) (l2 : Int32) (l3 : Int32) (l4 : Int32) (l5 : Int32) (l6 : Int32) (g : GH) : Prop :=
  Kd g l0 = 13 ∧ ∃ a1 : Nat, Gr g 1587 l0 = some a1 ∧ Kd g a1 = 20 ∧ inB l4 (Ln g a1) ∧ (((Ia g (Co g a1) (Ow g a1) l4.toNatClampNeg) ≤ l6 → Kd g l0 = 13 ∧ ∃ a2 : Nat, Gr g 1596 l0 = some a2 ∧ Kd g a2 = 20 ∧ inB l1 (Ln g a2) ∧ ∀ g3 : GH, g3 = sA g (Co g a2) (Ow g a2) l1.toNatClampNeg (4 : Int32) → Kd g3 l0 = 13 ∧ ∃ a4 : Nat, Gr g3 1597 l0 = some a4 ∧ Kd g3 a4 = 20 ∧ inB l1 (Ln g3 a4) ∧ ∀ g5 : GH, g5 = sA g3 (Co g3 a4) (Ow g3 a4) l1.toNatClampNeg (9991 : Int32) → K g5) ∧ (¬ ((Ia g (Co g a1) (Ow g a1) l4.toNatClampNeg) ≤ l6) → Kd g l0 = 13 ∧ Sp_M_work Γ l0 l5 l1 l2 l3 g (fun (x7 : Int32) (g6 : GH) => ((x7 = 0 → B_M_judgeOne_84 Γ K55 K l0 l1 l2 l3 l4 l6 (0 : Int32) g6) ∧ (¬ (x7 = 0) → B_M_judgeOne_84 Γ K55 K l0 l1 l2 l3 l4 l6 (1 : Int32) g6)))))
set_option maxHeartbeats 4000000 in
set_option maxRecDepth 100000 in
theorem S_M_judgeOne_55 {Γ : GAM} {E : EV} {K : GH → Prop} (hE : GE Γ E cX11_judgeOne 11 RX11 none 6 149 (fun r g' => r = none ∧ K g')) {K55 : Nat → Int32 → Int32 → Int32 → Int32 → Int32 → Int32 → GH → Prop} (hK55 : ∀ (l0 : Nat) (l1 : Int32) (l2 : Int32) (l3 : Int32) (l4 : Int32) (l5 : Int32) (l6 : Int32) (g : GH), K55 l0 l1 l2 l3 l4 l5 l6 g → JW Γ E 55 [some (.ref l0), some (.int l1), some (.int l2), some (.int l3), some (.int l4), some (.int l5), some (.int l6), none, none, none, none] [] g) (l0 : Nat) (l1 : Int32) (l2 : Int32) (l3 : Int32) (l4 : Int32) (l5 : Int32) (l6 : Int32) (g : GH) (h : B_M_judgeOne_55 Γ K55 K l0 l1 l2 l3 l4 l5 l6 g) : JW Γ E 55 [some (.ref l0), some (.int l1), some (.int l2), some (.int l3), some (.int l4), some (.int l5), some (.int l6), none, none, none, none] [] g := by
  unfold B_M_judgeOne_55 at h
  refine j_iload hE (by decide +kernel : decode cX11_judgeOne 55 = .ok (.iload 6, 2)) rfl ?_
  refine j_aload_n hE (by decide +kernel : decode cX11_judgeOne 57 = .ok (.aload_n 0, 1)) rfl rfl ?_
  obtain ⟨hk, h⟩ := h
  obtain ⟨a1, ha, h⟩ := h
  refine j_getRn hE fg_X11_123 hk ha (by decide +kernel : decode cX11_judgeOne 58 = .ok (.getfield 123, 3)) ?_
  refine j_iload hE (by decide +kernel : decode cX11_judgeOne 61 = .ok (.iload 4, 2)) rfl ?_
  obtain ⟨hk, hb, h⟩ := h
  refine j_iald hE hk hb (by decide +kernel : decode cX11_judgeOne 63 = .ok (.iaload, 1)) ?_
  refine j_icmp_ge hE (by decide +kernel : decode cX11_judgeOne 64 = .ok (.if_icmp .ge 203, 3)) (tgt := 267) (by decide) (fun q => ?_) (fun q => ?_)
  · replace h := h.1 q
    refine j_aload_n hE (by decide +kernel : decode cX11_judgeOne 267 = .ok (.aload_n 0, 1)) rfl rfl ?_
    obtain ⟨hk, h⟩ := h
    obtain ⟨a2, ha, h⟩ := h
    refine j_getRn hE fg_X11_129 hk ha (by decide +kernel : decode cX11_judgeOne 268 = .ok (.getfield 129, 3)) ?_
    refine j_iload_n hE (by decide +kernel : decode cX11_judgeOne 271 = .ok (.iload_n 1, 1)) rfl rfl ?_
    refine j_iconst hE (by decide +kernel : decode cX11_judgeOne 272 = .ok (.iconst 4, 1)) (v := (4 : Int32)) (by decide) ?_
    obtain ⟨hk, hb, h⟩ := h
    obtain ⟨g3, hg⟩ : ∃ z, z = sA g (Co g a2) (Ow g a2) l1.toNatClampNeg (4 : Int32) := ⟨_, rfl⟩; replace h := h g3 hg
    refine j_iast hE hk hb (by decide +kernel : decode cX11_judgeOne 273 = .ok (.iastore, 1)) ?_
    rw [← hg]
    refine j_aload_n hE (by decide +kernel : decode cX11_judgeOne 274 = .ok (.aload_n 0, 1)) rfl rfl ?_
    obtain ⟨hk, h⟩ := h
    obtain ⟨a4, ha, h⟩ := h
    refine j_getRn hE fg_X11_132 hk ha (by decide +kernel : decode cX11_judgeOne 275 = .ok (.getfield 132, 3)) ?_
    refine j_iload_n hE (by decide +kernel : decode cX11_judgeOne 278 = .ok (.iload_n 1, 1)) rfl rfl ?_
    refine j_sipush hE (by decide +kernel : decode cX11_judgeOne 279 = .ok (.sipush 9991, 3)) (v := (9991 : Int32)) (by decide) ?_
    obtain ⟨hk, hb, h⟩ := h
    obtain ⟨g5, hg⟩ : ∃ z, z = sA g3 (Co g3 a4) (Ow g3 a4) l1.toNatClampNeg (9991 : Int32) := ⟨_, rfl⟩; replace h := h g5 hg
    refine j_iast hE hk hb (by decide +kernel : decode cX11_judgeOne 282 = .ok (.iastore, 1)) ?_
    rw [← hg]
    exact j_vret hE (by decide +kernel : decode cX11_judgeOne 283 = .ok (.return_, 1)) ⟨rfl, h⟩
  · replace h := h.2 q
    refine j_aload_n hE (by decide +kernel : decode cX11_judgeOne 67 = .ok (.aload_n 0, 1)) rfl rfl ?_
    refine j_iload hE (by decide +kernel : decode cX11_judgeOne 68 = .ok (.iload 5, 2)) rfl ?_
    refine j_iload_n hE (by decide +kernel : decode cX11_judgeOne 70 = .ok (.iload_n 1, 1)) rfl rfl ?_
    refine j_iload_n hE (by decide +kernel : decode cX11_judgeOne 71 = .ok (.iload_n 2, 1)) rfl rfl ?_
    refine j_iload_n hE (by decide +kernel : decode cX11_judgeOne 72 = .ok (.iload_n 3, 1)) rfl rfl ?_
    obtain ⟨hk, h⟩ := h
    refine j_callV hE rfl cl_X11_415 cf_12 im_X11_work se_X11_work ⟨by omega, by omega⟩ (As := [.int l5, .int l1, .int l2, .int l3]) (rest := []) rfl rfl (Nat.le_of_ble_eq_true rfl) hk (by decide +kernel : decode cX11_judgeOne 73 = .ok (.invokevirtual 415, 3)) (mt_M_work _ _ _ _ _ _ _ h) ?_
    rintro _ g6 ⟨x7, rfl, h⟩
    refine j_if_eq hE (by decide +kernel : decode cX11_judgeOne 76 = .ok (.ifCond .eq 7, 3)) (tgt := 83) (by decide) (fun q => ?_) (fun q => ?_)
    · replace h := h.1 q
      refine j_iconst hE (by decide +kernel : decode cX11_judgeOne 83 = .ok (.iconst 0, 1)) (v := (0 : Int32)) (by decide) ?_
      refine j_weak [some (.ref l0), some (.int l1), some (.int l2), some (.int l3), some (.int l4), none, some (.int l6), none, none, none, none] ⟨rfl, ⟨rfl, ⟨rfl, ⟨rfl, ⟨rfl, ⟨rfl, trivial⟩⟩⟩⟩⟩⟩ ?_
      exact S_M_judgeOne_84 hE hK55 _ _ _ _ _ _ _ _ h
    · replace h := h.2 q
      refine j_iconst hE (by decide +kernel : decode cX11_judgeOne 79 = .ok (.iconst 1, 1)) (v := (1 : Int32)) (by decide) ?_
      refine j_goto hE (by decide +kernel : decode cX11_judgeOne 80 = .ok (.goto 4, 3)) (tgt := 84) (by decide) ?_
      refine j_weak [some (.ref l0), some (.int l1), some (.int l2), some (.int l3), some (.int l4), none, some (.int l6), none, none, none, none] ⟨rfl, ⟨rfl, ⟨rfl, ⟨rfl, ⟨rfl, ⟨rfl, trivial⟩⟩⟩⟩⟩⟩ ?_
      exact S_M_judgeOne_84 hE hK55 _ _ _ _ _ _ _ _ h
set_option maxRecDepth 100000 in
def B_M_judgeOne_0 (Γ : GAM) (K55 : Nat → Int32 → Int32 → Int32 → Int32 → Int32 → Int32 → GH → Prop) (K : GH → Prop) (th : Nat) (p0 : Int32) (p1 : Int32) (p2 : Int32) (g : GH) : Prop :=
  Kd g th = 13 ∧ ∃ a1 : Nat, Gr g 1556 th = some a1 ∧ Kd g a1 = 20 ∧ inB p0 (Ln g a1) ∧ Kd g th = 13 ∧ ∃ a2 : Nat, Gr g 1600 th = some a2 ∧ Kd g a2 = 20 ∧ inB p0 (Ln g a2) ∧ Kd g th = 13 ∧ Sp_M_shireOn Γ th (Ia g (Co g a1) (Ow g a1) p0.toNatClampNeg) (Ia g (Co g a2) (Ow g a2) p0.toNatClampNeg) p1 g (fun (x4 : Int32) (g3 : GH) => Kd g3 th = 13 ∧ ∃ a5 : Nat, Gr g3 1600 th = some a5 ∧ Kd g3 a5 = 20 ∧ inB p0 (Ln g3 a5) ∧ Kd g3 th = 13 ∧ Sp_M_lawOn Γ th x4 (Ia g3 (Co g3 a5) (Ow g3 a5) p0.toNatClampNeg) p1 g3 (fun (x7 : Int32) (g6 : GH) => ((¬ (x7 = (-1 : Int32)) → ∀ x8 : Int32, x8 = ((520 : Int32) * x7) → K55 th p0 p1 p2 x7 x8 (0 : Int32) g6) ∧ (x7 = (-1 : Int32) → Kd g6 th = 13 ∧ ∃ a9 : Nat, Gr g6 1596 th = some a9 ∧ Kd g6 a9 = 20 ∧ inB p0 (Ln g6 a9) ∧ ∀ g10 : GH, g10 = sA g6 (Co g6 a9) (Ow g6 a9) p0.toNatClampNeg (3 : Int32) → K g10))))
set_option maxHeartbeats 4000000 in
set_option maxRecDepth 100000 in
theorem S_M_judgeOne_0 {Γ : GAM} {E : EV} {K : GH → Prop} (hE : GE Γ E cX11_judgeOne 11 RX11 none 6 149 (fun r g' => r = none ∧ K g')) {K55 : Nat → Int32 → Int32 → Int32 → Int32 → Int32 → Int32 → GH → Prop} (hK55 : ∀ (l0 : Nat) (l1 : Int32) (l2 : Int32) (l3 : Int32) (l4 : Int32) (l5 : Int32) (l6 : Int32) (g : GH), K55 l0 l1 l2 l3 l4 l5 l6 g → JW Γ E 55 [some (.ref l0), some (.int l1), some (.int l2), some (.int l3), some (.int l4), some (.int l5), some (.int l6), none, none, none, none] [] g) (th : Nat) (p0 : Int32) (p1 : Int32) (p2 : Int32) (g : GH) (h : B_M_judgeOne_0 Γ K55 K th p0 p1 p2 g) : JW Γ E 0 [some (.ref th), some (.int p0), some (.int p1), some (.int p2), none, none, none, none, none, none, none] [] g := by
  unfold B_M_judgeOne_0 at h
  refine j_aload_n hE (by decide +kernel : decode cX11_judgeOne 0 = .ok (.aload_n 0, 1)) rfl rfl ?_
  refine j_aload_n hE (by decide +kernel : decode cX11_judgeOne 1 = .ok (.aload_n 0, 1)) rfl rfl ?_
  refine j_aload_n hE (by decide +kernel : decode cX11_judgeOne 2 = .ok (.aload_n 0, 1)) rfl rfl ?_
  obtain ⟨hk, h⟩ := h
  obtain ⟨a1, ha, h⟩ := h
  refine j_getRn hE fg_X11_35 hk ha (by decide +kernel : decode cX11_judgeOne 3 = .ok (.getfield 35, 3)) ?_
  refine j_iload_n hE (by decide +kernel : decode cX11_judgeOne 6 = .ok (.iload_n 1, 1)) rfl rfl ?_
  obtain ⟨hk, hb, h⟩ := h
  refine j_iald hE hk hb (by decide +kernel : decode cX11_judgeOne 7 = .ok (.iaload, 1)) ?_
  refine j_aload_n hE (by decide +kernel : decode cX11_judgeOne 8 = .ok (.aload_n 0, 1)) rfl rfl ?_
  obtain ⟨hk, h⟩ := h
  obtain ⟨a2, ha, h⟩ := h
  refine j_getRn hE fg_X11_141 hk ha (by decide +kernel : decode cX11_judgeOne 9 = .ok (.getfield 141, 3)) ?_
  refine j_iload_n hE (by decide +kernel : decode cX11_judgeOne 12 = .ok (.iload_n 1, 1)) rfl rfl ?_
  obtain ⟨hk, hb, h⟩ := h
  refine j_iald hE hk hb (by decide +kernel : decode cX11_judgeOne 13 = .ok (.iaload, 1)) ?_
  refine j_iload_n hE (by decide +kernel : decode cX11_judgeOne 14 = .ok (.iload_n 2, 1)) rfl rfl ?_
  obtain ⟨hk, h⟩ := h
  refine j_callV hE rfl cl_X11_237 cf_12 im_X11_shireOn se_X11_shireOn ⟨by omega, by omega⟩ (As := [.int (Ia g (Co g a1) (Ow g a1) p0.toNatClampNeg), .int (Ia g (Co g a2) (Ow g a2) p0.toNatClampNeg), .int p1]) (rest := [.ref th]) rfl rfl (Nat.le_of_ble_eq_true rfl) hk (by decide +kernel : decode cX11_judgeOne 15 = .ok (.invokevirtual 237, 3)) (mt_M_shireOn _ _ _ _ _ _ h) ?_
  rintro _ g3 ⟨x4, rfl, h⟩
  refine j_aload_n hE (by decide +kernel : decode cX11_judgeOne 18 = .ok (.aload_n 0, 1)) rfl rfl ?_
  obtain ⟨hk, h⟩ := h
  obtain ⟨a5, ha, h⟩ := h
  refine j_getRn hE fg_X11_141 hk ha (by decide +kernel : decode cX11_judgeOne 19 = .ok (.getfield 141, 3)) ?_
  refine j_iload_n hE (by decide +kernel : decode cX11_judgeOne 22 = .ok (.iload_n 1, 1)) rfl rfl ?_
  obtain ⟨hk, hb, h⟩ := h
  refine j_iald hE hk hb (by decide +kernel : decode cX11_judgeOne 23 = .ok (.iaload, 1)) ?_
  refine j_iload_n hE (by decide +kernel : decode cX11_judgeOne 24 = .ok (.iload_n 2, 1)) rfl rfl ?_
  obtain ⟨hk, h⟩ := h
  refine j_callV hE rfl cl_X11_370 cf_12 im_X11_lawOn se_X11_lawOn ⟨by omega, by omega⟩ (As := [.int x4, .int (Ia g3 (Co g3 a5) (Ow g3 a5) p0.toNatClampNeg), .int p1]) (rest := []) rfl rfl (Nat.le_of_ble_eq_true rfl) hk (by decide +kernel : decode cX11_judgeOne 25 = .ok (.invokevirtual 370, 3)) (mt_M_lawOn _ _ _ _ _ _ h) ?_
  rintro _ g6 ⟨x7, rfl, h⟩
  refine j_istore hE (by decide +kernel : decode cX11_judgeOne 28 = .ok (.istore 4, 2)) (Nat.le_of_ble_eq_true rfl) rfl ?_
  refine j_iload hE (by decide +kernel : decode cX11_judgeOne 30 = .ok (.iload 4, 2)) rfl ?_
  refine j_iconst hE (by decide +kernel : decode cX11_judgeOne 32 = .ok (.iconst (-1), 1)) (v := (-1 : Int32)) (by decide) ?_
  refine j_icmp_ne hE (by decide +kernel : decode cX11_judgeOne 33 = .ok (.if_icmp .ne 11, 3)) (tgt := 44) (by decide) (fun q => ?_) (fun q => ?_)
  · replace h := h.1 q
    refine j_sipush hE (by decide +kernel : decode cX11_judgeOne 44 = .ok (.sipush 520, 3)) (v := (520 : Int32)) (by decide) ?_
    refine j_iload hE (by decide +kernel : decode cX11_judgeOne 47 = .ok (.iload 4, 2)) rfl ?_
    refine j_imul hE (by decide +kernel : decode cX11_judgeOne 49 = .ok (.imul, 1)) ?_
    obtain ⟨x8, hx⟩ : ∃ z, z = ((520 : Int32) * x7) := ⟨_, rfl⟩; replace h := h x8 hx; rw [← hx]
    refine j_istore hE (by decide +kernel : decode cX11_judgeOne 50 = .ok (.istore 5, 2)) (Nat.le_of_ble_eq_true rfl) rfl ?_
    refine j_iconst hE (by decide +kernel : decode cX11_judgeOne 52 = .ok (.iconst 0, 1)) (v := (0 : Int32)) (by decide) ?_
    refine j_istore hE (by decide +kernel : decode cX11_judgeOne 53 = .ok (.istore 6, 2)) (Nat.le_of_ble_eq_true rfl) rfl ?_
    exact hK55 _ _ _ _ _ _ _ _ h
  · replace h := h.2 q
    refine j_aload_n hE (by decide +kernel : decode cX11_judgeOne 36 = .ok (.aload_n 0, 1)) rfl rfl ?_
    obtain ⟨hk, h⟩ := h
    obtain ⟨a9, ha, h⟩ := h
    refine j_getRn hE fg_X11_129 hk ha (by decide +kernel : decode cX11_judgeOne 37 = .ok (.getfield 129, 3)) ?_
    refine j_iload_n hE (by decide +kernel : decode cX11_judgeOne 40 = .ok (.iload_n 1, 1)) rfl rfl ?_
    refine j_iconst hE (by decide +kernel : decode cX11_judgeOne 41 = .ok (.iconst 3, 1)) (v := (3 : Int32)) (by decide) ?_
    obtain ⟨hk, hb, h⟩ := h
    obtain ⟨g10, hg⟩ : ∃ z, z = sA g6 (Co g6 a9) (Ow g6 a9) p0.toNatClampNeg (3 : Int32) := ⟨_, rfl⟩; replace h := h g10 hg
    refine j_iast hE hk hb (by decide +kernel : decode cX11_judgeOne 42 = .ok (.iastore, 1)) ?_
    rw [← hg]
    exact j_vret hE (by decide +kernel : decode cX11_judgeOne 43 = .ok (.return_, 1)) ⟨rfl, h⟩
set_option maxHeartbeats 4000000 in
set_option maxRecDepth 100000 in
theorem rl_M_judgeOne {Γ : GAM} {l : Launch} {th : Nat} {p0 : Int32} {p1 : Int32} {p2 : Int32} {g : GH} {K : GH → Prop} (I55 : Nat → Nat → Int32 → Int32 → Int32 → Int32 → Int32 → Int32 → GH → Prop) (hh55 : ∀ n (l0 : Nat) (l1 : Int32) (l2 : Int32) (l3 : Int32) (l4 : Int32) (l5 : Int32) (l6 : Int32) (g : GH), I55 n l0 l1 l2 l3 l4 l5 l6 g → B_M_judgeOne_55 Γ (fun l0 l1 l2 l3 l4 l5 l6 g => ∃ m, m < n ∧ I55 m l0 l1 l2 l3 l4 l5 l6 g) K l0 l1 l2 l3 l4 l5 l6 g) (h0 : B_M_judgeOne_0 Γ (fun l0 l1 l2 l3 l4 l5 l6 g => ∃ m, I55 m l0 l1 l2 l3 l4 l5 l6 g) K th p0 p1 p2 g) : MetA Γ l yX11_judgeOne cX11_judgeOne 11 none 6 149 [.ref th, .int p0, .int p1, .int p2] g (fun r g' => r = none ∧ K g') := by
  refine MetA.introL (Lx := [some (.ref th), some (.int p0), some (.int p1), some (.int p2), none, none, none, none, none, none, none]) (by decide) (Nat.le_of_ble_eq_true rfl) rfl rfl ?_
  intro E hEl hE hnm
  have hall : ∀ n, (∀ (l0 : Nat) (l1 : Int32) (l2 : Int32) (l3 : Int32) (l4 : Int32) (l5 : Int32) (l6 : Int32) (g : GH), I55 n l0 l1 l2 l3 l4 l5 l6 g → JW Γ E 55 [some (.ref l0), some (.int l1), some (.int l2), some (.int l3), some (.int l4), some (.int l5), some (.int l6), none, none, none, none] [] g) := by
    intro n
    induction n using Nat.strongRecOn with
    | ind n ih =>
      exact fun l0 l1 l2 l3 l4 l5 l6 g hi => S_M_judgeOne_55 hE (fun l0 l1 l2 l3 l4 l5 l6 g hm => by obtain ⟨m, hm, h⟩ := hm; exact (ih m hm) l0 l1 l2 l3 l4 l5 l6 g h) l0 l1 l2 l3 l4 l5 l6 g (hh55 n l0 l1 l2 l3 l4 l5 l6 g hi)
  exact S_M_judgeOne_0 hE (fun l0 l1 l2 l3 l4 l5 l6 g hm => by obtain ⟨m, h⟩ := hm; exact (hall m) l0 l1 l2 l3 l4 l5 l6 g h) th p0 p1 p2 g h0
theorem mt_M_judgeOne {Γ : GAM} {l : Launch} (th : Nat) (p0 : Int32) (p1 : Int32) (p2 : Int32) (g : GH) (K : GH → Prop) (h : Sp_M_judgeOne Γ th p0 p1 p2 g K) : MetA Γ l yX11_judgeOne cX11_judgeOne 11 none 6 149 [.ref th, .int p0, .int p1, .int p2] g (fun r g' => r = none ∧ K g') := by
  obtain ⟨ma, s, hI, hw, he, hdf, hre, hru, hK⟩ := h
  obtain ⟨x, hx, hex⟩ := eOk_get he
  obtain ⟨y, hy, hvy, hv0, hvl⟩ := vOk_get hw hx
  obtain ⟨w1, w2, w3⟩ := hI.env
  have hbe : inB p0 200 := ⟨he.1, by have := he.2; omega⟩
  have hfin : ∀ g2 g3 : GH, FrX th [1569, 1570, 1595] [1594] g g2 → FrX th [1569, 1570, 1595] [1594, 1596, 1597, 1598] g2 g3 → (∀ c i, i ≠ p0.toNatClampNeg → Ia g3 c th i = Ia g2 c th i) → (Ia g3 1596 th p0.toNatClampNeg, Ia g3 1597 th p0.toNatClampNeg, Ia g3 1598 th p0.toNatClampNeg) = sOne s p0 p1 p2 → K g3 := by
    intro g2 g3 h1 h2 h3 h4
    refine hK g3 ((h1.up (by decide) (by decide)).tr h2) (fun c i hc hi => ?_) h4
    rw [h3 c i hi, h1.2.2 c (by simpa using hc)]
  refine rl_M_judgeOne (fun n l0 l1 l2 l3 l4 l5 l6 g' => th = l0 ∧ p0 = l1 ∧ p1 = l2 ∧ p2 = l3 ∧ ∃ j L k pos rs, n = rs.length ∧ (s_law s)[j]? = some L ∧ sOne s p0 p1 p2 = sRule s p0 p1 p2 rs k ∧ k + rs.length = L.2.2.2.length ∧ (∀ r ∈ rs, okRule r) ∧ l4 = nI j ∧ l5 = nI pos ∧ l6 = nI k ∧ Wds (Ia g' 1582 th) (enL rs) pos ∧ pos + (enL rs).length ≤ 15600 ∧ FrX th [1569, 1570, 1595] [1594] g g') ?_ ?_
  · rintro n l0 l1 l2 l3 l4 l5 l6 g' ⟨rfl, rfl, rfl, rfl, j, L, k, pos, rs, rfl, hL, hone, hkl, hok, rfl, rfl, rfl, hW, hlen, hfx⟩
    have hI' := hI.x hfx (by decide +kernel)
    obtain ⟨hkd, hS⟩ := hI'.1
    obtain ⟨f1, f2, f3⟩ := hI'.law
    have hj := (List.getElem?_eq_some_iff.mp hL).1
    obtain ⟨x1, x2, x3, x4, x5, x6⟩ := f3 j L hL
    have hge := enL_ge L.2.2.2
    have hbj := inB_nI (show j < 30 by omega) (by omega)
    obtain ⟨z_lawRules1, z_lawRules2, z_lawRules3, z_lawRules4, z_lawRules5⟩ := hS 1587 20 30 rfl
    obtain ⟨z_states1, z_states2, z_states3, z_states4, z_states5⟩ := hS 1596 20 200 rfl
    obtain ⟨z_reasons1, z_reasons2, z_reasons3, z_reasons4, z_reasons5⟩ := hS 1597 20 200 rfl
    obtain ⟨z_rules1, z_rules2, z_rules3, z_rules4, z_rules5⟩ := hS 1598 20 200 rfl
    obtain ⟨z_codes1, z_codes2, z_codes3, z_codes4, z_codes5⟩ := hS 1582 20 15600 rfl
    have r1 : Ia g' 1597 th p0.toNatClampNeg = -1 := by rw [hfx.2.2 1597 (by decide)]; exact hre
    have r2 : Ia g' 1598 th p0.toNatClampNeg = -1 := by rw [hfx.2.2 1598 (by decide)]; exact hru
    cases rs with
    | nil =>
      simp only [List.length_nil] at hkl
      unfold B_M_judgeOne_55
      simp (decide := true) only [Gi_sI, Gr_sI, Ia_sI, Ra_sI, La_sI, Kd_sI, Co_sI, Ow_sI, Ln_sI, Lq_sI, Hn_sI, Hu_sI, Gi_sR, Gr_sR, Ia_sR, Ra_sR, La_sR, Kd_sR, Co_sR, Ow_sR, Ln_sR, Lq_sR, Hn_sR, Hu_sR, Gi_sA, Gr_sA, Ia_sA, Ra_sA, La_sA, Kd_sA, Co_sA, Ow_sA, Ln_sA, Lq_sA, Hn_sA, Hu_sA, Gi_sRA, Gr_sRA, Ia_sRA, Ra_sRA, La_sRA, Kd_sRA, Co_sRA, Ow_sRA, Ln_sRA, Lq_sRA, Hn_sRA, Hu_sRA, Gi_sLA, Gr_sLA, Ia_sLA, Ra_sLA, La_sLA, Kd_sLA, Co_sLA, Ow_sLA, Ln_sLA, Lq_sLA, Hn_sLA, Hu_sLA, Gi_sAf, Gr_sAf, Ia_sAf, Ra_sAf, La_sAf, Kd_sAf, Co_sAf, Ow_sAf, Ln_sAf, Lq_sAf, Hn_sAf, Hu_sAf, Gi_sRAf, Gr_sRAf, Ia_sRAf, Ra_sRAf, La_sRAf, Kd_sRAf, Co_sRAf, Ow_sRAf, Ln_sRAf, Lq_sRAf, Hn_sRAf, Hu_sRAf, Gi_sLq, Gr_sLq, Ia_sLq, Ra_sLq, La_sLq, Kd_sLq, Co_sLq, Ow_sLq, Ln_sLq, Lq_sLq, Hn_sLq, Hu_sLq, Gi_nO, Gr_nO, Ia_nO, Ra_nO, La_nO, Kd_nO, Co_nO, Ow_nO, Ln_nO, Lq_nO, Hn_nO, Hu_nO, Gi_nX, Gr_nX, Ia_nX, Ra_nX, La_nX, Kd_nX, Co_nX, Ow_nX, Ln_nX, Lq_nX, Hn_nX, Hu_nX, Gi_nA, Gr_nA, Ia_nA, Ra_nA, La_nA, Kd_nA, Co_nA, Ow_nA, Ln_nA, Lq_nA, Hn_nA, Hu_nA, Gi_mv, Gr_mv, Ia_mv, Ra_mv, La_mv, Kd_mv, Co_mv, Ow_mv, Ln_mv, Lq_mv, Hn_mv, Hu_mv, z_lawRules1, z_lawRules2, z_lawRules3, z_lawRules4, z_lawRules5, z_states1, z_states2, z_states3, z_states4, z_states5, z_reasons1, z_reasons2, z_reasons3, z_reasons4, z_reasons5, z_rules1, z_rules2, z_rules3, z_rules4, z_rules5, z_codes1, z_codes2, z_codes3, z_codes4, z_codes5, hkd, hbe, hbj, x4, nj_cl (show j < 2147483648 by omega), nj_le (show L.2.2.2.length < 2147483648 by omega) (show k < 2147483648 by omega), show L.2.2.2.length ≤ k by omega, forall_eq, true_and, Option.some.injEq, exists_eq_left', not_true_eq_false, false_implies, not_false_eq_true, true_implies, and_true, and_self, if_true, if_false]
      refine hfin g' _ hfx ((FrX.sA (by decide)).tr (FrX.sA (by decide))) (fun c i hi => ?_) ?_
      · simp [Ia_sA, hi]
      · simp [Ia_sA, r2, hone, sRule]
    | cons r rs =>
      suffices H : ∀ K55 : Nat → Int32 → Int32 → Int32 → Int32 → Int32 → Int32 → GH → Prop, (∀ pos' g2, sOne s p0 p1 p2 = sRule s p0 p1 p2 rs (k + 1) → Wds (Ia g2 1582 th) (enL rs) pos' → pos' + (enL rs).length ≤ 15600 → FrX th [1569, 1570, 1595] [1594] g g2 → K55 th p0 p1 p2 (nI j) (nI pos') (nI (k + 1)) g2) → B_M_judgeOne_55 Γ K55 K th p0 p1 p2 (nI j) (nI pos) (nI k) g' from H _ (fun pos' g2 h1 h2 h3 h4 => ⟨rs.length, by simp, rfl, rfl, rfl, rfl, j, L, k + 1, pos', rs, rfl, hL, h1, by rw [← hkl, List.length_cons]; omega, fun r hr => hok r (List.mem_cons_of_mem _ hr), rfl, rfl, rfl, h2, h3, h4⟩)
      intro K55 hnext
      simp only [List.length_cons] at hkl
      obtain ⟨m1, m2, m3, m4⟩ := Wds_rule hW
      have hln := enL_len r rs
      obtain ⟨⟨o1, o2⟩, o3⟩ := hok r (List.mem_cons_self)
      have o4 : ∃ tf, tyC r.2.2 [] = some tf ∧ tf.length ≤ 1 ∧ r.2.2.length ≤ 200 := by
        rcases o3 with ⟨_, o⟩ | ⟨_, o⟩ | ⟨_, o, _⟩ | ⟨_, o⟩
        · rw [o]; exact ⟨[], rfl, by decide, by decide⟩
        · rw [o]; exact ⟨[], rfl, by decide, by decide⟩
        · exact ⟨_, o.1, Nat.le_refl _, o.2⟩
        · exact ⟨_, o.1, Nat.le_refl _, o.2⟩
      obtain ⟨tf2, o4, o5, o6⟩ := o4
      rw [show sRule s p0 p1 p2 (r :: rs) k = if sEval (fun c => sLet s p0 c p1 p2) r.1 = 0 then sRule s p0 p1 p2 rs (k + 1) else sVer s p0 p1 r.2.1 (sEval (fun c => sLet s p0 c p1 p2) r.2.2) (nI k) from rfl] at hone
      unfold B_M_judgeOne_55
      simp (decide := true) only [Gi_sI, Gr_sI, Ia_sI, Ra_sI, La_sI, Kd_sI, Co_sI, Ow_sI, Ln_sI, Lq_sI, Hn_sI, Hu_sI, Gi_sR, Gr_sR, Ia_sR, Ra_sR, La_sR, Kd_sR, Co_sR, Ow_sR, Ln_sR, Lq_sR, Hn_sR, Hu_sR, Gi_sA, Gr_sA, Ia_sA, Ra_sA, La_sA, Kd_sA, Co_sA, Ow_sA, Ln_sA, Lq_sA, Hn_sA, Hu_sA, Gi_sRA, Gr_sRA, Ia_sRA, Ra_sRA, La_sRA, Kd_sRA, Co_sRA, Ow_sRA, Ln_sRA, Lq_sRA, Hn_sRA, Hu_sRA, Gi_sLA, Gr_sLA, Ia_sLA, Ra_sLA, La_sLA, Kd_sLA, Co_sLA, Ow_sLA, Ln_sLA, Lq_sLA, Hn_sLA, Hu_sLA, Gi_sAf, Gr_sAf, Ia_sAf, Ra_sAf, La_sAf, Kd_sAf, Co_sAf, Ow_sAf, Ln_sAf, Lq_sAf, Hn_sAf, Hu_sAf, Gi_sRAf, Gr_sRAf, Ia_sRAf, Ra_sRAf, La_sRAf, Kd_sRAf, Co_sRAf, Ow_sRAf, Ln_sRAf, Lq_sRAf, Hn_sRAf, Hu_sRAf, Gi_sLq, Gr_sLq, Ia_sLq, Ra_sLq, La_sLq, Kd_sLq, Co_sLq, Ow_sLq, Ln_sLq, Lq_sLq, Hn_sLq, Hu_sLq, Gi_nO, Gr_nO, Ia_nO, Ra_nO, La_nO, Kd_nO, Co_nO, Ow_nO, Ln_nO, Lq_nO, Hn_nO, Hu_nO, Gi_nX, Gr_nX, Ia_nX, Ra_nX, La_nX, Kd_nX, Co_nX, Ow_nX, Ln_nX, Lq_nX, Hn_nX, Hu_nX, Gi_nA, Gr_nA, Ia_nA, Ra_nA, La_nA, Kd_nA, Co_nA, Ow_nA, Ln_nA, Lq_nA, Hn_nA, Hu_nA, Gi_mv, Gr_mv, Ia_mv, Ra_mv, La_mv, Kd_mv, Co_mv, Ow_mv, Ln_mv, Lq_mv, Hn_mv, Hu_mv, z_lawRules1, z_lawRules2, z_lawRules3, z_lawRules4, z_lawRules5, z_states1, z_states2, z_states3, z_states4, z_states5, z_reasons1, z_reasons2, z_reasons3, z_reasons4, z_reasons5, z_rules1, z_rules2, z_rules3, z_rules4, z_rules5, z_codes1, z_codes2, z_codes3, z_codes4, z_codes5, hkd, hbe, hbj, x4, nj_cl (show j < 2147483648 by omega), nj_le (show L.2.2.2.length < 2147483648 by omega) (show k < 2147483648 by omega), show ¬ L.2.2.2.length ≤ k by omega, forall_eq, true_and, Option.some.injEq, exists_eq_left', not_true_eq_false, false_implies, not_false_eq_true, true_implies, and_true, and_self, if_true, if_false]
      refine ⟨ma, s, hI', hw, he, r.1, 2, pos, [true], rfl, m1, by omega, .inl rfl, o1, by decide, o2, fun g2 hx2 hp2 => ?_⟩
      generalize hV : sEval (fun c => sLet s p0 c p1 p2) r.1 = V at hone ⊢
      have hh : ∀ s0 : Int32, (s0 = 0 ↔ V = 0) → B_M_judgeOne_84 Γ K55 K th p0 p1 p2 (nI j) (nI k) s0 g2 := by
        intro s0 hs0
        have hfx2 := hfx.tr hx2
        have hI2 := hI'.x hx2 (by decide +kernel)
        obtain ⟨hkd2, hS2⟩ := hI2.1
        obtain ⟨z_codes1, z_codes2, z_codes3, z_codes4, z_codes5⟩ := hS2 1582 20 15600 rfl
        have hc2 : Ia g2 1582 th = Ia g' 1582 th := hx2.2.2 1582 (by decide)
        have hbw := inB_nI (show pos + (enC r.1).length + 1 < 15600 by omega) (by omega)
        unfold B_M_judgeOne_84
        simp (decide := true) only [z_codes1, z_codes2, z_codes3, z_codes4, z_codes5, hkd2, hp2, hbw, hc2, m2, nj_s, nj_cl (show pos + (enC r.1).length + 1 < 2147483648 by omega), forall_eq, true_and, Option.some.injEq, exists_eq_left', and_self]
        refine ⟨ma, s, hI2, hw, he, r.2.2, 3, pos + (enC r.1).length + 1 + 1, tf2, rfl, by rw [hc2]; exact m3, by omega, .inr rfl, o4, o5, o6, fun g3 hx3 hp3 => ?_⟩
        generalize sEval (fun c => sLet s p0 c p1 p2) r.2.2 = V2 at hone ⊢
        have hfx3 := hfx2.tr hx3
        have hI3 := hI2.x hx3 (by decide +kernel)
        obtain ⟨hkd3, hS3⟩ := hI3.1
        obtain ⟨z_lawRules1, z_lawRules2, z_lawRules3, z_lawRules4, z_lawRules5⟩ := hS3 1587 20 30 rfl
        obtain ⟨z_states1, z_states2, z_states3, z_states4, z_states5⟩ := hS3 1596 20 200 rfl
        obtain ⟨z_reasons1, z_reasons2, z_reasons3, z_reasons4, z_reasons5⟩ := hS3 1597 20 200 rfl
        obtain ⟨z_rules1, z_rules2, z_rules3, z_rules4, z_rules5⟩ := hS3 1598 20 200 rfl
        have r31 : Ia g3 1597 th p0.toNatClampNeg = -1 := by rw [hfx3.2.2 1597 (by decide)]; exact hre
        have r32 : Ia g3 1598 th p0.toNatClampNeg = -1 := by rw [hfx3.2.2 1598 (by decide)]; exact hru
        refine ⟨hkd3, fun hn => ?_, fun hz => ?_⟩
        · rw [if_neg (fun z => hn (hs0.mpr z))] at hone
          have hone' := hone.symm
          unfold sVer at hone'
          have hd : ∀ g4, FrX th [] [1598] g3 g4 → ∀ K', K' (sDay s p0 6 p1) g4 → Sp_M_dayOf Γ th p0 6 p1 g4 K' := fun g4 hx4 K' h => ⟨ma, s, hI3.x hx4 (by decide +kernel), h⟩
          simp (decide := true) only [B_M_judgeOne_225, B_M_judgeOne_236, B_M_judgeOne_259, B_M_judgeOne_260, Gi_sI, Gr_sI, Ia_sI, Ra_sI, La_sI, Kd_sI, Co_sI, Ow_sI, Ln_sI, Lq_sI, Hn_sI, Hu_sI, Gi_sR, Gr_sR, Ia_sR, Ra_sR, La_sR, Kd_sR, Co_sR, Ow_sR, Ln_sR, Lq_sR, Hn_sR, Hu_sR, Gi_sA, Gr_sA, Ia_sA, Ra_sA, La_sA, Kd_sA, Co_sA, Ow_sA, Ln_sA, Lq_sA, Hn_sA, Hu_sA, Gi_sRA, Gr_sRA, Ia_sRA, Ra_sRA, La_sRA, Kd_sRA, Co_sRA, Ow_sRA, Ln_sRA, Lq_sRA, Hn_sRA, Hu_sRA, Gi_sLA, Gr_sLA, Ia_sLA, Ra_sLA, La_sLA, Kd_sLA, Co_sLA, Ow_sLA, Ln_sLA, Lq_sLA, Hn_sLA, Hu_sLA, Gi_sAf, Gr_sAf, Ia_sAf, Ra_sAf, La_sAf, Kd_sAf, Co_sAf, Ow_sAf, Ln_sAf, Lq_sAf, Hn_sAf, Hu_sAf, Gi_sRAf, Gr_sRAf, Ia_sRAf, Ra_sRAf, La_sRAf, Kd_sRAf, Co_sRAf, Ow_sRAf, Ln_sRAf, Lq_sRAf, Hn_sRAf, Hu_sRAf, Gi_sLq, Gr_sLq, Ia_sLq, Ra_sLq, La_sLq, Kd_sLq, Co_sLq, Ow_sLq, Ln_sLq, Lq_sLq, Hn_sLq, Hu_sLq, Gi_nO, Gr_nO, Ia_nO, Ra_nO, La_nO, Kd_nO, Co_nO, Ow_nO, Ln_nO, Lq_nO, Hn_nO, Hu_nO, Gi_nX, Gr_nX, Ia_nX, Ra_nX, La_nX, Kd_nX, Co_nX, Ow_nX, Ln_nX, Lq_nX, Hn_nX, Hu_nX, Gi_nA, Gr_nA, Ia_nA, Ra_nA, La_nA, Kd_nA, Co_nA, Ow_nA, Ln_nA, Lq_nA, Hn_nA, Hu_nA, Gi_mv, Gr_mv, Ia_mv, Ra_mv, La_mv, Kd_mv, Co_mv, Ow_mv, Ln_mv, Lq_mv, Hn_mv, Hu_mv, z_lawRules1, z_lawRules2, z_lawRules3, z_lawRules4, z_lawRules5, z_states1, z_states2, z_states3, z_states4, z_states5, z_reasons1, z_reasons2, z_reasons3, z_reasons4, z_reasons5, z_rules1, z_rules2, z_rules3, z_rules4, z_rules5, hkd3, hbe, forall_eq, true_and, Option.some.injEq, exists_eq_left', not_true_eq_false, false_implies, not_false_eq_true, true_implies, and_true, and_self, if_true, if_false]
          have hfr3 : ∀ a b c, FrX th [1569, 1570, 1595] [1594, 1596, 1597, 1598] g3 (sA (sA (sA g3 1598 th p0.toNatClampNeg a) 1596 th p0.toNatClampNeg b) 1597 th p0.toNatClampNeg c) := fun a b c => ((FrX.sA (by decide)).tr (FrX.sA (by decide))).tr (FrX.sA (by decide))
          have hfr2 : ∀ a b, FrX th [1569, 1570, 1595] [1594, 1596, 1597, 1598] g3 (sA (sA g3 1598 th p0.toNatClampNeg a) 1596 th p0.toNatClampNeg b) := fun a b => (FrX.sA (by decide)).tr (FrX.sA (by decide))
          refine ⟨fun q1 => ⟨fun q2 => ⟨fun q3 => ?_, fun q3 => ?_⟩, fun q2 => ?_⟩, fun q1 => ?_⟩
          · refine hd _ (FrX.sA (by decide)) _ ?_
            generalize hD : sDay s p0 6 p1 = D at hone' ⊢
            rw [if_neg q1, if_neg q2, if_neg q3] at hone'
            simp (decide := true) only [B_M_judgeOne_225, B_M_judgeOne_236, B_M_judgeOne_259, B_M_judgeOne_260, Gi_sI, Gr_sI, Ia_sI, Ra_sI, La_sI, Kd_sI, Co_sI, Ow_sI, Ln_sI, Lq_sI, Hn_sI, Hu_sI, Gi_sR, Gr_sR, Ia_sR, Ra_sR, La_sR, Kd_sR, Co_sR, Ow_sR, Ln_sR, Lq_sR, Hn_sR, Hu_sR, Gi_sA, Gr_sA, Ia_sA, Ra_sA, La_sA, Kd_sA, Co_sA, Ow_sA, Ln_sA, Lq_sA, Hn_sA, Hu_sA, Gi_sRA, Gr_sRA, Ia_sRA, Ra_sRA, La_sRA, Kd_sRA, Co_sRA, Ow_sRA, Ln_sRA, Lq_sRA, Hn_sRA, Hu_sRA, Gi_sLA, Gr_sLA, Ia_sLA, Ra_sLA, La_sLA, Kd_sLA, Co_sLA, Ow_sLA, Ln_sLA, Lq_sLA, Hn_sLA, Hu_sLA, Gi_sAf, Gr_sAf, Ia_sAf, Ra_sAf, La_sAf, Kd_sAf, Co_sAf, Ow_sAf, Ln_sAf, Lq_sAf, Hn_sAf, Hu_sAf, Gi_sRAf, Gr_sRAf, Ia_sRAf, Ra_sRAf, La_sRAf, Kd_sRAf, Co_sRAf, Ow_sRAf, Ln_sRAf, Lq_sRAf, Hn_sRAf, Hu_sRAf, Gi_sLq, Gr_sLq, Ia_sLq, Ra_sLq, La_sLq, Kd_sLq, Co_sLq, Ow_sLq, Ln_sLq, Lq_sLq, Hn_sLq, Hu_sLq, Gi_nO, Gr_nO, Ia_nO, Ra_nO, La_nO, Kd_nO, Co_nO, Ow_nO, Ln_nO, Lq_nO, Hn_nO, Hu_nO, Gi_nX, Gr_nX, Ia_nX, Ra_nX, La_nX, Kd_nX, Co_nX, Ow_nX, Ln_nX, Lq_nX, Hn_nX, Hu_nX, Gi_nA, Gr_nA, Ia_nA, Ra_nA, La_nA, Kd_nA, Co_nA, Ow_nA, Ln_nA, Lq_nA, Hn_nA, Hu_nA, Gi_mv, Gr_mv, Ia_mv, Ra_mv, La_mv, Kd_mv, Co_mv, Ow_mv, Ln_mv, Lq_mv, Hn_mv, Hu_mv, z_lawRules1, z_lawRules2, z_lawRules3, z_lawRules4, z_lawRules5, z_states1, z_states2, z_states3, z_states4, z_states5, z_reasons1, z_reasons2, z_reasons3, z_reasons4, z_reasons5, z_rules1, z_rules2, z_rules3, z_rules4, z_rules5, hkd3, hbe, forall_eq, true_and, Option.some.injEq, exists_eq_left', not_true_eq_false, false_implies, not_false_eq_true, true_implies, and_true, and_self, if_true, if_false]
            refine ⟨fun d1 => ⟨fun d2 => ?_, fun d2 => ?_⟩, fun d1 => ⟨fun d3 => ⟨fun d2 => ?_, fun d2 => ?_⟩, fun d3 => ?_⟩⟩
            all_goals refine hfin g3 _ hfx3 (hfr3 _ _ _) (fun c i hi => by simp [Ia_sA, hi]) ?_
            all_goals rw [← hone']
            all_goals clear hone'
            all_goals simp [Ia_sA, *]
          · refine hfin g3 _ hfx3 (hfr3 _ _ _) (fun c i hi => by simp [Ia_sA, hi]) ?_
            rw [if_neg q1, if_neg q2, if_pos q3] at hone'
            rw [← hone']; simp [Ia_sA]
          · refine hfin g3 _ hfx3 (hfr2 _ _) (fun c i hi => by simp [Ia_sA, hi]) ?_
            rw [if_neg q1, if_pos q2] at hone'
            rw [← hone']; simp [Ia_sA, r31]
          · refine hfin g3 _ hfx3 (hfr2 _ _) (fun c i hi => by simp [Ia_sA, hi]) ?_
            rw [if_pos q1] at hone'
            rw [← hone']; simp [Ia_sA, r31]
        · rw [if_pos (hs0.mp hz)] at hone
          rw [hp3]
          exact hnext _ g3 hone (by rw [hx3.2.2 1582 (by decide), hc2]; exact m4) (by omega) hfx3
      exact ⟨fun q => hh 0 (by simp [q]), fun q => hh 1 (by simp [q])⟩
  · obtain ⟨hkd, hS⟩ := hI.1
    obtain ⟨z_voterOf1, z_voterOf2, z_voterOf3, z_voterOf4, z_voterOf5⟩ := hS 1556 20 200 rfl
    obtain ⟨z_dayFor1, z_dayFor2, z_dayFor3, z_dayFor4, z_dayFor5⟩ := hS 1600 20 200 rfl
    obtain ⟨z_states1, z_states2, z_states3, z_states4, z_states5⟩ := hS 1596 20 200 rfl
    unfold B_M_judgeOne_0
    simp only [z_voterOf1, z_voterOf2, z_voterOf3, z_voterOf4, z_voterOf5, z_dayFor1, z_dayFor2, z_dayFor3, z_dayFor4, z_dayFor5, z_states1, z_states2, z_states3, z_states4, z_states5, hkd, hbe, hdf, (w3 _ x hx).1, true_and, Option.some.injEq, exists_eq_left']
    refine ⟨ma, s, hI, hv0, hvl, ?_⟩
    simp only [z_voterOf1, z_voterOf2, z_voterOf3, z_voterOf4, z_voterOf5, z_dayFor1, z_dayFor2, z_dayFor3, z_dayFor4, z_dayFor5, z_states1, z_states2, z_states3, z_states4, z_states5, hkd, hbe, hdf, true_and, Option.some.injEq, exists_eq_left']
    refine ⟨ma, s, hI, ?_⟩
    have hone : sOne s p0 p1 p2 = sOne s p0 p1 p2 := rfl
    conv at hone => rhs; unfold sOne; rw [hex]
    cases hl : sLaw s (sShire s x.1.toNatClampNeg (sCome s p0 p1).1 p1) (sCome s p0 p1).1 p1 with
    | none =>
      rw [hl] at hone
      refine ⟨fun q => absurd rfl q, fun _ => ⟨hkd, _, z_states1, z_states2, by rw [z_states5]; exact hbe, ?_⟩⟩
      rw [z_states3, z_states4]
      rintro _ rfl
      refine hfin g _ FrX.rf (FrX.sA (by decide)) (fun c i hi => by simp [Ia_sA, hi]) ?_
      rw [hone]; simp [Ia_sA, hre, hru]
    | some p =>
      obtain ⟨j, L⟩ := p
      rw [hl] at hone
      have hL := sLaw_get hl
      have hj := (List.getElem?_eq_some_iff.mp hL).1
      obtain ⟨f1, f2, f3⟩ := hI.law
      obtain ⟨x1, x2, x3, x4, x5, x6⟩ := f3 j L hL
      rw [oI_s]
      refine ⟨fun _ => ?_, fun q => absurd q (nI_nm1 (by omega))⟩
      rintro _ rfl
      refine ⟨L.2.2.2.length, j, L, 0, 520 * j, L.2.2.2, rfl, hL, hone, Nat.zero_add _, (hw.law L (List.mem_of_getElem? hL)).2.2.2.2, rfl, ?_, rfl, Wds_of x6, by omega, FrX.rf⟩
      unfold nI
      rw [Int32.ofNat_mul]; rfl
