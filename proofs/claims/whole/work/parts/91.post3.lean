/-! the class: its judge decides -/
theorem nI_mul9 (a b : Nat) : nI a * nI b = nI (a * b) := (Int32.ofNat_mul a b).symm
/-- what stays but at some places -/
def FrQQ (P Q : Nat → Nat → Prop) (g g' : GH) : Prop := (∀ f a, ¬ P f a → Gi g' f a = Gi g f a) ∧ Gr g' = Gr g ∧ (∀ c o, ¬ Q c o → Ia g' c o = Ia g c o) ∧ Ra g' = Ra g ∧ La g' = La g ∧ Kd g' = Kd g ∧ Co g' = Co g ∧ Ow g' = Ow g ∧ Ln g' = Ln g ∧ Lq g' = Lq g ∧ Hn g' = Hn g ∧ Hu g' = Hu g
theorem FrQQ.rf {P Q : Nat → Nat → Prop} {g : GH} : FrQQ P Q g g := ⟨fun _ _ _ => rfl, rfl, fun _ _ _ => rfl, rfl, rfl, rfl, rfl, rfl, rfl, rfl, rfl, rfl⟩
theorem FrQQ.tr {P Q : Nat → Nat → Prop} {g g1 g2 : GH} (h : FrQQ P Q g g1) (k : FrQQ P Q g1 g2) : FrQQ P Q g g2 := by
  obtain ⟨h1, h2, h3, h4, h5, h6, h7, h8, h9, h10, h11, h12⟩ := h
  obtain ⟨k1, k2, k3, k4, k5, k6, k7, k8, k9, k10, k11, k12⟩ := k
  exact ⟨fun f a q => (k1 f a q).trans (h1 f a q), k2.trans h2, fun c o q => (k3 c o q).trans (h3 c o q), k4.trans h4, k5.trans h5, k6.trans h6, k7.trans h7, k8.trans h8, k9.trans h9, k10.trans h10, k11.trans h11, k12.trans h12⟩
theorem FrQQ.up {P Q P' Q' : Nat → Nat → Prop} {g g' : GH} (h : FrQQ P Q g g') (h1 : ∀ f a, P f a → P' f a) (h2 : ∀ c o, Q c o → Q' c o) : FrQQ P' Q' g g' :=
  ⟨fun f a q => h.1 f a (fun z => q (h1 f a z)), h.2.1, fun c o q => h.2.2.1 c o (fun z => q (h2 c o z)), h.2.2.2⟩
theorem FrX.p {m : Nat} {fs cs : List Nat} {P Q : Nat → Nat → Prop} {g g' : GH} (h : FrX m fs cs g g') (h1 : ∀ f ∈ fs, P f m) (h2 : ∀ c ∈ cs, Q c m) : FrQQ P Q g g' := by
  obtain ⟨⟨x1, x2, x3, x4, x5, x6, x7, x8, x9, x10, x11, x12⟩, y1, y2⟩ := h
  refine ⟨fun f a q => ?_, x2, fun c o q => ?_, x4, x5, x6, x7, x8, x9, x10, x11, x12⟩
  · by_cases e : a = m
    · rw [e] at q ⊢
      exact y1 f (fun z => q (h1 f z))
    · exact x1 f a e
  · by_cases e : o = m
    · rw [e] at q ⊢
      exact y2 c (fun z => q (h2 c z))
    · exact x3 c o e
theorem FrQQ.fr {P Q : Nat → Nat → Prop} {fs cs als : List Nat} {g g' : GH} (h : FrQQ P Q g g') (hk : EN g) (h1 : ∀ f a, P f a → f ∈ fs) (h2 : ∀ c o, Q c o → c ∈ cs) : Fr fs cs als g g' := by
  obtain ⟨x1, x2, x3, x4, x5, x6, x7, x8, x9, x10, x11, x12⟩ := h
  exact Fr.of hk (fun f a _ q2 _ => x1 f a (fun z => q2 (h1 f a z))) x2 (fun c o q1 _ => ⟨x3 c o (fun z => q1 (h2 c o z)), by rw [x4]⟩) x6 x7 x8 x9 x5 x11 x12
theorem FrQQ.fc {D : DIR} {P Q : Nat → Nat → Prop} {g g' : GH} (h : FrQQ P Q g g') (hk : EN g) (h1 : ∀ f a, P f a → f ∈ cFS) (h2 : ∀ c o, Q c o → c ∈ cCS) : FC D g g' := by
  have hc : cpA g' (d_cl D) = cpA g (d_cl D) := by unfold cpA; rw [h.2.1, h.2.2.2.2.2.2.2.2.1]
  have e1 := h.2.2.2.2.2.2.2.2.2.2
  refine ⟨h.fr hk h1 h2, ?_, ?_⟩
  · unfold phi; rw [hc, e1.1]; exact Nat.le_refl _
  · unfold phi; rw [hc, e1.2]; exact Nat.le_refl _
theorem FrQQ.e2 {P Q : Nat → Nat → Prop} {g g' : GH} {e : Nat} (h : FrQQ P Q g g') (k : E2 e g) : E2 e g' := by
  obtain ⟨x1, x2, x3, x4, x5, x6, x7, x8, x9, x10, x11, x12⟩ := h
  unfold E2 at k ⊢
  rw [x2, x6, x7, x8, x9]
  exact k
def dP (x ju : Nat) (f a : Nat) : Prop := (a = x ∧ (f = 140 ∨ f = 141 ∨ f = 142)) ∨ (a = ju ∧ f = 386)
def dQ (ju : Nat) (c o : Nat) : Prop := o = ju ∧ c = 385
theorem dP_c {x ju : Nat} : ∀ f a, dP x ju f a → f ∈ cFS := by
  rintro f a (⟨-, rfl | rfl | rfl⟩ | ⟨-, rfl⟩) <;> decide
theorem dQ_c {ju : Nat} : ∀ c o, dQ ju c o → c ∈ cCS := by
  rintro c o ⟨-, rfl⟩; decide
theorem eLt.p {x w ju : Nat} {g g' : GH} {d q : Int32} (h : FrQQ (dP x ju) (dQ ju) g g') (h1 : x ≠ ju) (h2 : w ≠ ju) (h3 : w ≠ x) : eLt g' x w d q = eLt g x w d q := by
  have gx : ∀ f, f ≠ 140 → f ≠ 141 → f ≠ 142 → Gi g' f x = Gi g f x := fun f a b c => h.1 f x (fun z => z.elim (fun z => z.2.elim a (fun z => z.elim b c)) (fun z => h1 z.1))
  have gw : ∀ f, Gi g' f w = Gi g f w := fun f => h.1 f w (fun z => z.elim (fun z => h3 z.1) (fun z => h2 z.1))
  have ia : ∀ c, Ia g' c x = Ia g c x := fun c => h.2.2.1 c x (fun z => h1 z.1)
  unfold eLt
  rw [gw, gw, gw, gw, ia, ia, gx _ (by decide) (by decide) (by decide), gx _ (by decide) (by decide) (by decide), gx _ (by decide) (by decide) (by decide), gx _ (by decide) (by decide) (by decide)]
theorem vPa_s {s : ST} {e q v n k c r : Int32} (hc : c = sDay s e 6 q) (hr : r = -1) : ((vPa v n c q).1, (vPa v n c q).2.getD r, k) = sVer s e q v n k := by
  subst hc hr
  unfold vPa sVer aCu
  by_cases h1 : v = 103
  · simp only [h1, if_true]; rfl
  · by_cases h2 : v = 118
    · subst h2; rfl
    · by_cases h3 : v = 119
      · subst h3; rfl
      · simp only [h1, h2, h3, if_false]
        by_cases h4 : sDay s e 6 q = -1
        · by_cases h5 : n < q
          · simp only [h4, h5, ne_eq, not_true_eq_false, false_and, if_false, if_true]; rfl
          · simp only [h4, h5, ne_eq, not_true_eq_false, false_and, if_false]; rfl
        · by_cases h6 : n < sDay s e 6 q
          · by_cases h5 : n < q
            · simp only [h4, h5, h6, ne_eq, not_false_eq_true, not_true_eq_false, and_false, if_false, if_true]; rfl
            · simp only [h4, h5, h6, ne_eq, not_false_eq_true, not_true_eq_false, and_false, if_false]; rfl
          · simp only [h4, h6, ne_eq, not_false_eq_true, true_and, if_true]; rfl
theorem okR_ty {r : List Int32 × Int32 × List Int32} (h : okRule r) : (∃ t, tyC r.1 [] = some t) ∧ ∃ t, tyC r.2.2 [] = some t := by
  obtain ⟨⟨h1, _⟩, h2⟩ := h
  refine ⟨⟨_, h1⟩, ?_⟩
  rcases h2 with ⟨_, h⟩ | ⟨_, h⟩ | ⟨_, ⟨h, _⟩, _⟩ | ⟨_, ⟨h, _⟩⟩
  · rw [h]; exact ⟨_, rfl⟩
  · rw [h]; exact ⟨_, rfl⟩
  · exact ⟨_, h⟩
  · exact ⟨_, h⟩
theorem LC.len {g : GH} {a j n : Nat} {c : List Int32} (h : LC g a j c) (hn : n ≤ 199) (k : AI g 516 a n) : c.length ≤ 199 := by
  obtain ⟨_, b0, nw, nb, w, x, ⟨w1, w2, w3, w4, w5⟩, -, _, _, _, c4, _⟩ := h
  obtain ⟨_, d, k1, _, _, _, _, k6⟩ := k
  rw [w1] at k1; cases k1
  omega
def Sp_Ju_decide (Γ : GAM) (m x : Nat) (q : Int32) (g : GH) (K : GH → Prop) : Prop := ∃ D s e ahead y w, d_ju D = m ∧ PoI Γ D g s ∧ WF s ∧ (0 ≤ q ∧ q ≤ s_now s) ∧ (d_es D)[e]? = some x ∧ (s_env s)[e]? = some y ∧ (d_vs D)[y.1.toNatClampNeg]? = some w ∧ ENV s e q x g ∧ ECM s e q x g ∧ (sCome s (nI e) q).1 ≠ -1 ∧ (Gi g 139 x = ahead ∧ bd4 ahead) ∧ (Gi g 141 x = -1 ∧ Gi g 142 x = -1) ∧ (Gi g 1288 w = sBooth s y.1 q ∧ Gi g 1285 w = sSent s y.1 q) ∧
  ∀ g', FrQQ (dP x m) (dQ m) g g' → (Gi g' 140 x, Gi g' 141 x, Gi g' 142 x) = sOne s (nI e) q ahead → K g'
-- the walk of Ju_decide
set_option maxRecDepth 100000 in
def B_Ju_decide_54 (Γ : GAM) (K54 : Nat → Nat → Int32 → Nat → Int32 → GH → Prop) (K : GH → Prop) (l0 : Nat) (l1 : Nat) (l2 : Int32) (l4 : Nat) (l5 : Int32) (g : GH) : Prop :=
  Kd g l4 = 5 ∧ (((Gi g 515 l4) ≤ l5 → Kd g l1 = 2 ∧ ∀ g1 : GH, g1 = sI g 140 l1 (4 : Int32) → Kd g1 l1 = 2 ∧ ∀ g2 : GH, g2 = sI g1 141 l1 (9991 : Int32) → K g2) ∧ (¬ ((Gi g 515 l4) ≤ l5) → Kd g l0 = 4 ∧ Sp_Ju_valueOf Γ l0 l4 ((2 : Int32) * l5) l1 l2 g (fun (x4 : Int32) (g3 : GH) => ((x4 = 0 → K54 l0 l1 l2 l4 (l5 + (1 : Int32)) g3) ∧ (¬ (x4 = 0) → Kd g3 l1 = 2 ∧ ∀ g5 : GH, g5 = sI g3 142 l1 l5 → Kd g5 l4 = 5 ∧ ∃ a6 : Nat, Gr g5 518 l4 = some a6 ∧ Kd g5 a6 = 20 ∧ inB l5 (Ln g5 a6) ∧ Kd g5 l0 = 4 ∧ Sp_Ju_valueOf Γ l0 l4 (((2 : Int32) * l5) + (1 : Int32)) l1 l2 g5 (fun (x8 : Int32) (g7 : GH) => Kd g7 l0 = 4 ∧ Sp_Ju_pass Γ l0 l1 (Ia g5 (Co g5 a6) (Ow g5 a6) l5.toNatClampNeg) x8 l2 g7 (fun (g9 : GH) => K g9)))))))
set_option maxHeartbeats 4000000 in
set_option maxRecDepth 100000 in
theorem S_Ju_decide_54 {Γ : GAM} {E : EV} {K : GH → Prop} (hE : GE Γ E cX2_decide 6 RX2 none 7 327 (fun r g' => r = none ∧ K g')) {K54 : Nat → Nat → Int32 → Nat → Int32 → GH → Prop} (hK54 : ∀ (l0 : Nat) (l1 : Nat) (l2 : Int32) (l4 : Nat) (l5 : Int32) (g : GH), K54 l0 l1 l2 l4 l5 g → JW Γ E 54 [some (.ref l0), some (.ref l1), some (.int l2), none, some (.ref l4), some (.int l5)] [] g) (l0 : Nat) (l1 : Nat) (l2 : Int32) (l4 : Nat) (l5 : Int32) (g : GH) (h : B_Ju_decide_54 Γ K54 K l0 l1 l2 l4 l5 g) : JW Γ E 54 [some (.ref l0), some (.ref l1), some (.int l2), none, some (.ref l4), some (.int l5)] [] g := by
  unfold B_Ju_decide_54 at h
  refine j_iload hE (by decide +kernel : decode cX2_decide 54 = .ok (.iload 5, 2)) rfl ?_
  refine j_aload hE (by decide +kernel : decode cX2_decide 56 = .ok (.aload 4, 2)) rfl ?_
  obtain ⟨hk, h⟩ := h
  refine j_getI hE fg_X2_62 hk (by decide +kernel : decode cX2_decide 58 = .ok (.getfield 62, 3)) ?_
  refine j_icmp_ge hE (by decide +kernel : decode cX2_decide 61 = .ok (.if_icmp .ge 59, 3)) (tgt := 120) (by decide) (fun q => ?_) (fun q => ?_)
  · replace h := h.1 q
    refine j_aload_n hE (by decide +kernel : decode cX2_decide 120 = .ok (.aload_n 1, 1)) rfl rfl ?_
    refine j_iconst hE (by decide +kernel : decode cX2_decide 121 = .ok (.iconst 4, 1)) (v := (4 : Int32)) (by decide) ?_
    obtain ⟨hk, h⟩ := h
    obtain ⟨g1, hg⟩ : ∃ z, z = sI g 140 l1 (4 : Int32) := ⟨_, rfl⟩; replace h := h g1 hg
    refine j_putI hE fa_X2_59 hk (fun q => by cases q) (by decide +kernel : decode cX2_decide 122 = .ok (.putfield 59, 3)) ?_
    rw [← hg]
    refine j_aload_n hE (by decide +kernel : decode cX2_decide 125 = .ok (.aload_n 1, 1)) rfl rfl ?_
    refine j_sipush hE (by decide +kernel : decode cX2_decide 126 = .ok (.sipush 9991, 3)) (v := (9991 : Int32)) (by decide) ?_
    obtain ⟨hk, h⟩ := h
    obtain ⟨g2, hg⟩ : ∃ z, z = sI g1 141 l1 (9991 : Int32) := ⟨_, rfl⟩; replace h := h g2 hg
    refine j_putI hE fa_X2_79 hk (fun q => by cases q) (by decide +kernel : decode cX2_decide 129 = .ok (.putfield 79, 3)) ?_
    rw [← hg]
    exact j_vret hE (by decide +kernel : decode cX2_decide 132 = .ok (.return_, 1)) ⟨rfl, h⟩
  · replace h := h.2 q
    refine j_aload_n hE (by decide +kernel : decode cX2_decide 64 = .ok (.aload_n 0, 1)) rfl rfl ?_
    refine j_aload hE (by decide +kernel : decode cX2_decide 65 = .ok (.aload 4, 2)) rfl ?_
    refine j_iconst hE (by decide +kernel : decode cX2_decide 67 = .ok (.iconst 2, 1)) (v := (2 : Int32)) (by decide) ?_
    refine j_iload hE (by decide +kernel : decode cX2_decide 68 = .ok (.iload 5, 2)) rfl ?_
    refine j_imul hE (by decide +kernel : decode cX2_decide 70 = .ok (.imul, 1)) ?_
    refine j_aload_n hE (by decide +kernel : decode cX2_decide 71 = .ok (.aload_n 1, 1)) rfl rfl ?_
    refine j_iload_n hE (by decide +kernel : decode cX2_decide 72 = .ok (.iload_n 2, 1)) rfl rfl ?_
    obtain ⟨hk, h⟩ := h
    refine j_callV hE rfl cl_X2_65 cf_3 im_X2_valueOf se_X2_valueOf ⟨by omega, by omega⟩ (As := [.ref l4, .int ((2 : Int32) * l5), .ref l1, .int l2]) (rest := []) rfl rfl (Nat.le_of_ble_eq_true rfl) hk (by decide +kernel : decode cX2_decide 73 = .ok (.invokevirtual 65, 3)) (mt_Ju_valueOf _ _ _ _ _ _ _ h) ?_
    rintro _ g3 ⟨x4, rfl, h⟩
    refine j_if_eq hE (by decide +kernel : decode cX2_decide 76 = .ok (.ifCond .eq 38, 3)) (tgt := 114) (by decide) (fun q => ?_) (fun q => ?_)
    · replace h := h.1 q
      refine j_iinc hE (by decide +kernel : decode cX2_decide 114 = .ok (.iinc 5 1, 3)) (v := (1 : Int32)) (by decide) rfl (Nat.le_of_ble_eq_true rfl) rfl ?_
      refine j_goto hE (by decide +kernel : decode cX2_decide 117 = .ok (.goto (-63), 3)) (tgt := 54) (by decide) ?_
      exact hK54 _ _ _ _ _ _ h
    · replace h := h.2 q
      refine j_aload_n hE (by decide +kernel : decode cX2_decide 79 = .ok (.aload_n 1, 1)) rfl rfl ?_
      refine j_iload hE (by decide +kernel : decode cX2_decide 80 = .ok (.iload 5, 2)) rfl ?_
      obtain ⟨hk, h⟩ := h
      obtain ⟨g5, hg⟩ : ∃ z, z = sI g3 142 l1 l5 := ⟨_, rfl⟩; replace h := h g5 hg
      refine j_putI hE fa_X2_69 hk (fun q => by cases q) (by decide +kernel : decode cX2_decide 82 = .ok (.putfield 69, 3)) ?_
      rw [← hg]
      refine j_aload_n hE (by decide +kernel : decode cX2_decide 85 = .ok (.aload_n 0, 1)) rfl rfl ?_
      refine j_aload_n hE (by decide +kernel : decode cX2_decide 86 = .ok (.aload_n 1, 1)) rfl rfl ?_
      refine j_aload hE (by decide +kernel : decode cX2_decide 87 = .ok (.aload 4, 2)) rfl ?_
      obtain ⟨hk, h⟩ := h
      obtain ⟨a6, ha, h⟩ := h
      refine j_getRn hE fg_X2_72 hk ha (by decide +kernel : decode cX2_decide 89 = .ok (.getfield 72, 3)) ?_
      refine j_iload hE (by decide +kernel : decode cX2_decide 92 = .ok (.iload 5, 2)) rfl ?_
      obtain ⟨hk, hb, h⟩ := h
      refine j_iald hE hk hb (by decide +kernel : decode cX2_decide 94 = .ok (.iaload, 1)) ?_
      refine j_aload_n hE (by decide +kernel : decode cX2_decide 95 = .ok (.aload_n 0, 1)) rfl rfl ?_
      refine j_aload hE (by decide +kernel : decode cX2_decide 96 = .ok (.aload 4, 2)) rfl ?_
      refine j_iconst hE (by decide +kernel : decode cX2_decide 98 = .ok (.iconst 2, 1)) (v := (2 : Int32)) (by decide) ?_
      refine j_iload hE (by decide +kernel : decode cX2_decide 99 = .ok (.iload 5, 2)) rfl ?_
      refine j_imul hE (by decide +kernel : decode cX2_decide 101 = .ok (.imul, 1)) ?_
      refine j_iconst hE (by decide +kernel : decode cX2_decide 102 = .ok (.iconst 1, 1)) (v := (1 : Int32)) (by decide) ?_
      refine j_iadd hE (by decide +kernel : decode cX2_decide 103 = .ok (.iadd, 1)) ?_
      refine j_aload_n hE (by decide +kernel : decode cX2_decide 104 = .ok (.aload_n 1, 1)) rfl rfl ?_
      refine j_iload_n hE (by decide +kernel : decode cX2_decide 105 = .ok (.iload_n 2, 1)) rfl rfl ?_
      obtain ⟨hk, h⟩ := h
      refine j_callV hE rfl cl_X2_65 cf_3 im_X2_valueOf se_X2_valueOf ⟨by omega, by omega⟩ (As := [.ref l4, .int (((2 : Int32) * l5) + (1 : Int32)), .ref l1, .int l2]) (rest := [.int (Ia g5 (Co g5 a6) (Ow g5 a6) l5.toNatClampNeg), .ref l1, .ref l0]) rfl rfl (Nat.le_of_ble_eq_true rfl) hk (by decide +kernel : decode cX2_decide 106 = .ok (.invokevirtual 65, 3)) (mt_Ju_valueOf _ _ _ _ _ _ _ h) ?_
      rintro _ g7 ⟨x8, rfl, h⟩
      refine j_iload_n hE (by decide +kernel : decode cX2_decide 109 = .ok (.iload_n 2, 1)) rfl rfl ?_
      obtain ⟨hk, h⟩ := h
      refine j_callV hE rfl cl_X2_75 cf_3 im_X2_pass se_X2_pass ⟨by omega, by omega⟩ (As := [.ref l1, .int (Ia g5 (Co g5 a6) (Ow g5 a6) l5.toNatClampNeg), .int x8, .int l2]) (rest := []) rfl rfl (Nat.le_of_ble_eq_true rfl) hk (by decide +kernel : decode cX2_decide 110 = .ok (.invokevirtual 75, 3)) (mt_Ju_pass _ _ _ _ _ _ _ h) ?_
      rintro _ g9 ⟨rfl, h⟩
      exact j_vret hE (by decide +kernel : decode cX2_decide 113 = .ok (.return_, 1)) ⟨rfl, h⟩
set_option maxRecDepth 100000 in
def B_Ju_decide_0 (Γ : GAM) (K54 : Nat → Nat → Int32 → Nat → Int32 → GH → Prop) (K : GH → Prop) (th : Nat) (p0 : Nat) (p1 : Int32) (g : GH) : Prop :=
  Kd g p0 = 2 ∧ Sp_En_shireOf Γ p0 p1 g (fun (x2 : Int32) (g1 : GH) => Kd g1 p0 = 2 ∧ Kd g1 th = 4 ∧ Sp_Ju_inForce Γ th x2 (Gi g1 137 p0) p1 g1 (fun (x4 : Int32) (g3 : GH) => Kd g3 th = 4 ∧ ∃ a5 : Nat, Gr g3 384 th = some a5 ∧ Kd g3 a5 = 1 ∧ Sp_AL_size Γ a5 g3 (fun (x7 : Int32) (g6 : GH) => Sp_PV_isWithin Γ x4 (0 : Int32) (x7 - (1 : Int32)) g6 (fun (x9 : Int32) (g8 : GH) => ((¬ (x9 = 0) → Kd g8 th = 4 ∧ ∃ a10 : Nat, Gr g8 384 th = some a10 ∧ Kd g8 a10 = 1 ∧ Sp_AL_get Γ a10 x4 g8 (fun (a12 : Nat) (g11 : GH) => Kd g11 a12 = 5 ∧ K54 th p0 p1 a12 (0 : Int32) g11)) ∧ (x9 = 0 → Kd g8 p0 = 2 ∧ ∀ g13 : GH, g13 = sI g8 140 p0 (3 : Int32) → K g13))))))
set_option maxHeartbeats 4000000 in
set_option maxRecDepth 100000 in
theorem S_Ju_decide_0 {Γ : GAM} {E : EV} {K : GH → Prop} (hE : GE Γ E cX2_decide 6 RX2 none 7 327 (fun r g' => r = none ∧ K g')) {K54 : Nat → Nat → Int32 → Nat → Int32 → GH → Prop} (hK54 : ∀ (l0 : Nat) (l1 : Nat) (l2 : Int32) (l4 : Nat) (l5 : Int32) (g : GH), K54 l0 l1 l2 l4 l5 g → JW Γ E 54 [some (.ref l0), some (.ref l1), some (.int l2), none, some (.ref l4), some (.int l5)] [] g) (th : Nat) (p0 : Nat) (p1 : Int32) (g : GH) (h : B_Ju_decide_0 Γ K54 K th p0 p1 g) : JW Γ E 0 [some (.ref th), some (.ref p0), some (.int p1), none, none, none] [] g := by
  unfold B_Ju_decide_0 at h
  refine j_aload_n hE (by decide +kernel : decode cX2_decide 0 = .ok (.aload_n 0, 1)) rfl rfl ?_
  refine j_aload_n hE (by decide +kernel : decode cX2_decide 1 = .ok (.aload_n 1, 1)) rfl rfl ?_
  refine j_iload_n hE (by decide +kernel : decode cX2_decide 2 = .ok (.iload_n 2, 1)) rfl rfl ?_
  obtain ⟨hk, h⟩ := h
  refine j_callV hE rfl cl_X2_42 cf_1 im_X0_shireOf se_X0_shireOf ⟨by omega, by omega⟩ (As := [.int p1]) (rest := [.ref th]) rfl rfl (Nat.le_of_ble_eq_true rfl) hk (by decide +kernel : decode cX2_decide 3 = .ok (.invokevirtual 42, 3)) (mt_En_shireOf _ _ _ _ h) ?_
  rintro _ g1 ⟨x2, rfl, h⟩
  refine j_aload_n hE (by decide +kernel : decode cX2_decide 6 = .ok (.aload_n 1, 1)) rfl rfl ?_
  obtain ⟨hk, h⟩ := h
  refine j_getI hE fg_X2_48 hk (by decide +kernel : decode cX2_decide 7 = .ok (.getfield 48, 3)) ?_
  refine j_iload_n hE (by decide +kernel : decode cX2_decide 10 = .ok (.iload_n 2, 1)) rfl rfl ?_
  obtain ⟨hk, h⟩ := h
  refine j_callV hE rfl cl_X2_51 cf_3 im_X2_inForce se_X2_inForce ⟨by omega, by omega⟩ (As := [.int x2, .int (Gi g1 137 p0), .int p1]) (rest := []) rfl rfl (Nat.le_of_ble_eq_true rfl) hk (by decide +kernel : decode cX2_decide 11 = .ok (.invokevirtual 51, 3)) (mt_Ju_inForce _ _ _ _ _ _ h) ?_
  rintro _ g3 ⟨x4, rfl, h⟩
  refine j_istore_n hE (by decide +kernel : decode cX2_decide 14 = .ok (.istore_n 3, 1)) rfl (Nat.le_of_ble_eq_true rfl) rfl ?_
  refine j_iload_n hE (by decide +kernel : decode cX2_decide 15 = .ok (.iload_n 3, 1)) rfl rfl ?_
  refine j_iconst hE (by decide +kernel : decode cX2_decide 16 = .ok (.iconst 0, 1)) (v := (0 : Int32)) (by decide) ?_
  refine j_aload_n hE (by decide +kernel : decode cX2_decide 17 = .ok (.aload_n 0, 1)) rfl rfl ?_
  obtain ⟨hk, h⟩ := h
  obtain ⟨a5, ha, h⟩ := h
  refine j_getRn hE fg_X2_12 hk ha (by decide +kernel : decode cX2_decide 18 = .ok (.getfield 12, 3)) ?_
  obtain ⟨hk, h⟩ := h
  refine j_callV hE rfl cl_X2_22 cf_0 im_Jx4a65c_size_8abf5 se_Jx4a65c_size_8abf5 ⟨by omega, by omega⟩ (As := []) (rest := [.int (0 : Int32), .int x4]) rfl rfl (Nat.le_of_ble_eq_true rfl) hk (by decide +kernel : decode cX2_decide 21 = .ok (.invokevirtual 22, 3)) (mt_AL_size _ _ _ h) ?_
  rintro _ g6 ⟨x7, rfl, h⟩
  refine j_iconst hE (by decide +kernel : decode cX2_decide 24 = .ok (.iconst 1, 1)) (v := (1 : Int32)) (by decide) ?_
  refine j_isub hE (by decide +kernel : decode cX2_decide 25 = .ok (.isub, 1)) ?_
  refine j_callSN hE rfl cl_X2_55 st_X10_isWithin ⟨by omega, by omega⟩ (As := [.int x4, .int (0 : Int32), .int (x7 - (1 : Int32))]) (rest := []) rfl rfl (Nat.le_of_ble_eq_true rfl) (by decide +kernel : decode cX2_decide 26 = .ok (.invokestatic 55, 3)) (mt_PV_isWithin _ _ _ _ _ h) ?_
  rintro _ g8 ⟨x9, rfl, h⟩
  refine j_if_ne hE (by decide +kernel : decode cX2_decide 29 = .ok (.ifCond .ne 9, 3)) (tgt := 38) (by decide) (fun q => ?_) (fun q => ?_)
  · replace h := h.1 q
    refine j_aload_n hE (by decide +kernel : decode cX2_decide 38 = .ok (.aload_n 0, 1)) rfl rfl ?_
    obtain ⟨hk, h⟩ := h
    obtain ⟨a10, ha, h⟩ := h
    refine j_getRn hE fg_X2_12 hk ha (by decide +kernel : decode cX2_decide 39 = .ok (.getfield 12, 3)) ?_
    refine j_iload_n hE (by decide +kernel : decode cX2_decide 42 = .ok (.iload_n 3, 1)) rfl rfl ?_
    obtain ⟨hk, h⟩ := h
    refine j_callV hE rfl cl_X2_26 cf_0 im_Jx4a65c_get_915e3 se_Jx4a65c_get_915e3 ⟨by omega, by omega⟩ (As := [.int x4]) (rest := []) rfl rfl (Nat.le_of_ble_eq_true rfl) hk (by decide +kernel : decode cX2_decide 43 = .ok (.invokevirtual 26, 3)) (mt_AL_get _ _ _ _ h) ?_
    rintro _ g11 ⟨a12, rfl, h⟩
    obtain ⟨hk, h⟩ := h
    refine j_cast hE cf_4 ck_X2_30 hk (by decide +kernel : decode cX2_decide 46 = .ok (.checkcast 30, 3)) ?_
    refine j_astore hE (by decide +kernel : decode cX2_decide 49 = .ok (.astore 4, 2)) (Nat.le_of_ble_eq_true rfl) rfl ?_
    refine j_iconst hE (by decide +kernel : decode cX2_decide 51 = .ok (.iconst 0, 1)) (v := (0 : Int32)) (by decide) ?_
    refine j_istore hE (by decide +kernel : decode cX2_decide 52 = .ok (.istore 5, 2)) (Nat.le_of_ble_eq_true rfl) rfl ?_
    refine j_weak [some (.ref th), some (.ref p0), some (.int p1), none, some (.ref a12), some (.int (0 : Int32))] ⟨rfl, ⟨rfl, ⟨rfl, ⟨rfl, ⟨rfl, trivial⟩⟩⟩⟩⟩ ?_
    exact hK54 _ _ _ _ _ _ h
  · replace h := h.2 q
    refine j_aload_n hE (by decide +kernel : decode cX2_decide 32 = .ok (.aload_n 1, 1)) rfl rfl ?_
    refine j_iconst hE (by decide +kernel : decode cX2_decide 33 = .ok (.iconst 3, 1)) (v := (3 : Int32)) (by decide) ?_
    obtain ⟨hk, h⟩ := h
    obtain ⟨g13, hg⟩ : ∃ z, z = sI g8 140 p0 (3 : Int32) := ⟨_, rfl⟩; replace h := h g13 hg
    refine j_putI hE fa_X2_59 hk (fun q => by cases q) (by decide +kernel : decode cX2_decide 34 = .ok (.putfield 59, 3)) ?_
    rw [← hg]
    exact j_vret hE (by decide +kernel : decode cX2_decide 37 = .ok (.return_, 1)) ⟨rfl, h⟩
set_option maxHeartbeats 4000000 in
set_option maxRecDepth 100000 in
theorem rl_Ju_decide {Γ : GAM} {l : Launch} {th : Nat} {p0 : Nat} {p1 : Int32} {g : GH} {K : GH → Prop} (I54 : Nat → Nat → Nat → Int32 → Nat → Int32 → GH → Prop) (hh54 : ∀ n (l0 : Nat) (l1 : Nat) (l2 : Int32) (l4 : Nat) (l5 : Int32) (g : GH), I54 n l0 l1 l2 l4 l5 g → B_Ju_decide_54 Γ (fun l0 l1 l2 l4 l5 g => ∃ m, m < n ∧ I54 m l0 l1 l2 l4 l5 g) K l0 l1 l2 l4 l5 g) (h0 : B_Ju_decide_0 Γ (fun l0 l1 l2 l4 l5 g => ∃ m, I54 m l0 l1 l2 l4 l5 g) K th p0 p1 g) : MetA Γ l yX2_decide cX2_decide 6 none 7 327 [.ref th, .ref p0, .int p1] g (fun r g' => r = none ∧ K g') := by
  refine MetA.introL (Lx := [some (.ref th), some (.ref p0), some (.int p1), none, none, none]) (by decide) (Nat.le_of_ble_eq_true rfl) rfl rfl ?_
  intro E hEl hE hnm
  have hall : ∀ n, (∀ (l0 : Nat) (l1 : Nat) (l2 : Int32) (l4 : Nat) (l5 : Int32) (g : GH), I54 n l0 l1 l2 l4 l5 g → JW Γ E 54 [some (.ref l0), some (.ref l1), some (.int l2), none, some (.ref l4), some (.int l5)] [] g) := by
    intro n
    induction n using Nat.strongRecOn with
    | ind n ih =>
      exact fun l0 l1 l2 l4 l5 g hi => S_Ju_decide_54 hE (fun l0 l1 l2 l4 l5 g hm => by obtain ⟨m, hm, h⟩ := hm; exact (ih m hm) l0 l1 l2 l4 l5 g h) l0 l1 l2 l4 l5 g (hh54 n l0 l1 l2 l4 l5 g hi)
  exact S_Ju_decide_0 hE (fun l0 l1 l2 l4 l5 g hm => by obtain ⟨m, h⟩ := hm; exact (hall m) l0 l1 l2 l4 l5 g h) th p0 p1 g h0
theorem mt_Ju_decide {Γ : GAM} {l : Launch} (th : Nat) (p0 : Nat) (p1 : Int32) (g : GH) (K : GH → Prop) (h : Sp_Ju_decide Γ th p0 p1 g K) : MetA Γ l yX2_decide cX2_decide 6 none 7 327 [.ref th, .ref p0, .int p1] g (fun r g' => r = none ∧ K g') := by
  obtain ⟨D, s, e, ahead, y, w, rfl, hP, hW, hq, he, hy, hw, hV, hC, hne, ⟨ha1, ha2⟩, ⟨hr1, hr2⟩, ⟨hb1, hb2⟩, hK⟩ := h
  have hen := hP.1.1
  obtain ⟨y', w', L, y1, w1, hE, -, -⟩ := hP.2.2.2.2.1.2.2 e p0 he
  rw [hy] at y1; cases y1
  rw [hw] at w1; cases w1
  have hEN := hE
  obtain ⟨⟨hx1, hx2⟩, ⟨hw1, hw2, hw3⟩, ⟨_, hsent, _, _⟩, -⟩ := hEN
  have hE2 := hE.e2
  have hyl := (List.getElem?_eq_some_iff.mp hy).1
  have hlen := hW.len
  have he31 : e < 2147483648 := by omega
  have hyw := hW.env y (List.mem_of_getElem? hy)
  obtain ⟨z, Lv, z1, hVO, hVL, -⟩ := hP.2.2.2.1.2.2.1 _ w hw
  obtain ⟨-, ⟨zs, zst, zsg⟩, lo, eo, ⟨lo1, _, _⟩, -, hLv, -⟩ := id hVO
  have hJ := hP.2.2.2.2.2.2.2
  obtain ⟨⟨j1, j2⟩, ⟨_, sa, sa1, _, sa2, sa3, sa4, sa5⟩, al, xs, ⟨al1, _, _⟩, hA, hxl, hrow⟩ := id hJ
  have nx : p0 ≠ d_ju D := fun e => by rw [e] at hx2; omega
  have nw : w ≠ d_ju D := fun e => by rw [e] at hw2; omega
  have nwx : w ≠ p0 := fun e => by rw [e] at hw2; omega
  have hlt0 : ∀ d, eLt g p0 w d p1 = sLet s (nI e) d p1 ahead := eLt_s he31 hy z1 hV hC hsent ha1 hb1 hb2 zsg zst
  have hlt : ∀ g1, FrQQ (dP p0 (d_ju D)) (dQ (d_ju D)) g g1 → (fun d => eLt g1 p0 w d p1) = fun d => sLet s (nI e) d p1 ahead := fun g1 h1 => funext fun d => by rw [eLt.p h1 nx nw nwx]; exact hlt0 d
  have hbd : ∀ g1, FrQQ (dP p0 (d_ju D)) (dQ (d_ju D)) g g1 → ∀ d, okLt d → okV false (eLt g1 p0 w d p1) := fun g1 h1 d _ => by
    rw [eLt.p h1 nx nw nwx, hlt0]
    exact (let_b hW hy hq ha2 d).ok
  have hjx : ∀ g1, FrQQ (dP p0 (d_ju D)) (dQ (d_ju D)) g g1 → Kd g1 (d_ju D) = 4 ∧ ∃ a, Gr g1 385 (d_ju D) = some a ∧ Kd g1 a = 20 ∧ Co g1 a = 385 ∧ Ow g1 a = d_ju D ∧ Ln g1 a = 200 := fun g1 h1 => by
    obtain ⟨x1, x2, x3, x4, x5, x6, x7, x8, x9, x10, x11, x12⟩ := h1
    rw [x2, x6, x7, x8, x9]
    exact ⟨j2, sa, sa1, sa2, sa3, sa4, sa5⟩
  have hd6 : ∀ g1, FrQQ (dP p0 (d_ju D)) (dQ (d_ju D)) g g1 → Ia g1 135 p0 6 = sDay s (nI e) 6 p1 := fun g1 h1 => by
    rw [h1.2.2.1 _ _ (fun z => nx z.1)]
    have := congrArg Prod.fst (hV.1 6 (by decide) (by decide))
    rw [prj_d] at this; exact this
  -- the shire on that day
  have hsh : ((Lv).foldl (lS (if Gi g 137 p0 = -1 then Gi g 130 p0 else Gi g 137 p0) p1) (Gi g 1280 w, -1)).1 = sShire s y.1.toNatClampNeg (sCome s (nI e) p1).1 p1 := by
    rw [hC.1, if_neg hne, zs, (hVL p1).1]
    unfold sShire
    rw [z1]; rfl
  have hloop : ∀ (a : Nat) (p : Nat × La5), sLaw s (sShire s y.1.toNatClampNeg (sCome s (nI e) p1).1 p1) (sCome s (nI e) p1).1 p1 = some p → LWX g a p.2 → (sOne s (nI e) p1 ahead = sRule s (nI e) p1 ahead p.2.2.2.2 0) := fun a p hp _ => by
    unfold sOne
    rw [sEnv_n hy he31, hp]
  refine rl_Ju_decide (fun n l0 l1 l2 l4 l5 g' => d_ju D = l0 ∧ p0 = l1 ∧ p1 = l2 ∧ ∃ (p : Nat × La5) (k : Nat), (s_law s)[p.1]? = some p.2 ∧ LWX g l4 p.2 ∧ k ≤ p.2.2.2.2.length ∧ n = p.2.2.2.2.length - k ∧ l5 = nI k ∧ FrX (d_ju D) [386] [385] g g' ∧ sOne s (nI e) p1 ahead = sRule s (nI e) p1 ahead (p.2.2.2.2.drop k) k) ?_ ?_
  · rintro n l0 l1 l2 l4 l5 g' ⟨rfl, rfl, rfl, p, k, hp, hL, hk, rfl, rfl, hfx, hone⟩
    have hfp : FrQQ (dP p0 (d_ju D)) (dQ (d_ju D)) g g' := hfx.p (fun f hf => by rw [List.mem_singleton] at hf; exact .inr ⟨rfl, hf⟩) (fun c hc => by rw [List.mem_singleton] at hc; exact ⟨rfl, hc⟩)
    have hL' : LWX g' l4 p.2 := hL.fr (fs := cFS) (cs := cCS) (als := []) (hfp.fr hen dP_c dQ_c) PF.c hen
    have hw1000 : p.2.2.2.2.length ≤ 1000 := by obtain ⟨_, _, ⟨n, q1, q2, _⟩, _⟩ := hL; omega
    have hkx : Kd g' p0 = 2 := by rw [hfp.2.2.2.2.2.1]; exact hx2
    have hks : Kd g' l4 = 5 := hL'.1.1.2
    have hrl : Gi g' 515 l4 = nI p.2.2.2.2.length := hL'.2.1
    suffices H : ∀ K54 : Nat → Nat → Int32 → Nat → Int32 → GH → Prop, (∀ g2 r, p.2.2.2.2[k]? = some r → sEval (fun c => sLet s (nI e) c p1 ahead) r.1 = 0 → FrX (d_ju D) [386] [385] g g2 → K54 (d_ju D) p0 p1 l4 (nI (k + 1)) g2) → B_Ju_decide_54 Γ K54 K (d_ju D) p0 p1 l4 (nI k) g' from
      H _ (fun g2 r hr h0 h1 => ⟨p.2.2.2.2.length - (k + 1), by have := (List.getElem?_eq_some_iff.mp hr).1; omega, rfl, rfl, rfl, p, k + 1, hp, hL, (List.getElem?_eq_some_iff.mp hr).1, rfl, rfl, h1, by
        rw [hone]
        have hlt := (List.getElem?_eq_some_iff.mp hr).1
        have hrr := (List.getElem?_eq_some_iff.mp hr).2
        rw [List.drop_eq_getElem_cons hlt, hrr]
        show (if _ then _ else _) = _
        rw [if_pos h0]⟩)
    intro K54 hn
    unfold B_Ju_decide_54
    rw [hrl, nj_le (by omega) (by omega)]
    refine ⟨hks, fun u => ⟨hkx, ?_⟩, fun u => ⟨(hjx g' hfp).1, ?_⟩⟩
    · rintro _ rfl
      refine ⟨hkx, ?_⟩
      rintro _ rfl
      refine hK _ (hfp.tr ((FrX.sI (m := p0) (fs := [140]) (cs := []) (by decide)).p (fun f hf => by rw [List.mem_singleton] at hf; exact .inl ⟨rfl, .inl hf⟩) (fun c hc => by cases hc) |>.tr ((FrX.sI (m := p0) (fs := [141]) (cs := []) (by decide)).p (fun f hf => by rw [List.mem_singleton] at hf; exact .inl ⟨rfl, .inr (.inl hf)⟩) (fun c hc => by cases hc)))) ?_
      rw [hone, List.drop_eq_nil_iff.mpr u, Gi_sI, if_neg (fun z => absurd z.1 (by decide)), Gi_sI, if_pos ⟨rfl, rfl⟩, Gi_sI, if_pos ⟨rfl, rfl⟩, Gi_sI, if_neg (fun z => absurd z.1 (by decide)), Gi_sI, if_neg (fun z => absurd z.1 (by decide)), hfx.1.1 _ _ nx, hr2]
      rfl
    · obtain ⟨r, hr⟩ := get_lt (show k < p.2.2.2.2.length by omega)
      obtain ⟨q1, q2, q3⟩ := hL'.2.2.2.2 k r hr
      obtain ⟨nW, hnW, hWW⟩ := hL'.2.2.2.1
      obtain ⟨⟨t1, ht1⟩, t2, ht2⟩ := okR_ty ((hW.law p.2 (List.mem_of_getElem? hp)).2.2.2.2 r (List.mem_of_getElem? hr))
      have hgw : Gr g' 129 p0 = some w := by rw [hfp.2.1]; exact hw3
      have hkw : Kd g' w = 11 := by rw [hfp.2.2.2.2.2.1]; exact hw2
      have e2k : (2 : Int32) * nI k = nI (2 * k) := nI_mul9 2 k
      rw [e2k]
      refine ⟨2 * k, r.1, t1, w, rfl, q2, q2.len hnW hWW, ht1, hjx g' hfp, ⟨hfp.e2 hE2, hgw, hkw⟩, hbd g' hfp, fun g3 hx3 => ?_⟩
      rw [hlt g' hfp]
      have hfx3 := hfx.tr hx3
      have hfp3 : FrQQ (dP p0 (d_ju D)) (dQ (d_ju D)) g g3 := hfx3.p (fun f hf => by rw [List.mem_singleton] at hf; exact .inr ⟨rfl, hf⟩) (fun c hc => by rw [List.mem_singleton] at hc; exact ⟨rfl, hc⟩)
      refine ⟨fun u0 => ?_, fun u0 => ⟨by rw [hfp3.2.2.2.2.2.1]; exact hx2, ?_⟩⟩
      · rw [nj_s]
        exact hn g3 r hr u0 hfx3
      · rintro g5 hg5
        have hfp5 : FrQQ (dP p0 (d_ju D)) (dQ (d_ju D)) g g5 := hfp3.tr (by rw [hg5]; exact (FrX.sI (m := p0) (fs := [142]) (cs := []) (by decide)).p (fun f hf => by rw [List.mem_singleton] at hf; exact .inl ⟨rfl, .inr (.inr hf)⟩) (fun c hc => by cases hc))
        have hL5 : LWX g5 l4 p.2 := hL.fr (fs := cFS) (cs := cCS) (als := []) (hfp5.fr hen dP_c dQ_c) PF.c hen
        obtain ⟨nV, v1, v2, hVV⟩ := hL5.2.2.1
        obtain ⟨_, va, va1, _, va2, va3, va4, va5⟩ := hVV
        obtain ⟨s1, s2, s3⟩ := hL5.2.2.2.2 k r hr
        obtain ⟨nW5, hnW5, hWW5⟩ := hL5.2.2.2.1
        have hgw5 : Gr g5 129 p0 = some w := by rw [hfp5.2.1]; exact hw3
        have hkw5 : Kd g5 w = 11 := by rw [hfp5.2.2.2.2.2.1]; exact hw2
        have e2k1 : nI (2 * k) + 1 = nI (2 * k + 1) := nj_s _
        rw [e2k1]
        refine ⟨hL5.1.1.2, va, va1, va2, by rw [va5]; exact inB_nI (by omega) (by omega), (hjx g5 hfp5).1, 2 * k + 1, r.2.2, t2, w, rfl, s3, s3.len hnW5 hWW5, ht2, hjx g5 hfp5, ⟨hfp5.e2 hE2, hgw5, hkw5⟩, hbd g5 hfp5, fun g7 hx7 => ?_⟩
        rw [hlt g5 hfp5, va3, va4, nj_cl (by omega), s1]
        have hfp7 : FrQQ (dP p0 (d_ju D)) (dQ (d_ju D)) g g7 := hfp5.tr (hx7.p (fun f hf => by rw [List.mem_singleton] at hf; exact .inr ⟨rfl, hf⟩) (fun c hc => by rw [List.mem_singleton] at hc; exact ⟨rfl, hc⟩))
        refine ⟨(hjx g7 hfp7).1, (hjx g7 hfp7).1, hfp7.e2 hE2, fun g9 hx9 v1 v2 => ?_⟩
        have hru7 : Gi g7 142 p0 = nI k := by rw [hx7.1.1 _ _ nx, hg5, Gi_sI, if_pos ⟨rfl, rfl⟩]
        have hre7 : Gi g7 141 p0 = -1 := by rw [hx7.1.1 _ _ nx, hg5, Gi_sI, if_neg (fun z => absurd z.1 (by decide)), hfx3.1.1 _ _ nx]; exact hr1
        refine hK g9 (hfp7.tr (hx9.p (fun f hf => by
          rcases List.mem_cons.mp hf with rfl | hf
          · exact .inl ⟨rfl, .inl rfl⟩
          · rw [List.mem_singleton] at hf; exact .inl ⟨rfl, .inr (.inl hf)⟩) (fun c hc => by cases hc))) ?_
        have hru9 : Gi g9 142 p0 = nI k := by rw [hx9.2.1 _ (by decide)]; exact hru7
        rw [v1, v2, hru9, vPa_s (k := nI k) (hd6 g7 hfp7) hre7, hone]
        have hltk := (List.getElem?_eq_some_iff.mp hr).1
        have hrr := (List.getElem?_eq_some_iff.mp hr).2
        rw [List.drop_eq_getElem_cons hltk, hrr]
        show _ = (if _ then _ else _)
        rw [if_neg u0]
  · unfold B_Ju_decide_0
    refine ⟨hx2, w, lo, Lv, hx2, hw3, hw2, lo1, hLv, hx2, j2, s, hJ.jl, fun yl hl => (hW.law yl hl).2.1.1, j2, al, al1, hA.1.2, hA.1.2, ?_⟩
    rw [hsh, hC.1, hA.2.1, hxl]
    unfold Sp_PV_isWithin
    have hll : (s_law s).length ≤ 1000 := by rw [← hxl]; exact hA.2.2.1
    cases hp : sLaw s (sShire s y.1.toNatClampNeg (sCome s (nI e) p1).1 p1) (sCome s (nI e) p1).1 p1 with
    | none =>
      rw [oI_n]
      refine ⟨fun u => absurd (if_neg (fun z => absurd z.1 (by decide))) u, fun _ => ⟨hx2, ?_⟩⟩
      rintro _ rfl
      refine hK _ ((FrX.sI (m := p0) (fs := [140]) (cs := []) (by decide)).p (fun f hf => by rw [List.mem_singleton] at hf; exact .inl ⟨rfl, .inl hf⟩) (fun c hc => by cases hc)) ?_
      unfold sOne
      rw [sEnv_n hy he31, hp, Gi_sI, if_pos ⟨rfl, rfl⟩, Gi_sI, if_neg (fun z => absurd z.1 (by decide)), Gi_sI, if_neg (fun z => absurd z.1 (by decide)), hr1, hr2]
    | some p =>
      rw [oI_s]
      have hg := sLaw_get (j := p.1) (x := p.2) hp
      have hlt2 := (List.getElem?_eq_some_iff.mp hg).1
      obtain ⟨xl, hxx⟩ := get_lt (show p.1 < xs.length by omega)
      have hLx := hrow p.1 xl p.2 hxx hg
      refine ⟨fun _ => ⟨j2, al, al1, hA.1.2, xs, p.1, xl, hA, rfl, hxx, hLx.1.1.2, ⟨_, rfl, rfl, rfl, p, 0, hg, hLx, Nat.zero_le _, rfl, nj_0, FrX.rf, hloop xl p hp hLx⟩⟩, fun u => ?_⟩
      rw [if_pos ((wn_c hll).mpr ⟨_, rfl, hlt2⟩)] at u
      exact absurd u (by decide)
