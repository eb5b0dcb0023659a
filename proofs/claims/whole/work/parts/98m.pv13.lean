/-! the class's face: a heap is opened -/
theorem Fr.out {fs cs als fs' cs' : List Nat} {g g1 g2 : GH} {m : Nat} (h : Fr fs cs als g g1) (k : FrX m fs' cs' g1 g2) (hm : Hn g ≤ m) : Fr fs cs als g g2 := by
  obtain ⟨h1, h2, h3, h4, h5, h6, h7, h8⟩ := h
  obtain ⟨⟨x1, x2, x3, x4, x5, x6, x7, x8, x9, x10, x11, x12⟩, y1, y2⟩ := k
  refine ⟨fun f a q1 q2 q3 => by rw [x1 f a (by omega)]; exact h1 f a q1 q2 q3, fun f a q1 q3 => by rw [x2]; exact h2 f a q1 q3, fun c o q1 q2 q3 q4 => by rw [x3 c o (by omega), x4]; exact h3 c o q1 q2 q3 q4, fun a q1 => by rw [x5, x6, x7, x8, x9]; exact h4 a q1, by rw [x11]; exact h5, by rw [x12]; exact h6, ?_, fun b q1 q2 q3 => ?_⟩
  · unfold NT EN at h7 ⊢
    rw [x6, x7, x11]; exact h7
  · rw [x8]; rw [x6] at q2; rw [x7] at q3; exact h8 b q1 q2 q3
theorem CO.fr {h g : GH} {ci N th : Nat} (c : CO th (nO h ci N) g) (hE : EN g) (he : EN h) (ht : th = Hn h) (hc : ∀ b, Hn h + 1 ≤ b → 20 ≤ Kd g b → 128 ≤ Co g b ∧ (Co g b < 998 ∨ 1000 < Co g b)) (hci : ci < 19) : Fr [] [] [] h g := by
  obtain ⟨c1, c2, c3, c4, c5, c6, c7⟩ := c
  rw [Hn_nO] at c4 c5 c6
  refine CNw.fr (ci := ci) (N := N) (th := th) ⟨fun f a _ q => ⟨c1 f a q, c2 f a q⟩, fun c o _ q => c3 c o q, fun a q => c4 a (by rw [Hn_nO] at q; exact q), fun b q1 q2 => ?_, by rw [Hn_nO]; exact c6, c7, hE⟩ ht hci
  rw [Hn_nO] at q1
  have hb := hc b q1 q2
  exact ⟨.inl (c5 b q1 (by omega)), hb⟩
theorem PoI.hof {Γ : GAM} {D : DIR} {g g' : GH} {s : ST} {fs cs : List Nat} {X : List (Int32 × Int32)} {Y : Nat → Nat} (h : PoI Γ D g s) (k : Fr fs cs [] g g') (hp : PF fs cs) (h1 : AV [645, 646, 647, 648, 649] fs) (hH : PoH D g' (u_hof (u_hea s X) Y)) : PoI Γ D g' (u_hof (u_hea s X) Y) := by
  obtain ⟨⟨he, ht, hs⟩, hl, ⟨c1, c2, c3, c4, c5⟩, ⟨v1, v2, v3, v4⟩, ⟨e1, e2, e3⟩, hh, hm, hj⟩ := h
  obtain ⟨⟨p1, p2⟩, -⟩ := id hl
  refine ⟨⟨k.en he, k.nt ht, hs.fr k⟩, hl.fr k, ⟨by rw [k.gi p1 (h1 _ (by simp)) (by decide)]; exact c1, by rw [k.gi p1 (h1 _ (by simp)) (by decide)]; exact c2, by rw [k.gi p1 (h1 _ (by simp)) (by decide)]; exact c3, by rw [k.gi p1 (h1 _ (by simp)) (by decide)]; exact c4, by rw [k.gi p1 (h1 _ (by simp)) (by decide)]; exact c5⟩,
    ⟨v1.fr k (by simp) (hp.1 _ (by decide)) (hp.2 _ (by decide)), v2, fun v x hx => ?_, v4⟩, ⟨e1.fr k (by simp) (hp.1 _ (by decide)) (hp.2 _ (by decide)), e2, fun e x hx => ?_⟩, hH, hm.fr k hp (by simp), hj.fr k hp he (fun al ha => by cases ha)⟩
  · obtain ⟨y, L, q1, q2, q3, q4⟩ := v3 v x hx
    exact ⟨y, L, q1, q2.fr k hp (fun al ha => by cases ha), q3, q4⟩
  · obtain ⟨y, w, L, q1, q2, q3, q4, q5⟩ := e3 e x hx
    exact ⟨y, w, L, q1, q2, q3.fr k hp (fun al ha => by cases ha), q4, q5⟩
theorem JA.g {D : DIR} {s : ST} {q : Int32} {n : Nat} {g g' : GH} (h : JA D s q n g) (hG : ∀ f a, f ≠ 134 → f ≠ 259 → Gi g' f a = Gi g f a) (hA : ∀ c a, c ≠ 258 → Ia g' c a = Ia g c a) : JA D s q n g' := by
  intro v hv
  obtain ⟨j1, j2⟩ := h v hv
  refine ⟨fun w hw => ?_, fun e y x he hy hx => ?_⟩
  · rw [hG _ _ (by decide) (by decide), hG _ _ (by decide) (by decide), hG _ _ (by decide) (by decide), hG _ _ (by decide) (by decide)]
    exact j1 w hw
  · have h0 := j2 e y x he hy hx
    unfold EJ ENV ECM at h0 ⊢
    rw [hA _ _ (by decide), hA _ _ (by decide), hG _ _ (by decide) (by decide), hG _ _ (by decide) (by decide), hG _ _ (by decide) (by decide), hG _ _ (by decide) (by decide), hG _ _ (by decide) (by decide), hG _ _ (by decide) (by decide)]
    exact h0
theorem cnT_cm {s : ST} (hW : WF s) {e : Nat} {y : Em} (hy : (s_env s)[e]? = some y) (h : cnT s (s_vot s).length e = true) : (sCome s (nI e) (s_now s)).1 ≠ -1 := by
  have hf := (cnt_iff hW hy).mp h
  unfold sFG at hf
  have := List.mem_of_find?_eq_some hf
  exact ((sRow_ok s y.1 (s_now s)).1 e).mp this |>.2.2
def Sp_PV_fitsHeap (Γ : GAM) (x a : Nat) (sh : Int32) (g : GH) (K : Int32 → GH → Prop) : Prop := ∃ D s s' e, Kd g x = 12 ∧ Gi g 1408 x = s_now s ∧ PoI Γ D g s' ∧ s_env s' = s_env s ∧ s_vot s' = s_vot s ∧ (∀ v sh L, VLG s' v sh L → VLG s v sh L) ∧ WF s ∧ JA D s (s_now s) (s_vot s).length g ∧ (d_es D)[e]? = some a ∧ hsh s' e = hsh s e ∧ K (if opC s sh e then 1 else 0) g
-- the walk of PV_fitsHeap
set_option maxRecDepth 100000 in
def B_PV_fitsHeap_32 (Γ : GAM) (K : Int32 → GH → Prop) (s0 : Int32) (g : GH) : Prop :=
  ((s0 = 0 ∨ s0 = 1) ∧ K s0 g)
set_option maxHeartbeats 4000000 in
set_option maxRecDepth 100000 in
theorem S_PV_fitsHeap_32 {Γ : GAM} {E : EV} {K : Int32 → GH → Prop} (hE : GE Γ E cX10_fitsHeap 3 RX10 (some (.boolean)) 5 111 (fun r g' => ∃ x, r = some (.int x) ∧ K x g')) (s0 : Int32) (g : GH) (h : B_PV_fitsHeap_32 Γ K s0 g) : JW Γ E 32 [none, none, none] [.int s0] g := by
  unfold B_PV_fitsHeap_32 at h
  exact j_zret hE h.1 (by decide +kernel : decode cX10_fitsHeap 32 = .ok (.ireturn, 1)) ⟨_, rfl, h.2⟩
set_option maxRecDepth 100000 in
def B_PV_fitsHeap_31 (Γ : GAM) (K : Int32 → GH → Prop)  (g : GH) : Prop :=
  B_PV_fitsHeap_32 Γ K (0 : Int32) g
set_option maxHeartbeats 4000000 in
set_option maxRecDepth 100000 in
theorem S_PV_fitsHeap_31 {Γ : GAM} {E : EV} {K : Int32 → GH → Prop} (hE : GE Γ E cX10_fitsHeap 3 RX10 (some (.boolean)) 5 111 (fun r g' => ∃ x, r = some (.int x) ∧ K x g'))  (g : GH) (h : B_PV_fitsHeap_31 Γ K  g) : JW Γ E 31 [none, none, none] [] g := by
  unfold B_PV_fitsHeap_31 at h
  refine j_iconst hE (by decide +kernel : decode cX10_fitsHeap 31 = .ok (.iconst 0, 1)) (v := (0 : Int32)) (by decide) ?_
  exact S_PV_fitsHeap_32 hE _ _ h
set_option maxRecDepth 100000 in
def B_PV_fitsHeap_0 (Γ : GAM) (K : Int32 → GH → Prop) (th : Nat) (p0 : Nat) (p1 : Int32) (g : GH) : Prop :=
  Kd g p0 = 2 ∧ ((¬ ((Gi g 134 p0) = (-1 : Int32)) → B_PV_fitsHeap_31 Γ K g) ∧ ((Gi g 134 p0) = (-1 : Int32) → Kd g p0 = 2 ∧ Sp_En_isCounted Γ p0 g (fun (x2 : Int32) (g1 : GH) => ((x2 = 0 → B_PV_fitsHeap_31 Γ K g1) ∧ (¬ (x2 = 0) → Kd g1 th = 12 ∧ Kd g1 p0 = 2 ∧ Sp_En_shireOf Γ p0 (Gi g1 1408 th) g1 (fun (x4 : Int32) (g3 : GH) => ((¬ (x4 = p1) → B_PV_fitsHeap_31 Γ K g3) ∧ (x4 = p1 → B_PV_fitsHeap_32 Γ K (1 : Int32) g3))))))))
set_option maxHeartbeats 4000000 in
set_option maxRecDepth 100000 in
theorem S_PV_fitsHeap_0 {Γ : GAM} {E : EV} {K : Int32 → GH → Prop} (hE : GE Γ E cX10_fitsHeap 3 RX10 (some (.boolean)) 5 111 (fun r g' => ∃ x, r = some (.int x) ∧ K x g')) (th : Nat) (p0 : Nat) (p1 : Int32) (g : GH) (h : B_PV_fitsHeap_0 Γ K th p0 p1 g) : JW Γ E 0 [some (.ref th), some (.ref p0), some (.int p1)] [] g := by
  unfold B_PV_fitsHeap_0 at h
  refine j_aload_n hE (by decide +kernel : decode cX10_fitsHeap 0 = .ok (.aload_n 1, 1)) rfl rfl ?_
  obtain ⟨hk, h⟩ := h
  refine j_getI hE fg_X10_348 hk (by decide +kernel : decode cX10_fitsHeap 1 = .ok (.getfield 348, 3)) ?_
  refine j_iconst hE (by decide +kernel : decode cX10_fitsHeap 4 = .ok (.iconst (-1), 1)) (v := (-1 : Int32)) (by decide) ?_
  refine j_icmp_ne hE (by decide +kernel : decode cX10_fitsHeap 5 = .ok (.if_icmp .ne 26, 3)) (tgt := 31) (by decide) (fun q => ?_) (fun q => ?_)
  · replace h := h.1 q
    refine j_weak [none, none, none] trivial ?_
    exact S_PV_fitsHeap_31 hE _ h
  · replace h := h.2 q
    refine j_aload_n hE (by decide +kernel : decode cX10_fitsHeap 8 = .ok (.aload_n 1, 1)) rfl rfl ?_
    obtain ⟨hk, h⟩ := h
    refine j_callV hE rfl cl_X10_369 cf_1 im_X0_isCounted se_X0_isCounted ⟨by omega, by omega⟩ (As := []) (rest := []) rfl rfl (Nat.le_of_ble_eq_true rfl) hk (by decide +kernel : decode cX10_fitsHeap 9 = .ok (.invokevirtual 369, 3)) (mt_En_isCounted _ _ _ h) ?_
    rintro _ g1 ⟨x2, rfl, h⟩
    refine j_if_eq hE (by decide +kernel : decode cX10_fitsHeap 12 = .ok (.ifCond .eq 19, 3)) (tgt := 31) (by decide) (fun q => ?_) (fun q => ?_)
    · replace h := h.1 q
      refine j_weak [none, none, none] trivial ?_
      exact S_PV_fitsHeap_31 hE _ h
    · replace h := h.2 q
      refine j_aload_n hE (by decide +kernel : decode cX10_fitsHeap 15 = .ok (.aload_n 1, 1)) rfl rfl ?_
      refine j_aload_n hE (by decide +kernel : decode cX10_fitsHeap 16 = .ok (.aload_n 0, 1)) rfl rfl ?_
      obtain ⟨hk, h⟩ := h
      refine j_getI hE fg_X10_68 hk (by decide +kernel : decode cX10_fitsHeap 17 = .ok (.getfield 68, 3)) ?_
      obtain ⟨hk, h⟩ := h
      refine j_callV hE rfl cl_X10_243 cf_1 im_X0_shireOf se_X0_shireOf ⟨by omega, by omega⟩ (As := [.int (Gi g1 1408 th)]) (rest := []) rfl rfl (Nat.le_of_ble_eq_true rfl) hk (by decide +kernel : decode cX10_fitsHeap 20 = .ok (.invokevirtual 243, 3)) (mt_En_shireOf _ _ _ _ h) ?_
      rintro _ g3 ⟨x4, rfl, h⟩
      refine j_iload_n hE (by decide +kernel : decode cX10_fitsHeap 23 = .ok (.iload_n 2, 1)) rfl rfl ?_
      refine j_icmp_ne hE (by decide +kernel : decode cX10_fitsHeap 24 = .ok (.if_icmp .ne 7, 3)) (tgt := 31) (by decide) (fun q => ?_) (fun q => ?_)
      · replace h := h.1 q
        refine j_weak [none, none, none] trivial ?_
        exact S_PV_fitsHeap_31 hE _ h
      · replace h := h.2 q
        refine j_iconst hE (by decide +kernel : decode cX10_fitsHeap 27 = .ok (.iconst 1, 1)) (v := (1 : Int32)) (by decide) ?_
        refine j_goto hE (by decide +kernel : decode cX10_fitsHeap 28 = .ok (.goto 4, 3)) (tgt := 32) (by decide) ?_
        refine j_weak [none, none, none] trivial ?_
        exact S_PV_fitsHeap_32 hE _ _ h
set_option maxHeartbeats 4000000 in
set_option maxRecDepth 100000 in
theorem rl_PV_fitsHeap {Γ : GAM} {l : Launch} {th : Nat} {p0 : Nat} {p1 : Int32} {g : GH} {K : Int32 → GH → Prop} (h0 : B_PV_fitsHeap_0 Γ K th p0 p1 g) : MetA Γ l yX10_fitsHeap cX10_fitsHeap 3 (some (.boolean)) 5 111 [.ref th, .ref p0, .int p1] g (fun r g' => ∃ x, r = some (.int x) ∧ K x g') := by
  refine MetA.introL (Lx := [some (.ref th), some (.ref p0), some (.int p1)]) (by decide) (Nat.le_of_ble_eq_true rfl) rfl rfl ?_
  intro E hEl hE hnm
  exact S_PV_fitsHeap_0 hE th p0 p1 g h0
theorem mt_PV_fitsHeap {Γ : GAM} {l : Launch} (th : Nat) (p0 : Nat) (p1 : Int32) (g : GH) (K : Int32 → GH → Prop) (h : Sp_PV_fitsHeap Γ th p0 p1 g K) : MetA Γ l yX10_fitsHeap cX10_fitsHeap 3 (some (.boolean)) 5 111 [.ref th, .ref p0, .int p1] g (fun r g' => ∃ x, r = some (.int x) ∧ K x g') := by
  obtain ⟨D, s, s', e, hkx, hnow, hP, hen, hvo, hVL, hW, hJ, hx, hhs, hK⟩ := h
  obtain ⟨y, w, L, y1, w1, hE, -, -⟩ := hP.2.2.2.2.1.2.2 e p0 hx
  obtain ⟨⟨x1, x2⟩, ⟨w2, w3, w4⟩, ⟨hnum, _⟩, -⟩ := id hE
  rw [hen] at y1
  have hyw := (hW.env y (List.mem_of_getElem? y1)).1
  have hny := nj_of hyw.1
  have hJe := (hJ.env hW y1 hx).1
  have ht : y.2.2.1 ≤ s_now s := (hW.env y (List.mem_of_getElem? y1)).2.2.1.2
  obtain ⟨⟨-, hcm⟩, -⟩ := hJe.2 ht
  have hel := (List.getElem?_eq_some_iff.mp y1).1
  have h200 := hW.len.2.2.1
  have hcnt : (Gi g 140 p0 = 2 ∧ Gi g 1287 w = Gi g 128 p0) ↔ cnT s (s_vot s).length e = true := by
    have hfg := ((hJ _ hyw.2).1 w w1).2.2.2
    rw [← hny.1] at hfg
    rw [hfg, hnum, cnt_iff hW y1]
    constructor
    · rintro ⟨h1, h2⟩
      cases hf : sFG s y.1 (s_now s) with
      | none =>
        rw [hf] at h2
        exact absurd h2.symm (i32_m1 (nj_nneg (by omega)))
      | some a =>
        rw [hf] at h2
        have ha := (sFG_in hf).1
        rw [(nj_eq (by omega) (by omega)).mp (h2 : nI a = nI e)]
    · intro hf
      obtain ⟨_, ⟨y', hy', hv, ht⟩, hs⟩ := sFG_in hf
      rw [y1] at hy'; cases hy'
      rw [hf]
      exact ⟨((hJ _ hyw.2).e hW y1 hx ht).1.1.trans hs, rfl⟩
  have hop : opC s p1 e ↔ (cnT s (s_vot s).length e = true ∧ sShire s y.1.toNatClampNeg (sCome s (nI e) (s_now s)).1 (s_now s) = p1) ∧ s_hof s e = 0 := by
    show (_ ∧ _) ↔ _
    rw [op_iff hW y1]
  refine rl_PV_fitsHeap ?_
  unfold B_PV_fitsHeap_0 B_PV_fitsHeap_31 B_PV_fitsHeap_32
  have hno : ¬ opC s p1 e → ((0 : Int32) = 0 ∨ (0 : Int32) = 1) ∧ K 0 g := fun u => ⟨.inl rfl, by rw [if_neg u] at hK; exact hK⟩
  rw [hP.2.2.2.2.2.1 e p0 hx, hhs, hsh_m1 hW]
  refine ⟨x2, fun u => hno (fun z => u (hop.mp z).2), fun u => ⟨x2, w, x2, w4, w3, ?_⟩⟩
  have hiff : (if Gi g 140 p0 = 2 ∧ Gi g 1287 w = Gi g 128 p0 then (1 : Int32) else 0) = if cnT s (s_vot s).length e = true then 1 else 0 := by
    by_cases z : cnT s (s_vot s).length e = true
    · rw [if_pos z, if_pos (hcnt.mpr z)]
    · rw [if_neg z, if_neg (fun q => z (hcnt.mp q))]
  rw [hiff]
  refine pv_ite (fun u2 => hno (fun z => u2 (hop.mp z).1.1)) (fun u2 => ⟨hkx, x2, ?_⟩)
  obtain ⟨z, Lv, zz1, hVO, hVLv, -⟩ := hP.2.2.2.1.2.2.1 _ w w1
  obtain ⟨⟨v1, v2⟩, ⟨b1, b2, b3⟩, lo, eo, ⟨l1, _, _⟩, -, hLv, -⟩ := id hVO
  refine ⟨w, lo, Lv, x2, w4, v2, l1, hLv, ?_⟩
  have hsh' : (Lv.foldl (lS (if Gi g 137 p0 = -1 then Gi g 130 p0 else Gi g 137 p0) (s_now s)) (Gi g 1280 w, -1)).1 = sShire s y.1.toNatClampNeg (sCome s (nI e) (s_now s)).1 (s_now s) := by
    rw [hcm.1, if_neg (cnT_cm hW y1 u2), b1, (hVL _ _ _ hVLv (s_now s)).1]
    unfold sShire
    rw [hvo] at zz1
    rw [zz1]; rfl
  rw [hnow, hsh']
  refine ⟨fun u3 => hno (fun q => u3 (hop.mp q).1.2), fun u3 => ⟨.inr rfl, ?_⟩⟩
  rw [if_pos (hop.mpr ⟨⟨u2, u3⟩, u⟩)] at hK
  exact hK
/-! what a heap holds as it is laid -/
theorem sS_app {α : Type} (f : α → Int32) (l1 l2 : List α) : sS (l1 ++ l2) f = sS l1 f + sS l2 f := by
  unfold sS
  rw [List.foldl_append]
  exact sS_a f l2 _
theorem zip_mem_take {l : List Em} {k : Nat} {p : Em × Nat} (h : p ∈ l.zipIdx.take k) : p.2 < k := by
  obtain ⟨i, hi, he⟩ := List.getElem_of_mem h
  rw [List.length_take] at hi
  rw [List.getElem_take, List.getElem_zipIdx] at he
  rw [← he]
  show 0 + i < k
  omega
theorem zip_mem_drop {l : List Em} {k : Nat} {p : Em × Nat} (h : p ∈ l.zipIdx.drop k) : k ≤ p.2 := by
  obtain ⟨i, hi, he⟩ := List.getElem_of_mem h
  rw [List.getElem_drop, List.getElem_zipIdx] at he
  rw [← he]
  show k ≤ 0 + (k + i)
  omega
def hpG (s : ST) (p0 c : Int32) (p : Em × Nat) : Int32 := if opC s p0 p.2 ∧ (c = 5 ∨ p.1.2.2.2 = c) then 1 else 0
theorem opF_iff {s : ST} (hW : WF s) {p0 : Int32} {k e : Nat} : opF s p0 k e = (s_hea s).length + 1 ↔ (e < k ∧ opC s p0 e) := by
  unfold opF
  by_cases z : e < k ∧ opC s p0 e
  · rw [if_pos z]; exact ⟨fun _ => z, fun _ => rfl⟩
  · rw [if_neg z]
    exact ⟨fun q => absurd (hW.hof e).1 (by omega), fun q => absurd q z⟩
theorem sHp_op {s : ST} (hW : WF s) {p0 c : Int32} {k : Nat} : sHp (opU s p0 k) (s_hea s).length c = sS ((s_env s).zipIdx.take k) (hpG s p0 c) := by
  show sS (s_env s).zipIdx (fun p => if opF s p0 k p.2 = (s_hea s).length + 1 ∧ (c = 5 ∨ p.1.2.2.2 = c) then 1 else 0) = _
  have e : (s_env s).zipIdx = (s_env s).zipIdx.take k ++ (s_env s).zipIdx.drop k := (List.take_append_drop _ _).symm
  have e2 : ∀ f : Em × Nat → Int32, sS (s_env s).zipIdx f = sS ((s_env s).zipIdx.take k) f + sS ((s_env s).zipIdx.drop k) f := fun f => by rw [← sS_app, List.take_append_drop]
  rw [e2, sS_zero _ ((s_env s).zipIdx.drop k) (fun p hp => ?_), Int32.add_zero]
  · refine sS_cg (fun p hp => ?_)
    have hlt := zip_mem_take hp
    unfold hpG
    by_cases z : opC s p0 p.2 ∧ (c = 5 ∨ p.1.2.2.2 = c)
    · rw [if_pos z, if_pos ⟨(opF_iff hW).mpr ⟨hlt, z.1⟩, z.2⟩]
    · rw [if_neg z, if_neg (fun q => z ⟨((opF_iff hW).mp q.1).2, q.2⟩)]
  · have hge := zip_mem_drop hp
    show (if opF s p0 k p.2 = (s_hea s).length + 1 ∧ (c = 5 ∨ p.1.2.2.2 = c) then (1 : Int32) else 0) = 0
    exact if_neg (fun q => by have := ((opF_iff hW).mp q.1).1; omega)
theorem sHp_ol {s : ST} (hW : WF s) {p0 c : Int32} {k h : Nat} (hh : h < (s_hea s).length) : sHp (opU s p0 k) h c = sHp s h c := by
  show sS (s_env s).zipIdx (fun p => if opF s p0 k p.2 = h + 1 ∧ (c = 5 ∨ p.1.2.2.2 = c) then 1 else 0) = sS (s_env s).zipIdx (fun p => if s_hof s p.2 = h + 1 ∧ (c = 5 ∨ p.1.2.2.2 = c) then 1 else 0)
  refine sS_cg (fun p _ => ?_)
  unfold opF
  by_cases z : p.2 < k ∧ opC s p0 p.2
  · rw [if_pos z, if_neg (fun q => by have := q.1; omega), if_neg (fun q => by have := q.1; have := z.2.2; omega)]
  · rw [if_neg z]
theorem hsh_op {s : ST} (hW : WF s) {p0 : Int32} {k e : Nat} : hsh (opU s p0 k) e = if e < k ∧ opC s p0 e then p0 else hsh s e := by
  show (if opF s p0 k e = 0 then (-1 : Int32) else ((s_hea s ++ [(p0, s_now s)])[opF s p0 k e - 1]?.getD default).1) = _
  unfold opF hsh
  by_cases z : e < k ∧ opC s p0 e
  · rw [if_pos z, if_pos z, if_neg (by omega), Nat.add_sub_cancel, List.getElem?_append_right (Nat.le_refl _)]
    simp
  · rw [if_neg z, if_neg z]
    by_cases z2 : s_hof s e = 0
    · rw [if_pos z2, if_pos z2]
    · rw [if_neg z2, if_neg z2, List.getElem?_append_left (by have := (hW.hof e).1; omega)]
theorem opN_s {s : ST} {p0 : Int32} {k : Nat} (hk : k < (s_env s).length) : opN s p0 (k + 1) = opN s p0 k + (if opC s p0 k then 1 else 0) := by
  unfold opN
  rw [List.take_succ, range_get hk, List.filter_append, List.length_append]
  congr 1
  show ([k].filter _).length = _
  rw [List.filter_cons]
  by_cases z : opC s p0 k
  · rw [if_pos (by simpa using z), if_pos z]; rfl
  · rw [if_neg (by simpa using z), if_neg z]; rfl
theorem opN_le {s : ST} {p0 : Int32} (k : Nat) : opN s p0 k ≤ k := by
  unfold opN
  refine Nat.le_trans (List.length_filter_le _ _) ?_
  rw [List.length_take]; omega
