/-! the class's face: a law is kept -/
/-- a law more -/
theorem PoI.law {Γ : GAM} {D : DIR} {g g' : GH} {s : ST} {al x : Nat} {xs : List Nat} {y : La5} (h : PoI Γ D g s) (k : Fr [] [] [al] g g') (hal : Gr g 384 (d_ju D) = some al ∧ Co g al = 384 ∧ Ow g al = d_ju D) (hA : AC Γ g al xs) (hxl : xs.length = (s_law s).length) (hxs : ∀ (i x : Nat) (y : La5), xs[i]? = some x → (s_law s)[i]? = some y → LWX g x y) (hA' : AC Γ g' al (xs ++ [x])) (hx : LWX g' x y) : PoI Γ D g' (u_law s (s_law s ++ [y])) := by
  obtain ⟨⟨he, ht, hs⟩, hl, ⟨c1, c2, c3, c4, c5⟩, ⟨v1, v2, v3, v4⟩, ⟨e1, e2, e3⟩, hh, hm, hj⟩ := h
  obtain ⟨⟨p1, p2⟩, ⟨_, lv2, lv3⟩, ⟨_, le2, le3⟩, ⟨_, lm2, lm3⟩, ⟨_, lc2, lc3⟩, -, -, -⟩ := id hl
  obtain ⟨l1, l2, l3⟩ := hal
  have nl : ∀ a, Co g a ≠ 384 → a ∉ [al] := fun a ha z => ha (by rw [List.mem_singleton.mp z]; exact l2)
  have hp := PF.n
  refine ⟨⟨k.en he, k.nt ht, hs.fr k⟩, hl.fr k, ⟨by rw [k.gi p1 (by simp) (by decide)]; exact c1, by rw [k.gi p1 (by simp) (by decide)]; exact c2, by rw [k.gi p1 (by simp) (by decide)]; exact c3, by rw [k.gi p1 (by simp) (by decide)]; exact c4, by rw [k.gi p1 (by simp) (by decide)]; exact c5⟩,
    ⟨v1.fr k (nl _ (by rw [lv2]; decide)) (by simp) (by simp), v2, fun v x hx => ?_, v4⟩, ⟨e1.fr k (nl _ (by rw [le2]; decide)) (by simp) (by simp), e2, fun e x hx => ?_⟩, fun e x hx => ?_, hm.fr k hp (nl _ (by rw [lm2]; decide)), ?_⟩
  · obtain ⟨y, L, q1, q2, q3, q4⟩ := v3 v x hx
    refine ⟨y, L, q1, q2.fr k hp (fun a ha z => ?_), q3, q4⟩
    rw [List.mem_singleton.mp ha, l2] at z
    rcases z.2 with z | z <;> exact absurd z (by decide)
  · obtain ⟨y, w, L, q1, q2, q3, q4, q5⟩ := e3 e x hx
    refine ⟨y, w, L, q1, q2, q3.fr k hp (fun a ha z => ?_), q4, q5⟩
    rw [List.mem_singleton.mp ha, l2] at z
    exact absurd z.2 (by decide)
  · obtain ⟨y, w, L, q1, q2, q3, q4, q5⟩ := e3 e x hx
    rw [k.gi q3.1.1 (by simp) (by decide)]
    exact hh e x hx
  · obtain ⟨⟨j1, j2⟩, j3, -⟩ := hj
    have kj := k.kd j1 (by omega)
    have kl := k.kd hA.1.1 (by have := hA.1.2; omega)
    refine ⟨⟨by have := k.hn; omega, by rw [kj.1]; exact j2⟩, j3.fr k (by decide), al, xs ++ [x], ⟨by rw [k.gr j1 (by decide)]; exact l1, by rw [kl.2.1]; exact l2, by rw [kl.2.2.1]; exact l3⟩, hA', ?_, fun i x' y' hx' hy' => ?_⟩
    · show (xs ++ [x]).length = (s_law s ++ [y]).length
      rw [List.length_append, List.length_append, hxl]; rfl
    · have hy2 : (s_law s ++ [y])[i]? = some y' := hy'
      rw [List.getElem?_append] at hx' hy2
      by_cases hi : i < xs.length
      · rw [if_pos hi] at hx'
        rw [if_pos (by omega)] at hy2
        exact (hxs i x' y' hx' hy2).fr k hp he
      · rw [if_neg hi] at hx'
        rw [if_neg (by omega)] at hy2
        have : i = xs.length := by
          have := (List.getElem?_eq_some_iff.mp hx').1
          simp at this; omega
        subst this
        rw [hxl] at hy2
        simp at hx' hy2
        subst hx' hy2
        exact hx
def Sp_PV_law (Γ : GAM) (x : Nat) (p0 p1 : Int32) (g : GH) (K : Int32 → GH → Prop) : Prop := PVC Γ x g K (fun s => p_law s p0 p1) (fun s => q_law s p0 p1)
-- the walk of PV_law
set_option maxRecDepth 100000 in
def B_PV_law_45 (Γ : GAM) (K : Int32 → GH → Prop)  (g : GH) : Prop :=
  K (-1 : Int32) g
set_option maxHeartbeats 4000000 in
set_option maxRecDepth 100000 in
theorem S_PV_law_45 {Γ : GAM} {E : EV} {K : Int32 → GH → Prop} (hE : GE Γ E cX10_law 4 RX10 (some (.int)) 131 19022 (fun r g' => ∃ x, r = some (.int x) ∧ K x g'))  (g : GH) (h : B_PV_law_45 Γ K  g) : JW Γ E 45 [none, none, none, none] [] g := by
  unfold B_PV_law_45 at h
  refine j_iconst hE (by decide +kernel : decode cX10_law 45 = .ok (.iconst (-1), 1)) (v := (-1 : Int32)) (by decide) ?_
  exact j_iret hE (by decide +kernel : decode cX10_law 46 = .ok (.ireturn, 1)) ⟨_, rfl, h⟩
set_option maxRecDepth 100000 in
def B_PV_law_0 (Γ : GAM) (K : Int32 → GH → Prop) (th : Nat) (p0 : Int32) (p1 : Int32) (g : GH) : Prop :=
  Kd g th = 12 ∧ ∃ a1 : Nat, Gr g 1410 th = some a1 ∧ Kd g a1 = 6 ∧ ∃ a2 : Nat, Gr g 643 a1 = some a2 ∧ Kd g a2 = 4 ∧ ∃ a3 : Nat, Gr g 384 a2 = some a3 ∧ Sp_PV_isShire Γ p0 g (fun (x5 : Int32) (g4 : GH) => ((x5 = 0 → B_PV_law_45 Γ K g4) ∧ (¬ (x5 = 0) → Sp_PV_isDay Γ p1 g4 (fun (x7 : Int32) (g6 : GH) => ((x7 = 0 → B_PV_law_45 Γ K g6) ∧ (¬ (x7 = 0) → Kd g6 a3 = 1 ∧ Sp_AL_size Γ a3 g6 (fun (x9 : Int32) (g8 : GH) => (((30 : Int32) ≤ x9 → B_PV_law_45 Γ K g8) ∧ (¬ ((30 : Int32) ≤ x9) → Kd g8 th = 12 ∧ ∃ a10 : Nat, Gr g8 1411 th = some a10 ∧ Kd g8 a10 = 8 ∧ Sp_Ta_firstFault Γ a10 g8 (fun (x12 : Int32) (g11 : GH) => ((x12 = (-1 : Int32) → Hn g11 + 1 ≤ gB Γ + NCC ∧ Hu g11 + 7 ≤ NSS ∧ ∀ (a13 : Nat) (g14 : GH), a13 = Hn g11 → g14 = nO g11 4 7 → (∀ f, Gi g11 f (Hn g11) = 0) → (∀ f, Gr g11 f (Hn g11) = none) → (∀ c, free g11 c (Hn g11)) → (∀ a, Hn g11 ≤ a → Kd g11 a = 0) → Kd g14 th = 12 ∧ Kd g14 th = 12 ∧ ∃ a15 : Nat, Gr g14 1411 th = some a15 ∧ Sp_Lw_init Γ a13 p0 p1 (Gi g14 1408 th) a15 g14 (fun (g16 : GH) => Kd g16 a3 = 1 ∧ Sp_AL_add_1 Γ a3 a13 g16 (fun (x18 : Int32) (g17 : GH) => Kd g17 th = 12 ∧ ∃ a19 : Nat, Gr g17 1411 th = some a19 ∧ Kd g17 a19 = 8 ∧ ∀ g20 : GH, g20 = sI g17 897 a19 (0 : Int32) → Kd g20 a3 = 1 ∧ Sp_AL_size Γ a3 g20 (fun (x22 : Int32) (g21 : GH) => K (x22 - (1 : Int32)) g21)))) ∧ (¬ (x12 = (-1 : Int32)) → B_PV_law_45 Γ K g11))))))))))))
set_option maxHeartbeats 4000000 in
set_option maxRecDepth 100000 in
theorem S_PV_law_0 {Γ : GAM} {E : EV} {K : Int32 → GH → Prop} (hE : GE Γ E cX10_law 4 RX10 (some (.int)) 131 19022 (fun r g' => ∃ x, r = some (.int x) ∧ K x g')) (th : Nat) (p0 : Int32) (p1 : Int32) (g : GH) (h : B_PV_law_0 Γ K th p0 p1 g) : JW Γ E 0 [some (.ref th), some (.int p0), some (.int p1), none] [] g := by
  unfold B_PV_law_0 at h
  refine j_aload_n hE (by decide +kernel : decode cX10_law 0 = .ok (.aload_n 0, 1)) rfl rfl ?_
  obtain ⟨hk, h⟩ := h
  obtain ⟨a1, ha, h⟩ := h
  refine j_getRn hE fg_X10_16 hk ha (by decide +kernel : decode cX10_law 1 = .ok (.getfield 16, 3)) ?_
  obtain ⟨hk, h⟩ := h
  obtain ⟨a2, ha, h⟩ := h
  refine j_getRn hE fg_X10_186 hk ha (by decide +kernel : decode cX10_law 4 = .ok (.getfield 186, 3)) ?_
  obtain ⟨hk, h⟩ := h
  obtain ⟨a3, ha, h⟩ := h
  refine j_getRn hE fg_X10_190 hk ha (by decide +kernel : decode cX10_law 7 = .ok (.getfield 190, 3)) ?_
  refine j_astore_n hE (by decide +kernel : decode cX10_law 10 = .ok (.astore_n 3, 1)) rfl (Nat.le_of_ble_eq_true rfl) rfl ?_
  refine j_iload_n hE (by decide +kernel : decode cX10_law 11 = .ok (.iload_n 1, 1)) rfl rfl ?_
  refine j_callS hE rfl cl_X10_71 st_X10_isShire ⟨by omega, by omega⟩ (As := [.int p0]) (rest := []) rfl rfl (Nat.le_of_ble_eq_true rfl) (by decide +kernel : decode cX10_law 12 = .ok (.invokestatic 71, 3)) (mt_PV_isShire _ _ _ h) ?_
  rintro _ g4 ⟨x5, rfl, h⟩
  refine j_if_eq hE (by decide +kernel : decode cX10_law 15 = .ok (.ifCond .eq 30, 3)) (tgt := 45) (by decide) (fun q => ?_) (fun q => ?_)
  · replace h := h.1 q
    refine j_weak [none, none, none, none] trivial ?_
    exact S_PV_law_45 hE _ h
  · replace h := h.2 q
    refine j_iload_n hE (by decide +kernel : decode cX10_law 18 = .ok (.iload_n 2, 1)) rfl rfl ?_
    refine j_callS hE rfl cl_X10_114 st_X10_isDay ⟨by omega, by omega⟩ (As := [.int p1]) (rest := []) rfl rfl (Nat.le_of_ble_eq_true rfl) (by decide +kernel : decode cX10_law 19 = .ok (.invokestatic 114, 3)) (mt_PV_isDay _ _ _ h) ?_
    rintro _ g6 ⟨x7, rfl, h⟩
    refine j_if_eq hE (by decide +kernel : decode cX10_law 22 = .ok (.ifCond .eq 23, 3)) (tgt := 45) (by decide) (fun q => ?_) (fun q => ?_)
    · replace h := h.1 q
      refine j_weak [none, none, none, none] trivial ?_
      exact S_PV_law_45 hE _ h
    · replace h := h.2 q
      refine j_aload_n hE (by decide +kernel : decode cX10_law 25 = .ok (.aload_n 3, 1)) rfl rfl ?_
      obtain ⟨hk, h⟩ := h
      refine j_callV hE rfl cl_X10_84 cf_0 im_Jx4a65c_size_8abf5 se_Jx4a65c_size_8abf5 ⟨by omega, by omega⟩ (As := []) (rest := []) rfl rfl (Nat.le_of_ble_eq_true rfl) hk (by decide +kernel : decode cX10_law 26 = .ok (.invokevirtual 84, 3)) (mt_AL_size _ _ _ h) ?_
      rintro _ g8 ⟨x9, rfl, h⟩
      refine j_bipush hE (by decide +kernel : decode cX10_law 29 = .ok (.bipush 30, 2)) (v := (30 : Int32)) (by decide) ?_
      refine j_icmp_ge hE (by decide +kernel : decode cX10_law 31 = .ok (.if_icmp .ge 14, 3)) (tgt := 45) (by decide) (fun q => ?_) (fun q => ?_)
      · replace h := h.1 q
        refine j_weak [none, none, none, none] trivial ?_
        exact S_PV_law_45 hE _ h
      · replace h := h.2 q
        refine j_aload_n hE (by decide +kernel : decode cX10_law 34 = .ok (.aload_n 0, 1)) rfl rfl ?_
        obtain ⟨hk, h⟩ := h
        obtain ⟨a10, ha, h⟩ := h
        refine j_getRn hE fg_X10_23 hk ha (by decide +kernel : decode cX10_law 35 = .ok (.getfield 23, 3)) ?_
        obtain ⟨hk, h⟩ := h
        refine j_callV hE rfl cl_X10_183 cf_7 im_X6_firstFault se_X6_firstFault ⟨by omega, by omega⟩ (As := []) (rest := []) rfl rfl (Nat.le_of_ble_eq_true rfl) hk (by decide +kernel : decode cX10_law 38 = .ok (.invokevirtual 183, 3)) (mt_Ta_firstFault _ _ _ h) ?_
        rintro _ g11 ⟨x12, rfl, h⟩
        refine j_iconst hE (by decide +kernel : decode cX10_law 41 = .ok (.iconst (-1), 1)) (v := (-1 : Int32)) (by decide) ?_
        refine j_icmp_eq hE (by decide +kernel : decode cX10_law 42 = .ok (.if_icmp .eq 5, 3)) (tgt := 47) (by decide) (fun q => ?_) (fun q => ?_)
        · replace h := h.1 q
          refine j_aload_n hE (by decide +kernel : decode cX10_law 47 = .ok (.aload_n 3, 1)) rfl rfl ?_
          obtain ⟨hn1, hn2, h⟩ := h
          refine j_new hE cf_4 ck_X10_195 in_X3 (by decide +kernel : decode cX10_law 48 = .ok (.new 195, 3)) hn1 hn2 (fun f1 f2 f3 f4 => ?_)
          obtain ⟨a13, ha⟩ : ∃ z, z = Hn g11 := ⟨_, rfl⟩; obtain ⟨g14, hg⟩ : ∃ z, z = nO g11 4 7 := ⟨_, rfl⟩; replace h := h a13 g14 ha hg f1 f2 f3 f4; rw [← hg, ← ha]
          refine j_dup hE (by decide +kernel : decode cX10_law 51 = .ok (.dup, 1)) rfl ?_
          refine j_iload_n hE (by decide +kernel : decode cX10_law 52 = .ok (.iload_n 1, 1)) rfl rfl ?_
          refine j_iload_n hE (by decide +kernel : decode cX10_law 53 = .ok (.iload_n 2, 1)) rfl rfl ?_
          refine j_aload_n hE (by decide +kernel : decode cX10_law 54 = .ok (.aload_n 0, 1)) rfl rfl ?_
          obtain ⟨hk, h⟩ := h
          refine j_getI hE fg_X10_68 hk (by decide +kernel : decode cX10_law 55 = .ok (.getfield 68, 3)) ?_
          refine j_aload_n hE (by decide +kernel : decode cX10_law 58 = .ok (.aload_n 0, 1)) rfl rfl ?_
          obtain ⟨hk, h⟩ := h
          obtain ⟨a15, ha, h⟩ := h
          refine j_getRn hE fg_X10_23 hk ha (by decide +kernel : decode cX10_law 59 = .ok (.getfield 23, 3)) ?_
          refine j_callI hE rfl cl_X10_197 im_X3_init rfl ⟨by omega, by omega⟩ (As := [.int p0, .int p1, .int (Gi g14 1408 th), .ref a15]) (rest := [.ref a13, .ref a3]) (b := a13) rfl rfl (Nat.le_of_ble_eq_true rfl) (by decide +kernel : decode cX10_law 62 = .ok (.invokespecial 197, 3)) (mt_Lw_init _ _ _ _ _ _ _ h) ?_
          rintro _ g16 ⟨rfl, h⟩
          obtain ⟨hk, h⟩ := h
          refine j_callV hE rfl cl_X10_92 cf_0 im_Jx4a65c_add_9ea2d se_Jx4a65c_add_9ea2d ⟨by omega, by omega⟩ (As := [.ref a13]) (rest := []) rfl rfl (Nat.le_of_ble_eq_true rfl) hk (by decide +kernel : decode cX10_law 65 = .ok (.invokevirtual 92, 3)) (mt_AL_add_1 _ _ _ _ h) ?_
          rintro _ g17 ⟨x18, rfl, h⟩
          refine j_pop hE (by decide +kernel : decode cX10_law 68 = .ok (.pop, 1)) rfl ?_
          refine j_aload_n hE (by decide +kernel : decode cX10_law 69 = .ok (.aload_n 0, 1)) rfl rfl ?_
          obtain ⟨hk, h⟩ := h
          obtain ⟨a19, ha, h⟩ := h
          refine j_getRn hE fg_X10_23 hk ha (by decide +kernel : decode cX10_law 70 = .ok (.getfield 23, 3)) ?_
          refine j_iconst hE (by decide +kernel : decode cX10_law 73 = .ok (.iconst 0, 1)) (v := (0 : Int32)) (by decide) ?_
          obtain ⟨hk, h⟩ := h
          obtain ⟨g20, hg⟩ : ∃ z, z = sI g17 897 a19 (0 : Int32) := ⟨_, rfl⟩; replace h := h g20 hg
          refine j_putI hE fa_X10_176 hk (fun q => by cases q) (by decide +kernel : decode cX10_law 74 = .ok (.putfield 176, 3)) ?_
          rw [← hg]
          refine j_aload_n hE (by decide +kernel : decode cX10_law 77 = .ok (.aload_n 3, 1)) rfl rfl ?_
          obtain ⟨hk, h⟩ := h
          refine j_callV hE rfl cl_X10_84 cf_0 im_Jx4a65c_size_8abf5 se_Jx4a65c_size_8abf5 ⟨by omega, by omega⟩ (As := []) (rest := []) rfl rfl (Nat.le_of_ble_eq_true rfl) hk (by decide +kernel : decode cX10_law 78 = .ok (.invokevirtual 84, 3)) (mt_AL_size _ _ _ h) ?_
          rintro _ g21 ⟨x22, rfl, h⟩
          refine j_iconst hE (by decide +kernel : decode cX10_law 81 = .ok (.iconst 1, 1)) (v := (1 : Int32)) (by decide) ?_
          refine j_isub hE (by decide +kernel : decode cX10_law 82 = .ok (.isub, 1)) ?_
          exact j_iret hE (by decide +kernel : decode cX10_law 83 = .ok (.ireturn, 1)) ⟨_, rfl, h⟩
        · replace h := h.2 q
          refine j_weak [none, none, none, none] trivial ?_
          exact S_PV_law_45 hE _ h
set_option maxHeartbeats 4000000 in
set_option maxRecDepth 100000 in
theorem rl_PV_law {Γ : GAM} {l : Launch} {th : Nat} {p0 : Int32} {p1 : Int32} {g : GH} {K : Int32 → GH → Prop} (h0 : B_PV_law_0 Γ K th p0 p1 g) : MetA Γ l yX10_law cX10_law 4 (some (.int)) 131 19022 [.ref th, .int p0, .int p1] g (fun r g' => ∃ x, r = some (.int x) ∧ K x g') := by
  refine MetA.introL (Lx := [some (.ref th), some (.int p0), some (.int p1), none]) (by decide) (Nat.le_of_ble_eq_true rfl) rfl rfl ?_
  intro E hEl hE hnm
  exact S_PV_law_0 hE th p0 p1 g h0
theorem mt_PV_law {Γ : GAM} {l : Launch} (th : Nat) (p0 : Int32) (p1 : Int32) (g : GH) (K : Int32 → GH → Prop) (h : Sp_PV_law Γ th p0 p1 g K) : MetA Γ l yX10_law cX10_law 4 (some (.int)) 131 19022 [.ref th, .int p0, .int p1] g (fun r g' => ∃ x, r = some (.int x) ∧ K x g') := by
  obtain ⟨C, s, n, rfl, hI, hW, hR, hK⟩ := PVC.e h
  have he := hI.en
  obtain ⟨hkd, ⟨h1, h2⟩, -, -, -, -, hnow, hsiz⟩ := hI.pk
  have hP := hI.2.2.2.2.2.2.1
  have hlen := hW.len
  obtain ⟨-, -, ⟨t1, t2⟩, -⟩ := hI.pk
  have hju := hP.2.1.2.2.2.2.2.1
  have hT := hI.2.2.1
  obtain ⟨⟨j1, j2⟩, j3, al, xs, ⟨l1, l2, l3⟩, hA, hxl, hxs⟩ := id hP.2.2.2.2.2.2.2
  have hl30 := hlen.2.2.2.2.2.2.2.2.2.1
  have hRc := hR
  obtain ⟨r1, r2, r3⟩ := hRc
  have hno : ∀ g', p_law s p0 p1 = -1 → q_law s p0 p1 = s → FrC g g' → ClsI Γ C g' s → RM Γ C g' s n → K (-1) g' := fun g' e1 e2 a b c => hK C g' _ _ e1 e2 a rfl b c
  have hno0 : ¬ ok_law s p0 p1 → K (-1) g := fun u => hno g (by unfold p_law; rw [if_neg u]) (by unfold q_law; rw [if_neg u]) (FrC.rf he) hI hR.dn
  refine rl_PV_law ?_
  unfold B_PV_law_0 B_PV_law_45 Sp_PV_isDay
  refine ⟨hkd, _, h1, h2, _, hju, j2, _, l1, pv_ite (fun u => hno0 (fun z => u z.1)) (fun u => pv_ite (fun u2 => hno0 (fun z => u2 z.2.1)) (fun u2 => ⟨hA.1.2, hA.sz hxl ?_⟩))⟩
  rw [show ((30 : Int32) = nI 30) from rfl, nj_le (by omega) (by omega)]
  refine ⟨fun u3 => hno0 (fun z => z.2.2 (by omega)), fun u3 => ⟨hkd, _, t1, t2, s_tap s, hT, fun b g1 hx hr => ?_⟩⟩
  have ok : ok_law s p0 p1 := ⟨u, u2, by omega⟩
  have hT1 := hT.x0 hx (by decide) (by decide)
  have hI1 : ClsI Γ C g1 s := by
    have := hI.tape hx (by decide) (by decide) hT1
    rw [u_tap_s] at this; exact this
  have hF1 : FrC g g1 := hx.c he (by decide) (by decide)
  have hR1 : RM Γ C g1 s n := hR.x hx
  unfold TRs at hr
  cases hp : pAll (s_tap s) with
  | inl e =>
    rw [hp] at hr
    have hne : b ≠ -1 := fun z => by
      rw [hr.1] at z
      exact i32_m1 (nj_nneg (by have := hr.2; have := hT.2.2.1; omega)) z
    exact ⟨fun z => absurd z hne, fun _ => hno g1 (by unfold p_law; rw [if_pos ok, hp]) (by unfold q_law; rw [if_pos ok, hp]) hF1 hI1 hR1⟩
  | inr rs =>
    rw [hp] at hr
    obtain ⟨hb, p, hQ⟩ := hr
    have hfl := pAll_fl hT.2.2.1 hp
    have he1 := hI1.en
    have hP1 := hI1.2.2.2.2.2.2.1
    have k1 := hx.fr (als := []) he
    have hA1 : AC Γ g1 al xs := hA.fr k1 (by simp) (by decide) (by decide)
    have hal1 : Gr g1 384 (d_ju (c_D C)) = some al ∧ Co g1 al = 384 ∧ Ow g1 al = d_ju (c_D C) := by
      have := k1.kd hA.1.1 (by have := hA.1.2; omega)
      exact ⟨by rw [k1.gr j1 (by decide)]; exact l1, this.2.1.trans l2, this.2.2.1.trans l3⟩
    obtain ⟨⟨x1, x2, x3, x4, x5, x6, x7, x8, x9, x10, x11, x12⟩, -⟩ := id hx
    refine ⟨fun _ => ⟨by omega, by omega, ?_⟩, fun z => absurd hb z⟩
    rintro _ g2 rfl hg2 z1 z2 z3 z4
    have e6 : Kd g2 (c_x C) = 12 := by rw [hg2, Kd_nO, if_neg (by have := hI1.1.1.1; omega)]; exact hI1.1.1.2
    have e7 : Gi g2 1408 (c_x C) = s_now s := by rw [hg2]; exact hI1.2.1.1
    have e8 : Gr g2 1411 (c_x C) = some (c_ta C) := by rw [hg2]; exact hI1.1.2.1.2.1
    refine ⟨e6, e6, _, e8, ?_⟩
    rw [e7]
    refine ⟨g1, s_tap s, p, rs, hg2, rfl, he1, hP1.1.2.1, z3, he1.lt (by have := hT1.1.1; omega), hQ, hfl, ⟨by omega, by omega⟩, fun g3 k3 hL hh3 hu3 => ?_⟩
    have hA3 := hA1.fr k3 (by simp) (by simp) (by simp)
    refine ⟨hA3.1.2, xs, hA3, hP1.1.2.2.fr k3, k3.nt hP1.1.2.1, fun a ha => ?_, ⟨hL.1.1.1, 4, hL.1.1.2, by omega⟩, by omega, ⟨by omega, by omega⟩, fun g4 k4 hA4 hG4 => ?_⟩
    · obtain ⟨i, hi⟩ := List.getElem?_of_mem ha
      obtain ⟨y, hy⟩ := get_lt (show i < (s_law s).length by rw [← hxl]; exact (List.getElem?_eq_some_iff.mp hi).1)
      have := (hxs i a y hi hy).1.1
      exact isO.fr (g := g) ⟨this.1, 4, this.2, by omega⟩ ((k1.up (fun f hf => hf) (fun f hf => hf) (fun f hf => hf)).tr (k3.up (by simp) (by simp) (by simp)))
    · have hhG := hG4.hn
      have kk : Fr [] [] [al] g1 g4 := (k3.up (by simp) (by simp) (by simp)).tr k4
      have he4 := kk.en he1
      have hP4 : PoI Γ (c_D C) g4 (u_law s (s_law s ++ [(p0, p1, s_now s, rs)])) := hP1.law kk hal1 hA1 hxl (fun i x y hx hy => (hxs i x y hx hy).fr k1 ⟨by decide, by decide⟩ he) hA4 (hL.fr k4 PF.n (k3.en he1))
      obtain ⟨⟨-, -, ⟨m0, m1, m2, m3⟩, -⟩, -, -, -, -, -, -, a8⟩ := id hI1
      have hc := hP1.2.1.2.2.2.2.1
      have n1 : c_hl C ∉ [al] := fun z => by
        rw [List.mem_singleton] at z
        rw [z, hal1.2.1] at m2
        exact absurd m2 (by decide)
      have n2 : d_cl (c_D C) ∉ [al] := fun z => by
        have hc2 := hc.2.1
        rw [List.mem_singleton] at z
        rw [z, hal1.2.1] at hc2
        exact absurd hc2 (by decide)
      obtain ⟨cs, hcs, -⟩ := id a8
      have hphi : phi (c_D C) g4 = phi (c_D C) g1 := by unfold phi; rw [cpA.fr hcs kk n2]
      have hI4 : ClsI Γ (C.1, c_D C, C.2.2) g4 (u_law s (s_law s ++ [(p0, p1, s_now s, rs)])) := hI1.post kk n1 (by decide) (by decide) rfl (fun z => z) rfl (fun z => z) (fun z => z.cg rfl rfl rfl) (fun z => z) hP4 (a8.fr2 kk n2 (by decide) (by decide))
      have hI4' : ClsI Γ C g4 (u_law s (s_law s ++ [(p0, p1, s_now s, rs)])) := hI4
      have hx5 : FrX (c_ta C) [897] [] g4 (sI g4 897 (c_ta C) 0) := FrX.sI (by decide)
      have hT4 := hI4'.2.2.1
      refine ⟨hI4'.1.1.2, _, hI4'.1.2.1.2.1, hT4.1.1, ?_⟩
      rintro g5 hg5
      have hT5 : TT (c_ta C) g5 [] := by
        refine ⟨by rw [hg5]; exact hT4.1, by rw [hg5, Gi_sI, if_pos ⟨rfl, rfl⟩]; rfl, Nat.zero_le _, fun k x hx => by simp at hx, fun x hx => by simp at hx⟩
      rw [← hg5] at hx5
      have hI5 := hI4'.tape hx5 (by decide) (by simp) hT5
      have hA5 : AC Γ g5 al (xs ++ [Hn g1]) := hA4.fr (hx5.fr (als := []) he4) (by simp) (by decide) (by decide)
      refine ⟨hA5.1.2, hA5.sz (n := (s_law s).length + 1) (by rw [List.length_append, hxl]; rfl) ?_⟩
      rw [show nI ((s_law s).length + 1) - 1 = nI (s_law s).length from nj_sub (b := 1) (by omega)]
      have hR4 : RM Γ C g4 (u_law s (s_law s ++ [(p0, p1, s_now s, rs)])) n := by
        have hn1 : Hn g1 = Hn g := x11
        have hu1 : Hu g1 = Hu g := x12
        have hp1 : phi (c_D C) g1 = phi (c_D C) g := by unfold phi cpA; rw [x2, x9]
        exact hR.up (C' := C) (by rw [hphi, hp1]; exact Nat.le_refl _) (by omega) (by omega) (Nat.le_succ _)
      have hR5 : RM Γ C g5 (u_tap (u_law s (s_law s ++ [(p0, p1, s_now s, rs)])) []) n := by
        obtain ⟨⟨y1, y2, y3, y4, y5, y6, y7, y8, y9, y10, y11, y12⟩, -⟩ := id hx5
        have hp5 : phi (c_D C) g5 = phi (c_D C) g4 := by unfold phi cpA; rw [y2, y9]
        obtain ⟨q1, q2, q3⟩ := hR4
        refine ⟨?_, ?_, q3⟩
        · rw [hp5, y11]; exact q1
        · rw [hp5, y12]; exact q2
      exact hK C g5 _ _ (by unfold p_law; rw [if_pos ok, hp]) (by unfold q_law; rw [if_pos ok, hp]) (hF1.tr ((FrC.of kk (by simp) (by simp)).tr (hx5.c he4 (by decide) (by simp)))) rfl hI5 hR5
