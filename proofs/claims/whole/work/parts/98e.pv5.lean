/-! the class's face: emptyings, voters, envelopes -/
theorem fold_no {α β : Type} {f : β → α → β} : ∀ (l : List α) (b : β), (∀ x ∈ l, ∀ a, f a x = a) → l.foldl f b = b := by
  intro l
  induction l with
  | nil => intro b _; rfl
  | cons x l ih =>
    intro b h
    rw [List.foldl_cons, h x List.mem_cons_self, ih b (fun y hy => h y (List.mem_cons_of_mem _ hy))]
theorem PoI.emp {Γ : GAM} {D : DIR} {g g' : GH} {s : ST} {y : Tl} (h : PoI Γ D g s) (k : Fr [] [] [d_ml D] g g') (hL : LOG Γ g' (d_ml D) (s_emp s ++ [y])) : PoI Γ D g' (u_emp s (s_emp s ++ [y])) := by
  obtain ⟨⟨he, ht, hs⟩, hl, ⟨c1, c2, c3, c4, c5⟩, ⟨v1, v2, v3, v4⟩, ⟨a1, a2, a3⟩, hh, hm, hj⟩ := h
  obtain ⟨⟨p1, p2⟩, ⟨_, lv2, lv3⟩, ⟨_, le2, le3⟩, ⟨_, lm2, lm3⟩, ⟨_, lc2, lc3⟩, -, -, -⟩ := id hl
  have nl : ∀ al, Co g al ≠ 642 → al ∉ [d_ml D] := fun al ha z => ha (by rw [List.mem_singleton.mp z]; exact lm2)
  have hp := PF.n
  refine ⟨⟨k.en he, k.nt ht, hs.fr k⟩, hl.fr k, ⟨by rw [k.gi p1 (by simp) (by decide)]; exact c1, by rw [k.gi p1 (by simp) (by decide)]; exact c2, by rw [k.gi p1 (by simp) (by decide)]; exact c3, by rw [k.gi p1 (by simp) (by decide)]; exact c4, by rw [k.gi p1 (by simp) (by decide)]; exact c5⟩, ⟨v1.fr k (nl _ (by rw [lv2]; decide)) (by simp) (by simp), v2, fun v' x' hx' => ?_, v4⟩, ⟨a1.fr k (nl _ (by rw [le2]; decide)) (by simp) (by simp), a2, fun e x' hx' => ?_⟩, fun e x' hx' => ?_, hL, hj.fr k hp he (fun al ha z => ?_)⟩
  · obtain ⟨y', L', r1, r2, r3, r4⟩ := v3 v' x' hx'
    refine ⟨y', L', r1, r2.fr k hp (fun al ha w => ?_), r3, r4⟩
    rw [List.mem_singleton.mp ha, lm2] at w
    rcases w.2 with w | w <;> exact absurd w (by decide)
  · obtain ⟨y', w', L', r1, r2, r3, r4, r5⟩ := a3 e x' hx'
    refine ⟨y', w', L', r1, r2, r3.fr k hp (fun al ha w => ?_), r4, r5⟩
    rw [List.mem_singleton.mp ha, lm2] at w
    exact absurd w.2 (by decide)
  · obtain ⟨y', w', L', r1, r2, r3, r4, r5⟩ := a3 e x' hx'
    rw [k.gi r3.1.1 (by simp) (by decide)]
    exact hh e x' hx'
  · rw [List.mem_singleton.mp ha, lm2] at z
    exact absurd z.2 (by decide)
def Sp_PV_empty (Γ : GAM) (x : Nat) (p0 p1 p2 : Int32) (g : GH) (K : Int32 → GH → Prop) : Prop := PVC Γ x g K (fun s => p_empty s p0 p1 p2) (fun s => q_empty s p0 p1 p2)
-- the walk of PV_empty
set_option maxRecDepth 100000 in
def B_PV_empty_54 (Γ : GAM) (K : Int32 → GH → Prop)  (g : GH) : Prop :=
  K (-1 : Int32) g
set_option maxHeartbeats 4000000 in
set_option maxRecDepth 100000 in
theorem S_PV_empty_54 {Γ : GAM} {E : EV} {K : Int32 → GH → Prop} (hE : GE Γ E cX10_empty 5 RX10 (some (.int)) 7 171 (fun r g' => ∃ x, r = some (.int x) ∧ K x g'))  (g : GH) (h : B_PV_empty_54 Γ K  g) : JW Γ E 54 [none, none, none, none, none] [] g := by
  unfold B_PV_empty_54 at h
  refine j_iconst hE (by decide +kernel : decode cX10_empty 54 = .ok (.iconst (-1), 1)) (v := (-1 : Int32)) (by decide) ?_
  exact j_iret hE (by decide +kernel : decode cX10_empty 55 = .ok (.ireturn, 1)) ⟨_, rfl, h⟩
set_option maxRecDepth 100000 in
def B_PV_empty_31 (Γ : GAM) (K : Int32 → GH → Prop) (l0 : Nat) (l1 : Int32) (l2 : Int32) (l3 : Int32) (s0 : Int32) (g : GH) : Prop :=
  ((s0 = 0 → B_PV_empty_54 Γ K g) ∧ (¬ (s0 = 0) → Kd g l0 = 12 ∧ ∃ a1 : Nat, Gr g 1410 l0 = some a1 ∧ Kd g a1 = 6 ∧ ∃ a2 : Nat, Gr g 642 a1 = some a2 ∧ Kd g a2 = 1 ∧ Sp_AL_size Γ a2 g (fun (x4 : Int32) (g3 : GH) => ((x4 < (200 : Int32) → Kd g3 l0 = 12 ∧ ∃ a5 : Nat, Gr g3 1410 l0 = some a5 ∧ Kd g3 a5 = 6 ∧ ∃ a6 : Nat, Gr g3 642 a5 = some a6 ∧ Hn g3 + 1 ≤ gB Γ + NCC ∧ Hu g3 + 4 ≤ NSS ∧ ∀ (a7 : Nat) (g8 : GH), a7 = Hn g3 → g8 = nO g3 8 4 → (∀ f, Gi g3 f (Hn g3) = 0) → (∀ f, Gr g3 f (Hn g3) = none) → (∀ c, free g3 c (Hn g3)) → (∀ a, Hn g3 ≤ a → Kd g3 a = 0) → Kd g8 l0 = 12 ∧ Sp_To_init Γ a7 l1 l2 l3 (Gi g8 1408 l0) g8 (fun (g9 : GH) => Kd g9 a6 = 1 ∧ Sp_AL_add_1 Γ a6 a7 g9 (fun (x11 : Int32) (g10 : GH) => Kd g10 l0 = 12 ∧ ∃ a12 : Nat, Gr g10 1410 l0 = some a12 ∧ Kd g10 a12 = 6 ∧ ∃ a13 : Nat, Gr g10 642 a12 = some a13 ∧ Kd g10 a13 = 1 ∧ Sp_AL_size Γ a13 g10 (fun (x15 : Int32) (g14 : GH) => K (x15 - (1 : Int32)) g14)))) ∧ (¬ (x4 < (200 : Int32)) → B_PV_empty_54 Γ K g3)))))
set_option maxHeartbeats 4000000 in
set_option maxRecDepth 100000 in
theorem S_PV_empty_31 {Γ : GAM} {E : EV} {K : Int32 → GH → Prop} (hE : GE Γ E cX10_empty 5 RX10 (some (.int)) 7 171 (fun r g' => ∃ x, r = some (.int x) ∧ K x g')) (l0 : Nat) (l1 : Int32) (l2 : Int32) (l3 : Int32) (s0 : Int32) (g : GH) (h : B_PV_empty_31 Γ K l0 l1 l2 l3 s0 g) : JW Γ E 31 [some (.ref l0), some (.int l1), some (.int l2), some (.int l3), none] [.int s0] g := by
  unfold B_PV_empty_31 at h
  refine j_istore hE (by decide +kernel : decode cX10_empty 31 = .ok (.istore 4, 2)) (Nat.le_of_ble_eq_true rfl) rfl ?_
  refine j_iload hE (by decide +kernel : decode cX10_empty 33 = .ok (.iload 4, 2)) rfl ?_
  refine j_if_eq hE (by decide +kernel : decode cX10_empty 35 = .ok (.ifCond .eq 19, 3)) (tgt := 54) (by decide) (fun q => ?_) (fun q => ?_)
  · replace h := h.1 q
    refine j_weak [none, none, none, none, none] trivial ?_
    exact S_PV_empty_54 hE _ h
  · replace h := h.2 q
    refine j_aload_n hE (by decide +kernel : decode cX10_empty 38 = .ok (.aload_n 0, 1)) rfl rfl ?_
    obtain ⟨hk, h⟩ := h
    obtain ⟨a1, ha, h⟩ := h
    refine j_getRn hE fg_X10_16 hk ha (by decide +kernel : decode cX10_empty 39 = .ok (.getfield 16, 3)) ?_
    obtain ⟨hk, h⟩ := h
    obtain ⟨a2, ha, h⟩ := h
    refine j_getRn hE fg_X10_144 hk ha (by decide +kernel : decode cX10_empty 42 = .ok (.getfield 144, 3)) ?_
    obtain ⟨hk, h⟩ := h
    refine j_callV hE rfl cl_X10_84 cf_0 im_Jx4a65c_size_8abf5 se_Jx4a65c_size_8abf5 ⟨by omega, by omega⟩ (As := []) (rest := []) rfl rfl (Nat.le_of_ble_eq_true rfl) hk (by decide +kernel : decode cX10_empty 45 = .ok (.invokevirtual 84, 3)) (mt_AL_size _ _ _ h) ?_
    rintro _ g3 ⟨x4, rfl, h⟩
    refine j_sipush hE (by decide +kernel : decode cX10_empty 48 = .ok (.sipush 200, 3)) (v := (200 : Int32)) (by decide) ?_
    refine j_icmp_lt hE (by decide +kernel : decode cX10_empty 51 = .ok (.if_icmp .lt 5, 3)) (tgt := 56) (by decide) (fun q => ?_) (fun q => ?_)
    · replace h := h.1 q
      refine j_aload_n hE (by decide +kernel : decode cX10_empty 56 = .ok (.aload_n 0, 1)) rfl rfl ?_
      obtain ⟨hk, h⟩ := h
      obtain ⟨a5, ha, h⟩ := h
      refine j_getRn hE fg_X10_16 hk ha (by decide +kernel : decode cX10_empty 57 = .ok (.getfield 16, 3)) ?_
      obtain ⟨hk, h⟩ := h
      obtain ⟨a6, ha, h⟩ := h
      refine j_getRn hE fg_X10_144 hk ha (by decide +kernel : decode cX10_empty 60 = .ok (.getfield 144, 3)) ?_
      obtain ⟨hn1, hn2, h⟩ := h
      refine j_new hE cf_8 ck_X10_109 in_X7 (by decide +kernel : decode cX10_empty 63 = .ok (.new 109, 3)) hn1 hn2 (fun f1 f2 f3 f4 => ?_)
      obtain ⟨a7, ha⟩ : ∃ z, z = Hn g3 := ⟨_, rfl⟩; obtain ⟨g8, hg⟩ : ∃ z, z = nO g3 8 4 := ⟨_, rfl⟩; replace h := h a7 g8 ha hg f1 f2 f3 f4; rw [← hg, ← ha]
      refine j_dup hE (by decide +kernel : decode cX10_empty 66 = .ok (.dup, 1)) rfl ?_
      refine j_iload_n hE (by decide +kernel : decode cX10_empty 67 = .ok (.iload_n 1, 1)) rfl rfl ?_
      refine j_iload_n hE (by decide +kernel : decode cX10_empty 68 = .ok (.iload_n 2, 1)) rfl rfl ?_
      refine j_iload_n hE (by decide +kernel : decode cX10_empty 69 = .ok (.iload_n 3, 1)) rfl rfl ?_
      refine j_aload_n hE (by decide +kernel : decode cX10_empty 70 = .ok (.aload_n 0, 1)) rfl rfl ?_
      obtain ⟨hk, h⟩ := h
      refine j_getI hE fg_X10_68 hk (by decide +kernel : decode cX10_empty 71 = .ok (.getfield 68, 3)) ?_
      refine j_callI hE rfl cl_X10_111 im_X7_init rfl ⟨by omega, by omega⟩ (As := [.int l1, .int l2, .int l3, .int (Gi g8 1408 l0)]) (rest := [.ref a7, .ref a6]) (b := a7) rfl rfl (Nat.le_of_ble_eq_true rfl) (by decide +kernel : decode cX10_empty 74 = .ok (.invokespecial 111, 3)) (mt_To_init _ _ _ _ _ _ _ h) ?_
      rintro _ g9 ⟨rfl, h⟩
      obtain ⟨hk, h⟩ := h
      refine j_callV hE rfl cl_X10_92 cf_0 im_Jx4a65c_add_9ea2d se_Jx4a65c_add_9ea2d ⟨by omega, by omega⟩ (As := [.ref a7]) (rest := []) rfl rfl (Nat.le_of_ble_eq_true rfl) hk (by decide +kernel : decode cX10_empty 77 = .ok (.invokevirtual 92, 3)) (mt_AL_add_1 _ _ _ _ h) ?_
      rintro _ g10 ⟨x11, rfl, h⟩
      refine j_pop hE (by decide +kernel : decode cX10_empty 80 = .ok (.pop, 1)) rfl ?_
      refine j_aload_n hE (by decide +kernel : decode cX10_empty 81 = .ok (.aload_n 0, 1)) rfl rfl ?_
      obtain ⟨hk, h⟩ := h
      obtain ⟨a12, ha, h⟩ := h
      refine j_getRn hE fg_X10_16 hk ha (by decide +kernel : decode cX10_empty 82 = .ok (.getfield 16, 3)) ?_
      obtain ⟨hk, h⟩ := h
      obtain ⟨a13, ha, h⟩ := h
      refine j_getRn hE fg_X10_144 hk ha (by decide +kernel : decode cX10_empty 85 = .ok (.getfield 144, 3)) ?_
      obtain ⟨hk, h⟩ := h
      refine j_callV hE rfl cl_X10_84 cf_0 im_Jx4a65c_size_8abf5 se_Jx4a65c_size_8abf5 ⟨by omega, by omega⟩ (As := []) (rest := []) rfl rfl (Nat.le_of_ble_eq_true rfl) hk (by decide +kernel : decode cX10_empty 88 = .ok (.invokevirtual 84, 3)) (mt_AL_size _ _ _ h) ?_
      rintro _ g14 ⟨x15, rfl, h⟩
      refine j_iconst hE (by decide +kernel : decode cX10_empty 91 = .ok (.iconst 1, 1)) (v := (1 : Int32)) (by decide) ?_
      refine j_isub hE (by decide +kernel : decode cX10_empty 92 = .ok (.isub, 1)) ?_
      exact j_iret hE (by decide +kernel : decode cX10_empty 93 = .ok (.ireturn, 1)) ⟨_, rfl, h⟩
    · replace h := h.2 q
      refine j_weak [none, none, none, none, none] trivial ?_
      exact S_PV_empty_54 hE _ h
set_option maxRecDepth 100000 in
def B_PV_empty_30 (Γ : GAM) (K : Int32 → GH → Prop) (l0 : Nat) (l1 : Int32) (l2 : Int32) (l3 : Int32) (g : GH) : Prop :=
  B_PV_empty_31 Γ K l0 l1 l2 l3 (0 : Int32) g
set_option maxHeartbeats 4000000 in
set_option maxRecDepth 100000 in
theorem S_PV_empty_30 {Γ : GAM} {E : EV} {K : Int32 → GH → Prop} (hE : GE Γ E cX10_empty 5 RX10 (some (.int)) 7 171 (fun r g' => ∃ x, r = some (.int x) ∧ K x g')) (l0 : Nat) (l1 : Int32) (l2 : Int32) (l3 : Int32) (g : GH) (h : B_PV_empty_30 Γ K l0 l1 l2 l3 g) : JW Γ E 30 [some (.ref l0), some (.int l1), some (.int l2), some (.int l3), none] [] g := by
  unfold B_PV_empty_30 at h
  refine j_iconst hE (by decide +kernel : decode cX10_empty 30 = .ok (.iconst 0, 1)) (v := (0 : Int32)) (by decide) ?_
  exact S_PV_empty_31 hE _ _ _ _ _ _ h
set_option maxRecDepth 100000 in
def B_PV_empty_0 (Γ : GAM) (K : Int32 → GH → Prop) (th : Nat) (p0 : Int32) (p1 : Int32) (p2 : Int32) (g : GH) : Prop :=
  Sp_PV_isBox Γ p0 g (fun (x2 : Int32) (g1 : GH) => ((x2 = 0 → B_PV_empty_30 Γ K th p0 p1 p2 g1) ∧ (¬ (x2 = 0) → Kd g1 th = 12 ∧ Sp_PV_isUpToNow Γ th p1 g1 (fun (x4 : Int32) (g3 : GH) => ((x4 = 0 → B_PV_empty_30 Γ K th p0 p1 p2 g3) ∧ (¬ (x4 = 0) → Sp_PV_isWithin Γ p2 (0 : Int32) (200 : Int32) g3 (fun (x6 : Int32) (g5 : GH) => ((x6 = 0 → B_PV_empty_30 Γ K th p0 p1 p2 g5) ∧ (¬ (x6 = 0) → B_PV_empty_31 Γ K th p0 p1 p2 (1 : Int32) g5)))))))))
set_option maxHeartbeats 4000000 in
set_option maxRecDepth 100000 in
theorem S_PV_empty_0 {Γ : GAM} {E : EV} {K : Int32 → GH → Prop} (hE : GE Γ E cX10_empty 5 RX10 (some (.int)) 7 171 (fun r g' => ∃ x, r = some (.int x) ∧ K x g')) (th : Nat) (p0 : Int32) (p1 : Int32) (p2 : Int32) (g : GH) (h : B_PV_empty_0 Γ K th p0 p1 p2 g) : JW Γ E 0 [some (.ref th), some (.int p0), some (.int p1), some (.int p2), none] [] g := by
  unfold B_PV_empty_0 at h
  refine j_iload_n hE (by decide +kernel : decode cX10_empty 0 = .ok (.iload_n 1, 1)) rfl rfl ?_
  refine j_callS hE rfl cl_X10_137 st_X10_isBox ⟨by omega, by omega⟩ (As := [.int p0]) (rest := []) rfl rfl (Nat.le_of_ble_eq_true rfl) (by decide +kernel : decode cX10_empty 1 = .ok (.invokestatic 137, 3)) (mt_PV_isBox _ _ _ h) ?_
  rintro _ g1 ⟨x2, rfl, h⟩
  refine j_if_eq hE (by decide +kernel : decode cX10_empty 4 = .ok (.ifCond .eq 26, 3)) (tgt := 30) (by decide) (fun q => ?_) (fun q => ?_)
  · replace h := h.1 q
    exact S_PV_empty_30 hE _ _ _ _ _ h
  · replace h := h.2 q
    refine j_aload_n hE (by decide +kernel : decode cX10_empty 7 = .ok (.aload_n 0, 1)) rfl rfl ?_
    refine j_iload_n hE (by decide +kernel : decode cX10_empty 8 = .ok (.iload_n 2, 1)) rfl rfl ?_
    obtain ⟨hk, h⟩ := h
    refine j_callV hE rfl cl_X10_100 cf_11 im_X10_isUpToNow se_X10_isUpToNow ⟨by omega, by omega⟩ (As := [.int p1]) (rest := []) rfl rfl (Nat.le_of_ble_eq_true rfl) hk (by decide +kernel : decode cX10_empty 9 = .ok (.invokevirtual 100, 3)) (mt_PV_isUpToNow _ _ _ _ h) ?_
    rintro _ g3 ⟨x4, rfl, h⟩
    refine j_if_eq hE (by decide +kernel : decode cX10_empty 12 = .ok (.ifCond .eq 18, 3)) (tgt := 30) (by decide) (fun q => ?_) (fun q => ?_)
    · replace h := h.1 q
      exact S_PV_empty_30 hE _ _ _ _ _ h
    · replace h := h.2 q
      refine j_iload_n hE (by decide +kernel : decode cX10_empty 15 = .ok (.iload_n 3, 1)) rfl rfl ?_
      refine j_iconst hE (by decide +kernel : decode cX10_empty 16 = .ok (.iconst 0, 1)) (v := (0 : Int32)) (by decide) ?_
      refine j_sipush hE (by decide +kernel : decode cX10_empty 17 = .ok (.sipush 200, 3)) (v := (200 : Int32)) (by decide) ?_
      refine j_callS hE rfl cl_X10_64 st_X10_isWithin ⟨by omega, by omega⟩ (As := [.int p2, .int (0 : Int32), .int (200 : Int32)]) (rest := []) rfl rfl (Nat.le_of_ble_eq_true rfl) (by decide +kernel : decode cX10_empty 20 = .ok (.invokestatic 64, 3)) (mt_PV_isWithin _ _ _ _ _ h) ?_
      rintro _ g5 ⟨x6, rfl, h⟩
      refine j_if_eq hE (by decide +kernel : decode cX10_empty 23 = .ok (.ifCond .eq 7, 3)) (tgt := 30) (by decide) (fun q => ?_) (fun q => ?_)
      · replace h := h.1 q
        exact S_PV_empty_30 hE _ _ _ _ _ h
      · replace h := h.2 q
        refine j_iconst hE (by decide +kernel : decode cX10_empty 26 = .ok (.iconst 1, 1)) (v := (1 : Int32)) (by decide) ?_
        refine j_goto hE (by decide +kernel : decode cX10_empty 27 = .ok (.goto 4, 3)) (tgt := 31) (by decide) ?_
        exact S_PV_empty_31 hE _ _ _ _ _ _ h
set_option maxHeartbeats 4000000 in
set_option maxRecDepth 100000 in
theorem rl_PV_empty {Γ : GAM} {l : Launch} {th : Nat} {p0 : Int32} {p1 : Int32} {p2 : Int32} {g : GH} {K : Int32 → GH → Prop} (h0 : B_PV_empty_0 Γ K th p0 p1 p2 g) : MetA Γ l yX10_empty cX10_empty 5 (some (.int)) 7 171 [.ref th, .int p0, .int p1, .int p2] g (fun r g' => ∃ x, r = some (.int x) ∧ K x g') := by
  refine MetA.introL (Lx := [some (.ref th), some (.int p0), some (.int p1), some (.int p2), none]) (by decide) (Nat.le_of_ble_eq_true rfl) rfl rfl ?_
  intro E hEl hE hnm
  exact S_PV_empty_0 hE th p0 p1 p2 g h0
theorem mt_PV_empty {Γ : GAM} {l : Launch} (th : Nat) (p0 : Int32) (p1 : Int32) (p2 : Int32) (g : GH) (K : Int32 → GH → Prop) (h : Sp_PV_empty Γ th p0 p1 p2 g K) : MetA Γ l yX10_empty cX10_empty 5 (some (.int)) 7 171 [.ref th, .int p0, .int p1, .int p2] g (fun r g' => ∃ x, r = some (.int x) ∧ K x g') := by
  obtain ⟨C, s, n, rfl, hI, hW, hR, hK⟩ := PVC.e h
  have he := hI.en
  obtain ⟨hkd, ⟨h1, h2⟩, -, -, -, ⟨i1, i2⟩, hnow, hsiz⟩ := hI.pk
  have hP := hI.2.2.2.2.2.2.1
  have hlen := hW.len
  obtain ⟨q1, m2, m3⟩ := hP.2.1.2.2.2.1
  have hkm := hP.2.1.2.2.2.2.2.2.1.2.2.1
  have hlm := hP.2.1.2.2.2.2.2.2.2.2.2.1
  have hL := hP.2.2.2.2.2.2.1
  unfold p_empty q_empty at hK
  refine rl_PV_empty ?_
  have hno : ¬ ok_empty s p0 p1 p2 → K (-1) g := fun u => hK C g _ _ (if_neg u) (if_neg u) (FrC.rf he) rfl hI hR.dn
  have h30 : ¬ ok_empty s p0 p1 p2 → B_PV_empty_30 Γ K (c_x C) p0 p1 p2 g := fun u => by
    unfold B_PV_empty_30 B_PV_empty_31 B_PV_empty_54
    exact ⟨fun _ => hno u, fun z => absurd rfl z⟩
  have h31 : (0 ≤ p0 ∧ p0 ≤ 7) → (0 ≤ p1 ∧ p1 ≤ s_now s) → (0 ≤ p2 ∧ p2 ≤ 200) → B_PV_empty_31 Γ K (c_x C) p0 p1 p2 1 g := fun a b c => by
    unfold B_PV_empty_31 B_PV_empty_54
    refine ⟨fun z => absurd z (by decide), fun _ => ⟨hkd, _, h1, h2, _, q1, hkm, hL.sz ?_⟩⟩
    rw [show ((200 : Int32) = nI 200) from rfl, nj_lt (by omega) (by omega)]
    have hR' := hR
    obtain ⟨r1, r2, r3⟩ := hR'
    refine ⟨fun u3 => ⟨hkd, _, h1, h2, _, q1, by omega, by omega, ?_⟩, fun u3 => hno (fun z => u3 (by have := z.1; omega))⟩
    have ok : ok_empty s p0 p1 p2 := ⟨by omega, a, b, c⟩
    rintro _ _ rfl rfl z1 z2 z3 z4
    refine ⟨by rw [Kd_nO, if_neg (by have := hI.1.1.1; omega)]; exact hkd, ?_⟩
    have hnw : Gi (nO g 8 4) 1408 (c_x C) = s_now s := hnow
    rw [hnw]
    refine told_push (K := fun (x11 : Int32) g10 => _) he hP.1.2.2 hP.1.2.1 ⟨by omega, by omega⟩ hL (by omega) rfl (fun g' hf hL' hh => ?_)
    have hLg := hL' _ hL
    have hP' := hP.emp hf hLg
    obtain ⟨⟨⟨x1, x2⟩, -, ⟨l0, l1, l2, l3⟩, -⟩, a2, a3, a4, a5, a6, a7, a8⟩ := id hI
    have hc := a7.2.1.2.2.2.2.1
    have n1 : c_hl C ∉ [d_ml (c_D C)] := fun z => by
      rw [List.mem_singleton] at z
      rw [z, m2] at l2
      exact absurd l2 (by decide)
    have n2 : d_cl (c_D C) ∉ [d_ml (c_D C)] := fun z => by
      rw [List.mem_singleton] at z
      have := hc.2.1
      rw [z, m2] at this
      exact absurd this (by decide)
    obtain ⟨cs, hcs, -⟩ := id a8
    have hphi : phi (c_D C) g' = phi (c_D C) g := by unfold phi; rw [cpA.fr hcs hf n2]
    have hI' : ClsI Γ (C.1, c_D C, C.2.2) g' (u_emp s (s_emp s ++ [(p0, p1, p2, s_now s)])) := hI.post hf n1 (by decide) (by decide) rfl (fun z => z) rfl (fun z => z) (fun z => z.cg rfl rfl rfl) (fun z => z) hP' (a8.fr2 hf n2 (by decide) (by decide))
    have hI2 : ClsI Γ C g' (u_emp s (s_emp s ++ [(p0, p1, p2, s_now s)])) := hI'
    obtain ⟨kkd, ⟨k1, k2⟩, -⟩ := hI2.pk
    have qq := hP'.2.1.2.2.2.1.1
    refine ⟨kkd, _, k1, k2, _, qq, hLg.kd, hLg.sz ?_⟩
    rw [List.length_append, show nI ((s_emp s).length + [(p0, p1, p2, s_now s)].length) - 1 = nI (s_emp s).length from nj_sub (b := 1) (by simp)]
    exact hK C _ _ _ (if_pos ok) (if_pos ok) (FrC.of hf (by simp) (by simp)) rfl hI2 (hR.up (by rw [hphi]; exact Nat.le_refl _) (by omega) (by omega) (by show (s_evt s).length + (s_rea s).length + (s_tel s).length ≤ _; omega))
  unfold B_PV_empty_0
  refine pv_ite (fun u => h30 (fun z => u z.2.1)) (fun u => ⟨hkd, hkd, ?_⟩)
  rw [hnow]
  exact pv_ite (fun u2 => h30 (fun z => u2 z.2.2.1)) (fun u2 => pv_ite (fun u3 => h30 (fun z => u3 z.2.2.2)) (fun u3 => h31 u u2 u3))
/-- a voter more -/
theorem PoI.vot {Γ : GAM} {D : DIR} {g g9 g' : GH} {s : ST} {x : Nat} {y : Int32 × Int32 × Int32} (h : PoI Γ D g s) (hW : WF s) (k9 : Fr [] [] [] g g9) (k : Fr [] [] [d_vl D] g9 g') (hx : Hn g ≤ x) (hV : VOB Γ g9 x y [] []) (hA : AC Γ g' (d_vl D) (d_vs D ++ [x])) : PoI Γ (D.1, d_vs D ++ [x], d_es D) g' (u_vot s (s_vot s ++ [y])) := by
  obtain ⟨⟨he, ht, hs⟩, hl, ⟨c1, c2, c3, c4, c5⟩, ⟨v1, v2, v3, v4⟩, ⟨a1, a2, a3⟩, hh, hm, hj⟩ := h
  obtain ⟨⟨p1, p2⟩, ⟨_, lv2, lv3⟩, ⟨_, le2, le3⟩, ⟨_, lm2, lm3⟩, ⟨_, lc2, lc3⟩, -, ⟨kv, _⟩, ⟨bv, _⟩⟩ := id hl
  have kk : Fr [] [] [d_vl D] g g' := (k9.up (by simp) (by simp) (by simp)).tr k
  have nl : ∀ al, Co g al ≠ 640 → al ∉ [d_vl D] := fun al ha z => ha (by rw [List.mem_singleton.mp z]; exact lv2)
  have lv9 : Co g9 (d_vl D) = 640 ∧ Ow g9 (d_vl D) = d_p D := by
    have := k9.kd bv (by omega)
    exact ⟨this.2.1.trans lv2, this.2.2.1.trans lv3⟩
  have hp := PF.n
  have hvl := hW.len.1
  refine ⟨⟨kk.en he, kk.nt ht, hs.fr kk⟩, hl.fr kk, ⟨by rw [show d_p (D.1, d_vs D ++ [x], d_es D) = d_p D from rfl, kk.gi p1 (by simp) (by decide)]; exact c1, by rw [show d_p (D.1, d_vs D ++ [x], d_es D) = d_p D from rfl, kk.gi p1 (by simp) (by decide)]; exact c2, by rw [show d_p (D.1, d_vs D ++ [x], d_es D) = d_p D from rfl, kk.gi p1 (by simp) (by decide)]; exact c3, by rw [show d_p (D.1, d_vs D ++ [x], d_es D) = d_p D from rfl, kk.gi p1 (by simp) (by decide)]; exact c4, by rw [show d_p (D.1, d_vs D ++ [x], d_es D) = d_p D from rfl, kk.gi p1 (by simp) (by decide)]; exact c5⟩, ⟨hA, ?_, fun v' x' hx' => ?_, fun i j x' hi hj' => ?_⟩, ⟨a1.fr kk (nl _ (by rw [le2]; decide)) (by simp) (by simp), a2, fun e x' hx' => ?_⟩, fun e x' hx' => ?_, hm.fr kk hp (nl _ (by rw [lm2]; decide)), hj.fr kk hp he (fun al ha z => ?_)⟩
  · show (d_vs D ++ [x]).length = (s_vot s ++ [y]).length
    rw [List.length_append, List.length_append, v2]; rfl
  · have hx2 : (d_vs D ++ [x])[v']? = some x' := hx'
    rw [List.getElem?_append] at hx2
    split at hx2
    · rename_i hlt
      obtain ⟨y', L', r1, r2, r3, r4⟩ := v3 v' x' hx2
      refine ⟨y', L', ?_, r2.fr kk hp (fun al ha w => ?_), r3, r4⟩
      · show (s_vot s ++ [y])[v']? = some y'
        rw [List.getElem?_append_left (by omega)]; exact r1
      · rw [List.mem_singleton.mp ha, lv2] at w
        rcases w.2 with w | w <;> exact absurd w (by decide)
    · rename_i hlt
      have hj1 := (List.getElem?_eq_some_iff.mp hx2).1
      simp only [List.length_cons, List.length_nil] at hj1
      have e : v' = (s_vot s).length := by omega
      have e0 : v' - (d_vs D).length = 0 := by omega
      rw [e0] at hx2
      simp at hx2
      subst hx2
      have hev : evOf s v' = [] := by
        unfold evOf
        rw [List.filter_eq_nil_iff.mpr (fun p hp' => ?_)]
        · rfl
        · have hm' := List.mem_zipIdx hp'
          have hmem : p.1 ∈ s_env s := by
            rw [hm'.2.2]
            exact List.getElem_mem _
          obtain ⟨⟨w1, w2⟩, -⟩ := hW.env p.1 hmem
          rw [decide_eq_true_eq]
          intro z
          rw [z, nj_cl (by omega)] at w2
          omega
      refine ⟨y, [], ?_, ?_, fun q => ⟨fun d => ?_, ?_⟩, Nat.zero_le _⟩
      · show (s_vot s ++ [y])[v']? = some y
        rw [e, List.getElem?_append_right (Nat.le_refl _)]; simp
      · show VOB Γ g' x y [] ((evOf s v').map (fun e => (d_es D).getD e 0))
        rw [hev]
        refine hV.fr k hp (fun al ha w => ?_)
        rw [List.mem_singleton.mp ha, lv9.1] at w
        rcases w.2 with w | w <;> exact absurd w (by decide)
      · show _ = (s_mov s).foldl (sShS (nI v') d q) (y.1, -1)
        rw [fold_no (s_mov s) _ (fun z hz a => ?_)]
        · rfl
        · obtain ⟨⟨w1, w2⟩, -⟩ := hW.mov z hz
          unfold sShS
          rw [if_neg]
          rintro ⟨z', _⟩
          rw [z', nj_cl (by omega)] at w2
          omega
      · show _ = (s_boo s).foldl (boS (nI v') q) (-1)
        rw [fold_no (s_boo s) _ (fun z hz a => ?_)]
        · rfl
        · obtain ⟨⟨w1, w2⟩, -⟩ := hW.boo z hz
          unfold boS
          rw [if_neg]
          rintro ⟨z', _⟩
          rw [z', nj_cl (by omega)] at w2
          omega
  · have hi2 : (d_vs D ++ [x])[i]? = some x' := hi
    have hj2 : (d_vs D ++ [x])[j]? = some x' := hj'
    have hold : ∀ i, (d_vs D)[i]? = some x' → x' < Hn g := fun i hi => by
      obtain ⟨_, _, _, hV', _⟩ := v3 i x' hi
      exact hV'.1.1
    rw [List.getElem?_append] at hi2 hj2
    by_cases q1 : i < (d_vs D).length
    · by_cases q2 : j < (d_vs D).length
      · rw [if_pos q1] at hi2
        rw [if_pos q2] at hj2
        exact v4 i j x' hi2 hj2
      · rw [if_pos q1] at hi2
        rw [if_neg q2] at hj2
        have := hold i hi2
        have hj1 := (List.getElem?_eq_some_iff.mp hj2).1
        simp only [List.length_cons, List.length_nil] at hj1
        have e0 : j - (d_vs D).length = 0 := by omega
        rw [e0] at hj2
        simp at hj2
        omega
    · by_cases q2 : j < (d_vs D).length
      · rw [if_neg q1] at hi2
        rw [if_pos q2] at hj2
        have := hold j hj2
        have hj1 := (List.getElem?_eq_some_iff.mp hi2).1
        simp only [List.length_cons, List.length_nil] at hj1
        have e0 : i - (d_vs D).length = 0 := by omega
        rw [e0] at hi2
        simp at hi2
        omega
      · rw [if_neg q1] at hi2
        rw [if_neg q2] at hj2
        have hj1 := (List.getElem?_eq_some_iff.mp hi2).1
        have hj3 := (List.getElem?_eq_some_iff.mp hj2).1
        simp only [List.length_cons, List.length_nil] at hj1 hj3
        omega
  · obtain ⟨y', w', L', r1, r2, r3, r4, r5⟩ := a3 e x' hx'
    refine ⟨y', w', L', r1, ?_, r3.fr kk hp (fun al ha w => ?_), r4, r5⟩
    · show (d_vs D ++ [x])[y'.1.toNatClampNeg]? = some w'
      rw [List.getElem?_append_left (List.getElem?_eq_some_iff.mp r2).1]; exact r2
    · rw [List.mem_singleton.mp ha, lv2] at w
      exact absurd w.2 (by decide)
  · obtain ⟨y', w', L', r1, r2, r3, r4, r5⟩ := a3 e x' hx'
    rw [kk.gi r3.1.1 (by simp) (by decide)]
    exact hh e x' hx'
  · rw [List.mem_singleton.mp ha, lv2] at z
    exact absurd z.2 (by decide)
def Sp_PV_voter (Γ : GAM) (x : Nat) (p0 p1 p2 : Int32) (g : GH) (K : Int32 → GH → Prop) : Prop := PVC Γ x g K (fun s => p_voter s p0 p1 p2) (fun s => q_voter s p0 p1 p2)
-- the walk of PV_voter
set_option maxRecDepth 100000 in
def B_PV_voter_48 (Γ : GAM) (K : Int32 → GH → Prop)  (g : GH) : Prop :=
  K (-1 : Int32) g
set_option maxHeartbeats 4000000 in
set_option maxRecDepth 100000 in
theorem S_PV_voter_48 {Γ : GAM} {E : EV} {K : Int32 → GH → Prop} (hE : GE Γ E cX10_voter 5 RX10 (some (.int)) 7 171 (fun r g' => ∃ x, r = some (.int x) ∧ K x g'))  (g : GH) (h : B_PV_voter_48 Γ K  g) : JW Γ E 48 [none, none, none, none, none] [] g := by
  unfold B_PV_voter_48 at h
  refine j_iconst hE (by decide +kernel : decode cX10_voter 48 = .ok (.iconst (-1), 1)) (v := (-1 : Int32)) (by decide) ?_
  exact j_iret hE (by decide +kernel : decode cX10_voter 49 = .ok (.ireturn, 1)) ⟨_, rfl, h⟩
set_option maxRecDepth 100000 in
def B_PV_voter_26 (Γ : GAM) (K : Int32 → GH → Prop) (l0 : Nat) (l1 : Int32) (l2 : Int32) (l3 : Int32) (s0 : Int32) (g : GH) : Prop :=
  ((s0 = 0 → B_PV_voter_48 Γ K g) ∧ (¬ (s0 = 0) → Kd g l0 = 12 ∧ ∃ a1 : Nat, Gr g 1410 l0 = some a1 ∧ Kd g a1 = 6 ∧ ∃ a2 : Nat, Gr g 640 a1 = some a2 ∧ Kd g a2 = 1 ∧ Sp_AL_size Γ a2 g (fun (x4 : Int32) (g3 : GH) => ((x4 < (60 : Int32) → Kd g3 l0 = 12 ∧ ∃ a5 : Nat, Gr g3 1410 l0 = some a5 ∧ Kd g3 a5 = 6 ∧ ∃ a6 : Nat, Gr g3 640 a5 = some a6 ∧ Hn g3 + 1 ≤ gB Γ + NCC ∧ Hu g3 + 9 ≤ NSS ∧ ∀ (a7 : Nat) (g8 : GH), a7 = Hn g3 → g8 = nO g3 10 9 → (∀ f, Gi g3 f (Hn g3) = 0) → (∀ f, Gr g3 f (Hn g3) = none) → (∀ c, free g3 c (Hn g3)) → (∀ a, Hn g3 ≤ a → Kd g3 a = 0) → Sp_Vo_init Γ a7 l1 l2 l3 g8 (fun (g9 : GH) => Kd g9 a6 = 1 ∧ Sp_AL_add_1 Γ a6 a7 g9 (fun (x11 : Int32) (g10 : GH) => Kd g10 l0 = 12 ∧ ∃ a12 : Nat, Gr g10 1410 l0 = some a12 ∧ Kd g10 a12 = 6 ∧ ∃ a13 : Nat, Gr g10 640 a12 = some a13 ∧ Kd g10 a13 = 1 ∧ Sp_AL_size Γ a13 g10 (fun (x15 : Int32) (g14 : GH) => K (x15 - (1 : Int32)) g14)))) ∧ (¬ (x4 < (60 : Int32)) → B_PV_voter_48 Γ K g3)))))
set_option maxHeartbeats 4000000 in
set_option maxRecDepth 100000 in
theorem S_PV_voter_26 {Γ : GAM} {E : EV} {K : Int32 → GH → Prop} (hE : GE Γ E cX10_voter 5 RX10 (some (.int)) 7 171 (fun r g' => ∃ x, r = some (.int x) ∧ K x g')) (l0 : Nat) (l1 : Int32) (l2 : Int32) (l3 : Int32) (s0 : Int32) (g : GH) (h : B_PV_voter_26 Γ K l0 l1 l2 l3 s0 g) : JW Γ E 26 [some (.ref l0), some (.int l1), some (.int l2), some (.int l3), none] [.int s0] g := by
  unfold B_PV_voter_26 at h
  refine j_istore hE (by decide +kernel : decode cX10_voter 26 = .ok (.istore 4, 2)) (Nat.le_of_ble_eq_true rfl) rfl ?_
  refine j_iload hE (by decide +kernel : decode cX10_voter 28 = .ok (.iload 4, 2)) rfl ?_
  refine j_if_eq hE (by decide +kernel : decode cX10_voter 30 = .ok (.ifCond .eq 18, 3)) (tgt := 48) (by decide) (fun q => ?_) (fun q => ?_)
  · replace h := h.1 q
    refine j_weak [none, none, none, none, none] trivial ?_
    exact S_PV_voter_48 hE _ h
  · replace h := h.2 q
    refine j_aload_n hE (by decide +kernel : decode cX10_voter 33 = .ok (.aload_n 0, 1)) rfl rfl ?_
    obtain ⟨hk, h⟩ := h
    obtain ⟨a1, ha, h⟩ := h
    refine j_getRn hE fg_X10_16 hk ha (by decide +kernel : decode cX10_voter 34 = .ok (.getfield 16, 3)) ?_
    obtain ⟨hk, h⟩ := h
    obtain ⟨a2, ha, h⟩ := h
    refine j_getRn hE fg_X10_81 hk ha (by decide +kernel : decode cX10_voter 37 = .ok (.getfield 81, 3)) ?_
    obtain ⟨hk, h⟩ := h
    refine j_callV hE rfl cl_X10_84 cf_0 im_Jx4a65c_size_8abf5 se_Jx4a65c_size_8abf5 ⟨by omega, by omega⟩ (As := []) (rest := []) rfl rfl (Nat.le_of_ble_eq_true rfl) hk (by decide +kernel : decode cX10_voter 40 = .ok (.invokevirtual 84, 3)) (mt_AL_size _ _ _ h) ?_
    rintro _ g3 ⟨x4, rfl, h⟩
    refine j_bipush hE (by decide +kernel : decode cX10_voter 43 = .ok (.bipush 60, 2)) (v := (60 : Int32)) (by decide) ?_
    refine j_icmp_lt hE (by decide +kernel : decode cX10_voter 45 = .ok (.if_icmp .lt 5, 3)) (tgt := 50) (by decide) (fun q => ?_) (fun q => ?_)
    · replace h := h.1 q
      refine j_aload_n hE (by decide +kernel : decode cX10_voter 50 = .ok (.aload_n 0, 1)) rfl rfl ?_
      obtain ⟨hk, h⟩ := h
      obtain ⟨a5, ha, h⟩ := h
      refine j_getRn hE fg_X10_16 hk ha (by decide +kernel : decode cX10_voter 51 = .ok (.getfield 16, 3)) ?_
      obtain ⟨hk, h⟩ := h
      obtain ⟨a6, ha, h⟩ := h
      refine j_getRn hE fg_X10_81 hk ha (by decide +kernel : decode cX10_voter 54 = .ok (.getfield 81, 3)) ?_
      obtain ⟨hn1, hn2, h⟩ := h
      refine j_new hE cf_10 ck_X10_87 in_X9 (by decide +kernel : decode cX10_voter 57 = .ok (.new 87, 3)) hn1 hn2 (fun f1 f2 f3 f4 => ?_)
      obtain ⟨a7, ha⟩ : ∃ z, z = Hn g3 := ⟨_, rfl⟩; obtain ⟨g8, hg⟩ : ∃ z, z = nO g3 10 9 := ⟨_, rfl⟩; replace h := h a7 g8 ha hg f1 f2 f3 f4; rw [← hg, ← ha]
      refine j_dup hE (by decide +kernel : decode cX10_voter 60 = .ok (.dup, 1)) rfl ?_
      refine j_iload_n hE (by decide +kernel : decode cX10_voter 61 = .ok (.iload_n 1, 1)) rfl rfl ?_
      refine j_iload_n hE (by decide +kernel : decode cX10_voter 62 = .ok (.iload_n 2, 1)) rfl rfl ?_
      refine j_iload_n hE (by decide +kernel : decode cX10_voter 63 = .ok (.iload_n 3, 1)) rfl rfl ?_
      refine j_callI hE rfl cl_X10_89 im_X9_init rfl ⟨by omega, by omega⟩ (As := [.int l1, .int l2, .int l3]) (rest := [.ref a7, .ref a6]) (b := a7) rfl rfl (Nat.le_of_ble_eq_true rfl) (by decide +kernel : decode cX10_voter 64 = .ok (.invokespecial 89, 3)) (mt_Vo_init _ _ _ _ _ _ h) ?_
      rintro _ g9 ⟨rfl, h⟩
      obtain ⟨hk, h⟩ := h
      refine j_callV hE rfl cl_X10_92 cf_0 im_Jx4a65c_add_9ea2d se_Jx4a65c_add_9ea2d ⟨by omega, by omega⟩ (As := [.ref a7]) (rest := []) rfl rfl (Nat.le_of_ble_eq_true rfl) hk (by decide +kernel : decode cX10_voter 67 = .ok (.invokevirtual 92, 3)) (mt_AL_add_1 _ _ _ _ h) ?_
      rintro _ g10 ⟨x11, rfl, h⟩
      refine j_pop hE (by decide +kernel : decode cX10_voter 70 = .ok (.pop, 1)) rfl ?_
      refine j_aload_n hE (by decide +kernel : decode cX10_voter 71 = .ok (.aload_n 0, 1)) rfl rfl ?_
      obtain ⟨hk, h⟩ := h
      obtain ⟨a12, ha, h⟩ := h
      refine j_getRn hE fg_X10_16 hk ha (by decide +kernel : decode cX10_voter 72 = .ok (.getfield 16, 3)) ?_
      obtain ⟨hk, h⟩ := h
      obtain ⟨a13, ha, h⟩ := h
      refine j_getRn hE fg_X10_81 hk ha (by decide +kernel : decode cX10_voter 75 = .ok (.getfield 81, 3)) ?_
      obtain ⟨hk, h⟩ := h
      refine j_callV hE rfl cl_X10_84 cf_0 im_Jx4a65c_size_8abf5 se_Jx4a65c_size_8abf5 ⟨by omega, by omega⟩ (As := []) (rest := []) rfl rfl (Nat.le_of_ble_eq_true rfl) hk (by decide +kernel : decode cX10_voter 78 = .ok (.invokevirtual 84, 3)) (mt_AL_size _ _ _ h) ?_
      rintro _ g14 ⟨x15, rfl, h⟩
      refine j_iconst hE (by decide +kernel : decode cX10_voter 81 = .ok (.iconst 1, 1)) (v := (1 : Int32)) (by decide) ?_
      refine j_isub hE (by decide +kernel : decode cX10_voter 82 = .ok (.isub, 1)) ?_
      exact j_iret hE (by decide +kernel : decode cX10_voter 83 = .ok (.ireturn, 1)) ⟨_, rfl, h⟩
    · replace h := h.2 q
      refine j_weak [none, none, none, none, none] trivial ?_
      exact S_PV_voter_48 hE _ h
set_option maxRecDepth 100000 in
def B_PV_voter_25 (Γ : GAM) (K : Int32 → GH → Prop) (l0 : Nat) (l1 : Int32) (l2 : Int32) (l3 : Int32) (g : GH) : Prop :=
  B_PV_voter_26 Γ K l0 l1 l2 l3 (0 : Int32) g
set_option maxHeartbeats 4000000 in
set_option maxRecDepth 100000 in
theorem S_PV_voter_25 {Γ : GAM} {E : EV} {K : Int32 → GH → Prop} (hE : GE Γ E cX10_voter 5 RX10 (some (.int)) 7 171 (fun r g' => ∃ x, r = some (.int x) ∧ K x g')) (l0 : Nat) (l1 : Int32) (l2 : Int32) (l3 : Int32) (g : GH) (h : B_PV_voter_25 Γ K l0 l1 l2 l3 g) : JW Γ E 25 [some (.ref l0), some (.int l1), some (.int l2), some (.int l3), none] [] g := by
  unfold B_PV_voter_25 at h
  refine j_iconst hE (by decide +kernel : decode cX10_voter 25 = .ok (.iconst 0, 1)) (v := (0 : Int32)) (by decide) ?_
  exact S_PV_voter_26 hE _ _ _ _ _ _ h
set_option maxRecDepth 100000 in
def B_PV_voter_0 (Γ : GAM) (K : Int32 → GH → Prop) (th : Nat) (p0 : Int32) (p1 : Int32) (p2 : Int32) (g : GH) : Prop :=
  Sp_PV_isShire Γ p0 g (fun (x2 : Int32) (g1 : GH) => ((x2 = 0 → B_PV_voter_25 Γ K th p0 p1 p2 g1) ∧ (¬ (x2 = 0) → Sp_PV_isStreet Γ p1 g1 (fun (x4 : Int32) (g3 : GH) => ((x4 = 0 → B_PV_voter_25 Γ K th p0 p1 p2 g3) ∧ (¬ (x4 = 0) → Sp_PV_isSign Γ p2 g3 (fun (x6 : Int32) (g5 : GH) => ((x6 = 0 → B_PV_voter_25 Γ K th p0 p1 p2 g5) ∧ (¬ (x6 = 0) → B_PV_voter_26 Γ K th p0 p1 p2 (1 : Int32) g5)))))))))
set_option maxHeartbeats 4000000 in
set_option maxRecDepth 100000 in
theorem S_PV_voter_0 {Γ : GAM} {E : EV} {K : Int32 → GH → Prop} (hE : GE Γ E cX10_voter 5 RX10 (some (.int)) 7 171 (fun r g' => ∃ x, r = some (.int x) ∧ K x g')) (th : Nat) (p0 : Int32) (p1 : Int32) (p2 : Int32) (g : GH) (h : B_PV_voter_0 Γ K th p0 p1 p2 g) : JW Γ E 0 [some (.ref th), some (.int p0), some (.int p1), some (.int p2), none] [] g := by
  unfold B_PV_voter_0 at h
  refine j_iload_n hE (by decide +kernel : decode cX10_voter 0 = .ok (.iload_n 1, 1)) rfl rfl ?_
  refine j_callS hE rfl cl_X10_71 st_X10_isShire ⟨by omega, by omega⟩ (As := [.int p0]) (rest := []) rfl rfl (Nat.le_of_ble_eq_true rfl) (by decide +kernel : decode cX10_voter 1 = .ok (.invokestatic 71, 3)) (mt_PV_isShire _ _ _ h) ?_
  rintro _ g1 ⟨x2, rfl, h⟩
  refine j_if_eq hE (by decide +kernel : decode cX10_voter 4 = .ok (.ifCond .eq 21, 3)) (tgt := 25) (by decide) (fun q => ?_) (fun q => ?_)
  · replace h := h.1 q
    exact S_PV_voter_25 hE _ _ _ _ _ h
  · replace h := h.2 q
    refine j_iload_n hE (by decide +kernel : decode cX10_voter 7 = .ok (.iload_n 2, 1)) rfl rfl ?_
    refine j_callS hE rfl cl_X10_75 st_X10_isStreet ⟨by omega, by omega⟩ (As := [.int p1]) (rest := []) rfl rfl (Nat.le_of_ble_eq_true rfl) (by decide +kernel : decode cX10_voter 8 = .ok (.invokestatic 75, 3)) (mt_PV_isStreet _ _ _ h) ?_
    rintro _ g3 ⟨x4, rfl, h⟩
    refine j_if_eq hE (by decide +kernel : decode cX10_voter 11 = .ok (.ifCond .eq 14, 3)) (tgt := 25) (by decide) (fun q => ?_) (fun q => ?_)
    · replace h := h.1 q
      exact S_PV_voter_25 hE _ _ _ _ _ h
    · replace h := h.2 q
      refine j_iload_n hE (by decide +kernel : decode cX10_voter 14 = .ok (.iload_n 3, 1)) rfl rfl ?_
      refine j_callS hE rfl cl_X10_78 st_X10_isSign ⟨by omega, by omega⟩ (As := [.int p2]) (rest := []) rfl rfl (Nat.le_of_ble_eq_true rfl) (by decide +kernel : decode cX10_voter 15 = .ok (.invokestatic 78, 3)) (mt_PV_isSign _ _ _ h) ?_
      rintro _ g5 ⟨x6, rfl, h⟩
      refine j_if_eq hE (by decide +kernel : decode cX10_voter 18 = .ok (.ifCond .eq 7, 3)) (tgt := 25) (by decide) (fun q => ?_) (fun q => ?_)
      · replace h := h.1 q
        exact S_PV_voter_25 hE _ _ _ _ _ h
      · replace h := h.2 q
        refine j_iconst hE (by decide +kernel : decode cX10_voter 21 = .ok (.iconst 1, 1)) (v := (1 : Int32)) (by decide) ?_
        refine j_goto hE (by decide +kernel : decode cX10_voter 22 = .ok (.goto 4, 3)) (tgt := 26) (by decide) ?_
        exact S_PV_voter_26 hE _ _ _ _ _ _ h
set_option maxHeartbeats 4000000 in
set_option maxRecDepth 100000 in
theorem rl_PV_voter {Γ : GAM} {l : Launch} {th : Nat} {p0 : Int32} {p1 : Int32} {p2 : Int32} {g : GH} {K : Int32 → GH → Prop} (h0 : B_PV_voter_0 Γ K th p0 p1 p2 g) : MetA Γ l yX10_voter cX10_voter 5 (some (.int)) 7 171 [.ref th, .int p0, .int p1, .int p2] g (fun r g' => ∃ x, r = some (.int x) ∧ K x g') := by
  refine MetA.introL (Lx := [some (.ref th), some (.int p0), some (.int p1), some (.int p2), none]) (by decide) (Nat.le_of_ble_eq_true rfl) rfl rfl ?_
  intro E hEl hE hnm
  exact S_PV_voter_0 hE th p0 p1 p2 g h0
theorem mt_PV_voter {Γ : GAM} {l : Launch} (th : Nat) (p0 : Int32) (p1 : Int32) (p2 : Int32) (g : GH) (K : Int32 → GH → Prop) (h : Sp_PV_voter Γ th p0 p1 p2 g K) : MetA Γ l yX10_voter cX10_voter 5 (some (.int)) 7 171 [.ref th, .int p0, .int p1, .int p2] g (fun r g' => ∃ x, r = some (.int x) ∧ K x g') := by
  obtain ⟨C, s, n, rfl, hI, hW, hR, hK⟩ := PVC.e h
  have he := hI.en
  obtain ⟨hkd, ⟨h1, h2⟩, -, -, -, ⟨i1, i2⟩, hnow, hsiz⟩ := hI.pk
  have hP := hI.2.2.2.2.2.2.1
  have hlen := hW.len
  obtain ⟨q1, m2, m3⟩ := hP.2.1.2.1
  have hkm := hP.2.1.2.2.2.2.2.2.1.1
  have hlm := hP.2.1.2.2.2.2.2.2.2.1
  unfold p_voter q_voter at hK
  refine rl_PV_voter ?_
  have hno : ¬ ok_voter s p0 p1 p2 → K (-1) g := fun u => hK C g _ _ (if_neg u) (if_neg u) (FrC.rf he) rfl hI hR.dn
  have h25 : ¬ ok_voter s p0 p1 p2 → B_PV_voter_25 Γ K (c_x C) p0 p1 p2 g := fun u => by
    unfold B_PV_voter_25 B_PV_voter_26 B_PV_voter_48
    exact ⟨fun _ => hno u, fun z => absurd rfl z⟩
  have h26 : (0 ≤ p0 ∧ p0 ≤ 3) → (0 ≤ p1 ∧ p1 ≤ 9) → (0 ≤ p2 ∧ p2 ≤ 99999999) → B_PV_voter_26 Γ K (c_x C) p0 p1 p2 1 g := fun a b c => by
    unfold B_PV_voter_26 B_PV_voter_48
    refine ⟨fun z => absurd z (by decide), fun _ => ⟨hkd, _, h1, h2, _, q1, hkm, hP.vsz ?_⟩⟩
    rw [show ((60 : Int32) = nI 60) from rfl, nj_lt (by omega) (by omega)]
    have hR' := hR
    obtain ⟨r1, r2, r3⟩ := hR'
    refine ⟨fun u3 => ⟨hkd, _, h1, h2, _, q1, by omega, by omega, ?_⟩, fun u3 => hno (fun z => u3 (by have := z.1; omega))⟩
    have ok : ok_voter s p0 p1 p2 := ⟨by omega, a, b, c⟩
    rintro _ g8 rfl hg8 z1 z2 z3 z4
    have hse8 : SE Γ g8 := by
      obtain ⟨s1, s2, s3, s4⟩ := hP.1.2.2
      rw [hg8]
      exact ⟨by rw [Hn_nO]; omega, by rw [Kd_nO, if_neg (by omega)]; exact s2, s3, s4⟩
    refine ⟨⟨⟨by rw [hg8, Hn_nO]; omega, by rw [hg8, Kd_nO, if_pos rfl]⟩, ?_, hse8, by rw [hg8, Hn_nO]; omega, by rw [hg8, Hu_nO]; omega⟩, fun g9 hcn hV ⟨e1, e2⟩ => ?_⟩
    · intro F b hb hc ho
      rw [hg8] at hb hc ho
      by_cases zb : b = Hn g
      · rw [Kd_nO, if_pos zb] at hb; omega
      · rw [Kd_nO, if_neg zb] at hb
        exact z3 F b hb hc ho
    rw [hg8] at hcn e1 e2
    rw [Hn_nO] at e1
    rw [Hu_nO] at e2
    have k9 : Fr [] [] [] g g9 := hcn.fr rfl (by omega)
    have hA9 := hP.2.2.2.1.1.fr k9 (by simp) (by simp) (by simp)
    refine ⟨(k9.kd hlm (by omega)).1.trans hkm, _, hA9, hP.1.2.2.fr k9, k9.nt hP.1.2.1, fun x hx => ?_, ⟨by omega, 10, hV.1.2, by omega⟩, by rw [hP.2.2.2.1.2.1]; omega, ⟨by omega, by omega⟩, fun g' hf hA' hG => ?_⟩
    · obtain ⟨i, hi⟩ := List.getElem?_of_mem hx
      obtain ⟨_, _, _, hV', _⟩ := hP.2.2.2.1.2.2.1 i x hi
      exact isO.fr ⟨hV'.1.1, 10, hV'.1.2, by omega⟩ k9
    have hP' := hP.vot hW k9 hf (Nat.le_refl _) hV hA'
    have kk : Fr [] [] [d_vl (c_D C)] g g' := (k9.up (by simp) (by simp) (by simp)).tr hf
    obtain ⟨⟨⟨x1, x2⟩, -, ⟨l0, l1, l2, l3⟩, -⟩, a2, a3, a4, a5, a6, a7, a8⟩ := id hI
    have hc := a7.2.1.2.2.2.2.1
    have n1 : c_hl C ∉ [d_vl (c_D C)] := fun z => by
      rw [List.mem_singleton] at z
      rw [z, m2] at l2
      exact absurd l2 (by decide)
    have n2 : d_cl (c_D C) ∉ [d_vl (c_D C)] := fun z => by
      rw [List.mem_singleton] at z
      have := hc.2.1
      rw [z, m2] at this
      exact absurd this (by decide)
    obtain ⟨cs, hcs, -⟩ := id a8
    have hphi : phi (c_D C) g' = phi (c_D C) g := by unfold phi; rw [cpA.fr hcs kk n2]
    have hh := hG.hn
    have hI' : ClsI Γ (C.1, ((c_D C).1, d_vs (c_D C) ++ [Hn g], d_es (c_D C)), C.2.2) g' (u_vot s (s_vot s ++ [(p0, p1, p2)])) := hI.post kk n1 (by decide) (by decide) rfl (fun z => z) rfl (fun z => z) (fun z => z.cg rfl rfl rfl) (fun z => z) hP' (a8.fr2 kk n2 (by decide) (by decide))
    obtain ⟨kkd, ⟨k1, k2⟩, -⟩ := hI'.pk
    have qq := hP'.2.1.2.1.1
    refine ⟨kkd, _, k1, k2, _, qq, hA'.1.2, hP'.vsz ?_⟩
    rw [show nI (s_vot (u_vot s (s_vot s ++ [(p0, p1, p2)]))).length - 1 = nI (s_vot s).length from by
      show nI (s_vot s ++ [(p0, p1, p2)]).length - 1 = _
      rw [List.length_append]; exact nj_sub (b := 1) (by simp)]
    exact hK (C.1, ((c_D C).1, d_vs (c_D C) ++ [Hn g], d_es (c_D C)), C.2.2) g' _ _ (if_pos ok) (if_pos ok) (FrC.of kk (by simp) (by simp)) rfl hI' (hR.up (by show phi (c_D C) g' ≤ _; rw [hphi]; exact Nat.le_refl _) (by omega) (by omega) (by show (s_evt s).length + (s_rea s).length + (s_tel s).length ≤ _; omega))
  unfold B_PV_voter_0
  exact pv_ite (fun u => h25 (fun z => u z.2.1)) (fun u => pv_ite (fun u2 => h25 (fun z => u2 z.2.2.1)) (fun u2 => pv_ite (fun u3 => h25 (fun z => u3 z.2.2.2)) (fun u3 => h26 u u2 u3)))
