/-! the class: an envelope; what it learns -/
def E2 (m : Nat) (g : GH) : Prop := Kd g m = 2 ∧ (∃ a, Gr g 135 m = some a ∧ Kd g a = 20 ∧ Co g a = 135 ∧ Ow g a = m ∧ Ln g a = 16) ∧ ∃ b, Gr g 136 m = some b ∧ Kd g b = 20 ∧ Co g b = 136 ∧ Ow g b = m ∧ Ln g b = 16
theorem E2.x {m : Nat} {g g' : GH} {fs cs : List Nat} (h : E2 m g) (hx : FrX m fs cs g g') : E2 m g' := by
  obtain ⟨⟨x1, x2, x3, x4, x5, x6, x7, x8, x9, x10, x11, x12⟩, _, _⟩ := hx
  unfold E2 at h ⊢
  rw [x2, x6, x7, x8, x9]
  exact h
theorem LOG.y {Γ : GAM} {m : Nat} {g g' : GH} {al : Nat} {L : List Tl} {fs cs : List Nat} (h : LOG Γ g al L) (hx : FrX m fs cs g g') (hm : Kd g m ≠ 1 ∧ Kd g m ≠ 9) : LOG Γ g' al L := by
  obtain ⟨xs, ⟨⟨h1, h1'⟩, h2, h3, d, ⟨h4, h5, h6⟩, h7, h8, h9, h10⟩, k2, k3⟩ := h
  obtain ⟨⟨x1, x2, x3, x4, x5, x6, x7, x8, x9, x10, x11, x12⟩, y1, y2⟩ := hx
  refine ⟨xs, ⟨⟨by rw [x11]; exact h1, by rw [x6]; exact h1'⟩, by rw [x1 2 al (fun e => by rw [e] at h1'; exact hm.1 h1')]; exact h2, h3, d, ⟨by rw [x2]; exact h4, by rw [x11]; exact h5, by rw [x6]; exact h6⟩, by rw [x9]; exact h7, by rw [x9]; exact h8, ?_, fun i x hi => by rw [x4]; exact h10 i x hi⟩, k2, fun i x y hi hy => ?_⟩
  · unfold free at h9 ⊢
    rw [x6, x7, x8, x9]; exact h9
  · obtain ⟨⟨t0, t0'⟩, t1, t2, t3, t4⟩ := k3 i x y hi hy
    have hne : x ≠ m := fun e => by rw [e] at t0'; exact hm.2 t0'
    exact ⟨⟨by rw [x11]; exact t0, by rw [x6]; exact t0'⟩, by rw [x1 _ _ hne]; exact t1, by rw [x1 _ _ hne]; exact t2, by rw [x1 _ _ hne]; exact t3, by rw [x1 _ _ hne]; exact t4⟩
/-- all is forgotten -/
def EN0 (m : Nat) (g : GH) : Prop := Gi g 137 m = -1 ∧ Gi g 138 m = -1 ∧ Gi g 139 m = 0 ∧ Gi g 140 m = -1 ∧ Gi g 141 m = -1 ∧ Gi g 142 m = -1
def Sp_En_forget (Γ : GAM) (m : Nat) (g : GH) (K : GH → Prop) : Prop := E2 m g ∧ ∀ g', FrX m [137, 138, 139, 140, 141, 142] [135, 136] g g' → (∀ k, k < 16 → Ia g' 135 m k = -1 ∧ Ia g' 136 m k = -1) → EN0 m g' → K g'
-- the walk of En_forget
set_option maxRecDepth 100000 in
def B_En_forget_0 (Γ : GAM) (K : GH → Prop) (th : Nat) (g : GH) : Prop :=
  Kd g th = 2 ∧ ∃ a1 : Nat, Gr g 135 th = some a1 ∧ Sp_Arrays_fill Γ a1 (-1 : Int32) g (fun (g2 : GH) => Kd g2 th = 2 ∧ ∃ a3 : Nat, Gr g2 136 th = some a3 ∧ Sp_Arrays_fill Γ a3 (-1 : Int32) g2 (fun (g4 : GH) => Kd g4 th = 2 ∧ ∀ g5 : GH, g5 = sI g4 137 th (-1 : Int32) → Kd g5 th = 2 ∧ ∀ g6 : GH, g6 = sI g5 138 th (-1 : Int32) → Kd g6 th = 2 ∧ ∀ g7 : GH, g7 = sI g6 139 th (0 : Int32) → Kd g7 th = 2 ∧ ∀ g8 : GH, g8 = sI g7 140 th (-1 : Int32) → Kd g8 th = 2 ∧ ∀ g9 : GH, g9 = sI g8 141 th (-1 : Int32) → Kd g9 th = 2 ∧ ∀ g10 : GH, g10 = sI g9 142 th (-1 : Int32) → K g10))
set_option maxHeartbeats 4000000 in
set_option maxRecDepth 100000 in
theorem S_En_forget_0 {Γ : GAM} {E : EV} {K : GH → Prop} (hE : GE Γ E cX0_forget 1 RX0 none 1 23 (fun r g' => r = none ∧ K g')) (th : Nat) (g : GH) (h : B_En_forget_0 Γ K th g) : JW Γ E 0 [some (.ref th)] [] g := by
  unfold B_En_forget_0 at h
  refine j_aload_n hE (by decide +kernel : decode cX0_forget 0 = .ok (.aload_n 0, 1)) rfl rfl ?_
  obtain ⟨hk, h⟩ := h
  obtain ⟨a1, ha, h⟩ := h
  refine j_getRn hE fg_X0_22 hk ha (by decide +kernel : decode cX0_forget 1 = .ok (.getfield 22, 3)) ?_
  refine j_iconst hE (by decide +kernel : decode cX0_forget 4 = .ok (.iconst (-1), 1)) (v := (-1 : Int32)) (by decide) ?_
  refine j_callS hE rfl cl_X0_60 st_J7_fill_53178 ⟨by omega, by omega⟩ (As := [.ref a1, .int (-1 : Int32)]) (rest := []) rfl rfl (Nat.le_of_ble_eq_true rfl) (by decide +kernel : decode cX0_forget 5 = .ok (.invokestatic 60, 3)) (mt_Arrays_fill _ _ _ _ h) ?_
  rintro _ g2 ⟨rfl, h⟩
  refine j_aload_n hE (by decide +kernel : decode cX0_forget 8 = .ok (.aload_n 0, 1)) rfl rfl ?_
  obtain ⟨hk, h⟩ := h
  obtain ⟨a3, ha, h⟩ := h
  refine j_getRn hE fg_X0_26 hk ha (by decide +kernel : decode cX0_forget 9 = .ok (.getfield 26, 3)) ?_
  refine j_iconst hE (by decide +kernel : decode cX0_forget 12 = .ok (.iconst (-1), 1)) (v := (-1 : Int32)) (by decide) ?_
  refine j_callS hE rfl cl_X0_60 st_J7_fill_53178 ⟨by omega, by omega⟩ (As := [.ref a3, .int (-1 : Int32)]) (rest := []) rfl rfl (Nat.le_of_ble_eq_true rfl) (by decide +kernel : decode cX0_forget 13 = .ok (.invokestatic 60, 3)) (mt_Arrays_fill _ _ _ _ h) ?_
  rintro _ g4 ⟨rfl, h⟩
  refine j_aload_n hE (by decide +kernel : decode cX0_forget 16 = .ok (.aload_n 0, 1)) rfl rfl ?_
  refine j_iconst hE (by decide +kernel : decode cX0_forget 17 = .ok (.iconst (-1), 1)) (v := (-1 : Int32)) (by decide) ?_
  obtain ⟨hk, h⟩ := h
  obtain ⟨g5, hg⟩ : ∃ z, z = sI g4 137 th (-1 : Int32) := ⟨_, rfl⟩; replace h := h g5 hg
  refine j_putI hE fa_X0_29 hk (fun q => by cases q) (by decide +kernel : decode cX0_forget 18 = .ok (.putfield 29, 3)) ?_
  rw [← hg]
  refine j_aload_n hE (by decide +kernel : decode cX0_forget 21 = .ok (.aload_n 0, 1)) rfl rfl ?_
  refine j_iconst hE (by decide +kernel : decode cX0_forget 22 = .ok (.iconst (-1), 1)) (v := (-1 : Int32)) (by decide) ?_
  obtain ⟨hk, h⟩ := h
  obtain ⟨g6, hg⟩ : ∃ z, z = sI g5 138 th (-1 : Int32) := ⟨_, rfl⟩; replace h := h g6 hg
  refine j_putI hE fa_X0_32 hk (fun q => by cases q) (by decide +kernel : decode cX0_forget 23 = .ok (.putfield 32, 3)) ?_
  rw [← hg]
  refine j_aload_n hE (by decide +kernel : decode cX0_forget 26 = .ok (.aload_n 0, 1)) rfl rfl ?_
  refine j_iconst hE (by decide +kernel : decode cX0_forget 27 = .ok (.iconst 0, 1)) (v := (0 : Int32)) (by decide) ?_
  obtain ⟨hk, h⟩ := h
  obtain ⟨g7, hg⟩ : ∃ z, z = sI g6 139 th (0 : Int32) := ⟨_, rfl⟩; replace h := h g7 hg
  refine j_putI hE fa_X0_66 hk (fun q => by cases q) (by decide +kernel : decode cX0_forget 28 = .ok (.putfield 66, 3)) ?_
  rw [← hg]
  refine j_aload_n hE (by decide +kernel : decode cX0_forget 31 = .ok (.aload_n 0, 1)) rfl rfl ?_
  refine j_iconst hE (by decide +kernel : decode cX0_forget 32 = .ok (.iconst (-1), 1)) (v := (-1 : Int32)) (by decide) ?_
  obtain ⟨hk, h⟩ := h
  obtain ⟨g8, hg⟩ : ∃ z, z = sI g7 140 th (-1 : Int32) := ⟨_, rfl⟩; replace h := h g8 hg
  refine j_putI hE fa_X0_35 hk (fun q => by cases q) (by decide +kernel : decode cX0_forget 33 = .ok (.putfield 35, 3)) ?_
  rw [← hg]
  refine j_aload_n hE (by decide +kernel : decode cX0_forget 36 = .ok (.aload_n 0, 1)) rfl rfl ?_
  refine j_iconst hE (by decide +kernel : decode cX0_forget 37 = .ok (.iconst (-1), 1)) (v := (-1 : Int32)) (by decide) ?_
  obtain ⟨hk, h⟩ := h
  obtain ⟨g9, hg⟩ : ∃ z, z = sI g8 141 th (-1 : Int32) := ⟨_, rfl⟩; replace h := h g9 hg
  refine j_putI hE fa_X0_38 hk (fun q => by cases q) (by decide +kernel : decode cX0_forget 38 = .ok (.putfield 38, 3)) ?_
  rw [← hg]
  refine j_aload_n hE (by decide +kernel : decode cX0_forget 41 = .ok (.aload_n 0, 1)) rfl rfl ?_
  refine j_iconst hE (by decide +kernel : decode cX0_forget 42 = .ok (.iconst (-1), 1)) (v := (-1 : Int32)) (by decide) ?_
  obtain ⟨hk, h⟩ := h
  obtain ⟨g10, hg⟩ : ∃ z, z = sI g9 142 th (-1 : Int32) := ⟨_, rfl⟩; replace h := h g10 hg
  refine j_putI hE fa_X0_41 hk (fun q => by cases q) (by decide +kernel : decode cX0_forget 43 = .ok (.putfield 41, 3)) ?_
  rw [← hg]
  exact j_vret hE (by decide +kernel : decode cX0_forget 46 = .ok (.return_, 1)) ⟨rfl, h⟩
set_option maxHeartbeats 4000000 in
set_option maxRecDepth 100000 in
theorem rl_En_forget {Γ : GAM} {l : Launch} {th : Nat} {g : GH} {K : GH → Prop} (h0 : B_En_forget_0 Γ K th g) : MetA Γ l yX0_forget cX0_forget 1 none 1 23 [.ref th] g (fun r g' => r = none ∧ K g') := by
  refine MetA.introL (Lx := [some (.ref th)]) (by decide) (Nat.le_of_ble_eq_true rfl) rfl rfl ?_
  intro E hEl hE hnm
  exact S_En_forget_0 hE th g h0
theorem mt_En_forget {Γ : GAM} {l : Launch} (th : Nat) (g : GH) (K : GH → Prop) (h : Sp_En_forget Γ th g K) : MetA Γ l yX0_forget cX0_forget 1 none 1 23 [.ref th] g (fun r g' => r = none ∧ K g') := by
  obtain ⟨⟨hkd, ⟨a, a1, a2, a3, a4, a5⟩, b, b1, b2, b3, b4, b5⟩, hK⟩ := h
  refine rl_En_forget ?_
  unfold B_En_forget_0
  refine ⟨hkd, a, a1, a2, by rw [a5]; decide, ?_⟩
  rw [a3, a4, a5]
  refine ⟨hkd, b, b1, b2, by show Ln g b < _; rw [b5]; decide, ?_⟩
  rw [Co_sAf, Ow_sAf, Ln_sAf, b3, b4, b5]
  refine ⟨hkd, ?_⟩
  rintro _ rfl
  refine ⟨hkd, ?_⟩
  rintro _ rfl
  refine ⟨hkd, ?_⟩
  rintro _ rfl
  refine ⟨hkd, ?_⟩
  rintro _ rfl
  refine ⟨hkd, ?_⟩
  rintro _ rfl
  refine ⟨hkd, ?_⟩
  rintro _ rfl
  refine hK _ ((FrX.sAf' (by decide)).tr ((FrX.sAf' (by decide)).tr ((FrX.sI (by decide)).tr ((FrX.sI (by decide)).tr ((FrX.sI (by decide)).tr ((FrX.sI (by decide)).tr ((FrX.sI (by decide)).tr (FrX.sI (by decide))))))))) (fun k hk => ⟨?_, ?_⟩) ?_
  · rw [Ia_sI, Ia_sI, Ia_sI, Ia_sI, Ia_sI, Ia_sI, Ia_sAf, if_neg (fun z => absurd z.1 (by decide)), Ia_sAf, if_pos ⟨rfl, rfl⟩, if_pos hk]
  · rw [Ia_sI, Ia_sI, Ia_sI, Ia_sI, Ia_sI, Ia_sI, Ia_sAf, if_pos ⟨rfl, rfl⟩, if_pos hk]
  · unfold EN0
    simp [Gi_sI]
/-- what an envelope knows of a kind: its last day and value -/
def lD (q : Int32) (k : Nat) (a : Int32 × Int32) (y : Tl) : Int32 × Int32 := if y.2.2.2 ≤ q ∧ y.1 = nI k then (y.2.1, y.2.2.1) else a
def Sp_En_learn (Γ : GAM) (m : Nat) (q : Int32) (g : GH) (K : GH → Prop) : Prop := ∃ al L, E2 m g ∧ Gr g 133 m = some al ∧ LOG Γ g al L ∧ ∀ g', FrX m [137, 138, 139, 140, 141, 142] [135, 136] g g' → (∀ k, k < 16 → (Ia g' 135 m k, Ia g' 136 m k) = L.foldl (lD q k) (-1, -1)) → EN0 m g' → K g'
-- the walk of En_learn
set_option maxRecDepth 100000 in
def B_En_learn_76 (Γ : GAM) (K6 : Nat → Int32 → Int32 → GH → Prop) (K : GH → Prop) (l0 : Nat) (l1 : Int32) (l2 : Int32) (g : GH) : Prop :=
  K6 l0 l1 (l2 + (1 : Int32)) g
set_option maxHeartbeats 4000000 in
set_option maxRecDepth 100000 in
theorem S_En_learn_76 {Γ : GAM} {E : EV} {K : GH → Prop} (hE : GE Γ E cX0_learn 4 RX0 none 3 64 (fun r g' => r = none ∧ K g')) {K6 : Nat → Int32 → Int32 → GH → Prop} (hK6 : ∀ (l0 : Nat) (l1 : Int32) (l2 : Int32) (g : GH), K6 l0 l1 l2 g → JW Γ E 6 [some (.ref l0), some (.int l1), some (.int l2), none] [] g) (l0 : Nat) (l1 : Int32) (l2 : Int32) (g : GH) (h : B_En_learn_76 Γ K6 K l0 l1 l2 g) : JW Γ E 76 [some (.ref l0), some (.int l1), some (.int l2), none] [] g := by
  unfold B_En_learn_76 at h
  refine j_iinc hE (by decide +kernel : decode cX0_learn 76 = .ok (.iinc 2 1, 3)) (v := (1 : Int32)) (by decide) rfl (Nat.le_of_ble_eq_true rfl) rfl ?_
  refine j_goto hE (by decide +kernel : decode cX0_learn 79 = .ok (.goto (-73), 3)) (tgt := 6) (by decide) ?_
  exact hK6 _ _ _ _ h
set_option maxRecDepth 100000 in
def B_En_learn_6 (Γ : GAM) (K6 : Nat → Int32 → Int32 → GH → Prop) (K : GH → Prop) (l0 : Nat) (l1 : Int32) (l2 : Int32) (g : GH) : Prop :=
  Kd g l0 = 2 ∧ ∃ a1 : Nat, Gr g 133 l0 = some a1 ∧ Kd g a1 = 1 ∧ Sp_AL_size Γ a1 g (fun (x3 : Int32) (g2 : GH) => ((x3 ≤ l2 → K g2) ∧ (¬ (x3 ≤ l2) → Kd g2 l0 = 2 ∧ ∃ a4 : Nat, Gr g2 133 l0 = some a4 ∧ Kd g2 a4 = 1 ∧ Sp_AL_get Γ a4 l2 g2 (fun (a6 : Nat) (g5 : GH) => Kd g5 a6 = 9 ∧ Kd g5 a6 = 9 ∧ ((l1 < (Gi g5 1027 a6) → B_En_learn_76 Γ K6 K l0 l1 l2 g5) ∧ (¬ (l1 < (Gi g5 1027 a6)) → Kd g5 a6 = 9 ∧ Sp_PV_isWithin Γ (Gi g5 1024 a6) (0 : Int32) (15 : Int32) g5 (fun (x8 : Int32) (g7 : GH) => ((x8 = 0 → B_En_learn_76 Γ K6 K l0 l1 l2 g7) ∧ (¬ (x8 = 0) → Kd g7 l0 = 2 ∧ ∃ a9 : Nat, Gr g7 135 l0 = some a9 ∧ Kd g7 a6 = 9 ∧ Kd g7 a6 = 9 ∧ Kd g7 a9 = 20 ∧ inB (Gi g7 1024 a6) (Ln g7 a9) ∧ ∀ g10 : GH, g10 = sA g7 (Co g7 a9) (Ow g7 a9) (Gi g7 1024 a6).toNatClampNeg (Gi g7 1025 a6) → Kd g10 l0 = 2 ∧ ∃ a11 : Nat, Gr g10 136 l0 = some a11 ∧ Kd g10 a6 = 9 ∧ Kd g10 a6 = 9 ∧ Kd g10 a11 = 20 ∧ inB (Gi g10 1024 a6) (Ln g10 a11) ∧ ∀ g12 : GH, g12 = sA g10 (Co g10 a11) (Ow g10 a11) (Gi g10 1024 a6).toNatClampNeg (Gi g10 1026 a6) → B_En_learn_76 Γ K6 K l0 l1 l2 g12)))))))))
set_option maxHeartbeats 4000000 in
set_option maxRecDepth 100000 in
theorem S_En_learn_6 {Γ : GAM} {E : EV} {K : GH → Prop} (hE : GE Γ E cX0_learn 4 RX0 none 3 64 (fun r g' => r = none ∧ K g')) {K6 : Nat → Int32 → Int32 → GH → Prop} (hK6 : ∀ (l0 : Nat) (l1 : Int32) (l2 : Int32) (g : GH), K6 l0 l1 l2 g → JW Γ E 6 [some (.ref l0), some (.int l1), some (.int l2), none] [] g) (l0 : Nat) (l1 : Int32) (l2 : Int32) (g : GH) (h : B_En_learn_6 Γ K6 K l0 l1 l2 g) : JW Γ E 6 [some (.ref l0), some (.int l1), some (.int l2), none] [] g := by
  unfold B_En_learn_6 at h
  refine j_iload_n hE (by decide +kernel : decode cX0_learn 6 = .ok (.iload_n 2, 1)) rfl rfl ?_
  refine j_aload_n hE (by decide +kernel : decode cX0_learn 7 = .ok (.aload_n 0, 1)) rfl rfl ?_
  obtain ⟨hk, h⟩ := h
  obtain ⟨a1, ha, h⟩ := h
  refine j_getRn hE fg_X0_12 hk ha (by decide +kernel : decode cX0_learn 8 = .ok (.getfield 12, 3)) ?_
  obtain ⟨hk, h⟩ := h
  refine j_callV hE rfl cl_X0_72 cf_0 im_Jx4a65c_size_8abf5 se_Jx4a65c_size_8abf5 ⟨by omega, by omega⟩ (As := []) (rest := [.int l2]) rfl rfl (Nat.le_of_ble_eq_true rfl) hk (by decide +kernel : decode cX0_learn 11 = .ok (.invokevirtual 72, 3)) (mt_AL_size _ _ _ h) ?_
  rintro _ g2 ⟨x3, rfl, h⟩
  refine j_icmp_ge hE (by decide +kernel : decode cX0_learn 14 = .ok (.if_icmp .ge 68, 3)) (tgt := 82) (by decide) (fun q => ?_) (fun q => ?_)
  · replace h := h.1 q
    exact j_vret hE (by decide +kernel : decode cX0_learn 82 = .ok (.return_, 1)) ⟨rfl, h⟩
  · replace h := h.2 q
    refine j_aload_n hE (by decide +kernel : decode cX0_learn 17 = .ok (.aload_n 0, 1)) rfl rfl ?_
    obtain ⟨hk, h⟩ := h
    obtain ⟨a4, ha, h⟩ := h
    refine j_getRn hE fg_X0_12 hk ha (by decide +kernel : decode cX0_learn 18 = .ok (.getfield 12, 3)) ?_
    refine j_iload_n hE (by decide +kernel : decode cX0_learn 21 = .ok (.iload_n 2, 1)) rfl rfl ?_
    obtain ⟨hk, h⟩ := h
    refine j_callV hE rfl cl_X0_76 cf_0 im_Jx4a65c_get_915e3 se_Jx4a65c_get_915e3 ⟨by omega, by omega⟩ (As := [.int l2]) (rest := []) rfl rfl (Nat.le_of_ble_eq_true rfl) hk (by decide +kernel : decode cX0_learn 22 = .ok (.invokevirtual 76, 3)) (mt_AL_get _ _ _ _ h) ?_
    rintro _ g5 ⟨a6, rfl, h⟩
    obtain ⟨hk, h⟩ := h
    refine j_cast hE cf_8 ck_X0_80 hk (by decide +kernel : decode cX0_learn 25 = .ok (.checkcast 80, 3)) ?_
    refine j_astore_n hE (by decide +kernel : decode cX0_learn 28 = .ok (.astore_n 3, 1)) rfl (Nat.le_of_ble_eq_true rfl) rfl ?_
    refine j_aload_n hE (by decide +kernel : decode cX0_learn 29 = .ok (.aload_n 3, 1)) rfl rfl ?_
    obtain ⟨hk, h⟩ := h
    refine j_getI hE fg_X0_82 hk (by decide +kernel : decode cX0_learn 30 = .ok (.getfield 82, 3)) ?_
    refine j_iload_n hE (by decide +kernel : decode cX0_learn 33 = .ok (.iload_n 1, 1)) rfl rfl ?_
    refine j_icmp_gt hE (by decide +kernel : decode cX0_learn 34 = .ok (.if_icmp .gt 42, 3)) (tgt := 76) (by decide) (fun q => ?_) (fun q => ?_)
    · replace h := h.1 q
      refine j_weak [some (.ref l0), some (.int l1), some (.int l2), none] ⟨rfl, ⟨rfl, ⟨rfl, trivial⟩⟩⟩ ?_
      exact S_En_learn_76 hE hK6 _ _ _ _ h
    · replace h := h.2 q
      refine j_aload_n hE (by decide +kernel : decode cX0_learn 37 = .ok (.aload_n 3, 1)) rfl rfl ?_
      obtain ⟨hk, h⟩ := h
      refine j_getI hE fg_X0_83 hk (by decide +kernel : decode cX0_learn 38 = .ok (.getfield 83, 3)) ?_
      refine j_iconst hE (by decide +kernel : decode cX0_learn 41 = .ok (.iconst 0, 1)) (v := (0 : Int32)) (by decide) ?_
      refine j_bipush hE (by decide +kernel : decode cX0_learn 42 = .ok (.bipush 15, 2)) (v := (15 : Int32)) (by decide) ?_
      refine j_callSN hE rfl cl_X0_86 st_X10_isWithin ⟨by omega, by omega⟩ (As := [.int (Gi g5 1024 a6), .int (0 : Int32), .int (15 : Int32)]) (rest := []) rfl rfl (Nat.le_of_ble_eq_true rfl) (by decide +kernel : decode cX0_learn 44 = .ok (.invokestatic 86, 3)) (mt_PV_isWithin _ _ _ _ _ h) ?_
      rintro _ g7 ⟨x8, rfl, h⟩
      refine j_if_eq hE (by decide +kernel : decode cX0_learn 47 = .ok (.ifCond .eq 29, 3)) (tgt := 76) (by decide) (fun q => ?_) (fun q => ?_)
      · replace h := h.1 q
        refine j_weak [some (.ref l0), some (.int l1), some (.int l2), none] ⟨rfl, ⟨rfl, ⟨rfl, trivial⟩⟩⟩ ?_
        exact S_En_learn_76 hE hK6 _ _ _ _ h
      · replace h := h.2 q
        refine j_aload_n hE (by decide +kernel : decode cX0_learn 50 = .ok (.aload_n 0, 1)) rfl rfl ?_
        obtain ⟨hk, h⟩ := h
        obtain ⟨a9, ha, h⟩ := h
        refine j_getRn hE fg_X0_22 hk ha (by decide +kernel : decode cX0_learn 51 = .ok (.getfield 22, 3)) ?_
        refine j_aload_n hE (by decide +kernel : decode cX0_learn 54 = .ok (.aload_n 3, 1)) rfl rfl ?_
        obtain ⟨hk, h⟩ := h
        refine j_getI hE fg_X0_83 hk (by decide +kernel : decode cX0_learn 55 = .ok (.getfield 83, 3)) ?_
        refine j_aload_n hE (by decide +kernel : decode cX0_learn 58 = .ok (.aload_n 3, 1)) rfl rfl ?_
        obtain ⟨hk, h⟩ := h
        refine j_getI hE fg_X0_90 hk (by decide +kernel : decode cX0_learn 59 = .ok (.getfield 90, 3)) ?_
        obtain ⟨hk, hb, h⟩ := h
        obtain ⟨g10, hg⟩ : ∃ z, z = sA g7 (Co g7 a9) (Ow g7 a9) (Gi g7 1024 a6).toNatClampNeg (Gi g7 1025 a6) := ⟨_, rfl⟩; replace h := h g10 hg
        refine j_iast hE hk hb (by decide +kernel : decode cX0_learn 62 = .ok (.iastore, 1)) ?_
        rw [← hg]
        refine j_aload_n hE (by decide +kernel : decode cX0_learn 63 = .ok (.aload_n 0, 1)) rfl rfl ?_
        obtain ⟨hk, h⟩ := h
        obtain ⟨a11, ha, h⟩ := h
        refine j_getRn hE fg_X0_26 hk ha (by decide +kernel : decode cX0_learn 64 = .ok (.getfield 26, 3)) ?_
        refine j_aload_n hE (by decide +kernel : decode cX0_learn 67 = .ok (.aload_n 3, 1)) rfl rfl ?_
        obtain ⟨hk, h⟩ := h
        refine j_getI hE fg_X0_83 hk (by decide +kernel : decode cX0_learn 68 = .ok (.getfield 83, 3)) ?_
        refine j_aload_n hE (by decide +kernel : decode cX0_learn 71 = .ok (.aload_n 3, 1)) rfl rfl ?_
        obtain ⟨hk, h⟩ := h
        refine j_getI hE fg_X0_93 hk (by decide +kernel : decode cX0_learn 72 = .ok (.getfield 93, 3)) ?_
        obtain ⟨hk, hb, h⟩ := h
        obtain ⟨g12, hg⟩ : ∃ z, z = sA g10 (Co g10 a11) (Ow g10 a11) (Gi g10 1024 a6).toNatClampNeg (Gi g10 1026 a6) := ⟨_, rfl⟩; replace h := h g12 hg
        refine j_iast hE hk hb (by decide +kernel : decode cX0_learn 75 = .ok (.iastore, 1)) ?_
        rw [← hg]
        refine j_weak [some (.ref l0), some (.int l1), some (.int l2), none] ⟨rfl, ⟨rfl, ⟨rfl, trivial⟩⟩⟩ ?_
        exact S_En_learn_76 hE hK6 _ _ _ _ h
set_option maxRecDepth 100000 in
def B_En_learn_0 (Γ : GAM) (K6 : Nat → Int32 → Int32 → GH → Prop) (K : GH → Prop) (th : Nat) (p0 : Int32) (g : GH) : Prop :=
  Kd g th = 2 ∧ Sp_En_forget Γ th g (fun (g1 : GH) => K6 th p0 (0 : Int32) g1)
set_option maxHeartbeats 4000000 in
set_option maxRecDepth 100000 in
theorem S_En_learn_0 {Γ : GAM} {E : EV} {K : GH → Prop} (hE : GE Γ E cX0_learn 4 RX0 none 3 64 (fun r g' => r = none ∧ K g')) {K6 : Nat → Int32 → Int32 → GH → Prop} (hK6 : ∀ (l0 : Nat) (l1 : Int32) (l2 : Int32) (g : GH), K6 l0 l1 l2 g → JW Γ E 6 [some (.ref l0), some (.int l1), some (.int l2), none] [] g) (th : Nat) (p0 : Int32) (g : GH) (h : B_En_learn_0 Γ K6 K th p0 g) : JW Γ E 0 [some (.ref th), some (.int p0), none, none] [] g := by
  unfold B_En_learn_0 at h
  refine j_aload_n hE (by decide +kernel : decode cX0_learn 0 = .ok (.aload_n 0, 1)) rfl rfl ?_
  obtain ⟨hk, h⟩ := h
  refine j_callV hE rfl cl_X0_69 cf_1 im_X0_forget se_X0_forget ⟨by omega, by omega⟩ (As := []) (rest := []) rfl rfl (Nat.le_of_ble_eq_true rfl) hk (by decide +kernel : decode cX0_learn 1 = .ok (.invokevirtual 69, 3)) (mt_En_forget _ _ _ h) ?_
  rintro _ g1 ⟨rfl, h⟩
  refine j_iconst hE (by decide +kernel : decode cX0_learn 4 = .ok (.iconst 0, 1)) (v := (0 : Int32)) (by decide) ?_
  refine j_istore_n hE (by decide +kernel : decode cX0_learn 5 = .ok (.istore_n 2, 1)) rfl (Nat.le_of_ble_eq_true rfl) rfl ?_
  exact hK6 _ _ _ _ h
set_option maxHeartbeats 4000000 in
set_option maxRecDepth 100000 in
theorem rl_En_learn {Γ : GAM} {l : Launch} {th : Nat} {p0 : Int32} {g : GH} {K : GH → Prop} (I6 : Nat → Nat → Int32 → Int32 → GH → Prop) (hh6 : ∀ n (l0 : Nat) (l1 : Int32) (l2 : Int32) (g : GH), I6 n l0 l1 l2 g → B_En_learn_6 Γ (fun l0 l1 l2 g => ∃ m, m < n ∧ I6 m l0 l1 l2 g) K l0 l1 l2 g) (h0 : B_En_learn_0 Γ (fun l0 l1 l2 g => ∃ m, I6 m l0 l1 l2 g) K th p0 g) : MetA Γ l yX0_learn cX0_learn 4 none 3 64 [.ref th, .int p0] g (fun r g' => r = none ∧ K g') := by
  refine MetA.introL (Lx := [some (.ref th), some (.int p0), none, none]) (by decide) (Nat.le_of_ble_eq_true rfl) rfl rfl ?_
  intro E hEl hE hnm
  have hall : ∀ n, (∀ (l0 : Nat) (l1 : Int32) (l2 : Int32) (g : GH), I6 n l0 l1 l2 g → JW Γ E 6 [some (.ref l0), some (.int l1), some (.int l2), none] [] g) := by
    intro n
    induction n using Nat.strongRecOn with
    | ind n ih =>
      exact fun l0 l1 l2 g hi => S_En_learn_6 hE (fun l0 l1 l2 g hm => by obtain ⟨m, hm, h⟩ := hm; exact (ih m hm) l0 l1 l2 g h) l0 l1 l2 g (hh6 n l0 l1 l2 g hi)
  exact S_En_learn_0 hE (fun l0 l1 l2 g hm => by obtain ⟨m, h⟩ := hm; exact (hall m) l0 l1 l2 g h) th p0 g h0
theorem mt_En_learn {Γ : GAM} {l : Launch} (th : Nat) (p0 : Int32) (g : GH) (K : GH → Prop) (h : Sp_En_learn Γ th p0 g K) : MetA Γ l yX0_learn cX0_learn 4 none 3 64 [.ref th, .int p0] g (fun r g' => r = none ∧ K g') := by
  obtain ⟨al, L, hE, hal, hL, hK⟩ := h
  have hlen := hL.len
  have hkm : Kd g th ≠ 1 ∧ Kd g th ≠ 9 := by have := hE.1; omega
  refine rl_En_learn (fun n l0 l1 l2 g' => th = l0 ∧ p0 = l1 ∧ ∃ k, k ≤ L.length ∧ n = L.length - k ∧ l2 = nI k ∧ FrX th [137, 138, 139, 140, 141, 142] [135, 136] g g' ∧ EN0 th g' ∧ ∀ c, c < 16 → (Ia g' 135 th c, Ia g' 136 th c) = (L.take k).foldl (lD p0 c) (-1, -1)) ?_ ?_
  · rintro n l0 l1 l2 g' ⟨rfl, rfl, k, hk, rfl, rfl, hfx, h0, hf⟩
    have hE' := hE.x hfx
    have hkd' := hE'.1
    have hal' : Gr g' 133 th = some al := by rw [hfx.1.2.1]; exact hal
    have hL' := hL.y hfx hkm
    suffices H : ∀ K6 : Nat → Int32 → Int32 → GH → Prop, (∀ g2 y, L[k]? = some y → FrX th [137, 138, 139, 140, 141, 142] [135, 136] g g2 → EN0 th g2 → (∀ c, c < 16 → (Ia g2 135 th c, Ia g2 136 th c) = lD p0 c (Ia g' 135 th c, Ia g' 136 th c) y) → K6 th p0 (nI (k + 1)) g2) → B_En_learn_6 Γ K6 K th p0 (nI k) g' from
      H _ (fun g2 y hy h1 h2 h3 => ⟨L.length - (k + 1), by have := (List.getElem?_eq_some_iff.mp hy).1; omega, rfl, rfl, k + 1, (List.getElem?_eq_some_iff.mp hy).1, rfl, rfl, h1, h2, fun c hc => by rw [fold_take _ _ _ hy, ← hf c hc]; exact h3 c hc⟩)
    intro K6 hn
    unfold B_En_learn_6 B_En_learn_76
    refine ⟨hkd', al, hal', hL'.kd, hL'.sz ?_⟩
    rw [nj_le (by omega) (by omega)]
    refine ⟨fun u => ?_, fun u => ⟨hkd', al, hal', hL'.kd, hL'.at (by omega) (fun x y hy hT => ?_)⟩⟩
    · rw [List.take_of_length_le u] at hf
      exact hK g' hfx hf h0
    · obtain ⟨⟨_, t0⟩, t1, t2, t3, t4⟩ := hT
      have hn2 := fun g2 => hn g2 y hy
      obtain ⟨_, ⟨a, a1, a2, a3, a4, a5⟩, b, b1, b2, b3, b4, b5⟩ := id hE'
      rw [t1, t4, nj_s]
      have hno : (∀ c, c < 16 → ¬ (y.2.2.2 ≤ p0 ∧ y.1 = nI c)) → K6 th p0 (nI (k + 1)) g' := fun z => hn2 g' hfx h0 (fun c hc => by unfold lD; rw [if_neg (z c hc)])
      refine ⟨t0, t0, fun z => hno (fun c _ w => absurd w.1 (Int32.not_le.mpr z)), fun z1 => ⟨t0, ?_⟩⟩
      unfold Sp_PV_isWithin
      refine ⟨fun z => hno (fun c hc w => ?_), fun z => ?_⟩
      · rw [if_pos ⟨by rw [w.2]; exact nj_nneg (by omega), by rw [w.2]; exact (nj_le (b := 15) (by omega) (by omega)).mpr (by omega)⟩] at z
        exact absurd z (by decide)
      · have hin : 0 ≤ y.1 ∧ y.1 ≤ 15 := Classical.byContradiction (fun w => z (if_neg w))
        have hn1 := nj_of hin.1
        have h15 : y.1.toNatClampNeg ≤ 15 := by
          have h2 := hin.2
          rw [hn1.1] at h2
          exact (nj_le (b := 15) hn1.2 (by omega)).mp h2
        obtain ⟨j, hj, hj15⟩ : ∃ j, y.1 = nI j ∧ j ≤ 15 := ⟨_, hn1.1, h15⟩
        have hb16 : inB (nI j) 16 := inB_nI (by omega) (by omega)
        refine ⟨hkd', a, a1, t0, t0, a2, by rw [t1, hj, a5]; exact hb16, ?_⟩
        rw [t1, hj, a3, a4, nj_cl (by omega), t2]
        rintro _ rfl
        refine ⟨hkd', b, b1, t0, t0, b2, by rw [Gi_sA, t1, hj]; show inB _ (Ln g' b); rw [b5]; exact hb16, ?_⟩
        rw [Gi_sA, t1, hj, Co_sA, Ow_sA, b3, b4, nj_cl (by omega), t3]
        rintro _ rfl
        refine hn2 _ (hfx.tr ((FrX.sA (by decide)).tr (FrX.sA (by decide)))) h0 (fun c hc => ?_)
        rw [Ia_sA, if_neg (fun z => absurd z.1 (by decide)), Ia_sA, Ia_sA, Ia_sA, if_neg (c := 136 = 135 ∧ _) (fun z => absurd z.1 (by decide))]
        simp only [true_and]
        unfold lD
        by_cases e : c = j
        · rw [if_pos e, if_pos e, if_pos ⟨Int32.not_lt.mp z1, by rw [hj, e]⟩]
        · rw [if_neg e, if_neg e, if_neg]
          rintro ⟨_, w⟩
          rw [hj] at w
          exact e ((nj_eq (by omega) (by omega)).mp w).symm
  · unfold B_En_learn_0
    refine ⟨hE.1, hE, fun g1 hx1 h1 h0 => ?_⟩
    exact ⟨_, rfl, rfl, 0, Nat.zero_le _, rfl, nj_0, hx1, h0, fun c hc => by rw [(h1 c hc).1, (h1 c hc).2]; rfl⟩
def Sp_En_isCounted (Γ : GAM) (m : Nat) (g : GH) (K : Int32 → GH → Prop) : Prop := ∃ v, Kd g m = 2 ∧ Gr g 129 m = some v ∧ Kd g v = 11 ∧ K (if Gi g 140 m = 2 ∧ Gi g 1287 v = Gi g 128 m then 1 else 0) g
-- the walk of En_isCounted
set_option maxRecDepth 100000 in
def B_En_isCounted_27 (Γ : GAM) (K : Int32 → GH → Prop) (s0 : Int32) (g : GH) : Prop :=
  ((s0 = 0 ∨ s0 = 1) ∧ K s0 g)
set_option maxHeartbeats 4000000 in
set_option maxRecDepth 100000 in
theorem S_En_isCounted_27 {Γ : GAM} {E : EV} {K : Int32 → GH → Prop} (hE : GE Γ E cX0_isCounted 1 RX0 (some (.boolean)) 0 0 (fun r g' => ∃ x, r = some (.int x) ∧ K x g')) (s0 : Int32) (g : GH) (h : B_En_isCounted_27 Γ K s0 g) : JW Γ E 27 [none] [.int s0] g := by
  unfold B_En_isCounted_27 at h
  exact j_zret hE h.1 (by decide +kernel : decode cX0_isCounted 27 = .ok (.ireturn, 1)) ⟨_, rfl, h.2⟩
set_option maxRecDepth 100000 in
def B_En_isCounted_26 (Γ : GAM) (K : Int32 → GH → Prop)  (g : GH) : Prop :=
  B_En_isCounted_27 Γ K (0 : Int32) g
set_option maxHeartbeats 4000000 in
set_option maxRecDepth 100000 in
theorem S_En_isCounted_26 {Γ : GAM} {E : EV} {K : Int32 → GH → Prop} (hE : GE Γ E cX0_isCounted 1 RX0 (some (.boolean)) 0 0 (fun r g' => ∃ x, r = some (.int x) ∧ K x g'))  (g : GH) (h : B_En_isCounted_26 Γ K  g) : JW Γ E 26 [none] [] g := by
  unfold B_En_isCounted_26 at h
  refine j_iconst hE (by decide +kernel : decode cX0_isCounted 26 = .ok (.iconst 0, 1)) (v := (0 : Int32)) (by decide) ?_
  exact S_En_isCounted_27 hE _ _ h
set_option maxRecDepth 100000 in
def B_En_isCounted_0 (Γ : GAM) (K : Int32 → GH → Prop) (th : Nat) (g : GH) : Prop :=
  Kd g th = 2 ∧ ((¬ ((Gi g 140 th) = (2 : Int32)) → B_En_isCounted_26 Γ K g) ∧ ((Gi g 140 th) = (2 : Int32) → Kd g th = 2 ∧ ∃ a1 : Nat, Gr g 129 th = some a1 ∧ Kd g a1 = 11 ∧ Kd g th = 2 ∧ ((¬ ((Gi g 1287 a1) = (Gi g 128 th)) → B_En_isCounted_26 Γ K g) ∧ ((Gi g 1287 a1) = (Gi g 128 th) → B_En_isCounted_27 Γ K (1 : Int32) g))))
set_option maxHeartbeats 4000000 in
set_option maxRecDepth 100000 in
theorem S_En_isCounted_0 {Γ : GAM} {E : EV} {K : Int32 → GH → Prop} (hE : GE Γ E cX0_isCounted 1 RX0 (some (.boolean)) 0 0 (fun r g' => ∃ x, r = some (.int x) ∧ K x g')) (th : Nat) (g : GH) (h : B_En_isCounted_0 Γ K th g) : JW Γ E 0 [some (.ref th)] [] g := by
  unfold B_En_isCounted_0 at h
  refine j_aload_n hE (by decide +kernel : decode cX0_isCounted 0 = .ok (.aload_n 0, 1)) rfl rfl ?_
  obtain ⟨hk, h⟩ := h
  refine j_getI hE fg_X0_35 hk (by decide +kernel : decode cX0_isCounted 1 = .ok (.getfield 35, 3)) ?_
  refine j_iconst hE (by decide +kernel : decode cX0_isCounted 4 = .ok (.iconst 2, 1)) (v := (2 : Int32)) (by decide) ?_
  refine j_icmp_ne hE (by decide +kernel : decode cX0_isCounted 5 = .ok (.if_icmp .ne 21, 3)) (tgt := 26) (by decide) (fun q => ?_) (fun q => ?_)
  · replace h := h.1 q
    refine j_weak [none] trivial ?_
    exact S_En_isCounted_26 hE _ h
  · replace h := h.2 q
    refine j_aload_n hE (by decide +kernel : decode cX0_isCounted 8 = .ok (.aload_n 0, 1)) rfl rfl ?_
    obtain ⟨hk, h⟩ := h
    obtain ⟨a1, ha, h⟩ := h
    refine j_getRn hE fg_X0_47 hk ha (by decide +kernel : decode cX0_isCounted 9 = .ok (.getfield 47, 3)) ?_
    obtain ⟨hk, h⟩ := h
    refine j_getI hE fg_X0_96 hk (by decide +kernel : decode cX0_isCounted 12 = .ok (.getfield 96, 3)) ?_
    refine j_aload_n hE (by decide +kernel : decode cX0_isCounted 15 = .ok (.aload_n 0, 1)) rfl rfl ?_
    obtain ⟨hk, h⟩ := h
    refine j_getI hE fg_X0_44 hk (by decide +kernel : decode cX0_isCounted 16 = .ok (.getfield 44, 3)) ?_
    refine j_icmp_ne hE (by decide +kernel : decode cX0_isCounted 19 = .ok (.if_icmp .ne 7, 3)) (tgt := 26) (by decide) (fun q => ?_) (fun q => ?_)
    · replace h := h.1 q
      refine j_weak [none] trivial ?_
      exact S_En_isCounted_26 hE _ h
    · replace h := h.2 q
      refine j_iconst hE (by decide +kernel : decode cX0_isCounted 22 = .ok (.iconst 1, 1)) (v := (1 : Int32)) (by decide) ?_
      refine j_goto hE (by decide +kernel : decode cX0_isCounted 23 = .ok (.goto 4, 3)) (tgt := 27) (by decide) ?_
      refine j_weak [none] trivial ?_
      exact S_En_isCounted_27 hE _ _ h
set_option maxHeartbeats 4000000 in
set_option maxRecDepth 100000 in
theorem rl_En_isCounted {Γ : GAM} {l : Launch} {th : Nat} {g : GH} {K : Int32 → GH → Prop} (h0 : B_En_isCounted_0 Γ K th g) : MetA Γ l yX0_isCounted cX0_isCounted 1 (some (.boolean)) 0 0 [.ref th] g (fun r g' => ∃ x, r = some (.int x) ∧ K x g') := by
  refine MetA.introL (Lx := [some (.ref th)]) (by decide) (Nat.le_of_ble_eq_true rfl) rfl rfl ?_
  intro E hEl hE hnm
  exact S_En_isCounted_0 hE th g h0
theorem mt_En_isCounted {Γ : GAM} {l : Launch} (th : Nat) (g : GH) (K : Int32 → GH → Prop) (h : Sp_En_isCounted Γ th g K) : MetA Γ l yX0_isCounted cX0_isCounted 1 (some (.boolean)) 0 0 [.ref th] g (fun r g' => ∃ x, r = some (.int x) ∧ K x g') := by
  obtain ⟨v, h1, h2, h3, hK⟩ := h
  refine rl_En_isCounted ?_
  unfold B_En_isCounted_0 B_En_isCounted_26 B_En_isCounted_27
  refine ⟨h1, fun u => ⟨.inl rfl, by rw [if_neg (fun z => u z.1)] at hK; exact hK⟩, fun u => ⟨h1, v, h2, h3, h1, fun u2 => ⟨.inl rfl, by rw [if_neg (fun z => u2 z.2)] at hK; exact hK⟩, fun u2 => ⟨.inr rfl, by rw [if_pos ⟨u, u2⟩] at hK; exact hK⟩⟩⟩
def Sp_En_shireOf (Γ : GAM) (m : Nat) (q : Int32) (g : GH) (K : Int32 → GH → Prop) : Prop := ∃ v al L, Kd g m = 2 ∧ Gr g 129 m = some v ∧ Kd g v = 11 ∧ Gr g 1283 v = some al ∧ LOG Γ g al L ∧ K (L.foldl (lS (if Gi g 137 m = -1 then Gi g 130 m else Gi g 137 m) q) (Gi g 1280 v, -1)).1 g
-- the walk of En_shireOf
set_option maxRecDepth 100000 in
def B_En_shireOf_23 (Γ : GAM) (K : Int32 → GH → Prop) (l1 : Int32) (s0 : Int32) (s1 : Nat) (g : GH) : Prop :=
  Kd g s1 = 11 ∧ Sp_Vo_shireOn Γ s1 s0 l1 g (fun (x2 : Int32) (g1 : GH) => K x2 g1)
set_option maxHeartbeats 4000000 in
set_option maxRecDepth 100000 in
theorem S_En_shireOf_23 {Γ : GAM} {E : EV} {K : Int32 → GH → Prop} (hE : GE Γ E cX0_shireOf 2 RX0 (some (.int)) 4 90 (fun r g' => ∃ x, r = some (.int x) ∧ K x g')) (l1 : Int32) (s0 : Int32) (s1 : Nat) (g : GH) (h : B_En_shireOf_23 Γ K l1 s0 s1 g) : JW Γ E 23 [none, some (.int l1)] [.int s0, .ref s1] g := by
  unfold B_En_shireOf_23 at h
  refine j_iload_n hE (by decide +kernel : decode cX0_shireOf 23 = .ok (.iload_n 1, 1)) rfl rfl ?_
  obtain ⟨hk, h⟩ := h
  refine j_callV hE rfl cl_X0_101 cf_10 im_X9_shireOn se_X9_shireOn ⟨by omega, by omega⟩ (As := [.int s0, .int l1]) (rest := []) rfl rfl (Nat.le_of_ble_eq_true rfl) hk (by decide +kernel : decode cX0_shireOf 24 = .ok (.invokevirtual 101, 3)) (mt_Vo_shireOn _ _ _ _ _ h) ?_
  rintro _ g1 ⟨x2, rfl, h⟩
  exact j_iret hE (by decide +kernel : decode cX0_shireOf 27 = .ok (.ireturn, 1)) ⟨_, rfl, h⟩
set_option maxRecDepth 100000 in
def B_En_shireOf_0 (Γ : GAM) (K : Int32 → GH → Prop) (th : Nat) (p0 : Int32) (g : GH) : Prop :=
  Kd g th = 2 ∧ ∃ a1 : Nat, Gr g 129 th = some a1 ∧ Kd g th = 2 ∧ ((¬ ((Gi g 137 th) = (-1 : Int32)) → Kd g th = 2 ∧ B_En_shireOf_23 Γ K p0 (Gi g 137 th) a1 g) ∧ ((Gi g 137 th) = (-1 : Int32) → Kd g th = 2 ∧ B_En_shireOf_23 Γ K p0 (Gi g 130 th) a1 g))
set_option maxHeartbeats 4000000 in
set_option maxRecDepth 100000 in
theorem S_En_shireOf_0 {Γ : GAM} {E : EV} {K : Int32 → GH → Prop} (hE : GE Γ E cX0_shireOf 2 RX0 (some (.int)) 4 90 (fun r g' => ∃ x, r = some (.int x) ∧ K x g')) (th : Nat) (p0 : Int32) (g : GH) (h : B_En_shireOf_0 Γ K th p0 g) : JW Γ E 0 [some (.ref th), some (.int p0)] [] g := by
  unfold B_En_shireOf_0 at h
  refine j_aload_n hE (by decide +kernel : decode cX0_shireOf 0 = .ok (.aload_n 0, 1)) rfl rfl ?_
  obtain ⟨hk, h⟩ := h
  obtain ⟨a1, ha, h⟩ := h
  refine j_getRn hE fg_X0_47 hk ha (by decide +kernel : decode cX0_shireOf 1 = .ok (.getfield 47, 3)) ?_
  refine j_aload_n hE (by decide +kernel : decode cX0_shireOf 4 = .ok (.aload_n 0, 1)) rfl rfl ?_
  obtain ⟨hk, h⟩ := h
  refine j_getI hE fg_X0_29 hk (by decide +kernel : decode cX0_shireOf 5 = .ok (.getfield 29, 3)) ?_
  refine j_iconst hE (by decide +kernel : decode cX0_shireOf 8 = .ok (.iconst (-1), 1)) (v := (-1 : Int32)) (by decide) ?_
  refine j_icmp_ne hE (by decide +kernel : decode cX0_shireOf 9 = .ok (.if_icmp .ne 10, 3)) (tgt := 19) (by decide) (fun q => ?_) (fun q => ?_)
  · replace h := h.1 q
    refine j_aload_n hE (by decide +kernel : decode cX0_shireOf 19 = .ok (.aload_n 0, 1)) rfl rfl ?_
    obtain ⟨hk, h⟩ := h
    refine j_getI hE fg_X0_29 hk (by decide +kernel : decode cX0_shireOf 20 = .ok (.getfield 29, 3)) ?_
    refine j_weak [none, some (.int p0)] ⟨rfl, trivial⟩ ?_
    exact S_En_shireOf_23 hE _ _ _ _ h
  · replace h := h.2 q
    refine j_aload_n hE (by decide +kernel : decode cX0_shireOf 12 = .ok (.aload_n 0, 1)) rfl rfl ?_
    obtain ⟨hk, h⟩ := h
    refine j_getI hE fg_X0_51 hk (by decide +kernel : decode cX0_shireOf 13 = .ok (.getfield 51, 3)) ?_
    refine j_goto hE (by decide +kernel : decode cX0_shireOf 16 = .ok (.goto 7, 3)) (tgt := 23) (by decide) ?_
    refine j_weak [none, some (.int p0)] ⟨rfl, trivial⟩ ?_
    exact S_En_shireOf_23 hE _ _ _ _ h
set_option maxHeartbeats 4000000 in
set_option maxRecDepth 100000 in
theorem rl_En_shireOf {Γ : GAM} {l : Launch} {th : Nat} {p0 : Int32} {g : GH} {K : Int32 → GH → Prop} (h0 : B_En_shireOf_0 Γ K th p0 g) : MetA Γ l yX0_shireOf cX0_shireOf 2 (some (.int)) 4 90 [.ref th, .int p0] g (fun r g' => ∃ x, r = some (.int x) ∧ K x g') := by
  refine MetA.introL (Lx := [some (.ref th), some (.int p0)]) (by decide) (Nat.le_of_ble_eq_true rfl) rfl rfl ?_
  intro E hEl hE hnm
  exact S_En_shireOf_0 hE th p0 g h0
theorem mt_En_shireOf {Γ : GAM} {l : Launch} (th : Nat) (p0 : Int32) (g : GH) (K : Int32 → GH → Prop) (h : Sp_En_shireOf Γ th p0 g K) : MetA Γ l yX0_shireOf cX0_shireOf 2 (some (.int)) 4 90 [.ref th, .int p0] g (fun r g' => ∃ x, r = some (.int x) ∧ K x g') := by
  obtain ⟨v, al, L, h1, h2, h3, h4, h5, hK⟩ := h
  refine rl_En_shireOf ?_
  unfold B_En_shireOf_0 B_En_shireOf_23
  refine ⟨h1, v, h2, h1, fun u => ⟨h1, h3, al, L, h3, h4, h5, ?_⟩, fun u => ⟨h1, h3, al, L, h3, h4, h5, ?_⟩⟩
  · rw [if_neg u] at hK; exact hK
  · rw [if_pos u] at hK; exact hK
/-- how many hands told v -/
def cH (f : Nat → Int32) (v : Int32) : Nat := (List.range 6).foldl (fun n h => if f (10 + h) = v then n + 1 else n) 0
theorem cH_le {f : Nat → Int32} {v : Int32} : ∀ k, k ≤ 6 → ((List.range 6).take k).foldl (fun n h => if f (10 + h) = v then n + 1 else n) 0 ≤ k := by
  intro k
  induction k with
  | zero => intro _; exact Nat.le_refl _
  | succ k ih =>
    intro h
    rw [fold_take _ _ _ (range_get (show k < 6 by omega))]
    have := ih (by omega)
    split <;> omega
def Sp_En_handsThatTold (Γ : GAM) (m : Nat) (v : Int32) (g : GH) (K : Int32 → GH → Prop) : Prop := E2 m g ∧ K (nI (cH (Ia g 136 m) v)) g
-- the walk of En_handsThatTold
set_option maxRecDepth 100000 in
def B_En_handsThatTold_29 (Γ : GAM) (K4 : Nat → Int32 → Int32 → Int32 → GH → Prop) (K : Int32 → GH → Prop) (l0 : Nat) (l1 : Int32) (l3 : Int32) (s0 : Int32) (s1 : Int32) (g : GH) : Prop :=
  ∀ x1 : Int32, x1 = (s1 + s0) → K4 l0 l1 x1 (l3 + (1 : Int32)) g
set_option maxHeartbeats 4000000 in
set_option maxRecDepth 100000 in
theorem S_En_handsThatTold_29 {Γ : GAM} {E : EV} {K : Int32 → GH → Prop} (hE : GE Γ E cX0_handsThatTold 4 RX0 (some (.int)) 0 0 (fun r g' => ∃ x, r = some (.int x) ∧ K x g')) {K4 : Nat → Int32 → Int32 → Int32 → GH → Prop} (hK4 : ∀ (l0 : Nat) (l1 : Int32) (l2 : Int32) (l3 : Int32) (g : GH), K4 l0 l1 l2 l3 g → JW Γ E 4 [some (.ref l0), some (.int l1), some (.int l2), some (.int l3)] [] g) (l0 : Nat) (l1 : Int32) (l3 : Int32) (s0 : Int32) (s1 : Int32) (g : GH) (h : B_En_handsThatTold_29 Γ K4 K l0 l1 l3 s0 s1 g) : JW Γ E 29 [some (.ref l0), some (.int l1), none, some (.int l3)] [.int s0, .int s1] g := by
  unfold B_En_handsThatTold_29 at h
  refine j_iadd hE (by decide +kernel : decode cX0_handsThatTold 29 = .ok (.iadd, 1)) ?_
  obtain ⟨x1, hx⟩ : ∃ z, z = (s1 + s0) := ⟨_, rfl⟩; replace h := h x1 hx; rw [← hx]
  refine j_istore_n hE (by decide +kernel : decode cX0_handsThatTold 30 = .ok (.istore_n 2, 1)) rfl (Nat.le_of_ble_eq_true rfl) rfl ?_
  refine j_iinc hE (by decide +kernel : decode cX0_handsThatTold 31 = .ok (.iinc 3 1, 3)) (v := (1 : Int32)) (by decide) rfl (Nat.le_of_ble_eq_true rfl) rfl ?_
  refine j_goto hE (by decide +kernel : decode cX0_handsThatTold 34 = .ok (.goto (-30), 3)) (tgt := 4) (by decide) ?_
  exact hK4 _ _ _ _ _ h
set_option maxRecDepth 100000 in
def B_En_handsThatTold_4 (Γ : GAM) (K4 : Nat → Int32 → Int32 → Int32 → GH → Prop) (K : Int32 → GH → Prop) (l0 : Nat) (l1 : Int32) (l2 : Int32) (l3 : Int32) (g : GH) : Prop :=
  (((6 : Int32) ≤ l3 → K l2 g) ∧ (¬ ((6 : Int32) ≤ l3) → Kd g l0 = 2 ∧ ∃ a1 : Nat, Gr g 136 l0 = some a1 ∧ Kd g a1 = 20 ∧ inB ((10 : Int32) + l3) (Ln g a1) ∧ ((¬ ((Ia g (Co g a1) (Ow g a1) ((10 : Int32) + l3).toNatClampNeg) = l1) → B_En_handsThatTold_29 Γ K4 K l0 l1 l3 (0 : Int32) l2 g) ∧ ((Ia g (Co g a1) (Ow g a1) ((10 : Int32) + l3).toNatClampNeg) = l1 → B_En_handsThatTold_29 Γ K4 K l0 l1 l3 (1 : Int32) l2 g))))
set_option maxHeartbeats 4000000 in
set_option maxRecDepth 100000 in
theorem S_En_handsThatTold_4 {Γ : GAM} {E : EV} {K : Int32 → GH → Prop} (hE : GE Γ E cX0_handsThatTold 4 RX0 (some (.int)) 0 0 (fun r g' => ∃ x, r = some (.int x) ∧ K x g')) {K4 : Nat → Int32 → Int32 → Int32 → GH → Prop} (hK4 : ∀ (l0 : Nat) (l1 : Int32) (l2 : Int32) (l3 : Int32) (g : GH), K4 l0 l1 l2 l3 g → JW Γ E 4 [some (.ref l0), some (.int l1), some (.int l2), some (.int l3)] [] g) (l0 : Nat) (l1 : Int32) (l2 : Int32) (l3 : Int32) (g : GH) (h : B_En_handsThatTold_4 Γ K4 K l0 l1 l2 l3 g) : JW Γ E 4 [some (.ref l0), some (.int l1), some (.int l2), some (.int l3)] [] g := by
  unfold B_En_handsThatTold_4 at h
  refine j_iload_n hE (by decide +kernel : decode cX0_handsThatTold 4 = .ok (.iload_n 3, 1)) rfl rfl ?_
  refine j_bipush hE (by decide +kernel : decode cX0_handsThatTold 5 = .ok (.bipush 6, 2)) (v := (6 : Int32)) (by decide) ?_
  refine j_icmp_ge hE (by decide +kernel : decode cX0_handsThatTold 7 = .ok (.if_icmp .ge 30, 3)) (tgt := 37) (by decide) (fun q => ?_) (fun q => ?_)
  · replace h := h.1 q
    refine j_iload_n hE (by decide +kernel : decode cX0_handsThatTold 37 = .ok (.iload_n 2, 1)) rfl rfl ?_
    exact j_iret hE (by decide +kernel : decode cX0_handsThatTold 38 = .ok (.ireturn, 1)) ⟨_, rfl, h⟩
  · replace h := h.2 q
    refine j_iload_n hE (by decide +kernel : decode cX0_handsThatTold 10 = .ok (.iload_n 2, 1)) rfl rfl ?_
    refine j_aload_n hE (by decide +kernel : decode cX0_handsThatTold 11 = .ok (.aload_n 0, 1)) rfl rfl ?_
    obtain ⟨hk, h⟩ := h
    obtain ⟨a1, ha, h⟩ := h
    refine j_getRn hE fg_X0_26 hk ha (by decide +kernel : decode cX0_handsThatTold 12 = .ok (.getfield 26, 3)) ?_
    refine j_bipush hE (by decide +kernel : decode cX0_handsThatTold 15 = .ok (.bipush 10, 2)) (v := (10 : Int32)) (by decide) ?_
    refine j_iload_n hE (by decide +kernel : decode cX0_handsThatTold 17 = .ok (.iload_n 3, 1)) rfl rfl ?_
    refine j_iadd hE (by decide +kernel : decode cX0_handsThatTold 18 = .ok (.iadd, 1)) ?_
    obtain ⟨hk, hb, h⟩ := h
    refine j_iald hE hk hb (by decide +kernel : decode cX0_handsThatTold 19 = .ok (.iaload, 1)) ?_
    refine j_iload_n hE (by decide +kernel : decode cX0_handsThatTold 20 = .ok (.iload_n 1, 1)) rfl rfl ?_
    refine j_icmp_ne hE (by decide +kernel : decode cX0_handsThatTold 21 = .ok (.if_icmp .ne 7, 3)) (tgt := 28) (by decide) (fun q => ?_) (fun q => ?_)
    · replace h := h.1 q
      refine j_iconst hE (by decide +kernel : decode cX0_handsThatTold 28 = .ok (.iconst 0, 1)) (v := (0 : Int32)) (by decide) ?_
      refine j_weak [some (.ref l0), some (.int l1), none, some (.int l3)] ⟨rfl, ⟨rfl, ⟨rfl, trivial⟩⟩⟩ ?_
      exact S_En_handsThatTold_29 hE hK4 _ _ _ _ _ _ h
    · replace h := h.2 q
      refine j_iconst hE (by decide +kernel : decode cX0_handsThatTold 24 = .ok (.iconst 1, 1)) (v := (1 : Int32)) (by decide) ?_
      refine j_goto hE (by decide +kernel : decode cX0_handsThatTold 25 = .ok (.goto 4, 3)) (tgt := 29) (by decide) ?_
      refine j_weak [some (.ref l0), some (.int l1), none, some (.int l3)] ⟨rfl, ⟨rfl, ⟨rfl, trivial⟩⟩⟩ ?_
      exact S_En_handsThatTold_29 hE hK4 _ _ _ _ _ _ h
set_option maxRecDepth 100000 in
def B_En_handsThatTold_0 (Γ : GAM) (K4 : Nat → Int32 → Int32 → Int32 → GH → Prop) (K : Int32 → GH → Prop) (th : Nat) (p0 : Int32) (g : GH) : Prop :=
  K4 th p0 (0 : Int32) (0 : Int32) g
set_option maxHeartbeats 4000000 in
set_option maxRecDepth 100000 in
theorem S_En_handsThatTold_0 {Γ : GAM} {E : EV} {K : Int32 → GH → Prop} (hE : GE Γ E cX0_handsThatTold 4 RX0 (some (.int)) 0 0 (fun r g' => ∃ x, r = some (.int x) ∧ K x g')) {K4 : Nat → Int32 → Int32 → Int32 → GH → Prop} (hK4 : ∀ (l0 : Nat) (l1 : Int32) (l2 : Int32) (l3 : Int32) (g : GH), K4 l0 l1 l2 l3 g → JW Γ E 4 [some (.ref l0), some (.int l1), some (.int l2), some (.int l3)] [] g) (th : Nat) (p0 : Int32) (g : GH) (h : B_En_handsThatTold_0 Γ K4 K th p0 g) : JW Γ E 0 [some (.ref th), some (.int p0), none, none] [] g := by
  unfold B_En_handsThatTold_0 at h
  refine j_iconst hE (by decide +kernel : decode cX0_handsThatTold 0 = .ok (.iconst 0, 1)) (v := (0 : Int32)) (by decide) ?_
  refine j_istore_n hE (by decide +kernel : decode cX0_handsThatTold 1 = .ok (.istore_n 2, 1)) rfl (Nat.le_of_ble_eq_true rfl) rfl ?_
  refine j_iconst hE (by decide +kernel : decode cX0_handsThatTold 2 = .ok (.iconst 0, 1)) (v := (0 : Int32)) (by decide) ?_
  refine j_istore_n hE (by decide +kernel : decode cX0_handsThatTold 3 = .ok (.istore_n 3, 1)) rfl (Nat.le_of_ble_eq_true rfl) rfl ?_
  exact hK4 _ _ _ _ _ h
set_option maxHeartbeats 4000000 in
set_option maxRecDepth 100000 in
theorem rl_En_handsThatTold {Γ : GAM} {l : Launch} {th : Nat} {p0 : Int32} {g : GH} {K : Int32 → GH → Prop} (I4 : Nat → Nat → Int32 → Int32 → Int32 → GH → Prop) (hh4 : ∀ n (l0 : Nat) (l1 : Int32) (l2 : Int32) (l3 : Int32) (g : GH), I4 n l0 l1 l2 l3 g → B_En_handsThatTold_4 Γ (fun l0 l1 l2 l3 g => ∃ m, m < n ∧ I4 m l0 l1 l2 l3 g) K l0 l1 l2 l3 g) (h0 : B_En_handsThatTold_0 Γ (fun l0 l1 l2 l3 g => ∃ m, I4 m l0 l1 l2 l3 g) K th p0 g) : MetA Γ l yX0_handsThatTold cX0_handsThatTold 4 (some (.int)) 0 0 [.ref th, .int p0] g (fun r g' => ∃ x, r = some (.int x) ∧ K x g') := by
  refine MetA.introL (Lx := [some (.ref th), some (.int p0), none, none]) (by decide) (Nat.le_of_ble_eq_true rfl) rfl rfl ?_
  intro E hEl hE hnm
  have hall : ∀ n, (∀ (l0 : Nat) (l1 : Int32) (l2 : Int32) (l3 : Int32) (g : GH), I4 n l0 l1 l2 l3 g → JW Γ E 4 [some (.ref l0), some (.int l1), some (.int l2), some (.int l3)] [] g) := by
    intro n
    induction n using Nat.strongRecOn with
    | ind n ih =>
      exact fun l0 l1 l2 l3 g hi => S_En_handsThatTold_4 hE (fun l0 l1 l2 l3 g hm => by obtain ⟨m, hm, h⟩ := hm; exact (ih m hm) l0 l1 l2 l3 g h) l0 l1 l2 l3 g (hh4 n l0 l1 l2 l3 g hi)
  exact S_En_handsThatTold_0 hE (fun l0 l1 l2 l3 g hm => by obtain ⟨m, h⟩ := hm; exact (hall m) l0 l1 l2 l3 g h) th p0 g h0
theorem mt_En_handsThatTold {Γ : GAM} {l : Launch} (th : Nat) (p0 : Int32) (g : GH) (K : Int32 → GH → Prop) (h : Sp_En_handsThatTold Γ th p0 g K) : MetA Γ l yX0_handsThatTold cX0_handsThatTold 4 (some (.int)) 0 0 [.ref th, .int p0] g (fun r g' => ∃ x, r = some (.int x) ∧ K x g') := by
  obtain ⟨⟨hkd, _, b, b1, b2, b3, b4, b5⟩, hK⟩ := h
  refine rl_En_handsThatTold (fun n l0 l1 l2 l3 g' => g = g' ∧ th = l0 ∧ p0 = l1 ∧ ∃ k, k ≤ 6 ∧ n = 6 - k ∧ l3 = nI k ∧ l2 = nI (((List.range 6).take k).foldl (fun n h => if Ia g 136 th (10 + h) = p0 then n + 1 else n) 0)) ?_ ⟨_, rfl, rfl, rfl, 0, by omega, rfl, nj_0, nj_0⟩
  rintro n l0 l1 l2 l3 g' ⟨rfl, rfl, rfl, k, hk, rfl, rfl, rfl⟩
  unfold B_En_handsThatTold_4 B_En_handsThatTold_29
  rw [show ((6 : Int32) ≤ nI k) ↔ 6 ≤ k from nj_le (a := 6) (by omega) (by omega), show (10 : Int32) + nI k = nI (10 + k) from nI_add9 10 k]
  refine ⟨fun u => ?_, fun u => ⟨hkd, b, b1, b2, by rw [b5]; exact inB_nI (by omega) (by omega), ?_⟩⟩
  · rw [show k = 6 by omega, List.take_of_length_le (by simp)]
    exact hK
  · rw [b3, b4, nj_cl (by omega)]
    refine ⟨fun z => ?_, fun z => ?_⟩
    · rintro _ rfl
      refine ⟨6 - (k + 1), by omega, rfl, rfl, rfl, k + 1, by omega, rfl, nj_s k, ?_⟩
      rw [fold_take _ _ _ (range_get (show k < 6 by omega)), if_neg z, Int32.add_zero]
    · rintro _ rfl
      refine ⟨6 - (k + 1), by omega, rfl, rfl, rfl, k + 1, by omega, rfl, nj_s k, ?_⟩
      rw [fold_take _ _ _ (range_get (show k < 6 by omega)), if_pos z, nj_s]
