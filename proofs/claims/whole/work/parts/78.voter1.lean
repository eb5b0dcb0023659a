/-! the class: logs of what is told; a voter's shire, a voter's booth -/
abbrev Tl : Type := Int32 × Int32 × Int32 × Int32
/-- a row of a log: its kind, its day, its value, when it was told -/
def TD (g : GH) (a : Nat) (y : Tl) : Prop := (a < Hn g ∧ Kd g a = 9) ∧ Gi g 1024 a = y.1 ∧ Gi g 1025 a = y.2.1 ∧ Gi g 1026 a = y.2.2.1 ∧ Gi g 1027 a = y.2.2.2
def LOG (Γ : GAM) (g : GH) (al : Nat) (L : List Tl) : Prop := ∃ xs, AC Γ g al xs ∧ xs.length = L.length ∧ ∀ (i x : Nat) (y : Tl), xs[i]? = some x → L[i]? = some y → TD g x y
theorem LOG.at {Γ : GAM} {g : GH} {al : Nat} {L : List Tl} (h : LOG Γ g al L) {k : Nat} (hk : k < L.length) {K : Nat → GH → Prop} (hK : ∀ x y, L[k]? = some y → TD g x y → K x g) : Sp_AL_get Γ al (nI k) g K := by
  obtain ⟨xs, h1, h2, h3⟩ := h
  obtain ⟨y, hy⟩ := get_lt hk
  obtain ⟨x, hx⟩ := get_lt (show k < xs.length by omega)
  exact ⟨xs, k, x, h1, rfl, hx, hK x y hy (h3 k x y hx hy)⟩
theorem LOG.sz {Γ : GAM} {g : GH} {al : Nat} {L : List Tl} (h : LOG Γ g al L) {K : Int32 → GH → Prop} (hK : K (nI L.length) g) : Sp_AL_size Γ al g K := by
  obtain ⟨xs, h1, h2, h3⟩ := h
  refine ⟨h1.1.2, ?_⟩
  rw [h1.2.1, h2]; exact hK
theorem LOG.kd {Γ : GAM} {g : GH} {al : Nat} {L : List Tl} (h : LOG Γ g al L) : Kd g al = 1 := by
  obtain ⟨xs, h1, _⟩ := h
  exact h1.1.2
theorem LOG.len {Γ : GAM} {g : GH} {al : Nat} {L : List Tl} (h : LOG Γ g al L) : L.length ≤ 1000 := by
  obtain ⟨xs, h1, h2, _⟩ := h
  rw [← h2]; exact h1.2.2.1
/-- a voter's way, a row -/
def lS (d q : Int32) (a : Int32 × Int32) (y : Tl) : Int32 × Int32 := if y.1 = 1 ∧ y.2.2.2 ≤ q ∧ y.2.1 ≤ d ∧ a.2 ≤ y.2.1 then (y.2.2.1, y.2.1) else a
def Sp_Vo_shireOn (Γ : GAM) (m : Nat) (d q : Int32) (g : GH) (K : Int32 → GH → Prop) : Prop := ∃ al L, Kd g m = 11 ∧ Gr g 1283 m = some al ∧ LOG Γ g al L ∧ K (L.foldl (lS d q) (Gi g 1280 m, -1)).1 g
-- the walk of Vo_shireOn
set_option maxRecDepth 100000 in
def B_Vo_shireOn_87 (Γ : GAM) (K11 : Nat → Int32 → Int32 → Int32 → Int32 → Int32 → GH → Prop) (K : Int32 → GH → Prop) (l0 : Nat) (l1 : Int32) (l2 : Int32) (l3 : Int32) (l4 : Int32) (l5 : Int32) (g : GH) : Prop :=
  K11 l0 l1 l2 l3 l4 (l5 + (1 : Int32)) g
set_option maxHeartbeats 4000000 in
set_option maxRecDepth 100000 in
theorem S_Vo_shireOn_87 {Γ : GAM} {E : EV} {K : Int32 → GH → Prop} (hE : GE Γ E cX9_shireOn 7 RX9 (some (.int)) 3 64 (fun r g' => ∃ x, r = some (.int x) ∧ K x g')) {K11 : Nat → Int32 → Int32 → Int32 → Int32 → Int32 → GH → Prop} (hK11 : ∀ (l0 : Nat) (l1 : Int32) (l2 : Int32) (l3 : Int32) (l4 : Int32) (l5 : Int32) (g : GH), K11 l0 l1 l2 l3 l4 l5 g → JW Γ E 11 [some (.ref l0), some (.int l1), some (.int l2), some (.int l3), some (.int l4), some (.int l5), none] [] g) (l0 : Nat) (l1 : Int32) (l2 : Int32) (l3 : Int32) (l4 : Int32) (l5 : Int32) (g : GH) (h : B_Vo_shireOn_87 Γ K11 K l0 l1 l2 l3 l4 l5 g) : JW Γ E 87 [some (.ref l0), some (.int l1), some (.int l2), some (.int l3), some (.int l4), some (.int l5), none] [] g := by
  unfold B_Vo_shireOn_87 at h
  refine j_iinc hE (by decide +kernel : decode cX9_shireOn 87 = .ok (.iinc 5 1, 3)) (v := (1 : Int32)) (by decide) rfl (Nat.le_of_ble_eq_true rfl) rfl ?_
  refine j_goto hE (by decide +kernel : decode cX9_shireOn 90 = .ok (.goto (-79), 3)) (tgt := 11) (by decide) ?_
  exact hK11 _ _ _ _ _ _ _ h
set_option maxRecDepth 100000 in
def B_Vo_shireOn_11 (Γ : GAM) (K11 : Nat → Int32 → Int32 → Int32 → Int32 → Int32 → GH → Prop) (K : Int32 → GH → Prop) (l0 : Nat) (l1 : Int32) (l2 : Int32) (l3 : Int32) (l4 : Int32) (l5 : Int32) (g : GH) : Prop :=
  Kd g l0 = 11 ∧ ∃ a1 : Nat, Gr g 1283 l0 = some a1 ∧ Kd g a1 = 1 ∧ Sp_AL_size Γ a1 g (fun (x3 : Int32) (g2 : GH) => ((x3 ≤ l5 → K l3 g2) ∧ (¬ (x3 ≤ l5) → Kd g2 l0 = 11 ∧ ∃ a4 : Nat, Gr g2 1283 l0 = some a4 ∧ Kd g2 a4 = 1 ∧ Sp_AL_get Γ a4 l5 g2 (fun (a6 : Nat) (g5 : GH) => Kd g5 a6 = 9 ∧ Kd g5 a6 = 9 ∧ ((¬ ((Gi g5 1024 a6) = (1 : Int32)) → B_Vo_shireOn_87 Γ K11 K l0 l1 l2 l3 l4 l5 g5) ∧ ((Gi g5 1024 a6) = (1 : Int32) → Kd g5 a6 = 9 ∧ ((l2 < (Gi g5 1027 a6) → B_Vo_shireOn_87 Γ K11 K l0 l1 l2 l3 l4 l5 g5) ∧ (¬ (l2 < (Gi g5 1027 a6)) → Kd g5 a6 = 9 ∧ ((l1 < (Gi g5 1025 a6) → B_Vo_shireOn_87 Γ K11 K l0 l1 l2 l3 l4 l5 g5) ∧ (¬ (l1 < (Gi g5 1025 a6)) → Kd g5 a6 = 9 ∧ (((Gi g5 1025 a6) < l4 → B_Vo_shireOn_87 Γ K11 K l0 l1 l2 l3 l4 l5 g5) ∧ (¬ ((Gi g5 1025 a6) < l4) → Kd g5 a6 = 9 ∧ ∀ x7 : Int32, x7 = (Gi g5 1026 a6) → Kd g5 a6 = 9 ∧ ∀ x8 : Int32, x8 = (Gi g5 1025 a6) → B_Vo_shireOn_87 Γ K11 K l0 l1 l2 x7 x8 l5 g5))))))))))))
set_option maxHeartbeats 4000000 in
set_option maxRecDepth 100000 in
theorem S_Vo_shireOn_11 {Γ : GAM} {E : EV} {K : Int32 → GH → Prop} (hE : GE Γ E cX9_shireOn 7 RX9 (some (.int)) 3 64 (fun r g' => ∃ x, r = some (.int x) ∧ K x g')) {K11 : Nat → Int32 → Int32 → Int32 → Int32 → Int32 → GH → Prop} (hK11 : ∀ (l0 : Nat) (l1 : Int32) (l2 : Int32) (l3 : Int32) (l4 : Int32) (l5 : Int32) (g : GH), K11 l0 l1 l2 l3 l4 l5 g → JW Γ E 11 [some (.ref l0), some (.int l1), some (.int l2), some (.int l3), some (.int l4), some (.int l5), none] [] g) (l0 : Nat) (l1 : Int32) (l2 : Int32) (l3 : Int32) (l4 : Int32) (l5 : Int32) (g : GH) (h : B_Vo_shireOn_11 Γ K11 K l0 l1 l2 l3 l4 l5 g) : JW Γ E 11 [some (.ref l0), some (.int l1), some (.int l2), some (.int l3), some (.int l4), some (.int l5), none] [] g := by
  unfold B_Vo_shireOn_11 at h
  refine j_iload hE (by decide +kernel : decode cX9_shireOn 11 = .ok (.iload 5, 2)) rfl ?_
  refine j_aload_n hE (by decide +kernel : decode cX9_shireOn 13 = .ok (.aload_n 0, 1)) rfl rfl ?_
  obtain ⟨hk, h⟩ := h
  obtain ⟨a1, ha, h⟩ := h
  refine j_getRn hE fg_X9_12 hk ha (by decide +kernel : decode cX9_shireOn 14 = .ok (.getfield 12, 3)) ?_
  obtain ⟨hk, h⟩ := h
  refine j_callV hE rfl cl_X9_37 cf_0 im_Jx4a65c_size_8abf5 se_Jx4a65c_size_8abf5 ⟨by omega, by omega⟩ (As := []) (rest := [.int l5]) rfl rfl (Nat.le_of_ble_eq_true rfl) hk (by decide +kernel : decode cX9_shireOn 17 = .ok (.invokevirtual 37, 3)) (mt_AL_size _ _ _ h) ?_
  rintro _ g2 ⟨x3, rfl, h⟩
  refine j_icmp_ge hE (by decide +kernel : decode cX9_shireOn 20 = .ok (.if_icmp .ge 73, 3)) (tgt := 93) (by decide) (fun q => ?_) (fun q => ?_)
  · replace h := h.1 q
    refine j_iload_n hE (by decide +kernel : decode cX9_shireOn 93 = .ok (.iload_n 3, 1)) rfl rfl ?_
    exact j_iret hE (by decide +kernel : decode cX9_shireOn 94 = .ok (.ireturn, 1)) ⟨_, rfl, h⟩
  · replace h := h.2 q
    refine j_aload_n hE (by decide +kernel : decode cX9_shireOn 23 = .ok (.aload_n 0, 1)) rfl rfl ?_
    obtain ⟨hk, h⟩ := h
    obtain ⟨a4, ha, h⟩ := h
    refine j_getRn hE fg_X9_12 hk ha (by decide +kernel : decode cX9_shireOn 24 = .ok (.getfield 12, 3)) ?_
    refine j_iload hE (by decide +kernel : decode cX9_shireOn 27 = .ok (.iload 5, 2)) rfl ?_
    obtain ⟨hk, h⟩ := h
    refine j_callV hE rfl cl_X9_41 cf_0 im_Jx4a65c_get_915e3 se_Jx4a65c_get_915e3 ⟨by omega, by omega⟩ (As := [.int l5]) (rest := []) rfl rfl (Nat.le_of_ble_eq_true rfl) hk (by decide +kernel : decode cX9_shireOn 29 = .ok (.invokevirtual 41, 3)) (mt_AL_get _ _ _ _ h) ?_
    rintro _ g5 ⟨a6, rfl, h⟩
    obtain ⟨hk, h⟩ := h
    refine j_cast hE cf_8 ck_X9_45 hk (by decide +kernel : decode cX9_shireOn 32 = .ok (.checkcast 45, 3)) ?_
    refine j_astore hE (by decide +kernel : decode cX9_shireOn 35 = .ok (.astore 6, 2)) (Nat.le_of_ble_eq_true rfl) rfl ?_
    refine j_aload hE (by decide +kernel : decode cX9_shireOn 37 = .ok (.aload 6, 2)) rfl ?_
    obtain ⟨hk, h⟩ := h
    refine j_getI hE fg_X9_47 hk (by decide +kernel : decode cX9_shireOn 39 = .ok (.getfield 47, 3)) ?_
    refine j_iconst hE (by decide +kernel : decode cX9_shireOn 42 = .ok (.iconst 1, 1)) (v := (1 : Int32)) (by decide) ?_
    refine j_icmp_ne hE (by decide +kernel : decode cX9_shireOn 43 = .ok (.if_icmp .ne 44, 3)) (tgt := 87) (by decide) (fun q => ?_) (fun q => ?_)
    · replace h := h.1 q
      refine j_weak [some (.ref l0), some (.int l1), some (.int l2), some (.int l3), some (.int l4), some (.int l5), none] ⟨rfl, ⟨rfl, ⟨rfl, ⟨rfl, ⟨rfl, ⟨rfl, trivial⟩⟩⟩⟩⟩⟩ ?_
      exact S_Vo_shireOn_87 hE hK11 _ _ _ _ _ _ _ h
    · replace h := h.2 q
      refine j_aload hE (by decide +kernel : decode cX9_shireOn 46 = .ok (.aload 6, 2)) rfl ?_
      obtain ⟨hk, h⟩ := h
      refine j_getI hE fg_X9_50 hk (by decide +kernel : decode cX9_shireOn 48 = .ok (.getfield 50, 3)) ?_
      refine j_iload_n hE (by decide +kernel : decode cX9_shireOn 51 = .ok (.iload_n 2, 1)) rfl rfl ?_
      refine j_icmp_gt hE (by decide +kernel : decode cX9_shireOn 52 = .ok (.if_icmp .gt 35, 3)) (tgt := 87) (by decide) (fun q => ?_) (fun q => ?_)
      · replace h := h.1 q
        refine j_weak [some (.ref l0), some (.int l1), some (.int l2), some (.int l3), some (.int l4), some (.int l5), none] ⟨rfl, ⟨rfl, ⟨rfl, ⟨rfl, ⟨rfl, ⟨rfl, trivial⟩⟩⟩⟩⟩⟩ ?_
        exact S_Vo_shireOn_87 hE hK11 _ _ _ _ _ _ _ h
      · replace h := h.2 q
        refine j_aload hE (by decide +kernel : decode cX9_shireOn 55 = .ok (.aload 6, 2)) rfl ?_
        obtain ⟨hk, h⟩ := h
        refine j_getI hE fg_X9_53 hk (by decide +kernel : decode cX9_shireOn 57 = .ok (.getfield 53, 3)) ?_
        refine j_iload_n hE (by decide +kernel : decode cX9_shireOn 60 = .ok (.iload_n 1, 1)) rfl rfl ?_
        refine j_icmp_gt hE (by decide +kernel : decode cX9_shireOn 61 = .ok (.if_icmp .gt 26, 3)) (tgt := 87) (by decide) (fun q => ?_) (fun q => ?_)
        · replace h := h.1 q
          refine j_weak [some (.ref l0), some (.int l1), some (.int l2), some (.int l3), some (.int l4), some (.int l5), none] ⟨rfl, ⟨rfl, ⟨rfl, ⟨rfl, ⟨rfl, ⟨rfl, trivial⟩⟩⟩⟩⟩⟩ ?_
          exact S_Vo_shireOn_87 hE hK11 _ _ _ _ _ _ _ h
        · replace h := h.2 q
          refine j_aload hE (by decide +kernel : decode cX9_shireOn 64 = .ok (.aload 6, 2)) rfl ?_
          obtain ⟨hk, h⟩ := h
          refine j_getI hE fg_X9_53 hk (by decide +kernel : decode cX9_shireOn 66 = .ok (.getfield 53, 3)) ?_
          refine j_iload hE (by decide +kernel : decode cX9_shireOn 69 = .ok (.iload 4, 2)) rfl ?_
          refine j_icmp_lt hE (by decide +kernel : decode cX9_shireOn 71 = .ok (.if_icmp .lt 16, 3)) (tgt := 87) (by decide) (fun q => ?_) (fun q => ?_)
          · replace h := h.1 q
            refine j_weak [some (.ref l0), some (.int l1), some (.int l2), some (.int l3), some (.int l4), some (.int l5), none] ⟨rfl, ⟨rfl, ⟨rfl, ⟨rfl, ⟨rfl, ⟨rfl, trivial⟩⟩⟩⟩⟩⟩ ?_
            exact S_Vo_shireOn_87 hE hK11 _ _ _ _ _ _ _ h
          · replace h := h.2 q
            refine j_aload hE (by decide +kernel : decode cX9_shireOn 74 = .ok (.aload 6, 2)) rfl ?_
            obtain ⟨hk, h⟩ := h
            refine j_getI hE fg_X9_56 hk (by decide +kernel : decode cX9_shireOn 76 = .ok (.getfield 56, 3)) ?_
            obtain ⟨x7, hx⟩ : ∃ z, z = (Gi g5 1026 a6) := ⟨_, rfl⟩; replace h := h x7 hx; rw [← hx]
            refine j_istore_n hE (by decide +kernel : decode cX9_shireOn 79 = .ok (.istore_n 3, 1)) rfl (Nat.le_of_ble_eq_true rfl) rfl ?_
            refine j_aload hE (by decide +kernel : decode cX9_shireOn 80 = .ok (.aload 6, 2)) rfl ?_
            obtain ⟨hk, h⟩ := h
            refine j_getI hE fg_X9_53 hk (by decide +kernel : decode cX9_shireOn 82 = .ok (.getfield 53, 3)) ?_
            obtain ⟨x8, hx⟩ : ∃ z, z = (Gi g5 1025 a6) := ⟨_, rfl⟩; replace h := h x8 hx; rw [← hx]
            refine j_istore hE (by decide +kernel : decode cX9_shireOn 85 = .ok (.istore 4, 2)) (Nat.le_of_ble_eq_true rfl) rfl ?_
            refine j_weak [some (.ref l0), some (.int l1), some (.int l2), some (.int x7), some (.int x8), some (.int l5), none] ⟨rfl, ⟨rfl, ⟨rfl, ⟨rfl, ⟨rfl, ⟨rfl, trivial⟩⟩⟩⟩⟩⟩ ?_
            exact S_Vo_shireOn_87 hE hK11 _ _ _ _ _ _ _ h
set_option maxRecDepth 100000 in
def B_Vo_shireOn_0 (Γ : GAM) (K11 : Nat → Int32 → Int32 → Int32 → Int32 → Int32 → GH → Prop) (K : Int32 → GH → Prop) (th : Nat) (p0 : Int32) (p1 : Int32) (g : GH) : Prop :=
  Kd g th = 11 ∧ ∀ x1 : Int32, x1 = (Gi g 1280 th) → K11 th p0 p1 x1 (-1 : Int32) (0 : Int32) g
set_option maxHeartbeats 4000000 in
set_option maxRecDepth 100000 in
theorem S_Vo_shireOn_0 {Γ : GAM} {E : EV} {K : Int32 → GH → Prop} (hE : GE Γ E cX9_shireOn 7 RX9 (some (.int)) 3 64 (fun r g' => ∃ x, r = some (.int x) ∧ K x g')) {K11 : Nat → Int32 → Int32 → Int32 → Int32 → Int32 → GH → Prop} (hK11 : ∀ (l0 : Nat) (l1 : Int32) (l2 : Int32) (l3 : Int32) (l4 : Int32) (l5 : Int32) (g : GH), K11 l0 l1 l2 l3 l4 l5 g → JW Γ E 11 [some (.ref l0), some (.int l1), some (.int l2), some (.int l3), some (.int l4), some (.int l5), none] [] g) (th : Nat) (p0 : Int32) (p1 : Int32) (g : GH) (h : B_Vo_shireOn_0 Γ K11 K th p0 p1 g) : JW Γ E 0 [some (.ref th), some (.int p0), some (.int p1), none, none, none, none] [] g := by
  unfold B_Vo_shireOn_0 at h
  refine j_aload_n hE (by decide +kernel : decode cX9_shireOn 0 = .ok (.aload_n 0, 1)) rfl rfl ?_
  obtain ⟨hk, h⟩ := h
  refine j_getI hE fg_X9_28 hk (by decide +kernel : decode cX9_shireOn 1 = .ok (.getfield 28, 3)) ?_
  obtain ⟨x1, hx⟩ : ∃ z, z = (Gi g 1280 th) := ⟨_, rfl⟩; replace h := h x1 hx; rw [← hx]
  refine j_istore_n hE (by decide +kernel : decode cX9_shireOn 4 = .ok (.istore_n 3, 1)) rfl (Nat.le_of_ble_eq_true rfl) rfl ?_
  refine j_iconst hE (by decide +kernel : decode cX9_shireOn 5 = .ok (.iconst (-1), 1)) (v := (-1 : Int32)) (by decide) ?_
  refine j_istore hE (by decide +kernel : decode cX9_shireOn 6 = .ok (.istore 4, 2)) (Nat.le_of_ble_eq_true rfl) rfl ?_
  refine j_iconst hE (by decide +kernel : decode cX9_shireOn 8 = .ok (.iconst 0, 1)) (v := (0 : Int32)) (by decide) ?_
  refine j_istore hE (by decide +kernel : decode cX9_shireOn 9 = .ok (.istore 5, 2)) (Nat.le_of_ble_eq_true rfl) rfl ?_
  exact hK11 _ _ _ _ _ _ _ h
set_option maxHeartbeats 4000000 in
set_option maxRecDepth 100000 in
theorem rl_Vo_shireOn {Γ : GAM} {l : Launch} {th : Nat} {p0 : Int32} {p1 : Int32} {g : GH} {K : Int32 → GH → Prop} (I11 : Nat → Nat → Int32 → Int32 → Int32 → Int32 → Int32 → GH → Prop) (hh11 : ∀ n (l0 : Nat) (l1 : Int32) (l2 : Int32) (l3 : Int32) (l4 : Int32) (l5 : Int32) (g : GH), I11 n l0 l1 l2 l3 l4 l5 g → B_Vo_shireOn_11 Γ (fun l0 l1 l2 l3 l4 l5 g => ∃ m, m < n ∧ I11 m l0 l1 l2 l3 l4 l5 g) K l0 l1 l2 l3 l4 l5 g) (h0 : B_Vo_shireOn_0 Γ (fun l0 l1 l2 l3 l4 l5 g => ∃ m, I11 m l0 l1 l2 l3 l4 l5 g) K th p0 p1 g) : MetA Γ l yX9_shireOn cX9_shireOn 7 (some (.int)) 3 64 [.ref th, .int p0, .int p1] g (fun r g' => ∃ x, r = some (.int x) ∧ K x g') := by
  refine MetA.introL (Lx := [some (.ref th), some (.int p0), some (.int p1), none, none, none, none]) (by decide) (Nat.le_of_ble_eq_true rfl) rfl rfl ?_
  intro E hEl hE hnm
  have hall : ∀ n, (∀ (l0 : Nat) (l1 : Int32) (l2 : Int32) (l3 : Int32) (l4 : Int32) (l5 : Int32) (g : GH), I11 n l0 l1 l2 l3 l4 l5 g → JW Γ E 11 [some (.ref l0), some (.int l1), some (.int l2), some (.int l3), some (.int l4), some (.int l5), none] [] g) := by
    intro n
    induction n using Nat.strongRecOn with
    | ind n ih =>
      exact fun l0 l1 l2 l3 l4 l5 g hi => S_Vo_shireOn_11 hE (fun l0 l1 l2 l3 l4 l5 g hm => by obtain ⟨m, hm, h⟩ := hm; exact (ih m hm) l0 l1 l2 l3 l4 l5 g h) l0 l1 l2 l3 l4 l5 g (hh11 n l0 l1 l2 l3 l4 l5 g hi)
  exact S_Vo_shireOn_0 hE (fun l0 l1 l2 l3 l4 l5 g hm => by obtain ⟨m, h⟩ := hm; exact (hall m) l0 l1 l2 l3 l4 l5 g h) th p0 p1 g h0
theorem mt_Vo_shireOn {Γ : GAM} {l : Launch} (th : Nat) (p0 : Int32) (p1 : Int32) (g : GH) (K : Int32 → GH → Prop) (h : Sp_Vo_shireOn Γ th p0 p1 g K) : MetA Γ l yX9_shireOn cX9_shireOn 7 (some (.int)) 3 64 [.ref th, .int p0, .int p1] g (fun r g' => ∃ x, r = some (.int x) ∧ K x g') := by
  obtain ⟨al, L, hkd, hal, hL, hK⟩ := h
  have hlen := hL.len
  refine rl_Vo_shireOn (fun n l0 l1 l2 l3 l4 l5 g' => g = g' ∧ th = l0 ∧ p0 = l1 ∧ p1 = l2 ∧ ∃ k, k ≤ L.length ∧ n = L.length - k ∧ l5 = nI k ∧ (l3, l4) = (L.take k).foldl (lS p0 p1) (Gi g 1280 th, -1)) ?_ ?_
  · rintro n l0 l1 l2 l3 l4 l5 g' ⟨rfl, rfl, rfl, rfl, k, hk, rfl, rfl, hf⟩
    suffices H : ∀ K11 : Nat → Int32 → Int32 → Int32 → Int32 → Int32 → GH → Prop, (∀ a b y, L[k]? = some y → (a, b) = lS p0 p1 (l3, l4) y → K11 th p0 p1 a b (nI (k + 1)) g) → B_Vo_shireOn_11 Γ K11 K th p0 p1 l3 l4 (nI k) g from
      H _ (fun a b y hy e => ⟨L.length - (k + 1), by have := (List.getElem?_eq_some_iff.mp hy).1; omega, rfl, rfl, rfl, rfl, k + 1, (List.getElem?_eq_some_iff.mp hy).1, rfl, rfl, by rw [fold_take _ _ _ hy, ← hf]; exact e⟩)
    intro K11 hn
    unfold B_Vo_shireOn_11 B_Vo_shireOn_87
    refine ⟨hkd, al, hal, hL.kd, hL.sz ?_⟩
    rw [nj_le (by omega) (by omega)]
    refine ⟨fun u => ?_, fun u => ⟨hkd, al, hal, hL.kd, hL.at (by omega) (fun x y hy hT => ?_)⟩⟩
    · rw [List.take_of_length_le u] at hf
      rw [← hf] at hK; exact hK
    · obtain ⟨⟨_, t0⟩, t1, t2, t3, t4⟩ := hT
      have hn2 := fun a b => hn a b y hy
      unfold lS at hn2
      rw [t1, t2, t3, t4, nj_s]
      have hno : ¬ (y.1 = 1 ∧ y.2.2.2 ≤ p1 ∧ y.2.1 ≤ p0 ∧ l4 ≤ y.2.1) → K11 th p0 p1 l3 l4 (nI (k + 1)) g := fun z => hn2 _ _ (by rw [if_neg z])
      refine ⟨t0, t0, fun z => hno (fun w => z w.1), fun z1 => ⟨t0, fun z => hno (fun w => absurd w.2.1 (Int32.not_le.mpr z)), fun z2 => ⟨t0, fun z => hno (fun w => absurd w.2.2.1 (Int32.not_le.mpr z)), fun z3 => ⟨t0, fun z => hno (fun w => absurd w.2.2.2 (Int32.not_le.mpr z)), fun z4 => ⟨t0, ?_⟩⟩⟩⟩⟩
      rintro _ rfl
      refine ⟨t0, ?_⟩
      rintro _ rfl
      exact hn2 _ _ (by rw [if_pos ⟨z1, Int32.not_lt.mp z2, Int32.not_lt.mp z3, Int32.not_lt.mp z4⟩])
  · unfold B_Vo_shireOn_0
    refine ⟨hkd, ?_⟩
    rintro _ rfl
    exact ⟨_, rfl, rfl, rfl, rfl, 0, Nat.zero_le _, rfl, nj_0, rfl⟩
/-- a voter's booth, a row -/
def lB (q : Int32) (a : Int32) (y : Tl) : Int32 := if y.1 = 2 ∧ y.2.2.2 ≤ q then y.2.1 else a
theorem LOG.x {Γ : GAM} {m : Nat} {g g' : GH} {al : Nat} {L : List Tl} {fs : List Nat} (h : LOG Γ g al L) (hx : FrX m fs [] g g') (hm : Kd g m = 11) : LOG Γ g' al L := by
  obtain ⟨xs, ⟨⟨h1, h1'⟩, h2, h3, d, ⟨h4, h5, h6⟩, h7, h8, h9, h10⟩, k2, k3⟩ := h
  obtain ⟨⟨x1, x2, x3, x4, x5, x6, x7, x8, x9, x10, x11, x12⟩, y1, y2⟩ := hx
  refine ⟨xs, ⟨⟨by rw [x11]; exact h1, by rw [x6]; exact h1'⟩, by rw [x1 2 al (fun e => by rw [e] at h1'; omega)]; exact h2, h3, d, ⟨by rw [x2]; exact h4, by rw [x11]; exact h5, by rw [x6]; exact h6⟩, by rw [x9]; exact h7, by rw [x9]; exact h8, ?_, fun i x hi => by rw [x4]; exact h10 i x hi⟩, k2, fun i x y hi hy => ?_⟩
  · unfold free at h9 ⊢
    rw [x6, x7, x8, x9]; exact h9
  · obtain ⟨⟨t0, t0'⟩, t1, t2, t3, t4⟩ := k3 i x y hi hy
    have hne : x ≠ m := fun e => by rw [e] at t0'; omega
    exact ⟨⟨by rw [x11]; exact t0, by rw [x6]; exact t0'⟩, by rw [x1 _ _ hne]; exact t1, by rw [x1 _ _ hne]; exact t2, by rw [x1 _ _ hne]; exact t3, by rw [x1 _ _ hne]; exact t4⟩
def Sp_Vo_learn (Γ : GAM) (m : Nat) (q : Int32) (g : GH) (K : GH → Prop) : Prop := ∃ al L, Kd g m = 11 ∧ Gr g 1283 m = some al ∧ LOG Γ g al L ∧ ∀ g', FrX m [1285, 1286, 1287, 1288] [] g g' → Gi g' 1285 m = 0 → Gi g' 1286 m = 0 → Gi g' 1287 m = -1 → Gi g' 1288 m = L.foldl (lB q) (-1) → K g'
-- the walk of Vo_learn
set_option maxRecDepth 100000 in
def B_Vo_learn_69 (Γ : GAM) (K22 : Nat → Int32 → Int32 → GH → Prop) (K : GH → Prop) (l0 : Nat) (l1 : Int32) (l2 : Int32) (g : GH) : Prop :=
  K22 l0 l1 (l2 + (1 : Int32)) g
set_option maxHeartbeats 4000000 in
set_option maxRecDepth 100000 in
theorem S_Vo_learn_69 {Γ : GAM} {E : EV} {K : GH → Prop} (hE : GE Γ E cX9_learn 4 RX9 none 3 64 (fun r g' => r = none ∧ K g')) {K22 : Nat → Int32 → Int32 → GH → Prop} (hK22 : ∀ (l0 : Nat) (l1 : Int32) (l2 : Int32) (g : GH), K22 l0 l1 l2 g → JW Γ E 22 [some (.ref l0), some (.int l1), some (.int l2), none] [] g) (l0 : Nat) (l1 : Int32) (l2 : Int32) (g : GH) (h : B_Vo_learn_69 Γ K22 K l0 l1 l2 g) : JW Γ E 69 [some (.ref l0), some (.int l1), some (.int l2), none] [] g := by
  unfold B_Vo_learn_69 at h
  refine j_iinc hE (by decide +kernel : decode cX9_learn 69 = .ok (.iinc 2 1, 3)) (v := (1 : Int32)) (by decide) rfl (Nat.le_of_ble_eq_true rfl) rfl ?_
  refine j_goto hE (by decide +kernel : decode cX9_learn 72 = .ok (.goto (-50), 3)) (tgt := 22) (by decide) ?_
  exact hK22 _ _ _ _ h
set_option maxRecDepth 100000 in
def B_Vo_learn_22 (Γ : GAM) (K22 : Nat → Int32 → Int32 → GH → Prop) (K : GH → Prop) (l0 : Nat) (l1 : Int32) (l2 : Int32) (g : GH) : Prop :=
  Kd g l0 = 11 ∧ ∃ a1 : Nat, Gr g 1283 l0 = some a1 ∧ Kd g a1 = 1 ∧ Sp_AL_size Γ a1 g (fun (x3 : Int32) (g2 : GH) => ((x3 ≤ l2 → K g2) ∧ (¬ (x3 ≤ l2) → Kd g2 l0 = 11 ∧ ∃ a4 : Nat, Gr g2 1283 l0 = some a4 ∧ Kd g2 a4 = 1 ∧ Sp_AL_get Γ a4 l2 g2 (fun (a6 : Nat) (g5 : GH) => Kd g5 a6 = 9 ∧ Kd g5 a6 = 9 ∧ ((¬ ((Gi g5 1024 a6) = (2 : Int32)) → B_Vo_learn_69 Γ K22 K l0 l1 l2 g5) ∧ ((Gi g5 1024 a6) = (2 : Int32) → Kd g5 a6 = 9 ∧ ((l1 < (Gi g5 1027 a6) → B_Vo_learn_69 Γ K22 K l0 l1 l2 g5) ∧ (¬ (l1 < (Gi g5 1027 a6)) → Kd g5 a6 = 9 ∧ Kd g5 l0 = 11 ∧ ∀ g7 : GH, g7 = sI g5 1288 l0 (Gi g5 1025 a6) → B_Vo_learn_69 Γ K22 K l0 l1 l2 g7))))))))
set_option maxHeartbeats 4000000 in
set_option maxRecDepth 100000 in
theorem S_Vo_learn_22 {Γ : GAM} {E : EV} {K : GH → Prop} (hE : GE Γ E cX9_learn 4 RX9 none 3 64 (fun r g' => r = none ∧ K g')) {K22 : Nat → Int32 → Int32 → GH → Prop} (hK22 : ∀ (l0 : Nat) (l1 : Int32) (l2 : Int32) (g : GH), K22 l0 l1 l2 g → JW Γ E 22 [some (.ref l0), some (.int l1), some (.int l2), none] [] g) (l0 : Nat) (l1 : Int32) (l2 : Int32) (g : GH) (h : B_Vo_learn_22 Γ K22 K l0 l1 l2 g) : JW Γ E 22 [some (.ref l0), some (.int l1), some (.int l2), none] [] g := by
  unfold B_Vo_learn_22 at h
  refine j_iload_n hE (by decide +kernel : decode cX9_learn 22 = .ok (.iload_n 2, 1)) rfl rfl ?_
  refine j_aload_n hE (by decide +kernel : decode cX9_learn 23 = .ok (.aload_n 0, 1)) rfl rfl ?_
  obtain ⟨hk, h⟩ := h
  obtain ⟨a1, ha, h⟩ := h
  refine j_getRn hE fg_X9_12 hk ha (by decide +kernel : decode cX9_learn 24 = .ok (.getfield 12, 3)) ?_
  obtain ⟨hk, h⟩ := h
  refine j_callV hE rfl cl_X9_37 cf_0 im_Jx4a65c_size_8abf5 se_Jx4a65c_size_8abf5 ⟨by omega, by omega⟩ (As := []) (rest := [.int l2]) rfl rfl (Nat.le_of_ble_eq_true rfl) hk (by decide +kernel : decode cX9_learn 27 = .ok (.invokevirtual 37, 3)) (mt_AL_size _ _ _ h) ?_
  rintro _ g2 ⟨x3, rfl, h⟩
  refine j_icmp_ge hE (by decide +kernel : decode cX9_learn 30 = .ok (.if_icmp .ge 45, 3)) (tgt := 75) (by decide) (fun q => ?_) (fun q => ?_)
  · replace h := h.1 q
    exact j_vret hE (by decide +kernel : decode cX9_learn 75 = .ok (.return_, 1)) ⟨rfl, h⟩
  · replace h := h.2 q
    refine j_aload_n hE (by decide +kernel : decode cX9_learn 33 = .ok (.aload_n 0, 1)) rfl rfl ?_
    obtain ⟨hk, h⟩ := h
    obtain ⟨a4, ha, h⟩ := h
    refine j_getRn hE fg_X9_12 hk ha (by decide +kernel : decode cX9_learn 34 = .ok (.getfield 12, 3)) ?_
    refine j_iload_n hE (by decide +kernel : decode cX9_learn 37 = .ok (.iload_n 2, 1)) rfl rfl ?_
    obtain ⟨hk, h⟩ := h
    refine j_callV hE rfl cl_X9_41 cf_0 im_Jx4a65c_get_915e3 se_Jx4a65c_get_915e3 ⟨by omega, by omega⟩ (As := [.int l2]) (rest := []) rfl rfl (Nat.le_of_ble_eq_true rfl) hk (by decide +kernel : decode cX9_learn 38 = .ok (.invokevirtual 41, 3)) (mt_AL_get _ _ _ _ h) ?_
    rintro _ g5 ⟨a6, rfl, h⟩
    obtain ⟨hk, h⟩ := h
    refine j_cast hE cf_8 ck_X9_45 hk (by decide +kernel : decode cX9_learn 41 = .ok (.checkcast 45, 3)) ?_
    refine j_astore_n hE (by decide +kernel : decode cX9_learn 44 = .ok (.astore_n 3, 1)) rfl (Nat.le_of_ble_eq_true rfl) rfl ?_
    refine j_aload_n hE (by decide +kernel : decode cX9_learn 45 = .ok (.aload_n 3, 1)) rfl rfl ?_
    obtain ⟨hk, h⟩ := h
    refine j_getI hE fg_X9_47 hk (by decide +kernel : decode cX9_learn 46 = .ok (.getfield 47, 3)) ?_
    refine j_iconst hE (by decide +kernel : decode cX9_learn 49 = .ok (.iconst 2, 1)) (v := (2 : Int32)) (by decide) ?_
    refine j_icmp_ne hE (by decide +kernel : decode cX9_learn 50 = .ok (.if_icmp .ne 19, 3)) (tgt := 69) (by decide) (fun q => ?_) (fun q => ?_)
    · replace h := h.1 q
      refine j_weak [some (.ref l0), some (.int l1), some (.int l2), none] ⟨rfl, ⟨rfl, ⟨rfl, trivial⟩⟩⟩ ?_
      exact S_Vo_learn_69 hE hK22 _ _ _ _ h
    · replace h := h.2 q
      refine j_aload_n hE (by decide +kernel : decode cX9_learn 53 = .ok (.aload_n 3, 1)) rfl rfl ?_
      obtain ⟨hk, h⟩ := h
      refine j_getI hE fg_X9_50 hk (by decide +kernel : decode cX9_learn 54 = .ok (.getfield 50, 3)) ?_
      refine j_iload_n hE (by decide +kernel : decode cX9_learn 57 = .ok (.iload_n 1, 1)) rfl rfl ?_
      refine j_icmp_gt hE (by decide +kernel : decode cX9_learn 58 = .ok (.if_icmp .gt 11, 3)) (tgt := 69) (by decide) (fun q => ?_) (fun q => ?_)
      · replace h := h.1 q
        refine j_weak [some (.ref l0), some (.int l1), some (.int l2), none] ⟨rfl, ⟨rfl, ⟨rfl, trivial⟩⟩⟩ ?_
        exact S_Vo_learn_69 hE hK22 _ _ _ _ h
      · replace h := h.2 q
        refine j_aload_n hE (by decide +kernel : decode cX9_learn 61 = .ok (.aload_n 0, 1)) rfl rfl ?_
        refine j_aload_n hE (by decide +kernel : decode cX9_learn 62 = .ok (.aload_n 3, 1)) rfl rfl ?_
        obtain ⟨hk, h⟩ := h
        refine j_getI hE fg_X9_53 hk (by decide +kernel : decode cX9_learn 63 = .ok (.getfield 53, 3)) ?_
        obtain ⟨hk, h⟩ := h
        obtain ⟨g7, hg⟩ : ∃ z, z = sI g5 1288 l0 (Gi g5 1025 a6) := ⟨_, rfl⟩; replace h := h g7 hg
        refine j_putI hE fa_X9_25 hk (fun q => by cases q) (by decide +kernel : decode cX9_learn 66 = .ok (.putfield 25, 3)) ?_
        rw [← hg]
        refine j_weak [some (.ref l0), some (.int l1), some (.int l2), none] ⟨rfl, ⟨rfl, ⟨rfl, trivial⟩⟩⟩ ?_
        exact S_Vo_learn_69 hE hK22 _ _ _ _ h
set_option maxRecDepth 100000 in
def B_Vo_learn_0 (Γ : GAM) (K22 : Nat → Int32 → Int32 → GH → Prop) (K : GH → Prop) (th : Nat) (p0 : Int32) (g : GH) : Prop :=
  Kd g th = 11 ∧ ∀ g1 : GH, g1 = sI g 1285 th (0 : Int32) → Kd g1 th = 11 ∧ ∀ g2 : GH, g2 = sI g1 1286 th (0 : Int32) → Kd g2 th = 11 ∧ ∀ g3 : GH, g3 = sI g2 1287 th (-1 : Int32) → Kd g3 th = 11 ∧ ∀ g4 : GH, g4 = sI g3 1288 th (-1 : Int32) → K22 th p0 (0 : Int32) g4
set_option maxHeartbeats 4000000 in
set_option maxRecDepth 100000 in
theorem S_Vo_learn_0 {Γ : GAM} {E : EV} {K : GH → Prop} (hE : GE Γ E cX9_learn 4 RX9 none 3 64 (fun r g' => r = none ∧ K g')) {K22 : Nat → Int32 → Int32 → GH → Prop} (hK22 : ∀ (l0 : Nat) (l1 : Int32) (l2 : Int32) (g : GH), K22 l0 l1 l2 g → JW Γ E 22 [some (.ref l0), some (.int l1), some (.int l2), none] [] g) (th : Nat) (p0 : Int32) (g : GH) (h : B_Vo_learn_0 Γ K22 K th p0 g) : JW Γ E 0 [some (.ref th), some (.int p0), none, none] [] g := by
  unfold B_Vo_learn_0 at h
  refine j_aload_n hE (by decide +kernel : decode cX9_learn 0 = .ok (.aload_n 0, 1)) rfl rfl ?_
  refine j_iconst hE (by decide +kernel : decode cX9_learn 1 = .ok (.iconst 0, 1)) (v := (0 : Int32)) (by decide) ?_
  obtain ⟨hk, h⟩ := h
  obtain ⟨g1, hg⟩ : ∃ z, z = sI g 1285 th (0 : Int32) := ⟨_, rfl⟩; replace h := h g1 hg
  refine j_putI hE fa_X9_59 hk (fun q => by cases q) (by decide +kernel : decode cX9_learn 2 = .ok (.putfield 59, 3)) ?_
  rw [← hg]
  refine j_aload_n hE (by decide +kernel : decode cX9_learn 5 = .ok (.aload_n 0, 1)) rfl rfl ?_
  refine j_iconst hE (by decide +kernel : decode cX9_learn 6 = .ok (.iconst 0, 1)) (v := (0 : Int32)) (by decide) ?_
  obtain ⟨hk, h⟩ := h
  obtain ⟨g2, hg⟩ : ∃ z, z = sI g1 1286 th (0 : Int32) := ⟨_, rfl⟩; replace h := h g2 hg
  refine j_putI hE fa_X9_62 hk (fun q => by cases q) (by decide +kernel : decode cX9_learn 7 = .ok (.putfield 62, 3)) ?_
  rw [← hg]
  refine j_aload_n hE (by decide +kernel : decode cX9_learn 10 = .ok (.aload_n 0, 1)) rfl rfl ?_
  refine j_iconst hE (by decide +kernel : decode cX9_learn 11 = .ok (.iconst (-1), 1)) (v := (-1 : Int32)) (by decide) ?_
  obtain ⟨hk, h⟩ := h
  obtain ⟨g3, hg⟩ : ∃ z, z = sI g2 1287 th (-1 : Int32) := ⟨_, rfl⟩; replace h := h g3 hg
  refine j_putI hE fa_X9_21 hk (fun q => by cases q) (by decide +kernel : decode cX9_learn 12 = .ok (.putfield 21, 3)) ?_
  rw [← hg]
  refine j_aload_n hE (by decide +kernel : decode cX9_learn 15 = .ok (.aload_n 0, 1)) rfl rfl ?_
  refine j_iconst hE (by decide +kernel : decode cX9_learn 16 = .ok (.iconst (-1), 1)) (v := (-1 : Int32)) (by decide) ?_
  obtain ⟨hk, h⟩ := h
  obtain ⟨g4, hg⟩ : ∃ z, z = sI g3 1288 th (-1 : Int32) := ⟨_, rfl⟩; replace h := h g4 hg
  refine j_putI hE fa_X9_25 hk (fun q => by cases q) (by decide +kernel : decode cX9_learn 17 = .ok (.putfield 25, 3)) ?_
  rw [← hg]
  refine j_iconst hE (by decide +kernel : decode cX9_learn 20 = .ok (.iconst 0, 1)) (v := (0 : Int32)) (by decide) ?_
  refine j_istore_n hE (by decide +kernel : decode cX9_learn 21 = .ok (.istore_n 2, 1)) rfl (Nat.le_of_ble_eq_true rfl) rfl ?_
  exact hK22 _ _ _ _ h
set_option maxHeartbeats 4000000 in
set_option maxRecDepth 100000 in
theorem rl_Vo_learn {Γ : GAM} {l : Launch} {th : Nat} {p0 : Int32} {g : GH} {K : GH → Prop} (I22 : Nat → Nat → Int32 → Int32 → GH → Prop) (hh22 : ∀ n (l0 : Nat) (l1 : Int32) (l2 : Int32) (g : GH), I22 n l0 l1 l2 g → B_Vo_learn_22 Γ (fun l0 l1 l2 g => ∃ m, m < n ∧ I22 m l0 l1 l2 g) K l0 l1 l2 g) (h0 : B_Vo_learn_0 Γ (fun l0 l1 l2 g => ∃ m, I22 m l0 l1 l2 g) K th p0 g) : MetA Γ l yX9_learn cX9_learn 4 none 3 64 [.ref th, .int p0] g (fun r g' => r = none ∧ K g') := by
  refine MetA.introL (Lx := [some (.ref th), some (.int p0), none, none]) (by decide) (Nat.le_of_ble_eq_true rfl) rfl rfl ?_
  intro E hEl hE hnm
  have hall : ∀ n, (∀ (l0 : Nat) (l1 : Int32) (l2 : Int32) (g : GH), I22 n l0 l1 l2 g → JW Γ E 22 [some (.ref l0), some (.int l1), some (.int l2), none] [] g) := by
    intro n
    induction n using Nat.strongRecOn with
    | ind n ih =>
      exact fun l0 l1 l2 g hi => S_Vo_learn_22 hE (fun l0 l1 l2 g hm => by obtain ⟨m, hm, h⟩ := hm; exact (ih m hm) l0 l1 l2 g h) l0 l1 l2 g (hh22 n l0 l1 l2 g hi)
  exact S_Vo_learn_0 hE (fun l0 l1 l2 g hm => by obtain ⟨m, h⟩ := hm; exact (hall m) l0 l1 l2 g h) th p0 g h0
theorem mt_Vo_learn {Γ : GAM} {l : Launch} (th : Nat) (p0 : Int32) (g : GH) (K : GH → Prop) (h : Sp_Vo_learn Γ th p0 g K) : MetA Γ l yX9_learn cX9_learn 4 none 3 64 [.ref th, .int p0] g (fun r g' => r = none ∧ K g') := by
  obtain ⟨al, L, hkd, hal, hL, hK⟩ := h
  have hlen := hL.len
  refine rl_Vo_learn (fun n l0 l1 l2 g' => th = l0 ∧ p0 = l1 ∧ ∃ k, k ≤ L.length ∧ n = L.length - k ∧ l2 = nI k ∧ FrX th [1285, 1286, 1287, 1288] [] g g' ∧ Gi g' 1285 th = 0 ∧ Gi g' 1286 th = 0 ∧ Gi g' 1287 th = -1 ∧ Gi g' 1288 th = (L.take k).foldl (lB p0) (-1)) ?_ ?_
  · rintro n l0 l1 l2 g' ⟨rfl, rfl, k, hk, rfl, rfl, hfx, v1, v2, v3, hf⟩
    have hkd' : Kd g' th = 11 := by rw [hfx.1.2.2.2.2.2.1]; exact hkd
    have hal' : Gr g' 1283 th = some al := by rw [hfx.1.2.1]; exact hal
    have hL' := hL.x hfx hkd
    suffices H : ∀ K22 : Nat → Int32 → Int32 → GH → Prop, (∀ g2 y, L[k]? = some y → FrX th [1285, 1286, 1287, 1288] [] g g2 → Gi g2 1285 th = 0 → Gi g2 1286 th = 0 → Gi g2 1287 th = -1 → Gi g2 1288 th = lB p0 (Gi g' 1288 th) y → K22 th p0 (nI (k + 1)) g2) → B_Vo_learn_22 Γ K22 K th p0 (nI k) g' from
      H _ (fun g2 y hy h1 h2 h3 h4 h5 => ⟨L.length - (k + 1), by have := (List.getElem?_eq_some_iff.mp hy).1; omega, rfl, rfl, k + 1, (List.getElem?_eq_some_iff.mp hy).1, rfl, rfl, h1, h2, h3, h4, by rw [fold_take _ _ _ hy, ← hf]; exact h5⟩)
    intro K22 hn
    unfold B_Vo_learn_22 B_Vo_learn_69
    refine ⟨hkd', al, hal', hL'.kd, hL'.sz ?_⟩
    rw [nj_le (by omega) (by omega)]
    refine ⟨fun u => ?_, fun u => ⟨hkd', al, hal', hL'.kd, hL'.at (by omega) (fun x y hy hT => ?_)⟩⟩
    · rw [List.take_of_length_le u] at hf
      exact hK g' hfx v1 v2 v3 hf
    · obtain ⟨⟨_, t0⟩, t1, t2, t3, t4⟩ := hT
      have hn2 := fun g2 => hn g2 y hy
      rw [t1, t2, t4, nj_s]
      unfold lB at hn2
      have hno : ¬ (y.1 = 2 ∧ y.2.2.2 ≤ p0) → K22 th p0 (nI (k + 1)) g' := fun z => hn2 g' hfx v1 v2 v3 (by rw [if_neg z])
      refine ⟨t0, t0, fun z => hno (fun w => z w.1), fun z1 => ⟨t0, fun z => hno (fun w => absurd w.2 (Int32.not_le.mpr z)), fun z2 => ⟨t0, hkd', ?_⟩⟩⟩
      rintro _ rfl
      refine hn2 _ (hfx.tr (FrX.sI (by decide))) ?_ ?_ ?_ ?_
      · rw [Gi_sI, if_neg (fun z => absurd z.1 (by decide))]; exact v1
      · rw [Gi_sI, if_neg (fun z => absurd z.1 (by decide))]; exact v2
      · rw [Gi_sI, if_neg (fun z => absurd z.1 (by decide))]; exact v3
      · rw [Gi_sI, if_pos ⟨rfl, rfl⟩, if_pos ⟨z1, Int32.not_lt.mp z2⟩]
  · unfold B_Vo_learn_0
    refine ⟨hkd, ?_⟩
    rintro _ rfl
    refine ⟨hkd, ?_⟩
    rintro _ rfl
    refine ⟨hkd, ?_⟩
    rintro _ rfl
    refine ⟨hkd, ?_⟩
    rintro _ rfl
    refine ⟨_, rfl, rfl, 0, Nat.zero_le _, rfl, nj_0, (FrX.sI (by decide)).tr ((FrX.sI (by decide)).tr ((FrX.sI (by decide)).tr (FrX.sI (by decide)))), ?_, ?_, ?_, ?_⟩
    all_goals simp [Gi_sI]
