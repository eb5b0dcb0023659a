/-! the class: its judge; the law in force, what a verdict does -/
/-- an object of a law: what lies in front of its rules -/
def LW (g : GH) (a : Nat) (y : La5) : Prop := (a < Hn g ∧ Kd g a = 5) ∧ Gi g 512 a = y.1 ∧ Gi g 513 a = y.2.1 ∧ Gi g 514 a = y.2.2.1
def JL (Γ : GAM) (m : Nat) (g : GH) (s : ST) : Prop := Kd g m = 4 ∧ ∃ al xs, Gr g 384 m = some al ∧ AC Γ g al xs ∧ xs.length = (s_law s).length ∧ ∀ (i x : Nat) (y : La5), xs[i]? = some x → (s_law s)[i]? = some y → LW g x y
def laP (o : Option (Nat × La5)) : Int32 × Int32 := match o with
  | none => (-1, -1)
  | some p => (nI p.1, p.2.2.1)
def Sp_Ju_inForce (Γ : GAM) (m : Nat) (sh d q : Int32) (g : GH) (K : Int32 → GH → Prop) : Prop := ∃ s, JL Γ m g s ∧ (∀ y ∈ s_law s, 0 ≤ y.2.1) ∧ K (oI (sLaw s sh d q)) g
-- the walk of Ju_inForce
set_option maxRecDepth 100000 in
def B_Ju_inForce_83 (Γ : GAM) (K9 : Nat → Int32 → Int32 → Int32 → Int32 → Int32 → Int32 → GH → Prop) (K : Int32 → GH → Prop) (l0 : Nat) (l1 : Int32) (l2 : Int32) (l3 : Int32) (l4 : Int32) (l5 : Int32) (l6 : Int32) (g : GH) : Prop :=
  K9 l0 l1 l2 l3 l4 l5 (l6 + (1 : Int32)) g
set_option maxHeartbeats 4000000 in
set_option maxRecDepth 100000 in
theorem S_Ju_inForce_83 {Γ : GAM} {E : EV} {K : Int32 → GH → Prop} (hE : GE Γ E cX2_inForce 8 RX2 (some (.int)) 3 64 (fun r g' => ∃ x, r = some (.int x) ∧ K x g')) {K9 : Nat → Int32 → Int32 → Int32 → Int32 → Int32 → Int32 → GH → Prop} (hK9 : ∀ (l0 : Nat) (l1 : Int32) (l2 : Int32) (l3 : Int32) (l4 : Int32) (l5 : Int32) (l6 : Int32) (g : GH), K9 l0 l1 l2 l3 l4 l5 l6 g → JW Γ E 9 [some (.ref l0), some (.int l1), some (.int l2), some (.int l3), some (.int l4), some (.int l5), some (.int l6), none] [] g) (l0 : Nat) (l1 : Int32) (l2 : Int32) (l3 : Int32) (l4 : Int32) (l5 : Int32) (l6 : Int32) (g : GH) (h : B_Ju_inForce_83 Γ K9 K l0 l1 l2 l3 l4 l5 l6 g) : JW Γ E 83 [some (.ref l0), some (.int l1), some (.int l2), some (.int l3), some (.int l4), some (.int l5), some (.int l6), none] [] g := by
  unfold B_Ju_inForce_83 at h
  refine j_iinc hE (by decide +kernel : decode cX2_inForce 83 = .ok (.iinc 6 1, 3)) (v := (1 : Int32)) (by decide) rfl (Nat.le_of_ble_eq_true rfl) rfl ?_
  refine j_goto hE (by decide +kernel : decode cX2_inForce 86 = .ok (.goto (-77), 3)) (tgt := 9) (by decide) ?_
  exact hK9 _ _ _ _ _ _ _ _ h
set_option maxRecDepth 100000 in
def B_Ju_inForce_9 (Γ : GAM) (K9 : Nat → Int32 → Int32 → Int32 → Int32 → Int32 → Int32 → GH → Prop) (K : Int32 → GH → Prop) (l0 : Nat) (l1 : Int32) (l2 : Int32) (l3 : Int32) (l4 : Int32) (l5 : Int32) (l6 : Int32) (g : GH) : Prop :=
  Kd g l0 = 4 ∧ ∃ a1 : Nat, Gr g 384 l0 = some a1 ∧ Kd g a1 = 1 ∧ Sp_AL_size Γ a1 g (fun (x3 : Int32) (g2 : GH) => ((x3 ≤ l6 → K l4 g2) ∧ (¬ (x3 ≤ l6) → Kd g2 l0 = 4 ∧ ∃ a4 : Nat, Gr g2 384 l0 = some a4 ∧ Kd g2 a4 = 1 ∧ Sp_AL_get Γ a4 l6 g2 (fun (a6 : Nat) (g5 : GH) => Kd g5 a6 = 5 ∧ Kd g5 a6 = 5 ∧ ((¬ ((Gi g5 512 a6) = l1) → B_Ju_inForce_83 Γ K9 K l0 l1 l2 l3 l4 l5 l6 g5) ∧ ((Gi g5 512 a6) = l1 → Kd g5 a6 = 5 ∧ ((l3 < (Gi g5 514 a6) → B_Ju_inForce_83 Γ K9 K l0 l1 l2 l3 l4 l5 l6 g5) ∧ (¬ (l3 < (Gi g5 514 a6)) → Kd g5 a6 = 5 ∧ ((l2 < (Gi g5 513 a6) → B_Ju_inForce_83 Γ K9 K l0 l1 l2 l3 l4 l5 l6 g5) ∧ (¬ (l2 < (Gi g5 513 a6)) → Kd g5 a6 = 5 ∧ (((Gi g5 513 a6) < l5 → B_Ju_inForce_83 Γ K9 K l0 l1 l2 l3 l4 l5 l6 g5) ∧ (¬ ((Gi g5 513 a6) < l5) → Kd g5 a6 = 5 ∧ ∀ x7 : Int32, x7 = (Gi g5 513 a6) → B_Ju_inForce_83 Γ K9 K l0 l1 l2 l3 l6 x7 l6 g5))))))))))))
set_option maxHeartbeats 4000000 in
set_option maxRecDepth 100000 in
theorem S_Ju_inForce_9 {Γ : GAM} {E : EV} {K : Int32 → GH → Prop} (hE : GE Γ E cX2_inForce 8 RX2 (some (.int)) 3 64 (fun r g' => ∃ x, r = some (.int x) ∧ K x g')) {K9 : Nat → Int32 → Int32 → Int32 → Int32 → Int32 → Int32 → GH → Prop} (hK9 : ∀ (l0 : Nat) (l1 : Int32) (l2 : Int32) (l3 : Int32) (l4 : Int32) (l5 : Int32) (l6 : Int32) (g : GH), K9 l0 l1 l2 l3 l4 l5 l6 g → JW Γ E 9 [some (.ref l0), some (.int l1), some (.int l2), some (.int l3), some (.int l4), some (.int l5), some (.int l6), none] [] g) (l0 : Nat) (l1 : Int32) (l2 : Int32) (l3 : Int32) (l4 : Int32) (l5 : Int32) (l6 : Int32) (g : GH) (h : B_Ju_inForce_9 Γ K9 K l0 l1 l2 l3 l4 l5 l6 g) : JW Γ E 9 [some (.ref l0), some (.int l1), some (.int l2), some (.int l3), some (.int l4), some (.int l5), some (.int l6), none] [] g := by
  unfold B_Ju_inForce_9 at h
  refine j_iload hE (by decide +kernel : decode cX2_inForce 9 = .ok (.iload 6, 2)) rfl ?_
  refine j_aload_n hE (by decide +kernel : decode cX2_inForce 11 = .ok (.aload_n 0, 1)) rfl rfl ?_
  obtain ⟨hk, h⟩ := h
  obtain ⟨a1, ha, h⟩ := h
  refine j_getRn hE fg_X2_12 hk ha (by decide +kernel : decode cX2_inForce 12 = .ok (.getfield 12, 3)) ?_
  obtain ⟨hk, h⟩ := h
  refine j_callV hE rfl cl_X2_22 cf_0 im_Jx4a65c_size_8abf5 se_Jx4a65c_size_8abf5 ⟨by omega, by omega⟩ (As := []) (rest := [.int l6]) rfl rfl (Nat.le_of_ble_eq_true rfl) hk (by decide +kernel : decode cX2_inForce 15 = .ok (.invokevirtual 22, 3)) (mt_AL_size _ _ _ h) ?_
  rintro _ g2 ⟨x3, rfl, h⟩
  refine j_icmp_ge hE (by decide +kernel : decode cX2_inForce 18 = .ok (.if_icmp .ge 71, 3)) (tgt := 89) (by decide) (fun q => ?_) (fun q => ?_)
  · replace h := h.1 q
    refine j_iload hE (by decide +kernel : decode cX2_inForce 89 = .ok (.iload 4, 2)) rfl ?_
    exact j_iret hE (by decide +kernel : decode cX2_inForce 91 = .ok (.ireturn, 1)) ⟨_, rfl, h⟩
  · replace h := h.2 q
    refine j_aload_n hE (by decide +kernel : decode cX2_inForce 21 = .ok (.aload_n 0, 1)) rfl rfl ?_
    obtain ⟨hk, h⟩ := h
    obtain ⟨a4, ha, h⟩ := h
    refine j_getRn hE fg_X2_12 hk ha (by decide +kernel : decode cX2_inForce 22 = .ok (.getfield 12, 3)) ?_
    refine j_iload hE (by decide +kernel : decode cX2_inForce 25 = .ok (.iload 6, 2)) rfl ?_
    obtain ⟨hk, h⟩ := h
    refine j_callV hE rfl cl_X2_26 cf_0 im_Jx4a65c_get_915e3 se_Jx4a65c_get_915e3 ⟨by omega, by omega⟩ (As := [.int l6]) (rest := []) rfl rfl (Nat.le_of_ble_eq_true rfl) hk (by decide +kernel : decode cX2_inForce 27 = .ok (.invokevirtual 26, 3)) (mt_AL_get _ _ _ _ h) ?_
    rintro _ g5 ⟨a6, rfl, h⟩
    obtain ⟨hk, h⟩ := h
    refine j_cast hE cf_4 ck_X2_30 hk (by decide +kernel : decode cX2_inForce 30 = .ok (.checkcast 30, 3)) ?_
    refine j_astore hE (by decide +kernel : decode cX2_inForce 33 = .ok (.astore 7, 2)) (Nat.le_of_ble_eq_true rfl) rfl ?_
    refine j_aload hE (by decide +kernel : decode cX2_inForce 35 = .ok (.aload 7, 2)) rfl ?_
    obtain ⟨hk, h⟩ := h
    refine j_getI hE fg_X2_32 hk (by decide +kernel : decode cX2_inForce 37 = .ok (.getfield 32, 3)) ?_
    refine j_iload_n hE (by decide +kernel : decode cX2_inForce 40 = .ok (.iload_n 1, 1)) rfl rfl ?_
    refine j_icmp_ne hE (by decide +kernel : decode cX2_inForce 41 = .ok (.if_icmp .ne 42, 3)) (tgt := 83) (by decide) (fun q => ?_) (fun q => ?_)
    · replace h := h.1 q
      refine j_weak [some (.ref l0), some (.int l1), some (.int l2), some (.int l3), some (.int l4), some (.int l5), some (.int l6), none] ⟨rfl, ⟨rfl, ⟨rfl, ⟨rfl, ⟨rfl, ⟨rfl, ⟨rfl, trivial⟩⟩⟩⟩⟩⟩⟩ ?_
      exact S_Ju_inForce_83 hE hK9 _ _ _ _ _ _ _ _ h
    · replace h := h.2 q
      refine j_aload hE (by decide +kernel : decode cX2_inForce 44 = .ok (.aload 7, 2)) rfl ?_
      obtain ⟨hk, h⟩ := h
      refine j_getI hE fg_X2_36 hk (by decide +kernel : decode cX2_inForce 46 = .ok (.getfield 36, 3)) ?_
      refine j_iload_n hE (by decide +kernel : decode cX2_inForce 49 = .ok (.iload_n 3, 1)) rfl rfl ?_
      refine j_icmp_gt hE (by decide +kernel : decode cX2_inForce 50 = .ok (.if_icmp .gt 33, 3)) (tgt := 83) (by decide) (fun q => ?_) (fun q => ?_)
      · replace h := h.1 q
        refine j_weak [some (.ref l0), some (.int l1), some (.int l2), some (.int l3), some (.int l4), some (.int l5), some (.int l6), none] ⟨rfl, ⟨rfl, ⟨rfl, ⟨rfl, ⟨rfl, ⟨rfl, ⟨rfl, trivial⟩⟩⟩⟩⟩⟩⟩ ?_
        exact S_Ju_inForce_83 hE hK9 _ _ _ _ _ _ _ _ h
      · replace h := h.2 q
        refine j_aload hE (by decide +kernel : decode cX2_inForce 53 = .ok (.aload 7, 2)) rfl ?_
        obtain ⟨hk, h⟩ := h
        refine j_getI hE fg_X2_39 hk (by decide +kernel : decode cX2_inForce 55 = .ok (.getfield 39, 3)) ?_
        refine j_iload_n hE (by decide +kernel : decode cX2_inForce 58 = .ok (.iload_n 2, 1)) rfl rfl ?_
        refine j_icmp_gt hE (by decide +kernel : decode cX2_inForce 59 = .ok (.if_icmp .gt 24, 3)) (tgt := 83) (by decide) (fun q => ?_) (fun q => ?_)
        · replace h := h.1 q
          refine j_weak [some (.ref l0), some (.int l1), some (.int l2), some (.int l3), some (.int l4), some (.int l5), some (.int l6), none] ⟨rfl, ⟨rfl, ⟨rfl, ⟨rfl, ⟨rfl, ⟨rfl, ⟨rfl, trivial⟩⟩⟩⟩⟩⟩⟩ ?_
          exact S_Ju_inForce_83 hE hK9 _ _ _ _ _ _ _ _ h
        · replace h := h.2 q
          refine j_aload hE (by decide +kernel : decode cX2_inForce 62 = .ok (.aload 7, 2)) rfl ?_
          obtain ⟨hk, h⟩ := h
          refine j_getI hE fg_X2_39 hk (by decide +kernel : decode cX2_inForce 64 = .ok (.getfield 39, 3)) ?_
          refine j_iload hE (by decide +kernel : decode cX2_inForce 67 = .ok (.iload 5, 2)) rfl ?_
          refine j_icmp_lt hE (by decide +kernel : decode cX2_inForce 69 = .ok (.if_icmp .lt 14, 3)) (tgt := 83) (by decide) (fun q => ?_) (fun q => ?_)
          · replace h := h.1 q
            refine j_weak [some (.ref l0), some (.int l1), some (.int l2), some (.int l3), some (.int l4), some (.int l5), some (.int l6), none] ⟨rfl, ⟨rfl, ⟨rfl, ⟨rfl, ⟨rfl, ⟨rfl, ⟨rfl, trivial⟩⟩⟩⟩⟩⟩⟩ ?_
            exact S_Ju_inForce_83 hE hK9 _ _ _ _ _ _ _ _ h
          · replace h := h.2 q
            refine j_iload hE (by decide +kernel : decode cX2_inForce 72 = .ok (.iload 6, 2)) rfl ?_
            refine j_istore hE (by decide +kernel : decode cX2_inForce 74 = .ok (.istore 4, 2)) (Nat.le_of_ble_eq_true rfl) rfl ?_
            refine j_aload hE (by decide +kernel : decode cX2_inForce 76 = .ok (.aload 7, 2)) rfl ?_
            obtain ⟨hk, h⟩ := h
            refine j_getI hE fg_X2_39 hk (by decide +kernel : decode cX2_inForce 78 = .ok (.getfield 39, 3)) ?_
            obtain ⟨x7, hx⟩ : ∃ z, z = (Gi g5 513 a6) := ⟨_, rfl⟩; replace h := h x7 hx; rw [← hx]
            refine j_istore hE (by decide +kernel : decode cX2_inForce 81 = .ok (.istore 5, 2)) (Nat.le_of_ble_eq_true rfl) rfl ?_
            refine j_weak [some (.ref l0), some (.int l1), some (.int l2), some (.int l3), some (.int l6), some (.int x7), some (.int l6), none] ⟨rfl, ⟨rfl, ⟨rfl, ⟨rfl, ⟨rfl, ⟨rfl, ⟨rfl, trivial⟩⟩⟩⟩⟩⟩⟩ ?_
            exact S_Ju_inForce_83 hE hK9 _ _ _ _ _ _ _ _ h
set_option maxRecDepth 100000 in
def B_Ju_inForce_0 (Γ : GAM) (K9 : Nat → Int32 → Int32 → Int32 → Int32 → Int32 → Int32 → GH → Prop) (K : Int32 → GH → Prop) (th : Nat) (p0 : Int32) (p1 : Int32) (p2 : Int32) (g : GH) : Prop :=
  K9 th p0 p1 p2 (-1 : Int32) (-1 : Int32) (0 : Int32) g
set_option maxHeartbeats 4000000 in
set_option maxRecDepth 100000 in
theorem S_Ju_inForce_0 {Γ : GAM} {E : EV} {K : Int32 → GH → Prop} (hE : GE Γ E cX2_inForce 8 RX2 (some (.int)) 3 64 (fun r g' => ∃ x, r = some (.int x) ∧ K x g')) {K9 : Nat → Int32 → Int32 → Int32 → Int32 → Int32 → Int32 → GH → Prop} (hK9 : ∀ (l0 : Nat) (l1 : Int32) (l2 : Int32) (l3 : Int32) (l4 : Int32) (l5 : Int32) (l6 : Int32) (g : GH), K9 l0 l1 l2 l3 l4 l5 l6 g → JW Γ E 9 [some (.ref l0), some (.int l1), some (.int l2), some (.int l3), some (.int l4), some (.int l5), some (.int l6), none] [] g) (th : Nat) (p0 : Int32) (p1 : Int32) (p2 : Int32) (g : GH) (h : B_Ju_inForce_0 Γ K9 K th p0 p1 p2 g) : JW Γ E 0 [some (.ref th), some (.int p0), some (.int p1), some (.int p2), none, none, none, none] [] g := by
  unfold B_Ju_inForce_0 at h
  refine j_iconst hE (by decide +kernel : decode cX2_inForce 0 = .ok (.iconst (-1), 1)) (v := (-1 : Int32)) (by decide) ?_
  refine j_istore hE (by decide +kernel : decode cX2_inForce 1 = .ok (.istore 4, 2)) (Nat.le_of_ble_eq_true rfl) rfl ?_
  refine j_iconst hE (by decide +kernel : decode cX2_inForce 3 = .ok (.iconst (-1), 1)) (v := (-1 : Int32)) (by decide) ?_
  refine j_istore hE (by decide +kernel : decode cX2_inForce 4 = .ok (.istore 5, 2)) (Nat.le_of_ble_eq_true rfl) rfl ?_
  refine j_iconst hE (by decide +kernel : decode cX2_inForce 6 = .ok (.iconst 0, 1)) (v := (0 : Int32)) (by decide) ?_
  refine j_istore hE (by decide +kernel : decode cX2_inForce 7 = .ok (.istore 6, 2)) (Nat.le_of_ble_eq_true rfl) rfl ?_
  exact hK9 _ _ _ _ _ _ _ _ h
set_option maxHeartbeats 4000000 in
set_option maxRecDepth 100000 in
theorem rl_Ju_inForce {Γ : GAM} {l : Launch} {th : Nat} {p0 : Int32} {p1 : Int32} {p2 : Int32} {g : GH} {K : Int32 → GH → Prop} (I9 : Nat → Nat → Int32 → Int32 → Int32 → Int32 → Int32 → Int32 → GH → Prop) (hh9 : ∀ n (l0 : Nat) (l1 : Int32) (l2 : Int32) (l3 : Int32) (l4 : Int32) (l5 : Int32) (l6 : Int32) (g : GH), I9 n l0 l1 l2 l3 l4 l5 l6 g → B_Ju_inForce_9 Γ (fun l0 l1 l2 l3 l4 l5 l6 g => ∃ m, m < n ∧ I9 m l0 l1 l2 l3 l4 l5 l6 g) K l0 l1 l2 l3 l4 l5 l6 g) (h0 : B_Ju_inForce_0 Γ (fun l0 l1 l2 l3 l4 l5 l6 g => ∃ m, I9 m l0 l1 l2 l3 l4 l5 l6 g) K th p0 p1 p2 g) : MetA Γ l yX2_inForce cX2_inForce 8 (some (.int)) 3 64 [.ref th, .int p0, .int p1, .int p2] g (fun r g' => ∃ x, r = some (.int x) ∧ K x g') := by
  refine MetA.introL (Lx := [some (.ref th), some (.int p0), some (.int p1), some (.int p2), none, none, none, none]) (by decide) (Nat.le_of_ble_eq_true rfl) rfl rfl ?_
  intro E hEl hE hnm
  have hall : ∀ n, (∀ (l0 : Nat) (l1 : Int32) (l2 : Int32) (l3 : Int32) (l4 : Int32) (l5 : Int32) (l6 : Int32) (g : GH), I9 n l0 l1 l2 l3 l4 l5 l6 g → JW Γ E 9 [some (.ref l0), some (.int l1), some (.int l2), some (.int l3), some (.int l4), some (.int l5), some (.int l6), none] [] g) := by
    intro n
    induction n using Nat.strongRecOn with
    | ind n ih =>
      exact fun l0 l1 l2 l3 l4 l5 l6 g hi => S_Ju_inForce_9 hE (fun l0 l1 l2 l3 l4 l5 l6 g hm => by obtain ⟨m, hm, h⟩ := hm; exact (ih m hm) l0 l1 l2 l3 l4 l5 l6 g h) l0 l1 l2 l3 l4 l5 l6 g (hh9 n l0 l1 l2 l3 l4 l5 l6 g hi)
  exact S_Ju_inForce_0 hE (fun l0 l1 l2 l3 l4 l5 l6 g hm => by obtain ⟨m, h⟩ := hm; exact (hall m) l0 l1 l2 l3 l4 l5 l6 g h) th p0 p1 p2 g h0
theorem mt_Ju_inForce {Γ : GAM} {l : Launch} (th : Nat) (p0 : Int32) (p1 : Int32) (p2 : Int32) (g : GH) (K : Int32 → GH → Prop) (h : Sp_Ju_inForce Γ th p0 p1 p2 g K) : MetA Γ l yX2_inForce cX2_inForce 8 (some (.int)) 3 64 [.ref th, .int p0, .int p1, .int p2] g (fun r g' => ∃ x, r = some (.int x) ∧ K x g') := by
  obtain ⟨s, ⟨hkd, al, xs, hal, hA, hlen, hrow⟩, hpos, hK⟩ := h
  have hA0 := hA.1.2
  have hsz : Gi g 2 al = nI (s_law s).length := by rw [hA.2.1, hlen]
  have hl1000 : (s_law s).length ≤ 1000 := by rw [← hlen]; exact hA.2.2.1
  refine rl_Ju_inForce (fun n l0 l1 l2 l3 l4 l5 l6 g' => g = g' ∧ th = l0 ∧ p0 = l1 ∧ p1 = l2 ∧ p2 = l3 ∧ ∃ k, k ≤ (s_law s).length ∧ n = (s_law s).length - k ∧ l6 = nI k ∧ (l4, l5) = laP (((s_law s).zipIdx.take k).foldl (laS p0 p1 p2) none)) ?_ ⟨_, rfl, rfl, rfl, rfl, rfl, 0, Nat.zero_le _, rfl, nj_0, rfl⟩
  rintro n l0 l1 l2 l3 l4 l5 l6 g' ⟨rfl, rfl, rfl, rfl, rfl, k, hk, rfl, rfl, hf⟩
  suffices H : ∀ K9 : Nat → Int32 → Int32 → Int32 → Int32 → Int32 → Int32 → GH → Prop, (∀ a b y, (s_law s)[k]? = some y → (a, b) = laP (laS p0 p1 p2 (((s_law s).zipIdx.take k).foldl (laS p0 p1 p2) none) (y, k)) → K9 th p0 p1 p2 a b (nI (k + 1)) g) → B_Ju_inForce_9 Γ K9 K th p0 p1 p2 l4 l5 (nI k) g from
    H _ (fun a b y hy e => ⟨(s_law s).length - (k + 1), by have := (List.getElem?_eq_some_iff.mp hy).1; omega, rfl, rfl, rfl, rfl, rfl, k + 1, (List.getElem?_eq_some_iff.mp hy).1, rfl, rfl, by rw [fold_take _ _ _ (zip_get hy)]; exact e⟩)
  intro K9 hn
  generalize hF : ((s_law s).zipIdx.take k).foldl (laS p0 p1 p2) none = F at hf hn
  unfold B_Ju_inForce_9 B_Ju_inForce_83
  refine ⟨hkd, al, hal, hA0, hA0, ?_⟩
  rw [hsz]
  refine ⟨fun u => ?_, fun u => ?_⟩
  · replace u := (nj_le (by omega) (by omega)).mp u
    rw [List.take_of_length_le (by rw [List.length_zipIdx]; exact u)] at hF
    have e : l4 = oI (sLaw s p0 p1 p2) := by
      have h1 : sLaw s p0 p1 p2 = F := hF
      rw [h1]
      have := congrArg Prod.fst hf
      simp only at this
      rw [this]
      cases F <;> rfl
    rw [e]; exact hK
  · have u2 : ¬ (s_law s).length ≤ k := fun z => u ((nj_le (by omega) (by omega)).mpr z)
    obtain ⟨y, hy⟩ := get_lt (show k < (s_law s).length by omega)
    obtain ⟨x, hx⟩ := get_lt (show k < xs.length by omega)
    obtain ⟨⟨_, t0⟩, t1, t2, t3⟩ := hrow k x y hx hy
    refine ⟨hkd, al, hal, hA0, xs, k, x, hA, rfl, hx, t0, t0, ?_⟩
    rw [t1, t2, t3, nj_s]
    have hn2 := fun a b => hn a b y hy
    have hB : laB F y.2.1 = true ↔ l5 ≤ y.2.1 := by
      have h2 := congrArg Prod.snd hf
      simp only at h2
      cases F with
      | none =>
        rw [h2]
        exact ⟨fun _ => Int32.le_trans (by decide) (hpos y (List.mem_of_getElem? hy)), fun _ => rfl⟩
      | some p =>
        rw [h2]
        unfold laB laP
        simp
    unfold laS at hn2
    simp only [hB] at hn2
    have hno : ¬ (y.1 = p0 ∧ y.2.2.1 ≤ p2 ∧ y.2.1 ≤ p1 ∧ l5 ≤ y.2.1) → K9 th p0 p1 p2 l4 l5 (nI (k + 1)) g := fun z => hn2 _ _ (by rw [if_neg z]; exact hf)
    refine ⟨fun z => hno (fun w => z w.1), fun z1 => ⟨t0, fun z => hno (fun w => absurd w.2.1 (Int32.not_le.mpr z)), fun z2 => ⟨t0, fun z => hno (fun w => absurd w.2.2.1 (Int32.not_le.mpr z)), fun z3 => ⟨t0, fun z => hno (fun w => absurd w.2.2.2 (Int32.not_le.mpr z)), fun z4 => ⟨t0, ?_⟩⟩⟩⟩⟩
    rintro _ rfl
    exact hn2 _ _ (by rw [if_pos ⟨z1, Int32.not_lt.mp z2, Int32.not_lt.mp z3, Int32.not_lt.mp z4⟩]; rfl)
/-- what a verdict makes of an envelope: its state, its reason -/
def aCu (c n q : Int32) : Int32 × Option Int32 := if c ≠ -1 ∧ ¬ n < c then (2, none) else if n < q then (4, some 9990) else (3, none)
def vPa (v n c q : Int32) : Int32 × Option Int32 := if v = 103 then (2, none) else if v = 118 then (4, some n) else if v = 119 then (3, none) else aCu c n q
def Sp_Ju_awaitCure (Γ : GAM) (m e : Nat) (n q : Int32) (g : GH) (K : GH → Prop) : Prop := E2 e g ∧ ∀ g', FrX e [140, 141] [] g g' → Gi g' 140 e = (aCu (Ia g 135 e 6) n q).1 → Gi g' 141 e = (aCu (Ia g 135 e 6) n q).2.getD (Gi g 141 e) → K g'
-- the walk of Ju_awaitCure
set_option maxRecDepth 100000 in
def B_Ju_awaitCure_54 (Γ : GAM) (K : GH → Prop)  (g : GH) : Prop :=
  K g
set_option maxHeartbeats 4000000 in
set_option maxRecDepth 100000 in
theorem S_Ju_awaitCure_54 {Γ : GAM} {E : EV} {K : GH → Prop} (hE : GE Γ E cX2_awaitCure 5 RX2 none 0 0 (fun r g' => r = none ∧ K g'))  (g : GH) (h : B_Ju_awaitCure_54 Γ K  g) : JW Γ E 54 [none, none, none, none, none] [] g := by
  unfold B_Ju_awaitCure_54 at h
  exact j_vret hE (by decide +kernel : decode cX2_awaitCure 54 = .ok (.return_, 1)) ⟨rfl, h⟩
set_option maxRecDepth 100000 in
def B_Ju_awaitCure_29 (Γ : GAM) (K : GH → Prop) (l1 : Nat) (l2 : Int32) (l3 : Int32) (g : GH) : Prop :=
  ((l2 < l3 → Kd g l1 = 2 ∧ ∀ g1 : GH, g1 = sI g 140 l1 (4 : Int32) → Kd g1 l1 = 2 ∧ ∀ g2 : GH, g2 = sI g1 141 l1 (9990 : Int32) → B_Ju_awaitCure_54 Γ K g2) ∧ (¬ (l2 < l3) → Kd g l1 = 2 ∧ ∀ g3 : GH, g3 = sI g 140 l1 (3 : Int32) → B_Ju_awaitCure_54 Γ K g3))
set_option maxHeartbeats 4000000 in
set_option maxRecDepth 100000 in
theorem S_Ju_awaitCure_29 {Γ : GAM} {E : EV} {K : GH → Prop} (hE : GE Γ E cX2_awaitCure 5 RX2 none 0 0 (fun r g' => r = none ∧ K g')) (l1 : Nat) (l2 : Int32) (l3 : Int32) (g : GH) (h : B_Ju_awaitCure_29 Γ K l1 l2 l3 g) : JW Γ E 29 [none, some (.ref l1), some (.int l2), some (.int l3), none] [] g := by
  unfold B_Ju_awaitCure_29 at h
  refine j_iload_n hE (by decide +kernel : decode cX2_awaitCure 29 = .ok (.iload_n 3, 1)) rfl rfl ?_
  refine j_iload_n hE (by decide +kernel : decode cX2_awaitCure 30 = .ok (.iload_n 2, 1)) rfl rfl ?_
  refine j_icmp_gt hE (by decide +kernel : decode cX2_awaitCure 31 = .ok (.if_icmp .gt 11, 3)) (tgt := 42) (by decide) (fun q => ?_) (fun q => ?_)
  · replace h := h.1 q
    refine j_aload_n hE (by decide +kernel : decode cX2_awaitCure 42 = .ok (.aload_n 1, 1)) rfl rfl ?_
    refine j_iconst hE (by decide +kernel : decode cX2_awaitCure 43 = .ok (.iconst 4, 1)) (v := (4 : Int32)) (by decide) ?_
    obtain ⟨hk, h⟩ := h
    obtain ⟨g1, hg⟩ : ∃ z, z = sI g 140 l1 (4 : Int32) := ⟨_, rfl⟩; replace h := h g1 hg
    refine j_putI hE fa_X2_59 hk (fun q => by cases q) (by decide +kernel : decode cX2_awaitCure 44 = .ok (.putfield 59, 3)) ?_
    rw [← hg]
    refine j_aload_n hE (by decide +kernel : decode cX2_awaitCure 47 = .ok (.aload_n 1, 1)) rfl rfl ?_
    refine j_sipush hE (by decide +kernel : decode cX2_awaitCure 48 = .ok (.sipush 9990, 3)) (v := (9990 : Int32)) (by decide) ?_
    obtain ⟨hk, h⟩ := h
    obtain ⟨g2, hg⟩ : ∃ z, z = sI g1 141 l1 (9990 : Int32) := ⟨_, rfl⟩; replace h := h g2 hg
    refine j_putI hE fa_X2_79 hk (fun q => by cases q) (by decide +kernel : decode cX2_awaitCure 51 = .ok (.putfield 79, 3)) ?_
    rw [← hg]
    refine j_weak [none, none, none, none, none] trivial ?_
    exact S_Ju_awaitCure_54 hE _ h
  · replace h := h.2 q
    refine j_aload_n hE (by decide +kernel : decode cX2_awaitCure 34 = .ok (.aload_n 1, 1)) rfl rfl ?_
    refine j_iconst hE (by decide +kernel : decode cX2_awaitCure 35 = .ok (.iconst 3, 1)) (v := (3 : Int32)) (by decide) ?_
    obtain ⟨hk, h⟩ := h
    obtain ⟨g3, hg⟩ : ∃ z, z = sI g 140 l1 (3 : Int32) := ⟨_, rfl⟩; replace h := h g3 hg
    refine j_putI hE fa_X2_59 hk (fun q => by cases q) (by decide +kernel : decode cX2_awaitCure 36 = .ok (.putfield 59, 3)) ?_
    rw [← hg]
    refine j_goto hE (by decide +kernel : decode cX2_awaitCure 39 = .ok (.goto 15, 3)) (tgt := 54) (by decide) ?_
    refine j_weak [none, none, none, none, none] trivial ?_
    exact S_Ju_awaitCure_54 hE _ h
set_option maxRecDepth 100000 in
def B_Ju_awaitCure_0 (Γ : GAM) (K : GH → Prop) (th : Nat) (p0 : Nat) (p1 : Int32) (p2 : Int32) (g : GH) : Prop :=
  Kd g p0 = 2 ∧ ∃ a1 : Nat, Gr g 135 p0 = some a1 ∧ Kd g a1 = 20 ∧ inB (6 : Int32) (Ln g a1) ∧ ∀ x2 : Int32, x2 = (Ia g (Co g a1) (Ow g a1) (6 : Int32).toNatClampNeg) → ((x2 = (-1 : Int32) → B_Ju_awaitCure_29 Γ K p0 p1 p2 g) ∧ (¬ (x2 = (-1 : Int32)) → ((p1 < x2 → B_Ju_awaitCure_29 Γ K p0 p1 p2 g) ∧ (¬ (p1 < x2) → Kd g p0 = 2 ∧ ∀ g3 : GH, g3 = sI g 140 p0 (2 : Int32) → B_Ju_awaitCure_54 Γ K g3))))
set_option maxHeartbeats 4000000 in
set_option maxRecDepth 100000 in
theorem S_Ju_awaitCure_0 {Γ : GAM} {E : EV} {K : GH → Prop} (hE : GE Γ E cX2_awaitCure 5 RX2 none 0 0 (fun r g' => r = none ∧ K g')) (th : Nat) (p0 : Nat) (p1 : Int32) (p2 : Int32) (g : GH) (h : B_Ju_awaitCure_0 Γ K th p0 p1 p2 g) : JW Γ E 0 [some (.ref th), some (.ref p0), some (.int p1), some (.int p2), none] [] g := by
  unfold B_Ju_awaitCure_0 at h
  refine j_aload_n hE (by decide +kernel : decode cX2_awaitCure 0 = .ok (.aload_n 1, 1)) rfl rfl ?_
  obtain ⟨hk, h⟩ := h
  obtain ⟨a1, ha, h⟩ := h
  refine j_getRn hE fg_X2_86 hk ha (by decide +kernel : decode cX2_awaitCure 1 = .ok (.getfield 86, 3)) ?_
  refine j_bipush hE (by decide +kernel : decode cX2_awaitCure 4 = .ok (.bipush 6, 2)) (v := (6 : Int32)) (by decide) ?_
  obtain ⟨hk, hb, h⟩ := h
  refine j_iald hE hk hb (by decide +kernel : decode cX2_awaitCure 6 = .ok (.iaload, 1)) ?_
  obtain ⟨x2, hx⟩ : ∃ z, z = (Ia g (Co g a1) (Ow g a1) (6 : Int32).toNatClampNeg) := ⟨_, rfl⟩; replace h := h x2 hx; rw [← hx]
  refine j_istore hE (by decide +kernel : decode cX2_awaitCure 7 = .ok (.istore 4, 2)) (Nat.le_of_ble_eq_true rfl) rfl ?_
  refine j_iload hE (by decide +kernel : decode cX2_awaitCure 9 = .ok (.iload 4, 2)) rfl ?_
  refine j_iconst hE (by decide +kernel : decode cX2_awaitCure 11 = .ok (.iconst (-1), 1)) (v := (-1 : Int32)) (by decide) ?_
  refine j_icmp_eq hE (by decide +kernel : decode cX2_awaitCure 12 = .ok (.if_icmp .eq 17, 3)) (tgt := 29) (by decide) (fun q => ?_) (fun q => ?_)
  · replace h := h.1 q
    refine j_weak [none, some (.ref p0), some (.int p1), some (.int p2), none] ⟨rfl, ⟨rfl, ⟨rfl, trivial⟩⟩⟩ ?_
    exact S_Ju_awaitCure_29 hE _ _ _ _ h
  · replace h := h.2 q
    refine j_iload hE (by decide +kernel : decode cX2_awaitCure 15 = .ok (.iload 4, 2)) rfl ?_
    refine j_iload_n hE (by decide +kernel : decode cX2_awaitCure 17 = .ok (.iload_n 2, 1)) rfl rfl ?_
    refine j_icmp_gt hE (by decide +kernel : decode cX2_awaitCure 18 = .ok (.if_icmp .gt 11, 3)) (tgt := 29) (by decide) (fun q => ?_) (fun q => ?_)
    · replace h := h.1 q
      refine j_weak [none, some (.ref p0), some (.int p1), some (.int p2), none] ⟨rfl, ⟨rfl, ⟨rfl, trivial⟩⟩⟩ ?_
      exact S_Ju_awaitCure_29 hE _ _ _ _ h
    · replace h := h.2 q
      refine j_aload_n hE (by decide +kernel : decode cX2_awaitCure 21 = .ok (.aload_n 1, 1)) rfl rfl ?_
      refine j_iconst hE (by decide +kernel : decode cX2_awaitCure 22 = .ok (.iconst 2, 1)) (v := (2 : Int32)) (by decide) ?_
      obtain ⟨hk, h⟩ := h
      obtain ⟨g3, hg⟩ : ∃ z, z = sI g 140 p0 (2 : Int32) := ⟨_, rfl⟩; replace h := h g3 hg
      refine j_putI hE fa_X2_59 hk (fun q => by cases q) (by decide +kernel : decode cX2_awaitCure 23 = .ok (.putfield 59, 3)) ?_
      rw [← hg]
      refine j_goto hE (by decide +kernel : decode cX2_awaitCure 26 = .ok (.goto 28, 3)) (tgt := 54) (by decide) ?_
      refine j_weak [none, none, none, none, none] trivial ?_
      exact S_Ju_awaitCure_54 hE _ h
set_option maxHeartbeats 4000000 in
set_option maxRecDepth 100000 in
theorem rl_Ju_awaitCure {Γ : GAM} {l : Launch} {th : Nat} {p0 : Nat} {p1 : Int32} {p2 : Int32} {g : GH} {K : GH → Prop} (h0 : B_Ju_awaitCure_0 Γ K th p0 p1 p2 g) : MetA Γ l yX2_awaitCure cX2_awaitCure 5 none 0 0 [.ref th, .ref p0, .int p1, .int p2] g (fun r g' => r = none ∧ K g') := by
  refine MetA.introL (Lx := [some (.ref th), some (.ref p0), some (.int p1), some (.int p2), none]) (by decide) (Nat.le_of_ble_eq_true rfl) rfl rfl ?_
  intro E hEl hE hnm
  exact S_Ju_awaitCure_0 hE th p0 p1 p2 g h0
theorem mt_Ju_awaitCure {Γ : GAM} {l : Launch} (th : Nat) (p0 : Nat) (p1 : Int32) (p2 : Int32) (g : GH) (K : GH → Prop) (h : Sp_Ju_awaitCure Γ th p0 p1 p2 g K) : MetA Γ l yX2_awaitCure cX2_awaitCure 5 none 0 0 [.ref th, .ref p0, .int p1, .int p2] g (fun r g' => r = none ∧ K g') := by
  obtain ⟨⟨hkd, ⟨a, a1, a2, a3, a4, a5⟩, _⟩, hK⟩ := h
  refine rl_Ju_awaitCure ?_
  unfold aCu at hK
  have h29 : ¬ (Ia g 135 p0 6 ≠ -1 ∧ ¬ p1 < Ia g 135 p0 6) → B_Ju_awaitCure_29 Γ K p0 p1 p2 g := fun z => by
    rw [if_neg z] at hK
    unfold B_Ju_awaitCure_29 B_Ju_awaitCure_54
    refine ⟨fun u => ⟨hkd, ?_⟩, fun u => ⟨hkd, ?_⟩⟩
    · rintro _ rfl
      refine ⟨hkd, ?_⟩
      rintro _ rfl
      rw [if_pos u] at hK
      exact hK _ ((FrX.sI (by decide)).tr (FrX.sI (by decide))) (by simp [Gi_sI]) (by simp [Gi_sI])
    · rintro _ rfl
      rw [if_neg u] at hK
      exact hK _ (FrX.sI (by decide)) (by simp [Gi_sI]) (by simp [Gi_sI])
  unfold B_Ju_awaitCure_0 B_Ju_awaitCure_54
  refine ⟨hkd, a, a1, a2, by rw [a5]; exact ⟨by decide, by decide⟩, ?_⟩
  rw [a3, a4, show (6 : Int32).toNatClampNeg = 6 by decide]
  rintro _ rfl
  refine ⟨fun u => h29 (fun z => z.1 u), fun u => ⟨fun u2 => h29 (fun z => z.2 u2), fun u2 => ⟨hkd, ?_⟩⟩⟩
  rintro _ rfl
  rw [if_pos ⟨u, u2⟩] at hK
  exact hK _ (FrX.sI (by decide)) (by simp [Gi_sI]) (by simp [Gi_sI])
def Sp_Ju_pass (Γ : GAM) (m e : Nat) (v n q : Int32) (g : GH) (K : GH → Prop) : Prop := Kd g m = 4 ∧ E2 e g ∧ ∀ g', FrX e [140, 141] [] g g' → Gi g' 140 e = (vPa v n (Ia g 135 e 6) q).1 → Gi g' 141 e = (vPa v n (Ia g 135 e 6) q).2.getD (Gi g 141 e) → K g'
-- the walk of Ju_pass
set_option maxRecDepth 100000 in
def B_Ju_pass_73 (Γ : GAM) (K : GH → Prop)  (g : GH) : Prop :=
  K g
set_option maxHeartbeats 4000000 in
set_option maxRecDepth 100000 in
theorem S_Ju_pass_73 {Γ : GAM} {E : EV} {K : GH → Prop} (hE : GE Γ E cX2_pass 5 RX2 none 1 24 (fun r g' => r = none ∧ K g'))  (g : GH) (h : B_Ju_pass_73 Γ K  g) : JW Γ E 73 [none, none, none, none, none] [] g := by
  unfold B_Ju_pass_73 at h
  exact j_vret hE (by decide +kernel : decode cX2_pass 73 = .ok (.return_, 1)) ⟨rfl, h⟩
set_option maxRecDepth 100000 in
def B_Ju_pass_0 (Γ : GAM) (K : GH → Prop) (th : Nat) (p0 : Nat) (p1 : Int32) (p2 : Int32) (p3 : Int32) (g : GH) : Prop :=
  ((p1 = (103 : Int32) → Kd g p0 = 2 ∧ ∀ g1 : GH, g1 = sI g 140 p0 (2 : Int32) → B_Ju_pass_73 Γ K g1) ∧ (¬ (p1 = (103 : Int32)) → ((p1 = (118 : Int32) → Kd g p0 = 2 ∧ ∀ g2 : GH, g2 = sI g 140 p0 (4 : Int32) → Kd g2 p0 = 2 ∧ ∀ g3 : GH, g3 = sI g2 141 p0 p2 → B_Ju_pass_73 Γ K g3) ∧ (¬ (p1 = (118 : Int32)) → ((p1 = (119 : Int32) → Kd g p0 = 2 ∧ ∀ g4 : GH, g4 = sI g 140 p0 (3 : Int32) → B_Ju_pass_73 Γ K g4) ∧ (¬ (p1 = (119 : Int32)) → Kd g th = 4 ∧ Sp_Ju_awaitCure Γ th p0 p2 p3 g (fun (g5 : GH) => B_Ju_pass_73 Γ K g5)))))))
set_option maxHeartbeats 4000000 in
set_option maxRecDepth 100000 in
theorem S_Ju_pass_0 {Γ : GAM} {E : EV} {K : GH → Prop} (hE : GE Γ E cX2_pass 5 RX2 none 1 24 (fun r g' => r = none ∧ K g')) (th : Nat) (p0 : Nat) (p1 : Int32) (p2 : Int32) (p3 : Int32) (g : GH) (h : B_Ju_pass_0 Γ K th p0 p1 p2 p3 g) : JW Γ E 0 [some (.ref th), some (.ref p0), some (.int p1), some (.int p2), some (.int p3)] [] g := by
  unfold B_Ju_pass_0 at h
  refine j_iload_n hE (by decide +kernel : decode cX2_pass 0 = .ok (.iload_n 2, 1)) rfl rfl ?_
  by_cases q0 : p1 = (103 : Int32)
  · replace h := h.1 q0
    refine j_lookup hE (by decide +kernel : decode cX2_pass 1 = .ok (.lookupswitch 64 #[(103, 35), (118, 51), (119, 43)], 35)) (by decide) (off := 35) (by rw [q0]; decide) (tgt := 36) (by decide) ?_
    refine j_aload_n hE (by decide +kernel : decode cX2_pass 36 = .ok (.aload_n 1, 1)) rfl rfl ?_
    refine j_iconst hE (by decide +kernel : decode cX2_pass 37 = .ok (.iconst 2, 1)) (v := (2 : Int32)) (by decide) ?_
    obtain ⟨hk, h⟩ := h
    obtain ⟨g1, hg⟩ : ∃ z, z = sI g 140 p0 (2 : Int32) := ⟨_, rfl⟩; replace h := h g1 hg
    refine j_putI hE fa_X2_59 hk (fun q => by cases q) (by decide +kernel : decode cX2_pass 38 = .ok (.putfield 59, 3)) ?_
    rw [← hg]
    refine j_goto hE (by decide +kernel : decode cX2_pass 41 = .ok (.goto 32, 3)) (tgt := 73) (by decide) ?_
    refine j_weak [none, none, none, none, none] trivial ?_
    exact S_Ju_pass_73 hE _ h
  · replace h := h.2 q0
    by_cases q1 : p1 = (118 : Int32)
    · replace h := h.1 q1
      refine j_lookup hE (by decide +kernel : decode cX2_pass 1 = .ok (.lookupswitch 64 #[(103, 35), (118, 51), (119, 43)], 35)) (by decide) (off := 51) (by rw [q1]; decide) (tgt := 52) (by decide) ?_
      refine j_aload_n hE (by decide +kernel : decode cX2_pass 52 = .ok (.aload_n 1, 1)) rfl rfl ?_
      refine j_iconst hE (by decide +kernel : decode cX2_pass 53 = .ok (.iconst 4, 1)) (v := (4 : Int32)) (by decide) ?_
      obtain ⟨hk, h⟩ := h
      obtain ⟨g2, hg⟩ : ∃ z, z = sI g 140 p0 (4 : Int32) := ⟨_, rfl⟩; replace h := h g2 hg
      refine j_putI hE fa_X2_59 hk (fun q => by cases q) (by decide +kernel : decode cX2_pass 54 = .ok (.putfield 59, 3)) ?_
      rw [← hg]
      refine j_aload_n hE (by decide +kernel : decode cX2_pass 57 = .ok (.aload_n 1, 1)) rfl rfl ?_
      refine j_iload_n hE (by decide +kernel : decode cX2_pass 58 = .ok (.iload_n 3, 1)) rfl rfl ?_
      obtain ⟨hk, h⟩ := h
      obtain ⟨g3, hg⟩ : ∃ z, z = sI g2 141 p0 p2 := ⟨_, rfl⟩; replace h := h g3 hg
      refine j_putI hE fa_X2_79 hk (fun q => by cases q) (by decide +kernel : decode cX2_pass 59 = .ok (.putfield 79, 3)) ?_
      rw [← hg]
      refine j_goto hE (by decide +kernel : decode cX2_pass 62 = .ok (.goto 11, 3)) (tgt := 73) (by decide) ?_
      refine j_weak [none, none, none, none, none] trivial ?_
      exact S_Ju_pass_73 hE _ h
    · replace h := h.2 q1
      by_cases q2 : p1 = (119 : Int32)
      · replace h := h.1 q2
        refine j_lookup hE (by decide +kernel : decode cX2_pass 1 = .ok (.lookupswitch 64 #[(103, 35), (118, 51), (119, 43)], 35)) (by decide) (off := 43) (by rw [q2]; decide) (tgt := 44) (by decide) ?_
        refine j_aload_n hE (by decide +kernel : decode cX2_pass 44 = .ok (.aload_n 1, 1)) rfl rfl ?_
        refine j_iconst hE (by decide +kernel : decode cX2_pass 45 = .ok (.iconst 3, 1)) (v := (3 : Int32)) (by decide) ?_
        obtain ⟨hk, h⟩ := h
        obtain ⟨g4, hg⟩ : ∃ z, z = sI g 140 p0 (3 : Int32) := ⟨_, rfl⟩; replace h := h g4 hg
        refine j_putI hE fa_X2_59 hk (fun q => by cases q) (by decide +kernel : decode cX2_pass 46 = .ok (.putfield 59, 3)) ?_
        rw [← hg]
        refine j_goto hE (by decide +kernel : decode cX2_pass 49 = .ok (.goto 24, 3)) (tgt := 73) (by decide) ?_
        refine j_weak [none, none, none, none, none] trivial ?_
        exact S_Ju_pass_73 hE _ h
      · replace h := h.2 q2
        refine j_lookup hE (by decide +kernel : decode cX2_pass 1 = .ok (.lookupswitch 64 #[(103, 35), (118, 51), (119, 43)], 35)) (by decide) (off := 64) ((lv_osw q0 (by decide)).trans ((lv_osw q1 (by decide)).trans ((lv_osw q2 (by decide)).trans (rfl)))) (tgt := 65) (by decide) ?_
        refine j_aload_n hE (by decide +kernel : decode cX2_pass 65 = .ok (.aload_n 0, 1)) rfl rfl ?_
        refine j_aload_n hE (by decide +kernel : decode cX2_pass 66 = .ok (.aload_n 1, 1)) rfl rfl ?_
        refine j_iload_n hE (by decide +kernel : decode cX2_pass 67 = .ok (.iload_n 3, 1)) rfl rfl ?_
        refine j_iload hE (by decide +kernel : decode cX2_pass 68 = .ok (.iload 4, 2)) rfl ?_
        obtain ⟨hk, h⟩ := h
        refine j_callV hE rfl cl_X2_82 cf_3 im_X2_awaitCure se_X2_awaitCure ⟨by omega, by omega⟩ (As := [.ref p0, .int p2, .int p3]) (rest := []) rfl rfl (Nat.le_of_ble_eq_true rfl) hk (by decide +kernel : decode cX2_pass 70 = .ok (.invokevirtual 82, 3)) (mt_Ju_awaitCure _ _ _ _ _ _ h) ?_
        rintro _ g5 ⟨rfl, h⟩
        refine j_weak [none, none, none, none, none] trivial ?_
        exact S_Ju_pass_73 hE _ h
set_option maxHeartbeats 4000000 in
set_option maxRecDepth 100000 in
theorem rl_Ju_pass {Γ : GAM} {l : Launch} {th : Nat} {p0 : Nat} {p1 : Int32} {p2 : Int32} {p3 : Int32} {g : GH} {K : GH → Prop} (h0 : B_Ju_pass_0 Γ K th p0 p1 p2 p3 g) : MetA Γ l yX2_pass cX2_pass 5 none 1 24 [.ref th, .ref p0, .int p1, .int p2, .int p3] g (fun r g' => r = none ∧ K g') := by
  refine MetA.introL (Lx := [some (.ref th), some (.ref p0), some (.int p1), some (.int p2), some (.int p3)]) (by decide) (Nat.le_of_ble_eq_true rfl) rfl rfl ?_
  intro E hEl hE hnm
  exact S_Ju_pass_0 hE th p0 p1 p2 p3 g h0
theorem mt_Ju_pass {Γ : GAM} {l : Launch} (th : Nat) (p0 : Nat) (p1 : Int32) (p2 : Int32) (p3 : Int32) (g : GH) (K : GH → Prop) (h : Sp_Ju_pass Γ th p0 p1 p2 p3 g K) : MetA Γ l yX2_pass cX2_pass 5 none 1 24 [.ref th, .ref p0, .int p1, .int p2, .int p3] g (fun r g' => r = none ∧ K g') := by
  obtain ⟨hkm, hE, hK⟩ := h
  have hkd := hE.1
  refine rl_Ju_pass ?_
  unfold vPa at hK
  unfold B_Ju_pass_0 B_Ju_pass_73
  refine ⟨fun u => ⟨hkd, ?_⟩, fun n1 => ?_⟩
  · rintro _ rfl
    rw [if_pos u] at hK
    exact hK _ (FrX.sI (by decide)) (by simp [Gi_sI]) (by simp [Gi_sI])
  rw [if_neg n1] at hK
  refine ⟨fun u => ⟨hkd, ?_⟩, fun n2 => ?_⟩
  · rintro _ rfl
    refine ⟨hkd, ?_⟩
    rintro _ rfl
    rw [if_pos u] at hK
    exact hK _ ((FrX.sI (by decide)).tr (FrX.sI (by decide))) (by simp [Gi_sI]) (by simp [Gi_sI])
  rw [if_neg n2] at hK
  refine ⟨fun u => ⟨hkd, ?_⟩, fun n3 => ?_⟩
  · rintro _ rfl
    rw [if_pos u] at hK
    exact hK _ (FrX.sI (by decide)) (by simp [Gi_sI]) (by simp [Gi_sI])
  rw [if_neg n3] at hK
  exact ⟨hkm, hE, hK⟩
