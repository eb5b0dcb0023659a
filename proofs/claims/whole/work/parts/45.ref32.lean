/-! the reference: round, route -/
theorem vDr_len (s : ST) : ∀ n path at' t st, (∀ p : Nat × List Nat, st = some p → p.2.length = path.length + n) → ∀ p : Nat × List Nat, vDr s n path at' t st = some p → p.2.length = path.length + n := by
  intro n
  induction n with
  | zero =>
    intro path at' t st h p hp
    have hp : vUp st (t + vRd s at' 8) path = some p := hp
    cases st with
    | none => cases hp; rfl
    | some q =>
      have hp : (if t + vRd s at' 8 < q.1 then some (t + vRd s at' 8, path) else some q) = some p := hp
      split at hp
      · cases hp; rfl
      · exact h p hp
  | succ n ih =>
    intro path at' t st h
    refine fold_inv (fun st : VB => ∀ p : Nat × List Nat, st = some p → p.2.length = path.length + (n + 1)) _ _ _ h (fun a b _ ha => ?_)
    split
    · intro p hp
      have := ih (path ++ [b]) b (vAr s at' b t) a (fun p hp => by rw [ha p hp, List.length_append]; simp; omega) p hp
      rw [this, List.length_append]; simp; omega
    · exact ha
theorem vBe_len (s : ST) (t : Nat) {p : Nat × List Nat} (h : vBe s t = some p) : p.2.length = vN s := by
  unfold vBe at h
  split at h
  · rename_i h0; cases h; exact h0.symm
  · have := vDr_len s (vN s) [] 8 t none (fun _ z => by cases z) p h
    rw [this]; simp
/-- what stands when the round has been found -/
def VR (m : Nat) (g : GH) (s : ST) (st : VB) : Prop := Gi g 1625 m = nI (vN s) ∧ Gi g 1624 m = vI st ∧ ∀ p, st = some p → p.1 ≤ 2000 ∧ ∀ i x, p.2[i]? = some x → Ia g 1622 m i = nI x
def Sp_M_findRound (Γ : GAM) (m : Nat) (p0 : Int32) (g : GH) (K : Int32 → GH → Prop) : Prop := ∃ ma s t, RefI m ma g s ∧ WF s ∧ p0 = nI t ∧ t ≤ 1440 ∧ ∀ g', FrX m [1624, 1625] [1620, 1621, 1622] g g' → VR m g' s (vBe s t) → K (if (vBe s t).isSome = true then 1 else 0) g'
-- the walk of M_findRound
set_option maxRecDepth 100000 in
def B_M_findRound_89 (Γ : GAM) (K7 : Nat → Int32 → Int32 → GH → Prop) (K : Int32 → GH → Prop) (s0 : Int32) (g : GH) : Prop :=
  ((s0 = 0 ∨ s0 = 1) ∧ K s0 g)
set_option maxHeartbeats 4000000 in
set_option maxRecDepth 100000 in
theorem S_M_findRound_89 {Γ : GAM} {E : EV} {K : Int32 → GH → Prop} (hE : GE Γ E cX11_findRound 3 RX11 (some (.boolean)) 10 535 (fun r g' => ∃ x, r = some (.int x) ∧ K x g')) {K7 : Nat → Int32 → Int32 → GH → Prop} (hK7 : ∀ (l0 : Nat) (l1 : Int32) (l2 : Int32) (g : GH), K7 l0 l1 l2 g → JW Γ E 7 [some (.ref l0), some (.int l1), some (.int l2)] [] g) (s0 : Int32) (g : GH) (h : B_M_findRound_89 Γ K7 K s0 g) : JW Γ E 89 [none, none, none] [.int s0] g := by
  unfold B_M_findRound_89 at h
  exact j_zret hE h.1 (by decide +kernel : decode cX11_findRound 89 = .ok (.ireturn, 1)) ⟨_, rfl, h.2⟩
set_option maxRecDepth 100000 in
def B_M_findRound_32 (Γ : GAM) (K7 : Nat → Int32 → Int32 → GH → Prop) (K : Int32 → GH → Prop) (l0 : Nat) (l1 : Int32) (l2 : Int32) (s0 : Int32) (s1 : Int32) (s2 : Nat) (g : GH) : Prop :=
  Kd g s2 = 13 ∧ ∀ g1 : GH, g1 = sI g 1625 s2 (s1 + s0) → Kd g1 l0 = 13 ∧ ∃ a2 : Nat, Gr g1 1620 l0 = some a2 ∧ Kd g1 a2 = 21 ∧ inB l2 (Ln g1 a2) ∧ ((0 : Int32) = 0 ∨ (0 : Int32) = 1) ∧ ∀ g3 : GH, g3 = sA g1 (Co g1 a2) (Ow g1 a2) l2.toNatClampNeg (0 : Int32) → K7 l0 l1 (l2 + (1 : Int32)) g3
set_option maxHeartbeats 4000000 in
set_option maxRecDepth 100000 in
theorem S_M_findRound_32 {Γ : GAM} {E : EV} {K : Int32 → GH → Prop} (hE : GE Γ E cX11_findRound 3 RX11 (some (.boolean)) 10 535 (fun r g' => ∃ x, r = some (.int x) ∧ K x g')) {K7 : Nat → Int32 → Int32 → GH → Prop} (hK7 : ∀ (l0 : Nat) (l1 : Int32) (l2 : Int32) (g : GH), K7 l0 l1 l2 g → JW Γ E 7 [some (.ref l0), some (.int l1), some (.int l2)] [] g) (l0 : Nat) (l1 : Int32) (l2 : Int32) (s0 : Int32) (s1 : Int32) (s2 : Nat) (g : GH) (h : B_M_findRound_32 Γ K7 K l0 l1 l2 s0 s1 s2 g) : JW Γ E 32 [some (.ref l0), some (.int l1), some (.int l2)] [.int s0, .int s1, .ref s2] g := by
  unfold B_M_findRound_32 at h
  refine j_iadd hE (by decide +kernel : decode cX11_findRound 32 = .ok (.iadd, 1)) ?_
  obtain ⟨hk, h⟩ := h
  obtain ⟨g1, hg⟩ : ∃ z, z = sI g 1625 s2 (s1 + s0) := ⟨_, rfl⟩; replace h := h g1 hg
  refine j_putI hE fa_X11_474 hk (fun q => by cases q) (by decide +kernel : decode cX11_findRound 33 = .ok (.putfield 474, 3)) ?_
  rw [← hg]
  refine j_aload_n hE (by decide +kernel : decode cX11_findRound 36 = .ok (.aload_n 0, 1)) rfl rfl ?_
  obtain ⟨hk, h⟩ := h
  obtain ⟨a2, ha, h⟩ := h
  refine j_getRn hE fg_X11_186 hk ha (by decide +kernel : decode cX11_findRound 37 = .ok (.getfield 186, 3)) ?_
  refine j_iload_n hE (by decide +kernel : decode cX11_findRound 40 = .ok (.iload_n 2, 1)) rfl rfl ?_
  refine j_iconst hE (by decide +kernel : decode cX11_findRound 41 = .ok (.iconst 0, 1)) (v := (0 : Int32)) (by decide) ?_
  obtain ⟨hk, hb, hz, h⟩ := h
  obtain ⟨g3, hg⟩ : ∃ z, z = sA g1 (Co g1 a2) (Ow g1 a2) l2.toNatClampNeg (0 : Int32) := ⟨_, rfl⟩; replace h := h g3 hg
  refine j_zast hE hk hb hz (by decide +kernel : decode cX11_findRound 42 = .ok (.bastore, 1)) ?_
  rw [← hg]
  refine j_iinc hE (by decide +kernel : decode cX11_findRound 43 = .ok (.iinc 2 1, 3)) (v := (1 : Int32)) (by decide) rfl (Nat.le_of_ble_eq_true rfl) rfl ?_
  refine j_goto hE (by decide +kernel : decode cX11_findRound 46 = .ok (.goto (-39), 3)) (tgt := 7) (by decide) ?_
  exact hK7 _ _ _ _ h
set_option maxRecDepth 100000 in
def B_M_findRound_7 (Γ : GAM) (K7 : Nat → Int32 → Int32 → GH → Prop) (K : Int32 → GH → Prop) (l0 : Nat) (l1 : Int32) (l2 : Int32) (g : GH) : Prop :=
  (((8 : Int32) ≤ l2 → Kd g l0 = 13 ∧ ∀ g1 : GH, g1 = sI g 1624 l0 (-1 : Int32) → Kd g1 l0 = 13 ∧ ((¬ ((Gi g1 1625 l0) = 0) → Kd g1 l0 = 13 ∧ Sp_M_drive Γ l0 (0 : Int32) (8 : Int32) l1 g1 (fun (g2 : GH) => Kd g2 l0 = 13 ∧ (((Gi g2 1624 l0) = (-1 : Int32) → B_M_findRound_89 Γ K7 K (0 : Int32) g2) ∧ (¬ ((Gi g2 1624 l0) = (-1 : Int32)) → B_M_findRound_89 Γ K7 K (1 : Int32) g2)))) ∧ ((Gi g1 1625 l0) = 0 → Kd g1 l0 = 13 ∧ ∀ g3 : GH, g3 = sI g1 1624 l0 l1 → K (1 : Int32) g3))) ∧ (¬ ((8 : Int32) ≤ l2) → Kd g l0 = 13 ∧ Kd g l0 = 13 ∧ ∃ a4 : Nat, Gr g 1617 l0 = some a4 ∧ Kd g a4 = 21 ∧ inB l2 (Ln g a4) ∧ (((Ia g (Co g a4) (Ow g a4) l2.toNatClampNeg) = 0 → B_M_findRound_32 Γ K7 K l0 l1 l2 (0 : Int32) (Gi g 1625 l0) l0 g) ∧ (¬ ((Ia g (Co g a4) (Ow g a4) l2.toNatClampNeg) = 0) → B_M_findRound_32 Γ K7 K l0 l1 l2 (1 : Int32) (Gi g 1625 l0) l0 g))))
set_option maxHeartbeats 4000000 in
set_option maxRecDepth 100000 in
theorem S_M_findRound_7 {Γ : GAM} {E : EV} {K : Int32 → GH → Prop} (hE : GE Γ E cX11_findRound 3 RX11 (some (.boolean)) 10 535 (fun r g' => ∃ x, r = some (.int x) ∧ K x g')) {K7 : Nat → Int32 → Int32 → GH → Prop} (hK7 : ∀ (l0 : Nat) (l1 : Int32) (l2 : Int32) (g : GH), K7 l0 l1 l2 g → JW Γ E 7 [some (.ref l0), some (.int l1), some (.int l2)] [] g) (l0 : Nat) (l1 : Int32) (l2 : Int32) (g : GH) (h : B_M_findRound_7 Γ K7 K l0 l1 l2 g) : JW Γ E 7 [some (.ref l0), some (.int l1), some (.int l2)] [] g := by
  unfold B_M_findRound_7 at h
  refine j_iload_n hE (by decide +kernel : decode cX11_findRound 7 = .ok (.iload_n 2, 1)) rfl rfl ?_
  refine j_bipush hE (by decide +kernel : decode cX11_findRound 8 = .ok (.bipush 8, 2)) (v := (8 : Int32)) (by decide) ?_
  refine j_icmp_ge hE (by decide +kernel : decode cX11_findRound 10 = .ok (.if_icmp .ge 39, 3)) (tgt := 49) (by decide) (fun q => ?_) (fun q => ?_)
  · replace h := h.1 q
    refine j_aload_n hE (by decide +kernel : decode cX11_findRound 49 = .ok (.aload_n 0, 1)) rfl rfl ?_
    refine j_iconst hE (by decide +kernel : decode cX11_findRound 50 = .ok (.iconst (-1), 1)) (v := (-1 : Int32)) (by decide) ?_
    obtain ⟨hk, h⟩ := h
    obtain ⟨g1, hg⟩ : ∃ z, z = sI g 1624 l0 (-1 : Int32) := ⟨_, rfl⟩; replace h := h g1 hg
    refine j_putI hE fa_X11_471 hk (fun q => by cases q) (by decide +kernel : decode cX11_findRound 51 = .ok (.putfield 471, 3)) ?_
    rw [← hg]
    refine j_aload_n hE (by decide +kernel : decode cX11_findRound 54 = .ok (.aload_n 0, 1)) rfl rfl ?_
    obtain ⟨hk, h⟩ := h
    refine j_getI hE fg_X11_474 hk (by decide +kernel : decode cX11_findRound 55 = .ok (.getfield 474, 3)) ?_
    refine j_if_ne hE (by decide +kernel : decode cX11_findRound 58 = .ok (.ifCond .ne 10, 3)) (tgt := 68) (by decide) (fun q => ?_) (fun q => ?_)
    · replace h := h.1 q
      refine j_aload_n hE (by decide +kernel : decode cX11_findRound 68 = .ok (.aload_n 0, 1)) rfl rfl ?_
      refine j_iconst hE (by decide +kernel : decode cX11_findRound 69 = .ok (.iconst 0, 1)) (v := (0 : Int32)) (by decide) ?_
      refine j_bipush hE (by decide +kernel : decode cX11_findRound 70 = .ok (.bipush 8, 2)) (v := (8 : Int32)) (by decide) ?_
      refine j_iload_n hE (by decide +kernel : decode cX11_findRound 72 = .ok (.iload_n 1, 1)) rfl rfl ?_
      obtain ⟨hk, h⟩ := h
      refine j_callV hE rfl cl_X11_477 cf_12 im_X11_drive se_X11_drive ⟨by omega, by omega⟩ (As := [.int (0 : Int32), .int (8 : Int32), .int l1]) (rest := []) rfl rfl (Nat.le_of_ble_eq_true rfl) hk (by decide +kernel : decode cX11_findRound 73 = .ok (.invokevirtual 477, 3)) (mt_M_drive _ _ _ _ _ _ h) ?_
      rintro _ g2 ⟨rfl, h⟩
      refine j_aload_n hE (by decide +kernel : decode cX11_findRound 76 = .ok (.aload_n 0, 1)) rfl rfl ?_
      obtain ⟨hk, h⟩ := h
      refine j_getI hE fg_X11_471 hk (by decide +kernel : decode cX11_findRound 77 = .ok (.getfield 471, 3)) ?_
      refine j_iconst hE (by decide +kernel : decode cX11_findRound 80 = .ok (.iconst (-1), 1)) (v := (-1 : Int32)) (by decide) ?_
      refine j_icmp_eq hE (by decide +kernel : decode cX11_findRound 81 = .ok (.if_icmp .eq 7, 3)) (tgt := 88) (by decide) (fun q => ?_) (fun q => ?_)
      · replace h := h.1 q
        refine j_iconst hE (by decide +kernel : decode cX11_findRound 88 = .ok (.iconst 0, 1)) (v := (0 : Int32)) (by decide) ?_
        refine j_weak [none, none, none] trivial ?_
        exact S_M_findRound_89 hE hK7 _ _ h
      · replace h := h.2 q
        refine j_iconst hE (by decide +kernel : decode cX11_findRound 84 = .ok (.iconst 1, 1)) (v := (1 : Int32)) (by decide) ?_
        refine j_goto hE (by decide +kernel : decode cX11_findRound 85 = .ok (.goto 4, 3)) (tgt := 89) (by decide) ?_
        refine j_weak [none, none, none] trivial ?_
        exact S_M_findRound_89 hE hK7 _ _ h
    · replace h := h.2 q
      refine j_aload_n hE (by decide +kernel : decode cX11_findRound 61 = .ok (.aload_n 0, 1)) rfl rfl ?_
      refine j_iload_n hE (by decide +kernel : decode cX11_findRound 62 = .ok (.iload_n 1, 1)) rfl rfl ?_
      obtain ⟨hk, h⟩ := h
      obtain ⟨g3, hg⟩ : ∃ z, z = sI g1 1624 l0 l1 := ⟨_, rfl⟩; replace h := h g3 hg
      refine j_putI hE fa_X11_471 hk (fun q => by cases q) (by decide +kernel : decode cX11_findRound 63 = .ok (.putfield 471, 3)) ?_
      rw [← hg]
      refine j_iconst hE (by decide +kernel : decode cX11_findRound 66 = .ok (.iconst 1, 1)) (v := (1 : Int32)) (by decide) ?_
      exact j_zret hE (Or.inr rfl) (by decide +kernel : decode cX11_findRound 67 = .ok (.ireturn, 1)) ⟨_, rfl, h⟩
  · replace h := h.2 q
    refine j_aload_n hE (by decide +kernel : decode cX11_findRound 13 = .ok (.aload_n 0, 1)) rfl rfl ?_
    refine j_dup hE (by decide +kernel : decode cX11_findRound 14 = .ok (.dup, 1)) rfl ?_
    obtain ⟨hk, h⟩ := h
    refine j_getI hE fg_X11_474 hk (by decide +kernel : decode cX11_findRound 15 = .ok (.getfield 474, 3)) ?_
    refine j_aload_n hE (by decide +kernel : decode cX11_findRound 18 = .ok (.aload_n 0, 1)) rfl rfl ?_
    obtain ⟨hk, h⟩ := h
    obtain ⟨a4, ha, h⟩ := h
    refine j_getRn hE fg_X11_177 hk ha (by decide +kernel : decode cX11_findRound 19 = .ok (.getfield 177, 3)) ?_
    refine j_iload_n hE (by decide +kernel : decode cX11_findRound 22 = .ok (.iload_n 2, 1)) rfl rfl ?_
    obtain ⟨hk, hb, h⟩ := h
    refine j_zald hE hk hb (by decide +kernel : decode cX11_findRound 23 = .ok (.baload, 1)) ?_
    refine j_if_eq hE (by decide +kernel : decode cX11_findRound 24 = .ok (.ifCond .eq 7, 3)) (tgt := 31) (by decide) (fun q => ?_) (fun q => ?_)
    · replace h := h.1 q
      refine j_iconst hE (by decide +kernel : decode cX11_findRound 31 = .ok (.iconst 0, 1)) (v := (0 : Int32)) (by decide) ?_
      exact S_M_findRound_32 hE hK7 _ _ _ _ _ _ _ h
    · replace h := h.2 q
      refine j_iconst hE (by decide +kernel : decode cX11_findRound 27 = .ok (.iconst 1, 1)) (v := (1 : Int32)) (by decide) ?_
      refine j_goto hE (by decide +kernel : decode cX11_findRound 28 = .ok (.goto 4, 3)) (tgt := 32) (by decide) ?_
      exact S_M_findRound_32 hE hK7 _ _ _ _ _ _ _ h
set_option maxRecDepth 100000 in
def B_M_findRound_0 (Γ : GAM) (K7 : Nat → Int32 → Int32 → GH → Prop) (K : Int32 → GH → Prop) (th : Nat) (p0 : Int32) (g : GH) : Prop :=
  Kd g th = 13 ∧ ∀ g1 : GH, g1 = sI g 1625 th (0 : Int32) → K7 th p0 (0 : Int32) g1
set_option maxHeartbeats 4000000 in
set_option maxRecDepth 100000 in
theorem S_M_findRound_0 {Γ : GAM} {E : EV} {K : Int32 → GH → Prop} (hE : GE Γ E cX11_findRound 3 RX11 (some (.boolean)) 10 535 (fun r g' => ∃ x, r = some (.int x) ∧ K x g')) {K7 : Nat → Int32 → Int32 → GH → Prop} (hK7 : ∀ (l0 : Nat) (l1 : Int32) (l2 : Int32) (g : GH), K7 l0 l1 l2 g → JW Γ E 7 [some (.ref l0), some (.int l1), some (.int l2)] [] g) (th : Nat) (p0 : Int32) (g : GH) (h : B_M_findRound_0 Γ K7 K th p0 g) : JW Γ E 0 [some (.ref th), some (.int p0), none] [] g := by
  unfold B_M_findRound_0 at h
  refine j_aload_n hE (by decide +kernel : decode cX11_findRound 0 = .ok (.aload_n 0, 1)) rfl rfl ?_
  refine j_iconst hE (by decide +kernel : decode cX11_findRound 1 = .ok (.iconst 0, 1)) (v := (0 : Int32)) (by decide) ?_
  obtain ⟨hk, h⟩ := h
  obtain ⟨g1, hg⟩ : ∃ z, z = sI g 1625 th (0 : Int32) := ⟨_, rfl⟩; replace h := h g1 hg
  refine j_putI hE fa_X11_474 hk (fun q => by cases q) (by decide +kernel : decode cX11_findRound 2 = .ok (.putfield 474, 3)) ?_
  rw [← hg]
  refine j_iconst hE (by decide +kernel : decode cX11_findRound 5 = .ok (.iconst 0, 1)) (v := (0 : Int32)) (by decide) ?_
  refine j_istore_n hE (by decide +kernel : decode cX11_findRound 6 = .ok (.istore_n 2, 1)) rfl (Nat.le_of_ble_eq_true rfl) rfl ?_
  exact hK7 _ _ _ _ h
set_option maxHeartbeats 4000000 in
set_option maxRecDepth 100000 in
theorem rl_M_findRound {Γ : GAM} {l : Launch} {th : Nat} {p0 : Int32} {g : GH} {K : Int32 → GH → Prop} (I7 : Nat → Nat → Int32 → Int32 → GH → Prop) (hh7 : ∀ n (l0 : Nat) (l1 : Int32) (l2 : Int32) (g : GH), I7 n l0 l1 l2 g → B_M_findRound_7 Γ (fun l0 l1 l2 g => ∃ m, m < n ∧ I7 m l0 l1 l2 g) K l0 l1 l2 g) (h0 : B_M_findRound_0 Γ (fun l0 l1 l2 g => ∃ m, I7 m l0 l1 l2 g) K th p0 g) : MetA Γ l yX11_findRound cX11_findRound 3 (some (.boolean)) 10 535 [.ref th, .int p0] g (fun r g' => ∃ x, r = some (.int x) ∧ K x g') := by
  refine MetA.introL (Lx := [some (.ref th), some (.int p0), none]) (by decide) (Nat.le_of_ble_eq_true rfl) rfl rfl ?_
  intro E hEl hE hnm
  have hall : ∀ n, (∀ (l0 : Nat) (l1 : Int32) (l2 : Int32) (g : GH), I7 n l0 l1 l2 g → JW Γ E 7 [some (.ref l0), some (.int l1), some (.int l2)] [] g) := by
    intro n
    induction n using Nat.strongRecOn with
    | ind n ih =>
      exact fun l0 l1 l2 g hi => S_M_findRound_7 hE (fun l0 l1 l2 g hm => by obtain ⟨m, hm, h⟩ := hm; exact (ih m hm) l0 l1 l2 g h) l0 l1 l2 g (hh7 n l0 l1 l2 g hi)
  exact S_M_findRound_0 hE (fun l0 l1 l2 g hm => by obtain ⟨m, h⟩ := hm; exact (hall m) l0 l1 l2 g h) th p0 g h0
theorem mt_M_findRound {Γ : GAM} {l : Launch} (th : Nat) (p0 : Int32) (g : GH) (K : Int32 → GH → Prop) (h : Sp_M_findRound Γ th p0 g K) : MetA Γ l yX11_findRound cX11_findRound 3 (some (.boolean)) 10 535 [.ref th, .int p0] g (fun r g' => ∃ x, r = some (.int x) ∧ K x g') := by
  obtain ⟨ma, s, t, hI, hw, rfl, ht, hK⟩ := h
  refine rl_M_findRound (fun n l0 l1 l2 g' => th = l0 ∧ nI t = l1 ∧ ∃ k, k ≤ 8 ∧ n = 8 - k ∧ l2 = nI k ∧ FrX th [1624, 1625] [1620, 1621, 1622] g g' ∧ Gi g' 1625 th = nI (((List.range 8).take k).filter (vSt s)).length ∧ ∀ i, i < k → Ia g' 1620 th i = 0) ?_ ?_
  · rintro n l0 l1 l2 g' ⟨rfl, rfl, k, hk, rfl, rfl, hfx, hT, hL⟩
    have hI' := hI.x hfx (by decide +kernel)
    obtain ⟨hkd, hS⟩ := hI'.1
    obtain ⟨z_stands1, z_stands2, z_stands3, z_stands4, z_stands5⟩ := hS 1617 21 8 rfl
    obtain ⟨z_been1, z_been2, z_been3, z_been4, z_been5⟩ := hS 1620 21 8 rfl
    suffices H : ∀ (K7 : Nat → Int32 → Int32 → GH → Prop), (∀ g2, k < 8 → FrX th [1624, 1625] [1620, 1621, 1622] g g2 → Gi g2 1625 th = nI (((List.range 8).take (k + 1)).filter (vSt s)).length → (∀ i, i < k + 1 → Ia g2 1620 th i = 0) → K7 th (nI t) (nI (k + 1)) g2) → B_M_findRound_7 Γ K7 K th (nI t) (nI k) g' from
      H _ (fun g2 hlt h1 h2 h3 => ⟨8 - (k + 1), by omega, rfl, rfl, k + 1, by omega, rfl, rfl, h1, h2, h3⟩)
    intro K7 h7
    unfold B_M_findRound_7 B_M_findRound_89
    have h8 : ((8 : Int32) ≤ nI k) ↔ 8 ≤ k := nj_le (a := 8) (by omega) (by omega)
    rw [h8]
    refine ⟨fun z => ⟨hkd, fun g1 hg1 => ?_⟩, fun z => ?_⟩
    · have hk8 : k = 8 := by omega
      subst hk8
      have hf1 : FrX th [1624, 1625] [1620, 1621, 1622] g g1 := hfx.tr (by rw [hg1]; exact FrX.sI (by decide))
      have hI1 := hI.x hf1 (by decide +kernel)
      have hkd1 := hI1.1.1
      have hT1 : Gi g1 1625 th = nI (vN s) := by rw [hg1, Gi_sI, if_neg (fun q => absurd q.1 (by decide))]; exact hT
      have hB1 : Gi g1 1624 th = -1 := by rw [hg1, Gi_sI, if_pos ⟨rfl, rfl⟩]
      have hN := vN_le s
      rw [hT1]
      refine ⟨hkd1, fun u => ?_, fun u => ⟨hkd1, fun g3 hg3 => ?_⟩⟩
      · have hN1 : 1 ≤ vN s := Classical.byContradiction (fun q => u (by rw [show vN s = 0 by omega]; rfl))
        have hvb : vBe s t = vDr s (vN s) [] 8 t none := by unfold vBe; rw [if_neg (by omega)]
        refine ⟨hkd1, vN s, hN, ma, s, [], none, 8, t, hI1, hw, by simp, hN1, rfl, rfl, rfl, by omega, .inl ⟨rfl, rfl⟩, ⟨hT1, hB1, fun p hp => (by cases hp), fun i x hx => (by simp at hx), fun b hb => ?_⟩, fun g2 hx2 hV2 => ?_⟩
        · rw [if_neg (by simp), hg1]; exact hL b hb
        · have hf2 : FrX th [1624, 1625] [1620, 1621, 1622] g g2 := hf1.tr (hx2.up (by decide) (by decide))
          have hI2 := hI.x hf2 (by decide +kernel)
          rw [← hvb] at hV2
          have hK2 := hK g2 hf2 ⟨hV2.1, hV2.2.1, hV2.2.2.1⟩
          have hv9 := hV2.2.1
          refine ⟨hI2.1.1, fun q => ?_, fun q => ?_⟩
          · rw [hv9] at q
            cases hb : vBe s t with
            | none => rw [hb] at hK2; exact ⟨.inl rfl, hK2⟩
            | some p => rw [hb] at q; exact absurd q (nI_nm1 (by have := (hV2.2.2.1 p hb).1; omega))
          · rw [hv9] at q
            cases hb : vBe s t with
            | none => rw [hb] at q; exact absurd rfl q
            | some p => rw [hb] at hK2; exact ⟨.inr rfl, hK2⟩
      · have hN0 : vN s = 0 := (nj_eq (b := 0) (by omega) (by omega)).mp u
        have hvb : vBe s t = some (t, []) := by unfold vBe; rw [if_pos hN0]
        have hf3 : FrX th [1624, 1625] [1620, 1621, 1622] g g3 := hf1.tr (by rw [hg3]; exact FrX.sI (by decide))
        have := hK g3 hf3
        rw [hvb] at this
        refine this ⟨by rw [hg3, Gi_sI, if_neg (fun q => absurd q.1 (by decide))]; exact hT1, by rw [hg3, Gi_sI, if_pos ⟨rfl, rfl⟩]; rfl, fun p hp => ?_⟩
        cases hp
        exact ⟨by omega, fun i x hx => by simp at hx⟩
    · have hlt : k < 8 := by omega
      have hib := inB_nI hlt (by omega)
      have hcb := nj_cl (show k < 2147483648 by omega)
      have hbx := hI'.box k hlt
      have hst : ((List.range 8).take (k + 1)).filter (vSt s) = ((List.range 8).take k).filter (vSt s) ++ (if vSt s k = true then [k] else []) := by
        rw [List.take_succ, List.filter_append, range_get hlt]
        congr 1
        cases hcc : vSt s k <;> simp [hcc]
      have h32 : ∀ v, v = (if vSt s k = true then (1 : Int32) else 0) → B_M_findRound_32 Γ K7 K th (nI t) (nI k) v (Gi g' 1625 th) th g' := by
        rintro v rfl
        unfold B_M_findRound_32
        refine ⟨hkd, fun g1 hg1 => ?_⟩
        have hf1 : FrX th [1624, 1625] [1620, 1621, 1622] g g1 := hfx.tr (by rw [hg1]; exact FrX.sI (by decide))
        have hI1 := hI.x hf1 (by decide +kernel)
        obtain ⟨hkd1, hS1⟩ := hI1.1
        obtain ⟨z_been1, z_been2, z_been3, z_been4, z_been5⟩ := hS1 1620 21 8 rfl
        refine ⟨hkd1, _, z_been1, z_been2, by rw [z_been5]; exact hib, .inl rfl, ?_⟩
        rw [z_been3, z_been4, hcb, nj_s]
        intro g3 hg3
        refine h7 g3 hlt (hf1.tr (by rw [hg3]; exact FrX.sA (by decide))) ?_ (fun i hi => ?_)
        · rw [hg3, Gi_sA, hg1, Gi_sI, if_pos ⟨rfl, rfl⟩, hT, hst, List.length_append]
          split
          · rw [nj_s]; rfl
          · rw [Int32.add_zero]; rfl
        · rw [hg3, Ia_sA]
          by_cases u : i = k
          · rw [if_pos ⟨rfl, rfl, u⟩]
          · rw [if_neg (fun q => u q.2.2), hg1]; exact hL i (by omega)
      refine ⟨hkd, hkd, _, z_stands1, z_stands2, by rw [z_stands5]; exact hib, ?_⟩
      rw [z_stands3, z_stands4, hcb]
      refine ⟨fun u => h32 0 ?_, fun u => h32 1 ?_⟩
      · rw [if_neg]
        intro q
        obtain ⟨_, x, hx, _⟩ := v_bx hw q
        rw [(hbx.2 x hx).1] at u
        exact absurd u (by decide)
      · rw [if_pos]
        unfold vSt
        cases hbb : s_box s k with
        | none => exact absurd (hbx.1 hbb) u
        | some x => rfl
  · unfold B_M_findRound_0
    refine ⟨hI.1.1, fun g1 hg1 => ?_⟩
    exact ⟨_, rfl, rfl, 0, Nat.zero_le _, rfl, nj_0, by rw [hg1]; exact FrX.sI (by decide), by rw [hg1, Gi_sI, if_pos ⟨rfl, rfl⟩]; rfl, fun i hi => absurd hi (Nat.not_lt_zero _)⟩
abbrev okMin (v : Int32) : Prop := 0 ≤ v ∧ v ≤ 1440
def p_round (s : ST) (p0 : Int32) : Int32 := if okMin p0 then vI (vBe s p0.toNatClampNeg) else -1
def vTr (s : ST) (t : Nat) : List Nat := match vBe s t with
  | none => []
  | some p => p.2
abbrev ok_route (s : ST) (p0 p1 : Int32) : Prop := okMin p0 ∧ (vBe s p0.toNatClampNeg).isSome = true ∧ (0 ≤ p1 ∧ p1 ≤ nI (vN s) - 1)
def p_route (s : ST) (p0 p1 : Int32) : Int32 := if ok_route s p0 p1 then nI ((vTr s p0.toNatClampNeg).getD p1.toNatClampNeg 0) else -1
theorem okMin_n {v : Int32} (h : okMin v) : v = nI v.toNatClampNeg ∧ v.toNatClampNeg ≤ 1440 := by
  have hn := nj_of h.1
  have h2 := h.2
  rw [hn.1] at h2
  exact ⟨hn.1, (nj_le (b := 1440) hn.2 (by omega)).mp h2⟩
def Sp_M_round (Γ : GAM) (m : Nat) (p0 : Int32) (g : GH) (K : Int32 → GH → Prop) : Prop := ∃ ma s, RefI m ma g s ∧ WF s ∧ ∀ g', FrX m [1624, 1625] [1620, 1621, 1622] g g' → K (p_round s p0) g'
-- the walk of M_round
set_option maxRecDepth 100000 in
def B_M_round_27 (Γ : GAM) (K : Int32 → GH → Prop) (s0 : Int32) (g : GH) : Prop :=
  K s0 g
set_option maxHeartbeats 4000000 in
set_option maxRecDepth 100000 in
theorem S_M_round_27 {Γ : GAM} {E : EV} {K : Int32 → GH → Prop} (hE : GE Γ E cX11_round 2 RX11 (some (.int)) 11 557 (fun r g' => ∃ x, r = some (.int x) ∧ K x g')) (s0 : Int32) (g : GH) (h : B_M_round_27 Γ K s0 g) : JW Γ E 27 [none, none] [.int s0] g := by
  unfold B_M_round_27 at h
  exact j_iret hE (by decide +kernel : decode cX11_round 27 = .ok (.ireturn, 1)) ⟨_, rfl, h⟩
set_option maxRecDepth 100000 in
def B_M_round_26 (Γ : GAM) (K : Int32 → GH → Prop)  (g : GH) : Prop :=
  B_M_round_27 Γ K (-1 : Int32) g
set_option maxHeartbeats 4000000 in
set_option maxRecDepth 100000 in
theorem S_M_round_26 {Γ : GAM} {E : EV} {K : Int32 → GH → Prop} (hE : GE Γ E cX11_round 2 RX11 (some (.int)) 11 557 (fun r g' => ∃ x, r = some (.int x) ∧ K x g'))  (g : GH) (h : B_M_round_26 Γ K  g) : JW Γ E 26 [none, none] [] g := by
  unfold B_M_round_26 at h
  refine j_iconst hE (by decide +kernel : decode cX11_round 26 = .ok (.iconst (-1), 1)) (v := (-1 : Int32)) (by decide) ?_
  exact S_M_round_27 hE _ _ h
set_option maxRecDepth 100000 in
def B_M_round_0 (Γ : GAM) (K : Int32 → GH → Prop) (th : Nat) (p0 : Int32) (g : GH) : Prop :=
  Sp_M_in Γ p0 (0 : Int32) (1440 : Int32) g (fun (x2 : Int32) (g1 : GH) => ((x2 = 0 → B_M_round_26 Γ K g1) ∧ (¬ (x2 = 0) → Kd g1 th = 13 ∧ Sp_M_findRound Γ th p0 g1 (fun (x4 : Int32) (g3 : GH) => ((x4 = 0 → B_M_round_26 Γ K g3) ∧ (¬ (x4 = 0) → Kd g3 th = 13 ∧ B_M_round_27 Γ K (Gi g3 1624 th) g3))))))
set_option maxHeartbeats 4000000 in
set_option maxRecDepth 100000 in
theorem S_M_round_0 {Γ : GAM} {E : EV} {K : Int32 → GH → Prop} (hE : GE Γ E cX11_round 2 RX11 (some (.int)) 11 557 (fun r g' => ∃ x, r = some (.int x) ∧ K x g')) (th : Nat) (p0 : Int32) (g : GH) (h : B_M_round_0 Γ K th p0 g) : JW Γ E 0 [some (.ref th), some (.int p0)] [] g := by
  unfold B_M_round_0 at h
  refine j_iload_n hE (by decide +kernel : decode cX11_round 0 = .ok (.iload_n 1, 1)) rfl rfl ?_
  refine j_iconst hE (by decide +kernel : decode cX11_round 1 = .ok (.iconst 0, 1)) (v := (0 : Int32)) (by decide) ?_
  refine j_sipush hE (by decide +kernel : decode cX11_round 2 = .ok (.sipush 1440, 3)) (v := (1440 : Int32)) (by decide) ?_
  refine j_callS hE rfl cl_X11_213 st_X11_in ⟨by omega, by omega⟩ (As := [.int p0, .int (0 : Int32), .int (1440 : Int32)]) (rest := []) rfl rfl (Nat.le_of_ble_eq_true rfl) (by decide +kernel : decode cX11_round 5 = .ok (.invokestatic 213, 3)) (mt_M_in _ _ _ _ _ h) ?_
  rintro _ g1 ⟨x2, rfl, h⟩
  refine j_if_eq hE (by decide +kernel : decode cX11_round 8 = .ok (.ifCond .eq 18, 3)) (tgt := 26) (by decide) (fun q => ?_) (fun q => ?_)
  · replace h := h.1 q
    refine j_weak [none, none] trivial ?_
    exact S_M_round_26 hE _ h
  · replace h := h.2 q
    refine j_aload_n hE (by decide +kernel : decode cX11_round 11 = .ok (.aload_n 0, 1)) rfl rfl ?_
    refine j_iload_n hE (by decide +kernel : decode cX11_round 12 = .ok (.iload_n 1, 1)) rfl rfl ?_
    obtain ⟨hk, h⟩ := h
    refine j_callV hE rfl cl_X11_480 cf_12 im_X11_findRound se_X11_findRound ⟨by omega, by omega⟩ (As := [.int p0]) (rest := []) rfl rfl (Nat.le_of_ble_eq_true rfl) hk (by decide +kernel : decode cX11_round 13 = .ok (.invokevirtual 480, 3)) (mt_M_findRound _ _ _ _ h) ?_
    rintro _ g3 ⟨x4, rfl, h⟩
    refine j_if_eq hE (by decide +kernel : decode cX11_round 16 = .ok (.ifCond .eq 10, 3)) (tgt := 26) (by decide) (fun q => ?_) (fun q => ?_)
    · replace h := h.1 q
      refine j_weak [none, none] trivial ?_
      exact S_M_round_26 hE _ h
    · replace h := h.2 q
      refine j_aload_n hE (by decide +kernel : decode cX11_round 19 = .ok (.aload_n 0, 1)) rfl rfl ?_
      obtain ⟨hk, h⟩ := h
      refine j_getI hE fg_X11_471 hk (by decide +kernel : decode cX11_round 20 = .ok (.getfield 471, 3)) ?_
      refine j_goto hE (by decide +kernel : decode cX11_round 23 = .ok (.goto 4, 3)) (tgt := 27) (by decide) ?_
      refine j_weak [none, none] trivial ?_
      exact S_M_round_27 hE _ _ h
set_option maxHeartbeats 4000000 in
set_option maxRecDepth 100000 in
theorem rl_M_round {Γ : GAM} {l : Launch} {th : Nat} {p0 : Int32} {g : GH} {K : Int32 → GH → Prop} (h0 : B_M_round_0 Γ K th p0 g) : MetA Γ l yX11_round cX11_round 2 (some (.int)) 11 557 [.ref th, .int p0] g (fun r g' => ∃ x, r = some (.int x) ∧ K x g') := by
  refine MetA.introL (Lx := [some (.ref th), some (.int p0)]) (by decide) (Nat.le_of_ble_eq_true rfl) rfl rfl ?_
  intro E hEl hE hnm
  exact S_M_round_0 hE th p0 g h0
theorem mt_M_round {Γ : GAM} {l : Launch} (th : Nat) (p0 : Int32) (g : GH) (K : Int32 → GH → Prop) (h : Sp_M_round Γ th p0 g K) : MetA Γ l yX11_round cX11_round 2 (some (.int)) 11 557 [.ref th, .int p0] g (fun r g' => ∃ x, r = some (.int x) ∧ K x g') := by
  obtain ⟨ma, s, hI, hw, hK⟩ := h
  have hno : ∀ g', FrX th [1624, 1625] [1620, 1621, 1622] g g' → p_round s p0 = -1 → K (-1) g' := fun g' hx hn => by have := hK g' hx; rw [hn] at this; exact this
  refine rl_M_round ?_
  unfold B_M_round_0 B_M_round_26 B_M_round_27 Sp_M_in
  refine ⟨fun u => hno g FrX.rf ?_, fun u => ?_⟩
  · unfold p_round
    rw [if_neg (fun q : okMin p0 => by rw [if_pos ⟨q.1, q.2⟩] at u; exact absurd u (by decide))]
  · have hok : okMin p0 := Classical.byContradiction (fun q => u (by rw [if_neg q]))
    obtain ⟨h1, h2⟩ := okMin_n hok
    refine ⟨hI.1.1, ma, s, p0.toNatClampNeg, hI, hw, h1, h2, fun g2 hx2 hV => ?_⟩
    have hp : p_round s p0 = vI (vBe s p0.toNatClampNeg) := by unfold p_round; rw [if_pos hok]
    refine ⟨fun u2 => hno g2 hx2 ?_, fun u2 => ⟨(hI.x hx2 (by decide +kernel)).1.1, ?_⟩⟩
    · rw [hp]
      cases hb : vBe s p0.toNatClampNeg with
      | none => rfl
      | some p => rw [hb] at u2; exact absurd u2 (by simp)
    · rw [hV.2.1, ← hp]
      exact hK g2 hx2
def Sp_M_route (Γ : GAM) (m : Nat) (p0 p1 : Int32) (g : GH) (K : Int32 → GH → Prop) : Prop := ∃ ma s, RefI m ma g s ∧ WF s ∧ ∀ g', FrX m [1624, 1625] [1620, 1621, 1622] g g' → K (p_route s p0 p1) g'
-- the walk of M_route
set_option maxRecDepth 100000 in
def B_M_route_43 (Γ : GAM) (K : Int32 → GH → Prop) (s0 : Int32) (g : GH) : Prop :=
  K s0 g
set_option maxHeartbeats 4000000 in
set_option maxRecDepth 100000 in
theorem S_M_route_43 {Γ : GAM} {E : EV} {K : Int32 → GH → Prop} (hE : GE Γ E cX11_route 3 RX11 (some (.int)) 11 557 (fun r g' => ∃ x, r = some (.int x) ∧ K x g')) (s0 : Int32) (g : GH) (h : B_M_route_43 Γ K s0 g) : JW Γ E 43 [none, none, none] [.int s0] g := by
  unfold B_M_route_43 at h
  exact j_iret hE (by decide +kernel : decode cX11_route 43 = .ok (.ireturn, 1)) ⟨_, rfl, h⟩
set_option maxRecDepth 100000 in
def B_M_route_42 (Γ : GAM) (K : Int32 → GH → Prop)  (g : GH) : Prop :=
  B_M_route_43 Γ K (-1 : Int32) g
set_option maxHeartbeats 4000000 in
set_option maxRecDepth 100000 in
theorem S_M_route_42 {Γ : GAM} {E : EV} {K : Int32 → GH → Prop} (hE : GE Γ E cX11_route 3 RX11 (some (.int)) 11 557 (fun r g' => ∃ x, r = some (.int x) ∧ K x g'))  (g : GH) (h : B_M_route_42 Γ K  g) : JW Γ E 42 [none, none, none] [] g := by
  unfold B_M_route_42 at h
  refine j_iconst hE (by decide +kernel : decode cX11_route 42 = .ok (.iconst (-1), 1)) (v := (-1 : Int32)) (by decide) ?_
  exact S_M_route_43 hE _ _ h
set_option maxRecDepth 100000 in
def B_M_route_0 (Γ : GAM) (K : Int32 → GH → Prop) (th : Nat) (p0 : Int32) (p1 : Int32) (g : GH) : Prop :=
  Sp_M_in Γ p0 (0 : Int32) (1440 : Int32) g (fun (x2 : Int32) (g1 : GH) => ((x2 = 0 → B_M_route_42 Γ K g1) ∧ (¬ (x2 = 0) → Kd g1 th = 13 ∧ Sp_M_findRound Γ th p0 g1 (fun (x4 : Int32) (g3 : GH) => ((x4 = 0 → B_M_route_42 Γ K g3) ∧ (¬ (x4 = 0) → Kd g3 th = 13 ∧ Sp_M_in Γ p1 (0 : Int32) ((Gi g3 1625 th) - (1 : Int32)) g3 (fun (x6 : Int32) (g5 : GH) => ((x6 = 0 → B_M_route_42 Γ K g5) ∧ (¬ (x6 = 0) → Kd g5 th = 13 ∧ ∃ a7 : Nat, Gr g5 1622 th = some a7 ∧ Kd g5 a7 = 20 ∧ inB p1 (Ln g5 a7) ∧ B_M_route_43 Γ K (Ia g5 (Co g5 a7) (Ow g5 a7) p1.toNatClampNeg) g5)))))))))
set_option maxHeartbeats 4000000 in
set_option maxRecDepth 100000 in
theorem S_M_route_0 {Γ : GAM} {E : EV} {K : Int32 → GH → Prop} (hE : GE Γ E cX11_route 3 RX11 (some (.int)) 11 557 (fun r g' => ∃ x, r = some (.int x) ∧ K x g')) (th : Nat) (p0 : Int32) (p1 : Int32) (g : GH) (h : B_M_route_0 Γ K th p0 p1 g) : JW Γ E 0 [some (.ref th), some (.int p0), some (.int p1)] [] g := by
  unfold B_M_route_0 at h
  refine j_iload_n hE (by decide +kernel : decode cX11_route 0 = .ok (.iload_n 1, 1)) rfl rfl ?_
  refine j_iconst hE (by decide +kernel : decode cX11_route 1 = .ok (.iconst 0, 1)) (v := (0 : Int32)) (by decide) ?_
  refine j_sipush hE (by decide +kernel : decode cX11_route 2 = .ok (.sipush 1440, 3)) (v := (1440 : Int32)) (by decide) ?_
  refine j_callS hE rfl cl_X11_213 st_X11_in ⟨by omega, by omega⟩ (As := [.int p0, .int (0 : Int32), .int (1440 : Int32)]) (rest := []) rfl rfl (Nat.le_of_ble_eq_true rfl) (by decide +kernel : decode cX11_route 5 = .ok (.invokestatic 213, 3)) (mt_M_in _ _ _ _ _ h) ?_
  rintro _ g1 ⟨x2, rfl, h⟩
  refine j_if_eq hE (by decide +kernel : decode cX11_route 8 = .ok (.ifCond .eq 34, 3)) (tgt := 42) (by decide) (fun q => ?_) (fun q => ?_)
  · replace h := h.1 q
    refine j_weak [none, none, none] trivial ?_
    exact S_M_route_42 hE _ h
  · replace h := h.2 q
    refine j_aload_n hE (by decide +kernel : decode cX11_route 11 = .ok (.aload_n 0, 1)) rfl rfl ?_
    refine j_iload_n hE (by decide +kernel : decode cX11_route 12 = .ok (.iload_n 1, 1)) rfl rfl ?_
    obtain ⟨hk, h⟩ := h
    refine j_callV hE rfl cl_X11_480 cf_12 im_X11_findRound se_X11_findRound ⟨by omega, by omega⟩ (As := [.int p0]) (rest := []) rfl rfl (Nat.le_of_ble_eq_true rfl) hk (by decide +kernel : decode cX11_route 13 = .ok (.invokevirtual 480, 3)) (mt_M_findRound _ _ _ _ h) ?_
    rintro _ g3 ⟨x4, rfl, h⟩
    refine j_if_eq hE (by decide +kernel : decode cX11_route 16 = .ok (.ifCond .eq 26, 3)) (tgt := 42) (by decide) (fun q => ?_) (fun q => ?_)
    · replace h := h.1 q
      refine j_weak [none, none, none] trivial ?_
      exact S_M_route_42 hE _ h
    · replace h := h.2 q
      refine j_iload_n hE (by decide +kernel : decode cX11_route 19 = .ok (.iload_n 2, 1)) rfl rfl ?_
      refine j_iconst hE (by decide +kernel : decode cX11_route 20 = .ok (.iconst 0, 1)) (v := (0 : Int32)) (by decide) ?_
      refine j_aload_n hE (by decide +kernel : decode cX11_route 21 = .ok (.aload_n 0, 1)) rfl rfl ?_
      obtain ⟨hk, h⟩ := h
      refine j_getI hE fg_X11_474 hk (by decide +kernel : decode cX11_route 22 = .ok (.getfield 474, 3)) ?_
      refine j_iconst hE (by decide +kernel : decode cX11_route 25 = .ok (.iconst 1, 1)) (v := (1 : Int32)) (by decide) ?_
      refine j_isub hE (by decide +kernel : decode cX11_route 26 = .ok (.isub, 1)) ?_
      refine j_callS hE rfl cl_X11_213 st_X11_in ⟨by omega, by omega⟩ (As := [.int p1, .int (0 : Int32), .int ((Gi g3 1625 th) - (1 : Int32))]) (rest := []) rfl rfl (Nat.le_of_ble_eq_true rfl) (by decide +kernel : decode cX11_route 27 = .ok (.invokestatic 213, 3)) (mt_M_in _ _ _ _ _ h) ?_
      rintro _ g5 ⟨x6, rfl, h⟩
      refine j_if_eq hE (by decide +kernel : decode cX11_route 30 = .ok (.ifCond .eq 12, 3)) (tgt := 42) (by decide) (fun q => ?_) (fun q => ?_)
      · replace h := h.1 q
        refine j_weak [none, none, none] trivial ?_
        exact S_M_route_42 hE _ h
      · replace h := h.2 q
        refine j_aload_n hE (by decide +kernel : decode cX11_route 33 = .ok (.aload_n 0, 1)) rfl rfl ?_
        obtain ⟨hk, h⟩ := h
        obtain ⟨a7, ha, h⟩ := h
        refine j_getRn hE fg_X11_192 hk ha (by decide +kernel : decode cX11_route 34 = .ok (.getfield 192, 3)) ?_
        refine j_iload_n hE (by decide +kernel : decode cX11_route 37 = .ok (.iload_n 2, 1)) rfl rfl ?_
        obtain ⟨hk, hb, h⟩ := h
        refine j_iald hE hk hb (by decide +kernel : decode cX11_route 38 = .ok (.iaload, 1)) ?_
        refine j_goto hE (by decide +kernel : decode cX11_route 39 = .ok (.goto 4, 3)) (tgt := 43) (by decide) ?_
        refine j_weak [none, none, none] trivial ?_
        exact S_M_route_43 hE _ _ h
set_option maxHeartbeats 4000000 in
set_option maxRecDepth 100000 in
theorem rl_M_route {Γ : GAM} {l : Launch} {th : Nat} {p0 : Int32} {p1 : Int32} {g : GH} {K : Int32 → GH → Prop} (h0 : B_M_route_0 Γ K th p0 p1 g) : MetA Γ l yX11_route cX11_route 3 (some (.int)) 11 557 [.ref th, .int p0, .int p1] g (fun r g' => ∃ x, r = some (.int x) ∧ K x g') := by
  refine MetA.introL (Lx := [some (.ref th), some (.int p0), some (.int p1)]) (by decide) (Nat.le_of_ble_eq_true rfl) rfl rfl ?_
  intro E hEl hE hnm
  exact S_M_route_0 hE th p0 p1 g h0
theorem mt_M_route {Γ : GAM} {l : Launch} (th : Nat) (p0 : Int32) (p1 : Int32) (g : GH) (K : Int32 → GH → Prop) (h : Sp_M_route Γ th p0 p1 g K) : MetA Γ l yX11_route cX11_route 3 (some (.int)) 11 557 [.ref th, .int p0, .int p1] g (fun r g' => ∃ x, r = some (.int x) ∧ K x g') := by
  obtain ⟨ma, s, hI, hw, hK⟩ := h
  have hno : ∀ g', FrX th [1624, 1625] [1620, 1621, 1622] g g' → ¬ ok_route s p0 p1 → K (-1) g' := fun g' hx hn => by have := hK g' hx; unfold p_route at this; rw [if_neg hn] at this; exact this
  refine rl_M_route ?_
  unfold B_M_route_0 B_M_route_42 B_M_route_43 Sp_M_in
  refine ⟨fun u => hno g FrX.rf (fun q => by rw [if_pos ⟨q.1.1, q.1.2⟩] at u; exact absurd u (by decide)), fun u => ?_⟩
  have hok : okMin p0 := Classical.byContradiction (fun q => u (by rw [if_neg q]))
  obtain ⟨h1, h2⟩ := okMin_n hok
  refine ⟨hI.1.1, ma, s, p0.toNatClampNeg, hI, hw, h1, h2, fun g2 hx2 hV => ?_⟩
  have hI2 := hI.x hx2 (by decide +kernel)
  obtain ⟨hkd2, hS2⟩ := hI2.1
  have hN := vN_le s
  obtain ⟨z_bestTrip1, z_bestTrip2, z_bestTrip3, z_bestTrip4, z_bestTrip5⟩ := hS2 1622 20 8 rfl
  refine ⟨fun u2 => hno g2 hx2 (fun q => by rw [if_pos q.2.1] at u2; exact absurd u2 (by decide)), fun u2 => ⟨hkd2, ?_⟩⟩
  have hsm : (vBe s p0.toNatClampNeg).isSome = true := Classical.byContradiction (fun q => u2 (by rw [if_neg q]))
  rw [hV.1]
  refine ⟨fun u3 => hno g2 hx2 (fun q => by rw [if_pos q.2.2] at u3; exact absurd u3 (by decide)), fun u3 => ?_⟩
  have hin : 0 ≤ p1 ∧ p1 ≤ nI (vN s) - 1 := Classical.byContradiction (fun q => u3 (by rw [if_neg q]))
  have hlt := lt_of_in (by omega) hin
  refine ⟨hkd2, _, z_bestTrip1, z_bestTrip2, by rw [z_bestTrip5]; exact ⟨hin.1, by omega⟩, ?_⟩
  rw [z_bestTrip3, z_bestTrip4]
  have hK2 := hK g2 hx2
  unfold p_route at hK2
  rw [if_pos ⟨hok, hsm, hin⟩] at hK2
  obtain ⟨p, hp⟩ := Option.isSome_iff_exists.mp hsm
  have hl := vBe_len s _ hp
  obtain ⟨y, hy⟩ := get_lt (show p1.toNatClampNeg < p.2.length by omega)
  rw [(hV.2.2 p hp).2 _ y hy]
  unfold vTr at hK2
  rw [hp] at hK2
  simp only [List.getD_eq_getElem?_getD, hy, Option.getD_some] at hK2
  exact hK2
