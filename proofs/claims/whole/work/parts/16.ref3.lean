/-! the reference: events, emptyings, what comes when -/
abbrev Ev : Type := Int32 × Int32 × Int32 × Int32 × Int32
abbrev Em : Type := Int32 × Int32 × Int32 × Int32
def evS (e k q : Int32) (a : Option (Nat × Ev)) (p : Ev × Nat) : Option (Nat × Ev) := if p.1.1 = e ∧ p.1.2.1 = k ∧ p.1.2.2.2.2 ≤ q then some (p.2, p.1) else a
def sEv (s : ST) (e k q : Int32) : Option (Nat × Ev) := (s_evt s).zipIdx.foldl (evS e k q) none
def dOf (o : Option (Nat × Ev)) : Int32 := match o with
  | none => -1
  | some p => p.2.2.2.1
def sDay (s : ST) (e k q : Int32) : Int32 := dOf (sEv s e k q)
theorem sEv_get {s : ST} {e k q : Int32} {j : Nat} {x : Ev} (h : sEv s e k q = some (j, x)) : (s_evt s)[j]? = some x :=
  fold_row _ (evS e k q) (fun a p => by unfold evS; split <;> simp) h
def Sp_M_eventFor (Γ : GAM) (m : Nat) (e k q : Int32) (g : GH) (K : Int32 → GH → Prop) : Prop := ∃ ma s, RefI m ma g s ∧ K (oI (sEv s e k q)) g
-- the walk of M_eventFor
set_option maxRecDepth 100000 in
def B_M_eventFor_52 (Γ : GAM) (K6 : Nat → Int32 → Int32 → Int32 → Int32 → Int32 → GH → Prop) (K : Int32 → GH → Prop) (l0 : Nat) (l1 : Int32) (l2 : Int32) (l3 : Int32) (l4 : Int32) (l5 : Int32) (g : GH) : Prop :=
  K6 l0 l1 l2 l3 l4 (l5 + (1 : Int32)) g
set_option maxHeartbeats 4000000 in
set_option maxRecDepth 100000 in
theorem S_M_eventFor_52 {Γ : GAM} {E : EV} {K : Int32 → GH → Prop} (hE : GE Γ E cX11_eventFor 6 RX11 (some (.int)) 0 0 (fun r g' => ∃ x, r = some (.int x) ∧ K x g')) {K6 : Nat → Int32 → Int32 → Int32 → Int32 → Int32 → GH → Prop} (hK6 : ∀ (l0 : Nat) (l1 : Int32) (l2 : Int32) (l3 : Int32) (l4 : Int32) (l5 : Int32) (g : GH), K6 l0 l1 l2 l3 l4 l5 g → JW Γ E 6 [some (.ref l0), some (.int l1), some (.int l2), some (.int l3), some (.int l4), some (.int l5)] [] g) (l0 : Nat) (l1 : Int32) (l2 : Int32) (l3 : Int32) (l4 : Int32) (l5 : Int32) (g : GH) (h : B_M_eventFor_52 Γ K6 K l0 l1 l2 l3 l4 l5 g) : JW Γ E 52 [some (.ref l0), some (.int l1), some (.int l2), some (.int l3), some (.int l4), some (.int l5)] [] g := by
  unfold B_M_eventFor_52 at h
  refine j_iinc hE (by decide +kernel : decode cX11_eventFor 52 = .ok (.iinc 5 1, 3)) (v := (1 : Int32)) (by decide) rfl (Nat.le_of_ble_eq_true rfl) rfl ?_
  refine j_goto hE (by decide +kernel : decode cX11_eventFor 55 = .ok (.goto (-49), 3)) (tgt := 6) (by decide) ?_
  exact hK6 _ _ _ _ _ _ _ h
set_option maxRecDepth 100000 in
def B_M_eventFor_6 (Γ : GAM) (K6 : Nat → Int32 → Int32 → Int32 → Int32 → Int32 → GH → Prop) (K : Int32 → GH → Prop) (l0 : Nat) (l1 : Int32) (l2 : Int32) (l3 : Int32) (l4 : Int32) (l5 : Int32) (g : GH) : Prop :=
  Kd g l0 = 13 ∧ (((Gi g 1540 l0) ≤ l5 → K l4 g) ∧ (¬ ((Gi g 1540 l0) ≤ l5) → Kd g l0 = 13 ∧ ∃ a1 : Nat, Gr g 1560 l0 = some a1 ∧ Kd g a1 = 20 ∧ inB l5 (Ln g a1) ∧ ((¬ ((Ia g (Co g a1) (Ow g a1) l5.toNatClampNeg) = l1) → B_M_eventFor_52 Γ K6 K l0 l1 l2 l3 l4 l5 g) ∧ ((Ia g (Co g a1) (Ow g a1) l5.toNatClampNeg) = l1 → Kd g l0 = 13 ∧ ∃ a2 : Nat, Gr g 1561 l0 = some a2 ∧ Kd g a2 = 20 ∧ inB l5 (Ln g a2) ∧ ((¬ ((Ia g (Co g a2) (Ow g a2) l5.toNatClampNeg) = l2) → B_M_eventFor_52 Γ K6 K l0 l1 l2 l3 l4 l5 g) ∧ ((Ia g (Co g a2) (Ow g a2) l5.toNatClampNeg) = l2 → Kd g l0 = 13 ∧ ∃ a3 : Nat, Gr g 1564 l0 = some a3 ∧ Kd g a3 = 20 ∧ inB l5 (Ln g a3) ∧ ((l3 < (Ia g (Co g a3) (Ow g a3) l5.toNatClampNeg) → B_M_eventFor_52 Γ K6 K l0 l1 l2 l3 l4 l5 g) ∧ (¬ (l3 < (Ia g (Co g a3) (Ow g a3) l5.toNatClampNeg)) → B_M_eventFor_52 Γ K6 K l0 l1 l2 l3 l5 l5 g))))))))
set_option maxHeartbeats 4000000 in
set_option maxRecDepth 100000 in
theorem S_M_eventFor_6 {Γ : GAM} {E : EV} {K : Int32 → GH → Prop} (hE : GE Γ E cX11_eventFor 6 RX11 (some (.int)) 0 0 (fun r g' => ∃ x, r = some (.int x) ∧ K x g')) {K6 : Nat → Int32 → Int32 → Int32 → Int32 → Int32 → GH → Prop} (hK6 : ∀ (l0 : Nat) (l1 : Int32) (l2 : Int32) (l3 : Int32) (l4 : Int32) (l5 : Int32) (g : GH), K6 l0 l1 l2 l3 l4 l5 g → JW Γ E 6 [some (.ref l0), some (.int l1), some (.int l2), some (.int l3), some (.int l4), some (.int l5)] [] g) (l0 : Nat) (l1 : Int32) (l2 : Int32) (l3 : Int32) (l4 : Int32) (l5 : Int32) (g : GH) (h : B_M_eventFor_6 Γ K6 K l0 l1 l2 l3 l4 l5 g) : JW Γ E 6 [some (.ref l0), some (.int l1), some (.int l2), some (.int l3), some (.int l4), some (.int l5)] [] g := by
  unfold B_M_eventFor_6 at h
  refine j_iload hE (by decide +kernel : decode cX11_eventFor 6 = .ok (.iload 5, 2)) rfl ?_
  refine j_aload_n hE (by decide +kernel : decode cX11_eventFor 8 = .ok (.aload_n 0, 1)) rfl rfl ?_
  obtain ⟨hk, h⟩ := h
  refine j_getI hE fg_X11_247 hk (by decide +kernel : decode cX11_eventFor 9 = .ok (.getfield 247, 3)) ?_
  refine j_icmp_ge hE (by decide +kernel : decode cX11_eventFor 12 = .ok (.if_icmp .ge 46, 3)) (tgt := 58) (by decide) (fun q => ?_) (fun q => ?_)
  · replace h := h.1 q
    refine j_iload hE (by decide +kernel : decode cX11_eventFor 58 = .ok (.iload 4, 2)) rfl ?_
    exact j_iret hE (by decide +kernel : decode cX11_eventFor 60 = .ok (.ireturn, 1)) ⟨_, rfl, h⟩
  · replace h := h.2 q
    refine j_aload_n hE (by decide +kernel : decode cX11_eventFor 15 = .ok (.aload_n 0, 1)) rfl rfl ?_
    obtain ⟨hk, h⟩ := h
    obtain ⟨a1, ha, h⟩ := h
    refine j_getRn hE fg_X11_47 hk ha (by decide +kernel : decode cX11_eventFor 16 = .ok (.getfield 47, 3)) ?_
    refine j_iload hE (by decide +kernel : decode cX11_eventFor 19 = .ok (.iload 5, 2)) rfl ?_
    obtain ⟨hk, hb, h⟩ := h
    refine j_iald hE hk hb (by decide +kernel : decode cX11_eventFor 21 = .ok (.iaload, 1)) ?_
    refine j_iload_n hE (by decide +kernel : decode cX11_eventFor 22 = .ok (.iload_n 1, 1)) rfl rfl ?_
    refine j_icmp_ne hE (by decide +kernel : decode cX11_eventFor 23 = .ok (.if_icmp .ne 29, 3)) (tgt := 52) (by decide) (fun q => ?_) (fun q => ?_)
    · replace h := h.1 q
      exact S_M_eventFor_52 hE hK6 _ _ _ _ _ _ _ h
    · replace h := h.2 q
      refine j_aload_n hE (by decide +kernel : decode cX11_eventFor 26 = .ok (.aload_n 0, 1)) rfl rfl ?_
      obtain ⟨hk, h⟩ := h
      obtain ⟨a2, ha, h⟩ := h
      refine j_getRn hE fg_X11_50 hk ha (by decide +kernel : decode cX11_eventFor 27 = .ok (.getfield 50, 3)) ?_
      refine j_iload hE (by decide +kernel : decode cX11_eventFor 30 = .ok (.iload 5, 2)) rfl ?_
      obtain ⟨hk, hb, h⟩ := h
      refine j_iald hE hk hb (by decide +kernel : decode cX11_eventFor 32 = .ok (.iaload, 1)) ?_
      refine j_iload_n hE (by decide +kernel : decode cX11_eventFor 33 = .ok (.iload_n 2, 1)) rfl rfl ?_
      refine j_icmp_ne hE (by decide +kernel : decode cX11_eventFor 34 = .ok (.if_icmp .ne 18, 3)) (tgt := 52) (by decide) (fun q => ?_) (fun q => ?_)
      · replace h := h.1 q
        exact S_M_eventFor_52 hE hK6 _ _ _ _ _ _ _ h
      · replace h := h.2 q
        refine j_aload_n hE (by decide +kernel : decode cX11_eventFor 37 = .ok (.aload_n 0, 1)) rfl rfl ?_
        obtain ⟨hk, h⟩ := h
        obtain ⟨a3, ha, h⟩ := h
        refine j_getRn hE fg_X11_59 hk ha (by decide +kernel : decode cX11_eventFor 38 = .ok (.getfield 59, 3)) ?_
        refine j_iload hE (by decide +kernel : decode cX11_eventFor 41 = .ok (.iload 5, 2)) rfl ?_
        obtain ⟨hk, hb, h⟩ := h
        refine j_iald hE hk hb (by decide +kernel : decode cX11_eventFor 43 = .ok (.iaload, 1)) ?_
        refine j_iload_n hE (by decide +kernel : decode cX11_eventFor 44 = .ok (.iload_n 3, 1)) rfl rfl ?_
        refine j_icmp_gt hE (by decide +kernel : decode cX11_eventFor 45 = .ok (.if_icmp .gt 7, 3)) (tgt := 52) (by decide) (fun q => ?_) (fun q => ?_)
        · replace h := h.1 q
          exact S_M_eventFor_52 hE hK6 _ _ _ _ _ _ _ h
        · replace h := h.2 q
          refine j_iload hE (by decide +kernel : decode cX11_eventFor 48 = .ok (.iload 5, 2)) rfl ?_
          refine j_istore hE (by decide +kernel : decode cX11_eventFor 50 = .ok (.istore 4, 2)) (Nat.le_of_ble_eq_true rfl) rfl ?_
          exact S_M_eventFor_52 hE hK6 _ _ _ _ _ _ _ h
set_option maxRecDepth 100000 in
def B_M_eventFor_0 (Γ : GAM) (K6 : Nat → Int32 → Int32 → Int32 → Int32 → Int32 → GH → Prop) (K : Int32 → GH → Prop) (th : Nat) (p0 : Int32) (p1 : Int32) (p2 : Int32) (g : GH) : Prop :=
  K6 th p0 p1 p2 (-1 : Int32) (0 : Int32) g
set_option maxHeartbeats 4000000 in
set_option maxRecDepth 100000 in
theorem S_M_eventFor_0 {Γ : GAM} {E : EV} {K : Int32 → GH → Prop} (hE : GE Γ E cX11_eventFor 6 RX11 (some (.int)) 0 0 (fun r g' => ∃ x, r = some (.int x) ∧ K x g')) {K6 : Nat → Int32 → Int32 → Int32 → Int32 → Int32 → GH → Prop} (hK6 : ∀ (l0 : Nat) (l1 : Int32) (l2 : Int32) (l3 : Int32) (l4 : Int32) (l5 : Int32) (g : GH), K6 l0 l1 l2 l3 l4 l5 g → JW Γ E 6 [some (.ref l0), some (.int l1), some (.int l2), some (.int l3), some (.int l4), some (.int l5)] [] g) (th : Nat) (p0 : Int32) (p1 : Int32) (p2 : Int32) (g : GH) (h : B_M_eventFor_0 Γ K6 K th p0 p1 p2 g) : JW Γ E 0 [some (.ref th), some (.int p0), some (.int p1), some (.int p2), none, none] [] g := by
  unfold B_M_eventFor_0 at h
  refine j_iconst hE (by decide +kernel : decode cX11_eventFor 0 = .ok (.iconst (-1), 1)) (v := (-1 : Int32)) (by decide) ?_
  refine j_istore hE (by decide +kernel : decode cX11_eventFor 1 = .ok (.istore 4, 2)) (Nat.le_of_ble_eq_true rfl) rfl ?_
  refine j_iconst hE (by decide +kernel : decode cX11_eventFor 3 = .ok (.iconst 0, 1)) (v := (0 : Int32)) (by decide) ?_
  refine j_istore hE (by decide +kernel : decode cX11_eventFor 4 = .ok (.istore 5, 2)) (Nat.le_of_ble_eq_true rfl) rfl ?_
  exact hK6 _ _ _ _ _ _ _ h
set_option maxHeartbeats 4000000 in
set_option maxRecDepth 100000 in
theorem rl_M_eventFor {Γ : GAM} {l : Launch} {th : Nat} {p0 : Int32} {p1 : Int32} {p2 : Int32} {g : GH} {K : Int32 → GH → Prop} (I6 : Nat → Nat → Int32 → Int32 → Int32 → Int32 → Int32 → GH → Prop) (hh6 : ∀ n (l0 : Nat) (l1 : Int32) (l2 : Int32) (l3 : Int32) (l4 : Int32) (l5 : Int32) (g : GH), I6 n l0 l1 l2 l3 l4 l5 g → B_M_eventFor_6 Γ (fun l0 l1 l2 l3 l4 l5 g => ∃ m, m < n ∧ I6 m l0 l1 l2 l3 l4 l5 g) K l0 l1 l2 l3 l4 l5 g) (h0 : B_M_eventFor_0 Γ (fun l0 l1 l2 l3 l4 l5 g => ∃ m, I6 m l0 l1 l2 l3 l4 l5 g) K th p0 p1 p2 g) : MetA Γ l yX11_eventFor cX11_eventFor 6 (some (.int)) 0 0 [.ref th, .int p0, .int p1, .int p2] g (fun r g' => ∃ x, r = some (.int x) ∧ K x g') := by
  refine MetA.introL (Lx := [some (.ref th), some (.int p0), some (.int p1), some (.int p2), none, none]) (by decide) (Nat.le_of_ble_eq_true rfl) rfl rfl ?_
  intro E hEl hE hnm
  have hall : ∀ n, (∀ (l0 : Nat) (l1 : Int32) (l2 : Int32) (l3 : Int32) (l4 : Int32) (l5 : Int32) (g : GH), I6 n l0 l1 l2 l3 l4 l5 g → JW Γ E 6 [some (.ref l0), some (.int l1), some (.int l2), some (.int l3), some (.int l4), some (.int l5)] [] g) := by
    intro n
    induction n using Nat.strongRecOn with
    | ind n ih =>
      exact fun l0 l1 l2 l3 l4 l5 g hi => S_M_eventFor_6 hE (fun l0 l1 l2 l3 l4 l5 g hm => by obtain ⟨m, hm, h⟩ := hm; exact (ih m hm) l0 l1 l2 l3 l4 l5 g h) l0 l1 l2 l3 l4 l5 g (hh6 n l0 l1 l2 l3 l4 l5 g hi)
  exact S_M_eventFor_0 hE (fun l0 l1 l2 l3 l4 l5 g hm => by obtain ⟨m, h⟩ := hm; exact (hall m) l0 l1 l2 l3 l4 l5 g h) th p0 p1 p2 g h0
theorem mt_M_eventFor {Γ : GAM} {l : Launch} (th : Nat) (p0 : Int32) (p1 : Int32) (p2 : Int32) (g : GH) (K : Int32 → GH → Prop) (h : Sp_M_eventFor Γ th p0 p1 p2 g K) : MetA Γ l yX11_eventFor cX11_eventFor 6 (some (.int)) 0 0 [.ref th, .int p0, .int p1, .int p2] g (fun r g' => ∃ x, r = some (.int x) ∧ K x g') := by
  obtain ⟨ma, s, hI, hK⟩ := h
  obtain ⟨hkd, hS⟩ := hI.1
  obtain ⟨f1, f2, f3⟩ := hI.evt
  obtain ⟨z_eventOf1, z_eventOf2, z_eventOf3, z_eventOf4, z_eventOf5⟩ := hS 1560 20 600 rfl
  obtain ⟨z_eventKind1, z_eventKind2, z_eventKind3, z_eventKind4, z_eventKind5⟩ := hS 1561 20 600 rfl
  obtain ⟨z_eventTold1, z_eventTold2, z_eventTold3, z_eventTold4, z_eventTold5⟩ := hS 1564 20 600 rfl
  refine rl_M_eventFor (fun n l0 l1 l2 l3 l4 l5 g' => g' = g ∧ l0 = th ∧ l1 = p0 ∧ l2 = p1 ∧ l3 = p2 ∧ ∃ k, k ≤ (s_evt s).length ∧ n = (s_evt s).length - k ∧ l5 = nI k ∧ l4 = oI (((s_evt s).zipIdx.take k).foldl (evS p0 p1 p2) none)) ?_ ?_
  · rintro n l0 l1 l2 l3 l4 l5 g' ⟨rfl, rfl, rfl, rfl, rfl, k, hk, hn, rfl, hf⟩
    unfold B_M_eventFor_6
    simp only [hkd, f1, z_eventOf1, z_eventOf2, z_eventOf3, z_eventOf4, z_eventOf5, z_eventKind1, z_eventKind2, z_eventKind3, z_eventKind4, z_eventKind5, z_eventTold1, z_eventTold2, z_eventTold3, z_eventTold4, z_eventTold5, Option.some.injEq, exists_eq_left', true_and, nj_le (show (s_evt s).length < 2147483648 by omega) (show k < 2147483648 by omega), nj_cl (show k < 2147483648 by omega)]
    refine ⟨fun q => ?_, fun q => ?_⟩
    · have hz : (s_evt s).zipIdx.take k = (s_evt s).zipIdx := List.take_of_length_le (by rw [List.length_zipIdx]; exact q)
      rw [hz] at hf
      rw [hf]; exact hK
    · obtain ⟨x, hx⟩ := get_lt (show k < (s_evt s).length by omega)
      obtain ⟨x1, x2, x3, x4, x5⟩ := f3 k x hx
      have hb := inB_nI (show k < 600 by omega) (by omega)
      have hnext : ∀ a : Int32, a = oI (evS l1 l2 l3 (((s_evt s).zipIdx.take k).foldl (evS l1 l2 l3) none) (x, k)) → B_M_eventFor_52 Γ (fun l0' l1' l2' l3' l4 l5 g => ∃ m, m < n ∧ g = g' ∧ l0' = l0 ∧ l1' = l1 ∧ l2' = l2 ∧ l3' = l3 ∧ ∃ k, k ≤ (s_evt s).length ∧ m = (s_evt s).length - k ∧ l5 = nI k ∧ l4 = oI (((s_evt s).zipIdx.take k).foldl (evS l1 l2 l3) none)) K l0 l1 l2 l3 a (nI k) g' := by
        intro a hab
        unfold B_M_eventFor_52
        refine ⟨(s_evt s).length - (k + 1), by omega, rfl, rfl, rfl, rfl, rfl, k + 1, by omega, rfl, nj_s k, ?_⟩
        rw [fold_take _ _ _ (zip_get hx)]
        exact hab
      unfold evS at hnext
      simp only [x1, x2, x5, hb, true_and]
      repeat' with_reducible first | apply And.intro | intro _
      all_goals refine hnext _ ?_
      all_goals first | (rw [if_neg (by grind)]; exact hf) | (rw [if_pos (by grind)]; rfl)
  · unfold B_M_eventFor_0
    exact ⟨_, rfl, rfl, rfl, rfl, rfl, 0, Nat.zero_le _, rfl, rfl, rfl⟩
def Sp_M_dayOf (Γ : GAM) (m : Nat) (e k q : Int32) (g : GH) (K : Int32 → GH → Prop) : Prop := ∃ ma s, RefI m ma g s ∧ K (sDay s e k q) g
-- the walk of M_dayOf
set_option maxRecDepth 100000 in
def B_M_dayOf_26 (Γ : GAM) (K : Int32 → GH → Prop) (s0 : Int32) (g : GH) : Prop :=
  K s0 g
set_option maxHeartbeats 4000000 in
set_option maxRecDepth 100000 in
theorem S_M_dayOf_26 {Γ : GAM} {E : EV} {K : Int32 → GH → Prop} (hE : GE Γ E cX11_dayOf 5 RX11 (some (.int)) 1 25 (fun r g' => ∃ x, r = some (.int x) ∧ K x g')) (s0 : Int32) (g : GH) (h : B_M_dayOf_26 Γ K s0 g) : JW Γ E 26 [none, none, none, none, none] [.int s0] g := by
  unfold B_M_dayOf_26 at h
  exact j_iret hE (by decide +kernel : decode cX11_dayOf 26 = .ok (.ireturn, 1)) ⟨_, rfl, h⟩
set_option maxRecDepth 100000 in
def B_M_dayOf_0 (Γ : GAM) (K : Int32 → GH → Prop) (th : Nat) (p0 : Int32) (p1 : Int32) (p2 : Int32) (g : GH) : Prop :=
  Kd g th = 13 ∧ Sp_M_eventFor Γ th p0 p1 p2 g (fun (x2 : Int32) (g1 : GH) => ((¬ (x2 = (-1 : Int32)) → Kd g1 th = 13 ∧ ∃ a3 : Nat, Gr g1 1562 th = some a3 ∧ Kd g1 a3 = 20 ∧ inB x2 (Ln g1 a3) ∧ B_M_dayOf_26 Γ K (Ia g1 (Co g1 a3) (Ow g1 a3) x2.toNatClampNeg) g1) ∧ (x2 = (-1 : Int32) → B_M_dayOf_26 Γ K (-1 : Int32) g1)))
set_option maxHeartbeats 4000000 in
set_option maxRecDepth 100000 in
theorem S_M_dayOf_0 {Γ : GAM} {E : EV} {K : Int32 → GH → Prop} (hE : GE Γ E cX11_dayOf 5 RX11 (some (.int)) 1 25 (fun r g' => ∃ x, r = some (.int x) ∧ K x g')) (th : Nat) (p0 : Int32) (p1 : Int32) (p2 : Int32) (g : GH) (h : B_M_dayOf_0 Γ K th p0 p1 p2 g) : JW Γ E 0 [some (.ref th), some (.int p0), some (.int p1), some (.int p2), none] [] g := by
  unfold B_M_dayOf_0 at h
  refine j_aload_n hE (by decide +kernel : decode cX11_dayOf 0 = .ok (.aload_n 0, 1)) rfl rfl ?_
  refine j_iload_n hE (by decide +kernel : decode cX11_dayOf 1 = .ok (.iload_n 1, 1)) rfl rfl ?_
  refine j_iload_n hE (by decide +kernel : decode cX11_dayOf 2 = .ok (.iload_n 2, 1)) rfl rfl ?_
  refine j_iload_n hE (by decide +kernel : decode cX11_dayOf 3 = .ok (.iload_n 3, 1)) rfl rfl ?_
  obtain ⟨hk, h⟩ := h
  refine j_callV hE rfl cl_X11_253 cf_12 im_X11_eventFor se_X11_eventFor ⟨by omega, by omega⟩ (As := [.int p0, .int p1, .int p2]) (rest := []) rfl rfl (Nat.le_of_ble_eq_true rfl) hk (by decide +kernel : decode cX11_dayOf 4 = .ok (.invokevirtual 253, 3)) (mt_M_eventFor _ _ _ _ _ _ h) ?_
  rintro _ g1 ⟨x2, rfl, h⟩
  refine j_istore hE (by decide +kernel : decode cX11_dayOf 7 = .ok (.istore 4, 2)) (Nat.le_of_ble_eq_true rfl) rfl ?_
  refine j_iload hE (by decide +kernel : decode cX11_dayOf 9 = .ok (.iload 4, 2)) rfl ?_
  refine j_iconst hE (by decide +kernel : decode cX11_dayOf 11 = .ok (.iconst (-1), 1)) (v := (-1 : Int32)) (by decide) ?_
  refine j_icmp_ne hE (by decide +kernel : decode cX11_dayOf 12 = .ok (.if_icmp .ne 7, 3)) (tgt := 19) (by decide) (fun q => ?_) (fun q => ?_)
  · replace h := h.1 q
    refine j_aload_n hE (by decide +kernel : decode cX11_dayOf 19 = .ok (.aload_n 0, 1)) rfl rfl ?_
    obtain ⟨hk, h⟩ := h
    obtain ⟨a3, ha, h⟩ := h
    refine j_getRn hE fg_X11_53 hk ha (by decide +kernel : decode cX11_dayOf 20 = .ok (.getfield 53, 3)) ?_
    refine j_iload hE (by decide +kernel : decode cX11_dayOf 23 = .ok (.iload 4, 2)) rfl ?_
    obtain ⟨hk, hb, h⟩ := h
    refine j_iald hE hk hb (by decide +kernel : decode cX11_dayOf 25 = .ok (.iaload, 1)) ?_
    refine j_weak [none, none, none, none, none] trivial ?_
    exact S_M_dayOf_26 hE _ _ h
  · replace h := h.2 q
    refine j_iconst hE (by decide +kernel : decode cX11_dayOf 15 = .ok (.iconst (-1), 1)) (v := (-1 : Int32)) (by decide) ?_
    refine j_goto hE (by decide +kernel : decode cX11_dayOf 16 = .ok (.goto 10, 3)) (tgt := 26) (by decide) ?_
    refine j_weak [none, none, none, none, none] trivial ?_
    exact S_M_dayOf_26 hE _ _ h
set_option maxHeartbeats 4000000 in
set_option maxRecDepth 100000 in
theorem rl_M_dayOf {Γ : GAM} {l : Launch} {th : Nat} {p0 : Int32} {p1 : Int32} {p2 : Int32} {g : GH} {K : Int32 → GH → Prop} (h0 : B_M_dayOf_0 Γ K th p0 p1 p2 g) : MetA Γ l yX11_dayOf cX11_dayOf 5 (some (.int)) 1 25 [.ref th, .int p0, .int p1, .int p2] g (fun r g' => ∃ x, r = some (.int x) ∧ K x g') := by
  refine MetA.introL (Lx := [some (.ref th), some (.int p0), some (.int p1), some (.int p2), none]) (by decide) (Nat.le_of_ble_eq_true rfl) rfl rfl ?_
  intro E hEl hE hnm
  exact S_M_dayOf_0 hE th p0 p1 p2 g h0
theorem mt_M_dayOf {Γ : GAM} {l : Launch} (th : Nat) (p0 : Int32) (p1 : Int32) (p2 : Int32) (g : GH) (K : Int32 → GH → Prop) (h : Sp_M_dayOf Γ th p0 p1 p2 g K) : MetA Γ l yX11_dayOf cX11_dayOf 5 (some (.int)) 1 25 [.ref th, .int p0, .int p1, .int p2] g (fun r g' => ∃ x, r = some (.int x) ∧ K x g') := by
  obtain ⟨ma, s, hI, hK⟩ := h
  obtain ⟨hkd, hS⟩ := hI.1
  obtain ⟨f1, f2, f3⟩ := hI.evt
  obtain ⟨z_eventDay1, z_eventDay2, z_eventDay3, z_eventDay4, z_eventDay5⟩ := hS 1562 20 600 rfl
  refine rl_M_dayOf ?_
  simp only [B_M_dayOf_26, B_M_dayOf_0]
  refine ⟨hkd, ma, s, hI, ?_⟩
  unfold sDay at hK
  cases hv : sEv s p0 p1 p2 with
  | none =>
    rw [hv] at hK
    exact ⟨fun q => absurd rfl q, fun _ => hK⟩
  | some p =>
    obtain ⟨j, x⟩ := p
    have hx := sEv_get hv
    have hj := (List.getElem?_eq_some_iff.mp hx).1
    rw [hv] at hK
    have hb := inB_nI (show j < 600 by omega) (by omega)
    simp only [oI_s, hkd, z_eventDay1, z_eventDay2, z_eventDay3, z_eventDay4, z_eventDay5, hb, Option.some.injEq, exists_eq_left', true_and, nj_cl (show j < 2147483648 by omega), (f3 j x hx).2.2.1]
    exact ⟨fun _ => hK, fun q => absurd q (nI_nm1 (by omega))⟩
def emB (a : Option (Nat × Em)) (d : Int32) : Bool := match a with
  | none => true
  | some b => decide (d < b.2.2.1)
def emS (bx dd q : Int32) (a : Option (Nat × Em)) (p : Em × Nat) : Option (Nat × Em) := if p.1.1 = bx ∧ p.1.2.2.2 ≤ q ∧ dd ≤ p.1.2.1 ∧ emB a p.1.2.1 = true then some (p.2, p.1) else a
def sEm (s : ST) (bx dd q : Int32) : Option (Nat × Em) := (s_emp s).zipIdx.foldl (emS bx dd q) none
theorem sEm_get {s : ST} {e k q : Int32} {j : Nat} {x : Em} (h : sEm s e k q = some (j, x)) : (s_emp s)[j]? = some x :=
  fold_row _ (emS e k q) (fun a p => by unfold emS; split <;> simp) h
def sEmp (s : ST) (e q : Int32) : Option (Nat × Em) := match sEv s e 3 q with
  | none => none
  | some p => sEm s p.2.2.2.2.1 p.2.2.2.1 q
theorem sEmp_get {s : ST} {e q : Int32} {j : Nat} {x : Em} (h : sEmp s e q = some (j, x)) : (s_emp s)[j]? = some x := by
  unfold sEmp at h
  split at h
  · cases h
  · exact sEm_get h
def Sp_M_emptyingFor (Γ : GAM) (m : Nat) (e q : Int32) (g : GH) (K : Int32 → GH → Prop) : Prop := ∃ ma s, RefI m ma g s ∧ K (oI (sEmp s e q)) g
-- the walk of M_emptyingFor
set_option maxRecDepth 100000 in
def B_M_emptyingFor_116 (Γ : GAM) (K14 : Nat → Int32 → Int32 → Int32 → Int32 → GH → Prop) (K : Int32 → GH → Prop) (l4 : Int32) (g : GH) : Prop :=
  K l4 g
set_option maxHeartbeats 4000000 in
set_option maxRecDepth 100000 in
theorem S_M_emptyingFor_116 {Γ : GAM} {E : EV} {K : Int32 → GH → Prop} (hE : GE Γ E cX11_emptyingFor 7 RX11 (some (.int)) 1 25 (fun r g' => ∃ x, r = some (.int x) ∧ K x g')) {K14 : Nat → Int32 → Int32 → Int32 → Int32 → GH → Prop} (hK14 : ∀ (l0 : Nat) (l2 : Int32) (l3 : Int32) (l4 : Int32) (l5 : Int32) (g : GH), K14 l0 l2 l3 l4 l5 g → JW Γ E 14 [some (.ref l0), none, some (.int l2), some (.int l3), some (.int l4), some (.int l5), none] [] g) (l4 : Int32) (g : GH) (h : B_M_emptyingFor_116 Γ K14 K l4 g) : JW Γ E 116 [none, none, none, none, some (.int l4), none, none] [] g := by
  unfold B_M_emptyingFor_116 at h
  refine j_iload hE (by decide +kernel : decode cX11_emptyingFor 116 = .ok (.iload 4, 2)) rfl ?_
  exact j_iret hE (by decide +kernel : decode cX11_emptyingFor 118 = .ok (.ireturn, 1)) ⟨_, rfl, h⟩
set_option maxRecDepth 100000 in
def B_M_emptyingFor_110 (Γ : GAM) (K14 : Nat → Int32 → Int32 → Int32 → Int32 → GH → Prop) (K : Int32 → GH → Prop) (l0 : Nat) (l2 : Int32) (l3 : Int32) (l4 : Int32) (l5 : Int32) (g : GH) : Prop :=
  K14 l0 l2 l3 l4 (l5 + (1 : Int32)) g
set_option maxHeartbeats 4000000 in
set_option maxRecDepth 100000 in
theorem S_M_emptyingFor_110 {Γ : GAM} {E : EV} {K : Int32 → GH → Prop} (hE : GE Γ E cX11_emptyingFor 7 RX11 (some (.int)) 1 25 (fun r g' => ∃ x, r = some (.int x) ∧ K x g')) {K14 : Nat → Int32 → Int32 → Int32 → Int32 → GH → Prop} (hK14 : ∀ (l0 : Nat) (l2 : Int32) (l3 : Int32) (l4 : Int32) (l5 : Int32) (g : GH), K14 l0 l2 l3 l4 l5 g → JW Γ E 14 [some (.ref l0), none, some (.int l2), some (.int l3), some (.int l4), some (.int l5), none] [] g) (l0 : Nat) (l2 : Int32) (l3 : Int32) (l4 : Int32) (l5 : Int32) (g : GH) (h : B_M_emptyingFor_110 Γ K14 K l0 l2 l3 l4 l5 g) : JW Γ E 110 [some (.ref l0), none, some (.int l2), some (.int l3), some (.int l4), some (.int l5), none] [] g := by
  unfold B_M_emptyingFor_110 at h
  refine j_iinc hE (by decide +kernel : decode cX11_emptyingFor 110 = .ok (.iinc 5 1, 3)) (v := (1 : Int32)) (by decide) rfl (Nat.le_of_ble_eq_true rfl) rfl ?_
  refine j_goto hE (by decide +kernel : decode cX11_emptyingFor 113 = .ok (.goto (-99), 3)) (tgt := 14) (by decide) ?_
  exact hK14 _ _ _ _ _ _ h
set_option maxRecDepth 100000 in
def B_M_emptyingFor_106 (Γ : GAM) (K14 : Nat → Int32 → Int32 → Int32 → Int32 → GH → Prop) (K : Int32 → GH → Prop) (l0 : Nat) (l2 : Int32) (l3 : Int32) (l5 : Int32) (g : GH) : Prop :=
  B_M_emptyingFor_110 Γ K14 K l0 l2 l3 l5 l5 g
set_option maxHeartbeats 4000000 in
set_option maxRecDepth 100000 in
theorem S_M_emptyingFor_106 {Γ : GAM} {E : EV} {K : Int32 → GH → Prop} (hE : GE Γ E cX11_emptyingFor 7 RX11 (some (.int)) 1 25 (fun r g' => ∃ x, r = some (.int x) ∧ K x g')) {K14 : Nat → Int32 → Int32 → Int32 → Int32 → GH → Prop} (hK14 : ∀ (l0 : Nat) (l2 : Int32) (l3 : Int32) (l4 : Int32) (l5 : Int32) (g : GH), K14 l0 l2 l3 l4 l5 g → JW Γ E 14 [some (.ref l0), none, some (.int l2), some (.int l3), some (.int l4), some (.int l5), none] [] g) (l0 : Nat) (l2 : Int32) (l3 : Int32) (l5 : Int32) (g : GH) (h : B_M_emptyingFor_106 Γ K14 K l0 l2 l3 l5 g) : JW Γ E 106 [some (.ref l0), none, some (.int l2), some (.int l3), none, some (.int l5), none] [] g := by
  unfold B_M_emptyingFor_106 at h
  refine j_iload hE (by decide +kernel : decode cX11_emptyingFor 106 = .ok (.iload 5, 2)) rfl ?_
  refine j_istore hE (by decide +kernel : decode cX11_emptyingFor 108 = .ok (.istore 4, 2)) (Nat.le_of_ble_eq_true rfl) rfl ?_
  exact S_M_emptyingFor_110 hE hK14 _ _ _ _ _ _ h
set_option maxRecDepth 100000 in
def B_M_emptyingFor_76 (Γ : GAM) (K14 : Nat → Int32 → Int32 → Int32 → Int32 → GH → Prop) (K : Int32 → GH → Prop) (l0 : Nat) (l2 : Int32) (l3 : Int32) (l4 : Int32) (l5 : Int32) (s0 : Int32) (g : GH) : Prop :=
  ((s0 = 0 → B_M_emptyingFor_110 Γ K14 K l0 l2 l3 l4 l5 g) ∧ (¬ (s0 = 0) → ((l4 = (-1 : Int32) → B_M_emptyingFor_106 Γ K14 K l0 l2 l3 l5 g) ∧ (¬ (l4 = (-1 : Int32)) → Kd g l0 = 13 ∧ ∃ a1 : Nat, Gr g 1566 l0 = some a1 ∧ Kd g a1 = 20 ∧ inB l5 (Ln g a1) ∧ Kd g l0 = 13 ∧ ∃ a2 : Nat, Gr g 1566 l0 = some a2 ∧ Kd g a2 = 20 ∧ inB l4 (Ln g a2) ∧ (((Ia g (Co g a2) (Ow g a2) l4.toNatClampNeg) ≤ (Ia g (Co g a1) (Ow g a1) l5.toNatClampNeg) → B_M_emptyingFor_110 Γ K14 K l0 l2 l3 l4 l5 g) ∧ (¬ ((Ia g (Co g a2) (Ow g a2) l4.toNatClampNeg) ≤ (Ia g (Co g a1) (Ow g a1) l5.toNatClampNeg)) → B_M_emptyingFor_106 Γ K14 K l0 l2 l3 l5 g))))))
set_option maxHeartbeats 4000000 in
set_option maxRecDepth 100000 in
theorem S_M_emptyingFor_76 {Γ : GAM} {E : EV} {K : Int32 → GH → Prop} (hE : GE Γ E cX11_emptyingFor 7 RX11 (some (.int)) 1 25 (fun r g' => ∃ x, r = some (.int x) ∧ K x g')) {K14 : Nat → Int32 → Int32 → Int32 → Int32 → GH → Prop} (hK14 : ∀ (l0 : Nat) (l2 : Int32) (l3 : Int32) (l4 : Int32) (l5 : Int32) (g : GH), K14 l0 l2 l3 l4 l5 g → JW Γ E 14 [some (.ref l0), none, some (.int l2), some (.int l3), some (.int l4), some (.int l5), none] [] g) (l0 : Nat) (l2 : Int32) (l3 : Int32) (l4 : Int32) (l5 : Int32) (s0 : Int32) (g : GH) (h : B_M_emptyingFor_76 Γ K14 K l0 l2 l3 l4 l5 s0 g) : JW Γ E 76 [some (.ref l0), none, some (.int l2), some (.int l3), some (.int l4), some (.int l5), none] [.int s0] g := by
  unfold B_M_emptyingFor_76 at h
  refine j_istore hE (by decide +kernel : decode cX11_emptyingFor 76 = .ok (.istore 6, 2)) (Nat.le_of_ble_eq_true rfl) rfl ?_
  refine j_iload hE (by decide +kernel : decode cX11_emptyingFor 78 = .ok (.iload 6, 2)) rfl ?_
  refine j_if_eq hE (by decide +kernel : decode cX11_emptyingFor 80 = .ok (.ifCond .eq 30, 3)) (tgt := 110) (by decide) (fun q => ?_) (fun q => ?_)
  · replace h := h.1 q
    refine j_weak [some (.ref l0), none, some (.int l2), some (.int l3), some (.int l4), some (.int l5), none] ⟨rfl, ⟨rfl, ⟨rfl, ⟨rfl, ⟨rfl, trivial⟩⟩⟩⟩⟩ ?_
    exact S_M_emptyingFor_110 hE hK14 _ _ _ _ _ _ h
  · replace h := h.2 q
    refine j_iload hE (by decide +kernel : decode cX11_emptyingFor 83 = .ok (.iload 4, 2)) rfl ?_
    refine j_iconst hE (by decide +kernel : decode cX11_emptyingFor 85 = .ok (.iconst (-1), 1)) (v := (-1 : Int32)) (by decide) ?_
    refine j_icmp_eq hE (by decide +kernel : decode cX11_emptyingFor 86 = .ok (.if_icmp .eq 20, 3)) (tgt := 106) (by decide) (fun q => ?_) (fun q => ?_)
    · replace h := h.1 q
      refine j_weak [some (.ref l0), none, some (.int l2), some (.int l3), none, some (.int l5), none] ⟨rfl, ⟨rfl, ⟨rfl, ⟨rfl, trivial⟩⟩⟩⟩ ?_
      exact S_M_emptyingFor_106 hE hK14 _ _ _ _ _ h
    · replace h := h.2 q
      refine j_aload_n hE (by decide +kernel : decode cX11_emptyingFor 89 = .ok (.aload_n 0, 1)) rfl rfl ?_
      obtain ⟨hk, h⟩ := h
      obtain ⟨a1, ha, h⟩ := h
      refine j_getRn hE fg_X11_65 hk ha (by decide +kernel : decode cX11_emptyingFor 90 = .ok (.getfield 65, 3)) ?_
      refine j_iload hE (by decide +kernel : decode cX11_emptyingFor 93 = .ok (.iload 5, 2)) rfl ?_
      obtain ⟨hk, hb, h⟩ := h
      refine j_iald hE hk hb (by decide +kernel : decode cX11_emptyingFor 95 = .ok (.iaload, 1)) ?_
      refine j_aload_n hE (by decide +kernel : decode cX11_emptyingFor 96 = .ok (.aload_n 0, 1)) rfl rfl ?_
      obtain ⟨hk, h⟩ := h
      obtain ⟨a2, ha, h⟩ := h
      refine j_getRn hE fg_X11_65 hk ha (by decide +kernel : decode cX11_emptyingFor 97 = .ok (.getfield 65, 3)) ?_
      refine j_iload hE (by decide +kernel : decode cX11_emptyingFor 100 = .ok (.iload 4, 2)) rfl ?_
      obtain ⟨hk, hb, h⟩ := h
      refine j_iald hE hk hb (by decide +kernel : decode cX11_emptyingFor 102 = .ok (.iaload, 1)) ?_
      refine j_icmp_ge hE (by decide +kernel : decode cX11_emptyingFor 103 = .ok (.if_icmp .ge 7, 3)) (tgt := 110) (by decide) (fun q => ?_) (fun q => ?_)
      · replace h := h.1 q
        refine j_weak [some (.ref l0), none, some (.int l2), some (.int l3), some (.int l4), some (.int l5), none] ⟨rfl, ⟨rfl, ⟨rfl, ⟨rfl, ⟨rfl, trivial⟩⟩⟩⟩⟩ ?_
        exact S_M_emptyingFor_110 hE hK14 _ _ _ _ _ _ h
      · replace h := h.2 q
        refine j_weak [some (.ref l0), none, some (.int l2), some (.int l3), none, some (.int l5), none] ⟨rfl, ⟨rfl, ⟨rfl, ⟨rfl, trivial⟩⟩⟩⟩ ?_
        exact S_M_emptyingFor_106 hE hK14 _ _ _ _ _ h
set_option maxRecDepth 100000 in
def B_M_emptyingFor_75 (Γ : GAM) (K14 : Nat → Int32 → Int32 → Int32 → Int32 → GH → Prop) (K : Int32 → GH → Prop) (l0 : Nat) (l2 : Int32) (l3 : Int32) (l4 : Int32) (l5 : Int32) (g : GH) : Prop :=
  B_M_emptyingFor_76 Γ K14 K l0 l2 l3 l4 l5 (0 : Int32) g
set_option maxHeartbeats 4000000 in
set_option maxRecDepth 100000 in
theorem S_M_emptyingFor_75 {Γ : GAM} {E : EV} {K : Int32 → GH → Prop} (hE : GE Γ E cX11_emptyingFor 7 RX11 (some (.int)) 1 25 (fun r g' => ∃ x, r = some (.int x) ∧ K x g')) {K14 : Nat → Int32 → Int32 → Int32 → Int32 → GH → Prop} (hK14 : ∀ (l0 : Nat) (l2 : Int32) (l3 : Int32) (l4 : Int32) (l5 : Int32) (g : GH), K14 l0 l2 l3 l4 l5 g → JW Γ E 14 [some (.ref l0), none, some (.int l2), some (.int l3), some (.int l4), some (.int l5), none] [] g) (l0 : Nat) (l2 : Int32) (l3 : Int32) (l4 : Int32) (l5 : Int32) (g : GH) (h : B_M_emptyingFor_75 Γ K14 K l0 l2 l3 l4 l5 g) : JW Γ E 75 [some (.ref l0), none, some (.int l2), some (.int l3), some (.int l4), some (.int l5), none] [] g := by
  unfold B_M_emptyingFor_75 at h
  refine j_iconst hE (by decide +kernel : decode cX11_emptyingFor 75 = .ok (.iconst 0, 1)) (v := (0 : Int32)) (by decide) ?_
  exact S_M_emptyingFor_76 hE hK14 _ _ _ _ _ _ _ h
set_option maxRecDepth 100000 in
def B_M_emptyingFor_14 (Γ : GAM) (K14 : Nat → Int32 → Int32 → Int32 → Int32 → GH → Prop) (K : Int32 → GH → Prop) (l0 : Nat) (l2 : Int32) (l3 : Int32) (l4 : Int32) (l5 : Int32) (g : GH) : Prop :=
  Kd g l0 = 13 ∧ (((Gi g 1541 l0) ≤ l5 → B_M_emptyingFor_116 Γ K14 K l4 g) ∧ (¬ ((Gi g 1541 l0) ≤ l5) → ((l3 = (-1 : Int32) → B_M_emptyingFor_116 Γ K14 K l4 g) ∧ (¬ (l3 = (-1 : Int32)) → Kd g l0 = 13 ∧ ∃ a1 : Nat, Gr g 1565 l0 = some a1 ∧ Kd g a1 = 20 ∧ inB l5 (Ln g a1) ∧ Kd g l0 = 13 ∧ ∃ a2 : Nat, Gr g 1563 l0 = some a2 ∧ Kd g a2 = 20 ∧ inB l3 (Ln g a2) ∧ ((¬ ((Ia g (Co g a1) (Ow g a1) l5.toNatClampNeg) = (Ia g (Co g a2) (Ow g a2) l3.toNatClampNeg)) → B_M_emptyingFor_75 Γ K14 K l0 l2 l3 l4 l5 g) ∧ ((Ia g (Co g a1) (Ow g a1) l5.toNatClampNeg) = (Ia g (Co g a2) (Ow g a2) l3.toNatClampNeg) → Kd g l0 = 13 ∧ ∃ a3 : Nat, Gr g 1568 l0 = some a3 ∧ Kd g a3 = 20 ∧ inB l5 (Ln g a3) ∧ ((l2 < (Ia g (Co g a3) (Ow g a3) l5.toNatClampNeg) → B_M_emptyingFor_75 Γ K14 K l0 l2 l3 l4 l5 g) ∧ (¬ (l2 < (Ia g (Co g a3) (Ow g a3) l5.toNatClampNeg)) → Kd g l0 = 13 ∧ ∃ a4 : Nat, Gr g 1566 l0 = some a4 ∧ Kd g a4 = 20 ∧ inB l5 (Ln g a4) ∧ Kd g l0 = 13 ∧ ∃ a5 : Nat, Gr g 1562 l0 = some a5 ∧ Kd g a5 = 20 ∧ inB l3 (Ln g a5) ∧ (((Ia g (Co g a4) (Ow g a4) l5.toNatClampNeg) < (Ia g (Co g a5) (Ow g a5) l3.toNatClampNeg) → B_M_emptyingFor_75 Γ K14 K l0 l2 l3 l4 l5 g) ∧ (¬ ((Ia g (Co g a4) (Ow g a4) l5.toNatClampNeg) < (Ia g (Co g a5) (Ow g a5) l3.toNatClampNeg)) → B_M_emptyingFor_76 Γ K14 K l0 l2 l3 l4 l5 (1 : Int32) g))))))))))
set_option maxHeartbeats 4000000 in
set_option maxRecDepth 100000 in
theorem S_M_emptyingFor_14 {Γ : GAM} {E : EV} {K : Int32 → GH → Prop} (hE : GE Γ E cX11_emptyingFor 7 RX11 (some (.int)) 1 25 (fun r g' => ∃ x, r = some (.int x) ∧ K x g')) {K14 : Nat → Int32 → Int32 → Int32 → Int32 → GH → Prop} (hK14 : ∀ (l0 : Nat) (l2 : Int32) (l3 : Int32) (l4 : Int32) (l5 : Int32) (g : GH), K14 l0 l2 l3 l4 l5 g → JW Γ E 14 [some (.ref l0), none, some (.int l2), some (.int l3), some (.int l4), some (.int l5), none] [] g) (l0 : Nat) (l2 : Int32) (l3 : Int32) (l4 : Int32) (l5 : Int32) (g : GH) (h : B_M_emptyingFor_14 Γ K14 K l0 l2 l3 l4 l5 g) : JW Γ E 14 [some (.ref l0), none, some (.int l2), some (.int l3), some (.int l4), some (.int l5), none] [] g := by
  unfold B_M_emptyingFor_14 at h
  refine j_iload hE (by decide +kernel : decode cX11_emptyingFor 14 = .ok (.iload 5, 2)) rfl ?_
  refine j_aload_n hE (by decide +kernel : decode cX11_emptyingFor 16 = .ok (.aload_n 0, 1)) rfl rfl ?_
  obtain ⟨hk, h⟩ := h
  refine j_getI hE fg_X11_250 hk (by decide +kernel : decode cX11_emptyingFor 17 = .ok (.getfield 250, 3)) ?_
  refine j_icmp_ge hE (by decide +kernel : decode cX11_emptyingFor 20 = .ok (.if_icmp .ge 96, 3)) (tgt := 116) (by decide) (fun q => ?_) (fun q => ?_)
  · replace h := h.1 q
    refine j_weak [none, none, none, none, some (.int l4), none, none] ⟨rfl, trivial⟩ ?_
    exact S_M_emptyingFor_116 hE hK14 _ _ h
  · replace h := h.2 q
    refine j_iload_n hE (by decide +kernel : decode cX11_emptyingFor 23 = .ok (.iload_n 3, 1)) rfl rfl ?_
    refine j_iconst hE (by decide +kernel : decode cX11_emptyingFor 24 = .ok (.iconst (-1), 1)) (v := (-1 : Int32)) (by decide) ?_
    refine j_icmp_eq hE (by decide +kernel : decode cX11_emptyingFor 25 = .ok (.if_icmp .eq 91, 3)) (tgt := 116) (by decide) (fun q => ?_) (fun q => ?_)
    · replace h := h.1 q
      refine j_weak [none, none, none, none, some (.int l4), none, none] ⟨rfl, trivial⟩ ?_
      exact S_M_emptyingFor_116 hE hK14 _ _ h
    · replace h := h.2 q
      refine j_aload_n hE (by decide +kernel : decode cX11_emptyingFor 28 = .ok (.aload_n 0, 1)) rfl rfl ?_
      obtain ⟨hk, h⟩ := h
      obtain ⟨a1, ha, h⟩ := h
      refine j_getRn hE fg_X11_62 hk ha (by decide +kernel : decode cX11_emptyingFor 29 = .ok (.getfield 62, 3)) ?_
      refine j_iload hE (by decide +kernel : decode cX11_emptyingFor 32 = .ok (.iload 5, 2)) rfl ?_
      obtain ⟨hk, hb, h⟩ := h
      refine j_iald hE hk hb (by decide +kernel : decode cX11_emptyingFor 34 = .ok (.iaload, 1)) ?_
      refine j_aload_n hE (by decide +kernel : decode cX11_emptyingFor 35 = .ok (.aload_n 0, 1)) rfl rfl ?_
      obtain ⟨hk, h⟩ := h
      obtain ⟨a2, ha, h⟩ := h
      refine j_getRn hE fg_X11_56 hk ha (by decide +kernel : decode cX11_emptyingFor 36 = .ok (.getfield 56, 3)) ?_
      refine j_iload_n hE (by decide +kernel : decode cX11_emptyingFor 39 = .ok (.iload_n 3, 1)) rfl rfl ?_
      obtain ⟨hk, hb, h⟩ := h
      refine j_iald hE hk hb (by decide +kernel : decode cX11_emptyingFor 40 = .ok (.iaload, 1)) ?_
      refine j_icmp_ne hE (by decide +kernel : decode cX11_emptyingFor 41 = .ok (.if_icmp .ne 34, 3)) (tgt := 75) (by decide) (fun q => ?_) (fun q => ?_)
      · replace h := h.1 q
        exact S_M_emptyingFor_75 hE hK14 _ _ _ _ _ _ h
      · replace h := h.2 q
        refine j_aload_n hE (by decide +kernel : decode cX11_emptyingFor 44 = .ok (.aload_n 0, 1)) rfl rfl ?_
        obtain ⟨hk, h⟩ := h
        obtain ⟨a3, ha, h⟩ := h
        refine j_getRn hE fg_X11_71 hk ha (by decide +kernel : decode cX11_emptyingFor 45 = .ok (.getfield 71, 3)) ?_
        refine j_iload hE (by decide +kernel : decode cX11_emptyingFor 48 = .ok (.iload 5, 2)) rfl ?_
        obtain ⟨hk, hb, h⟩ := h
        refine j_iald hE hk hb (by decide +kernel : decode cX11_emptyingFor 50 = .ok (.iaload, 1)) ?_
        refine j_iload_n hE (by decide +kernel : decode cX11_emptyingFor 51 = .ok (.iload_n 2, 1)) rfl rfl ?_
        refine j_icmp_gt hE (by decide +kernel : decode cX11_emptyingFor 52 = .ok (.if_icmp .gt 23, 3)) (tgt := 75) (by decide) (fun q => ?_) (fun q => ?_)
        · replace h := h.1 q
          exact S_M_emptyingFor_75 hE hK14 _ _ _ _ _ _ h
        · replace h := h.2 q
          refine j_aload_n hE (by decide +kernel : decode cX11_emptyingFor 55 = .ok (.aload_n 0, 1)) rfl rfl ?_
          obtain ⟨hk, h⟩ := h
          obtain ⟨a4, ha, h⟩ := h
          refine j_getRn hE fg_X11_65 hk ha (by decide +kernel : decode cX11_emptyingFor 56 = .ok (.getfield 65, 3)) ?_
          refine j_iload hE (by decide +kernel : decode cX11_emptyingFor 59 = .ok (.iload 5, 2)) rfl ?_
          obtain ⟨hk, hb, h⟩ := h
          refine j_iald hE hk hb (by decide +kernel : decode cX11_emptyingFor 61 = .ok (.iaload, 1)) ?_
          refine j_aload_n hE (by decide +kernel : decode cX11_emptyingFor 62 = .ok (.aload_n 0, 1)) rfl rfl ?_
          obtain ⟨hk, h⟩ := h
          obtain ⟨a5, ha, h⟩ := h
          refine j_getRn hE fg_X11_53 hk ha (by decide +kernel : decode cX11_emptyingFor 63 = .ok (.getfield 53, 3)) ?_
          refine j_iload_n hE (by decide +kernel : decode cX11_emptyingFor 66 = .ok (.iload_n 3, 1)) rfl rfl ?_
          obtain ⟨hk, hb, h⟩ := h
          refine j_iald hE hk hb (by decide +kernel : decode cX11_emptyingFor 67 = .ok (.iaload, 1)) ?_
          refine j_icmp_lt hE (by decide +kernel : decode cX11_emptyingFor 68 = .ok (.if_icmp .lt 7, 3)) (tgt := 75) (by decide) (fun q => ?_) (fun q => ?_)
          · replace h := h.1 q
            exact S_M_emptyingFor_75 hE hK14 _ _ _ _ _ _ h
          · replace h := h.2 q
            refine j_iconst hE (by decide +kernel : decode cX11_emptyingFor 71 = .ok (.iconst 1, 1)) (v := (1 : Int32)) (by decide) ?_
            refine j_goto hE (by decide +kernel : decode cX11_emptyingFor 72 = .ok (.goto 4, 3)) (tgt := 76) (by decide) ?_
            exact S_M_emptyingFor_76 hE hK14 _ _ _ _ _ _ _ h
set_option maxRecDepth 100000 in
def B_M_emptyingFor_0 (Γ : GAM) (K14 : Nat → Int32 → Int32 → Int32 → Int32 → GH → Prop) (K : Int32 → GH → Prop) (th : Nat) (p0 : Int32) (p1 : Int32) (g : GH) : Prop :=
  Kd g th = 13 ∧ Sp_M_eventFor Γ th p0 (3 : Int32) p1 g (fun (x2 : Int32) (g1 : GH) => K14 th p1 x2 (-1 : Int32) (0 : Int32) g1)
set_option maxHeartbeats 4000000 in
set_option maxRecDepth 100000 in
theorem S_M_emptyingFor_0 {Γ : GAM} {E : EV} {K : Int32 → GH → Prop} (hE : GE Γ E cX11_emptyingFor 7 RX11 (some (.int)) 1 25 (fun r g' => ∃ x, r = some (.int x) ∧ K x g')) {K14 : Nat → Int32 → Int32 → Int32 → Int32 → GH → Prop} (hK14 : ∀ (l0 : Nat) (l2 : Int32) (l3 : Int32) (l4 : Int32) (l5 : Int32) (g : GH), K14 l0 l2 l3 l4 l5 g → JW Γ E 14 [some (.ref l0), none, some (.int l2), some (.int l3), some (.int l4), some (.int l5), none] [] g) (th : Nat) (p0 : Int32) (p1 : Int32) (g : GH) (h : B_M_emptyingFor_0 Γ K14 K th p0 p1 g) : JW Γ E 0 [some (.ref th), some (.int p0), some (.int p1), none, none, none, none] [] g := by
  unfold B_M_emptyingFor_0 at h
  refine j_aload_n hE (by decide +kernel : decode cX11_emptyingFor 0 = .ok (.aload_n 0, 1)) rfl rfl ?_
  refine j_iload_n hE (by decide +kernel : decode cX11_emptyingFor 1 = .ok (.iload_n 1, 1)) rfl rfl ?_
  refine j_iconst hE (by decide +kernel : decode cX11_emptyingFor 2 = .ok (.iconst 3, 1)) (v := (3 : Int32)) (by decide) ?_
  refine j_iload_n hE (by decide +kernel : decode cX11_emptyingFor 3 = .ok (.iload_n 2, 1)) rfl rfl ?_
  obtain ⟨hk, h⟩ := h
  refine j_callV hE rfl cl_X11_253 cf_12 im_X11_eventFor se_X11_eventFor ⟨by omega, by omega⟩ (As := [.int p0, .int (3 : Int32), .int p1]) (rest := []) rfl rfl (Nat.le_of_ble_eq_true rfl) hk (by decide +kernel : decode cX11_emptyingFor 4 = .ok (.invokevirtual 253, 3)) (mt_M_eventFor _ _ _ _ _ _ h) ?_
  rintro _ g1 ⟨x2, rfl, h⟩
  refine j_istore_n hE (by decide +kernel : decode cX11_emptyingFor 7 = .ok (.istore_n 3, 1)) rfl (Nat.le_of_ble_eq_true rfl) rfl ?_
  refine j_iconst hE (by decide +kernel : decode cX11_emptyingFor 8 = .ok (.iconst (-1), 1)) (v := (-1 : Int32)) (by decide) ?_
  refine j_istore hE (by decide +kernel : decode cX11_emptyingFor 9 = .ok (.istore 4, 2)) (Nat.le_of_ble_eq_true rfl) rfl ?_
  refine j_iconst hE (by decide +kernel : decode cX11_emptyingFor 11 = .ok (.iconst 0, 1)) (v := (0 : Int32)) (by decide) ?_
  refine j_istore hE (by decide +kernel : decode cX11_emptyingFor 12 = .ok (.istore 5, 2)) (Nat.le_of_ble_eq_true rfl) rfl ?_
  refine j_weak [some (.ref th), none, some (.int p1), some (.int x2), some (.int (-1 : Int32)), some (.int (0 : Int32)), none] ⟨rfl, ⟨rfl, ⟨rfl, ⟨rfl, ⟨rfl, trivial⟩⟩⟩⟩⟩ ?_
  exact hK14 _ _ _ _ _ _ h
set_option maxHeartbeats 4000000 in
set_option maxRecDepth 100000 in
theorem rl_M_emptyingFor {Γ : GAM} {l : Launch} {th : Nat} {p0 : Int32} {p1 : Int32} {g : GH} {K : Int32 → GH → Prop} (I14 : Nat → Nat → Int32 → Int32 → Int32 → Int32 → GH → Prop) (hh14 : ∀ n (l0 : Nat) (l2 : Int32) (l3 : Int32) (l4 : Int32) (l5 : Int32) (g : GH), I14 n l0 l2 l3 l4 l5 g → B_M_emptyingFor_14 Γ (fun l0 l2 l3 l4 l5 g => ∃ m, m < n ∧ I14 m l0 l2 l3 l4 l5 g) K l0 l2 l3 l4 l5 g) (h0 : B_M_emptyingFor_0 Γ (fun l0 l2 l3 l4 l5 g => ∃ m, I14 m l0 l2 l3 l4 l5 g) K th p0 p1 g) : MetA Γ l yX11_emptyingFor cX11_emptyingFor 7 (some (.int)) 1 25 [.ref th, .int p0, .int p1] g (fun r g' => ∃ x, r = some (.int x) ∧ K x g') := by
  refine MetA.introL (Lx := [some (.ref th), some (.int p0), some (.int p1), none, none, none, none]) (by decide) (Nat.le_of_ble_eq_true rfl) rfl rfl ?_
  intro E hEl hE hnm
  have hall : ∀ n, (∀ (l0 : Nat) (l2 : Int32) (l3 : Int32) (l4 : Int32) (l5 : Int32) (g : GH), I14 n l0 l2 l3 l4 l5 g → JW Γ E 14 [some (.ref l0), none, some (.int l2), some (.int l3), some (.int l4), some (.int l5), none] [] g) := by
    intro n
    induction n using Nat.strongRecOn with
    | ind n ih =>
      exact fun l0 l2 l3 l4 l5 g hi => S_M_emptyingFor_14 hE (fun l0 l2 l3 l4 l5 g hm => by obtain ⟨m, hm, h⟩ := hm; exact (ih m hm) l0 l2 l3 l4 l5 g h) l0 l2 l3 l4 l5 g (hh14 n l0 l2 l3 l4 l5 g hi)
  exact S_M_emptyingFor_0 hE (fun l0 l2 l3 l4 l5 g hm => by obtain ⟨m, h⟩ := hm; exact (hall m) l0 l2 l3 l4 l5 g h) th p0 p1 g h0
theorem mt_M_emptyingFor {Γ : GAM} {l : Launch} (th : Nat) (p0 : Int32) (p1 : Int32) (g : GH) (K : Int32 → GH → Prop) (h : Sp_M_emptyingFor Γ th p0 p1 g K) : MetA Γ l yX11_emptyingFor cX11_emptyingFor 7 (some (.int)) 1 25 [.ref th, .int p0, .int p1] g (fun r g' => ∃ x, r = some (.int x) ∧ K x g') := by
  obtain ⟨ma, s, hI, hK⟩ := h
  obtain ⟨hkd, hS⟩ := hI.1
  obtain ⟨f1, f2, f3⟩ := hI.emp
  obtain ⟨v1, v2, v3⟩ := hI.evt
  obtain ⟨z_emptyBox1, z_emptyBox2, z_emptyBox3, z_emptyBox4, z_emptyBox5⟩ := hS 1565 20 200 rfl
  obtain ⟨z_emptyDay1, z_emptyDay2, z_emptyDay3, z_emptyDay4, z_emptyDay5⟩ := hS 1566 20 200 rfl
  obtain ⟨z_emptyTold1, z_emptyTold2, z_emptyTold3, z_emptyTold4, z_emptyTold5⟩ := hS 1568 20 200 rfl
  obtain ⟨z_eventBox1, z_eventBox2, z_eventBox3, z_eventBox4, z_eventBox5⟩ := hS 1563 20 600 rfl
  obtain ⟨z_eventDay1, z_eventDay2, z_eventDay3, z_eventDay4, z_eventDay5⟩ := hS 1562 20 600 rfl
  cases hv : sEv s p0 3 p1 with
  | none =>
    have hr : sEmp s p0 p1 = none := by unfold sEmp; rw [hv]
    refine rl_M_emptyingFor (fun n l0 l2 l3 l4 l5 g' => g' = g ∧ l0 = th ∧ l3 = -1 ∧ l4 = -1 ∧ l5 = 0) ?_ ?_
    · rintro n l0 l2 l3 l4 l5 g' ⟨rfl, rfl, rfl, rfl, rfl⟩
      rw [hr] at hK
      simp only [B_M_emptyingFor_14, B_M_emptyingFor_116, B_M_emptyingFor_110, B_M_emptyingFor_106, B_M_emptyingFor_76, B_M_emptyingFor_75, B_M_emptyingFor_0]
      exact ⟨hkd, fun _ => hK, fun _ => ⟨fun _ => hK, fun q => (q trivial).elim⟩⟩
    · unfold B_M_emptyingFor_0
      refine ⟨hkd, ma, s, hI, ?_⟩
      rw [hv]
      exact ⟨0, rfl, rfl, rfl, rfl, rfl⟩
  | some p =>
    obtain ⟨j, ev⟩ := p
    have hx := sEv_get hv
    have hj := (List.getElem?_eq_some_iff.mp hx).1
    obtain ⟨w1, w2, w3, w4, w5⟩ := v3 j ev hx
    have hr : sEmp s p0 p1 = sEm s ev.2.2.2.1 ev.2.2.1 p1 := by unfold sEmp; rw [hv]
    rw [hr] at hK
    have hbj := inB_nI (show j < 600 by omega) (by omega)
    refine rl_M_emptyingFor (fun n l0 l2 l3 l4 l5 g' => g' = g ∧ l0 = th ∧ l2 = p1 ∧ l3 = nI j ∧ ∃ k, k ≤ (s_emp s).length ∧ n = (s_emp s).length - k ∧ l5 = nI k ∧ l4 = oI (((s_emp s).zipIdx.take k).foldl (emS ev.2.2.2.1 ev.2.2.1 p1) none)) ?_ ?_
    · rintro n l0 l2 l3 l4 l5 g' ⟨rfl, rfl, rfl, rfl, k, hk, hn, rfl, hf⟩
      simp only [B_M_emptyingFor_14, B_M_emptyingFor_116, B_M_emptyingFor_75, B_M_emptyingFor_76, B_M_emptyingFor_106, hkd, f1, z_emptyBox1, z_emptyBox2, z_emptyBox3, z_emptyBox4, z_emptyBox5, z_emptyDay1, z_emptyDay2, z_emptyDay3, z_emptyDay4, z_emptyDay5, z_emptyTold1, z_emptyTold2, z_emptyTold3, z_emptyTold4, z_emptyTold5, z_eventBox1, z_eventBox2, z_eventBox3, z_eventBox4, z_eventBox5, z_eventDay1, z_eventDay2, z_eventDay3, z_eventDay4, z_eventDay5, Option.some.injEq, exists_eq_left', true_and, nj_le (show (s_emp s).length < 2147483648 by omega) (show k < 2147483648 by omega), nj_cl (show k < 2147483648 by omega), nj_cl (show j < 2147483648 by omega), hbj, w3, w4]
      refine ⟨fun q => ?_, fun q => ⟨fun z => absurd z (nI_nm1 (by omega)), fun _ => ?_⟩⟩
      · have hz : (s_emp s).zipIdx.take k = (s_emp s).zipIdx := List.take_of_length_le (by rw [List.length_zipIdx]; exact q)
        rw [hz] at hf
        rw [hf]; exact hK
      · obtain ⟨x, hx⟩ := get_lt (show k < (s_emp s).length by omega)
        obtain ⟨x1, x2, x3, x4⟩ := f3 k x hx
        have hb := inB_nI (show k < 200 by omega) (by omega)
        have hnext : ∀ a : Int32, a = oI (emS ev.2.2.2.1 ev.2.2.1 l2 (((s_emp s).zipIdx.take k).foldl (emS ev.2.2.2.1 ev.2.2.1 l2) none) (x, k)) → B_M_emptyingFor_110 Γ (fun l0' l2' l3 l4 l5 g => ∃ m, m < n ∧ g = g' ∧ l0' = l0 ∧ l2' = l2 ∧ l3 = nI j ∧ ∃ k, k ≤ (s_emp s).length ∧ m = (s_emp s).length - k ∧ l5 = nI k ∧ l4 = oI (((s_emp s).zipIdx.take k).foldl (emS ev.2.2.2.1 ev.2.2.1 l2) none)) K l0 l2 (nI j) a (nI k) g' := by
          intro a hab
          unfold B_M_emptyingFor_110
          refine ⟨(s_emp s).length - (k + 1), by omega, rfl, rfl, rfl, rfl, k + 1, by omega, rfl, nj_s k, ?_⟩
          rw [fold_take _ _ _ (zip_get hx)]
          exact hab
        generalize hF : ((s_emp s).zipIdx.take k).foldl (emS ev.2.2.2.1 ev.2.2.1 l2) none = F at hf hnext
        simp only [x1, x2, x4, hb, true_and]
        cases F with
        | none =>
          rw [oI_n] at hf
          subst hf
          simp only [emS, emB, and_true] at hnext
          repeat' with_reducible first | apply And.intro | intro _
          all_goals first | (exfalso; grind; done) | (refine hnext _ ?_; first | (rw [if_neg (by grind)]; rfl) | (rw [if_pos (by grind)]; rfl))
        | some b =>
          obtain ⟨i, y⟩ := b
          rw [oI_s] at hf
          subst hf
          have hy : (s_emp s)[i]? = some y := by
            refine fold_row (s_emp s) (fun a p => if p.2 < k then emS ev.2.2.2.1 ev.2.2.1 l2 a p else a) (fun a p => ?_) (j := i) (x := y) ?_
            · unfold emS; split
              · split <;> simp
              · simp
            · rw [← hF, fold_ltake]
          have hi := (List.getElem?_eq_some_iff.mp hy).1
          have hbi := inB_nI (show i < 200 by omega) (by omega)
          simp only [emS, emB, decide_eq_true_eq] at hnext
          simp only [hbi, true_and, nj_cl (show i < 2147483648 by omega), (f3 i y hy).2.1]
          have hne := nI_nm1 (show i < 2147483648 by omega)
          repeat' with_reducible first | apply And.intro | intro _
          all_goals first | (exfalso; grind; done) | (refine hnext _ ?_; first | (rw [if_neg (by grind)]; rfl) | (rw [if_pos (by grind)]; rfl))
    · unfold B_M_emptyingFor_0
      refine ⟨hkd, ma, s, hI, ?_⟩
      rw [hv]
      exact ⟨_, rfl, rfl, rfl, rfl, 0, Nat.zero_le _, rfl, rfl, rfl⟩
