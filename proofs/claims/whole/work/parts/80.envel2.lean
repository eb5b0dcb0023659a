/-! the class: an envelope; unlike figures, doubles, its numbers -/
def Sp_En_unlikeFigures (Γ : GAM) (m : Nat) (g : GH) (K : Int32 → GH → Prop) : Prop := ∃ v, E2 m g ∧ Gr g 129 m = some v ∧ Kd g v = 11 ∧ K (if Ia g 136 m 9 = -1 then 9 else (unIt 8 (Ia g 136 m 9, Gi g 1282 v, 0)).2.2) g
-- the walk of En_unlikeFigures
set_option maxRecDepth 100000 in
def B_En_unlikeFigures_59 (Γ : GAM) (K35 : Int32 → Int32 → Int32 → Int32 → GH → Prop) (K : Int32 → GH → Prop) (l1 : Int32) (l2 : Int32) (l4 : Int32) (s0 : Int32) (s1 : Int32) (g : GH) : Prop :=
  ∀ x1 : Int32, x1 = (s1 + s0) → ∀ x2 : Int32, x2 = (l1 / (10 : Int32)) → ∀ x3 : Int32, x3 = (l2 / (10 : Int32)) → K35 x2 x3 x1 (l4 + (1 : Int32)) g
set_option maxHeartbeats 4000000 in
set_option maxRecDepth 100000 in
theorem S_En_unlikeFigures_59 {Γ : GAM} {E : EV} {K : Int32 → GH → Prop} (hE : GE Γ E cX0_unlikeFigures 5 RX0 (some (.int)) 0 0 (fun r g' => ∃ x, r = some (.int x) ∧ K x g')) {K35 : Int32 → Int32 → Int32 → Int32 → GH → Prop} (hK35 : ∀ (l1 : Int32) (l2 : Int32) (l3 : Int32) (l4 : Int32) (g : GH), K35 l1 l2 l3 l4 g → JW Γ E 35 [none, some (.int l1), some (.int l2), some (.int l3), some (.int l4)] [] g) (l1 : Int32) (l2 : Int32) (l4 : Int32) (s0 : Int32) (s1 : Int32) (g : GH) (h : B_En_unlikeFigures_59 Γ K35 K l1 l2 l4 s0 s1 g) : JW Γ E 59 [none, some (.int l1), some (.int l2), none, some (.int l4)] [.int s0, .int s1] g := by
  unfold B_En_unlikeFigures_59 at h
  refine j_iadd hE (by decide +kernel : decode cX0_unlikeFigures 59 = .ok (.iadd, 1)) ?_
  obtain ⟨x1, hx⟩ : ∃ z, z = (s1 + s0) := ⟨_, rfl⟩; replace h := h x1 hx; rw [← hx]
  refine j_istore_n hE (by decide +kernel : decode cX0_unlikeFigures 60 = .ok (.istore_n 3, 1)) rfl (Nat.le_of_ble_eq_true rfl) rfl ?_
  refine j_iload_n hE (by decide +kernel : decode cX0_unlikeFigures 61 = .ok (.iload_n 1, 1)) rfl rfl ?_
  refine j_bipush hE (by decide +kernel : decode cX0_unlikeFigures 62 = .ok (.bipush 10, 2)) (v := (10 : Int32)) (by decide) ?_
  refine j_idiv hE (by decide +kernel : decode cX0_unlikeFigures 64 = .ok (.idiv, 1)) (by decide) ?_
  obtain ⟨x2, hx⟩ : ∃ z, z = (l1 / (10 : Int32)) := ⟨_, rfl⟩; replace h := h x2 hx; rw [← hx]
  refine j_istore_n hE (by decide +kernel : decode cX0_unlikeFigures 65 = .ok (.istore_n 1, 1)) rfl (Nat.le_of_ble_eq_true rfl) rfl ?_
  refine j_iload_n hE (by decide +kernel : decode cX0_unlikeFigures 66 = .ok (.iload_n 2, 1)) rfl rfl ?_
  refine j_bipush hE (by decide +kernel : decode cX0_unlikeFigures 67 = .ok (.bipush 10, 2)) (v := (10 : Int32)) (by decide) ?_
  refine j_idiv hE (by decide +kernel : decode cX0_unlikeFigures 69 = .ok (.idiv, 1)) (by decide) ?_
  obtain ⟨x3, hx⟩ : ∃ z, z = (l2 / (10 : Int32)) := ⟨_, rfl⟩; replace h := h x3 hx; rw [← hx]
  refine j_istore_n hE (by decide +kernel : decode cX0_unlikeFigures 70 = .ok (.istore_n 2, 1)) rfl (Nat.le_of_ble_eq_true rfl) rfl ?_
  refine j_iinc hE (by decide +kernel : decode cX0_unlikeFigures 71 = .ok (.iinc 4 1, 3)) (v := (1 : Int32)) (by decide) rfl (Nat.le_of_ble_eq_true rfl) rfl ?_
  refine j_goto hE (by decide +kernel : decode cX0_unlikeFigures 74 = .ok (.goto (-39), 3)) (tgt := 35) (by decide) ?_
  exact hK35 _ _ _ _ _ h
set_option maxRecDepth 100000 in
def B_En_unlikeFigures_35 (Γ : GAM) (K35 : Int32 → Int32 → Int32 → Int32 → GH → Prop) (K : Int32 → GH → Prop) (l1 : Int32) (l2 : Int32) (l3 : Int32) (l4 : Int32) (g : GH) : Prop :=
  (((8 : Int32) ≤ l4 → K l3 g) ∧ (¬ ((8 : Int32) ≤ l4) → ((¬ ((l1 - l1 / (10 : Int32) * (10 : Int32)) = (l2 - l2 / (10 : Int32) * (10 : Int32))) → B_En_unlikeFigures_59 Γ K35 K l1 l2 l4 (1 : Int32) l3 g) ∧ ((l1 - l1 / (10 : Int32) * (10 : Int32)) = (l2 - l2 / (10 : Int32) * (10 : Int32)) → B_En_unlikeFigures_59 Γ K35 K l1 l2 l4 (0 : Int32) l3 g))))
set_option maxHeartbeats 4000000 in
set_option maxRecDepth 100000 in
theorem S_En_unlikeFigures_35 {Γ : GAM} {E : EV} {K : Int32 → GH → Prop} (hE : GE Γ E cX0_unlikeFigures 5 RX0 (some (.int)) 0 0 (fun r g' => ∃ x, r = some (.int x) ∧ K x g')) {K35 : Int32 → Int32 → Int32 → Int32 → GH → Prop} (hK35 : ∀ (l1 : Int32) (l2 : Int32) (l3 : Int32) (l4 : Int32) (g : GH), K35 l1 l2 l3 l4 g → JW Γ E 35 [none, some (.int l1), some (.int l2), some (.int l3), some (.int l4)] [] g) (l1 : Int32) (l2 : Int32) (l3 : Int32) (l4 : Int32) (g : GH) (h : B_En_unlikeFigures_35 Γ K35 K l1 l2 l3 l4 g) : JW Γ E 35 [none, some (.int l1), some (.int l2), some (.int l3), some (.int l4)] [] g := by
  unfold B_En_unlikeFigures_35 at h
  refine j_iload hE (by decide +kernel : decode cX0_unlikeFigures 35 = .ok (.iload 4, 2)) rfl ?_
  refine j_bipush hE (by decide +kernel : decode cX0_unlikeFigures 37 = .ok (.bipush 8, 2)) (v := (8 : Int32)) (by decide) ?_
  refine j_icmp_ge hE (by decide +kernel : decode cX0_unlikeFigures 39 = .ok (.if_icmp .ge 38, 3)) (tgt := 77) (by decide) (fun q => ?_) (fun q => ?_)
  · replace h := h.1 q
    refine j_iload_n hE (by decide +kernel : decode cX0_unlikeFigures 77 = .ok (.iload_n 3, 1)) rfl rfl ?_
    exact j_iret hE (by decide +kernel : decode cX0_unlikeFigures 78 = .ok (.ireturn, 1)) ⟨_, rfl, h⟩
  · replace h := h.2 q
    refine j_iload_n hE (by decide +kernel : decode cX0_unlikeFigures 42 = .ok (.iload_n 3, 1)) rfl rfl ?_
    refine j_iload_n hE (by decide +kernel : decode cX0_unlikeFigures 43 = .ok (.iload_n 1, 1)) rfl rfl ?_
    refine j_bipush hE (by decide +kernel : decode cX0_unlikeFigures 44 = .ok (.bipush 10, 2)) (v := (10 : Int32)) (by decide) ?_
    refine j_irem hE (by decide +kernel : decode cX0_unlikeFigures 46 = .ok (.irem, 1)) (by decide) ?_
    refine j_iload_n hE (by decide +kernel : decode cX0_unlikeFigures 47 = .ok (.iload_n 2, 1)) rfl rfl ?_
    refine j_bipush hE (by decide +kernel : decode cX0_unlikeFigures 48 = .ok (.bipush 10, 2)) (v := (10 : Int32)) (by decide) ?_
    refine j_irem hE (by decide +kernel : decode cX0_unlikeFigures 50 = .ok (.irem, 1)) (by decide) ?_
    refine j_icmp_ne hE (by decide +kernel : decode cX0_unlikeFigures 51 = .ok (.if_icmp .ne 7, 3)) (tgt := 58) (by decide) (fun q => ?_) (fun q => ?_)
    · replace h := h.1 q
      refine j_iconst hE (by decide +kernel : decode cX0_unlikeFigures 58 = .ok (.iconst 1, 1)) (v := (1 : Int32)) (by decide) ?_
      refine j_weak [none, some (.int l1), some (.int l2), none, some (.int l4)] ⟨rfl, ⟨rfl, ⟨rfl, trivial⟩⟩⟩ ?_
      exact S_En_unlikeFigures_59 hE hK35 _ _ _ _ _ _ h
    · replace h := h.2 q
      refine j_iconst hE (by decide +kernel : decode cX0_unlikeFigures 54 = .ok (.iconst 0, 1)) (v := (0 : Int32)) (by decide) ?_
      refine j_goto hE (by decide +kernel : decode cX0_unlikeFigures 55 = .ok (.goto 4, 3)) (tgt := 59) (by decide) ?_
      refine j_weak [none, some (.int l1), some (.int l2), none, some (.int l4)] ⟨rfl, ⟨rfl, ⟨rfl, trivial⟩⟩⟩ ?_
      exact S_En_unlikeFigures_59 hE hK35 _ _ _ _ _ _ h
set_option maxRecDepth 100000 in
def B_En_unlikeFigures_0 (Γ : GAM) (K35 : Int32 → Int32 → Int32 → Int32 → GH → Prop) (K : Int32 → GH → Prop) (th : Nat) (g : GH) : Prop :=
  Kd g th = 2 ∧ ∃ a1 : Nat, Gr g 136 th = some a1 ∧ Kd g a1 = 20 ∧ inB (9 : Int32) (Ln g a1) ∧ ((¬ ((Ia g (Co g a1) (Ow g a1) (9 : Int32).toNatClampNeg) = (-1 : Int32)) → Kd g th = 2 ∧ ∃ a2 : Nat, Gr g 136 th = some a2 ∧ Kd g a2 = 20 ∧ inB (9 : Int32) (Ln g a2) ∧ ∀ x3 : Int32, x3 = (Ia g (Co g a2) (Ow g a2) (9 : Int32).toNatClampNeg) → Kd g th = 2 ∧ ∃ a4 : Nat, Gr g 129 th = some a4 ∧ Kd g a4 = 11 ∧ ∀ x5 : Int32, x5 = (Gi g 1282 a4) → K35 x3 x5 (0 : Int32) (0 : Int32) g) ∧ ((Ia g (Co g a1) (Ow g a1) (9 : Int32).toNatClampNeg) = (-1 : Int32) → K (9 : Int32) g))
set_option maxHeartbeats 4000000 in
set_option maxRecDepth 100000 in
theorem S_En_unlikeFigures_0 {Γ : GAM} {E : EV} {K : Int32 → GH → Prop} (hE : GE Γ E cX0_unlikeFigures 5 RX0 (some (.int)) 0 0 (fun r g' => ∃ x, r = some (.int x) ∧ K x g')) {K35 : Int32 → Int32 → Int32 → Int32 → GH → Prop} (hK35 : ∀ (l1 : Int32) (l2 : Int32) (l3 : Int32) (l4 : Int32) (g : GH), K35 l1 l2 l3 l4 g → JW Γ E 35 [none, some (.int l1), some (.int l2), some (.int l3), some (.int l4)] [] g) (th : Nat) (g : GH) (h : B_En_unlikeFigures_0 Γ K35 K th g) : JW Γ E 0 [some (.ref th), none, none, none, none] [] g := by
  unfold B_En_unlikeFigures_0 at h
  refine j_aload_n hE (by decide +kernel : decode cX0_unlikeFigures 0 = .ok (.aload_n 0, 1)) rfl rfl ?_
  obtain ⟨hk, h⟩ := h
  obtain ⟨a1, ha, h⟩ := h
  refine j_getRn hE fg_X0_26 hk ha (by decide +kernel : decode cX0_unlikeFigures 1 = .ok (.getfield 26, 3)) ?_
  refine j_bipush hE (by decide +kernel : decode cX0_unlikeFigures 4 = .ok (.bipush 9, 2)) (v := (9 : Int32)) (by decide) ?_
  obtain ⟨hk, hb, h⟩ := h
  refine j_iald hE hk hb (by decide +kernel : decode cX0_unlikeFigures 6 = .ok (.iaload, 1)) ?_
  refine j_iconst hE (by decide +kernel : decode cX0_unlikeFigures 7 = .ok (.iconst (-1), 1)) (v := (-1 : Int32)) (by decide) ?_
  refine j_icmp_ne hE (by decide +kernel : decode cX0_unlikeFigures 8 = .ok (.if_icmp .ne 6, 3)) (tgt := 14) (by decide) (fun q => ?_) (fun q => ?_)
  · replace h := h.1 q
    refine j_aload_n hE (by decide +kernel : decode cX0_unlikeFigures 14 = .ok (.aload_n 0, 1)) rfl rfl ?_
    obtain ⟨hk, h⟩ := h
    obtain ⟨a2, ha, h⟩ := h
    refine j_getRn hE fg_X0_26 hk ha (by decide +kernel : decode cX0_unlikeFigures 15 = .ok (.getfield 26, 3)) ?_
    refine j_bipush hE (by decide +kernel : decode cX0_unlikeFigures 18 = .ok (.bipush 9, 2)) (v := (9 : Int32)) (by decide) ?_
    obtain ⟨hk, hb, h⟩ := h
    refine j_iald hE hk hb (by decide +kernel : decode cX0_unlikeFigures 20 = .ok (.iaload, 1)) ?_
    obtain ⟨x3, hx⟩ : ∃ z, z = (Ia g (Co g a2) (Ow g a2) (9 : Int32).toNatClampNeg) := ⟨_, rfl⟩; replace h := h x3 hx; rw [← hx]
    refine j_istore_n hE (by decide +kernel : decode cX0_unlikeFigures 21 = .ok (.istore_n 1, 1)) rfl (Nat.le_of_ble_eq_true rfl) rfl ?_
    refine j_aload_n hE (by decide +kernel : decode cX0_unlikeFigures 22 = .ok (.aload_n 0, 1)) rfl rfl ?_
    obtain ⟨hk, h⟩ := h
    obtain ⟨a4, ha, h⟩ := h
    refine j_getRn hE fg_X0_47 hk ha (by decide +kernel : decode cX0_unlikeFigures 23 = .ok (.getfield 47, 3)) ?_
    obtain ⟨hk, h⟩ := h
    refine j_getI hE fg_X0_105 hk (by decide +kernel : decode cX0_unlikeFigures 26 = .ok (.getfield 105, 3)) ?_
    obtain ⟨x5, hx⟩ : ∃ z, z = (Gi g 1282 a4) := ⟨_, rfl⟩; replace h := h x5 hx; rw [← hx]
    refine j_istore_n hE (by decide +kernel : decode cX0_unlikeFigures 29 = .ok (.istore_n 2, 1)) rfl (Nat.le_of_ble_eq_true rfl) rfl ?_
    refine j_iconst hE (by decide +kernel : decode cX0_unlikeFigures 30 = .ok (.iconst 0, 1)) (v := (0 : Int32)) (by decide) ?_
    refine j_istore_n hE (by decide +kernel : decode cX0_unlikeFigures 31 = .ok (.istore_n 3, 1)) rfl (Nat.le_of_ble_eq_true rfl) rfl ?_
    refine j_iconst hE (by decide +kernel : decode cX0_unlikeFigures 32 = .ok (.iconst 0, 1)) (v := (0 : Int32)) (by decide) ?_
    refine j_istore hE (by decide +kernel : decode cX0_unlikeFigures 33 = .ok (.istore 4, 2)) (Nat.le_of_ble_eq_true rfl) rfl ?_
    refine j_weak [none, some (.int x3), some (.int x5), some (.int (0 : Int32)), some (.int (0 : Int32))] ⟨rfl, ⟨rfl, ⟨rfl, ⟨rfl, trivial⟩⟩⟩⟩ ?_
    exact hK35 _ _ _ _ _ h
  · replace h := h.2 q
    refine j_bipush hE (by decide +kernel : decode cX0_unlikeFigures 11 = .ok (.bipush 9, 2)) (v := (9 : Int32)) (by decide) ?_
    exact j_iret hE (by decide +kernel : decode cX0_unlikeFigures 13 = .ok (.ireturn, 1)) ⟨_, rfl, h⟩
set_option maxHeartbeats 4000000 in
set_option maxRecDepth 100000 in
theorem rl_En_unlikeFigures {Γ : GAM} {l : Launch} {th : Nat} {g : GH} {K : Int32 → GH → Prop} (I35 : Nat → Int32 → Int32 → Int32 → Int32 → GH → Prop) (hh35 : ∀ n (l1 : Int32) (l2 : Int32) (l3 : Int32) (l4 : Int32) (g : GH), I35 n l1 l2 l3 l4 g → B_En_unlikeFigures_35 Γ (fun l1 l2 l3 l4 g => ∃ m, m < n ∧ I35 m l1 l2 l3 l4 g) K l1 l2 l3 l4 g) (h0 : B_En_unlikeFigures_0 Γ (fun l1 l2 l3 l4 g => ∃ m, I35 m l1 l2 l3 l4 g) K th g) : MetA Γ l yX0_unlikeFigures cX0_unlikeFigures 5 (some (.int)) 0 0 [.ref th] g (fun r g' => ∃ x, r = some (.int x) ∧ K x g') := by
  refine MetA.introL (Lx := [some (.ref th), none, none, none, none]) (by decide) (Nat.le_of_ble_eq_true rfl) rfl rfl ?_
  intro E hEl hE hnm
  have hall : ∀ n, (∀ (l1 : Int32) (l2 : Int32) (l3 : Int32) (l4 : Int32) (g : GH), I35 n l1 l2 l3 l4 g → JW Γ E 35 [none, some (.int l1), some (.int l2), some (.int l3), some (.int l4)] [] g) := by
    intro n
    induction n using Nat.strongRecOn with
    | ind n ih =>
      exact fun l1 l2 l3 l4 g hi => S_En_unlikeFigures_35 hE (fun l1 l2 l3 l4 g hm => by obtain ⟨m, hm, h⟩ := hm; exact (ih m hm) l1 l2 l3 l4 g h) l1 l2 l3 l4 g (hh35 n l1 l2 l3 l4 g hi)
  exact S_En_unlikeFigures_0 hE (fun l1 l2 l3 l4 g hm => by obtain ⟨m, h⟩ := hm; exact (hall m) l1 l2 l3 l4 g h) th g h0
theorem mt_En_unlikeFigures {Γ : GAM} {l : Launch} (th : Nat) (g : GH) (K : Int32 → GH → Prop) (h : Sp_En_unlikeFigures Γ th g K) : MetA Γ l yX0_unlikeFigures cX0_unlikeFigures 5 (some (.int)) 0 0 [.ref th] g (fun r g' => ∃ x, r = some (.int x) ∧ K x g') := by
  obtain ⟨v, ⟨hkd, _, b, b1, b2, b3, b4, b5⟩, hv, hvk, hK⟩ := h
  refine rl_En_unlikeFigures (fun n l1 l2 l3 l4 g' => g = g' ∧ ¬ Ia g 136 th 9 = -1 ∧ ∃ k, k ≤ 8 ∧ n = 8 - k ∧ l4 = nI k ∧ (l1, l2, l3) = unIt k (Ia g 136 th 9, Gi g 1282 v, 0)) ?_ ?_
  · rintro n l1 l2 l3 l4 g' ⟨rfl, hne, k, hk, rfl, rfl, hf⟩
    unfold B_En_unlikeFigures_35 B_En_unlikeFigures_59
    rw [show ((8 : Int32) ≤ nI k) ↔ 8 ≤ k from nj_le (a := 8) (by omega) (by omega)]
    refine ⟨fun q => ?_, fun q => ⟨fun q2 => ?_, fun q2 => ?_⟩⟩
    · rw [if_neg hne] at hK
      rw [show k = 8 by omega] at hf
      rw [← hf] at hK
      exact hK
    · rintro _ rfl _ rfl _ rfl
      refine ⟨8 - (k + 1), by omega, rfl, hne, k + 1, by omega, rfl, nj_s k, ?_⟩
      show _ = unF (unIt k _)
      rw [← hf]
      unfold unF
      simp only [if_neg q2]
    · rintro _ rfl _ rfl _ rfl
      refine ⟨8 - (k + 1), by omega, rfl, hne, k + 1, by omega, rfl, nj_s k, ?_⟩
      show _ = unF (unIt k _)
      rw [← hf]
      unfold unF
      simp only [if_pos q2]
  · unfold B_En_unlikeFigures_0
    have h9 : inB (9 : Int32) (Ln g b) := by rw [b5]; exact ⟨by decide, by decide⟩
    rw [show (9 : Int32).toNatClampNeg = 9 by decide]
    refine ⟨hkd, b, b1, b2, h9, fun u => ?_, fun u => ?_⟩
    · rw [b3, b4] at u
      refine ⟨hkd, b, b1, b2, h9, ?_⟩
      rw [b3, b4]
      rintro _ rfl
      refine ⟨hkd, v, hv, hvk, ?_⟩
      rintro _ rfl
      exact ⟨_, rfl, u, 0, Nat.zero_le _, rfl, nj_0, rfl⟩
    · rw [b3, b4] at u
      rw [if_pos u] at hK; exact hK
/-- doubles of a hand at an envelope -/
def dbO (f : Nat → Int32) (h what : Int32) : Int32 := if (0 ≤ h ∧ h ≤ 5) ∧ f (10 + h.toNatClampNeg) ≠ -1 then (if what = 0 then nI (cH f (1 - f (10 + h.toNatClampNeg))) + nI (cH f (f (10 + h.toNatClampNeg))) - 1 else if what = 1 then (if f (10 + h.toNatClampNeg) = 0 then nI (cH f (1 - f (10 + h.toNatClampNeg))) else 0) else (if f (10 + h.toNatClampNeg) = 1 then nI (cH f (1 - f (10 + h.toNatClampNeg))) else 0)) else 0
def Sp_En_doublesOf (Γ : GAM) (m : Nat) (h what : Int32) (g : GH) (K : Int32 → GH → Prop) : Prop := E2 m g ∧ K (dbO (Ia g 136 m) h what) g
-- the walk of En_doublesOf
set_option maxRecDepth 100000 in
def B_En_doublesOf_101 (Γ : GAM) (K : Int32 → GH → Prop) (s0 : Int32) (g : GH) : Prop :=
  K s0 g
set_option maxHeartbeats 4000000 in
set_option maxRecDepth 100000 in
theorem S_En_doublesOf_101 {Γ : GAM} {E : EV} {K : Int32 → GH → Prop} (hE : GE Γ E cX0_doublesOf 5 RX0 (some (.int)) 2 42 (fun r g' => ∃ x, r = some (.int x) ∧ K x g')) (s0 : Int32) (g : GH) (h : B_En_doublesOf_101 Γ K s0 g) : JW Γ E 101 [none, none, none, none, none] [.int s0] g := by
  unfold B_En_doublesOf_101 at h
  exact j_iret hE (by decide +kernel : decode cX0_doublesOf 101 = .ok (.ireturn, 1)) ⟨_, rfl, h⟩
set_option maxRecDepth 100000 in
def B_En_doublesOf_89 (Γ : GAM) (K : Int32 → GH → Prop) (s0 : Int32) (g : GH) : Prop :=
  K s0 g
set_option maxHeartbeats 4000000 in
set_option maxRecDepth 100000 in
theorem S_En_doublesOf_89 {Γ : GAM} {E : EV} {K : Int32 → GH → Prop} (hE : GE Γ E cX0_doublesOf 5 RX0 (some (.int)) 2 42 (fun r g' => ∃ x, r = some (.int x) ∧ K x g')) (s0 : Int32) (g : GH) (h : B_En_doublesOf_89 Γ K s0 g) : JW Γ E 89 [none, none, none, none, none] [.int s0] g := by
  unfold B_En_doublesOf_89 at h
  exact j_iret hE (by decide +kernel : decode cX0_doublesOf 89 = .ok (.ireturn, 1)) ⟨_, rfl, h⟩
set_option maxRecDepth 100000 in
def B_En_doublesOf_20 (Γ : GAM) (K : Int32 → GH → Prop)  (g : GH) : Prop :=
  K (0 : Int32) g
set_option maxHeartbeats 4000000 in
set_option maxRecDepth 100000 in
theorem S_En_doublesOf_20 {Γ : GAM} {E : EV} {K : Int32 → GH → Prop} (hE : GE Γ E cX0_doublesOf 5 RX0 (some (.int)) 2 42 (fun r g' => ∃ x, r = some (.int x) ∧ K x g'))  (g : GH) (h : B_En_doublesOf_20 Γ K  g) : JW Γ E 20 [none, none, none, none, none] [] g := by
  unfold B_En_doublesOf_20 at h
  refine j_iconst hE (by decide +kernel : decode cX0_doublesOf 20 = .ok (.iconst 0, 1)) (v := (0 : Int32)) (by decide) ?_
  exact j_iret hE (by decide +kernel : decode cX0_doublesOf 21 = .ok (.ireturn, 1)) ⟨_, rfl, h⟩
set_option maxRecDepth 100000 in
def B_En_doublesOf_0 (Γ : GAM) (K : Int32 → GH → Prop) (th : Nat) (p0 : Int32) (p1 : Int32) (g : GH) : Prop :=
  Sp_PV_isHand Γ p0 g (fun (x2 : Int32) (g1 : GH) => ((x2 = 0 → B_En_doublesOf_20 Γ K g1) ∧ (¬ (x2 = 0) → Kd g1 th = 2 ∧ ∃ a3 : Nat, Gr g1 136 th = some a3 ∧ Kd g1 a3 = 20 ∧ inB ((10 : Int32) + p0) (Ln g1 a3) ∧ ((¬ ((Ia g1 (Co g1 a3) (Ow g1 a3) ((10 : Int32) + p0).toNatClampNeg) = (-1 : Int32)) → Kd g1 th = 2 ∧ ∃ a4 : Nat, Gr g1 136 th = some a4 ∧ Kd g1 a4 = 20 ∧ inB ((10 : Int32) + p0) (Ln g1 a4) ∧ ∀ x5 : Int32, x5 = (Ia g1 (Co g1 a4) (Ow g1 a4) ((10 : Int32) + p0).toNatClampNeg) → Kd g1 th = 2 ∧ Sp_En_handsThatTold Γ th ((1 : Int32) - x5) g1 (fun (x7 : Int32) (g6 : GH) => ((p1 = (0 : Int32) → Kd g6 th = 2 ∧ Sp_En_handsThatTold Γ th x5 g6 (fun (x9 : Int32) (g8 : GH) => K ((x7 + x9) - (1 : Int32)) g8)) ∧ (¬ (p1 = (0 : Int32)) → ((p1 = (1 : Int32) → ((¬ (x5 = 0) → B_En_doublesOf_89 Γ K (0 : Int32) g6) ∧ (x5 = 0 → B_En_doublesOf_89 Γ K x7 g6))) ∧ (¬ (p1 = (1 : Int32)) → ((¬ (x5 = (1 : Int32)) → B_En_doublesOf_101 Γ K (0 : Int32) g6) ∧ (x5 = (1 : Int32) → B_En_doublesOf_101 Γ K x7 g6)))))))) ∧ ((Ia g1 (Co g1 a3) (Ow g1 a3) ((10 : Int32) + p0).toNatClampNeg) = (-1 : Int32) → B_En_doublesOf_20 Γ K g1)))))
set_option maxHeartbeats 4000000 in
set_option maxRecDepth 100000 in
theorem S_En_doublesOf_0 {Γ : GAM} {E : EV} {K : Int32 → GH → Prop} (hE : GE Γ E cX0_doublesOf 5 RX0 (some (.int)) 2 42 (fun r g' => ∃ x, r = some (.int x) ∧ K x g')) (th : Nat) (p0 : Int32) (p1 : Int32) (g : GH) (h : B_En_doublesOf_0 Γ K th p0 p1 g) : JW Γ E 0 [some (.ref th), some (.int p0), some (.int p1), none, none] [] g := by
  unfold B_En_doublesOf_0 at h
  refine j_iload_n hE (by decide +kernel : decode cX0_doublesOf 0 = .ok (.iload_n 1, 1)) rfl rfl ?_
  refine j_callSN hE rfl cl_X0_108 st_X10_isHand ⟨by omega, by omega⟩ (As := [.int p0]) (rest := []) rfl rfl (Nat.le_of_ble_eq_true rfl) (by decide +kernel : decode cX0_doublesOf 1 = .ok (.invokestatic 108, 3)) (mt_PV_isHand _ _ _ h) ?_
  rintro _ g1 ⟨x2, rfl, h⟩
  refine j_if_eq hE (by decide +kernel : decode cX0_doublesOf 4 = .ok (.ifCond .eq 16, 3)) (tgt := 20) (by decide) (fun q => ?_) (fun q => ?_)
  · replace h := h.1 q
    refine j_weak [none, none, none, none, none] trivial ?_
    exact S_En_doublesOf_20 hE _ h
  · replace h := h.2 q
    refine j_aload_n hE (by decide +kernel : decode cX0_doublesOf 7 = .ok (.aload_n 0, 1)) rfl rfl ?_
    obtain ⟨hk, h⟩ := h
    obtain ⟨a3, ha, h⟩ := h
    refine j_getRn hE fg_X0_26 hk ha (by decide +kernel : decode cX0_doublesOf 8 = .ok (.getfield 26, 3)) ?_
    refine j_bipush hE (by decide +kernel : decode cX0_doublesOf 11 = .ok (.bipush 10, 2)) (v := (10 : Int32)) (by decide) ?_
    refine j_iload_n hE (by decide +kernel : decode cX0_doublesOf 13 = .ok (.iload_n 1, 1)) rfl rfl ?_
    refine j_iadd hE (by decide +kernel : decode cX0_doublesOf 14 = .ok (.iadd, 1)) ?_
    obtain ⟨hk, hb, h⟩ := h
    refine j_iald hE hk hb (by decide +kernel : decode cX0_doublesOf 15 = .ok (.iaload, 1)) ?_
    refine j_iconst hE (by decide +kernel : decode cX0_doublesOf 16 = .ok (.iconst (-1), 1)) (v := (-1 : Int32)) (by decide) ?_
    refine j_icmp_ne hE (by decide +kernel : decode cX0_doublesOf 17 = .ok (.if_icmp .ne 5, 3)) (tgt := 22) (by decide) (fun q => ?_) (fun q => ?_)
    · replace h := h.1 q
      refine j_aload_n hE (by decide +kernel : decode cX0_doublesOf 22 = .ok (.aload_n 0, 1)) rfl rfl ?_
      obtain ⟨hk, h⟩ := h
      obtain ⟨a4, ha, h⟩ := h
      refine j_getRn hE fg_X0_26 hk ha (by decide +kernel : decode cX0_doublesOf 23 = .ok (.getfield 26, 3)) ?_
      refine j_bipush hE (by decide +kernel : decode cX0_doublesOf 26 = .ok (.bipush 10, 2)) (v := (10 : Int32)) (by decide) ?_
      refine j_iload_n hE (by decide +kernel : decode cX0_doublesOf 28 = .ok (.iload_n 1, 1)) rfl rfl ?_
      refine j_iadd hE (by decide +kernel : decode cX0_doublesOf 29 = .ok (.iadd, 1)) ?_
      obtain ⟨hk, hb, h⟩ := h
      refine j_iald hE hk hb (by decide +kernel : decode cX0_doublesOf 30 = .ok (.iaload, 1)) ?_
      obtain ⟨x5, hx⟩ : ∃ z, z = (Ia g1 (Co g1 a4) (Ow g1 a4) ((10 : Int32) + p0).toNatClampNeg) := ⟨_, rfl⟩; replace h := h x5 hx; rw [← hx]
      refine j_istore_n hE (by decide +kernel : decode cX0_doublesOf 31 = .ok (.istore_n 3, 1)) rfl (Nat.le_of_ble_eq_true rfl) rfl ?_
      refine j_aload_n hE (by decide +kernel : decode cX0_doublesOf 32 = .ok (.aload_n 0, 1)) rfl rfl ?_
      refine j_iconst hE (by decide +kernel : decode cX0_doublesOf 33 = .ok (.iconst 1, 1)) (v := (1 : Int32)) (by decide) ?_
      refine j_iload_n hE (by decide +kernel : decode cX0_doublesOf 34 = .ok (.iload_n 3, 1)) rfl rfl ?_
      refine j_isub hE (by decide +kernel : decode cX0_doublesOf 35 = .ok (.isub, 1)) ?_
      obtain ⟨hk, h⟩ := h
      refine j_callV hE rfl cl_X0_112 cf_1 im_X0_handsThatTold se_X0_handsThatTold ⟨by omega, by omega⟩ (As := [.int ((1 : Int32) - x5)]) (rest := []) rfl rfl (Nat.le_of_ble_eq_true rfl) hk (by decide +kernel : decode cX0_doublesOf 36 = .ok (.invokevirtual 112, 3)) (mt_En_handsThatTold _ _ _ _ h) ?_
      rintro _ g6 ⟨x7, rfl, h⟩
      refine j_istore hE (by decide +kernel : decode cX0_doublesOf 39 = .ok (.istore 4, 2)) (Nat.le_of_ble_eq_true rfl) rfl ?_
      refine j_iload_n hE (by decide +kernel : decode cX0_doublesOf 41 = .ok (.iload_n 2, 1)) rfl rfl ?_
      by_cases q0 : p1 = (0 : Int32)
      · replace h := h.1 q0
        refine j_lookup hE (by decide +kernel : decode cX0_doublesOf 42 = .ok (.lookupswitch 48 #[(0, 26), (1, 37)], 26)) (by decide) (off := 26) (by rw [q0]; decide) (tgt := 68) (by decide) ?_
        refine j_iload hE (by decide +kernel : decode cX0_doublesOf 68 = .ok (.iload 4, 2)) rfl ?_
        refine j_aload_n hE (by decide +kernel : decode cX0_doublesOf 70 = .ok (.aload_n 0, 1)) rfl rfl ?_
        refine j_iload_n hE (by decide +kernel : decode cX0_doublesOf 71 = .ok (.iload_n 3, 1)) rfl rfl ?_
        obtain ⟨hk, h⟩ := h
        refine j_callV hE rfl cl_X0_112 cf_1 im_X0_handsThatTold se_X0_handsThatTold ⟨by omega, by omega⟩ (As := [.int x5]) (rest := [.int x7]) rfl rfl (Nat.le_of_ble_eq_true rfl) hk (by decide +kernel : decode cX0_doublesOf 72 = .ok (.invokevirtual 112, 3)) (mt_En_handsThatTold _ _ _ _ h) ?_
        rintro _ g8 ⟨x9, rfl, h⟩
        refine j_iadd hE (by decide +kernel : decode cX0_doublesOf 75 = .ok (.iadd, 1)) ?_
        refine j_iconst hE (by decide +kernel : decode cX0_doublesOf 76 = .ok (.iconst 1, 1)) (v := (1 : Int32)) (by decide) ?_
        refine j_isub hE (by decide +kernel : decode cX0_doublesOf 77 = .ok (.isub, 1)) ?_
        exact j_iret hE (by decide +kernel : decode cX0_doublesOf 78 = .ok (.ireturn, 1)) ⟨_, rfl, h⟩
      · replace h := h.2 q0
        by_cases q1 : p1 = (1 : Int32)
        · replace h := h.1 q1
          refine j_lookup hE (by decide +kernel : decode cX0_doublesOf 42 = .ok (.lookupswitch 48 #[(0, 26), (1, 37)], 26)) (by decide) (off := 37) (by rw [q1]; decide) (tgt := 79) (by decide) ?_
          refine j_iload_n hE (by decide +kernel : decode cX0_doublesOf 79 = .ok (.iload_n 3, 1)) rfl rfl ?_
          refine j_if_ne hE (by decide +kernel : decode cX0_doublesOf 80 = .ok (.ifCond .ne 8, 3)) (tgt := 88) (by decide) (fun q => ?_) (fun q => ?_)
          · replace h := h.1 q
            refine j_iconst hE (by decide +kernel : decode cX0_doublesOf 88 = .ok (.iconst 0, 1)) (v := (0 : Int32)) (by decide) ?_
            refine j_weak [none, none, none, none, none] trivial ?_
            exact S_En_doublesOf_89 hE _ _ h
          · replace h := h.2 q
            refine j_iload hE (by decide +kernel : decode cX0_doublesOf 83 = .ok (.iload 4, 2)) rfl ?_
            refine j_goto hE (by decide +kernel : decode cX0_doublesOf 85 = .ok (.goto 4, 3)) (tgt := 89) (by decide) ?_
            refine j_weak [none, none, none, none, none] trivial ?_
            exact S_En_doublesOf_89 hE _ _ h
        · replace h := h.2 q1
          refine j_lookup hE (by decide +kernel : decode cX0_doublesOf 42 = .ok (.lookupswitch 48 #[(0, 26), (1, 37)], 26)) (by decide) (off := 48) ((lv_osw q0 (by decide)).trans ((lv_osw q1 (by decide)).trans (rfl))) (tgt := 90) (by decide) ?_
          refine j_iload_n hE (by decide +kernel : decode cX0_doublesOf 90 = .ok (.iload_n 3, 1)) rfl rfl ?_
          refine j_iconst hE (by decide +kernel : decode cX0_doublesOf 91 = .ok (.iconst 1, 1)) (v := (1 : Int32)) (by decide) ?_
          refine j_icmp_ne hE (by decide +kernel : decode cX0_doublesOf 92 = .ok (.if_icmp .ne 8, 3)) (tgt := 100) (by decide) (fun q => ?_) (fun q => ?_)
          · replace h := h.1 q
            refine j_iconst hE (by decide +kernel : decode cX0_doublesOf 100 = .ok (.iconst 0, 1)) (v := (0 : Int32)) (by decide) ?_
            refine j_weak [none, none, none, none, none] trivial ?_
            exact S_En_doublesOf_101 hE _ _ h
          · replace h := h.2 q
            refine j_iload hE (by decide +kernel : decode cX0_doublesOf 95 = .ok (.iload 4, 2)) rfl ?_
            refine j_goto hE (by decide +kernel : decode cX0_doublesOf 97 = .ok (.goto 4, 3)) (tgt := 101) (by decide) ?_
            refine j_weak [none, none, none, none, none] trivial ?_
            exact S_En_doublesOf_101 hE _ _ h
    · replace h := h.2 q
      refine j_weak [none, none, none, none, none] trivial ?_
      exact S_En_doublesOf_20 hE _ h
set_option maxHeartbeats 4000000 in
set_option maxRecDepth 100000 in
theorem rl_En_doublesOf {Γ : GAM} {l : Launch} {th : Nat} {p0 : Int32} {p1 : Int32} {g : GH} {K : Int32 → GH → Prop} (h0 : B_En_doublesOf_0 Γ K th p0 p1 g) : MetA Γ l yX0_doublesOf cX0_doublesOf 5 (some (.int)) 2 42 [.ref th, .int p0, .int p1] g (fun r g' => ∃ x, r = some (.int x) ∧ K x g') := by
  refine MetA.introL (Lx := [some (.ref th), some (.int p0), some (.int p1), none, none]) (by decide) (Nat.le_of_ble_eq_true rfl) rfl rfl ?_
  intro E hEl hE hnm
  exact S_En_doublesOf_0 hE th p0 p1 g h0
theorem mt_En_doublesOf {Γ : GAM} {l : Launch} (th : Nat) (p0 : Int32) (p1 : Int32) (g : GH) (K : Int32 → GH → Prop) (h : Sp_En_doublesOf Γ th p0 p1 g K) : MetA Γ l yX0_doublesOf cX0_doublesOf 5 (some (.int)) 2 42 [.ref th, .int p0, .int p1] g (fun r g' => ∃ x, r = some (.int x) ∧ K x g') := by
  obtain ⟨hE, hK⟩ := h
  obtain ⟨hkd, _, b, b1, b2, b3, b4, b5⟩ := id hE
  refine rl_En_doublesOf ?_
  unfold dbO at hK
  unfold B_En_doublesOf_0 B_En_doublesOf_20 B_En_doublesOf_89 B_En_doublesOf_101 Sp_PV_isHand
  refine ⟨fun u => ?_, fun u => ⟨hkd, b, b1, b2, ?_⟩⟩
  · rw [if_neg (fun z => by rw [if_pos z.1] at u; exact absurd u (by decide))] at hK
    exact hK
  · have hin : 0 ≤ p0 ∧ p0 ≤ 5 := Classical.byContradiction (fun z => u (if_neg z))
    have hn := nj_of hin.1
    have h5 : p0.toNatClampNeg ≤ 5 := by
      have h2 := hin.2
      rw [hn.1] at h2
      exact (nj_le (b := 5) hn.2 (by omega)).mp h2
    have e10 : (10 : Int32) + p0 = nI (10 + p0.toNatClampNeg) := by
      rw [← nI_add9 10 p0.toNatClampNeg, ← hn.1]; rfl
    have hb : inB (nI (10 + p0.toNatClampNeg)) (Ln g b) := by rw [b5]; exact inB_nI (by omega) (by omega)
    rw [e10, b3, b4, nj_cl (by omega)]
    refine ⟨hb, fun u1 => ⟨hkd, b, b1, b2, hb, ?_⟩, fun u1 => ?_⟩
    · rw [b3, b4]
      rw [if_pos ⟨hin, u1⟩] at hK
      rintro _ rfl
      refine ⟨hkd, hE, fun u2 => ⟨hkd, hE, ?_⟩, fun u2 => ⟨fun u3 => ⟨fun u4 => ?_, fun u4 => ?_⟩, fun u3 => ⟨fun u4 => ?_, fun u4 => ?_⟩⟩⟩
      · rw [if_pos u2] at hK; exact hK
      · rw [if_neg u2, if_pos u3, if_neg u4] at hK; exact hK
      · rw [if_neg u2, if_pos u3, if_pos u4] at hK; exact hK
      · rw [if_neg u2, if_neg u3, if_neg u4] at hK; exact hK
      · rw [if_neg u2, if_neg u3, if_pos u4] at hK; exact hK
    · rw [if_neg (fun z => z.2 u1)] at hK
      exact hK
/-- what a letter says of an envelope, as its object has it -/
def eLt (g : GH) (m v : Nat) (c q : Int32) : Int32 :=
  if c = 98 then Gi g 1288 v else if c = 99 then Gi g 137 m else if c = 101 then Gi g 1285 v else if c = 102 then Ia g 135 m 5 else if c = 105 then (if Gi g 138 m = -1 then 0 else 1) else if c = 108 then Ia g 135 m 4 else if c = 109 then Ia g 135 m 1 else if c = 110 then Gi g 139 m else if c = 111 then Gi g 130 m else if c = 112 then Ia g 135 m 7 else if c = 114 then Ia g 135 m 8 else if c = 115 then (if Ia g 136 m 9 = -1 then 9 else (unIt 8 (Ia g 136 m 9, Gi g 1282 v, 0)).2.2) else if c = 116 then q else if c = 120 then Ia g 135 m 6 else if c = 121 then nI (cH (Ia g 136 m) 1) else if c = 122 then nI (cH (Ia g 136 m) 0) else Gi g 1281 v
def Sp_En_numberOf (Γ : GAM) (m : Nat) (c q : Int32) (g : GH) (K : Int32 → GH → Prop) : Prop := ∃ v, E2 m g ∧ Gr g 129 m = some v ∧ Kd g v = 11 ∧ K (eLt g m v c q) g
-- the walk of En_numberOf
set_option maxRecDepth 100000 in
def B_En_numberOf_194 (Γ : GAM) (K : Int32 → GH → Prop) (s0 : Int32) (g : GH) : Prop :=
  K s0 g
set_option maxHeartbeats 4000000 in
set_option maxRecDepth 100000 in
theorem S_En_numberOf_194 {Γ : GAM} {E : EV} {K : Int32 → GH → Prop} (hE : GE Γ E cX0_numberOf 3 RX0 (some (.int)) 1 24 (fun r g' => ∃ x, r = some (.int x) ∧ K x g')) (s0 : Int32) (g : GH) (h : B_En_numberOf_194 Γ K s0 g) : JW Γ E 194 [none, none, none] [.int s0] g := by
  unfold B_En_numberOf_194 at h
  exact j_iret hE (by decide +kernel : decode cX0_numberOf 194 = .ok (.ireturn, 1)) ⟨_, rfl, h⟩
set_option maxRecDepth 100000 in
def B_En_numberOf_0 (Γ : GAM) (K : Int32 → GH → Prop) (th : Nat) (p0 : Int32) (p1 : Int32) (g : GH) : Prop :=
  ((p0 = (98 : Int32) → Kd g th = 2 ∧ ∃ a1 : Nat, Gr g 129 th = some a1 ∧ Kd g a1 = 11 ∧ K (Gi g 1288 a1) g) ∧ (¬ (p0 = (98 : Int32)) → ((p0 = (99 : Int32) → Kd g th = 2 ∧ K (Gi g 137 th) g) ∧ (¬ (p0 = (99 : Int32)) → ((p0 = (101 : Int32) → Kd g th = 2 ∧ ∃ a2 : Nat, Gr g 129 th = some a2 ∧ Kd g a2 = 11 ∧ K (Gi g 1285 a2) g) ∧ (¬ (p0 = (101 : Int32)) → ((p0 = (102 : Int32) → Kd g th = 2 ∧ ∃ a3 : Nat, Gr g 135 th = some a3 ∧ Kd g a3 = 20 ∧ inB (5 : Int32) (Ln g a3) ∧ K (Ia g (Co g a3) (Ow g a3) (5 : Int32).toNatClampNeg) g) ∧ (¬ (p0 = (102 : Int32)) → ((p0 = (105 : Int32) → Kd g th = 2 ∧ ((¬ ((Gi g 138 th) = (-1 : Int32)) → B_En_numberOf_194 Γ K (1 : Int32) g) ∧ ((Gi g 138 th) = (-1 : Int32) → B_En_numberOf_194 Γ K (0 : Int32) g))) ∧ (¬ (p0 = (105 : Int32)) → ((p0 = (108 : Int32) → Kd g th = 2 ∧ ∃ a4 : Nat, Gr g 135 th = some a4 ∧ Kd g a4 = 20 ∧ inB (4 : Int32) (Ln g a4) ∧ K (Ia g (Co g a4) (Ow g a4) (4 : Int32).toNatClampNeg) g) ∧ (¬ (p0 = (108 : Int32)) → ((p0 = (109 : Int32) → Kd g th = 2 ∧ ∃ a5 : Nat, Gr g 135 th = some a5 ∧ Kd g a5 = 20 ∧ inB (1 : Int32) (Ln g a5) ∧ K (Ia g (Co g a5) (Ow g a5) (1 : Int32).toNatClampNeg) g) ∧ (¬ (p0 = (109 : Int32)) → ((p0 = (110 : Int32) → Kd g th = 2 ∧ K (Gi g 139 th) g) ∧ (¬ (p0 = (110 : Int32)) → ((p0 = (111 : Int32) → Kd g th = 2 ∧ K (Gi g 130 th) g) ∧ (¬ (p0 = (111 : Int32)) → ((p0 = (112 : Int32) → Kd g th = 2 ∧ ∃ a6 : Nat, Gr g 135 th = some a6 ∧ Kd g a6 = 20 ∧ inB (7 : Int32) (Ln g a6) ∧ K (Ia g (Co g a6) (Ow g a6) (7 : Int32).toNatClampNeg) g) ∧ (¬ (p0 = (112 : Int32)) → ((p0 = (114 : Int32) → Kd g th = 2 ∧ ∃ a7 : Nat, Gr g 135 th = some a7 ∧ Kd g a7 = 20 ∧ inB (8 : Int32) (Ln g a7) ∧ K (Ia g (Co g a7) (Ow g a7) (8 : Int32).toNatClampNeg) g) ∧ (¬ (p0 = (114 : Int32)) → ((p0 = (115 : Int32) → Kd g th = 2 ∧ Sp_En_unlikeFigures Γ th g (fun (x9 : Int32) (g8 : GH) => K x9 g8)) ∧ (¬ (p0 = (115 : Int32)) → ((p0 = (116 : Int32) → K p1 g) ∧ (¬ (p0 = (116 : Int32)) → ((p0 = (120 : Int32) → Kd g th = 2 ∧ ∃ a10 : Nat, Gr g 135 th = some a10 ∧ Kd g a10 = 20 ∧ inB (6 : Int32) (Ln g a10) ∧ K (Ia g (Co g a10) (Ow g a10) (6 : Int32).toNatClampNeg) g) ∧ (¬ (p0 = (120 : Int32)) → ((p0 = (121 : Int32) → Kd g th = 2 ∧ Sp_En_handsThatTold Γ th (1 : Int32) g (fun (x12 : Int32) (g11 : GH) => K x12 g11)) ∧ (¬ (p0 = (121 : Int32)) → ((p0 = (122 : Int32) → Kd g th = 2 ∧ Sp_En_handsThatTold Γ th (0 : Int32) g (fun (x14 : Int32) (g13 : GH) => K x14 g13)) ∧ (¬ (p0 = (122 : Int32)) → Kd g th = 2 ∧ ∃ a15 : Nat, Gr g 129 th = some a15 ∧ Kd g a15 = 11 ∧ K (Gi g 1281 a15) g))))))))))))))))))))))))))))))))
set_option maxHeartbeats 4000000 in
set_option maxRecDepth 100000 in
theorem S_En_numberOf_0 {Γ : GAM} {E : EV} {K : Int32 → GH → Prop} (hE : GE Γ E cX0_numberOf 3 RX0 (some (.int)) 1 24 (fun r g' => ∃ x, r = some (.int x) ∧ K x g')) (th : Nat) (p0 : Int32) (p1 : Int32) (g : GH) (h : B_En_numberOf_0 Γ K th p0 p1 g) : JW Γ E 0 [some (.ref th), some (.int p0), some (.int p1)] [] g := by
  unfold B_En_numberOf_0 at h
  refine j_iload_n hE (by decide +kernel : decode cX0_numberOf 0 = .ok (.iload_n 1, 1)) rfl rfl ?_
  by_cases q0 : p0 = (98 : Int32)
  · replace h := h.1 q0
    refine j_tableIn hE (by decide +kernel : decode cX0_numberOf 1 = .ok (.tableswitch 224 98 122 #[172, 129, 224, 216, 149, 224, 224, 180, 224, 224, 142, 122, 211, 117, 156, 224, 164, 194, 115, 224, 224, 224, 134, 199, 205], 115)) (by rw [q0]; decide) (by rw [q0]; decide) (off := 172) (by rw [q0]; decide) (tgt := 173) (by decide) ?_
    refine j_aload_n hE (by decide +kernel : decode cX0_numberOf 173 = .ok (.aload_n 0, 1)) rfl rfl ?_
    obtain ⟨hk, h⟩ := h
    obtain ⟨a1, ha, h⟩ := h
    refine j_getRn hE fg_X0_47 hk ha (by decide +kernel : decode cX0_numberOf 174 = .ok (.getfield 47, 3)) ?_
    obtain ⟨hk, h⟩ := h
    refine j_getI hE fg_X0_116 hk (by decide +kernel : decode cX0_numberOf 177 = .ok (.getfield 116, 3)) ?_
    exact j_iret hE (by decide +kernel : decode cX0_numberOf 180 = .ok (.ireturn, 1)) ⟨_, rfl, h⟩
  · replace h := h.2 q0
    by_cases q1 : p0 = (99 : Int32)
    · replace h := h.1 q1
      refine j_tableIn hE (by decide +kernel : decode cX0_numberOf 1 = .ok (.tableswitch 224 98 122 #[172, 129, 224, 216, 149, 224, 224, 180, 224, 224, 142, 122, 211, 117, 156, 224, 164, 194, 115, 224, 224, 224, 134, 199, 205], 115)) (by rw [q1]; decide) (by rw [q1]; decide) (off := 129) (by rw [q1]; decide) (tgt := 130) (by decide) ?_
      refine j_aload_n hE (by decide +kernel : decode cX0_numberOf 130 = .ok (.aload_n 0, 1)) rfl rfl ?_
      obtain ⟨hk, h⟩ := h
      refine j_getI hE fg_X0_29 hk (by decide +kernel : decode cX0_numberOf 131 = .ok (.getfield 29, 3)) ?_
      exact j_iret hE (by decide +kernel : decode cX0_numberOf 134 = .ok (.ireturn, 1)) ⟨_, rfl, h⟩
    · replace h := h.2 q1
      by_cases q2 : p0 = (101 : Int32)
      · replace h := h.1 q2
        refine j_tableIn hE (by decide +kernel : decode cX0_numberOf 1 = .ok (.tableswitch 224 98 122 #[172, 129, 224, 216, 149, 224, 224, 180, 224, 224, 142, 122, 211, 117, 156, 224, 164, 194, 115, 224, 224, 224, 134, 199, 205], 115)) (by rw [q2]; decide) (by rw [q2]; decide) (off := 216) (by rw [q2]; decide) (tgt := 217) (by decide) ?_
        refine j_aload_n hE (by decide +kernel : decode cX0_numberOf 217 = .ok (.aload_n 0, 1)) rfl rfl ?_
        obtain ⟨hk, h⟩ := h
        obtain ⟨a2, ha, h⟩ := h
        refine j_getRn hE fg_X0_47 hk ha (by decide +kernel : decode cX0_numberOf 218 = .ok (.getfield 47, 3)) ?_
        obtain ⟨hk, h⟩ := h
        refine j_getI hE fg_X0_122 hk (by decide +kernel : decode cX0_numberOf 221 = .ok (.getfield 122, 3)) ?_
        exact j_iret hE (by decide +kernel : decode cX0_numberOf 224 = .ok (.ireturn, 1)) ⟨_, rfl, h⟩
      · replace h := h.2 q2
        by_cases q3 : p0 = (102 : Int32)
        · replace h := h.1 q3
          refine j_tableIn hE (by decide +kernel : decode cX0_numberOf 1 = .ok (.tableswitch 224 98 122 #[172, 129, 224, 216, 149, 224, 224, 180, 224, 224, 142, 122, 211, 117, 156, 224, 164, 194, 115, 224, 224, 224, 134, 199, 205], 115)) (by rw [q3]; decide) (by rw [q3]; decide) (off := 149) (by rw [q3]; decide) (tgt := 150) (by decide) ?_
          refine j_aload_n hE (by decide +kernel : decode cX0_numberOf 150 = .ok (.aload_n 0, 1)) rfl rfl ?_
          obtain ⟨hk, h⟩ := h
          obtain ⟨a3, ha, h⟩ := h
          refine j_getRn hE fg_X0_22 hk ha (by decide +kernel : decode cX0_numberOf 151 = .ok (.getfield 22, 3)) ?_
          refine j_iconst hE (by decide +kernel : decode cX0_numberOf 154 = .ok (.iconst 5, 1)) (v := (5 : Int32)) (by decide) ?_
          obtain ⟨hk, hb, h⟩ := h
          refine j_iald hE hk hb (by decide +kernel : decode cX0_numberOf 155 = .ok (.iaload, 1)) ?_
          exact j_iret hE (by decide +kernel : decode cX0_numberOf 156 = .ok (.ireturn, 1)) ⟨_, rfl, h⟩
        · replace h := h.2 q3
          by_cases q4 : p0 = (105 : Int32)
          · replace h := h.1 q4
            refine j_tableIn hE (by decide +kernel : decode cX0_numberOf 1 = .ok (.tableswitch 224 98 122 #[172, 129, 224, 216, 149, 224, 224, 180, 224, 224, 142, 122, 211, 117, 156, 224, 164, 194, 115, 224, 224, 224, 134, 199, 205], 115)) (by rw [q4]; decide) (by rw [q4]; decide) (off := 180) (by rw [q4]; decide) (tgt := 181) (by decide) ?_
            refine j_aload_n hE (by decide +kernel : decode cX0_numberOf 181 = .ok (.aload_n 0, 1)) rfl rfl ?_
            obtain ⟨hk, h⟩ := h
            refine j_getI hE fg_X0_32 hk (by decide +kernel : decode cX0_numberOf 182 = .ok (.getfield 32, 3)) ?_
            refine j_iconst hE (by decide +kernel : decode cX0_numberOf 185 = .ok (.iconst (-1), 1)) (v := (-1 : Int32)) (by decide) ?_
            refine j_icmp_ne hE (by decide +kernel : decode cX0_numberOf 186 = .ok (.if_icmp .ne 7, 3)) (tgt := 193) (by decide) (fun q => ?_) (fun q => ?_)
            · replace h := h.1 q
              refine j_iconst hE (by decide +kernel : decode cX0_numberOf 193 = .ok (.iconst 1, 1)) (v := (1 : Int32)) (by decide) ?_
              refine j_weak [none, none, none] trivial ?_
              exact S_En_numberOf_194 hE _ _ h
            · replace h := h.2 q
              refine j_iconst hE (by decide +kernel : decode cX0_numberOf 189 = .ok (.iconst 0, 1)) (v := (0 : Int32)) (by decide) ?_
              refine j_goto hE (by decide +kernel : decode cX0_numberOf 190 = .ok (.goto 4, 3)) (tgt := 194) (by decide) ?_
              refine j_weak [none, none, none] trivial ?_
              exact S_En_numberOf_194 hE _ _ h
          · replace h := h.2 q4
            by_cases q5 : p0 = (108 : Int32)
            · replace h := h.1 q5
              refine j_tableIn hE (by decide +kernel : decode cX0_numberOf 1 = .ok (.tableswitch 224 98 122 #[172, 129, 224, 216, 149, 224, 224, 180, 224, 224, 142, 122, 211, 117, 156, 224, 164, 194, 115, 224, 224, 224, 134, 199, 205], 115)) (by rw [q5]; decide) (by rw [q5]; decide) (off := 142) (by rw [q5]; decide) (tgt := 143) (by decide) ?_
              refine j_aload_n hE (by decide +kernel : decode cX0_numberOf 143 = .ok (.aload_n 0, 1)) rfl rfl ?_
              obtain ⟨hk, h⟩ := h
              obtain ⟨a4, ha, h⟩ := h
              refine j_getRn hE fg_X0_22 hk ha (by decide +kernel : decode cX0_numberOf 144 = .ok (.getfield 22, 3)) ?_
              refine j_iconst hE (by decide +kernel : decode cX0_numberOf 147 = .ok (.iconst 4, 1)) (v := (4 : Int32)) (by decide) ?_
              obtain ⟨hk, hb, h⟩ := h
              refine j_iald hE hk hb (by decide +kernel : decode cX0_numberOf 148 = .ok (.iaload, 1)) ?_
              exact j_iret hE (by decide +kernel : decode cX0_numberOf 149 = .ok (.ireturn, 1)) ⟨_, rfl, h⟩
            · replace h := h.2 q5
              by_cases q6 : p0 = (109 : Int32)
              · replace h := h.1 q6
                refine j_tableIn hE (by decide +kernel : decode cX0_numberOf 1 = .ok (.tableswitch 224 98 122 #[172, 129, 224, 216, 149, 224, 224, 180, 224, 224, 142, 122, 211, 117, 156, 224, 164, 194, 115, 224, 224, 224, 134, 199, 205], 115)) (by rw [q6]; decide) (by rw [q6]; decide) (off := 122) (by rw [q6]; decide) (tgt := 123) (by decide) ?_
                refine j_aload_n hE (by decide +kernel : decode cX0_numberOf 123 = .ok (.aload_n 0, 1)) rfl rfl ?_
                obtain ⟨hk, h⟩ := h
                obtain ⟨a5, ha, h⟩ := h
                refine j_getRn hE fg_X0_22 hk ha (by decide +kernel : decode cX0_numberOf 124 = .ok (.getfield 22, 3)) ?_
                refine j_iconst hE (by decide +kernel : decode cX0_numberOf 127 = .ok (.iconst 1, 1)) (v := (1 : Int32)) (by decide) ?_
                obtain ⟨hk, hb, h⟩ := h
                refine j_iald hE hk hb (by decide +kernel : decode cX0_numberOf 128 = .ok (.iaload, 1)) ?_
                exact j_iret hE (by decide +kernel : decode cX0_numberOf 129 = .ok (.ireturn, 1)) ⟨_, rfl, h⟩
              · replace h := h.2 q6
                by_cases q7 : p0 = (110 : Int32)
                · replace h := h.1 q7
                  refine j_tableIn hE (by decide +kernel : decode cX0_numberOf 1 = .ok (.tableswitch 224 98 122 #[172, 129, 224, 216, 149, 224, 224, 180, 224, 224, 142, 122, 211, 117, 156, 224, 164, 194, 115, 224, 224, 224, 134, 199, 205], 115)) (by rw [q7]; decide) (by rw [q7]; decide) (off := 211) (by rw [q7]; decide) (tgt := 212) (by decide) ?_
                  refine j_aload_n hE (by decide +kernel : decode cX0_numberOf 212 = .ok (.aload_n 0, 1)) rfl rfl ?_
                  obtain ⟨hk, h⟩ := h
                  refine j_getI hE fg_X0_66 hk (by decide +kernel : decode cX0_numberOf 213 = .ok (.getfield 66, 3)) ?_
                  exact j_iret hE (by decide +kernel : decode cX0_numberOf 216 = .ok (.ireturn, 1)) ⟨_, rfl, h⟩
                · replace h := h.2 q7
                  by_cases q8 : p0 = (111 : Int32)
                  · replace h := h.1 q8
                    refine j_tableIn hE (by decide +kernel : decode cX0_numberOf 1 = .ok (.tableswitch 224 98 122 #[172, 129, 224, 216, 149, 224, 224, 180, 224, 224, 142, 122, 211, 117, 156, 224, 164, 194, 115, 224, 224, 224, 134, 199, 205], 115)) (by rw [q8]; decide) (by rw [q8]; decide) (off := 117) (by rw [q8]; decide) (tgt := 118) (by decide) ?_
                    refine j_aload_n hE (by decide +kernel : decode cX0_numberOf 118 = .ok (.aload_n 0, 1)) rfl rfl ?_
                    obtain ⟨hk, h⟩ := h
                    refine j_getI hE fg_X0_51 hk (by decide +kernel : decode cX0_numberOf 119 = .ok (.getfield 51, 3)) ?_
                    exact j_iret hE (by decide +kernel : decode cX0_numberOf 122 = .ok (.ireturn, 1)) ⟨_, rfl, h⟩
                  · replace h := h.2 q8
                    by_cases q9 : p0 = (112 : Int32)
                    · replace h := h.1 q9
                      refine j_tableIn hE (by decide +kernel : decode cX0_numberOf 1 = .ok (.tableswitch 224 98 122 #[172, 129, 224, 216, 149, 224, 224, 180, 224, 224, 142, 122, 211, 117, 156, 224, 164, 194, 115, 224, 224, 224, 134, 199, 205], 115)) (by rw [q9]; decide) (by rw [q9]; decide) (off := 156) (by rw [q9]; decide) (tgt := 157) (by decide) ?_
                      refine j_aload_n hE (by decide +kernel : decode cX0_numberOf 157 = .ok (.aload_n 0, 1)) rfl rfl ?_
                      obtain ⟨hk, h⟩ := h
                      obtain ⟨a6, ha, h⟩ := h
                      refine j_getRn hE fg_X0_22 hk ha (by decide +kernel : decode cX0_numberOf 158 = .ok (.getfield 22, 3)) ?_
                      refine j_bipush hE (by decide +kernel : decode cX0_numberOf 161 = .ok (.bipush 7, 2)) (v := (7 : Int32)) (by decide) ?_
                      obtain ⟨hk, hb, h⟩ := h
                      refine j_iald hE hk hb (by decide +kernel : decode cX0_numberOf 163 = .ok (.iaload, 1)) ?_
                      exact j_iret hE (by decide +kernel : decode cX0_numberOf 164 = .ok (.ireturn, 1)) ⟨_, rfl, h⟩
                    · replace h := h.2 q9
                      by_cases q10 : p0 = (114 : Int32)
                      · replace h := h.1 q10
                        refine j_tableIn hE (by decide +kernel : decode cX0_numberOf 1 = .ok (.tableswitch 224 98 122 #[172, 129, 224, 216, 149, 224, 224, 180, 224, 224, 142, 122, 211, 117, 156, 224, 164, 194, 115, 224, 224, 224, 134, 199, 205], 115)) (by rw [q10]; decide) (by rw [q10]; decide) (off := 164) (by rw [q10]; decide) (tgt := 165) (by decide) ?_
                        refine j_aload_n hE (by decide +kernel : decode cX0_numberOf 165 = .ok (.aload_n 0, 1)) rfl rfl ?_
                        obtain ⟨hk, h⟩ := h
                        obtain ⟨a7, ha, h⟩ := h
                        refine j_getRn hE fg_X0_22 hk ha (by decide +kernel : decode cX0_numberOf 166 = .ok (.getfield 22, 3)) ?_
                        refine j_bipush hE (by decide +kernel : decode cX0_numberOf 169 = .ok (.bipush 8, 2)) (v := (8 : Int32)) (by decide) ?_
                        obtain ⟨hk, hb, h⟩ := h
                        refine j_iald hE hk hb (by decide +kernel : decode cX0_numberOf 171 = .ok (.iaload, 1)) ?_
                        exact j_iret hE (by decide +kernel : decode cX0_numberOf 172 = .ok (.ireturn, 1)) ⟨_, rfl, h⟩
                      · replace h := h.2 q10
                        by_cases q11 : p0 = (115 : Int32)
                        · replace h := h.1 q11
                          refine j_tableIn hE (by decide +kernel : decode cX0_numberOf 1 = .ok (.tableswitch 224 98 122 #[172, 129, 224, 216, 149, 224, 224, 180, 224, 224, 142, 122, 211, 117, 156, 224, 164, 194, 115, 224, 224, 224, 134, 199, 205], 115)) (by rw [q11]; decide) (by rw [q11]; decide) (off := 194) (by rw [q11]; decide) (tgt := 195) (by decide) ?_
                          refine j_aload_n hE (by decide +kernel : decode cX0_numberOf 195 = .ok (.aload_n 0, 1)) rfl rfl ?_
                          obtain ⟨hk, h⟩ := h
                          refine j_callV hE rfl cl_X0_119 cf_1 im_X0_unlikeFigures se_X0_unlikeFigures ⟨by omega, by omega⟩ (As := []) (rest := []) rfl rfl (Nat.le_of_ble_eq_true rfl) hk (by decide +kernel : decode cX0_numberOf 196 = .ok (.invokevirtual 119, 3)) (mt_En_unlikeFigures _ _ _ h) ?_
                          rintro _ g8 ⟨x9, rfl, h⟩
                          exact j_iret hE (by decide +kernel : decode cX0_numberOf 199 = .ok (.ireturn, 1)) ⟨_, rfl, h⟩
                        · replace h := h.2 q11
                          by_cases q12 : p0 = (116 : Int32)
                          · replace h := h.1 q12
                            refine j_tableIn hE (by decide +kernel : decode cX0_numberOf 1 = .ok (.tableswitch 224 98 122 #[172, 129, 224, 216, 149, 224, 224, 180, 224, 224, 142, 122, 211, 117, 156, 224, 164, 194, 115, 224, 224, 224, 134, 199, 205], 115)) (by rw [q12]; decide) (by rw [q12]; decide) (off := 115) (by rw [q12]; decide) (tgt := 116) (by decide) ?_
                            refine j_iload_n hE (by decide +kernel : decode cX0_numberOf 116 = .ok (.iload_n 2, 1)) rfl rfl ?_
                            exact j_iret hE (by decide +kernel : decode cX0_numberOf 117 = .ok (.ireturn, 1)) ⟨_, rfl, h⟩
                          · replace h := h.2 q12
                            by_cases q13 : p0 = (120 : Int32)
                            · replace h := h.1 q13
                              refine j_tableIn hE (by decide +kernel : decode cX0_numberOf 1 = .ok (.tableswitch 224 98 122 #[172, 129, 224, 216, 149, 224, 224, 180, 224, 224, 142, 122, 211, 117, 156, 224, 164, 194, 115, 224, 224, 224, 134, 199, 205], 115)) (by rw [q13]; decide) (by rw [q13]; decide) (off := 134) (by rw [q13]; decide) (tgt := 135) (by decide) ?_
                              refine j_aload_n hE (by decide +kernel : decode cX0_numberOf 135 = .ok (.aload_n 0, 1)) rfl rfl ?_
                              obtain ⟨hk, h⟩ := h
                              obtain ⟨a10, ha, h⟩ := h
                              refine j_getRn hE fg_X0_22 hk ha (by decide +kernel : decode cX0_numberOf 136 = .ok (.getfield 22, 3)) ?_
                              refine j_bipush hE (by decide +kernel : decode cX0_numberOf 139 = .ok (.bipush 6, 2)) (v := (6 : Int32)) (by decide) ?_
                              obtain ⟨hk, hb, h⟩ := h
                              refine j_iald hE hk hb (by decide +kernel : decode cX0_numberOf 141 = .ok (.iaload, 1)) ?_
                              exact j_iret hE (by decide +kernel : decode cX0_numberOf 142 = .ok (.ireturn, 1)) ⟨_, rfl, h⟩
                            · replace h := h.2 q13
                              by_cases q14 : p0 = (121 : Int32)
                              · replace h := h.1 q14
                                refine j_tableIn hE (by decide +kernel : decode cX0_numberOf 1 = .ok (.tableswitch 224 98 122 #[172, 129, 224, 216, 149, 224, 224, 180, 224, 224, 142, 122, 211, 117, 156, 224, 164, 194, 115, 224, 224, 224, 134, 199, 205], 115)) (by rw [q14]; decide) (by rw [q14]; decide) (off := 199) (by rw [q14]; decide) (tgt := 200) (by decide) ?_
                                refine j_aload_n hE (by decide +kernel : decode cX0_numberOf 200 = .ok (.aload_n 0, 1)) rfl rfl ?_
                                refine j_iconst hE (by decide +kernel : decode cX0_numberOf 201 = .ok (.iconst 1, 1)) (v := (1 : Int32)) (by decide) ?_
                                obtain ⟨hk, h⟩ := h
                                refine j_callV hE rfl cl_X0_112 cf_1 im_X0_handsThatTold se_X0_handsThatTold ⟨by omega, by omega⟩ (As := [.int (1 : Int32)]) (rest := []) rfl rfl (Nat.le_of_ble_eq_true rfl) hk (by decide +kernel : decode cX0_numberOf 202 = .ok (.invokevirtual 112, 3)) (mt_En_handsThatTold _ _ _ _ h) ?_
                                rintro _ g11 ⟨x12, rfl, h⟩
                                exact j_iret hE (by decide +kernel : decode cX0_numberOf 205 = .ok (.ireturn, 1)) ⟨_, rfl, h⟩
                              · replace h := h.2 q14
                                by_cases q15 : p0 = (122 : Int32)
                                · replace h := h.1 q15
                                  refine j_tableIn hE (by decide +kernel : decode cX0_numberOf 1 = .ok (.tableswitch 224 98 122 #[172, 129, 224, 216, 149, 224, 224, 180, 224, 224, 142, 122, 211, 117, 156, 224, 164, 194, 115, 224, 224, 224, 134, 199, 205], 115)) (by rw [q15]; decide) (by rw [q15]; decide) (off := 205) (by rw [q15]; decide) (tgt := 206) (by decide) ?_
                                  refine j_aload_n hE (by decide +kernel : decode cX0_numberOf 206 = .ok (.aload_n 0, 1)) rfl rfl ?_
                                  refine j_iconst hE (by decide +kernel : decode cX0_numberOf 207 = .ok (.iconst 0, 1)) (v := (0 : Int32)) (by decide) ?_
                                  obtain ⟨hk, h⟩ := h
                                  refine j_callV hE rfl cl_X0_112 cf_1 im_X0_handsThatTold se_X0_handsThatTold ⟨by omega, by omega⟩ (As := [.int (0 : Int32)]) (rest := []) rfl rfl (Nat.le_of_ble_eq_true rfl) hk (by decide +kernel : decode cX0_numberOf 208 = .ok (.invokevirtual 112, 3)) (mt_En_handsThatTold _ _ _ _ h) ?_
                                  rintro _ g13 ⟨x14, rfl, h⟩
                                  exact j_iret hE (by decide +kernel : decode cX0_numberOf 211 = .ok (.ireturn, 1)) ⟨_, rfl, h⟩
                                · replace h := h.2 q15
                                  have hD : JW Γ E 225 [some (.ref th), some (.int p0), some (.int p1)] [] g := by
                                    refine j_aload_n hE (by decide +kernel : decode cX0_numberOf 225 = .ok (.aload_n 0, 1)) rfl rfl ?_
                                    obtain ⟨hk, h⟩ := h
                                    obtain ⟨a15, ha, h⟩ := h
                                    refine j_getRn hE fg_X0_47 hk ha (by decide +kernel : decode cX0_numberOf 226 = .ok (.getfield 47, 3)) ?_
                                    obtain ⟨hk, h⟩ := h
                                    refine j_getI hE fg_X0_125 hk (by decide +kernel : decode cX0_numberOf 229 = .ok (.getfield 125, 3)) ?_
                                    exact j_iret hE (by decide +kernel : decode cX0_numberOf 232 = .ok (.ireturn, 1)) ⟨_, rfl, h⟩
                                  by_cases u2 : p0 = (100 : Int32)
                                  · exact j_tableIn hE (by decide +kernel : decode cX0_numberOf 1 = .ok (.tableswitch 224 98 122 #[172, 129, 224, 216, 149, 224, 224, 180, 224, 224, 142, 122, 211, 117, 156, 224, 164, 194, 115, 224, 224, 224, 134, 199, 205], 115)) (by rw [u2]; decide) (by rw [u2]; decide) (off := 224) (by rw [u2]; decide) (tgt := 225) (by decide) hD
                                  by_cases u5 : p0 = (103 : Int32)
                                  · exact j_tableIn hE (by decide +kernel : decode cX0_numberOf 1 = .ok (.tableswitch 224 98 122 #[172, 129, 224, 216, 149, 224, 224, 180, 224, 224, 142, 122, 211, 117, 156, 224, 164, 194, 115, 224, 224, 224, 134, 199, 205], 115)) (by rw [u5]; decide) (by rw [u5]; decide) (off := 224) (by rw [u5]; decide) (tgt := 225) (by decide) hD
                                  by_cases u6 : p0 = (104 : Int32)
                                  · exact j_tableIn hE (by decide +kernel : decode cX0_numberOf 1 = .ok (.tableswitch 224 98 122 #[172, 129, 224, 216, 149, 224, 224, 180, 224, 224, 142, 122, 211, 117, 156, 224, 164, 194, 115, 224, 224, 224, 134, 199, 205], 115)) (by rw [u6]; decide) (by rw [u6]; decide) (off := 224) (by rw [u6]; decide) (tgt := 225) (by decide) hD
                                  by_cases u8 : p0 = (106 : Int32)
                                  · exact j_tableIn hE (by decide +kernel : decode cX0_numberOf 1 = .ok (.tableswitch 224 98 122 #[172, 129, 224, 216, 149, 224, 224, 180, 224, 224, 142, 122, 211, 117, 156, 224, 164, 194, 115, 224, 224, 224, 134, 199, 205], 115)) (by rw [u8]; decide) (by rw [u8]; decide) (off := 224) (by rw [u8]; decide) (tgt := 225) (by decide) hD
                                  by_cases u9 : p0 = (107 : Int32)
                                  · exact j_tableIn hE (by decide +kernel : decode cX0_numberOf 1 = .ok (.tableswitch 224 98 122 #[172, 129, 224, 216, 149, 224, 224, 180, 224, 224, 142, 122, 211, 117, 156, 224, 164, 194, 115, 224, 224, 224, 134, 199, 205], 115)) (by rw [u9]; decide) (by rw [u9]; decide) (off := 224) (by rw [u9]; decide) (tgt := 225) (by decide) hD
                                  by_cases u15 : p0 = (113 : Int32)
                                  · exact j_tableIn hE (by decide +kernel : decode cX0_numberOf 1 = .ok (.tableswitch 224 98 122 #[172, 129, 224, 216, 149, 224, 224, 180, 224, 224, 142, 122, 211, 117, 156, 224, 164, 194, 115, 224, 224, 224, 134, 199, 205], 115)) (by rw [u15]; decide) (by rw [u15]; decide) (off := 224) (by rw [u15]; decide) (tgt := 225) (by decide) hD
                                  by_cases u19 : p0 = (117 : Int32)
                                  · exact j_tableIn hE (by decide +kernel : decode cX0_numberOf 1 = .ok (.tableswitch 224 98 122 #[172, 129, 224, 216, 149, 224, 224, 180, 224, 224, 142, 122, 211, 117, 156, 224, 164, 194, 115, 224, 224, 224, 134, 199, 205], 115)) (by rw [u19]; decide) (by rw [u19]; decide) (off := 224) (by rw [u19]; decide) (tgt := 225) (by decide) hD
                                  by_cases u20 : p0 = (118 : Int32)
                                  · exact j_tableIn hE (by decide +kernel : decode cX0_numberOf 1 = .ok (.tableswitch 224 98 122 #[172, 129, 224, 216, 149, 224, 224, 180, 224, 224, 142, 122, 211, 117, 156, 224, 164, 194, 115, 224, 224, 224, 134, 199, 205], 115)) (by rw [u20]; decide) (by rw [u20]; decide) (off := 224) (by rw [u20]; decide) (tgt := 225) (by decide) hD
                                  by_cases u21 : p0 = (119 : Int32)
                                  · exact j_tableIn hE (by decide +kernel : decode cX0_numberOf 1 = .ok (.tableswitch 224 98 122 #[172, 129, 224, 216, 149, 224, 224, 180, 224, 224, 142, 122, 211, 117, 156, 224, 164, 194, 115, 224, 224, 224, 134, 199, 205], 115)) (by rw [u21]; decide) (by rw [u21]; decide) (off := 224) (by rw [u21]; decide) (tgt := 225) (by decide) hD
                                  have qq : (p0).toInt < 98 ∨ 122 < (p0).toInt := by
                                    have z0 : ¬ (p0).toInt = 98 := fun e => q0 (Int32.toInt_inj.mp (e.trans (by decide)))
                                    have z1 : ¬ (p0).toInt = 99 := fun e => q1 (Int32.toInt_inj.mp (e.trans (by decide)))
                                    have z3 : ¬ (p0).toInt = 101 := fun e => q2 (Int32.toInt_inj.mp (e.trans (by decide)))
                                    have z4 : ¬ (p0).toInt = 102 := fun e => q3 (Int32.toInt_inj.mp (e.trans (by decide)))
                                    have z7 : ¬ (p0).toInt = 105 := fun e => q4 (Int32.toInt_inj.mp (e.trans (by decide)))
                                    have z10 : ¬ (p0).toInt = 108 := fun e => q5 (Int32.toInt_inj.mp (e.trans (by decide)))
                                    have z11 : ¬ (p0).toInt = 109 := fun e => q6 (Int32.toInt_inj.mp (e.trans (by decide)))
                                    have z12 : ¬ (p0).toInt = 110 := fun e => q7 (Int32.toInt_inj.mp (e.trans (by decide)))
                                    have z13 : ¬ (p0).toInt = 111 := fun e => q8 (Int32.toInt_inj.mp (e.trans (by decide)))
                                    have z14 : ¬ (p0).toInt = 112 := fun e => q9 (Int32.toInt_inj.mp (e.trans (by decide)))
                                    have z16 : ¬ (p0).toInt = 114 := fun e => q10 (Int32.toInt_inj.mp (e.trans (by decide)))
                                    have z17 : ¬ (p0).toInt = 115 := fun e => q11 (Int32.toInt_inj.mp (e.trans (by decide)))
                                    have z18 : ¬ (p0).toInt = 116 := fun e => q12 (Int32.toInt_inj.mp (e.trans (by decide)))
                                    have z22 : ¬ (p0).toInt = 120 := fun e => q13 (Int32.toInt_inj.mp (e.trans (by decide)))
                                    have z23 : ¬ (p0).toInt = 121 := fun e => q14 (Int32.toInt_inj.mp (e.trans (by decide)))
                                    have z24 : ¬ (p0).toInt = 122 := fun e => q15 (Int32.toInt_inj.mp (e.trans (by decide)))
                                    have z2 : ¬ (p0).toInt = 100 := fun e => u2 (Int32.toInt_inj.mp (e.trans (by decide)))
                                    have z5 : ¬ (p0).toInt = 103 := fun e => u5 (Int32.toInt_inj.mp (e.trans (by decide)))
                                    have z6 : ¬ (p0).toInt = 104 := fun e => u6 (Int32.toInt_inj.mp (e.trans (by decide)))
                                    have z8 : ¬ (p0).toInt = 106 := fun e => u8 (Int32.toInt_inj.mp (e.trans (by decide)))
                                    have z9 : ¬ (p0).toInt = 107 := fun e => u9 (Int32.toInt_inj.mp (e.trans (by decide)))
                                    have z15 : ¬ (p0).toInt = 113 := fun e => u15 (Int32.toInt_inj.mp (e.trans (by decide)))
                                    have z19 : ¬ (p0).toInt = 117 := fun e => u19 (Int32.toInt_inj.mp (e.trans (by decide)))
                                    have z20 : ¬ (p0).toInt = 118 := fun e => u20 (Int32.toInt_inj.mp (e.trans (by decide)))
                                    have z21 : ¬ (p0).toInt = 119 := fun e => u21 (Int32.toInt_inj.mp (e.trans (by decide)))
                                    omega
                                  exact j_tableOut hE (by decide +kernel : decode cX0_numberOf 1 = .ok (.tableswitch 224 98 122 #[172, 129, 224, 216, 149, 224, 224, 180, 224, 224, 142, 122, 211, 117, 156, 224, 164, 194, 115, 224, 224, 224, 134, 199, 205], 115)) qq (tgt := 225) (by decide) hD
set_option maxHeartbeats 4000000 in
set_option maxRecDepth 100000 in
theorem rl_En_numberOf {Γ : GAM} {l : Launch} {th : Nat} {p0 : Int32} {p1 : Int32} {g : GH} {K : Int32 → GH → Prop} (h0 : B_En_numberOf_0 Γ K th p0 p1 g) : MetA Γ l yX0_numberOf cX0_numberOf 3 (some (.int)) 1 24 [.ref th, .int p0, .int p1] g (fun r g' => ∃ x, r = some (.int x) ∧ K x g') := by
  refine MetA.introL (Lx := [some (.ref th), some (.int p0), some (.int p1)]) (by decide) (Nat.le_of_ble_eq_true rfl) rfl rfl ?_
  intro E hEl hE hnm
  exact S_En_numberOf_0 hE th p0 p1 g h0
theorem mt_En_numberOf {Γ : GAM} {l : Launch} (th : Nat) (p0 : Int32) (p1 : Int32) (g : GH) (K : Int32 → GH → Prop) (h : Sp_En_numberOf Γ th p0 p1 g K) : MetA Γ l yX0_numberOf cX0_numberOf 3 (some (.int)) 1 24 [.ref th, .int p0, .int p1] g (fun r g' => ∃ x, r = some (.int x) ∧ K x g') := by
  obtain ⟨v, hE, hv, hvk, hK⟩ := h
  obtain ⟨hkd, ⟨a, a1, a2, a3, a4, a5⟩, _⟩ := id hE
  refine rl_En_numberOf ?_
  unfold eLt at hK
  unfold B_En_numberOf_0 B_En_numberOf_194
  have hb : ∀ k : Nat, k < 16 → inB (nI k) (Ln g a) := fun k hk => by rw [a5]; exact inB_nI hk (by omega)
  have hd : ∀ (k : Nat), k < 16 → K (Ia g 135 th k) g → Kd g th = 2 ∧ ∃ a3 : Nat, Gr g 135 th = some a3 ∧ Kd g a3 = 20 ∧ inB (nI k) (Ln g a3) ∧ K (Ia g (Co g a3) (Ow g a3) (nI k).toNatClampNeg) g := fun k hk h => ⟨hkd, a, a1, a2, hb k hk, by rw [a3, a4, nj_cl (by omega)]; exact h⟩
  refine ⟨fun u => ⟨hkd, v, hv, hvk, by rw [if_pos u] at hK; exact hK⟩, fun n1 => ?_⟩
  rw [if_neg n1] at hK
  refine ⟨fun u => ⟨hkd, by rw [if_pos u] at hK; exact hK⟩, fun n2 => ?_⟩
  rw [if_neg n2] at hK
  refine ⟨fun u => ⟨hkd, v, hv, hvk, by rw [if_pos u] at hK; exact hK⟩, fun n3 => ?_⟩
  rw [if_neg n3] at hK
  refine ⟨fun u => hd 5 (by decide) (by rw [if_pos u] at hK; exact hK), fun n4 => ?_⟩
  rw [if_neg n4] at hK
  refine ⟨fun u => ⟨hkd, fun w => by rw [if_pos u, if_neg w] at hK; exact hK, fun w => by rw [if_pos u, if_pos w] at hK; exact hK⟩, fun n5 => ?_⟩
  rw [if_neg n5] at hK
  refine ⟨fun u => hd 4 (by decide) (by rw [if_pos u] at hK; exact hK), fun n6 => ?_⟩
  rw [if_neg n6] at hK
  refine ⟨fun u => hd 1 (by decide) (by rw [if_pos u] at hK; exact hK), fun n7 => ?_⟩
  rw [if_neg n7] at hK
  refine ⟨fun u => ⟨hkd, by rw [if_pos u] at hK; exact hK⟩, fun n8 => ?_⟩
  rw [if_neg n8] at hK
  refine ⟨fun u => ⟨hkd, by rw [if_pos u] at hK; exact hK⟩, fun n9 => ?_⟩
  rw [if_neg n9] at hK
  refine ⟨fun u => hd 7 (by decide) (by rw [if_pos u] at hK; exact hK), fun n10 => ?_⟩
  rw [if_neg n10] at hK
  refine ⟨fun u => hd 8 (by decide) (by rw [if_pos u] at hK; exact hK), fun n11 => ?_⟩
  rw [if_neg n11] at hK
  refine ⟨fun u => ⟨hkd, v, hE, hv, hvk, by rw [if_pos u] at hK; exact hK⟩, fun n12 => ?_⟩
  rw [if_neg n12] at hK
  refine ⟨fun u => by rw [if_pos u] at hK; exact hK, fun n13 => ?_⟩
  rw [if_neg n13] at hK
  refine ⟨fun u => hd 6 (by decide) (by rw [if_pos u] at hK; exact hK), fun n14 => ?_⟩
  rw [if_neg n14] at hK
  refine ⟨fun u => ⟨hkd, hE, by rw [if_pos u] at hK; exact hK⟩, fun n15 => ?_⟩
  rw [if_neg n15] at hK
  refine ⟨fun u => ⟨hkd, hE, by rw [if_pos u] at hK; exact hK⟩, fun n16 => ?_⟩
  rw [if_neg n16] at hK
  exact ⟨hkd, v, hv, hvk, hK⟩
