/-! the class: its reader of laws, new text -/
theorem and255 (y : Int32) : 0 ≤ y &&& 255 ∧ y &&& 255 ≤ 255 := by
  have h : (y &&& 255).toBitVec.toNat ≤ 255 := by
    rw [Int32.toBitVec_and, BitVec.toNat_and]
    exact Nat.and_le_right
  have h2 : (y &&& 255).toInt = ((y &&& 255).toBitVec.toNat : Int) := by
    show (y &&& 255).toBitVec.toInt = _
    rw [BitVec.toInt_eq_toNat_cond, if_pos (by omega)]
  constructor
  · rw [Int32.le_iff_toInt_le, h2]
    show (0 : Int) ≤ _
    omega
  · rw [Int32.le_iff_toInt_le, h2]
    show _ ≤ (255 : Int)
    omega
theorem sh_low (x : BitVec 32) (s : Nat) (hs : s ≤ 24) : (x >>> s) &&& 255#32 = (x.sshiftRight s) &&& 255#32 := by
  ext i hi
  simp only [BitVec.getElem_and, BitVec.getElem_ushiftRight, BitVec.getElem_sshiftRight]
  by_cases h8 : i < 8
  · rw [dif_pos (by omega), BitVec.getLsbD_eq_getElem (by omega)]
  · have : (255#32)[i] = false := by
      have h := Nat.testBit_lt_two_pow (x := 255) (i := i) (by
        calc 255 < 2 ^ 8 := by decide
          _ ≤ 2 ^ i := Nat.pow_le_pow_right (by omega) (by omega))
      rw [BitVec.getElem_eq_testBit_toNat]
      exact h
    rw [this, Bool.and_false, Bool.and_false]
def shN (j : Nat) : Int32 := if j = 0 then 24 else if j = 1 then 16 else if j = 2 then 8 else if j = 3 then 0 else -8
theorem shN_s : ∀ j, j < 4 → shN j + (-8) = shN (j + 1) := by decide
theorem shN_n : ∀ j, j < 4 → ¬ shN j < 0 := by decide
def by4 (x : Int32) (j : Nat) : Int32 := byB x x x x x (nI j)
theorem by4_e (x : Int32) (j : Nat) (hj : j < 4) : ((x.toUInt32 >>> ((shN j).toUInt32 &&& Int32.toUInt32 31)).toInt32) &&& 255 = by4 x j := by
  have key : ∀ s : Nat, s ≤ 24 → ∀ (u : UInt32) (v : Int32), u.toBitVec.toNat = s → (v.toBitVec.smod 32).toNat = s → ((x.toUInt32 >>> u).toInt32) &&& 255 = (x >>> v) &&& 255 := fun s hs u v hu hv => by
    apply Int32.toBitVec_inj.mp
    rw [Int32.toBitVec_and, Int32.toBitVec_and]
    have e1 : ((x.toUInt32 >>> u).toInt32).toBitVec = x.toBitVec >>> s := by
      show (x.toUInt32 >>> u).toBitVec = _
      rw [UInt32.toBitVec_shiftRight]
      show x.toBitVec >>> (u.toBitVec % 32#32) = _
      rw [BitVec.ushiftRight_eq', BitVec.toNat_umod, hu, show (32#32).toNat = 32 from rfl, Nat.mod_eq_of_lt (by omega)]
    have e2 : (x >>> v).toBitVec = x.toBitVec.sshiftRight s := by
      rw [Int32.toBitVec_shiftRight, BitVec.sshiftRight_eq', hv]
    rw [e1, e2]
    exact sh_low _ _ hs
  have hb : byB x x x x x (nI j) = (x >>> ((24 - 8 * (nI j - nI j / 4 * 4)) &&& 31)) &&& 255 := by
    unfold byB
    simp
  unfold by4
  rw [hb]
  match j, hj with
  | 0, _ => exact key 24 (by omega) _ _ (by decide) (by decide)
  | 1, _ => exact key 16 (by omega) _ _ (by decide) (by decide)
  | 2, _ => exact key 8 (by omega) _ _ (by decide) (by decide)
  | 3, _ => exact key 0 (by omega) _ _ (by decide) (by decide)
def t4p (x : Int32) (j : Nat) : List Int32 := ((List.range 4).take j).foldl (fun l i => if by4 x i = 0 then l else l ++ [by4 x i]) []
theorem t4p_s {x : Int32} {j : Nat} (h : j < 4) : t4p x (j + 1) = if by4 x j = 0 then t4p x j else t4p x j ++ [by4 x j] := fold_take _ _ _ (range_get h)
theorem t4p_mono {x : Int32} {k : Nat} : ∀ j, k + j ≤ 4 → (t4p x k).length ≤ (t4p x (k + j)).length := by
  intro j
  induction j with
  | zero => intro _; exact Nat.le_refl _
  | succ j ih =>
    intro h
    have := ih (by omega)
    rw [show k + (j + 1) = (k + j) + 1 from rfl, t4p_s (by omega)]
    split
    · exact this
    · rw [List.length_append]; omega
theorem TT.push {m : Nat} {g : GH} {t : List Int32} {b : Int32} (h : TT m g t) (hl : t.length < 200) (hb : 1 ≤ b ∧ b ≤ 255) : TT m (sI (sA g 896 m t.length b) 897 m (nI (t.length + 1))) (t ++ [b]) ∧ FrX m [897] [896] g (sI (sA g 896 m t.length b) 897 m (nI (t.length + 1))) := by
  obtain ⟨a, e, c, d, f⟩ := h
  have hx : FrX m [897] [896] g (sI (sA g 896 m t.length b) 897 m (nI (t.length + 1))) := (FrX.sA (by decide)).tr (FrX.sI (by decide))
  refine ⟨⟨a.x hx, by rw [Gi_sI, if_pos ⟨rfl, rfl⟩, List.length_append]; rfl, by simp; omega, fun k x hk => ?_, fun x hx => ?_⟩, hx⟩
  · rw [Ia_sI, Ia_sA]
    rw [List.getElem?_append] at hk
    split at hk
    · rw [if_neg (fun q => by omega)]; exact d k x hk
    · have hj := (List.getElem?_eq_some_iff.mp hk).1
      simp at hj
      have hj3 : k = t.length := by omega
      subst hj3
      simp at hk
      rw [if_pos ⟨rfl, rfl, rfl⟩, hk]
  · rcases List.mem_append.mp hx with z | z
    · exact f x z
    · rw [List.mem_singleton.mp z]; exact hb
theorem by4_bd (x : Int32) (j : Nat) (h : by4 x j ≠ 0) : 1 ≤ by4 x j ∧ by4 x j ≤ 255 := by
  have := and255 ((if 4 ≤ nI j then (if 8 ≤ nI j then (if 12 ≤ nI j then (if 16 ≤ nI j then x else x) else x) else x) else x) >>> ((24 - 8 * (nI j - nI j / 4 * 4)) &&& 31))
  have e : by4 x j = ((if 4 ≤ nI j then (if 8 ≤ nI j then (if 12 ≤ nI j then (if 16 ≤ nI j then x else x) else x) else x) else x) >>> ((24 - 8 * (nI j - nI j / 4 * 4)) &&& 31)) &&& 255 := rfl
  rw [← e] at this
  refine ⟨?_, this.2⟩
  obtain ⟨h1, h2⟩ := this
  obtain ⟨k, hk⟩ : ∃ k : Nat, by4 x j = nI k ∧ k < 2147483648 := ⟨_, nj_of h1⟩
  rw [hk.1] at h ⊢
  have : k ≠ 0 := fun z => h (by rw [z]; rfl)
  exact (nj_le (a := 1) (by omega) hk.2).mpr (by omega)
def Sp_Ta_take4 (Γ : GAM) (m : Nat) (x : Int32) (g : GH) (K : GH → Prop) : Prop := ∃ t, TT m g t ∧ t.length + (t4p x 4).length ≤ 200 ∧ ∀ g', FrX m [897] [896] g g' → TT m g' (t ++ t4p x 4) → K g'
-- the walk of Ta_take4
set_option maxRecDepth 100000 in
def B_Ta_take4_51 (Γ : GAM) (K3 : Nat → Int32 → Int32 → GH → Prop) (K : GH → Prop) (l0 : Nat) (l1 : Int32) (l2 : Int32) (g : GH) : Prop :=
  K3 l0 l1 (l2 + (-8 : Int32)) g
set_option maxHeartbeats 4000000 in
set_option maxRecDepth 100000 in
theorem S_Ta_take4_51 {Γ : GAM} {E : EV} {K : GH → Prop} (hE : GE Γ E cX6_take4 4 RX6 none 0 0 (fun r g' => r = none ∧ K g')) {K3 : Nat → Int32 → Int32 → GH → Prop} (hK3 : ∀ (l0 : Nat) (l1 : Int32) (l2 : Int32) (g : GH), K3 l0 l1 l2 g → JW Γ E 3 [some (.ref l0), some (.int l1), some (.int l2), none] [] g) (l0 : Nat) (l1 : Int32) (l2 : Int32) (g : GH) (h : B_Ta_take4_51 Γ K3 K l0 l1 l2 g) : JW Γ E 51 [some (.ref l0), some (.int l1), some (.int l2), none] [] g := by
  unfold B_Ta_take4_51 at h
  refine j_iinc hE (by decide +kernel : decode cX6_take4 51 = .ok (.iinc 2 (-8), 3)) (v := (-8 : Int32)) (by decide) rfl (Nat.le_of_ble_eq_true rfl) rfl ?_
  refine j_goto hE (by decide +kernel : decode cX6_take4 54 = .ok (.goto (-51), 3)) (tgt := 3) (by decide) ?_
  exact hK3 _ _ _ _ h
set_option maxRecDepth 100000 in
def B_Ta_take4_3 (Γ : GAM) (K3 : Nat → Int32 → Int32 → GH → Prop) (K : GH → Prop) (l0 : Nat) (l1 : Int32) (l2 : Int32) (g : GH) : Prop :=
  ((l2 < 0 → K g) ∧ (¬ (l2 < 0) → ∀ x1 : Int32, x1 = (((l1.toUInt32 >>> (l2.toUInt32 &&& Int32.toUInt32 31)).toInt32) &&& (255 : Int32)) → ((x1 = 0 → B_Ta_take4_51 Γ K3 K l0 l1 l2 g) ∧ (¬ (x1 = 0) → Kd g l0 = 8 ∧ Kd g l0 = 8 ∧ ∃ a2 : Nat, Gr g 896 l0 = some a2 ∧ (20 ≤ Kd g a2 ∧ Kd g a2 < 24) ∧ (((Int32.ofNat (Ln g a2)) ≤ (Gi g 897 l0) → B_Ta_take4_51 Γ K3 K l0 l1 l2 g) ∧ (¬ ((Int32.ofNat (Ln g a2)) ≤ (Gi g 897 l0)) → Kd g l0 = 8 ∧ ∃ a3 : Nat, Gr g 896 l0 = some a3 ∧ Kd g l0 = 8 ∧ Kd g a3 = 20 ∧ inB (Gi g 897 l0) (Ln g a3) ∧ ∀ g4 : GH, g4 = sA g (Co g a3) (Ow g a3) (Gi g 897 l0).toNatClampNeg x1 → Kd g4 l0 = 8 ∧ Kd g4 l0 = 8 ∧ ∀ g5 : GH, g5 = sI g4 897 l0 ((Gi g4 897 l0) + (1 : Int32)) → B_Ta_take4_51 Γ K3 K l0 l1 l2 g5))))))
set_option maxHeartbeats 4000000 in
set_option maxRecDepth 100000 in
theorem S_Ta_take4_3 {Γ : GAM} {E : EV} {K : GH → Prop} (hE : GE Γ E cX6_take4 4 RX6 none 0 0 (fun r g' => r = none ∧ K g')) {K3 : Nat → Int32 → Int32 → GH → Prop} (hK3 : ∀ (l0 : Nat) (l1 : Int32) (l2 : Int32) (g : GH), K3 l0 l1 l2 g → JW Γ E 3 [some (.ref l0), some (.int l1), some (.int l2), none] [] g) (l0 : Nat) (l1 : Int32) (l2 : Int32) (g : GH) (h : B_Ta_take4_3 Γ K3 K l0 l1 l2 g) : JW Γ E 3 [some (.ref l0), some (.int l1), some (.int l2), none] [] g := by
  unfold B_Ta_take4_3 at h
  refine j_iload_n hE (by decide +kernel : decode cX6_take4 3 = .ok (.iload_n 2, 1)) rfl rfl ?_
  refine j_if_lt hE (by decide +kernel : decode cX6_take4 4 = .ok (.ifCond .lt 53, 3)) (tgt := 57) (by decide) (fun q => ?_) (fun q => ?_)
  · replace h := h.1 q
    exact j_vret hE (by decide +kernel : decode cX6_take4 57 = .ok (.return_, 1)) ⟨rfl, h⟩
  · replace h := h.2 q
    refine j_iload_n hE (by decide +kernel : decode cX6_take4 7 = .ok (.iload_n 1, 1)) rfl rfl ?_
    refine j_iload_n hE (by decide +kernel : decode cX6_take4 8 = .ok (.iload_n 2, 1)) rfl rfl ?_
    refine j_iushr hE (by decide +kernel : decode cX6_take4 9 = .ok (.iushr, 1)) ?_
    refine j_sipush hE (by decide +kernel : decode cX6_take4 10 = .ok (.sipush 255, 3)) (v := (255 : Int32)) (by decide) ?_
    refine j_iand hE (by decide +kernel : decode cX6_take4 13 = .ok (.iand, 1)) ?_
    obtain ⟨x1, hx⟩ : ∃ z, z = (((l1.toUInt32 >>> (l2.toUInt32 &&& Int32.toUInt32 31)).toInt32) &&& (255 : Int32)) := ⟨_, rfl⟩; replace h := h x1 hx; rw [← hx]
    refine j_istore_n hE (by decide +kernel : decode cX6_take4 14 = .ok (.istore_n 3, 1)) rfl (Nat.le_of_ble_eq_true rfl) rfl ?_
    refine j_iload_n hE (by decide +kernel : decode cX6_take4 15 = .ok (.iload_n 3, 1)) rfl rfl ?_
    refine j_if_eq hE (by decide +kernel : decode cX6_take4 16 = .ok (.ifCond .eq 35, 3)) (tgt := 51) (by decide) (fun q => ?_) (fun q => ?_)
    · replace h := h.1 q
      refine j_weak [some (.ref l0), some (.int l1), some (.int l2), none] ⟨rfl, ⟨rfl, ⟨rfl, trivial⟩⟩⟩ ?_
      exact S_Ta_take4_51 hE hK3 _ _ _ _ h
    · replace h := h.2 q
      refine j_aload_n hE (by decide +kernel : decode cX6_take4 19 = .ok (.aload_n 0, 1)) rfl rfl ?_
      obtain ⟨hk, h⟩ := h
      refine j_getI hE fg_X6_24 hk (by decide +kernel : decode cX6_take4 20 = .ok (.getfield 24, 3)) ?_
      refine j_aload_n hE (by decide +kernel : decode cX6_take4 23 = .ok (.aload_n 0, 1)) rfl rfl ?_
      obtain ⟨hk, h⟩ := h
      obtain ⟨a2, ha, h⟩ := h
      refine j_getRn hE fg_X6_9 hk ha (by decide +kernel : decode cX6_take4 24 = .ok (.getfield 9, 3)) ?_
      obtain ⟨hk, h⟩ := h
      refine j_alen hE hk (by decide +kernel : decode cX6_take4 27 = .ok (.arraylength, 1)) ?_
      refine j_icmp_ge hE (by decide +kernel : decode cX6_take4 28 = .ok (.if_icmp .ge 23, 3)) (tgt := 51) (by decide) (fun q => ?_) (fun q => ?_)
      · replace h := h.1 q
        refine j_weak [some (.ref l0), some (.int l1), some (.int l2), none] ⟨rfl, ⟨rfl, ⟨rfl, trivial⟩⟩⟩ ?_
        exact S_Ta_take4_51 hE hK3 _ _ _ _ h
      · replace h := h.2 q
        refine j_aload_n hE (by decide +kernel : decode cX6_take4 31 = .ok (.aload_n 0, 1)) rfl rfl ?_
        obtain ⟨hk, h⟩ := h
        obtain ⟨a3, ha, h⟩ := h
        refine j_getRn hE fg_X6_9 hk ha (by decide +kernel : decode cX6_take4 32 = .ok (.getfield 9, 3)) ?_
        refine j_aload_n hE (by decide +kernel : decode cX6_take4 35 = .ok (.aload_n 0, 1)) rfl rfl ?_
        obtain ⟨hk, h⟩ := h
        refine j_getI hE fg_X6_24 hk (by decide +kernel : decode cX6_take4 36 = .ok (.getfield 24, 3)) ?_
        refine j_iload_n hE (by decide +kernel : decode cX6_take4 39 = .ok (.iload_n 3, 1)) rfl rfl ?_
        obtain ⟨hk, hb, h⟩ := h
        obtain ⟨g4, hg⟩ : ∃ z, z = sA g (Co g a3) (Ow g a3) (Gi g 897 l0).toNatClampNeg x1 := ⟨_, rfl⟩; replace h := h g4 hg
        refine j_iast hE hk hb (by decide +kernel : decode cX6_take4 40 = .ok (.iastore, 1)) ?_
        rw [← hg]
        refine j_aload_n hE (by decide +kernel : decode cX6_take4 41 = .ok (.aload_n 0, 1)) rfl rfl ?_
        refine j_dup hE (by decide +kernel : decode cX6_take4 42 = .ok (.dup, 1)) rfl ?_
        obtain ⟨hk, h⟩ := h
        refine j_getI hE fg_X6_24 hk (by decide +kernel : decode cX6_take4 43 = .ok (.getfield 24, 3)) ?_
        refine j_iconst hE (by decide +kernel : decode cX6_take4 46 = .ok (.iconst 1, 1)) (v := (1 : Int32)) (by decide) ?_
        refine j_iadd hE (by decide +kernel : decode cX6_take4 47 = .ok (.iadd, 1)) ?_
        obtain ⟨hk, h⟩ := h
        obtain ⟨g5, hg⟩ : ∃ z, z = sI g4 897 l0 ((Gi g4 897 l0) + (1 : Int32)) := ⟨_, rfl⟩; replace h := h g5 hg
        refine j_putI hE fa_X6_24 hk (fun q => by cases q) (by decide +kernel : decode cX6_take4 48 = .ok (.putfield 24, 3)) ?_
        rw [← hg]
        refine j_weak [some (.ref l0), some (.int l1), some (.int l2), none] ⟨rfl, ⟨rfl, ⟨rfl, trivial⟩⟩⟩ ?_
        exact S_Ta_take4_51 hE hK3 _ _ _ _ h
set_option maxRecDepth 100000 in
def B_Ta_take4_0 (Γ : GAM) (K3 : Nat → Int32 → Int32 → GH → Prop) (K : GH → Prop) (th : Nat) (p0 : Int32) (g : GH) : Prop :=
  K3 th p0 (24 : Int32) g
set_option maxHeartbeats 4000000 in
set_option maxRecDepth 100000 in
theorem S_Ta_take4_0 {Γ : GAM} {E : EV} {K : GH → Prop} (hE : GE Γ E cX6_take4 4 RX6 none 0 0 (fun r g' => r = none ∧ K g')) {K3 : Nat → Int32 → Int32 → GH → Prop} (hK3 : ∀ (l0 : Nat) (l1 : Int32) (l2 : Int32) (g : GH), K3 l0 l1 l2 g → JW Γ E 3 [some (.ref l0), some (.int l1), some (.int l2), none] [] g) (th : Nat) (p0 : Int32) (g : GH) (h : B_Ta_take4_0 Γ K3 K th p0 g) : JW Γ E 0 [some (.ref th), some (.int p0), none, none] [] g := by
  unfold B_Ta_take4_0 at h
  refine j_bipush hE (by decide +kernel : decode cX6_take4 0 = .ok (.bipush 24, 2)) (v := (24 : Int32)) (by decide) ?_
  refine j_istore_n hE (by decide +kernel : decode cX6_take4 2 = .ok (.istore_n 2, 1)) rfl (Nat.le_of_ble_eq_true rfl) rfl ?_
  exact hK3 _ _ _ _ h
set_option maxHeartbeats 4000000 in
set_option maxRecDepth 100000 in
theorem rl_Ta_take4 {Γ : GAM} {l : Launch} {th : Nat} {p0 : Int32} {g : GH} {K : GH → Prop} (I3 : Nat → Nat → Int32 → Int32 → GH → Prop) (hh3 : ∀ n (l0 : Nat) (l1 : Int32) (l2 : Int32) (g : GH), I3 n l0 l1 l2 g → B_Ta_take4_3 Γ (fun l0 l1 l2 g => ∃ m, m < n ∧ I3 m l0 l1 l2 g) K l0 l1 l2 g) (h0 : B_Ta_take4_0 Γ (fun l0 l1 l2 g => ∃ m, I3 m l0 l1 l2 g) K th p0 g) : MetA Γ l yX6_take4 cX6_take4 4 none 0 0 [.ref th, .int p0] g (fun r g' => r = none ∧ K g') := by
  refine MetA.introL (Lx := [some (.ref th), some (.int p0), none, none]) (by decide) (Nat.le_of_ble_eq_true rfl) rfl rfl ?_
  intro E hEl hE hnm
  have hall : ∀ n, (∀ (l0 : Nat) (l1 : Int32) (l2 : Int32) (g : GH), I3 n l0 l1 l2 g → JW Γ E 3 [some (.ref l0), some (.int l1), some (.int l2), none] [] g) := by
    intro n
    induction n using Nat.strongRecOn with
    | ind n ih =>
      exact fun l0 l1 l2 g hi => S_Ta_take4_3 hE (fun l0 l1 l2 g hm => by obtain ⟨m, hm, h⟩ := hm; exact (ih m hm) l0 l1 l2 g h) l0 l1 l2 g (hh3 n l0 l1 l2 g hi)
  exact S_Ta_take4_0 hE (fun l0 l1 l2 g hm => by obtain ⟨m, h⟩ := hm; exact (hall m) l0 l1 l2 g h) th p0 g h0
theorem mt_Ta_take4 {Γ : GAM} {l : Launch} (th : Nat) (p0 : Int32) (g : GH) (K : GH → Prop) (h : Sp_Ta_take4 Γ th p0 g K) : MetA Γ l yX6_take4 cX6_take4 4 none 0 0 [.ref th, .int p0] g (fun r g' => r = none ∧ K g') := by
  obtain ⟨t, hT, hl, hK⟩ := h
  refine rl_Ta_take4 (fun n l0 l1 l2 g' => th = l0 ∧ p0 = l1 ∧ ∃ j, j ≤ 4 ∧ l2 = shN j ∧ n = 4 - j ∧ FrX th [897] [896] g g' ∧ TT th g' (t ++ t4p p0 j)) ?_ ⟨_, rfl, rfl, 0, by omega, rfl, rfl, FrX.rf, by rw [show t4p p0 0 = [] from rfl, List.append_nil]; exact hT⟩
  rintro n l0 l1 l2 g' ⟨rfl, rfl, j, hj, rfl, rfl, hx, hN⟩
  unfold B_Ta_take4_3
  by_cases hj4 : j = 4
  · subst hj4
    exact ⟨fun _ => hK g' hx hN, fun u => absurd (by decide) u⟩
  have hj' : j < 4 := by omega
  have hs := shN_s j hj'
  have hs0 := shN_n j hj'
  have hm := t4p_mono (x := p0) (k := j + 1) (3 - j) (by omega)
  rw [show j + 1 + (3 - j) = 4 by omega] at hm
  refine ⟨fun u => absurd u hs0, fun _ => ?_⟩
  rintro x1 rfl
  rw [by4_e p0 j hj']
  have ts := t4p_s (x := p0) hj'
  obtain ⟨⟨hkd, a1, a2, a3, a4, ⟨z1, z2, z3, z4, z5⟩, _⟩, t1, t2, t3, t4⟩ := id hN
  have hno : by4 p0 j = 0 → B_Ta_take4_51 Γ (fun l0 l1 l2 g' => ∃ m, m < 4 - j ∧ th = l0 ∧ p0 = l1 ∧ ∃ j, j ≤ 4 ∧ l2 = shN j ∧ m = 4 - j ∧ FrX th [897] [896] g g' ∧ TT th g' (t ++ t4p p0 j)) K th p0 (shN j) g' := fun u => by
    refine ⟨4 - (j + 1), by omega, rfl, rfl, j + 1, by omega, hs, rfl, hx, ?_⟩
    rw [ts, if_pos u]; exact hN
  refine ⟨hno, fun u => ⟨hkd, hkd, a1, z1, ⟨by omega, by omega⟩, ?_⟩⟩
  rw [if_neg u] at ts
  have hl2 : (t ++ t4p p0 j).length < 200 := by
    rw [ts, List.length_append] at hm
    simp only [List.length_append, List.length_cons, List.length_nil] at hm ⊢
    omega
  rw [t1, show Int32.ofNat (Ln g' a1) = nI 200 by rw [z5]; rfl, nj_le (by omega) (by omega)]
  refine ⟨fun u2 => by omega, fun _ => ⟨hkd, a1, z1, hkd, z2, by rw [z5]; exact inB_nI (by omega) (by omega), ?_⟩⟩
  rw [z3, z4, nj_cl (by omega)]
  rintro g4 rfl
  refine ⟨hkd, hkd, ?_⟩
  rintro g5 rfl
  rw [Gi_sA, t1, nj_s]
  obtain ⟨y1, y2⟩ := hN.push hl2 (by4_bd p0 j u)
  refine ⟨4 - (j + 1), by omega, rfl, rfl, j + 1, by omega, hs, rfl, hx.tr y2, ?_⟩
  rw [ts, ← List.append_assoc]; exact y1
