/-! the class: its van, bits -/
theorem nI_bit (a : Nat) (i : Nat) (hi : i < 32) : (nI a).toBitVec.getLsbD i = a.testBit i := by
  show (BitVec.ofNat 32 a).getLsbD i = _
  rw [BitVec.getLsbD_ofNat]
  simp [hi]
theorem sh_bit : ∀ b, b < 8 → ((1 : Int32) <<< (nI b &&& 31)) = nI (2 ^ b) := by decide +kernel
theorem or_bit : ∀ m, m < 256 → ∀ b, b < 8 → nI m ||| nI (2 ^ b) = nI (m ||| 2 ^ b) := by decide +kernel
theorem st_bit {a m b : Nat} (hb : b < 8) : ((nI a &&& (nI m ^^^ (-1 : Int32))) &&& nI (2 ^ b)) = 0 ↔ ¬ (a.testBit b = true ∧ m.testBit b = false) := by
  have hg : ∀ i, i < 32 → ((nI a &&& (nI m ^^^ (-1 : Int32))) &&& nI (2 ^ b)).toBitVec.getLsbD i = (a.testBit i && !(m.testBit i) && decide (b = i)) := fun i hi => by
    rw [Int32.toBitVec_and, Int32.toBitVec_and, Int32.toBitVec_xor, BitVec.getLsbD_and, BitVec.getLsbD_and, BitVec.getLsbD_xor, nI_bit _ _ hi, nI_bit _ _ hi, nI_bit _ _ hi, Nat.testBit_two_pow]
    rw [show (-1 : Int32).toBitVec = BitVec.allOnes 32 by decide, BitVec.getLsbD_allOnes]
    simp [hi]
  constructor
  · intro h q
    have := hg b (by omega)
    rw [h] at this
    simp [q.1, q.2] at this
  · intro h
    apply Int32.toBitVec_inj.mp
    apply BitVec.eq_of_getLsbD_eq
    intro i hi
    rw [hg i hi]
    show _ = (0#32).getLsbD i
    rw [BitVec.getLsbD_zero]
    by_cases e : b = i
    · subst e
      cases h1 : a.testBit b with
      | false => simp
      | true =>
        cases h2 : m.testBit b with
        | true => simp
        | false => exact absurd ⟨h1, h2⟩ h
    · simp [e]
theorem mN_lt {P : List Nat} (h : ∀ x ∈ P, x < 8) : mN P < 256 := by
  show mN P < 2 ^ 8
  refine Nat.lt_pow_two_of_testBit _ (fun i hi => ?_)
  rw [mN_bit]
  exact decide_eq_false (fun z => by have := h i z; omega)
def vA (s : ST) : List Nat := (List.range 8).filter (vSt s)
theorem vA_mem {s : ST} {b : Nat} : b ∈ vA s ↔ b < 8 ∧ vSt s b = true := by
  unfold vA
  rw [List.mem_filter, List.mem_range]
theorem vA_nd (s : ST) : (vA s).Nodup := List.Pairwise.filter _ List.nodup_range
theorem mN_all {s : ST} {P : List Nat} (h : gP P) (hs : ∀ x ∈ P, vSt s x = true) : mN P = mN (vA s) ↔ P.length = vN s := by
  constructor
  · intro e; exact mN_len e h.1 (vA_nd s)
  · intro e
    have hsub : ∀ x, x ∈ P → x ∈ vA s := fun x hx => vA_mem.mpr ⟨h.2 x hx, hs x hx⟩
    apply Nat.eq_of_testBit_eq
    intro i
    rw [mN_bit, mN_bit]
    refine decide_eq_decide.mpr ⟨hsub i, fun hi => ?_⟩
    refine Classical.byContradiction (fun q => ?_)
    have := nd_len (P := i :: P) (P' := vA s) (List.nodup_cons.mpr ⟨q, h.1⟩) (fun x hx => by
      rcases List.mem_cons.mp hx with e | hx
      · rw [e]; exact hi
      · exact hsub x hx)
    have e2 : (vA s).length = vN s := rfl
    rw [List.length_cons] at this
    omega
/-- what the van's object holds of a state -/
def V6 (m : Nat) (g : GH) : Prop := Kd g m = 10 ∧ ∃ a b c d e f, (Gr g 1152 m = some a ∧ Kd g a = 20 ∧ Co g a = 1152 ∧ Ow g a = m ∧ Ln g a = 8) ∧ (Gr g 1153 m = some b ∧ Kd g b = 20 ∧ Co g b = 1153 ∧ Ow g b = m ∧ Ln g b = 8) ∧ (Gr g 1154 m = some c ∧ Kd g c = 20 ∧ Co g c = 1154 ∧ Ow g c = m ∧ Ln g c = 81) ∧ (Gr g 1155 m = some d ∧ Kd g d = 20 ∧ Co g d = 1155 ∧ Ow g d = m ∧ Ln g d = 2048) ∧ (Gr g 1156 m = some e ∧ Kd g e = 20 ∧ Co g e = 1156 ∧ Ow g e = m ∧ Ln g e = 8) ∧ (Gr g 1157 m = some f ∧ Kd g f = 20 ∧ Co g f = 1157 ∧ Ow g f = m ∧ Ln g f = 8)
theorem V6.x {m : Nat} {g g' : GH} {fs cs : List Nat} (h : V6 m g) (hx : FrX m fs cs g g') : V6 m g' := by
  obtain ⟨⟨x1, x2, x3, x4, x5, x6, x7, x8, x9, x10, x11, x12⟩, _, _⟩ := hx
  unfold V6 at h ⊢
  rw [x2, x6, x7, x8, x9]
  exact h
def VnB (m : Nat) (g : GH) (s : ST) : Prop := V6 m g ∧ Gi g 1158 m = s_stp s ∧ Gi g 1159 m = nI (mN (vA s)) ∧ Gi g 1160 m = nI (vN s) ∧ (∀ b x, b < 8 → s_box s b = some x → Ia g 1152 m b = x.1 ∧ Ia g 1153 m b = x.2) ∧ ∀ a b, a < 9 → b < 9 → a ≠ b → Ia g 1154 m (9 * a + b) = s_roa s (9 * a + b)
theorem VnB.x {m : Nat} {g g' : GH} {s : ST} (h : VnB m g s) (hx : FrX m [1161] [1155, 1156, 1157] g g') : VnB m g' s := by
  obtain ⟨a, b, c, d, e, f⟩ := h
  refine ⟨a.x hx, (hx.2.1 _ (by decide)).trans b, (hx.2.1 _ (by decide)).trans c, (hx.2.1 _ (by decide)).trans d, fun k x hk hs => ?_, fun k j h1 h2 h3 => ?_⟩
  · rw [hx.2.2 _ (by decide), hx.2.2 _ (by decide)]; exact e k x hk hs
  · rw [hx.2.2 _ (by decide)]; exact f k j h1 h2 h3
/-- the search's own notes -/
def VG (m : Nat) (g : GH) (P : List Nat) (q : VQ) : Prop := (∀ k c, k < 256 → c < 8 → Ia g 1155 m (8 * k + c) = nI (q.1 k c) ∧ q.1 k c ≤ 1000000) ∧ Gi g 1161 m = vI q.2 ∧ (∀ p, q.2 = some p → p.1 ≤ 3000 ∧ ∀ i x, p.2[i]? = some x → Ia g 1157 m i = nI x) ∧ ∀ i x, P[i]? = some x → Ia g 1156 m i = nI x
def Sp_Vn_comeHome (Γ : GAM) (m : Nat) (h : Int32) (g : GH) (K : GH → Prop) : Prop := ∃ P q k, V6 m g ∧ VG m g P q ∧ P.length ≤ 8 ∧ h = nI k ∧ k ≤ 3000 ∧ ∀ g', FrX m [1161] [1155, 1156, 1157] g g' → VG m g' P (q.1, vUp q.2 k P) → K g'
-- the walk of Vn_comeHome
set_option maxRecDepth 100000 in
def B_Vn_comeHome_36 (Γ : GAM) (K : GH → Prop)  (g : GH) : Prop :=
  K g
set_option maxHeartbeats 4000000 in
set_option maxRecDepth 100000 in
theorem S_Vn_comeHome_36 {Γ : GAM} {E : EV} {K : GH → Prop} (hE : GE Γ E cX8_comeHome 2 RX8 none 1 40 (fun r g' => r = none ∧ K g'))  (g : GH) (h : B_Vn_comeHome_36 Γ K  g) : JW Γ E 36 [none, none] [] g := by
  unfold B_Vn_comeHome_36 at h
  exact j_vret hE (by decide +kernel : decode cX8_comeHome 36 = .ok (.return_, 1)) ⟨rfl, h⟩
set_option maxRecDepth 100000 in
def B_Vn_comeHome_16 (Γ : GAM) (K : GH → Prop) (l0 : Nat) (l1 : Int32) (g : GH) : Prop :=
  Kd g l0 = 10 ∧ ∀ g1 : GH, g1 = sI g 1161 l0 l1 → Kd g1 l0 = 10 ∧ ∃ a2 : Nat, Gr g1 1156 l0 = some a2 ∧ Kd g1 l0 = 10 ∧ ∃ a3 : Nat, Gr g1 1157 l0 = some a3 ∧ Kd g1 a2 = 20 ∧ Kd g1 a3 = 20 ∧ 0 ≤ (0 : Int32) ∧ 0 ≤ (0 : Int32) ∧ 0 ≤ (8 : Int32) ∧ (0 : Int32).toNatClampNeg + (8 : Int32).toNatClampNeg ≤ Ln g1 a2 ∧ (0 : Int32).toNatClampNeg + (8 : Int32).toNatClampNeg ≤ Ln g1 a3 ∧ 0 < Ln g1 a3 ∧ ∀ g4 : GH, g4 = sAf g1 (Co g1 a3) (Ow g1 a3) (va_cpy (Ia g1 (Co g1 a2) (Ow g1 a2)) (Ia g1 (Co g1 a3) (Ow g1 a3)) (0 : Int32).toNatClampNeg (0 : Int32).toNatClampNeg (8 : Int32).toNatClampNeg) → B_Vn_comeHome_36 Γ K g4
set_option maxHeartbeats 4000000 in
set_option maxRecDepth 100000 in
theorem S_Vn_comeHome_16 {Γ : GAM} {E : EV} {K : GH → Prop} (hE : GE Γ E cX8_comeHome 2 RX8 none 1 40 (fun r g' => r = none ∧ K g')) (l0 : Nat) (l1 : Int32) (g : GH) (h : B_Vn_comeHome_16 Γ K l0 l1 g) : JW Γ E 16 [some (.ref l0), some (.int l1)] [] g := by
  unfold B_Vn_comeHome_16 at h
  refine j_aload_n hE (by decide +kernel : decode cX8_comeHome 16 = .ok (.aload_n 0, 1)) rfl rfl ?_
  refine j_iload_n hE (by decide +kernel : decode cX8_comeHome 17 = .ok (.iload_n 1, 1)) rfl rfl ?_
  obtain ⟨hk, h⟩ := h
  obtain ⟨g1, hg⟩ : ∃ z, z = sI g 1161 l0 l1 := ⟨_, rfl⟩; replace h := h g1 hg
  refine j_putI hE fa_X8_34 hk (fun q => by cases q) (by decide +kernel : decode cX8_comeHome 18 = .ok (.putfield 34, 3)) ?_
  rw [← hg]
  refine j_aload_n hE (by decide +kernel : decode cX8_comeHome 21 = .ok (.aload_n 0, 1)) rfl rfl ?_
  obtain ⟨hk, h⟩ := h
  obtain ⟨a2, ha, h⟩ := h
  refine j_getRn hE fg_X8_24 hk ha (by decide +kernel : decode cX8_comeHome 22 = .ok (.getfield 24, 3)) ?_
  refine j_iconst hE (by decide +kernel : decode cX8_comeHome 25 = .ok (.iconst 0, 1)) (v := (0 : Int32)) (by decide) ?_
  refine j_aload_n hE (by decide +kernel : decode cX8_comeHome 26 = .ok (.aload_n 0, 1)) rfl rfl ?_
  obtain ⟨hk, h⟩ := h
  obtain ⟨a3, ha, h⟩ := h
  refine j_getRn hE fg_X8_27 hk ha (by decide +kernel : decode cX8_comeHome 27 = .ok (.getfield 27, 3)) ?_
  refine j_iconst hE (by decide +kernel : decode cX8_comeHome 30 = .ok (.iconst 0, 1)) (v := (0 : Int32)) (by decide) ?_
  refine j_bipush hE (by decide +kernel : decode cX8_comeHome 31 = .ok (.bipush 8, 2)) (v := (8 : Int32)) (by decide) ?_
  obtain ⟨hk0, hk, c1, c2, c3, c4, c5, c6, h⟩ := h
  obtain ⟨g4, hg⟩ : ∃ z, z = sAf g1 (Co g1 a3) (Ow g1 a3) (va_cpy (Ia g1 (Co g1 a2) (Ow g1 a2)) (Ia g1 (Co g1 a3) (Ow g1 a3)) (0 : Int32).toNatClampNeg (0 : Int32).toNatClampNeg (8 : Int32).toNatClampNeg) := ⟨_, rfl⟩; replace h := h g4 hg
  refine j_copyi hE rfl cp_X8_78 hk0 hk c1 c2 c3 c4 c5 c6 (Nat.le_of_ble_eq_true rfl) (by omega) (by omega) (by decide +kernel : decode cX8_comeHome 33 = .ok (.invokestatic 78, 3)) ?_
  rw [← hg]
  refine j_weak [none, none] trivial ?_
  exact S_Vn_comeHome_36 hE _ h
set_option maxRecDepth 100000 in
def B_Vn_comeHome_0 (Γ : GAM) (K : GH → Prop) (th : Nat) (p0 : Int32) (g : GH) : Prop :=
  Kd g th = 10 ∧ (((Gi g 1161 th) = (-1 : Int32) → B_Vn_comeHome_16 Γ K th p0 g) ∧ (¬ ((Gi g 1161 th) = (-1 : Int32)) → Kd g th = 10 ∧ (((Gi g 1161 th) ≤ p0 → B_Vn_comeHome_36 Γ K g) ∧ (¬ ((Gi g 1161 th) ≤ p0) → B_Vn_comeHome_16 Γ K th p0 g))))
set_option maxHeartbeats 4000000 in
set_option maxRecDepth 100000 in
theorem S_Vn_comeHome_0 {Γ : GAM} {E : EV} {K : GH → Prop} (hE : GE Γ E cX8_comeHome 2 RX8 none 1 40 (fun r g' => r = none ∧ K g')) (th : Nat) (p0 : Int32) (g : GH) (h : B_Vn_comeHome_0 Γ K th p0 g) : JW Γ E 0 [some (.ref th), some (.int p0)] [] g := by
  unfold B_Vn_comeHome_0 at h
  refine j_aload_n hE (by decide +kernel : decode cX8_comeHome 0 = .ok (.aload_n 0, 1)) rfl rfl ?_
  obtain ⟨hk, h⟩ := h
  refine j_getI hE fg_X8_34 hk (by decide +kernel : decode cX8_comeHome 1 = .ok (.getfield 34, 3)) ?_
  refine j_iconst hE (by decide +kernel : decode cX8_comeHome 4 = .ok (.iconst (-1), 1)) (v := (-1 : Int32)) (by decide) ?_
  refine j_icmp_eq hE (by decide +kernel : decode cX8_comeHome 5 = .ok (.if_icmp .eq 11, 3)) (tgt := 16) (by decide) (fun q => ?_) (fun q => ?_)
  · replace h := h.1 q
    exact S_Vn_comeHome_16 hE _ _ _ h
  · replace h := h.2 q
    refine j_iload_n hE (by decide +kernel : decode cX8_comeHome 8 = .ok (.iload_n 1, 1)) rfl rfl ?_
    refine j_aload_n hE (by decide +kernel : decode cX8_comeHome 9 = .ok (.aload_n 0, 1)) rfl rfl ?_
    obtain ⟨hk, h⟩ := h
    refine j_getI hE fg_X8_34 hk (by decide +kernel : decode cX8_comeHome 10 = .ok (.getfield 34, 3)) ?_
    refine j_icmp_ge hE (by decide +kernel : decode cX8_comeHome 13 = .ok (.if_icmp .ge 23, 3)) (tgt := 36) (by decide) (fun q => ?_) (fun q => ?_)
    · replace h := h.1 q
      refine j_weak [none, none] trivial ?_
      exact S_Vn_comeHome_36 hE _ h
    · replace h := h.2 q
      exact S_Vn_comeHome_16 hE _ _ _ h
set_option maxHeartbeats 4000000 in
set_option maxRecDepth 100000 in
theorem rl_Vn_comeHome {Γ : GAM} {l : Launch} {th : Nat} {p0 : Int32} {g : GH} {K : GH → Prop} (h0 : B_Vn_comeHome_0 Γ K th p0 g) : MetA Γ l yX8_comeHome cX8_comeHome 2 none 1 40 [.ref th, .int p0] g (fun r g' => r = none ∧ K g') := by
  refine MetA.introL (Lx := [some (.ref th), some (.int p0)]) (by decide) (Nat.le_of_ble_eq_true rfl) rfl rfl ?_
  intro E hEl hE hnm
  exact S_Vn_comeHome_0 hE th p0 g h0
theorem mt_Vn_comeHome {Γ : GAM} {l : Launch} (th : Nat) (p0 : Int32) (g : GH) (K : GH → Prop) (h : Sp_Vn_comeHome Γ th p0 g K) : MetA Γ l yX8_comeHome cX8_comeHome 2 none 1 40 [.ref th, .int p0] g (fun r g' => r = none ∧ K g') := by
  obtain ⟨P, q, k, hV, hG, hl, rfl, hk, hK⟩ := h
  obtain ⟨hkd, a1, a2, a3, a4, a5, a6, _, _, _, _, ⟨b1, b2, b3, b4, b5⟩, ⟨c1, c2, c3, c4, c5⟩⟩ := hV
  obtain ⟨g1, g2, g3, g4⟩ := hG
  refine rl_Vn_comeHome ?_
  have h16 : vUp q.2 k P = some (k, P) → B_Vn_comeHome_16 Γ K th (nI k) g := fun hu => by
    unfold B_Vn_comeHome_16 B_Vn_comeHome_36
    refine ⟨hkd, ?_⟩
    rintro _ rfl
    refine ⟨hkd, a5, b1, hkd, a6, c1, b2, c2, by decide, by decide, by decide, by show _ ≤ Ln g a5; rw [b5]; decide, by show _ ≤ Ln g a6; rw [c5]; decide, by show _ < Ln g a6; rw [c5]; decide, ?_⟩
    rw [Co_sI, Ow_sI, Ia_sI, b3, b4, c3, c4]
    rintro _ rfl
    refine hK _ ((FrX.sI (by decide)).tr (FrX.sAf' (by decide))) ?_
    rw [hu]
    refine ⟨fun j c hj hc => ?_, by rw [Gi_sAf, Gi_sI, if_pos ⟨rfl, rfl⟩]; rfl, fun p hp => ?_, fun i x hx => ?_⟩
    · rw [Ia_sAf, if_neg (fun z => absurd z.1 (by decide)), Ia_sI]; exact g1 j c hj hc
    · cases hp
      refine ⟨hk, fun i x hx => ?_⟩
      have hi := (List.getElem?_eq_some_iff.mp hx).1
      simp only at hi
      rw [Ia_sAf, if_pos ⟨rfl, rfl⟩]
      unfold va_cpy
      rw [show (0 : Int32).toNatClampNeg = 0 by decide, show (8 : Int32).toNatClampNeg = 8 by decide, if_pos ⟨Nat.zero_le _, by omega⟩, Nat.zero_add, Nat.sub_zero]
      exact g4 i x hx
    · rw [Ia_sAf, if_neg (fun z => absurd z.1 (by decide)), Ia_sI]; exact g4 i x hx
  unfold B_Vn_comeHome_0 B_Vn_comeHome_36
  rw [g2]
  cases hq : q.2 with
  | none => exact ⟨hkd, fun _ => h16 (by rw [hq]; rfl), fun u => absurd rfl u⟩
  | some p =>
    obtain ⟨hp1, hp2⟩ := g3 p hq
    refine ⟨hkd, fun u => absurd u (nI_nm1 (by omega)), fun _ => ⟨hkd, fun u => ?_, fun u => ?_⟩⟩
    · have hle := (nj_le (by omega) (by omega)).mp u
      refine hK g FrX.rf ?_
      have : vUp q.2 k P = q.2 := by rw [hq]; show (if k < p.1 then _ else _) = _; rw [if_neg (by omega)]
      rw [this]
      exact ⟨g1, g2, g3, g4⟩
    · have hle : ¬ p.1 ≤ k := fun z => u ((nj_le (by omega) (by omega)).mpr z)
      exact h16 (by rw [hq]; show (if k < p.1 then _ else _) = _; rw [if_pos (by omega)])
