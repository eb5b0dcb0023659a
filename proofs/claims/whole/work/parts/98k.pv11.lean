/-! the class's face: what is usual, what will be late -/
def ctL (L : List Int32) (d : Nat) : Nat := (L.filter (fun t => decide (t = nI d))).length
def ltL (L : List Int32) (d : Nat) : Nat := (L.filter (fun t => decide (t.toNatClampNeg < d))).length
theorem ctL_push (L : List Int32) (t : Int32) (d : Nat) : ctL (L ++ [t]) d = ctL L d + (if t = nI d then 1 else 0) := by
  unfold ctL
  rw [List.filter_append, List.length_append, List.filter_cons]
  by_cases h : t = nI d
  · rw [if_pos (by simp [h]), if_pos h]; rfl
  · rw [if_neg (by simp [h]), if_neg h]; rfl
theorem ltL_s {L : List Int32} (hL : ∀ t ∈ L, 0 ≤ t ∧ t ≤ 400) {d : Nat} (hd : d ≤ 400) : ltL L (d + 1) = ltL L d + ctL L d := by
  unfold ltL ctL
  induction L with
  | nil => rfl
  | cons x L ih =>
    have ih' := ih (fun t ht => hL t (List.mem_cons_of_mem _ ht))
    have hx := hL x List.mem_cons_self
    have hn := nj_of hx.1
    rw [List.filter_cons, List.filter_cons, List.filter_cons]
    have e : (x = nI d) ↔ x.toNatClampNeg = d := by
      constructor
      · intro h; rw [h, nj_cl (by omega)]
      · intro h; rw [hn.1, h]
    by_cases h1 : x.toNatClampNeg < d
    · rw [if_pos (by simp; omega), if_pos (by simp; omega), if_neg (by simp [e]; omega), List.length_cons, List.length_cons]; omega
    · by_cases h2 : x.toNatClampNeg = d
      · rw [if_pos (by simp; omega), if_neg (by simp; omega), if_pos (by simp [e, h2]), List.length_cons, List.length_cons]; omega
      · rw [if_neg (by simp; omega), if_neg (by simp; omega), if_neg (by simp [e, h2])]; omega
theorem ltL_le (L : List Int32) (d : Nat) : ltL L d ≤ L.length := List.length_filter_le _ _
theorem cntD_lt {L : List Int32} (hL : ∀ t ∈ L, 0 ≤ t ∧ t ≤ 400) {d : Nat} (hd : d ≤ 400) : cntD L d L.length = nI (ltL L (d + 1)) := by
  unfold cntD
  rw [List.take_length]
  have key : ∀ (L : List Int32), (∀ t ∈ L, 0 ≤ t ∧ t ≤ 400) → ∀ j, L.foldl (cnS2 d) (nI j) = nI (j + ltL L (d + 1)) := by
    intro L
    induction L with
    | nil => intro _ j; rfl
    | cons x L ih =>
      intro h j
      have hx := h x List.mem_cons_self
      have hn := nj_of hx.1
      have ih' := ih (fun t ht => h t (List.mem_cons_of_mem _ ht))
      have e : nI d < x ↔ d < x.toNatClampNeg := by
        rw [show (nI d < x) ↔ (nI d < nI x.toNatClampNeg) from by rw [← hn.1]]
        exact nj_lt (by omega) hn.2
      have hlt : ltL (x :: L) (d + 1) = (if nI d < x then 0 else 1) + ltL L (d + 1) := by
        unfold ltL
        rw [List.filter_cons]
        by_cases z : nI d < x
        · rw [if_neg (by simp; have := e.mp z; omega), if_pos z, Nat.zero_add]
        · rw [if_pos (by simp; have := Nat.not_lt.mp (fun q => z (e.mpr q)); omega), if_neg z, List.length_cons, Nat.add_comm]
      rw [List.foldl_cons, hlt]
      show L.foldl (cnS2 d) (nI j + if nI d < x then 0 else 1) = _
      by_cases z : nI d < x
      · rw [if_pos z, if_pos z, Int32.add_zero, Nat.zero_add]; exact ih' j
      · rw [if_neg z, if_neg z, nj_s, ih' (j + 1)]
        congr 1; omega
  have := key L hL 0
  rw [Nat.zero_add] at this
  exact this
/-- what asking for usual days leaves -/
def FU (g g' : GH) : Prop := Fr cFS (1416 :: cCS) [] g g' ∧ Gr g' = Gr g ∧ Ln g' = Ln g ∧ Hn g' = Hn g ∧ Hu g' = Hu g
theorem FU.tr {g g1 g2 : GH} (h : FU g g1) (k : FU g1 g2) : FU g g2 := ⟨h.1.tr k.1, k.2.1.trans h.2.1, k.2.2.1.trans h.2.2.1, k.2.2.2.1.trans h.2.2.2.1, k.2.2.2.2.trans h.2.2.2.2⟩
theorem FU.x {m : Nat} {fs cs : List Nat} {g g' : GH} (h : FrX m fs cs g g') (hk : EN g) (h1 : ∀ f ∈ fs, f ∈ cFS) (h2 : ∀ c ∈ cs, c ∈ 1416 :: cCS) : FU g g' :=
  ⟨(h.fr (als := []) hk).up h1 h2 (fun a ha => ha), h.1.2.1, h.1.2.2.2.2.2.2.2.2.1, h.1.2.2.2.2.2.2.2.2.2.2.1, h.1.2.2.2.2.2.2.2.2.2.2.2⟩
theorem FU.i {Γ : GAM} {C : CDR} {g g' : GH} {s : ST} (h : ClsI Γ C g s) (k : FU g g') : ClsI Γ C g' s := h.fr0 k.1 (by decide) (by decide)
theorem FU.c {g g' : GH} (k : FU g g') : FrC g g' := FrC.of k.1 (by decide) (by decide)
theorem RM.fu {Γ : GAM} {C : CDR} {g g' : GH} {s : ST} {n : Nat} (h : RM Γ C g s n) (k : FU g g') : RM Γ C g' s n := by
  obtain ⟨-, k1, k2, k3, k4⟩ := k
  unfold RM phi cpA at h ⊢
  rw [k1, k2, k3, k4]
  exact h
def Sp_PV_usualOf (Γ : GAM) (x : Nat) (p0 p1 : Int32) (g : GH) (K : Int32 → GH → Prop) : Prop := ∃ C s, c_x C = x ∧ ClsI Γ C g s ∧ WF s ∧ (1 ≤ p1 ∧ p1 ≤ 1000) ∧ ∀ g', FU g g' → K (sUs s p0 p1) g'
theorem FrX.sAf2 {m : Nat} {g : GH} {fs cs : List Nat} {c : Nat} {f : Nat → Int32} (hc : c ∈ cs) : FrX m fs cs g (sAf g c m f) := FrX.sAf' hc
-- the walk of PV_usualOf
set_option maxRecDepth 100000 in
def B_PV_usualOf_143 (Γ : GAM) (K13 : Nat → Int32 → Int32 → Int32 → Int32 → GH → Prop) (K143 : Nat → Int32 → Int32 → Int32 → Int32 → GH → Prop) (K : Int32 → GH → Prop) (l0 : Nat) (l2 : Int32) (l3 : Int32) (l4 : Int32) (l5 : Int32) (g : GH) : Prop :=
  Kd g l0 = 12 ∧ ∃ a1 : Nat, Gr g 1416 l0 = some a1 ∧ (20 ≤ Kd g a1 ∧ Kd g a1 < 24) ∧ (((Int32.ofNat (Ln g a1)) ≤ l5 → K (-2 : Int32) g) ∧ (¬ ((Int32.ofNat (Ln g a1)) ≤ l5) → Kd g l0 = 12 ∧ ∃ a2 : Nat, Gr g 1416 l0 = some a2 ∧ Kd g a2 = 20 ∧ inB l5 (Ln g a2) ∧ ∀ x3 : Int32, x3 = (l4 + (Ia g (Co g a2) (Ow g a2) l5.toNatClampNeg)) → (((x3 * (1000 : Int32)) < (l2 * l3) → K143 l0 l2 l3 x3 (l5 + (1 : Int32)) g) ∧ (¬ ((x3 * (1000 : Int32)) < (l2 * l3)) → K l5 g))))
set_option maxHeartbeats 4000000 in
set_option maxRecDepth 100000 in
theorem S_PV_usualOf_143 {Γ : GAM} {E : EV} {K : Int32 → GH → Prop} (hE : GE Γ E cX10_usualOf 7 RX10 (some (.int)) 5 116 (fun r g' => ∃ x, r = some (.int x) ∧ K x g')) {K13 : Nat → Int32 → Int32 → Int32 → Int32 → GH → Prop} {K143 : Nat → Int32 → Int32 → Int32 → Int32 → GH → Prop} (hK13 : ∀ (l0 : Nat) (l1 : Int32) (l2 : Int32) (l3 : Int32) (l4 : Int32) (g : GH), K13 l0 l1 l2 l3 l4 g → JW Γ E 13 [some (.ref l0), some (.int l1), some (.int l2), some (.int l3), some (.int l4), none, none] [] g) (hK143 : ∀ (l0 : Nat) (l2 : Int32) (l3 : Int32) (l4 : Int32) (l5 : Int32) (g : GH), K143 l0 l2 l3 l4 l5 g → JW Γ E 143 [some (.ref l0), none, some (.int l2), some (.int l3), some (.int l4), some (.int l5), none] [] g) (l0 : Nat) (l2 : Int32) (l3 : Int32) (l4 : Int32) (l5 : Int32) (g : GH) (h : B_PV_usualOf_143 Γ K13 K143 K l0 l2 l3 l4 l5 g) : JW Γ E 143 [some (.ref l0), none, some (.int l2), some (.int l3), some (.int l4), some (.int l5), none] [] g := by
  unfold B_PV_usualOf_143 at h
  refine j_iload hE (by decide +kernel : decode cX10_usualOf 143 = .ok (.iload 5, 2)) rfl ?_
  refine j_aload_n hE (by decide +kernel : decode cX10_usualOf 145 = .ok (.aload_n 0, 1)) rfl rfl ?_
  obtain ⟨hk, h⟩ := h
  obtain ⟨a1, ha, h⟩ := h
  refine j_getRn hE fg_X10_52 hk ha (by decide +kernel : decode cX10_usualOf 146 = .ok (.getfield 52, 3)) ?_
  obtain ⟨hk, h⟩ := h
  refine j_alen hE hk (by decide +kernel : decode cX10_usualOf 149 = .ok (.arraylength, 1)) ?_
  refine j_icmp_ge hE (by decide +kernel : decode cX10_usualOf 150 = .ok (.if_icmp .ge 36, 3)) (tgt := 186) (by decide) (fun q => ?_) (fun q => ?_)
  · replace h := h.1 q
    refine j_bipush hE (by decide +kernel : decode cX10_usualOf 186 = .ok (.bipush (-2), 2)) (v := (-2 : Int32)) (by decide) ?_
    exact j_iret hE (by decide +kernel : decode cX10_usualOf 188 = .ok (.ireturn, 1)) ⟨_, rfl, h⟩
  · replace h := h.2 q
    refine j_iload hE (by decide +kernel : decode cX10_usualOf 153 = .ok (.iload 4, 2)) rfl ?_
    refine j_aload_n hE (by decide +kernel : decode cX10_usualOf 155 = .ok (.aload_n 0, 1)) rfl rfl ?_
    obtain ⟨hk, h⟩ := h
    obtain ⟨a2, ha, h⟩ := h
    refine j_getRn hE fg_X10_52 hk ha (by decide +kernel : decode cX10_usualOf 156 = .ok (.getfield 52, 3)) ?_
    refine j_iload hE (by decide +kernel : decode cX10_usualOf 159 = .ok (.iload 5, 2)) rfl ?_
    obtain ⟨hk, hb, h⟩ := h
    refine j_iald hE hk hb (by decide +kernel : decode cX10_usualOf 161 = .ok (.iaload, 1)) ?_
    refine j_iadd hE (by decide +kernel : decode cX10_usualOf 162 = .ok (.iadd, 1)) ?_
    obtain ⟨x3, hx⟩ : ∃ z, z = (l4 + (Ia g (Co g a2) (Ow g a2) l5.toNatClampNeg)) := ⟨_, rfl⟩; replace h := h x3 hx; rw [← hx]
    refine j_istore hE (by decide +kernel : decode cX10_usualOf 163 = .ok (.istore 4, 2)) (Nat.le_of_ble_eq_true rfl) rfl ?_
    refine j_iload hE (by decide +kernel : decode cX10_usualOf 165 = .ok (.iload 4, 2)) rfl ?_
    refine j_sipush hE (by decide +kernel : decode cX10_usualOf 167 = .ok (.sipush 1000, 3)) (v := (1000 : Int32)) (by decide) ?_
    refine j_imul hE (by decide +kernel : decode cX10_usualOf 170 = .ok (.imul, 1)) ?_
    refine j_iload_n hE (by decide +kernel : decode cX10_usualOf 171 = .ok (.iload_n 2, 1)) rfl rfl ?_
    refine j_iload_n hE (by decide +kernel : decode cX10_usualOf 172 = .ok (.iload_n 3, 1)) rfl rfl ?_
    refine j_imul hE (by decide +kernel : decode cX10_usualOf 173 = .ok (.imul, 1)) ?_
    refine j_icmp_lt hE (by decide +kernel : decode cX10_usualOf 174 = .ok (.if_icmp .lt 6, 3)) (tgt := 180) (by decide) (fun q => ?_) (fun q => ?_)
    · replace h := h.1 q
      refine j_iinc hE (by decide +kernel : decode cX10_usualOf 180 = .ok (.iinc 5 1, 3)) (v := (1 : Int32)) (by decide) rfl (Nat.le_of_ble_eq_true rfl) rfl ?_
      refine j_goto hE (by decide +kernel : decode cX10_usualOf 183 = .ok (.goto (-40), 3)) (tgt := 143) (by decide) ?_
      exact hK143 _ _ _ _ _ _ h
    · replace h := h.2 q
      refine j_iload hE (by decide +kernel : decode cX10_usualOf 177 = .ok (.iload 5, 2)) rfl ?_
      exact j_iret hE (by decide +kernel : decode cX10_usualOf 179 = .ok (.ireturn, 1)) ⟨_, rfl, h⟩
set_option maxRecDepth 100000 in
def B_PV_usualOf_120 (Γ : GAM) (K13 : Nat → Int32 → Int32 → Int32 → Int32 → GH → Prop) (K143 : Nat → Int32 → Int32 → Int32 → Int32 → GH → Prop) (K : Int32 → GH → Prop) (l0 : Nat) (l1 : Int32) (l2 : Int32) (l3 : Int32) (l4 : Int32) (g : GH) : Prop :=
  K13 l0 l1 l2 l3 (l4 + (1 : Int32)) g
set_option maxHeartbeats 4000000 in
set_option maxRecDepth 100000 in
theorem S_PV_usualOf_120 {Γ : GAM} {E : EV} {K : Int32 → GH → Prop} (hE : GE Γ E cX10_usualOf 7 RX10 (some (.int)) 5 116 (fun r g' => ∃ x, r = some (.int x) ∧ K x g')) {K13 : Nat → Int32 → Int32 → Int32 → Int32 → GH → Prop} {K143 : Nat → Int32 → Int32 → Int32 → Int32 → GH → Prop} (hK13 : ∀ (l0 : Nat) (l1 : Int32) (l2 : Int32) (l3 : Int32) (l4 : Int32) (g : GH), K13 l0 l1 l2 l3 l4 g → JW Γ E 13 [some (.ref l0), some (.int l1), some (.int l2), some (.int l3), some (.int l4), none, none] [] g) (hK143 : ∀ (l0 : Nat) (l2 : Int32) (l3 : Int32) (l4 : Int32) (l5 : Int32) (g : GH), K143 l0 l2 l3 l4 l5 g → JW Γ E 143 [some (.ref l0), none, some (.int l2), some (.int l3), some (.int l4), some (.int l5), none] [] g) (l0 : Nat) (l1 : Int32) (l2 : Int32) (l3 : Int32) (l4 : Int32) (g : GH) (h : B_PV_usualOf_120 Γ K13 K143 K l0 l1 l2 l3 l4 g) : JW Γ E 120 [some (.ref l0), some (.int l1), some (.int l2), some (.int l3), some (.int l4), none, none] [] g := by
  unfold B_PV_usualOf_120 at h
  refine j_iinc hE (by decide +kernel : decode cX10_usualOf 120 = .ok (.iinc 4 1, 3)) (v := (1 : Int32)) (by decide) rfl (Nat.le_of_ble_eq_true rfl) rfl ?_
  refine j_goto hE (by decide +kernel : decode cX10_usualOf 123 = .ok (.goto (-110), 3)) (tgt := 13) (by decide) ?_
  exact hK13 _ _ _ _ _ _ h
set_option maxRecDepth 100000 in
def B_PV_usualOf_13 (Γ : GAM) (K13 : Nat → Int32 → Int32 → Int32 → Int32 → GH → Prop) (K143 : Nat → Int32 → Int32 → Int32 → Int32 → GH → Prop) (K : Int32 → GH → Prop) (l0 : Nat) (l1 : Int32) (l2 : Int32) (l3 : Int32) (l4 : Int32) (g : GH) : Prop :=
  Kd g l0 = 12 ∧ ∃ a1 : Nat, Gr g 1410 l0 = some a1 ∧ Kd g a1 = 6 ∧ ∃ a2 : Nat, Gr g 641 a1 = some a2 ∧ Kd g a2 = 1 ∧ Sp_AL_size Γ a2 g (fun (x4 : Int32) (g3 : GH) => ((x4 ≤ l4 → Kd g3 l0 = 12 ∧ (((Gi g3 1409 l0) ≤ l3 → K143 l0 l2 l3 (0 : Int32) (0 : Int32) g3) ∧ (¬ ((Gi g3 1409 l0) ≤ l3) → K (-2 : Int32) g3))) ∧ (¬ (x4 ≤ l4) → Kd g3 l0 = 12 ∧ ∃ a5 : Nat, Gr g3 1410 l0 = some a5 ∧ Kd g3 a5 = 6 ∧ ∃ a6 : Nat, Gr g3 641 a5 = some a6 ∧ Kd g3 a6 = 1 ∧ Sp_AL_get Γ a6 l4 g3 (fun (a8 : Nat) (g7 : GH) => Kd g7 a8 = 2 ∧ Kd g7 a8 = 2 ∧ ∃ a9 : Nat, Gr g7 129 a8 = some a9 ∧ Kd g7 a9 = 11 ∧ ((¬ ((Gi g7 1281 a9) = l1) → B_PV_usualOf_120 Γ K13 K143 K l0 l1 l2 l3 l4 g7) ∧ ((Gi g7 1281 a9) = l1 → Kd g7 l0 = 12 ∧ ∃ a10 : Nat, Gr g7 1410 l0 = some a10 ∧ Kd g7 l0 = 12 ∧ Kd g7 a10 = 6 ∧ Sp_Po_settle Γ a10 a8 (Gi g7 1408 l0) g7 (fun (g11 : GH) => Kd g11 a8 = 2 ∧ Kd g11 a8 = 2 ∧ ∀ x12 : Int32, x12 = (if (0 : Int32) < ((Gi g11 137 a8) - (Gi g11 130 a8)) then ((Gi g11 137 a8) - (Gi g11 130 a8)) else (0 : Int32)) → Kd g11 a8 = 2 ∧ (((Gi g11 137 a8) = (-1 : Int32) → B_PV_usualOf_120 Γ K13 K143 K l0 l1 l2 l3 l4 g11) ∧ (¬ ((Gi g11 137 a8) = (-1 : Int32)) → Kd g11 l0 = 12 ∧ ∃ a13 : Nat, Gr g11 1416 l0 = some a13 ∧ (20 ≤ Kd g11 a13 ∧ Kd g11 a13 < 24) ∧ (((Int32.ofNat (Ln g11 a13)) ≤ x12 → B_PV_usualOf_120 Γ K13 K143 K l0 l1 l2 l3 l4 g11) ∧ (¬ ((Int32.ofNat (Ln g11 a13)) ≤ x12) → Kd g11 l0 = 12 ∧ ∃ a14 : Nat, Gr g11 1416 l0 = some a14 ∧ Kd g11 a14 = 20 ∧ inB x12 (Ln g11 a14) ∧ Kd g11 a14 = 20 ∧ inB x12 (Ln g11 a14) ∧ ∀ g15 : GH, g15 = sA g11 (Co g11 a14) (Ow g11 a14) x12.toNatClampNeg ((Ia g11 (Co g11 a14) (Ow g11 a14) x12.toNatClampNeg) + (1 : Int32)) → B_PV_usualOf_120 Γ K13 K143 K l0 l1 l2 (l3 + (1 : Int32)) l4 g15)))))))))))
set_option maxHeartbeats 4000000 in
set_option maxRecDepth 100000 in
theorem S_PV_usualOf_13 {Γ : GAM} {E : EV} {K : Int32 → GH → Prop} (hE : GE Γ E cX10_usualOf 7 RX10 (some (.int)) 5 116 (fun r g' => ∃ x, r = some (.int x) ∧ K x g')) {K13 : Nat → Int32 → Int32 → Int32 → Int32 → GH → Prop} {K143 : Nat → Int32 → Int32 → Int32 → Int32 → GH → Prop} (hK13 : ∀ (l0 : Nat) (l1 : Int32) (l2 : Int32) (l3 : Int32) (l4 : Int32) (g : GH), K13 l0 l1 l2 l3 l4 g → JW Γ E 13 [some (.ref l0), some (.int l1), some (.int l2), some (.int l3), some (.int l4), none, none] [] g) (hK143 : ∀ (l0 : Nat) (l2 : Int32) (l3 : Int32) (l4 : Int32) (l5 : Int32) (g : GH), K143 l0 l2 l3 l4 l5 g → JW Γ E 143 [some (.ref l0), none, some (.int l2), some (.int l3), some (.int l4), some (.int l5), none] [] g) (l0 : Nat) (l1 : Int32) (l2 : Int32) (l3 : Int32) (l4 : Int32) (g : GH) (h : B_PV_usualOf_13 Γ K13 K143 K l0 l1 l2 l3 l4 g) : JW Γ E 13 [some (.ref l0), some (.int l1), some (.int l2), some (.int l3), some (.int l4), none, none] [] g := by
  unfold B_PV_usualOf_13 at h
  refine j_iload hE (by decide +kernel : decode cX10_usualOf 13 = .ok (.iload 4, 2)) rfl ?_
  refine j_aload_n hE (by decide +kernel : decode cX10_usualOf 15 = .ok (.aload_n 0, 1)) rfl rfl ?_
  obtain ⟨hk, h⟩ := h
  obtain ⟨a1, ha, h⟩ := h
  refine j_getRn hE fg_X10_16 hk ha (by decide +kernel : decode cX10_usualOf 16 = .ok (.getfield 16, 3)) ?_
  obtain ⟨hk, h⟩ := h
  obtain ⟨a2, ha, h⟩ := h
  refine j_getRn hE fg_X10_124 hk ha (by decide +kernel : decode cX10_usualOf 19 = .ok (.getfield 124, 3)) ?_
  obtain ⟨hk, h⟩ := h
  refine j_callV hE rfl cl_X10_84 cf_0 im_Jx4a65c_size_8abf5 se_Jx4a65c_size_8abf5 ⟨by omega, by omega⟩ (As := []) (rest := [.int l4]) rfl rfl (Nat.le_of_ble_eq_true rfl) hk (by decide +kernel : decode cX10_usualOf 22 = .ok (.invokevirtual 84, 3)) (mt_AL_size _ _ _ h) ?_
  rintro _ g3 ⟨x4, rfl, h⟩
  refine j_icmp_ge hE (by decide +kernel : decode cX10_usualOf 25 = .ok (.if_icmp .ge 101, 3)) (tgt := 126) (by decide) (fun q => ?_) (fun q => ?_)
  · replace h := h.1 q
    refine j_iload_n hE (by decide +kernel : decode cX10_usualOf 126 = .ok (.iload_n 3, 1)) rfl rfl ?_
    refine j_aload_n hE (by decide +kernel : decode cX10_usualOf 127 = .ok (.aload_n 0, 1)) rfl rfl ?_
    obtain ⟨hk, h⟩ := h
    refine j_getI hE fg_X10_9 hk (by decide +kernel : decode cX10_usualOf 128 = .ok (.getfield 9, 3)) ?_
    refine j_icmp_ge hE (by decide +kernel : decode cX10_usualOf 131 = .ok (.if_icmp .ge 6, 3)) (tgt := 137) (by decide) (fun q => ?_) (fun q => ?_)
    · replace h := h.1 q
      refine j_iconst hE (by decide +kernel : decode cX10_usualOf 137 = .ok (.iconst 0, 1)) (v := (0 : Int32)) (by decide) ?_
      refine j_istore hE (by decide +kernel : decode cX10_usualOf 138 = .ok (.istore 4, 2)) (Nat.le_of_ble_eq_true rfl) rfl ?_
      refine j_iconst hE (by decide +kernel : decode cX10_usualOf 140 = .ok (.iconst 0, 1)) (v := (0 : Int32)) (by decide) ?_
      refine j_istore hE (by decide +kernel : decode cX10_usualOf 141 = .ok (.istore 5, 2)) (Nat.le_of_ble_eq_true rfl) rfl ?_
      refine j_weak [some (.ref l0), none, some (.int l2), some (.int l3), some (.int (0 : Int32)), some (.int (0 : Int32)), none] ⟨rfl, ⟨rfl, ⟨rfl, ⟨rfl, ⟨rfl, trivial⟩⟩⟩⟩⟩ ?_
      exact hK143 _ _ _ _ _ _ h
    · replace h := h.2 q
      refine j_bipush hE (by decide +kernel : decode cX10_usualOf 134 = .ok (.bipush (-2), 2)) (v := (-2 : Int32)) (by decide) ?_
      exact j_iret hE (by decide +kernel : decode cX10_usualOf 136 = .ok (.ireturn, 1)) ⟨_, rfl, h⟩
  · replace h := h.2 q
    refine j_aload_n hE (by decide +kernel : decode cX10_usualOf 28 = .ok (.aload_n 0, 1)) rfl rfl ?_
    obtain ⟨hk, h⟩ := h
    obtain ⟨a5, ha, h⟩ := h
    refine j_getRn hE fg_X10_16 hk ha (by decide +kernel : decode cX10_usualOf 29 = .ok (.getfield 16, 3)) ?_
    obtain ⟨hk, h⟩ := h
    obtain ⟨a6, ha, h⟩ := h
    refine j_getRn hE fg_X10_124 hk ha (by decide +kernel : decode cX10_usualOf 32 = .ok (.getfield 124, 3)) ?_
    refine j_iload hE (by decide +kernel : decode cX10_usualOf 35 = .ok (.iload 4, 2)) rfl ?_
    obtain ⟨hk, h⟩ := h
    refine j_callV hE rfl cl_X10_147 cf_0 im_Jx4a65c_get_915e3 se_Jx4a65c_get_915e3 ⟨by omega, by omega⟩ (As := [.int l4]) (rest := []) rfl rfl (Nat.le_of_ble_eq_true rfl) hk (by decide +kernel : decode cX10_usualOf 37 = .ok (.invokevirtual 147, 3)) (mt_AL_get _ _ _ _ h) ?_
    rintro _ g7 ⟨a8, rfl, h⟩
    obtain ⟨hk, h⟩ := h
    refine j_cast hE cf_1 ck_X10_127 hk (by decide +kernel : decode cX10_usualOf 40 = .ok (.checkcast 127, 3)) ?_
    refine j_astore hE (by decide +kernel : decode cX10_usualOf 43 = .ok (.astore 5, 2)) (Nat.le_of_ble_eq_true rfl) rfl ?_
    refine j_aload hE (by decide +kernel : decode cX10_usualOf 45 = .ok (.aload 5, 2)) rfl ?_
    obtain ⟨hk, h⟩ := h
    obtain ⟨a9, ha, h⟩ := h
    refine j_getRn hE fg_X10_313 hk ha (by decide +kernel : decode cX10_usualOf 47 = .ok (.getfield 313, 3)) ?_
    obtain ⟨hk, h⟩ := h
    refine j_getI hE fg_X10_317 hk (by decide +kernel : decode cX10_usualOf 50 = .ok (.getfield 317, 3)) ?_
    refine j_iload_n hE (by decide +kernel : decode cX10_usualOf 53 = .ok (.iload_n 1, 1)) rfl rfl ?_
    refine j_icmp_ne hE (by decide +kernel : decode cX10_usualOf 54 = .ok (.if_icmp .ne 66, 3)) (tgt := 120) (by decide) (fun q => ?_) (fun q => ?_)
    · replace h := h.1 q
      refine j_weak [some (.ref l0), some (.int l1), some (.int l2), some (.int l3), some (.int l4), none, none] ⟨rfl, ⟨rfl, ⟨rfl, ⟨rfl, ⟨rfl, trivial⟩⟩⟩⟩⟩ ?_
      exact S_PV_usualOf_120 hE hK13 hK143 _ _ _ _ _ _ h
    · replace h := h.2 q
      refine j_aload_n hE (by decide +kernel : decode cX10_usualOf 57 = .ok (.aload_n 0, 1)) rfl rfl ?_
      obtain ⟨hk, h⟩ := h
      obtain ⟨a10, ha, h⟩ := h
      refine j_getRn hE fg_X10_16 hk ha (by decide +kernel : decode cX10_usualOf 58 = .ok (.getfield 16, 3)) ?_
      refine j_aload hE (by decide +kernel : decode cX10_usualOf 61 = .ok (.aload 5, 2)) rfl ?_
      refine j_aload_n hE (by decide +kernel : decode cX10_usualOf 63 = .ok (.aload_n 0, 1)) rfl rfl ?_
      obtain ⟨hk, h⟩ := h
      refine j_getI hE fg_X10_68 hk (by decide +kernel : decode cX10_usualOf 64 = .ok (.getfield 68, 3)) ?_
      obtain ⟨hk, h⟩ := h
      refine j_callV hE rfl cl_X10_372 cf_5 im_X4_settle se_X4_settle ⟨by omega, by omega⟩ (As := [.ref a8, .int (Gi g7 1408 l0)]) (rest := []) rfl rfl (Nat.le_of_ble_eq_true rfl) hk (by decide +kernel : decode cX10_usualOf 67 = .ok (.invokevirtual 372, 3)) (mt_Po_settle _ _ _ _ _ h) ?_
      rintro _ g11 ⟨rfl, h⟩
      refine j_iconst hE (by decide +kernel : decode cX10_usualOf 70 = .ok (.iconst 0, 1)) (v := (0 : Int32)) (by decide) ?_
      refine j_aload hE (by decide +kernel : decode cX10_usualOf 71 = .ok (.aload 5, 2)) rfl ?_
      obtain ⟨hk, h⟩ := h
      refine j_getI hE fg_X10_376 hk (by decide +kernel : decode cX10_usualOf 73 = .ok (.getfield 376, 3)) ?_
      refine j_aload hE (by decide +kernel : decode cX10_usualOf 76 = .ok (.aload 5, 2)) rfl ?_
      obtain ⟨hk, h⟩ := h
      refine j_getI hE fg_X10_320 hk (by decide +kernel : decode cX10_usualOf 78 = .ok (.getfield 320, 3)) ?_
      refine j_isub hE (by decide +kernel : decode cX10_usualOf 81 = .ok (.isub, 1)) ?_
      refine j_mmax hE rfl ml_X10_285 st_J9_max_7cf53 in_Math co_J9_max_7cf53 (Nat.le_of_ble_eq_true rfl) (by omega) (by omega) (by decide +kernel : decode cX10_usualOf 82 = .ok (.invokestatic 285, 3)) ?_
      obtain ⟨x12, hx⟩ : ∃ z, z = (if (0 : Int32) < ((Gi g11 137 a8) - (Gi g11 130 a8)) then ((Gi g11 137 a8) - (Gi g11 130 a8)) else (0 : Int32)) := ⟨_, rfl⟩; replace h := h x12 hx; rw [← hx]
      refine j_istore hE (by decide +kernel : decode cX10_usualOf 85 = .ok (.istore 6, 2)) (Nat.le_of_ble_eq_true rfl) rfl ?_
      refine j_aload hE (by decide +kernel : decode cX10_usualOf 87 = .ok (.aload 5, 2)) rfl ?_
      obtain ⟨hk, h⟩ := h
      refine j_getI hE fg_X10_376 hk (by decide +kernel : decode cX10_usualOf 89 = .ok (.getfield 376, 3)) ?_
      refine j_iconst hE (by decide +kernel : decode cX10_usualOf 92 = .ok (.iconst (-1), 1)) (v := (-1 : Int32)) (by decide) ?_
      refine j_icmp_eq hE (by decide +kernel : decode cX10_usualOf 93 = .ok (.if_icmp .eq 27, 3)) (tgt := 120) (by decide) (fun q => ?_) (fun q => ?_)
      · replace h := h.1 q
        refine j_weak [some (.ref l0), some (.int l1), some (.int l2), some (.int l3), some (.int l4), none, none] ⟨rfl, ⟨rfl, ⟨rfl, ⟨rfl, ⟨rfl, trivial⟩⟩⟩⟩⟩ ?_
        exact S_PV_usualOf_120 hE hK13 hK143 _ _ _ _ _ _ h
      · replace h := h.2 q
        refine j_iload hE (by decide +kernel : decode cX10_usualOf 96 = .ok (.iload 6, 2)) rfl ?_
        refine j_aload_n hE (by decide +kernel : decode cX10_usualOf 98 = .ok (.aload_n 0, 1)) rfl rfl ?_
        obtain ⟨hk, h⟩ := h
        obtain ⟨a13, ha, h⟩ := h
        refine j_getRn hE fg_X10_52 hk ha (by decide +kernel : decode cX10_usualOf 99 = .ok (.getfield 52, 3)) ?_
        obtain ⟨hk, h⟩ := h
        refine j_alen hE hk (by decide +kernel : decode cX10_usualOf 102 = .ok (.arraylength, 1)) ?_
        refine j_icmp_ge hE (by decide +kernel : decode cX10_usualOf 103 = .ok (.if_icmp .ge 17, 3)) (tgt := 120) (by decide) (fun q => ?_) (fun q => ?_)
        · replace h := h.1 q
          refine j_weak [some (.ref l0), some (.int l1), some (.int l2), some (.int l3), some (.int l4), none, none] ⟨rfl, ⟨rfl, ⟨rfl, ⟨rfl, ⟨rfl, trivial⟩⟩⟩⟩⟩ ?_
          exact S_PV_usualOf_120 hE hK13 hK143 _ _ _ _ _ _ h
        · replace h := h.2 q
          refine j_aload_n hE (by decide +kernel : decode cX10_usualOf 106 = .ok (.aload_n 0, 1)) rfl rfl ?_
          obtain ⟨hk, h⟩ := h
          obtain ⟨a14, ha, h⟩ := h
          refine j_getRn hE fg_X10_52 hk ha (by decide +kernel : decode cX10_usualOf 107 = .ok (.getfield 52, 3)) ?_
          refine j_iload hE (by decide +kernel : decode cX10_usualOf 110 = .ok (.iload 6, 2)) rfl ?_
          refine j_dup2 hE (by decide +kernel : decode cX10_usualOf 112 = .ok (.dup2, 1)) rfl rfl ?_
          obtain ⟨hk, hb, h⟩ := h
          refine j_iald hE hk hb (by decide +kernel : decode cX10_usualOf 113 = .ok (.iaload, 1)) ?_
          refine j_iconst hE (by decide +kernel : decode cX10_usualOf 114 = .ok (.iconst 1, 1)) (v := (1 : Int32)) (by decide) ?_
          refine j_iadd hE (by decide +kernel : decode cX10_usualOf 115 = .ok (.iadd, 1)) ?_
          obtain ⟨hk, hb, h⟩ := h
          obtain ⟨g15, hg⟩ : ∃ z, z = sA g11 (Co g11 a14) (Ow g11 a14) x12.toNatClampNeg ((Ia g11 (Co g11 a14) (Ow g11 a14) x12.toNatClampNeg) + (1 : Int32)) := ⟨_, rfl⟩; replace h := h g15 hg
          refine j_iast hE hk hb (by decide +kernel : decode cX10_usualOf 116 = .ok (.iastore, 1)) ?_
          rw [← hg]
          refine j_iinc hE (by decide +kernel : decode cX10_usualOf 117 = .ok (.iinc 3 1, 3)) (v := (1 : Int32)) (by decide) rfl (Nat.le_of_ble_eq_true rfl) rfl ?_
          refine j_weak [some (.ref l0), some (.int l1), some (.int l2), some (.int (l3 + (1 : Int32))), some (.int l4), none, none] ⟨rfl, ⟨rfl, ⟨rfl, ⟨rfl, ⟨rfl, trivial⟩⟩⟩⟩⟩ ?_
          exact S_PV_usualOf_120 hE hK13 hK143 _ _ _ _ _ _ h
set_option maxRecDepth 100000 in
def B_PV_usualOf_0 (Γ : GAM) (K13 : Nat → Int32 → Int32 → Int32 → Int32 → GH → Prop) (K143 : Nat → Int32 → Int32 → Int32 → Int32 → GH → Prop) (K : Int32 → GH → Prop) (th : Nat) (p0 : Int32) (p1 : Int32) (g : GH) : Prop :=
  Kd g th = 12 ∧ ∃ a1 : Nat, Gr g 1416 th = some a1 ∧ Sp_Arrays_fill Γ a1 (0 : Int32) g (fun (g2 : GH) => K13 th p0 p1 (0 : Int32) (0 : Int32) g2)
set_option maxHeartbeats 4000000 in
set_option maxRecDepth 100000 in
theorem S_PV_usualOf_0 {Γ : GAM} {E : EV} {K : Int32 → GH → Prop} (hE : GE Γ E cX10_usualOf 7 RX10 (some (.int)) 5 116 (fun r g' => ∃ x, r = some (.int x) ∧ K x g')) {K13 : Nat → Int32 → Int32 → Int32 → Int32 → GH → Prop} {K143 : Nat → Int32 → Int32 → Int32 → Int32 → GH → Prop} (hK13 : ∀ (l0 : Nat) (l1 : Int32) (l2 : Int32) (l3 : Int32) (l4 : Int32) (g : GH), K13 l0 l1 l2 l3 l4 g → JW Γ E 13 [some (.ref l0), some (.int l1), some (.int l2), some (.int l3), some (.int l4), none, none] [] g) (hK143 : ∀ (l0 : Nat) (l2 : Int32) (l3 : Int32) (l4 : Int32) (l5 : Int32) (g : GH), K143 l0 l2 l3 l4 l5 g → JW Γ E 143 [some (.ref l0), none, some (.int l2), some (.int l3), some (.int l4), some (.int l5), none] [] g) (th : Nat) (p0 : Int32) (p1 : Int32) (g : GH) (h : B_PV_usualOf_0 Γ K13 K143 K th p0 p1 g) : JW Γ E 0 [some (.ref th), some (.int p0), some (.int p1), none, none, none, none] [] g := by
  unfold B_PV_usualOf_0 at h
  refine j_aload_n hE (by decide +kernel : decode cX10_usualOf 0 = .ok (.aload_n 0, 1)) rfl rfl ?_
  obtain ⟨hk, h⟩ := h
  obtain ⟨a1, ha, h⟩ := h
  refine j_getRn hE fg_X10_52 hk ha (by decide +kernel : decode cX10_usualOf 1 = .ok (.getfield 52, 3)) ?_
  refine j_iconst hE (by decide +kernel : decode cX10_usualOf 4 = .ok (.iconst 0, 1)) (v := (0 : Int32)) (by decide) ?_
  refine j_callS hE rfl cl_X10_58 st_J7_fill_53178 ⟨by omega, by omega⟩ (As := [.ref a1, .int (0 : Int32)]) (rest := []) rfl rfl (Nat.le_of_ble_eq_true rfl) (by decide +kernel : decode cX10_usualOf 5 = .ok (.invokestatic 58, 3)) (mt_Arrays_fill _ _ _ _ h) ?_
  rintro _ g2 ⟨rfl, h⟩
  refine j_iconst hE (by decide +kernel : decode cX10_usualOf 8 = .ok (.iconst 0, 1)) (v := (0 : Int32)) (by decide) ?_
  refine j_istore_n hE (by decide +kernel : decode cX10_usualOf 9 = .ok (.istore_n 3, 1)) rfl (Nat.le_of_ble_eq_true rfl) rfl ?_
  refine j_iconst hE (by decide +kernel : decode cX10_usualOf 10 = .ok (.iconst 0, 1)) (v := (0 : Int32)) (by decide) ?_
  refine j_istore hE (by decide +kernel : decode cX10_usualOf 11 = .ok (.istore 4, 2)) (Nat.le_of_ble_eq_true rfl) rfl ?_
  exact hK13 _ _ _ _ _ _ h
set_option maxHeartbeats 4000000 in
set_option maxRecDepth 100000 in
theorem rl_PV_usualOf {Γ : GAM} {l : Launch} {th : Nat} {p0 : Int32} {p1 : Int32} {g : GH} {K : Int32 → GH → Prop} (I13 : Nat → Nat → Int32 → Int32 → Int32 → Int32 → GH → Prop) (I143 : Nat → Nat → Int32 → Int32 → Int32 → Int32 → GH → Prop) (hh13 : ∀ n (l0 : Nat) (l1 : Int32) (l2 : Int32) (l3 : Int32) (l4 : Int32) (g : GH), I13 n l0 l1 l2 l3 l4 g → B_PV_usualOf_13 Γ (fun l0 l1 l2 l3 l4 g => ∃ m, m < n ∧ I13 m l0 l1 l2 l3 l4 g) (fun l0 l2 l3 l4 l5 g => ∃ m, m < n ∧ I143 m l0 l2 l3 l4 l5 g) K l0 l1 l2 l3 l4 g) (hh143 : ∀ n (l0 : Nat) (l2 : Int32) (l3 : Int32) (l4 : Int32) (l5 : Int32) (g : GH), I143 n l0 l2 l3 l4 l5 g → B_PV_usualOf_143 Γ (fun l0 l1 l2 l3 l4 g => ∃ m, m < n ∧ I13 m l0 l1 l2 l3 l4 g) (fun l0 l2 l3 l4 l5 g => ∃ m, m < n ∧ I143 m l0 l2 l3 l4 l5 g) K l0 l2 l3 l4 l5 g) (h0 : B_PV_usualOf_0 Γ (fun l0 l1 l2 l3 l4 g => ∃ m, I13 m l0 l1 l2 l3 l4 g) (fun l0 l2 l3 l4 l5 g => ∃ m, I143 m l0 l2 l3 l4 l5 g) K th p0 p1 g) : MetA Γ l yX10_usualOf cX10_usualOf 7 (some (.int)) 5 116 [.ref th, .int p0, .int p1] g (fun r g' => ∃ x, r = some (.int x) ∧ K x g') := by
  refine MetA.introL (Lx := [some (.ref th), some (.int p0), some (.int p1), none, none, none, none]) (by decide) (Nat.le_of_ble_eq_true rfl) rfl rfl ?_
  intro E hEl hE hnm
  have hall : ∀ n, (∀ (l0 : Nat) (l1 : Int32) (l2 : Int32) (l3 : Int32) (l4 : Int32) (g : GH), I13 n l0 l1 l2 l3 l4 g → JW Γ E 13 [some (.ref l0), some (.int l1), some (.int l2), some (.int l3), some (.int l4), none, none] [] g) ∧ (∀ (l0 : Nat) (l2 : Int32) (l3 : Int32) (l4 : Int32) (l5 : Int32) (g : GH), I143 n l0 l2 l3 l4 l5 g → JW Γ E 143 [some (.ref l0), none, some (.int l2), some (.int l3), some (.int l4), some (.int l5), none] [] g) := by
    intro n
    induction n using Nat.strongRecOn with
    | ind n ih =>
      exact ⟨fun l0 l1 l2 l3 l4 g hi => S_PV_usualOf_13 hE (fun l0 l1 l2 l3 l4 g hm => by obtain ⟨m, hm, h⟩ := hm; exact (ih m hm).1 l0 l1 l2 l3 l4 g h) (fun l0 l2 l3 l4 l5 g hm => by obtain ⟨m, hm, h⟩ := hm; exact (ih m hm).2 l0 l2 l3 l4 l5 g h) l0 l1 l2 l3 l4 g (hh13 n l0 l1 l2 l3 l4 g hi), fun l0 l2 l3 l4 l5 g hi => S_PV_usualOf_143 hE (fun l0 l1 l2 l3 l4 g hm => by obtain ⟨m, hm, h⟩ := hm; exact (ih m hm).1 l0 l1 l2 l3 l4 g h) (fun l0 l2 l3 l4 l5 g hm => by obtain ⟨m, hm, h⟩ := hm; exact (ih m hm).2 l0 l2 l3 l4 l5 g h) l0 l2 l3 l4 l5 g (hh143 n l0 l2 l3 l4 l5 g hi)⟩
  exact S_PV_usualOf_0 hE (fun l0 l1 l2 l3 l4 g hm => by obtain ⟨m, h⟩ := hm; exact (hall m).1 l0 l1 l2 l3 l4 g h) (fun l0 l2 l3 l4 l5 g hm => by obtain ⟨m, h⟩ := hm; exact (hall m).2 l0 l2 l3 l4 l5 g h) th p0 p1 g h0
theorem mt_PV_usualOf {Γ : GAM} {l : Launch} (th : Nat) (p0 : Int32) (p1 : Int32) (g : GH) (K : Int32 → GH → Prop) (h : Sp_PV_usualOf Γ th p0 p1 g K) : MetA Γ l yX10_usualOf cX10_usualOf 7 (some (.int)) 5 116 [.ref th, .int p0, .int p1] g (fun r g' => ∃ x, r = some (.int x) ∧ K x g') := by
  obtain ⟨C, s, rfl, hI, hW, hp, hK⟩ := h
  have he := hI.en
  have hlen := hW.len
  obtain ⟨hkd, ⟨h1, h2⟩, -, -, -, -, hnow, hsiz⟩ := hI.pk
  have hTb := fun k => sTk_b hW (st := p0) k
  have hTl : ∀ k, (sTk s p0 k).length ≤ k := fun k => by
    induction k with
    | zero => exact Nat.le_refl _
    | succ k ih =>
      cases hx : (s_env s)[k]? with
      | none =>
        have hl : (s_env s).length ≤ k := Classical.byContradiction (fun z => by
          obtain ⟨y, hy⟩ := get_lt (show k < (s_env s).length by omega)
          rw [hx] at hy; cases hy)
        have e : sTk s p0 (k + 1) = sTk s p0 k := by
          unfold sTk
          rw [List.take_of_length_le (by rw [List.length_zipIdx]; omega), List.take_of_length_le (by rw [List.length_zipIdx]; omega)]
        rw [e]; omega
      | some y =>
        have e : sTk s p0 (k + 1) = tkS s p0 (sTk s p0 k) (y, k) := by
          unfold sTk
          rw [fold_take _ _ _ (zip_get hx)]
        rw [e]
        unfold tkS
        split
        · rw [List.length_append]; simp only [List.length_cons, List.length_nil]; omega
        · omega
  obtain ⟨T, hT⟩ : ∃ T, T = sTk s p0 (s_env s).length := ⟨_, rfl⟩
  have hTlen : T.length ≤ 200 := by rw [hT]; have := hTl (s_env s).length; omega
  have hTbb : ∀ t ∈ T, 0 ≤ t ∧ t ≤ 400 := by rw [hT]; exact hTb _
  refine rl_PV_usualOf
    (fun n l0 l1 l2 l3 l4 g' => c_x C = l0 ∧ p0 = l1 ∧ p1 = l2 ∧ ∃ k, k ≤ (s_env s).length ∧ n = (s_env s).length - k + 1000 ∧ l4 = nI k ∧ l3 = nI (sTk s p0 k).length ∧ FU g g' ∧ ∀ d, d < 401 → Ia g' 1416 (c_x C) d = nI (ctL (sTk s p0 k) d))
    (fun n l0 l2 l3 l4 l5 g' => c_x C = l0 ∧ p1 = l2 ∧ l3 = nI T.length ∧ s_siz s ≤ nI T.length ∧ ∃ d, d ≤ 400 ∧ n = 401 - d ∧ l5 = nI d ∧ l4 = nI (ltL T d) ∧ FU g g' ∧ (∀ d, d < 401 → Ia g' 1416 (c_x C) d = nI (ctL T d)) ∧ usF T p1 401 0 = usF T p1 (401 - d) d) ?_ ?_ ?_
  · rintro n l0 l1 l2 l3 l4 g' ⟨rfl, rfl, rfl, k, hk, rfl, rfl, rfl, hF, htk⟩
    have hI' := hF.i hI
    have hP' := hI'.2.2.2.2.2.2.1
    obtain ⟨kkd, ⟨k1, k2⟩, -, -, -, -, know, ksiz⟩ := hI'.pk
    obtain ⟨⟨-, z2, z3, z4⟩, -⟩ := hP'.sz
    obtain ⟨a, a1, a2, a3, a4, a5⟩ := hI'.1.2.2.2.2.1.e
    have hof : Int32.ofNat (Ln g' a) = nI 401 := by rw [a5]; rfl
    suffices H : ∀ (K13 : Nat → Int32 → Int32 → Int32 → Int32 → GH → Prop) (K143 : Nat → Int32 → Int32 → Int32 → Int32 → GH → Prop),
        (∀ g2 y, (s_env s)[k]? = some y → FU g g2 → (∀ d, d < 401 → Ia g2 1416 (c_x C) d = nI (ctL (tkS s p0 (sTk s p0 k) (y, k)) d)) → K13 (c_x C) p0 p1 (nI (tkS s p0 (sTk s p0 k) (y, k)).length) (nI (k + 1)) g2) →
        (k = (s_env s).length → s_siz s ≤ nI T.length → K143 (c_x C) p1 (nI T.length) 0 0 g') → B_PV_usualOf_13 Γ K13 K143 K (c_x C) p0 p1 (nI (sTk s p0 k).length) (nI k) g' from by
      refine H _ _ (fun g2 y hy h1 h2 => ⟨(s_env s).length - (k + 1) + 1000, by have := (List.getElem?_eq_some_iff.mp hy).1; omega, rfl, rfl, rfl, k + 1, (List.getElem?_eq_some_iff.mp hy).1, rfl, rfl, ?_, h1, ?_⟩) (fun hkl hs => ⟨401 - 0, by omega, rfl, rfl, rfl, hs, 0, by omega, rfl, nj_0, ?_, hF, ?_, rfl⟩)
      · unfold sTk; rw [fold_take _ _ _ (zip_get hy)]
      · have e : sTk s p0 (k + 1) = tkS s p0 (sTk s p0 k) (y, k) := by unfold sTk; rw [fold_take _ _ _ (zip_get hy)]
        rw [e]; exact h2
      · have : ltL T 0 = 0 := by unfold ltL; rw [List.filter_eq_nil_iff.mpr (fun t _ => by simp)]; rfl
        rw [this]; rfl
      · rw [hT, ← hkl]; exact htk
    intro K13 K143 hn hend
    unfold B_PV_usualOf_13 B_PV_usualOf_120
    refine ⟨kkd, _, k1, k2, _, z2, z3, hP'.esz ?_⟩
    rw [nj_le (by omega) (by omega)]
    refine ⟨fun u => ⟨kkd, ?_⟩, fun u => ⟨kkd, _, k1, k2, _, z2, z3, hP'.eget (by omega) (fun x hx hE => ?_)⟩⟩
    · have hkl : k = (s_env s).length := by omega
      have hTk : sTk s p0 k = T := by rw [hkl, hT]
      rw [ksiz, hTk]
      refine ⟨fun u2 => hend hkl u2, fun u2 => ?_⟩
      have hr := hK g' hF
      unfold sUs at hr
      rw [← hT, if_neg u2] at hr
      exact hr
    · have hlt : k < (s_env s).length := by omega
      obtain ⟨y, w, L, y1, w1, hEB, -, -⟩ := hE
      obtain ⟨⟨x1, x2⟩, ⟨w2, w3, w4⟩, ⟨_, hsent, _, _⟩, -⟩ := id hEB
      obtain ⟨z, Lv, zz1, hVO, -, -⟩ := hP'.2.2.2.1.2.2.1 _ w w1
      have hst : Gi g' 1281 w = (sVoter s y.1).2.1 := by
        rw [hVO.2.1.2.1]; unfold sVoter; rw [zz1]; rfl
      have hn2 := fun g2 => hn g2 y y1
      have hTs : sTk s p0 (k + 1) = tkS s p0 (sTk s p0 k) (y, k) := by unfold sTk; rw [fold_take _ _ _ (zip_get y1)]
      have hTb1 := hTb (k + 1)
      rw [hTs] at hTb1
      unfold tkS at hn2 hTb1
      simp only at hn2 hTb1
      refine ⟨x2, x2, w, w4, w3, ?_⟩
      rw [hst, nj_s]
      refine ⟨fun u1 => ?_, fun u1 => ⟨kkd, _, k1, kkd, k2, c_D C, s, k, rfl, hP', hW, hx, fun g11 hx11 hENV hECM _ => ?_⟩⟩
      · have := hn2 g' hF (by rw [if_neg (fun q => u1 q.1)]; exact htk)
        rw [if_neg (fun q => u1 q.1)] at this
        exact this
      · rw [know] at hENV hECM
        have hF11 := hF.tr (FU.x hx11 hP'.1.1 (by decide) (by decide))
        have hI11 := hF11.i hI
        have k11 : Kd g11 x = 2 := by rw [hx11.1.2.2.2.2.2.1]; exact x2
        have hs11 : Gi g11 130 x = y.2.1 := by rw [hx11.2.1 _ (by decide)]; exact hsent
        have ht11 : ∀ d, d < 401 → Ia g11 1416 (c_x C) d = nI (ctL (sTk s p0 k) d) := fun d hd => by
          have : c_x C ≠ x := fun q => by rw [q] at kkd; omega
          rw [hx11.1.2.2.1 _ _ this]; exact htk d hd
        refine ⟨k11, k11, ?_⟩
        rw [hECM.1, hs11]
        rintro x12 hx12
        have hv : x12 = tkV s (y, k) := hx12
        refine ⟨k11, fun u2 => ?_, fun u2 => ?_⟩
        · have := hn2 g11 hF11 (by rw [if_neg (fun q => q.2 u2)]; exact ht11)
          rw [if_neg (fun q => q.2 u2)] at this
          exact this
        · have hb := hTb1 (tkV s (y, k)) (by rw [if_pos ⟨u1, u2⟩]; exact List.mem_append_right _ (List.mem_singleton.mpr rfl))
          have hnn := nj_of hb.1
          have hle : (tkV s (y, k)).toNatClampNeg ≤ 400 := by
            have h2 := hb.2
            rw [hnn.1] at h2
            exact (nj_le (b := 400) hnn.2 (by omega)).mp h2
          obtain ⟨v, hvv⟩ : ∃ v, v = (tkV s (y, k)).toNatClampNeg := ⟨_, rfl⟩
          rw [← hvv] at hnn hle
          obtain ⟨b, b1, b2, b3, b4, b5⟩ := hI11.1.2.2.2.2.1.e
          have hof' : Int32.ofNat (Ln g11 b) = nI 401 := by rw [b5]; rfl
          have kd11 := hI11.pk.1
          rw [hv, hnn.1]
          refine ⟨kd11, b, b1, ⟨by omega, by omega⟩, ?_⟩
          rw [hof', nj_le (by omega) (by omega)]
          refine ⟨fun q => absurd q (by omega), fun _ => ⟨kd11, b, b1, b2, by rw [b5]; exact inB_nI (by omega) (by omega), b2, by rw [b5]; exact inB_nI (by omega) (by omega), ?_⟩⟩
          rw [b3, b4, nj_cl (by omega), ht11 v (by omega), nj_s]
          rintro g15 hg15
          have hx15 : FrX (c_x C) [] [1416] g11 g15 := by rw [hg15]; exact FrX.sA (by decide)
          have hF15 := hF11.tr (FU.x hx15 hI11.en (by simp) (by decide))
          have := hn2 g15 hF15 (fun d hd => ?_)
          · rw [if_pos ⟨u1, u2⟩, List.length_append] at this
            rw [nj_s]; exact this
          · rw [if_pos ⟨u1, u2⟩, ctL_push, hg15, Ia_sA, hnn.1]
            by_cases q : d = v
            · rw [if_pos ⟨rfl, rfl, q⟩, if_pos (by rw [q]), q]
            · rw [if_neg (fun q2 => q q2.2.2), if_neg (fun q2 => q ((nj_eq (by omega) (by omega)).mp q2).symm), Nat.add_zero]
              exact ht11 d hd
  · rintro n l0 l2 l3 l4 l5 g' ⟨rfl, rfl, rfl, hs, d, hd, rfl, rfl, rfl, hF, htk, hus⟩
    have hI' := hF.i hI
    obtain ⟨kkd, -⟩ := hI'.pk
    obtain ⟨a, a1, a2, a3, a4, a5⟩ := hI'.1.2.2.2.2.1.e
    have hof : Int32.ofNat (Ln g' a) = nI 401 := by rw [a5]; rfl
    have hl1 := ltL_le T (d + 1)
    suffices H : ∀ (K13 : Nat → Int32 → Int32 → Int32 → Int32 → GH → Prop) (K143 : Nat → Int32 → Int32 → Int32 → Int32 → GH → Prop),
        (d + 1 ≤ 400 → usF T p1 401 0 = usF T p1 (401 - (d + 1)) (d + 1) → K143 (c_x C) p1 (nI T.length) (nI (ltL T (d + 1))) (nI (d + 1)) g') → B_PV_usualOf_143 Γ K13 K143 K (c_x C) p1 (nI T.length) (nI (ltL T d)) (nI d) g' from
      H _ _ (fun h1 h2 => ⟨401 - (d + 1), by omega, rfl, rfl, rfl, hs, d + 1, h1, rfl, rfl, rfl, hF, htk, h2⟩)
    intro K13 K143 hn
    unfold B_PV_usualOf_143
    refine ⟨kkd, a, a1, ⟨by omega, by omega⟩, ?_⟩
    rw [hof, nj_le (by omega) (by omega)]
    refine ⟨fun q => absurd q (by omega), fun _ => ⟨kkd, a, a1, a2, by rw [a5]; exact inB_nI (by omega) (by omega), ?_⟩⟩
    rw [a3, a4, nj_cl (by omega), htk d (by omega), nI_add, ← ltL_s hTbb hd, nj_s]
    rintro _ rfl
    have e1 : nI (ltL T (d + 1)) * 1000 = 1000 * cntD T d T.length := by rw [cntD_lt hTbb hd, Int32.mul_comm]
    have hstep : usF T p1 (401 - d) d = if 1000 * cntD T d T.length < p1 * nI T.length then usF T p1 (401 - (d + 1)) (d + 1) else nI d := by
      rw [show 401 - d = (401 - (d + 1)) + 1 by omega]; rfl
    rw [e1]
    refine ⟨fun u => ?_, fun u => ?_⟩
    · rw [if_pos u] at hstep
      refine hn (Classical.byContradiction (fun q => ?_)) (hus.trans hstep)
      have hd4 : d = 400 := by omega
      have hall : cntD T d T.length = nI T.length := by
        have := cnt_all (d := d) T 0 (fun t ht => by
          have hb := hTbb t ht
          rw [hd4]
          exact Int32.not_lt.mpr hb.2)
        rw [Nat.zero_add] at this
        unfold cntD
        rw [List.take_length]
        exact this
      rw [hall] at u
      exact us_end hp.1 hp.2 hTlen u
    · rw [if_neg u] at hstep
      have hr := hK g' hF
      unfold sUs at hr
      rw [← hT, if_pos hs, hus, hstep] at hr
      exact hr
  · unfold B_PV_usualOf_0
    obtain ⟨a, a1, a2, a3, a4, a5⟩ := hI.1.2.2.2.2.1.e
    refine ⟨hkd, a, a1, a2, by rw [a5]; decide, ?_⟩
    rw [a3, a4, a5]
    refine ⟨_, rfl, rfl, rfl, 0, Nat.zero_le _, rfl, nj_0, rfl, FU.x (FrX.sAf' (m := c_x C) (fs := []) (cs := [1416]) (by decide)) he (by simp) (by decide), fun d hd => ?_⟩
    rw [Ia_sAf, if_pos ⟨rfl, rfl⟩, if_pos hd]; rfl
def Sp_PV_usual (Γ : GAM) (x : Nat) (p0 p1 : Int32) (g : GH) (K : Int32 → GH → Prop) : Prop := PVC Γ x g K (fun s => p_usual s p0 p1) (fun s => s)
-- the walk of PV_usual
set_option maxRecDepth 100000 in
def B_PV_usual_18 (Γ : GAM) (K : Int32 → GH → Prop)  (g : GH) : Prop :=
  K (-1 : Int32) g
set_option maxHeartbeats 4000000 in
set_option maxRecDepth 100000 in
theorem S_PV_usual_18 {Γ : GAM} {E : EV} {K : Int32 → GH → Prop} (hE : GE Γ E cX10_usual 3 RX10 (some (.int)) 6 142 (fun r g' => ∃ x, r = some (.int x) ∧ K x g'))  (g : GH) (h : B_PV_usual_18 Γ K  g) : JW Γ E 18 [none, none, none] [] g := by
  unfold B_PV_usual_18 at h
  refine j_iconst hE (by decide +kernel : decode cX10_usual 18 = .ok (.iconst (-1), 1)) (v := (-1 : Int32)) (by decide) ?_
  exact j_iret hE (by decide +kernel : decode cX10_usual 19 = .ok (.ireturn, 1)) ⟨_, rfl, h⟩
set_option maxRecDepth 100000 in
def B_PV_usual_0 (Γ : GAM) (K : Int32 → GH → Prop) (th : Nat) (p0 : Int32) (p1 : Int32) (g : GH) : Prop :=
  Sp_PV_isStreet Γ p0 g (fun (x2 : Int32) (g1 : GH) => ((x2 = 0 → B_PV_usual_18 Γ K g1) ∧ (¬ (x2 = 0) → Sp_PV_isWithin Γ p1 (1 : Int32) (1000 : Int32) g1 (fun (x4 : Int32) (g3 : GH) => ((¬ (x4 = 0) → Kd g3 th = 12 ∧ Sp_PV_usualOf Γ th p0 p1 g3 (fun (x6 : Int32) (g5 : GH) => K x6 g5)) ∧ (x4 = 0 → B_PV_usual_18 Γ K g3))))))
set_option maxHeartbeats 4000000 in
set_option maxRecDepth 100000 in
theorem S_PV_usual_0 {Γ : GAM} {E : EV} {K : Int32 → GH → Prop} (hE : GE Γ E cX10_usual 3 RX10 (some (.int)) 6 142 (fun r g' => ∃ x, r = some (.int x) ∧ K x g')) (th : Nat) (p0 : Int32) (p1 : Int32) (g : GH) (h : B_PV_usual_0 Γ K th p0 p1 g) : JW Γ E 0 [some (.ref th), some (.int p0), some (.int p1)] [] g := by
  unfold B_PV_usual_0 at h
  refine j_iload_n hE (by decide +kernel : decode cX10_usual 0 = .ok (.iload_n 1, 1)) rfl rfl ?_
  refine j_callS hE rfl cl_X10_75 st_X10_isStreet ⟨by omega, by omega⟩ (As := [.int p0]) (rest := []) rfl rfl (Nat.le_of_ble_eq_true rfl) (by decide +kernel : decode cX10_usual 1 = .ok (.invokestatic 75, 3)) (mt_PV_isStreet _ _ _ h) ?_
  rintro _ g1 ⟨x2, rfl, h⟩
  refine j_if_eq hE (by decide +kernel : decode cX10_usual 4 = .ok (.ifCond .eq 14, 3)) (tgt := 18) (by decide) (fun q => ?_) (fun q => ?_)
  · replace h := h.1 q
    refine j_weak [none, none, none] trivial ?_
    exact S_PV_usual_18 hE _ h
  · replace h := h.2 q
    refine j_iload_n hE (by decide +kernel : decode cX10_usual 7 = .ok (.iload_n 2, 1)) rfl rfl ?_
    refine j_iconst hE (by decide +kernel : decode cX10_usual 8 = .ok (.iconst 1, 1)) (v := (1 : Int32)) (by decide) ?_
    refine j_sipush hE (by decide +kernel : decode cX10_usual 9 = .ok (.sipush 1000, 3)) (v := (1000 : Int32)) (by decide) ?_
    refine j_callS hE rfl cl_X10_64 st_X10_isWithin ⟨by omega, by omega⟩ (As := [.int p1, .int (1 : Int32), .int (1000 : Int32)]) (rest := []) rfl rfl (Nat.le_of_ble_eq_true rfl) (by decide +kernel : decode cX10_usual 12 = .ok (.invokestatic 64, 3)) (mt_PV_isWithin _ _ _ _ _ h) ?_
    rintro _ g3 ⟨x4, rfl, h⟩
    refine j_if_ne hE (by decide +kernel : decode cX10_usual 15 = .ok (.ifCond .ne 5, 3)) (tgt := 20) (by decide) (fun q => ?_) (fun q => ?_)
    · replace h := h.1 q
      refine j_aload_n hE (by decide +kernel : decode cX10_usual 20 = .ok (.aload_n 0, 1)) rfl rfl ?_
      refine j_iload_n hE (by decide +kernel : decode cX10_usual 21 = .ok (.iload_n 1, 1)) rfl rfl ?_
      refine j_iload_n hE (by decide +kernel : decode cX10_usual 22 = .ok (.iload_n 2, 1)) rfl rfl ?_
      obtain ⟨hk, h⟩ := h
      refine j_callV hE rfl cl_X10_310 cf_11 im_X10_usualOf se_X10_usualOf ⟨by omega, by omega⟩ (As := [.int p0, .int p1]) (rest := []) rfl rfl (Nat.le_of_ble_eq_true rfl) hk (by decide +kernel : decode cX10_usual 23 = .ok (.invokevirtual 310, 3)) (mt_PV_usualOf _ _ _ _ _ h) ?_
      rintro _ g5 ⟨x6, rfl, h⟩
      exact j_iret hE (by decide +kernel : decode cX10_usual 26 = .ok (.ireturn, 1)) ⟨_, rfl, h⟩
    · replace h := h.2 q
      refine j_weak [none, none, none] trivial ?_
      exact S_PV_usual_18 hE _ h
set_option maxHeartbeats 4000000 in
set_option maxRecDepth 100000 in
theorem rl_PV_usual {Γ : GAM} {l : Launch} {th : Nat} {p0 : Int32} {p1 : Int32} {g : GH} {K : Int32 → GH → Prop} (h0 : B_PV_usual_0 Γ K th p0 p1 g) : MetA Γ l yX10_usual cX10_usual 3 (some (.int)) 6 142 [.ref th, .int p0, .int p1] g (fun r g' => ∃ x, r = some (.int x) ∧ K x g') := by
  refine MetA.introL (Lx := [some (.ref th), some (.int p0), some (.int p1)]) (by decide) (Nat.le_of_ble_eq_true rfl) rfl rfl ?_
  intro E hEl hE hnm
  exact S_PV_usual_0 hE th p0 p1 g h0
theorem mt_PV_usual {Γ : GAM} {l : Launch} (th : Nat) (p0 : Int32) (p1 : Int32) (g : GH) (K : Int32 → GH → Prop) (h : Sp_PV_usual Γ th p0 p1 g K) : MetA Γ l yX10_usual cX10_usual 3 (some (.int)) 6 142 [.ref th, .int p0, .int p1] g (fun r g' => ∃ x, r = some (.int x) ∧ K x g') := by
  obtain ⟨C, s, n, rfl, hI, hW, hR, hK⟩ := PVC.e h
  have he := hI.en
  obtain ⟨hkd, ⟨h1, h2⟩, -, -, -, -, hnow, hsiz⟩ := hI.pk
  have hP := hI.2.2.2.2.2.2.1
  have hlen := hW.len
  unfold p_usual at hK
  refine rl_PV_usual ?_
  have hno : ¬ ok_usual p0 p1 → K (-1) g := fun u => hK C g _ _ (if_neg u) rfl (FrC.rf he) rfl hI hR.dn
  unfold B_PV_usual_0 B_PV_usual_18
  refine pv_ite (fun u => hno (fun z => u z.1)) (fun u => pv_ite' (fun u2 => hno (fun z => u2 z.2)) (fun u2 => ⟨hkd, C, s, rfl, hI, hW, u2, fun g' hF => ?_⟩))
  exact hK C g' _ _ (if_pos ⟨u, u2⟩) rfl hF.c rfl (hF.i hI) (hR.dn.fu hF)
def Sp_PV_late (Γ : GAM) (x : Nat) (p0 : Int32) (g : GH) (K : Int32 → GH → Prop) : Prop := PVC Γ x g K (fun s => p_late s p0) (fun s => s)
-- the walk of PV_late
set_option maxRecDepth 100000 in
def B_PV_late_101 (Γ : GAM) (K : Int32 → GH → Prop) (s0 : Int32) (g : GH) : Prop :=
  K s0 g
set_option maxHeartbeats 4000000 in
set_option maxRecDepth 100000 in
theorem S_PV_late_101 {Γ : GAM} {E : EV} {K : Int32 → GH → Prop} (hE : GE Γ E cX10_late 6 RX10 (some (.int)) 10 399 (fun r g' => ∃ x, r = some (.int x) ∧ K x g')) (s0 : Int32) (g : GH) (h : B_PV_late_101 Γ K s0 g) : JW Γ E 101 [none, none, none, none, none, none] [.int s0] g := by
  unfold B_PV_late_101 at h
  exact j_iret hE (by decide +kernel : decode cX10_late 101 = .ok (.ireturn, 1)) ⟨_, rfl, h⟩
set_option maxRecDepth 100000 in
def B_PV_late_100 (Γ : GAM) (K : Int32 → GH → Prop)  (g : GH) : Prop :=
  B_PV_late_101 Γ K (0 : Int32) g
set_option maxHeartbeats 4000000 in
set_option maxRecDepth 100000 in
theorem S_PV_late_100 {Γ : GAM} {E : EV} {K : Int32 → GH → Prop} (hE : GE Γ E cX10_late 6 RX10 (some (.int)) 10 399 (fun r g' => ∃ x, r = some (.int x) ∧ K x g'))  (g : GH) (h : B_PV_late_100 Γ K  g) : JW Γ E 100 [none, none, none, none, none, none] [] g := by
  unfold B_PV_late_100 at h
  refine j_iconst hE (by decide +kernel : decode cX10_late 100 = .ok (.iconst 0, 1)) (v := (0 : Int32)) (by decide) ?_
  exact S_PV_late_101 hE _ _ h
set_option maxRecDepth 100000 in
def B_PV_late_57 (Γ : GAM) (K : Int32 → GH → Prop) (l0 : Nat) (l2 : Option Nat) (s0 : Int32) (g : GH) : Prop :=
  ∃ a1 : Nat, l2 = some a1 ∧ Kd g a1 = 2 ∧ ∃ a2 : Nat, Gr g 129 a1 = some a2 ∧ Kd g l0 = 12 ∧ Kd g l0 = 12 ∧ Kd g a2 = 11 ∧ Sp_Vo_shireOn Γ a2 (Gi g 1408 l0) (Gi g 1408 l0) g (fun (x4 : Int32) (g3 : GH) => Sp_PV_isShire Γ x4 g3 (fun (x6 : Int32) (g5 : GH) => ((x6 = 0 → B_PV_late_100 Γ K g5) ∧ (¬ (x6 = 0) → Kd g5 l0 = 12 ∧ ∃ a7 : Nat, Gr g5 1415 l0 = some a7 ∧ Kd g5 a7 = 20 ∧ inB x4 (Ln g5 a7) ∧ ((s0 ≤ (Ia g5 (Co g5 a7) (Ow g5 a7) x4.toNatClampNeg) → B_PV_late_100 Γ K g5) ∧ (¬ (s0 ≤ (Ia g5 (Co g5 a7) (Ow g5 a7) x4.toNatClampNeg)) → B_PV_late_101 Γ K (1 : Int32) g5))))))
set_option maxHeartbeats 4000000 in
set_option maxRecDepth 100000 in
theorem S_PV_late_57 {Γ : GAM} {E : EV} {K : Int32 → GH → Prop} (hE : GE Γ E cX10_late 6 RX10 (some (.int)) 10 399 (fun r g' => ∃ x, r = some (.int x) ∧ K x g')) (l0 : Nat) (l2 : Option Nat) (s0 : Int32) (g : GH) (h : B_PV_late_57 Γ K l0 l2 s0 g) : JW Γ E 57 [some (.ref l0), none, some (va_rf l2), none, none, none] [.int s0] g := by
  unfold B_PV_late_57 at h
  refine j_istore hE (by decide +kernel : decode cX10_late 57 = .ok (.istore 4, 2)) (Nat.le_of_ble_eq_true rfl) rfl ?_
  refine j_aload_nQ hE (by decide +kernel : decode cX10_late 59 = .ok (.aload_n 2, 1)) rfl rfl ?_
  obtain ⟨a1, ha, h⟩ := h
  subst ha
  obtain ⟨hk, h⟩ := h
  obtain ⟨a2, ha, h⟩ := h
  refine j_getRn hE fg_X10_313 hk ha (by decide +kernel : decode cX10_late 60 = .ok (.getfield 313, 3)) ?_
  refine j_aload_n hE (by decide +kernel : decode cX10_late 63 = .ok (.aload_n 0, 1)) rfl rfl ?_
  obtain ⟨hk, h⟩ := h
  refine j_getI hE fg_X10_68 hk (by decide +kernel : decode cX10_late 64 = .ok (.getfield 68, 3)) ?_
  refine j_aload_n hE (by decide +kernel : decode cX10_late 67 = .ok (.aload_n 0, 1)) rfl rfl ?_
  obtain ⟨hk, h⟩ := h
  refine j_getI hE fg_X10_68 hk (by decide +kernel : decode cX10_late 68 = .ok (.getfield 68, 3)) ?_
  obtain ⟨hk, h⟩ := h
  refine j_callV hE rfl cl_X10_117 cf_10 im_X9_shireOn se_X9_shireOn ⟨by omega, by omega⟩ (As := [.int (Gi g 1408 l0), .int (Gi g 1408 l0)]) (rest := []) rfl rfl (Nat.le_of_ble_eq_true rfl) hk (by decide +kernel : decode cX10_late 71 = .ok (.invokevirtual 117, 3)) (mt_Vo_shireOn _ _ _ _ _ h) ?_
  rintro _ g3 ⟨x4, rfl, h⟩
  refine j_istore hE (by decide +kernel : decode cX10_late 74 = .ok (.istore 5, 2)) (Nat.le_of_ble_eq_true rfl) rfl ?_
  refine j_iload hE (by decide +kernel : decode cX10_late 76 = .ok (.iload 5, 2)) rfl ?_
  refine j_callS hE rfl cl_X10_71 st_X10_isShire ⟨by omega, by omega⟩ (As := [.int x4]) (rest := []) rfl rfl (Nat.le_of_ble_eq_true rfl) (by decide +kernel : decode cX10_late 78 = .ok (.invokestatic 71, 3)) (mt_PV_isShire _ _ _ h) ?_
  rintro _ g5 ⟨x6, rfl, h⟩
  refine j_if_eq hE (by decide +kernel : decode cX10_late 81 = .ok (.ifCond .eq 19, 3)) (tgt := 100) (by decide) (fun q => ?_) (fun q => ?_)
  · replace h := h.1 q
    refine j_weak [none, none, none, none, none, none] trivial ?_
    exact S_PV_late_100 hE _ h
  · replace h := h.2 q
    refine j_iload hE (by decide +kernel : decode cX10_late 84 = .ok (.iload 4, 2)) rfl ?_
    refine j_aload_n hE (by decide +kernel : decode cX10_late 86 = .ok (.aload_n 0, 1)) rfl rfl ?_
    obtain ⟨hk, h⟩ := h
    obtain ⟨a7, ha, h⟩ := h
    refine j_getRn hE fg_X10_48 hk ha (by decide +kernel : decode cX10_late 87 = .ok (.getfield 48, 3)) ?_
    refine j_iload hE (by decide +kernel : decode cX10_late 90 = .ok (.iload 5, 2)) rfl ?_
    obtain ⟨hk, hb, h⟩ := h
    refine j_iald hE hk hb (by decide +kernel : decode cX10_late 92 = .ok (.iaload, 1)) ?_
    refine j_icmp_le hE (by decide +kernel : decode cX10_late 93 = .ok (.if_icmp .le 7, 3)) (tgt := 100) (by decide) (fun q => ?_) (fun q => ?_)
    · replace h := h.1 q
      refine j_weak [none, none, none, none, none, none] trivial ?_
      exact S_PV_late_100 hE _ h
    · replace h := h.2 q
      refine j_iconst hE (by decide +kernel : decode cX10_late 96 = .ok (.iconst 1, 1)) (v := (1 : Int32)) (by decide) ?_
      refine j_goto hE (by decide +kernel : decode cX10_late 97 = .ok (.goto 4, 3)) (tgt := 101) (by decide) ?_
      refine j_weak [none, none, none, none, none, none] trivial ?_
      exact S_PV_late_101 hE _ _ h
set_option maxRecDepth 100000 in
def B_PV_late_21 (Γ : GAM) (K : Int32 → GH → Prop)  (g : GH) : Prop :=
  K (-1 : Int32) g
set_option maxHeartbeats 4000000 in
set_option maxRecDepth 100000 in
theorem S_PV_late_21 {Γ : GAM} {E : EV} {K : Int32 → GH → Prop} (hE : GE Γ E cX10_late 6 RX10 (some (.int)) 10 399 (fun r g' => ∃ x, r = some (.int x) ∧ K x g'))  (g : GH) (h : B_PV_late_21 Γ K  g) : JW Γ E 21 [none, none, none, none, none, none] [] g := by
  unfold B_PV_late_21 at h
  refine j_iconst hE (by decide +kernel : decode cX10_late 21 = .ok (.iconst (-1), 1)) (v := (-1 : Int32)) (by decide) ?_
  exact j_iret hE (by decide +kernel : decode cX10_late 22 = .ok (.ireturn, 1)) ⟨_, rfl, h⟩
set_option maxRecDepth 100000 in
def B_PV_late_0 (Γ : GAM) (K : Int32 → GH → Prop) (th : Nat) (p0 : Int32) (g : GH) : Prop :=
  Kd g th = 12 ∧ Kd g th = 12 ∧ Sp_PV_judged Γ th p0 (Gi g 1408 th) g (fun (a2 : Option Nat) (g1 : GH) => ((a2 = none → B_PV_late_21 Γ K g1) ∧ (∀ a3 : Nat, a2 = some a3 → Kd g1 a3 = 2 ∧ (((Gi g1 140 a3) = 0 → Kd g1 a3 = 2 ∧ ∃ a4 : Nat, Gr g1 129 a3 = some a4 ∧ Kd g1 a4 = 11 ∧ Kd g1 th = 12 ∧ Sp_PV_usualOf Γ th (Gi g1 1281 a4) (900 : Int32) g1 (fun (x6 : Int32) (g5 : GH) => ((¬ (x6 = (-2 : Int32)) → Kd g5 a3 = 2 ∧ B_PV_late_57 Γ K th (some a3) ((Gi g5 130 a3) + x6) g5) ∧ (x6 = (-2 : Int32) → Kd g5 th = 12 ∧ B_PV_late_57 Γ K th (some a3) (Gi g5 1408 th) g5)))) ∧ (¬ ((Gi g1 140 a3) = 0) → B_PV_late_21 Γ K g1)))))
set_option maxHeartbeats 4000000 in
set_option maxRecDepth 100000 in
theorem S_PV_late_0 {Γ : GAM} {E : EV} {K : Int32 → GH → Prop} (hE : GE Γ E cX10_late 6 RX10 (some (.int)) 10 399 (fun r g' => ∃ x, r = some (.int x) ∧ K x g')) (th : Nat) (p0 : Int32) (g : GH) (h : B_PV_late_0 Γ K th p0 g) : JW Γ E 0 [some (.ref th), some (.int p0), none, none, none, none] [] g := by
  unfold B_PV_late_0 at h
  refine j_aload_n hE (by decide +kernel : decode cX10_late 0 = .ok (.aload_n 0, 1)) rfl rfl ?_
  refine j_iload_n hE (by decide +kernel : decode cX10_late 1 = .ok (.iload_n 1, 1)) rfl rfl ?_
  refine j_aload_n hE (by decide +kernel : decode cX10_late 2 = .ok (.aload_n 0, 1)) rfl rfl ?_
  obtain ⟨hk, h⟩ := h
  refine j_getI hE fg_X10_68 hk (by decide +kernel : decode cX10_late 3 = .ok (.getfield 68, 3)) ?_
  obtain ⟨hk, h⟩ := h
  refine j_callV hE rfl cl_X10_204 cf_11 im_X10_judged se_X10_judged ⟨by omega, by omega⟩ (As := [.int p0, .int (Gi g 1408 th)]) (rest := []) rfl rfl (Nat.le_of_ble_eq_true rfl) hk (by decide +kernel : decode cX10_late 6 = .ok (.invokevirtual 204, 3)) (mt_PV_judged _ _ _ _ _ h) ?_
  rintro _ g1 ⟨a2, rfl, h⟩
  refine j_astore_nQ hE (by decide +kernel : decode cX10_late 9 = .ok (.astore_n 2, 1)) rfl (Nat.le_of_ble_eq_true rfl) rfl ?_
  refine j_aload_nQ hE (by decide +kernel : decode cX10_late 10 = .ok (.aload_n 2, 1)) rfl rfl ?_
  refine j_ifnull hE (by decide +kernel : decode cX10_late 11 = .ok (.ifnull 10, 3)) (tgt := 21) (by decide) (fun q => ?_) (fun a3 q => ?_)
  · replace h := h.1 q; subst q
    refine j_weak [none, none, none, none, none, none] trivial ?_
    exact S_PV_late_21 hE _ h
  · replace h := h.2 a3 q; subst q
    refine j_aload_n hE (by decide +kernel : decode cX10_late 14 = .ok (.aload_n 2, 1)) rfl rfl ?_
    obtain ⟨hk, h⟩ := h
    refine j_getI hE fg_X10_221 hk (by decide +kernel : decode cX10_late 15 = .ok (.getfield 221, 3)) ?_
    refine j_if_eq hE (by decide +kernel : decode cX10_late 18 = .ok (.ifCond .eq 5, 3)) (tgt := 23) (by decide) (fun q => ?_) (fun q => ?_)
    · replace h := h.1 q
      refine j_aload_n hE (by decide +kernel : decode cX10_late 23 = .ok (.aload_n 0, 1)) rfl rfl ?_
      refine j_aload_n hE (by decide +kernel : decode cX10_late 24 = .ok (.aload_n 2, 1)) rfl rfl ?_
      obtain ⟨hk, h⟩ := h
      obtain ⟨a4, ha, h⟩ := h
      refine j_getRn hE fg_X10_313 hk ha (by decide +kernel : decode cX10_late 25 = .ok (.getfield 313, 3)) ?_
      obtain ⟨hk, h⟩ := h
      refine j_getI hE fg_X10_317 hk (by decide +kernel : decode cX10_late 28 = .ok (.getfield 317, 3)) ?_
      refine j_sipush hE (by decide +kernel : decode cX10_late 31 = .ok (.sipush 900, 3)) (v := (900 : Int32)) (by decide) ?_
      obtain ⟨hk, h⟩ := h
      refine j_callV hE rfl cl_X10_310 cf_11 im_X10_usualOf se_X10_usualOf ⟨by omega, by omega⟩ (As := [.int (Gi g1 1281 a4), .int (900 : Int32)]) (rest := []) rfl rfl (Nat.le_of_ble_eq_true rfl) hk (by decide +kernel : decode cX10_late 34 = .ok (.invokevirtual 310, 3)) (mt_PV_usualOf _ _ _ _ _ h) ?_
      rintro _ g5 ⟨x6, rfl, h⟩
      refine j_istore_n hE (by decide +kernel : decode cX10_late 37 = .ok (.istore_n 3, 1)) rfl (Nat.le_of_ble_eq_true rfl) rfl ?_
      refine j_iload_n hE (by decide +kernel : decode cX10_late 38 = .ok (.iload_n 3, 1)) rfl rfl ?_
      refine j_bipush hE (by decide +kernel : decode cX10_late 39 = .ok (.bipush (-2), 2)) (v := (-2 : Int32)) (by decide) ?_
      refine j_icmp_ne hE (by decide +kernel : decode cX10_late 41 = .ok (.if_icmp .ne 10, 3)) (tgt := 51) (by decide) (fun q => ?_) (fun q => ?_)
      · replace h := h.1 q
        refine j_aload_n hE (by decide +kernel : decode cX10_late 51 = .ok (.aload_n 2, 1)) rfl rfl ?_
        obtain ⟨hk, h⟩ := h
        refine j_getI hE fg_X10_320 hk (by decide +kernel : decode cX10_late 52 = .ok (.getfield 320, 3)) ?_
        refine j_iload_n hE (by decide +kernel : decode cX10_late 55 = .ok (.iload_n 3, 1)) rfl rfl ?_
        refine j_iadd hE (by decide +kernel : decode cX10_late 56 = .ok (.iadd, 1)) ?_
        refine j_weak [some (.ref th), none, some (va_rf (some a3)), none, none, none] ⟨rfl, ⟨rfl, trivial⟩⟩ ?_
        exact S_PV_late_57 hE _ _ _ _ h
      · replace h := h.2 q
        refine j_aload_n hE (by decide +kernel : decode cX10_late 44 = .ok (.aload_n 0, 1)) rfl rfl ?_
        obtain ⟨hk, h⟩ := h
        refine j_getI hE fg_X10_68 hk (by decide +kernel : decode cX10_late 45 = .ok (.getfield 68, 3)) ?_
        refine j_goto hE (by decide +kernel : decode cX10_late 48 = .ok (.goto 9, 3)) (tgt := 57) (by decide) ?_
        refine j_weak [some (.ref th), none, some (va_rf (some a3)), none, none, none] ⟨rfl, ⟨rfl, trivial⟩⟩ ?_
        exact S_PV_late_57 hE _ _ _ _ h
    · replace h := h.2 q
      refine j_weak [none, none, none, none, none, none] trivial ?_
      exact S_PV_late_21 hE _ h
set_option maxHeartbeats 4000000 in
set_option maxRecDepth 100000 in
theorem rl_PV_late {Γ : GAM} {l : Launch} {th : Nat} {p0 : Int32} {g : GH} {K : Int32 → GH → Prop} (h0 : B_PV_late_0 Γ K th p0 g) : MetA Γ l yX10_late cX10_late 6 (some (.int)) 10 399 [.ref th, .int p0] g (fun r g' => ∃ x, r = some (.int x) ∧ K x g') := by
  refine MetA.introL (Lx := [some (.ref th), some (.int p0), none, none, none, none]) (by decide) (Nat.le_of_ble_eq_true rfl) rfl rfl ?_
  intro E hEl hE hnm
  exact S_PV_late_0 hE th p0 g h0
theorem mt_PV_late {Γ : GAM} {l : Launch} (th : Nat) (p0 : Int32) (g : GH) (K : Int32 → GH → Prop) (h : Sp_PV_late Γ th p0 g K) : MetA Γ l yX10_late cX10_late 6 (some (.int)) 10 399 [.ref th, .int p0] g (fun r g' => ∃ x, r = some (.int x) ∧ K x g') := by
  obtain ⟨C, s, n, rfl, hI, hW, hR, hK⟩ := PVC.e h
  have he := hI.en
  obtain ⟨hkd, ⟨h1, h2⟩, -, -, -, -, hnow, hsiz⟩ := hI.pk
  have hP := hI.2.2.2.2.2.2.1
  have hlen := hW.len
  have hq0 : 0 ≤ s_now s ∧ s_now s ≤ s_now s := ⟨hW.now.1, Int32.le_refl _⟩
  unfold p_late at hK
  refine rl_PV_late ?_
  unfold B_PV_late_0 B_PV_late_21
  refine ⟨hkd, hkd, ?_⟩
  rw [hnow]
  have hst : ∀ e y, p0 = nI e → (s_env s)[e]? = some y → y.2.2.1 ≤ s_now s → p_state s p0 (s_now s) = (sJ s y.1 (s_now s) e).1 := fun e y hp hy ht => by
    have hel := (List.getElem?_eq_some_iff.mp hy).1
    unfold p_state
    rw [if_pos ⟨(wn_c (by omega)).mpr ⟨e, hp, hel⟩, hq0, by rw [hp, sEnv_n hy (by omega)]; exact ht⟩, hp, sJe_e hy (by omega)]
  refine ⟨C, s, rfl, hI, hW, hR.rc, fun u => ⟨fun _ => hK C g _ _ (if_neg (fun z => u ?_)) rfl (FrC.rf he) rfl hI hR.dn, fun a z => by cases z⟩, fun e y a ok hp hy ha g1 hF1 hC1 hJ1 hk1 => ⟨fun z => (by cases z), fun b hb => ?_⟩⟩
  · obtain ⟨e, hp, hel⟩ := (wn_c (by omega)).mp z.1
    obtain ⟨y, hy⟩ := get_lt hel
    have := (hW.env y (List.mem_of_getElem? hy)).2.2.1.2
    exact ⟨z.1, hq0, by rw [hp, sEnv_n hy (by omega)]; exact this⟩
  · cases hb
    have hel := (List.getElem?_eq_some_iff.mp hy).1
    have ht : y.2.2.1 ≤ s_now s := (hW.env y (List.mem_of_getElem? hy)).2.2.1.2
    have hI1 := hI.fc hF1 hC1
    have hP1 := hI1.2.2.2.2.2.2.1
    have hsv := hst e y hp hy ht
    have hg1 := (hJ1.e hW hy ha ht).1.1
    refine ⟨hk1, fun u => ?_, fun u => ?_⟩
    · obtain ⟨y', w, L, y1, w1, hEB, -, -⟩ := hP1.2.2.2.2.1.2.2 e a ha
      rw [hy] at y1; cases y1
      obtain ⟨⟨x1, x2⟩, ⟨w2, w3, w4⟩, ⟨_, hsent, _, _⟩, -⟩ := id hEB
      obtain ⟨z, Lv, zz1, hVO, -, -⟩ := hP1.2.2.2.1.2.2.1 _ w w1
      have hstr : Gi g1 1281 w = (sVoter s y.1).2.1 := by
        rw [hVO.2.1.2.1]; unfold sVoter; rw [zz1]; rfl
      have hkd1 := hI1.pk.1
      have okl : ok_late s p0 := ⟨ok.1, by rw [hsv, ← hg1]; exact u⟩
      have hsE : sEnv s p0 = y := by rw [hp]; exact sEnv_n hy (by omega)
      have hyv := (hW.env y (List.mem_of_getElem? hy)).1.2
      refine ⟨x2, w, w4, w3, hkd1, ?_⟩
      rw [hstr]
      refine ⟨C, s, rfl, hI1, hW, ⟨by decide, by decide⟩, fun g5 hF5 => ?_⟩
      have hI5 := hF5.i hI1
      have hP5 := hI5.2.2.2.2.2.2.1
      obtain ⟨kkd, -, -, -, -, -, know, -⟩ := hI5.pk
      obtain ⟨b, b1, b2, b3, b4, b5⟩ := hI5.1.2.2.2.1.e
      have hsb := sShire_b hW hyv (s_now s) (s_now s)
      have hbs : inB (sShire s y.1.toNatClampNeg (s_now s) (s_now s)) 4 := ⟨hsb.1, by
        have h1 := nj_of hsb.1
        have h2 := hsb.2
        rw [h1.1] at h2
        have := (nj_le (b := 3) h1.2 (by omega)).mp h2
        omega⟩
      have hr := hK C g5 _ _ (if_pos okl) rfl (hF1.c.tr hF5.c) rfl hI5 ((hR.fc hF1).fu hF5)
      unfold sLt at hr
      rw [hsE] at hr
      have k5 : Kd g5 a = 2 := by rw [(hF5.1.kd x1 (by omega)).1]; exact x2
      have w5 : Gr g5 129 a = some w := by rw [hF5.2.1]; exact w4
      have s5 : Gi g5 130 a = y.2.1 := by rw [hF5.1.gi x1 (by decide) (by decide)]; exact hsent
      have h57 : ∀ v, v = (if sUs s (sVoter s y.1).2.1 900 = -2 then s_now s else y.2.1 + sUs s (sVoter s y.1).2.1 900) → B_PV_late_57 Γ K (c_x C) (some a) v g5 := fun v hv => by
        unfold B_PV_late_57 B_PV_late_100 B_PV_late_101
        refine ⟨a, rfl, k5, w, w5, kkd, kkd, ?_⟩
        rw [know]
        obtain ⟨_, _, _, hVO5, _⟩ := hP5.2.2.2.1.2.2.1 _ w w1
        refine ⟨hVO5.1.2, (hP5.2.2.2.1.2.2.1 _ w w1).on (s_now s) (s_now s) ?_⟩
        refine pv_ite (fun q => absurd hsb q) (fun _ => ⟨kkd, b, b1, b2, by rw [b5]; exact hbs, ?_⟩)
        have h4 : (sShire s y.1.toNatClampNeg (s_now s) (s_now s)).toNatClampNeg < 4 := by
          have := hbs.2
          exact this
        rw [b3, b4, hI5.2.1.2.2 _ h4, hv]
        refine ⟨fun q => ?_, fun q => ?_⟩
        · rw [if_pos q] at hr; exact hr
        · rw [if_neg q] at hr; exact hr
      refine ⟨fun q => ⟨k5, h57 _ ?_⟩, fun q => ⟨kkd, h57 _ ?_⟩⟩
      · rw [if_neg q, s5]
      · rw [if_pos q]; exact know
    · refine hK C g1 _ _ (if_neg (fun z => u ?_)) rfl hF1.c rfl hI1 (hR.fc hF1)
      rw [hg1, ← hsv]; exact z.2
