/-! the class's face: by street -/
def Sp_PV_street (Γ : GAM) (x : Nat) (p0 p1 p2 : Int32) (g : GH) (K : Int32 → GH → Prop) : Prop := PVC Γ x g K (fun s => p_street s p0 p1 p2) (fun s => s)
theorem sStk_n {s : ST} {sh st c : Int32} : ∀ k, ∃ j, j ≤ k ∧ (sStk s sh st c k).2.1 = nI j := by
  intro k
  induction k with
  | zero => exact ⟨0, Nat.le_refl _, rfl⟩
  | succ k ih =>
    obtain ⟨j, h1, h2⟩ := ih
    cases hx : (s_env s)[k]? with
    | none =>
      refine ⟨j, by omega, ?_⟩
      have hl : (s_env s).length ≤ k := Classical.byContradiction (fun z => by
        obtain ⟨y, hy⟩ := get_lt (show k < (s_env s).length by omega)
        rw [hx] at hy; cases hy)
      have e : sStk s sh st c (k + 1) = sStk s sh st c k := by
        unfold sStk
        rw [List.take_of_length_le (by rw [List.length_zipIdx]; omega), List.take_of_length_le (by rw [List.length_zipIdx]; omega)]
      rw [e]; exact h2
    | some y =>
      have e : sStk s sh st c (k + 1) = stS s sh st c (sStk s sh st c k) (y, k) := by
        unfold sStk
        rw [fold_take _ _ _ (zip_get hx)]
      rw [e]
      unfold stS
      split
      · exact ⟨j, by omega, h2⟩
      · split
        · split
          · exact ⟨j, by omega, by show _ + 0 = _; rw [h2, Int32.add_zero]⟩
          · exact ⟨j + 1, by omega, by show _ + 1 = _; rw [h2, nj_s]⟩
        · exact ⟨j, by omega, h2⟩
theorem hsh_sh {s : ST} (hW : WF s) {e : Nat} {sh : Int32} (hsh0 : 0 ≤ sh) : hsh s e = sh ↔ (s_hof s e ≠ 0 ∧ (sHea s (nI (s_hof s e - 1))).1 = sh) := by
  unfold hsh sHea
  by_cases z : s_hof s e = 0
  · rw [if_pos z]
    exact ⟨fun h => absurd h.symm (i32_m1 hsh0), fun h => absurd z h.1⟩
  · rw [if_neg z, nj_cl (by have := (hW.hof e).1; have := hW.len.2.2.2.2.2.2.2.2.2.2.2; omega)]
    exact ⟨fun h => ⟨z, h⟩, fun h => h.2⟩
-- the walk of PV_street
set_option maxRecDepth 100000 in
def B_PV_street_219 (Γ : GAM) (K35 : Nat → Int32 → Int32 → Int32 → Int32 → Int32 → Int32 → Int32 → GH → Prop) (K : Int32 → GH → Prop) (s0 : Int32) (g : GH) : Prop :=
  K s0 g
set_option maxHeartbeats 4000000 in
set_option maxRecDepth 100000 in
theorem S_PV_street_219 {Γ : GAM} {E : EV} {K : Int32 → GH → Prop} (hE : GE Γ E cX10_street 11 RX10 (some (.int)) 3 64 (fun r g' => ∃ x, r = some (.int x) ∧ K x g')) {K35 : Nat → Int32 → Int32 → Int32 → Int32 → Int32 → Int32 → Int32 → GH → Prop} (hK35 : ∀ (l0 : Nat) (l1 : Int32) (l2 : Int32) (l3 : Int32) (l4 : Int32) (l5 : Int32) (l6 : Int32) (l7 : Int32) (g : GH), K35 l0 l1 l2 l3 l4 l5 l6 l7 g → JW Γ E 35 [some (.ref l0), some (.int l1), some (.int l2), some (.int l3), some (.int l4), some (.int l5), some (.int l6), some (.int l7), none, none, none] [] g) (s0 : Int32) (g : GH) (h : B_PV_street_219 Γ K35 K s0 g) : JW Γ E 219 [none, none, none, none, none, none, none, none, none, none, none] [.int s0] g := by
  unfold B_PV_street_219 at h
  exact j_iret hE (by decide +kernel : decode cX10_street 219 = .ok (.ireturn, 1)) ⟨_, rfl, h⟩
set_option maxRecDepth 100000 in
def B_PV_street_205 (Γ : GAM) (K35 : Nat → Int32 → Int32 → Int32 → Int32 → Int32 → Int32 → Int32 → GH → Prop) (K : Int32 → GH → Prop) (l6 : Int32) (s0 : Int32) (g : GH) : Prop :=
  ((s0 = 0 → B_PV_street_219 Γ K35 K (-2 : Int32) g) ∧ (¬ (s0 = 0) → B_PV_street_219 Γ K35 K l6 g))
set_option maxHeartbeats 4000000 in
set_option maxRecDepth 100000 in
theorem S_PV_street_205 {Γ : GAM} {E : EV} {K : Int32 → GH → Prop} (hE : GE Γ E cX10_street 11 RX10 (some (.int)) 3 64 (fun r g' => ∃ x, r = some (.int x) ∧ K x g')) {K35 : Nat → Int32 → Int32 → Int32 → Int32 → Int32 → Int32 → Int32 → GH → Prop} (hK35 : ∀ (l0 : Nat) (l1 : Int32) (l2 : Int32) (l3 : Int32) (l4 : Int32) (l5 : Int32) (l6 : Int32) (l7 : Int32) (g : GH), K35 l0 l1 l2 l3 l4 l5 l6 l7 g → JW Γ E 35 [some (.ref l0), some (.int l1), some (.int l2), some (.int l3), some (.int l4), some (.int l5), some (.int l6), some (.int l7), none, none, none] [] g) (l6 : Int32) (s0 : Int32) (g : GH) (h : B_PV_street_205 Γ K35 K l6 s0 g) : JW Γ E 205 [none, none, none, none, none, none, some (.int l6), none, none, none, none] [.int s0] g := by
  unfold B_PV_street_205 at h
  refine j_istore hE (by decide +kernel : decode cX10_street 205 = .ok (.istore 7, 2)) (Nat.le_of_ble_eq_true rfl) rfl ?_
  refine j_iload hE (by decide +kernel : decode cX10_street 207 = .ok (.iload 7, 2)) rfl ?_
  refine j_if_eq hE (by decide +kernel : decode cX10_street 209 = .ok (.ifCond .eq 8, 3)) (tgt := 217) (by decide) (fun q => ?_) (fun q => ?_)
  · replace h := h.1 q
    refine j_bipush hE (by decide +kernel : decode cX10_street 217 = .ok (.bipush (-2), 2)) (v := (-2 : Int32)) (by decide) ?_
    refine j_weak [none, none, none, none, none, none, none, none, none, none, none] trivial ?_
    exact S_PV_street_219 hE hK35 _ _ h
  · replace h := h.2 q
    refine j_iload hE (by decide +kernel : decode cX10_street 212 = .ok (.iload 6, 2)) rfl ?_
    refine j_goto hE (by decide +kernel : decode cX10_street 214 = .ok (.goto 5, 3)) (tgt := 219) (by decide) ?_
    refine j_weak [none, none, none, none, none, none, none, none, none, none, none] trivial ?_
    exact S_PV_street_219 hE hK35 _ _ h
set_option maxRecDepth 100000 in
def B_PV_street_204 (Γ : GAM) (K35 : Nat → Int32 → Int32 → Int32 → Int32 → Int32 → Int32 → Int32 → GH → Prop) (K : Int32 → GH → Prop) (l6 : Int32) (g : GH) : Prop :=
  B_PV_street_205 Γ K35 K l6 (0 : Int32) g
set_option maxHeartbeats 4000000 in
set_option maxRecDepth 100000 in
theorem S_PV_street_204 {Γ : GAM} {E : EV} {K : Int32 → GH → Prop} (hE : GE Γ E cX10_street 11 RX10 (some (.int)) 3 64 (fun r g' => ∃ x, r = some (.int x) ∧ K x g')) {K35 : Nat → Int32 → Int32 → Int32 → Int32 → Int32 → Int32 → Int32 → GH → Prop} (hK35 : ∀ (l0 : Nat) (l1 : Int32) (l2 : Int32) (l3 : Int32) (l4 : Int32) (l5 : Int32) (l6 : Int32) (l7 : Int32) (g : GH), K35 l0 l1 l2 l3 l4 l5 l6 l7 g → JW Γ E 35 [some (.ref l0), some (.int l1), some (.int l2), some (.int l3), some (.int l4), some (.int l5), some (.int l6), some (.int l7), none, none, none] [] g) (l6 : Int32) (g : GH) (h : B_PV_street_204 Γ K35 K l6 g) : JW Γ E 204 [none, none, none, none, none, none, some (.int l6), none, none, none, none] [] g := by
  unfold B_PV_street_204 at h
  refine j_iconst hE (by decide +kernel : decode cX10_street 204 = .ok (.iconst 0, 1)) (v := (0 : Int32)) (by decide) ?_
  exact S_PV_street_205 hE hK35 _ _ _ h
set_option maxRecDepth 100000 in
def B_PV_street_200 (Γ : GAM) (K35 : Nat → Int32 → Int32 → Int32 → Int32 → Int32 → Int32 → Int32 → GH → Prop) (K : Int32 → GH → Prop) (l6 : Int32) (g : GH) : Prop :=
  B_PV_street_205 Γ K35 K l6 (1 : Int32) g
set_option maxHeartbeats 4000000 in
set_option maxRecDepth 100000 in
theorem S_PV_street_200 {Γ : GAM} {E : EV} {K : Int32 → GH → Prop} (hE : GE Γ E cX10_street 11 RX10 (some (.int)) 3 64 (fun r g' => ∃ x, r = some (.int x) ∧ K x g')) {K35 : Nat → Int32 → Int32 → Int32 → Int32 → Int32 → Int32 → Int32 → GH → Prop} (hK35 : ∀ (l0 : Nat) (l1 : Int32) (l2 : Int32) (l3 : Int32) (l4 : Int32) (l5 : Int32) (l6 : Int32) (l7 : Int32) (g : GH), K35 l0 l1 l2 l3 l4 l5 l6 l7 g → JW Γ E 35 [some (.ref l0), some (.int l1), some (.int l2), some (.int l3), some (.int l4), some (.int l5), some (.int l6), some (.int l7), none, none, none] [] g) (l6 : Int32) (g : GH) (h : B_PV_street_200 Γ K35 K l6 g) : JW Γ E 200 [none, none, none, none, none, none, some (.int l6), none, none, none, none] [] g := by
  unfold B_PV_street_200 at h
  refine j_iconst hE (by decide +kernel : decode cX10_street 200 = .ok (.iconst 1, 1)) (v := (1 : Int32)) (by decide) ?_
  refine j_goto hE (by decide +kernel : decode cX10_street 201 = .ok (.goto 4, 3)) (tgt := 205) (by decide) ?_
  exact S_PV_street_205 hE hK35 _ _ _ h
set_option maxRecDepth 100000 in
def B_PV_street_168 (Γ : GAM) (K35 : Nat → Int32 → Int32 → Int32 → Int32 → Int32 → Int32 → Int32 → GH → Prop) (K : Int32 → GH → Prop) (l0 : Nat) (l1 : Int32) (l2 : Int32) (l3 : Int32) (l4 : Int32) (l5 : Int32) (l7 : Int32) (s0 : Int32) (s1 : Int32) (g : GH) : Prop :=
  ∀ x1 : Int32, x1 = (s1 + s0) → K35 l0 l1 l2 l3 l4 l5 x1 (l7 + (1 : Int32)) g
set_option maxHeartbeats 4000000 in
set_option maxRecDepth 100000 in
theorem S_PV_street_168 {Γ : GAM} {E : EV} {K : Int32 → GH → Prop} (hE : GE Γ E cX10_street 11 RX10 (some (.int)) 3 64 (fun r g' => ∃ x, r = some (.int x) ∧ K x g')) {K35 : Nat → Int32 → Int32 → Int32 → Int32 → Int32 → Int32 → Int32 → GH → Prop} (hK35 : ∀ (l0 : Nat) (l1 : Int32) (l2 : Int32) (l3 : Int32) (l4 : Int32) (l5 : Int32) (l6 : Int32) (l7 : Int32) (g : GH), K35 l0 l1 l2 l3 l4 l5 l6 l7 g → JW Γ E 35 [some (.ref l0), some (.int l1), some (.int l2), some (.int l3), some (.int l4), some (.int l5), some (.int l6), some (.int l7), none, none, none] [] g) (l0 : Nat) (l1 : Int32) (l2 : Int32) (l3 : Int32) (l4 : Int32) (l5 : Int32) (l7 : Int32) (s0 : Int32) (s1 : Int32) (g : GH) (h : B_PV_street_168 Γ K35 K l0 l1 l2 l3 l4 l5 l7 s0 s1 g) : JW Γ E 168 [some (.ref l0), some (.int l1), some (.int l2), some (.int l3), some (.int l4), some (.int l5), none, some (.int l7), none, none, none] [.int s0, .int s1] g := by
  unfold B_PV_street_168 at h
  refine j_iadd hE (by decide +kernel : decode cX10_street 168 = .ok (.iadd, 1)) ?_
  obtain ⟨x1, hx⟩ : ∃ z, z = (s1 + s0) := ⟨_, rfl⟩; replace h := h x1 hx; rw [← hx]
  refine j_istore hE (by decide +kernel : decode cX10_street 169 = .ok (.istore 6, 2)) (Nat.le_of_ble_eq_true rfl) rfl ?_
  refine j_iinc hE (by decide +kernel : decode cX10_street 171 = .ok (.iinc 7 1, 3)) (v := (1 : Int32)) (by decide) rfl (Nat.le_of_ble_eq_true rfl) rfl ?_
  refine j_goto hE (by decide +kernel : decode cX10_street 174 = .ok (.goto (-139), 3)) (tgt := 35) (by decide) ?_
  exact hK35 _ _ _ _ _ _ _ _ _ h
set_option maxRecDepth 100000 in
def B_PV_street_167 (Γ : GAM) (K35 : Nat → Int32 → Int32 → Int32 → Int32 → Int32 → Int32 → Int32 → GH → Prop) (K : Int32 → GH → Prop) (l0 : Nat) (l1 : Int32) (l2 : Int32) (l3 : Int32) (l4 : Int32) (l5 : Int32) (l7 : Int32) (s0 : Int32) (g : GH) : Prop :=
  B_PV_street_168 Γ K35 K l0 l1 l2 l3 l4 l5 l7 (0 : Int32) s0 g
set_option maxHeartbeats 4000000 in
set_option maxRecDepth 100000 in
theorem S_PV_street_167 {Γ : GAM} {E : EV} {K : Int32 → GH → Prop} (hE : GE Γ E cX10_street 11 RX10 (some (.int)) 3 64 (fun r g' => ∃ x, r = some (.int x) ∧ K x g')) {K35 : Nat → Int32 → Int32 → Int32 → Int32 → Int32 → Int32 → Int32 → GH → Prop} (hK35 : ∀ (l0 : Nat) (l1 : Int32) (l2 : Int32) (l3 : Int32) (l4 : Int32) (l5 : Int32) (l6 : Int32) (l7 : Int32) (g : GH), K35 l0 l1 l2 l3 l4 l5 l6 l7 g → JW Γ E 35 [some (.ref l0), some (.int l1), some (.int l2), some (.int l3), some (.int l4), some (.int l5), some (.int l6), some (.int l7), none, none, none] [] g) (l0 : Nat) (l1 : Int32) (l2 : Int32) (l3 : Int32) (l4 : Int32) (l5 : Int32) (l7 : Int32) (s0 : Int32) (g : GH) (h : B_PV_street_167 Γ K35 K l0 l1 l2 l3 l4 l5 l7 s0 g) : JW Γ E 167 [some (.ref l0), some (.int l1), some (.int l2), some (.int l3), some (.int l4), some (.int l5), none, some (.int l7), none, none, none] [.int s0] g := by
  unfold B_PV_street_167 at h
  refine j_iconst hE (by decide +kernel : decode cX10_street 167 = .ok (.iconst 0, 1)) (v := (0 : Int32)) (by decide) ?_
  exact S_PV_street_168 hE hK35 _ _ _ _ _ _ _ _ _ _ h
set_option maxRecDepth 100000 in
def B_PV_street_139 (Γ : GAM) (K35 : Nat → Int32 → Int32 → Int32 → Int32 → Int32 → Int32 → Int32 → GH → Prop) (K : Int32 → GH → Prop) (l0 : Nat) (l1 : Int32) (l2 : Int32) (l3 : Int32) (l4 : Int32) (l6 : Int32) (l7 : Int32) (l8 : Nat) (l9 : Int32) (l10 : Int32) (s0 : Int32) (s1 : Int32) (g : GH) : Prop :=
  ∀ x1 : Int32, x1 = (s1 + s0) → ((l9 = 0 → B_PV_street_167 Γ K35 K l0 l1 l2 l3 l4 x1 l7 l6 g) ∧ (¬ (l9 = 0) → ((l10 = 0 → B_PV_street_167 Γ K35 K l0 l1 l2 l3 l4 x1 l7 l6 g) ∧ (¬ (l10 = 0) → Kd g l8 = 2 ∧ ((¬ ((Gi g 131 l8) = l3) → B_PV_street_167 Γ K35 K l0 l1 l2 l3 l4 x1 l7 l6 g) ∧ ((Gi g 131 l8) = l3 → B_PV_street_168 Γ K35 K l0 l1 l2 l3 l4 x1 l7 (1 : Int32) l6 g))))))
set_option maxHeartbeats 4000000 in
set_option maxRecDepth 100000 in
theorem S_PV_street_139 {Γ : GAM} {E : EV} {K : Int32 → GH → Prop} (hE : GE Γ E cX10_street 11 RX10 (some (.int)) 3 64 (fun r g' => ∃ x, r = some (.int x) ∧ K x g')) {K35 : Nat → Int32 → Int32 → Int32 → Int32 → Int32 → Int32 → Int32 → GH → Prop} (hK35 : ∀ (l0 : Nat) (l1 : Int32) (l2 : Int32) (l3 : Int32) (l4 : Int32) (l5 : Int32) (l6 : Int32) (l7 : Int32) (g : GH), K35 l0 l1 l2 l3 l4 l5 l6 l7 g → JW Γ E 35 [some (.ref l0), some (.int l1), some (.int l2), some (.int l3), some (.int l4), some (.int l5), some (.int l6), some (.int l7), none, none, none] [] g) (l0 : Nat) (l1 : Int32) (l2 : Int32) (l3 : Int32) (l4 : Int32) (l6 : Int32) (l7 : Int32) (l8 : Nat) (l9 : Int32) (l10 : Int32) (s0 : Int32) (s1 : Int32) (g : GH) (h : B_PV_street_139 Γ K35 K l0 l1 l2 l3 l4 l6 l7 l8 l9 l10 s0 s1 g) : JW Γ E 139 [some (.ref l0), some (.int l1), some (.int l2), some (.int l3), some (.int l4), none, some (.int l6), some (.int l7), some (.ref l8), some (.int l9), some (.int l10)] [.int s0, .int s1] g := by
  unfold B_PV_street_139 at h
  refine j_iadd hE (by decide +kernel : decode cX10_street 139 = .ok (.iadd, 1)) ?_
  obtain ⟨x1, hx⟩ : ∃ z, z = (s1 + s0) := ⟨_, rfl⟩; replace h := h x1 hx; rw [← hx]
  refine j_istore hE (by decide +kernel : decode cX10_street 140 = .ok (.istore 5, 2)) (Nat.le_of_ble_eq_true rfl) rfl ?_
  refine j_iload hE (by decide +kernel : decode cX10_street 142 = .ok (.iload 6, 2)) rfl ?_
  refine j_iload hE (by decide +kernel : decode cX10_street 144 = .ok (.iload 9, 2)) rfl ?_
  refine j_if_eq hE (by decide +kernel : decode cX10_street 146 = .ok (.ifCond .eq 21, 3)) (tgt := 167) (by decide) (fun q => ?_) (fun q => ?_)
  · replace h := h.1 q
    refine j_weak [some (.ref l0), some (.int l1), some (.int l2), some (.int l3), some (.int l4), some (.int x1), none, some (.int l7), none, none, none] ⟨rfl, ⟨rfl, ⟨rfl, ⟨rfl, ⟨rfl, ⟨rfl, ⟨rfl, trivial⟩⟩⟩⟩⟩⟩⟩ ?_
    exact S_PV_street_167 hE hK35 _ _ _ _ _ _ _ _ _ h
  · replace h := h.2 q
    refine j_iload hE (by decide +kernel : decode cX10_street 149 = .ok (.iload 10, 2)) rfl ?_
    refine j_if_eq hE (by decide +kernel : decode cX10_street 151 = .ok (.ifCond .eq 16, 3)) (tgt := 167) (by decide) (fun q => ?_) (fun q => ?_)
    · replace h := h.1 q
      refine j_weak [some (.ref l0), some (.int l1), some (.int l2), some (.int l3), some (.int l4), some (.int x1), none, some (.int l7), none, none, none] ⟨rfl, ⟨rfl, ⟨rfl, ⟨rfl, ⟨rfl, ⟨rfl, ⟨rfl, trivial⟩⟩⟩⟩⟩⟩⟩ ?_
      exact S_PV_street_167 hE hK35 _ _ _ _ _ _ _ _ _ h
    · replace h := h.2 q
      refine j_aload hE (by decide +kernel : decode cX10_street 154 = .ok (.aload 8, 2)) rfl ?_
      obtain ⟨hk, h⟩ := h
      refine j_getI hE fg_X10_351 hk (by decide +kernel : decode cX10_street 156 = .ok (.getfield 351, 3)) ?_
      refine j_iload_n hE (by decide +kernel : decode cX10_street 159 = .ok (.iload_n 3, 1)) rfl rfl ?_
      refine j_icmp_ne hE (by decide +kernel : decode cX10_street 160 = .ok (.if_icmp .ne 7, 3)) (tgt := 167) (by decide) (fun q => ?_) (fun q => ?_)
      · replace h := h.1 q
        refine j_weak [some (.ref l0), some (.int l1), some (.int l2), some (.int l3), some (.int l4), some (.int x1), none, some (.int l7), none, none, none] ⟨rfl, ⟨rfl, ⟨rfl, ⟨rfl, ⟨rfl, ⟨rfl, ⟨rfl, trivial⟩⟩⟩⟩⟩⟩⟩ ?_
        exact S_PV_street_167 hE hK35 _ _ _ _ _ _ _ _ _ h
      · replace h := h.2 q
        refine j_iconst hE (by decide +kernel : decode cX10_street 163 = .ok (.iconst 1, 1)) (v := (1 : Int32)) (by decide) ?_
        refine j_goto hE (by decide +kernel : decode cX10_street 164 = .ok (.goto 4, 3)) (tgt := 168) (by decide) ?_
        refine j_weak [some (.ref l0), some (.int l1), some (.int l2), some (.int l3), some (.int l4), some (.int x1), none, some (.int l7), none, none, none] ⟨rfl, ⟨rfl, ⟨rfl, ⟨rfl, ⟨rfl, ⟨rfl, ⟨rfl, trivial⟩⟩⟩⟩⟩⟩⟩ ?_
        exact S_PV_street_168 hE hK35 _ _ _ _ _ _ _ _ _ _ h
set_option maxRecDepth 100000 in
def B_PV_street_138 (Γ : GAM) (K35 : Nat → Int32 → Int32 → Int32 → Int32 → Int32 → Int32 → Int32 → GH → Prop) (K : Int32 → GH → Prop) (l0 : Nat) (l1 : Int32) (l2 : Int32) (l3 : Int32) (l4 : Int32) (l6 : Int32) (l7 : Int32) (l8 : Nat) (l9 : Int32) (l10 : Int32) (s0 : Int32) (g : GH) : Prop :=
  B_PV_street_139 Γ K35 K l0 l1 l2 l3 l4 l6 l7 l8 l9 l10 (0 : Int32) s0 g
set_option maxHeartbeats 4000000 in
set_option maxRecDepth 100000 in
theorem S_PV_street_138 {Γ : GAM} {E : EV} {K : Int32 → GH → Prop} (hE : GE Γ E cX10_street 11 RX10 (some (.int)) 3 64 (fun r g' => ∃ x, r = some (.int x) ∧ K x g')) {K35 : Nat → Int32 → Int32 → Int32 → Int32 → Int32 → Int32 → Int32 → GH → Prop} (hK35 : ∀ (l0 : Nat) (l1 : Int32) (l2 : Int32) (l3 : Int32) (l4 : Int32) (l5 : Int32) (l6 : Int32) (l7 : Int32) (g : GH), K35 l0 l1 l2 l3 l4 l5 l6 l7 g → JW Γ E 35 [some (.ref l0), some (.int l1), some (.int l2), some (.int l3), some (.int l4), some (.int l5), some (.int l6), some (.int l7), none, none, none] [] g) (l0 : Nat) (l1 : Int32) (l2 : Int32) (l3 : Int32) (l4 : Int32) (l6 : Int32) (l7 : Int32) (l8 : Nat) (l9 : Int32) (l10 : Int32) (s0 : Int32) (g : GH) (h : B_PV_street_138 Γ K35 K l0 l1 l2 l3 l4 l6 l7 l8 l9 l10 s0 g) : JW Γ E 138 [some (.ref l0), some (.int l1), some (.int l2), some (.int l3), some (.int l4), none, some (.int l6), some (.int l7), some (.ref l8), some (.int l9), some (.int l10)] [.int s0] g := by
  unfold B_PV_street_138 at h
  refine j_iconst hE (by decide +kernel : decode cX10_street 138 = .ok (.iconst 0, 1)) (v := (0 : Int32)) (by decide) ?_
  exact S_PV_street_139 hE hK35 _ _ _ _ _ _ _ _ _ _ _ _ _ h
set_option maxRecDepth 100000 in
def B_PV_street_119 (Γ : GAM) (K35 : Nat → Int32 → Int32 → Int32 → Int32 → Int32 → Int32 → Int32 → GH → Prop) (K : Int32 → GH → Prop) (l0 : Nat) (l1 : Int32) (l2 : Int32) (l3 : Int32) (l5 : Int32) (l6 : Int32) (l7 : Int32) (l8 : Nat) (l9 : Int32) (l10 : Int32) (s0 : Int32) (s1 : Int32) (g : GH) : Prop :=
  ∀ x1 : Int32, x1 = (s1 + s0) → ((l9 = 0 → B_PV_street_138 Γ K35 K l0 l1 l2 l3 x1 l6 l7 l8 l9 l10 l5 g) ∧ (¬ (l9 = 0) → ((¬ (l10 = 0) → B_PV_street_138 Γ K35 K l0 l1 l2 l3 x1 l6 l7 l8 l9 l10 l5 g) ∧ (l10 = 0 → B_PV_street_139 Γ K35 K l0 l1 l2 l3 x1 l6 l7 l8 l9 l10 (1 : Int32) l5 g))))
set_option maxHeartbeats 4000000 in
set_option maxRecDepth 100000 in
theorem S_PV_street_119 {Γ : GAM} {E : EV} {K : Int32 → GH → Prop} (hE : GE Γ E cX10_street 11 RX10 (some (.int)) 3 64 (fun r g' => ∃ x, r = some (.int x) ∧ K x g')) {K35 : Nat → Int32 → Int32 → Int32 → Int32 → Int32 → Int32 → Int32 → GH → Prop} (hK35 : ∀ (l0 : Nat) (l1 : Int32) (l2 : Int32) (l3 : Int32) (l4 : Int32) (l5 : Int32) (l6 : Int32) (l7 : Int32) (g : GH), K35 l0 l1 l2 l3 l4 l5 l6 l7 g → JW Γ E 35 [some (.ref l0), some (.int l1), some (.int l2), some (.int l3), some (.int l4), some (.int l5), some (.int l6), some (.int l7), none, none, none] [] g) (l0 : Nat) (l1 : Int32) (l2 : Int32) (l3 : Int32) (l5 : Int32) (l6 : Int32) (l7 : Int32) (l8 : Nat) (l9 : Int32) (l10 : Int32) (s0 : Int32) (s1 : Int32) (g : GH) (h : B_PV_street_119 Γ K35 K l0 l1 l2 l3 l5 l6 l7 l8 l9 l10 s0 s1 g) : JW Γ E 119 [some (.ref l0), some (.int l1), some (.int l2), some (.int l3), none, some (.int l5), some (.int l6), some (.int l7), some (.ref l8), some (.int l9), some (.int l10)] [.int s0, .int s1] g := by
  unfold B_PV_street_119 at h
  refine j_iadd hE (by decide +kernel : decode cX10_street 119 = .ok (.iadd, 1)) ?_
  obtain ⟨x1, hx⟩ : ∃ z, z = (s1 + s0) := ⟨_, rfl⟩; replace h := h x1 hx; rw [← hx]
  refine j_istore hE (by decide +kernel : decode cX10_street 120 = .ok (.istore 4, 2)) (Nat.le_of_ble_eq_true rfl) rfl ?_
  refine j_iload hE (by decide +kernel : decode cX10_street 122 = .ok (.iload 5, 2)) rfl ?_
  refine j_iload hE (by decide +kernel : decode cX10_street 124 = .ok (.iload 9, 2)) rfl ?_
  refine j_if_eq hE (by decide +kernel : decode cX10_street 126 = .ok (.ifCond .eq 12, 3)) (tgt := 138) (by decide) (fun q => ?_) (fun q => ?_)
  · replace h := h.1 q
    refine j_weak [some (.ref l0), some (.int l1), some (.int l2), some (.int l3), some (.int x1), none, some (.int l6), some (.int l7), some (.ref l8), some (.int l9), some (.int l10)] ⟨rfl, ⟨rfl, ⟨rfl, ⟨rfl, ⟨rfl, ⟨rfl, ⟨rfl, ⟨rfl, ⟨rfl, ⟨rfl, trivial⟩⟩⟩⟩⟩⟩⟩⟩⟩⟩ ?_
    exact S_PV_street_138 hE hK35 _ _ _ _ _ _ _ _ _ _ _ _ h
  · replace h := h.2 q
    refine j_iload hE (by decide +kernel : decode cX10_street 129 = .ok (.iload 10, 2)) rfl ?_
    refine j_if_ne hE (by decide +kernel : decode cX10_street 131 = .ok (.ifCond .ne 7, 3)) (tgt := 138) (by decide) (fun q => ?_) (fun q => ?_)
    · replace h := h.1 q
      refine j_weak [some (.ref l0), some (.int l1), some (.int l2), some (.int l3), some (.int x1), none, some (.int l6), some (.int l7), some (.ref l8), some (.int l9), some (.int l10)] ⟨rfl, ⟨rfl, ⟨rfl, ⟨rfl, ⟨rfl, ⟨rfl, ⟨rfl, ⟨rfl, ⟨rfl, ⟨rfl, trivial⟩⟩⟩⟩⟩⟩⟩⟩⟩⟩ ?_
      exact S_PV_street_138 hE hK35 _ _ _ _ _ _ _ _ _ _ _ _ h
    · replace h := h.2 q
      refine j_iconst hE (by decide +kernel : decode cX10_street 134 = .ok (.iconst 1, 1)) (v := (1 : Int32)) (by decide) ?_
      refine j_goto hE (by decide +kernel : decode cX10_street 135 = .ok (.goto 4, 3)) (tgt := 139) (by decide) ?_
      refine j_weak [some (.ref l0), some (.int l1), some (.int l2), some (.int l3), some (.int x1), none, some (.int l6), some (.int l7), some (.ref l8), some (.int l9), some (.int l10)] ⟨rfl, ⟨rfl, ⟨rfl, ⟨rfl, ⟨rfl, ⟨rfl, ⟨rfl, ⟨rfl, ⟨rfl, ⟨rfl, trivial⟩⟩⟩⟩⟩⟩⟩⟩⟩⟩ ?_
      exact S_PV_street_139 hE hK35 _ _ _ _ _ _ _ _ _ _ _ _ _ h
set_option maxRecDepth 100000 in
def B_PV_street_118 (Γ : GAM) (K35 : Nat → Int32 → Int32 → Int32 → Int32 → Int32 → Int32 → Int32 → GH → Prop) (K : Int32 → GH → Prop) (l0 : Nat) (l1 : Int32) (l2 : Int32) (l3 : Int32) (l5 : Int32) (l6 : Int32) (l7 : Int32) (l8 : Nat) (l9 : Int32) (l10 : Int32) (s0 : Int32) (g : GH) : Prop :=
  B_PV_street_119 Γ K35 K l0 l1 l2 l3 l5 l6 l7 l8 l9 l10 (0 : Int32) s0 g
set_option maxHeartbeats 4000000 in
set_option maxRecDepth 100000 in
theorem S_PV_street_118 {Γ : GAM} {E : EV} {K : Int32 → GH → Prop} (hE : GE Γ E cX10_street 11 RX10 (some (.int)) 3 64 (fun r g' => ∃ x, r = some (.int x) ∧ K x g')) {K35 : Nat → Int32 → Int32 → Int32 → Int32 → Int32 → Int32 → Int32 → GH → Prop} (hK35 : ∀ (l0 : Nat) (l1 : Int32) (l2 : Int32) (l3 : Int32) (l4 : Int32) (l5 : Int32) (l6 : Int32) (l7 : Int32) (g : GH), K35 l0 l1 l2 l3 l4 l5 l6 l7 g → JW Γ E 35 [some (.ref l0), some (.int l1), some (.int l2), some (.int l3), some (.int l4), some (.int l5), some (.int l6), some (.int l7), none, none, none] [] g) (l0 : Nat) (l1 : Int32) (l2 : Int32) (l3 : Int32) (l5 : Int32) (l6 : Int32) (l7 : Int32) (l8 : Nat) (l9 : Int32) (l10 : Int32) (s0 : Int32) (g : GH) (h : B_PV_street_118 Γ K35 K l0 l1 l2 l3 l5 l6 l7 l8 l9 l10 s0 g) : JW Γ E 118 [some (.ref l0), some (.int l1), some (.int l2), some (.int l3), none, some (.int l5), some (.int l6), some (.int l7), some (.ref l8), some (.int l9), some (.int l10)] [.int s0] g := by
  unfold B_PV_street_118 at h
  refine j_iconst hE (by decide +kernel : decode cX10_street 118 = .ok (.iconst 0, 1)) (v := (0 : Int32)) (by decide) ?_
  exact S_PV_street_119 hE hK35 _ _ _ _ _ _ _ _ _ _ _ _ _ h
set_option maxRecDepth 100000 in
def B_PV_street_100 (Γ : GAM) (K35 : Nat → Int32 → Int32 → Int32 → Int32 → Int32 → Int32 → Int32 → GH → Prop) (K : Int32 → GH → Prop) (l0 : Nat) (l1 : Int32) (l2 : Int32) (l3 : Int32) (l4 : Int32) (l5 : Int32) (l6 : Int32) (l7 : Int32) (l8 : Nat) (l9 : Int32) (s0 : Int32) (g : GH) : Prop :=
  ((l9 = 0 → B_PV_street_118 Γ K35 K l0 l1 l2 l3 l5 l6 l7 l8 l9 s0 l4 g) ∧ (¬ (l9 = 0) → ((s0 = 0 → B_PV_street_118 Γ K35 K l0 l1 l2 l3 l5 l6 l7 l8 l9 s0 l4 g) ∧ (¬ (s0 = 0) → B_PV_street_119 Γ K35 K l0 l1 l2 l3 l5 l6 l7 l8 l9 s0 (1 : Int32) l4 g))))
set_option maxHeartbeats 4000000 in
set_option maxRecDepth 100000 in
theorem S_PV_street_100 {Γ : GAM} {E : EV} {K : Int32 → GH → Prop} (hE : GE Γ E cX10_street 11 RX10 (some (.int)) 3 64 (fun r g' => ∃ x, r = some (.int x) ∧ K x g')) {K35 : Nat → Int32 → Int32 → Int32 → Int32 → Int32 → Int32 → Int32 → GH → Prop} (hK35 : ∀ (l0 : Nat) (l1 : Int32) (l2 : Int32) (l3 : Int32) (l4 : Int32) (l5 : Int32) (l6 : Int32) (l7 : Int32) (g : GH), K35 l0 l1 l2 l3 l4 l5 l6 l7 g → JW Γ E 35 [some (.ref l0), some (.int l1), some (.int l2), some (.int l3), some (.int l4), some (.int l5), some (.int l6), some (.int l7), none, none, none] [] g) (l0 : Nat) (l1 : Int32) (l2 : Int32) (l3 : Int32) (l4 : Int32) (l5 : Int32) (l6 : Int32) (l7 : Int32) (l8 : Nat) (l9 : Int32) (s0 : Int32) (g : GH) (h : B_PV_street_100 Γ K35 K l0 l1 l2 l3 l4 l5 l6 l7 l8 l9 s0 g) : JW Γ E 100 [some (.ref l0), some (.int l1), some (.int l2), some (.int l3), some (.int l4), some (.int l5), some (.int l6), some (.int l7), some (.ref l8), some (.int l9), none] [.int s0] g := by
  unfold B_PV_street_100 at h
  refine j_istore hE (by decide +kernel : decode cX10_street 100 = .ok (.istore 10, 2)) (Nat.le_of_ble_eq_true rfl) rfl ?_
  refine j_iload hE (by decide +kernel : decode cX10_street 102 = .ok (.iload 4, 2)) rfl ?_
  refine j_iload hE (by decide +kernel : decode cX10_street 104 = .ok (.iload 9, 2)) rfl ?_
  refine j_if_eq hE (by decide +kernel : decode cX10_street 106 = .ok (.ifCond .eq 12, 3)) (tgt := 118) (by decide) (fun q => ?_) (fun q => ?_)
  · replace h := h.1 q
    refine j_weak [some (.ref l0), some (.int l1), some (.int l2), some (.int l3), none, some (.int l5), some (.int l6), some (.int l7), some (.ref l8), some (.int l9), some (.int s0)] ⟨rfl, ⟨rfl, ⟨rfl, ⟨rfl, ⟨rfl, ⟨rfl, ⟨rfl, ⟨rfl, ⟨rfl, ⟨rfl, trivial⟩⟩⟩⟩⟩⟩⟩⟩⟩⟩ ?_
    exact S_PV_street_118 hE hK35 _ _ _ _ _ _ _ _ _ _ _ _ h
  · replace h := h.2 q
    refine j_iload hE (by decide +kernel : decode cX10_street 109 = .ok (.iload 10, 2)) rfl ?_
    refine j_if_eq hE (by decide +kernel : decode cX10_street 111 = .ok (.ifCond .eq 7, 3)) (tgt := 118) (by decide) (fun q => ?_) (fun q => ?_)
    · replace h := h.1 q
      refine j_weak [some (.ref l0), some (.int l1), some (.int l2), some (.int l3), none, some (.int l5), some (.int l6), some (.int l7), some (.ref l8), some (.int l9), some (.int s0)] ⟨rfl, ⟨rfl, ⟨rfl, ⟨rfl, ⟨rfl, ⟨rfl, ⟨rfl, ⟨rfl, ⟨rfl, ⟨rfl, trivial⟩⟩⟩⟩⟩⟩⟩⟩⟩⟩ ?_
      exact S_PV_street_118 hE hK35 _ _ _ _ _ _ _ _ _ _ _ _ h
    · replace h := h.2 q
      refine j_iconst hE (by decide +kernel : decode cX10_street 114 = .ok (.iconst 1, 1)) (v := (1 : Int32)) (by decide) ?_
      refine j_goto hE (by decide +kernel : decode cX10_street 115 = .ok (.goto 4, 3)) (tgt := 119) (by decide) ?_
      refine j_weak [some (.ref l0), some (.int l1), some (.int l2), some (.int l3), none, some (.int l5), some (.int l6), some (.int l7), some (.ref l8), some (.int l9), some (.int s0)] ⟨rfl, ⟨rfl, ⟨rfl, ⟨rfl, ⟨rfl, ⟨rfl, ⟨rfl, ⟨rfl, ⟨rfl, ⟨rfl, trivial⟩⟩⟩⟩⟩⟩⟩⟩⟩⟩ ?_
      exact S_PV_street_119 hE hK35 _ _ _ _ _ _ _ _ _ _ _ _ _ h
set_option maxRecDepth 100000 in
def B_PV_street_81 (Γ : GAM) (K35 : Nat → Int32 → Int32 → Int32 → Int32 → Int32 → Int32 → Int32 → GH → Prop) (K : Int32 → GH → Prop) (l0 : Nat) (l1 : Int32) (l2 : Int32) (l3 : Int32) (l4 : Int32) (l5 : Int32) (l6 : Int32) (l7 : Int32) (l8 : Nat) (s0 : Int32) (g : GH) : Prop :=
  Kd g l8 = 2 ∧ ∃ a1 : Nat, Gr g 129 l8 = some a1 ∧ Kd g a1 = 11 ∧ ((¬ ((Gi g 1281 a1) = l2) → B_PV_street_100 Γ K35 K l0 l1 l2 l3 l4 l5 l6 l7 l8 s0 (0 : Int32) g) ∧ ((Gi g 1281 a1) = l2 → B_PV_street_100 Γ K35 K l0 l1 l2 l3 l4 l5 l6 l7 l8 s0 (1 : Int32) g))
set_option maxHeartbeats 4000000 in
set_option maxRecDepth 100000 in
theorem S_PV_street_81 {Γ : GAM} {E : EV} {K : Int32 → GH → Prop} (hE : GE Γ E cX10_street 11 RX10 (some (.int)) 3 64 (fun r g' => ∃ x, r = some (.int x) ∧ K x g')) {K35 : Nat → Int32 → Int32 → Int32 → Int32 → Int32 → Int32 → Int32 → GH → Prop} (hK35 : ∀ (l0 : Nat) (l1 : Int32) (l2 : Int32) (l3 : Int32) (l4 : Int32) (l5 : Int32) (l6 : Int32) (l7 : Int32) (g : GH), K35 l0 l1 l2 l3 l4 l5 l6 l7 g → JW Γ E 35 [some (.ref l0), some (.int l1), some (.int l2), some (.int l3), some (.int l4), some (.int l5), some (.int l6), some (.int l7), none, none, none] [] g) (l0 : Nat) (l1 : Int32) (l2 : Int32) (l3 : Int32) (l4 : Int32) (l5 : Int32) (l6 : Int32) (l7 : Int32) (l8 : Nat) (s0 : Int32) (g : GH) (h : B_PV_street_81 Γ K35 K l0 l1 l2 l3 l4 l5 l6 l7 l8 s0 g) : JW Γ E 81 [some (.ref l0), some (.int l1), some (.int l2), some (.int l3), some (.int l4), some (.int l5), some (.int l6), some (.int l7), some (.ref l8), none, none] [.int s0] g := by
  unfold B_PV_street_81 at h
  refine j_istore hE (by decide +kernel : decode cX10_street 81 = .ok (.istore 9, 2)) (Nat.le_of_ble_eq_true rfl) rfl ?_
  refine j_aload hE (by decide +kernel : decode cX10_street 83 = .ok (.aload 8, 2)) rfl ?_
  obtain ⟨hk, h⟩ := h
  obtain ⟨a1, ha, h⟩ := h
  refine j_getRn hE fg_X10_313 hk ha (by decide +kernel : decode cX10_street 85 = .ok (.getfield 313, 3)) ?_
  obtain ⟨hk, h⟩ := h
  refine j_getI hE fg_X10_317 hk (by decide +kernel : decode cX10_street 88 = .ok (.getfield 317, 3)) ?_
  refine j_iload_n hE (by decide +kernel : decode cX10_street 91 = .ok (.iload_n 2, 1)) rfl rfl ?_
  refine j_icmp_ne hE (by decide +kernel : decode cX10_street 92 = .ok (.if_icmp .ne 7, 3)) (tgt := 99) (by decide) (fun q => ?_) (fun q => ?_)
  · replace h := h.1 q
    refine j_iconst hE (by decide +kernel : decode cX10_street 99 = .ok (.iconst 0, 1)) (v := (0 : Int32)) (by decide) ?_
    exact S_PV_street_100 hE hK35 _ _ _ _ _ _ _ _ _ _ _ _ h
  · replace h := h.2 q
    refine j_iconst hE (by decide +kernel : decode cX10_street 95 = .ok (.iconst 1, 1)) (v := (1 : Int32)) (by decide) ?_
    refine j_goto hE (by decide +kernel : decode cX10_street 96 = .ok (.goto 4, 3)) (tgt := 100) (by decide) ?_
    exact S_PV_street_100 hE hK35 _ _ _ _ _ _ _ _ _ _ _ _ h
set_option maxRecDepth 100000 in
def B_PV_street_35 (Γ : GAM) (K35 : Nat → Int32 → Int32 → Int32 → Int32 → Int32 → Int32 → Int32 → GH → Prop) (K : Int32 → GH → Prop) (l0 : Nat) (l1 : Int32) (l2 : Int32) (l3 : Int32) (l4 : Int32) (l5 : Int32) (l6 : Int32) (l7 : Int32) (g : GH) : Prop :=
  Kd g l0 = 12 ∧ ∃ a1 : Nat, Gr g 1410 l0 = some a1 ∧ Kd g a1 = 6 ∧ ∃ a2 : Nat, Gr g 641 a1 = some a2 ∧ Kd g a2 = 1 ∧ Sp_AL_size Γ a2 g (fun (x4 : Int32) (g3 : GH) => ((x4 ≤ l7 → Kd g3 l0 = 12 ∧ ((l4 < (Gi g3 1409 l0) → B_PV_street_204 Γ K35 K l6 g3) ∧ (¬ (l4 < (Gi g3 1409 l0)) → ((l5 = 0 → B_PV_street_200 Γ K35 K l6 g3) ∧ (¬ (l5 = 0) → Kd g3 l0 = 12 ∧ ((l5 < (Gi g3 1409 l0) → B_PV_street_204 Γ K35 K l6 g3) ∧ (¬ (l5 < (Gi g3 1409 l0)) → B_PV_street_200 Γ K35 K l6 g3))))))) ∧ (¬ (x4 ≤ l7) → Kd g3 l0 = 12 ∧ ∃ a5 : Nat, Gr g3 1410 l0 = some a5 ∧ Kd g3 a5 = 6 ∧ ∃ a6 : Nat, Gr g3 641 a5 = some a6 ∧ Kd g3 a6 = 1 ∧ Sp_AL_get Γ a6 l7 g3 (fun (a8 : Nat) (g7 : GH) => Kd g7 a8 = 2 ∧ Kd g7 a8 = 2 ∧ ((¬ ((Gi g7 134 a8) = l1) → B_PV_street_81 Γ K35 K l0 l1 l2 l3 l4 l5 l6 l7 a8 (0 : Int32) g7) ∧ ((Gi g7 134 a8) = l1 → B_PV_street_81 Γ K35 K l0 l1 l2 l3 l4 l5 l6 l7 a8 (1 : Int32) g7))))))
set_option maxHeartbeats 4000000 in
set_option maxRecDepth 100000 in
theorem S_PV_street_35 {Γ : GAM} {E : EV} {K : Int32 → GH → Prop} (hE : GE Γ E cX10_street 11 RX10 (some (.int)) 3 64 (fun r g' => ∃ x, r = some (.int x) ∧ K x g')) {K35 : Nat → Int32 → Int32 → Int32 → Int32 → Int32 → Int32 → Int32 → GH → Prop} (hK35 : ∀ (l0 : Nat) (l1 : Int32) (l2 : Int32) (l3 : Int32) (l4 : Int32) (l5 : Int32) (l6 : Int32) (l7 : Int32) (g : GH), K35 l0 l1 l2 l3 l4 l5 l6 l7 g → JW Γ E 35 [some (.ref l0), some (.int l1), some (.int l2), some (.int l3), some (.int l4), some (.int l5), some (.int l6), some (.int l7), none, none, none] [] g) (l0 : Nat) (l1 : Int32) (l2 : Int32) (l3 : Int32) (l4 : Int32) (l5 : Int32) (l6 : Int32) (l7 : Int32) (g : GH) (h : B_PV_street_35 Γ K35 K l0 l1 l2 l3 l4 l5 l6 l7 g) : JW Γ E 35 [some (.ref l0), some (.int l1), some (.int l2), some (.int l3), some (.int l4), some (.int l5), some (.int l6), some (.int l7), none, none, none] [] g := by
  unfold B_PV_street_35 at h
  refine j_iload hE (by decide +kernel : decode cX10_street 35 = .ok (.iload 7, 2)) rfl ?_
  refine j_aload_n hE (by decide +kernel : decode cX10_street 37 = .ok (.aload_n 0, 1)) rfl rfl ?_
  obtain ⟨hk, h⟩ := h
  obtain ⟨a1, ha, h⟩ := h
  refine j_getRn hE fg_X10_16 hk ha (by decide +kernel : decode cX10_street 38 = .ok (.getfield 16, 3)) ?_
  obtain ⟨hk, h⟩ := h
  obtain ⟨a2, ha, h⟩ := h
  refine j_getRn hE fg_X10_124 hk ha (by decide +kernel : decode cX10_street 41 = .ok (.getfield 124, 3)) ?_
  obtain ⟨hk, h⟩ := h
  refine j_callV hE rfl cl_X10_84 cf_0 im_Jx4a65c_size_8abf5 se_Jx4a65c_size_8abf5 ⟨by omega, by omega⟩ (As := []) (rest := [.int l7]) rfl rfl (Nat.le_of_ble_eq_true rfl) hk (by decide +kernel : decode cX10_street 44 = .ok (.invokevirtual 84, 3)) (mt_AL_size _ _ _ h) ?_
  rintro _ g3 ⟨x4, rfl, h⟩
  refine j_icmp_ge hE (by decide +kernel : decode cX10_street 47 = .ok (.if_icmp .ge 130, 3)) (tgt := 177) (by decide) (fun q => ?_) (fun q => ?_)
  · replace h := h.1 q
    refine j_iload hE (by decide +kernel : decode cX10_street 177 = .ok (.iload 4, 2)) rfl ?_
    refine j_aload_n hE (by decide +kernel : decode cX10_street 179 = .ok (.aload_n 0, 1)) rfl rfl ?_
    obtain ⟨hk, h⟩ := h
    refine j_getI hE fg_X10_9 hk (by decide +kernel : decode cX10_street 180 = .ok (.getfield 9, 3)) ?_
    refine j_icmp_lt hE (by decide +kernel : decode cX10_street 183 = .ok (.if_icmp .lt 21, 3)) (tgt := 204) (by decide) (fun q => ?_) (fun q => ?_)
    · replace h := h.1 q
      refine j_weak [none, none, none, none, none, none, some (.int l6), none, none, none, none] ⟨rfl, trivial⟩ ?_
      exact S_PV_street_204 hE hK35 _ _ h
    · replace h := h.2 q
      refine j_iload hE (by decide +kernel : decode cX10_street 186 = .ok (.iload 5, 2)) rfl ?_
      refine j_if_eq hE (by decide +kernel : decode cX10_street 188 = .ok (.ifCond .eq 12, 3)) (tgt := 200) (by decide) (fun q => ?_) (fun q => ?_)
      · replace h := h.1 q
        refine j_weak [none, none, none, none, none, none, some (.int l6), none, none, none, none] ⟨rfl, trivial⟩ ?_
        exact S_PV_street_200 hE hK35 _ _ h
      · replace h := h.2 q
        refine j_iload hE (by decide +kernel : decode cX10_street 191 = .ok (.iload 5, 2)) rfl ?_
        refine j_aload_n hE (by decide +kernel : decode cX10_street 193 = .ok (.aload_n 0, 1)) rfl rfl ?_
        obtain ⟨hk, h⟩ := h
        refine j_getI hE fg_X10_9 hk (by decide +kernel : decode cX10_street 194 = .ok (.getfield 9, 3)) ?_
        refine j_icmp_lt hE (by decide +kernel : decode cX10_street 197 = .ok (.if_icmp .lt 7, 3)) (tgt := 204) (by decide) (fun q => ?_) (fun q => ?_)
        · replace h := h.1 q
          refine j_weak [none, none, none, none, none, none, some (.int l6), none, none, none, none] ⟨rfl, trivial⟩ ?_
          exact S_PV_street_204 hE hK35 _ _ h
        · replace h := h.2 q
          refine j_weak [none, none, none, none, none, none, some (.int l6), none, none, none, none] ⟨rfl, trivial⟩ ?_
          exact S_PV_street_200 hE hK35 _ _ h
  · replace h := h.2 q
    refine j_aload_n hE (by decide +kernel : decode cX10_street 50 = .ok (.aload_n 0, 1)) rfl rfl ?_
    obtain ⟨hk, h⟩ := h
    obtain ⟨a5, ha, h⟩ := h
    refine j_getRn hE fg_X10_16 hk ha (by decide +kernel : decode cX10_street 51 = .ok (.getfield 16, 3)) ?_
    obtain ⟨hk, h⟩ := h
    obtain ⟨a6, ha, h⟩ := h
    refine j_getRn hE fg_X10_124 hk ha (by decide +kernel : decode cX10_street 54 = .ok (.getfield 124, 3)) ?_
    refine j_iload hE (by decide +kernel : decode cX10_street 57 = .ok (.iload 7, 2)) rfl ?_
    obtain ⟨hk, h⟩ := h
    refine j_callV hE rfl cl_X10_147 cf_0 im_Jx4a65c_get_915e3 se_Jx4a65c_get_915e3 ⟨by omega, by omega⟩ (As := [.int l7]) (rest := []) rfl rfl (Nat.le_of_ble_eq_true rfl) hk (by decide +kernel : decode cX10_street 59 = .ok (.invokevirtual 147, 3)) (mt_AL_get _ _ _ _ h) ?_
    rintro _ g7 ⟨a8, rfl, h⟩
    obtain ⟨hk, h⟩ := h
    refine j_cast hE cf_1 ck_X10_127 hk (by decide +kernel : decode cX10_street 62 = .ok (.checkcast 127, 3)) ?_
    refine j_astore hE (by decide +kernel : decode cX10_street 65 = .ok (.astore 8, 2)) (Nat.le_of_ble_eq_true rfl) rfl ?_
    refine j_aload hE (by decide +kernel : decode cX10_street 67 = .ok (.aload 8, 2)) rfl ?_
    obtain ⟨hk, h⟩ := h
    refine j_getI hE fg_X10_348 hk (by decide +kernel : decode cX10_street 69 = .ok (.getfield 348, 3)) ?_
    refine j_iload_n hE (by decide +kernel : decode cX10_street 72 = .ok (.iload_n 1, 1)) rfl rfl ?_
    refine j_icmp_ne hE (by decide +kernel : decode cX10_street 73 = .ok (.if_icmp .ne 7, 3)) (tgt := 80) (by decide) (fun q => ?_) (fun q => ?_)
    · replace h := h.1 q
      refine j_iconst hE (by decide +kernel : decode cX10_street 80 = .ok (.iconst 0, 1)) (v := (0 : Int32)) (by decide) ?_
      exact S_PV_street_81 hE hK35 _ _ _ _ _ _ _ _ _ _ _ h
    · replace h := h.2 q
      refine j_iconst hE (by decide +kernel : decode cX10_street 76 = .ok (.iconst 1, 1)) (v := (1 : Int32)) (by decide) ?_
      refine j_goto hE (by decide +kernel : decode cX10_street 77 = .ok (.goto 4, 3)) (tgt := 81) (by decide) ?_
      exact S_PV_street_81 hE hK35 _ _ _ _ _ _ _ _ _ _ _ h
set_option maxRecDepth 100000 in
def B_PV_street_21 (Γ : GAM) (K35 : Nat → Int32 → Int32 → Int32 → Int32 → Int32 → Int32 → Int32 → GH → Prop) (K : Int32 → GH → Prop)  (g : GH) : Prop :=
  K (-1 : Int32) g
set_option maxHeartbeats 4000000 in
set_option maxRecDepth 100000 in
theorem S_PV_street_21 {Γ : GAM} {E : EV} {K : Int32 → GH → Prop} (hE : GE Γ E cX10_street 11 RX10 (some (.int)) 3 64 (fun r g' => ∃ x, r = some (.int x) ∧ K x g')) {K35 : Nat → Int32 → Int32 → Int32 → Int32 → Int32 → Int32 → Int32 → GH → Prop} (hK35 : ∀ (l0 : Nat) (l1 : Int32) (l2 : Int32) (l3 : Int32) (l4 : Int32) (l5 : Int32) (l6 : Int32) (l7 : Int32) (g : GH), K35 l0 l1 l2 l3 l4 l5 l6 l7 g → JW Γ E 35 [some (.ref l0), some (.int l1), some (.int l2), some (.int l3), some (.int l4), some (.int l5), some (.int l6), some (.int l7), none, none, none] [] g)  (g : GH) (h : B_PV_street_21 Γ K35 K  g) : JW Γ E 21 [none, none, none, none, none, none, none, none, none, none, none] [] g := by
  unfold B_PV_street_21 at h
  refine j_iconst hE (by decide +kernel : decode cX10_street 21 = .ok (.iconst (-1), 1)) (v := (-1 : Int32)) (by decide) ?_
  exact j_iret hE (by decide +kernel : decode cX10_street 22 = .ok (.ireturn, 1)) ⟨_, rfl, h⟩
set_option maxRecDepth 100000 in
def B_PV_street_0 (Γ : GAM) (K35 : Nat → Int32 → Int32 → Int32 → Int32 → Int32 → Int32 → Int32 → GH → Prop) (K : Int32 → GH → Prop) (th : Nat) (p0 : Int32) (p1 : Int32) (p2 : Int32) (g : GH) : Prop :=
  Sp_PV_isShire Γ p0 g (fun (x2 : Int32) (g1 : GH) => ((x2 = 0 → B_PV_street_21 Γ K35 K g1) ∧ (¬ (x2 = 0) → Sp_PV_isStreet Γ p1 g1 (fun (x4 : Int32) (g3 : GH) => ((x4 = 0 → B_PV_street_21 Γ K35 K g3) ∧ (¬ (x4 = 0) → Sp_PV_isChoice Γ p2 g3 (fun (x6 : Int32) (g5 : GH) => ((¬ (x6 = 0) → K35 th p0 p1 p2 (0 : Int32) (0 : Int32) (0 : Int32) (0 : Int32) g5) ∧ (x6 = 0 → B_PV_street_21 Γ K35 K g5)))))))))
set_option maxHeartbeats 4000000 in
set_option maxRecDepth 100000 in
theorem S_PV_street_0 {Γ : GAM} {E : EV} {K : Int32 → GH → Prop} (hE : GE Γ E cX10_street 11 RX10 (some (.int)) 3 64 (fun r g' => ∃ x, r = some (.int x) ∧ K x g')) {K35 : Nat → Int32 → Int32 → Int32 → Int32 → Int32 → Int32 → Int32 → GH → Prop} (hK35 : ∀ (l0 : Nat) (l1 : Int32) (l2 : Int32) (l3 : Int32) (l4 : Int32) (l5 : Int32) (l6 : Int32) (l7 : Int32) (g : GH), K35 l0 l1 l2 l3 l4 l5 l6 l7 g → JW Γ E 35 [some (.ref l0), some (.int l1), some (.int l2), some (.int l3), some (.int l4), some (.int l5), some (.int l6), some (.int l7), none, none, none] [] g) (th : Nat) (p0 : Int32) (p1 : Int32) (p2 : Int32) (g : GH) (h : B_PV_street_0 Γ K35 K th p0 p1 p2 g) : JW Γ E 0 [some (.ref th), some (.int p0), some (.int p1), some (.int p2), none, none, none, none, none, none, none] [] g := by
  unfold B_PV_street_0 at h
  refine j_iload_n hE (by decide +kernel : decode cX10_street 0 = .ok (.iload_n 1, 1)) rfl rfl ?_
  refine j_callS hE rfl cl_X10_71 st_X10_isShire ⟨by omega, by omega⟩ (As := [.int p0]) (rest := []) rfl rfl (Nat.le_of_ble_eq_true rfl) (by decide +kernel : decode cX10_street 1 = .ok (.invokestatic 71, 3)) (mt_PV_isShire _ _ _ h) ?_
  rintro _ g1 ⟨x2, rfl, h⟩
  refine j_if_eq hE (by decide +kernel : decode cX10_street 4 = .ok (.ifCond .eq 17, 3)) (tgt := 21) (by decide) (fun q => ?_) (fun q => ?_)
  · replace h := h.1 q
    refine j_weak [none, none, none, none, none, none, none, none, none, none, none] trivial ?_
    exact S_PV_street_21 hE hK35 _ h
  · replace h := h.2 q
    refine j_iload_n hE (by decide +kernel : decode cX10_street 7 = .ok (.iload_n 2, 1)) rfl rfl ?_
    refine j_callS hE rfl cl_X10_75 st_X10_isStreet ⟨by omega, by omega⟩ (As := [.int p1]) (rest := []) rfl rfl (Nat.le_of_ble_eq_true rfl) (by decide +kernel : decode cX10_street 8 = .ok (.invokestatic 75, 3)) (mt_PV_isStreet _ _ _ h) ?_
    rintro _ g3 ⟨x4, rfl, h⟩
    refine j_if_eq hE (by decide +kernel : decode cX10_street 11 = .ok (.ifCond .eq 10, 3)) (tgt := 21) (by decide) (fun q => ?_) (fun q => ?_)
    · replace h := h.1 q
      refine j_weak [none, none, none, none, none, none, none, none, none, none, none] trivial ?_
      exact S_PV_street_21 hE hK35 _ h
    · replace h := h.2 q
      refine j_iload_n hE (by decide +kernel : decode cX10_street 14 = .ok (.iload_n 3, 1)) rfl rfl ?_
      refine j_callS hE rfl cl_X10_121 st_X10_isChoice ⟨by omega, by omega⟩ (As := [.int p2]) (rest := []) rfl rfl (Nat.le_of_ble_eq_true rfl) (by decide +kernel : decode cX10_street 15 = .ok (.invokestatic 121, 3)) (mt_PV_isChoice _ _ _ h) ?_
      rintro _ g5 ⟨x6, rfl, h⟩
      refine j_if_ne hE (by decide +kernel : decode cX10_street 18 = .ok (.ifCond .ne 5, 3)) (tgt := 23) (by decide) (fun q => ?_) (fun q => ?_)
      · replace h := h.1 q
        refine j_iconst hE (by decide +kernel : decode cX10_street 23 = .ok (.iconst 0, 1)) (v := (0 : Int32)) (by decide) ?_
        refine j_istore hE (by decide +kernel : decode cX10_street 24 = .ok (.istore 4, 2)) (Nat.le_of_ble_eq_true rfl) rfl ?_
        refine j_iconst hE (by decide +kernel : decode cX10_street 26 = .ok (.iconst 0, 1)) (v := (0 : Int32)) (by decide) ?_
        refine j_istore hE (by decide +kernel : decode cX10_street 27 = .ok (.istore 5, 2)) (Nat.le_of_ble_eq_true rfl) rfl ?_
        refine j_iconst hE (by decide +kernel : decode cX10_street 29 = .ok (.iconst 0, 1)) (v := (0 : Int32)) (by decide) ?_
        refine j_istore hE (by decide +kernel : decode cX10_street 30 = .ok (.istore 6, 2)) (Nat.le_of_ble_eq_true rfl) rfl ?_
        refine j_iconst hE (by decide +kernel : decode cX10_street 32 = .ok (.iconst 0, 1)) (v := (0 : Int32)) (by decide) ?_
        refine j_istore hE (by decide +kernel : decode cX10_street 33 = .ok (.istore 7, 2)) (Nat.le_of_ble_eq_true rfl) rfl ?_
        exact hK35 _ _ _ _ _ _ _ _ _ h
      · replace h := h.2 q
        refine j_weak [none, none, none, none, none, none, none, none, none, none, none] trivial ?_
        exact S_PV_street_21 hE hK35 _ h
set_option maxHeartbeats 4000000 in
set_option maxRecDepth 100000 in
theorem rl_PV_street {Γ : GAM} {l : Launch} {th : Nat} {p0 : Int32} {p1 : Int32} {p2 : Int32} {g : GH} {K : Int32 → GH → Prop} (I35 : Nat → Nat → Int32 → Int32 → Int32 → Int32 → Int32 → Int32 → Int32 → GH → Prop) (hh35 : ∀ n (l0 : Nat) (l1 : Int32) (l2 : Int32) (l3 : Int32) (l4 : Int32) (l5 : Int32) (l6 : Int32) (l7 : Int32) (g : GH), I35 n l0 l1 l2 l3 l4 l5 l6 l7 g → B_PV_street_35 Γ (fun l0 l1 l2 l3 l4 l5 l6 l7 g => ∃ m, m < n ∧ I35 m l0 l1 l2 l3 l4 l5 l6 l7 g) K l0 l1 l2 l3 l4 l5 l6 l7 g) (h0 : B_PV_street_0 Γ (fun l0 l1 l2 l3 l4 l5 l6 l7 g => ∃ m, I35 m l0 l1 l2 l3 l4 l5 l6 l7 g) K th p0 p1 p2 g) : MetA Γ l yX10_street cX10_street 11 (some (.int)) 3 64 [.ref th, .int p0, .int p1, .int p2] g (fun r g' => ∃ x, r = some (.int x) ∧ K x g') := by
  refine MetA.introL (Lx := [some (.ref th), some (.int p0), some (.int p1), some (.int p2), none, none, none, none, none, none, none]) (by decide) (Nat.le_of_ble_eq_true rfl) rfl rfl ?_
  intro E hEl hE hnm
  have hall : ∀ n, (∀ (l0 : Nat) (l1 : Int32) (l2 : Int32) (l3 : Int32) (l4 : Int32) (l5 : Int32) (l6 : Int32) (l7 : Int32) (g : GH), I35 n l0 l1 l2 l3 l4 l5 l6 l7 g → JW Γ E 35 [some (.ref l0), some (.int l1), some (.int l2), some (.int l3), some (.int l4), some (.int l5), some (.int l6), some (.int l7), none, none, none] [] g) := by
    intro n
    induction n using Nat.strongRecOn with
    | ind n ih =>
      exact fun l0 l1 l2 l3 l4 l5 l6 l7 g hi => S_PV_street_35 hE (fun l0 l1 l2 l3 l4 l5 l6 l7 g hm => by obtain ⟨m, hm, h⟩ := hm; exact (ih m hm) l0 l1 l2 l3 l4 l5 l6 l7 g h) l0 l1 l2 l3 l4 l5 l6 l7 g (hh35 n l0 l1 l2 l3 l4 l5 l6 l7 g hi)
  exact S_PV_street_0 hE (fun l0 l1 l2 l3 l4 l5 l6 l7 g hm => by obtain ⟨m, h⟩ := hm; exact (hall m) l0 l1 l2 l3 l4 l5 l6 l7 g h) th p0 p1 p2 g h0
theorem mt_PV_street {Γ : GAM} {l : Launch} (th : Nat) (p0 : Int32) (p1 : Int32) (p2 : Int32) (g : GH) (K : Int32 → GH → Prop) (h : Sp_PV_street Γ th p0 p1 p2 g K) : MetA Γ l yX10_street cX10_street 11 (some (.int)) 3 64 [.ref th, .int p0, .int p1, .int p2] g (fun r g' => ∃ x, r = some (.int x) ∧ K x g') := by
  obtain ⟨C, s, n, rfl, hI, hW, hR, hK⟩ := PVC.e h
  have he := hI.en
  obtain ⟨hkd, ⟨h1, h2⟩, -, -, -, -, hnow, hsiz⟩ := hI.pk
  have hP := hI.2.2.2.2.2.2.1
  have hlen := hW.len
  unfold p_street at hK
  have hno : ¬ ok_street p0 p1 p2 → K (-1) g := fun u => hK C g _ _ (if_neg u) rfl (FrC.rf he) rfl hI hR.dn
  have hyes : ok_street p0 p1 p2 → K (stE s (sStk s p0 p1 p2 (s_env s).length)) g := fun u => hK C g _ _ (if_pos u) rfl (FrC.rf he) rfl hI hR.dn
  obtain ⟨⟨-, z2, z3, z4⟩, -⟩ := hP.sz
  refine rl_PV_street (fun n l0 l1 l2 l3 l4 l5 l6 l7 g' => g = g' ∧ ok_street p0 p1 p2 ∧ c_x C = l0 ∧ p0 = l1 ∧ p1 = l2 ∧ p2 = l3 ∧ ∃ k, k ≤ (s_env s).length ∧ n = (s_env s).length - k ∧ l7 = nI k ∧ (l4, l5, l6) = sStk s p0 p1 p2 k) ?_ ?_
  · rintro n l0 l1 l2 l3 l4 l5 l6 l7 g' ⟨rfl, ok, rfl, rfl, rfl, rfl, k, hk, rfl, rfl, hf⟩
    suffices H : ∀ K35 : Nat → Int32 → Int32 → Int32 → Int32 → Int32 → Int32 → Int32 → GH → Prop, (∀ a b c x, (s_env s)[k]? = some x → (a, b, c) = stS s p0 p1 p2 (l4, l5, l6) (x, k) → K35 (c_x C) p0 p1 p2 a b c (nI (k + 1)) g) → B_PV_street_35 Γ K35 K (c_x C) p0 p1 p2 l4 l5 l6 (nI k) g from
      H _ (fun a b c x hx ha => ⟨(s_env s).length - (k + 1), by have := (List.getElem?_eq_some_iff.mp hx).1; omega, rfl, ok, rfl, rfl, rfl, rfl, k + 1, (List.getElem?_eq_some_iff.mp hx).1, rfl, rfl, by unfold sStk at hf ⊢; rw [fold_take _ _ _ (zip_get hx), ← hf]; exact ha⟩)
    intro K35 hn
    unfold B_PV_street_35
    refine ⟨hkd, _, h1, h2, _, z2, z3, hP.esz ?_⟩
    rw [nj_le (by omega) (by omega)]
    refine ⟨fun u => ⟨hkd, ?_⟩, fun u => ⟨hkd, _, h1, h2, _, z2, z3, hP.eget (by omega) (fun x hx hE => ?_)⟩⟩
    · have hkl : k = (s_env s).length := by omega
      subst hkl
      have hK' := hyes ok
      obtain ⟨j, hj1, hj2⟩ := sStk_n (s := s) (sh := p0) (st := p1) (c := p2) (s_env s).length
      rw [← hf] at hK' hj2
      simp only at hj2
      unfold stE at hK'
      simp only at hK'
      unfold B_PV_street_204 B_PV_street_200 B_PV_street_205 B_PV_street_219
      rw [hsiz]
      have e0 : (l5 ≤ 0) ↔ (l5 = 0) := by
        rw [hj2]
        exact ⟨fun z => by have := (nj_le (b := 0) (by omega) (by omega)).mp z; rw [show j = 0 by omega]; rfl, fun z => by rw [z]; exact Int32.le_refl _⟩
      refine ⟨fun u => ⟨fun _ => ?_, fun z => absurd rfl z⟩, fun u => ⟨fun u2 => ⟨fun z => absurd z (by decide), fun _ => ?_⟩, fun u2 => ⟨hkd, fun u3 => ⟨fun _ => ?_, fun z => absurd rfl z⟩, fun u3 => ⟨fun z => absurd z (by decide), fun _ => ?_⟩⟩⟩⟩
      · rw [if_pos u] at hK'; exact hK'
      · rw [if_neg u, if_pos (e0.mpr u2)] at hK'; exact hK'
      · rw [if_neg u, if_neg (fun z => u2 (e0.mp z)), if_neg (fun z => absurd u3 (Int32.not_lt.mpr z))] at hK'; exact hK'
      · rw [if_neg u, if_neg (fun z => u2 (e0.mp z)), if_pos (Int32.not_lt.mp u3)] at hK'; exact hK'
    · obtain ⟨y, w, L, y1, w1, hEB, -, -⟩ := hE
      obtain ⟨⟨x1, x2⟩, ⟨w2, w3, w4⟩, ⟨_, _, hch, _⟩, -⟩ := id hEB
      obtain ⟨z, Lv, zz1, hVO, -, -⟩ := hP.2.2.2.1.2.2.1 _ w w1
      have hst : Gi g 1281 w = (sVoter s y.1).2.1 := by
        rw [hVO.2.1.2.1]; unfold sVoter; rw [zz1]; rfl
      have hn' := fun a b c => hn a b c y y1
      have hhs := hP.2.2.2.2.2.1 k x hx
      have h100 : ∀ a b : Int32, K35 (c_x C) p0 p1 p2 (if a = 0 then l4 else if b = 0 then l4 else l4 + 1) (if a = 0 then l5 else if b = 0 then l5 + 1 else l5) (if a = 0 then l6 else if b = 0 then l6 else if y.2.2.2 = p2 then l6 + 1 else l6) (nI (k + 1)) g → B_PV_street_100 Γ K35 K (c_x C) p0 p1 p2 l4 l5 l6 (nI k) x a b g := fun a b h => by
        have z10 : ¬ ((1 : Int32) = 0) := by decide
        unfold B_PV_street_100 B_PV_street_118 B_PV_street_119 B_PV_street_138 B_PV_street_139 B_PV_street_167 B_PV_street_168
        rw [← nj_s] at h
        rw [hch]
        have a0 : ∀ q : Int32, q + 0 = q := fun q => Int32.add_zero q
        refine ⟨fun ua => ?_, fun ua => ⟨fun ub => ?_, fun ub => ?_⟩⟩
        · rw [if_pos ua, if_pos ua, if_pos ua] at h
          rintro _ rfl
          refine ⟨fun _ => ?_, fun q => absurd ua q⟩
          rintro _ rfl
          refine ⟨fun _ => ?_, fun q => absurd ua q⟩
          rintro _ rfl
          rw [a0, a0, a0]; exact h
        · rw [if_neg ua, if_neg ua, if_neg ua, if_pos ub, if_pos ub, if_pos ub] at h
          rintro _ rfl
          refine ⟨fun q => absurd q ua, fun _ => ⟨fun q => absurd ub q, fun _ => ?_⟩⟩
          rintro _ rfl
          refine ⟨fun q => absurd q ua, fun _ => ⟨fun _ => ?_, fun q => absurd ub q⟩⟩
          rintro _ rfl
          rw [a0, a0]; exact h
        · rw [if_neg ua, if_neg ua, if_neg ua, if_neg ub, if_neg ub, if_neg ub] at h
          rintro _ rfl
          refine ⟨fun q => absurd q ua, fun _ => ⟨fun _ => ?_, fun q => absurd q ub⟩⟩
          rintro _ rfl
          refine ⟨fun q => absurd q ua, fun _ => ⟨fun q => absurd q ub, fun _ => ⟨x2, fun uc => ?_, fun uc => ?_⟩⟩⟩
          · rintro _ rfl
            rw [if_neg uc] at h
            rw [a0, a0]; exact h
          · rintro _ rfl
            rw [if_pos uc] at h
            rw [a0]; exact h
      have h81 : ∀ a : Int32, (a = 0 ↔ ¬ hsh s k = p0) → B_PV_street_81 Γ K35 K (c_x C) p0 p1 p2 l4 l5 l6 (nI k) x a g := fun a ha => by
        unfold B_PV_street_81
        refine ⟨x2, w, w4, w3, ?_⟩
        rw [hst]
        have hfin : ∀ b : Int32, (b = 0 ↔ ¬ (sVoter s y.1).2.1 = p1) → B_PV_street_100 Γ K35 K (c_x C) p0 p1 p2 l4 l5 l6 (nI k) x a b g := fun b hb => by
          refine h100 a b (hn' _ _ _ ?_)
          have hh := hsh_sh hW (e := k) ok.1.1
          unfold stS
          simp only
          by_cases q : hsh s k = p0
          · obtain ⟨q1, q2⟩ := hh.mp q
            rw [if_neg (c := a = 0) (fun z => ha.mp z q), if_neg (c := a = 0) (fun z => ha.mp z q), if_neg (c := a = 0) (fun z => ha.mp z q), if_neg (c := s_hof s k = 0) q1, if_pos q2]
            by_cases q3 : (sVoter s y.1).2.1 = p1
            · rw [if_neg (c := b = 0) (fun z => hb.mp z q3), if_neg (c := b = 0) (fun z => hb.mp z q3), if_neg (c := b = 0) (fun z => hb.mp z q3), if_pos q3, Int32.add_zero]
              by_cases q4 : y.2.2.2 = p2
              · rw [if_pos q4, if_pos q4]
              · rw [if_neg q4, if_neg q4, Int32.add_zero]
            · rw [if_pos (c := b = 0) (hb.mpr q3), if_pos (c := b = 0) (hb.mpr q3), if_pos (c := b = 0) (hb.mpr q3), if_neg q3, Int32.add_zero, Int32.add_zero]
          · rw [if_pos (c := a = 0) (ha.mpr q), if_pos (c := a = 0) (ha.mpr q), if_pos (c := a = 0) (ha.mpr q)]
            by_cases q1 : s_hof s k = 0
            · rw [if_pos q1]
            · rw [if_neg q1, if_neg (fun z => q (hh.mpr ⟨q1, z⟩))]
        exact ⟨fun q => hfin 0 ⟨fun _ => q, fun _ => rfl⟩, fun q => hfin 1 ⟨fun z => absurd z (by decide), fun z => absurd q z⟩⟩
      rw [hhs]
      exact ⟨x2, x2, fun q => h81 0 ⟨fun _ => q, fun _ => rfl⟩, fun q => h81 1 ⟨fun z => absurd z (by decide), fun z => absurd q z⟩⟩
  · unfold B_PV_street_0 B_PV_street_21
    exact pv_ite (fun u => hno (fun z => u z.1)) (fun u => pv_ite (fun u2 => hno (fun z => u2 z.2.1)) (fun u2 => pv_ite' (fun u3 => hno (fun z => u3 z.2.2)) (fun u3 => ⟨_, rfl, ⟨u, u2, u3⟩, rfl, rfl, rfl, rfl, 0, Nat.zero_le _, rfl, nj_0, rfl⟩)))
