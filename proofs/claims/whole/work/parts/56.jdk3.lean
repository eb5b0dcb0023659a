/-! ArrayList and the helpers of the JDK -/
def Sp_AbsCol_init (Γ : GAM) (th : Nat) (g : GH) (K : GH → Prop) : Prop := K g
-- the walk of AbsCol_init
set_option maxRecDepth 100000 in
def B_AbsCol_init_0 (Γ : GAM) (K : GH → Prop) (th : Nat) (g : GH) : Prop :=
  K g
set_option maxHeartbeats 4000000 in
set_option maxRecDepth 100000 in
theorem S_AbsCol_init_0 {Γ : GAM} {E : EV} {K : GH → Prop} (hE : GE Γ E cJxa1e45_init_da8c8 1 RJxa1e45 none 1 20 (fun r g' => r = none ∧ K g')) (hnm : E.2.2.2.2.2.2.2.2.1.name = "<init>") (th : Nat) (g : GH) (h : B_AbsCol_init_0 Γ K th g) : JW Γ E 0 [some (.ref th)] [] g := by
  unfold B_AbsCol_init_0 at h
  refine j_aload_n hE (by decide +kernel : decode cJxa1e45_init_da8c8 0 = .ok (.aload_n 0, 1)) rfl rfl ?_
  refine j_objInit hE rfl ol_Jxa1e45 oi_in oi_code (Nat.le_of_ble_eq_true rfl) (by omega) (by omega) (by decide +kernel : decode cJxa1e45_init_da8c8 1 = .ok (.invokespecial 1, 3)) ?_
  exact j_vret hE (by decide +kernel : decode cJxa1e45_init_da8c8 4 = .ok (.return_, 1)) ⟨rfl, h⟩
set_option maxHeartbeats 4000000 in
set_option maxRecDepth 100000 in
theorem rl_AbsCol_init {Γ : GAM} {l : Launch} {th : Nat} {g : GH} {K : GH → Prop} (h0 : B_AbsCol_init_0 Γ K th g) : MetA Γ l yJxa1e45_init_da8c8 cJxa1e45_init_da8c8 1 none 1 20 [.ref th] g (fun r g' => r = none ∧ K g') := by
  refine MetA.introL (Lx := [some (.ref th)]) (by decide) (Nat.le_of_ble_eq_true rfl) rfl rfl ?_
  intro E hEl hE hnm
  exact S_AbsCol_init_0 hE hnm th g h0
theorem mt_AbsCol_init {Γ : GAM} {l : Launch} (th : Nat) (g : GH) (K : GH → Prop) (h : Sp_AbsCol_init Γ th g K) : MetA Γ l yJxa1e45_init_da8c8 cJxa1e45_init_da8c8 1 none 1 20 [.ref th] g (fun r g' => r = none ∧ K g') := by
  exact rl_AbsCol_init h
def Sp_AbsList_init (Γ : GAM) (th : Nat) (g : GH) (K : GH → Prop) : Prop := Kd g th = 1 ∧ ∀ g2, g2 = sI g 0 th 0 → K g2
-- the walk of AbsList_init
set_option maxRecDepth 100000 in
def B_AbsList_init_0 (Γ : GAM) (K : GH → Prop) (th : Nat) (g : GH) : Prop :=
  Sp_AbsCol_init Γ th g (fun (g1 : GH) => Kd g1 th = 1 ∧ ∀ g2 : GH, g2 = sI g1 0 th (0 : Int32) → K g2)
set_option maxHeartbeats 4000000 in
set_option maxRecDepth 100000 in
theorem S_AbsList_init_0 {Γ : GAM} {E : EV} {K : GH → Prop} (hE : GE Γ E cJxc12de_init_da8c8 1 RJxc12de none 2 40 (fun r g' => r = none ∧ K g')) (hnm : E.2.2.2.2.2.2.2.2.1.name = "<init>") (th : Nat) (g : GH) (h : B_AbsList_init_0 Γ K th g) : JW Γ E 0 [some (.ref th)] [] g := by
  unfold B_AbsList_init_0 at h
  refine j_aload_n hE (by decide +kernel : decode cJxc12de_init_da8c8 0 = .ok (.aload_n 0, 1)) rfl rfl ?_
  refine j_callI hE rfl cl_Jxc12de_1 im_Jxa1e45_init_da8c8 rfl ⟨by omega, by omega⟩ (As := []) (rest := []) (b := th) rfl rfl (Nat.le_of_ble_eq_true rfl) (by decide +kernel : decode cJxc12de_init_da8c8 1 = .ok (.invokespecial 1, 3)) (mt_AbsCol_init _ _ _ h) ?_
  rintro _ g1 ⟨rfl, h⟩
  refine j_aload_n hE (by decide +kernel : decode cJxc12de_init_da8c8 4 = .ok (.aload_n 0, 1)) rfl rfl ?_
  refine j_iconst hE (by decide +kernel : decode cJxc12de_init_da8c8 5 = .ok (.iconst 0, 1)) (v := (0 : Int32)) (by decide) ?_
  obtain ⟨hk, h⟩ := h
  obtain ⟨g2, hg⟩ : ∃ z, z = sI g1 0 th (0 : Int32) := ⟨_, rfl⟩; replace h := h g2 hg
  refine j_putI hE fa_Jxc12de_7 hk (fun q => by cases q) (by decide +kernel : decode cJxc12de_init_da8c8 6 = .ok (.putfield 7, 3)) ?_
  rw [← hg]
  exact j_vret hE (by decide +kernel : decode cJxc12de_init_da8c8 9 = .ok (.return_, 1)) ⟨rfl, h⟩
set_option maxHeartbeats 4000000 in
set_option maxRecDepth 100000 in
theorem rl_AbsList_init {Γ : GAM} {l : Launch} {th : Nat} {g : GH} {K : GH → Prop} (h0 : B_AbsList_init_0 Γ K th g) : MetA Γ l yJxc12de_init_da8c8 cJxc12de_init_da8c8 1 none 2 40 [.ref th] g (fun r g' => r = none ∧ K g') := by
  refine MetA.introL (Lx := [some (.ref th)]) (by decide) (Nat.le_of_ble_eq_true rfl) rfl rfl ?_
  intro E hEl hE hnm
  exact S_AbsList_init_0 hE hnm th g h0
theorem mt_AbsList_init {Γ : GAM} {l : Launch} (th : Nat) (g : GH) (K : GH → Prop) (h : Sp_AbsList_init Γ th g K) : MetA Γ l yJxc12de_init_da8c8 cJxc12de_init_da8c8 1 none 2 40 [.ref th] g (fun r g' => r = none ∧ K g') := by
  exact rl_AbsList_init h
def Sp_AL_init (Γ : GAM) (th : Nat) (g : GH) (K : GH → Prop) : Prop := Kd g th = 1 ∧ ∀ g2, g2 = sR (sI g 0 th 0) 1 th (some Γ.2.2.2) → K g2
-- the walk of AL_init
set_option maxRecDepth 100000 in
def B_AL_init_0 (Γ : GAM) (K : GH → Prop) (th : Nat) (g : GH) : Prop :=
  Sp_AbsList_init Γ th g (fun (g1 : GH) => Kd g1 th = 1 ∧ ∀ g2 : GH, g2 = sR g1 1 th (some (Γ.2.2.2)) → K g2)
set_option maxHeartbeats 4000000 in
set_option maxRecDepth 100000 in
theorem S_AL_init_0 {Γ : GAM} {E : EV} {K : GH → Prop} (hE : GE Γ E cJx4a65c_init_da8c8 1 RJx4a65c none 3 60 (fun r g' => r = none ∧ K g')) (hnm : E.2.2.2.2.2.2.2.2.1.name = "<init>") (th : Nat) (g : GH) (h : B_AL_init_0 Γ K th g) : JW Γ E 0 [some (.ref th)] [] g := by
  unfold B_AL_init_0 at h
  refine j_aload_n hE (by decide +kernel : decode cJx4a65c_init_da8c8 0 = .ok (.aload_n 0, 1)) rfl rfl ?_
  refine j_callI hE rfl cl_Jx4a65c_1 im_Jxc12de_init_da8c8 rfl ⟨by omega, by omega⟩ (As := []) (rest := []) (b := th) rfl rfl (Nat.le_of_ble_eq_true rfl) (by decide +kernel : decode cJx4a65c_init_da8c8 1 = .ok (.invokespecial 1, 3)) (mt_AbsList_init _ _ _ h) ?_
  rintro _ g1 ⟨rfl, h⟩
  refine j_aload_n hE (by decide +kernel : decode cJx4a65c_init_da8c8 4 = .ok (.aload_n 0, 1)) rfl rfl ?_
  refine j_getE hE (gw_of ge_fieldLink gg_fl (List.mem_of_getElem? (i := 0) rfl)) (by decide +kernel : decode cJx4a65c_init_da8c8 5 = .ok (.getstatic 39, 3)) ?_
  obtain ⟨hk, h⟩ := h
  obtain ⟨g2, hg⟩ : ∃ z, z = sR g1 1 th (some (Γ.2.2.2)) := ⟨_, rfl⟩; replace h := h g2 hg
  refine j_putR (v := (some (Γ.2.2.2))) hE fa_Jx4a65c_9 hk (fun q => by cases q) (by decide +kernel : decode cJx4a65c_init_da8c8 8 = .ok (.putfield 9, 3)) ?_
  rw [← hg]
  exact j_vret hE (by decide +kernel : decode cJx4a65c_init_da8c8 11 = .ok (.return_, 1)) ⟨rfl, h⟩
set_option maxHeartbeats 4000000 in
set_option maxRecDepth 100000 in
theorem rl_AL_init {Γ : GAM} {l : Launch} {th : Nat} {g : GH} {K : GH → Prop} (h0 : B_AL_init_0 Γ K th g) : MetA Γ l yJx4a65c_init_da8c8 cJx4a65c_init_da8c8 1 none 3 60 [.ref th] g (fun r g' => r = none ∧ K g') := by
  refine MetA.introL (Lx := [some (.ref th)]) (by decide) (Nat.le_of_ble_eq_true rfl) rfl rfl ?_
  intro E hEl hE hnm
  exact S_AL_init_0 hE hnm th g h0
theorem mt_AL_init {Γ : GAM} {l : Launch} (th : Nat) (g : GH) (K : GH → Prop) (h : Sp_AL_init Γ th g K) : MetA Γ l yJx4a65c_init_da8c8 cJx4a65c_init_da8c8 1 none 3 60 [.ref th] g (fun r g' => r = none ∧ K g') := by
  refine rl_AL_init ⟨h.1, ?_⟩
  rintro g2 rfl
  exact ⟨h.1, h.2⟩
def Sp_AL_size (Γ : GAM) (th : Nat) (g : GH) (K : Int32 → GH → Prop) : Prop := Kd g th = 1 ∧ K (Gi g 2 th) g
-- the walk of AL_size
set_option maxRecDepth 100000 in
def B_AL_size_0 (Γ : GAM) (K : Int32 → GH → Prop) (th : Nat) (g : GH) : Prop :=
  Kd g th = 1 ∧ K (Gi g 2 th) g
set_option maxHeartbeats 4000000 in
set_option maxRecDepth 100000 in
theorem S_AL_size_0 {Γ : GAM} {E : EV} {K : Int32 → GH → Prop} (hE : GE Γ E cJx4a65c_size_8abf5 1 RJx4a65c (some (.int)) 0 0 (fun r g' => ∃ x, r = some (.int x) ∧ K x g')) (th : Nat) (g : GH) (h : B_AL_size_0 Γ K th g) : JW Γ E 0 [some (.ref th)] [] g := by
  unfold B_AL_size_0 at h
  refine j_aload_n hE (by decide +kernel : decode cJx4a65c_size_8abf5 0 = .ok (.aload_n 0, 1)) rfl rfl ?_
  obtain ⟨hk, h⟩ := h
  refine j_getI hE fg_Jx4a65c_48 hk (by decide +kernel : decode cJx4a65c_size_8abf5 1 = .ok (.getfield 48, 3)) ?_
  exact j_iret hE (by decide +kernel : decode cJx4a65c_size_8abf5 4 = .ok (.ireturn, 1)) ⟨_, rfl, h⟩
set_option maxHeartbeats 4000000 in
set_option maxRecDepth 100000 in
theorem rl_AL_size {Γ : GAM} {l : Launch} {th : Nat} {g : GH} {K : Int32 → GH → Prop} (h0 : B_AL_size_0 Γ K th g) : MetA Γ l yJx4a65c_size_8abf5 cJx4a65c_size_8abf5 1 (some (.int)) 0 0 [.ref th] g (fun r g' => ∃ x, r = some (.int x) ∧ K x g') := by
  refine MetA.introL (Lx := [some (.ref th)]) (by decide) (Nat.le_of_ble_eq_true rfl) rfl rfl ?_
  intro E hEl hE hnm
  exact S_AL_size_0 hE th g h0
theorem mt_AL_size {Γ : GAM} {l : Launch} (th : Nat) (g : GH) (K : Int32 → GH → Prop) (h : Sp_AL_size Γ th g K) : MetA Γ l yJx4a65c_size_8abf5 cJx4a65c_size_8abf5 1 (some (.int)) 0 0 [.ref th] g (fun r g' => ∃ x, r = some (.int x) ∧ K x g') := by
  exact rl_AL_size h
def Sp_AL_isEmpty (Γ : GAM) (th : Nat) (g : GH) (K : Int32 → GH → Prop) : Prop := Kd g th = 1 ∧ K (if Gi g 2 th = 0 then 1 else 0) g
-- the walk of AL_isEmpty
set_option maxRecDepth 100000 in
def B_AL_isEmpty_12 (Γ : GAM) (K : Int32 → GH → Prop) (s0 : Int32) (g : GH) : Prop :=
  ((s0 = 0 ∨ s0 = 1) ∧ K s0 g)
set_option maxHeartbeats 4000000 in
set_option maxRecDepth 100000 in
theorem S_AL_isEmpty_12 {Γ : GAM} {E : EV} {K : Int32 → GH → Prop} (hE : GE Γ E cJx4a65c_isEmpty_aae02 1 RJx4a65c (some (.boolean)) 0 0 (fun r g' => ∃ x, r = some (.int x) ∧ K x g')) (s0 : Int32) (g : GH) (h : B_AL_isEmpty_12 Γ K s0 g) : JW Γ E 12 [none] [.int s0] g := by
  unfold B_AL_isEmpty_12 at h
  exact j_zret hE h.1 (by decide +kernel : decode cJx4a65c_isEmpty_aae02 12 = .ok (.ireturn, 1)) ⟨_, rfl, h.2⟩
set_option maxRecDepth 100000 in
def B_AL_isEmpty_0 (Γ : GAM) (K : Int32 → GH → Prop) (th : Nat) (g : GH) : Prop :=
  Kd g th = 1 ∧ ((¬ ((Gi g 2 th) = 0) → B_AL_isEmpty_12 Γ K (0 : Int32) g) ∧ ((Gi g 2 th) = 0 → B_AL_isEmpty_12 Γ K (1 : Int32) g))
set_option maxHeartbeats 4000000 in
set_option maxRecDepth 100000 in
theorem S_AL_isEmpty_0 {Γ : GAM} {E : EV} {K : Int32 → GH → Prop} (hE : GE Γ E cJx4a65c_isEmpty_aae02 1 RJx4a65c (some (.boolean)) 0 0 (fun r g' => ∃ x, r = some (.int x) ∧ K x g')) (th : Nat) (g : GH) (h : B_AL_isEmpty_0 Γ K th g) : JW Γ E 0 [some (.ref th)] [] g := by
  unfold B_AL_isEmpty_0 at h
  refine j_aload_n hE (by decide +kernel : decode cJx4a65c_isEmpty_aae02 0 = .ok (.aload_n 0, 1)) rfl rfl ?_
  obtain ⟨hk, h⟩ := h
  refine j_getI hE fg_Jx4a65c_48 hk (by decide +kernel : decode cJx4a65c_isEmpty_aae02 1 = .ok (.getfield 48, 3)) ?_
  refine j_if_ne hE (by decide +kernel : decode cJx4a65c_isEmpty_aae02 4 = .ok (.ifCond .ne 7, 3)) (tgt := 11) (by decide) (fun q => ?_) (fun q => ?_)
  · replace h := h.1 q
    refine j_iconst hE (by decide +kernel : decode cJx4a65c_isEmpty_aae02 11 = .ok (.iconst 0, 1)) (v := (0 : Int32)) (by decide) ?_
    refine j_weak [none] trivial ?_
    exact S_AL_isEmpty_12 hE _ _ h
  · replace h := h.2 q
    refine j_iconst hE (by decide +kernel : decode cJx4a65c_isEmpty_aae02 7 = .ok (.iconst 1, 1)) (v := (1 : Int32)) (by decide) ?_
    refine j_goto hE (by decide +kernel : decode cJx4a65c_isEmpty_aae02 8 = .ok (.goto 4, 3)) (tgt := 12) (by decide) ?_
    refine j_weak [none] trivial ?_
    exact S_AL_isEmpty_12 hE _ _ h
set_option maxHeartbeats 4000000 in
set_option maxRecDepth 100000 in
theorem rl_AL_isEmpty {Γ : GAM} {l : Launch} {th : Nat} {g : GH} {K : Int32 → GH → Prop} (h0 : B_AL_isEmpty_0 Γ K th g) : MetA Γ l yJx4a65c_isEmpty_aae02 cJx4a65c_isEmpty_aae02 1 (some (.boolean)) 0 0 [.ref th] g (fun r g' => ∃ x, r = some (.int x) ∧ K x g') := by
  refine MetA.introL (Lx := [some (.ref th)]) (by decide) (Nat.le_of_ble_eq_true rfl) rfl rfl ?_
  intro E hEl hE hnm
  exact S_AL_isEmpty_0 hE th g h0
theorem mt_AL_isEmpty {Γ : GAM} {l : Launch} (th : Nat) (g : GH) (K : Int32 → GH → Prop) (h : Sp_AL_isEmpty Γ th g K) : MetA Γ l yJx4a65c_isEmpty_aae02 cJx4a65c_isEmpty_aae02 1 (some (.boolean)) 0 0 [.ref th] g (fun r g' => ∃ x, r = some (.int x) ∧ K x g') := by
  obtain ⟨h1, h2⟩ := h
  refine rl_AL_isEmpty ⟨h1, fun q => ⟨.inl rfl, ?_⟩, fun q => ⟨.inr rfl, ?_⟩⟩
  · rw [if_neg q] at h2; exact h2
  · rw [if_pos q] at h2; exact h2
theorem AC.at {Γ : GAM} {g : GH} {al : Nat} {xs : List Nat} (h : AC Γ g al xs) {k x : Nat} (hx : xs[k]? = some x) : ∃ d, Gr g 1 al = some d ∧ Kd g d = 22 ∧ k < Ln g d ∧ Co g d = 1 ∧ Ow g d = al ∧ Ra g 1 al k = some x := by
  obtain ⟨⟨h1, h2⟩, h3, h4, d, ⟨h5, h6, h7⟩, h8, h9, h10, h11⟩ := h
  have hk := (List.getElem?_eq_some_iff.mp hx).1
  rcases h10 with ⟨_, z, _⟩ | ⟨z1, z2, z3⟩
  · omega
  · exact ⟨d, h5, h7, by omega, z2, z3, h11 k x hx⟩
def Sp_AL_elementData (Γ : GAM) (th : Nat) (p0 : Int32) (g : GH) (K : Nat → GH → Prop) : Prop := ∃ xs k x, AC Γ g th xs ∧ p0 = nI k ∧ xs[k]? = some x ∧ K x g
-- the walk of AL_elementData
set_option maxRecDepth 100000 in
def B_AL_elementData_0 (Γ : GAM) (K : Nat → GH → Prop) (th : Nat) (p0 : Int32) (g : GH) : Prop :=
  Kd g th = 1 ∧ ∃ a1 : Nat, Gr g 1 th = some a1 ∧ Kd g a1 = 22 ∧ inB p0 (Ln g a1) ∧ ∃ a2 : Nat, (Ra g (Co g a1) (Ow g a1) p0.toNatClampNeg) = some a2 ∧ K a2 g
set_option maxHeartbeats 4000000 in
set_option maxRecDepth 100000 in
theorem S_AL_elementData_0 {Γ : GAM} {E : EV} {K : Nat → GH → Prop} (hE : GE Γ E cJx4a65c_elementData_915e3 2 RJx4a65c (some (.object "java/lang/Object")) 0 0 (fun r g' => ∃ x, r = some (.ref x) ∧ K x g')) (th : Nat) (p0 : Int32) (g : GH) (h : B_AL_elementData_0 Γ K th p0 g) : JW Γ E 0 [some (.ref th), some (.int p0)] [] g := by
  unfold B_AL_elementData_0 at h
  refine j_aload_n hE (by decide +kernel : decode cJx4a65c_elementData_915e3 0 = .ok (.aload_n 0, 1)) rfl rfl ?_
  obtain ⟨hk, h⟩ := h
  obtain ⟨a1, ha, h⟩ := h
  refine j_getRn hE fg_Jx4a65c_9 hk ha (by decide +kernel : decode cJx4a65c_elementData_915e3 1 = .ok (.getfield 9, 3)) ?_
  refine j_iload_n hE (by decide +kernel : decode cJx4a65c_elementData_915e3 4 = .ok (.iload_n 1, 1)) rfl rfl ?_
  obtain ⟨hk, hb, h⟩ := h
  refine j_aald hE hk hb (by decide +kernel : decode cJx4a65c_elementData_915e3 5 = .ok (.aaload, 1)) ?_
  obtain ⟨a2, ha, h⟩ := h
  rw [ha]
  exact j_aret (v := some a2) hE (Or.inl ⟨_, rfl⟩) (by decide +kernel : decode cJx4a65c_elementData_915e3 6 = .ok (.areturn, 1)) ⟨_, rfl, h⟩
set_option maxHeartbeats 4000000 in
set_option maxRecDepth 100000 in
theorem rl_AL_elementData {Γ : GAM} {l : Launch} {th : Nat} {p0 : Int32} {g : GH} {K : Nat → GH → Prop} (h0 : B_AL_elementData_0 Γ K th p0 g) : MetA Γ l yJx4a65c_elementData_915e3 cJx4a65c_elementData_915e3 2 (some (.object "java/lang/Object")) 0 0 [.ref th, .int p0] g (fun r g' => ∃ x, r = some (.ref x) ∧ K x g') := by
  refine MetA.introL (Lx := [some (.ref th), some (.int p0)]) (by decide) (Nat.le_of_ble_eq_true rfl) rfl rfl ?_
  intro E hEl hE hnm
  exact S_AL_elementData_0 hE th p0 g h0
theorem mt_AL_elementData {Γ : GAM} {l : Launch} (th : Nat) (p0 : Int32) (g : GH) (K : Nat → GH → Prop) (h : Sp_AL_elementData Γ th p0 g K) : MetA Γ l yJx4a65c_elementData_915e3 cJx4a65c_elementData_915e3 2 (some (.object "java/lang/Object")) 0 0 [.ref th, .int p0] g (fun r g' => ∃ x, r = some (.ref x) ∧ K x g') := by
  obtain ⟨xs, k, x, hA, rfl, hx, hK⟩ := h
  obtain ⟨d, d1, d2, d3, d4, d5, d6⟩ := hA.at hx
  have hk := (List.getElem?_eq_some_iff.mp hx).1
  have hl := hA.2.2.1
  refine rl_AL_elementData ⟨hA.1.2, d, d1, d2, inB_nI d3 (by have := hA.2.2.2; obtain ⟨d', ⟨q1, _⟩, _, q2, _⟩ := this; rw [d1] at q1; cases q1; omega), x, ?_, hK⟩
  rw [d4, d5, nj_cl (by omega)]
  exact d6
def Sp_Precond_checkIndex (Γ : GAM) (p0 p1 : Int32) (p2 : Option Nat) (g : GH) (K : Int32 → GH → Prop) : Prop := 0 ≤ p0 ∧ p0 < p1 ∧ K p0 g
-- the walk of Precond_checkIndex
set_option maxRecDepth 100000 in
def B_Precond_checkIndex_9 (Γ : GAM) (K : Int32 → GH → Prop) (l0 : Int32) (l1 : Int32) (l2 : Option Nat) (g : GH) : Prop :=
  False
set_option maxHeartbeats 4000000 in
set_option maxRecDepth 100000 in
theorem S_Precond_checkIndex_9 {Γ : GAM} {E : EV} {K : Int32 → GH → Prop} (hE : GE Γ E cJ3_checkIndex_8e157 3 RJ3 (some (.int)) 0 0 (fun r g' => ∃ x, r = some (.int x) ∧ K x g')) (l0 : Int32) (l1 : Int32) (l2 : Option Nat) (g : GH) (h : B_Precond_checkIndex_9 Γ K l0 l1 l2 g) : JW Γ E 9 [some (.int l0), some (.int l1), some (va_rf l2)] [] g := by
  unfold B_Precond_checkIndex_9 at h
  refine j_aload_nQ hE (by decide +kernel : decode cJ3_checkIndex_8e157 9 = .ok (.aload_n 2, 1)) rfl rfl ?_
  refine j_iload_n hE (by decide +kernel : decode cJ3_checkIndex_8e157 10 = .ok (.iload_n 0, 1)) rfl rfl ?_
  refine j_iload_n hE (by decide +kernel : decode cJ3_checkIndex_8e157 11 = .ok (.iload_n 1, 1)) rfl rfl ?_
  exact h.elim
set_option maxRecDepth 100000 in
def B_Precond_checkIndex_0 (Γ : GAM) (K : Int32 → GH → Prop) (p0 : Int32) (p1 : Int32) (p2 : Option Nat) (g : GH) : Prop :=
  ((p0 < 0 → B_Precond_checkIndex_9 Γ K p0 p1 p2 g) ∧ (¬ (p0 < 0) → ((p0 < p1 → K p0 g) ∧ (¬ (p0 < p1) → B_Precond_checkIndex_9 Γ K p0 p1 p2 g))))
set_option maxHeartbeats 4000000 in
set_option maxRecDepth 100000 in
theorem S_Precond_checkIndex_0 {Γ : GAM} {E : EV} {K : Int32 → GH → Prop} (hE : GE Γ E cJ3_checkIndex_8e157 3 RJ3 (some (.int)) 0 0 (fun r g' => ∃ x, r = some (.int x) ∧ K x g')) (p0 : Int32) (p1 : Int32) (p2 : Option Nat) (g : GH) (h : B_Precond_checkIndex_0 Γ K p0 p1 p2 g) : JW Γ E 0 [some (.int p0), some (.int p1), some (va_rf p2)] [] g := by
  unfold B_Precond_checkIndex_0 at h
  refine j_iload_n hE (by decide +kernel : decode cJ3_checkIndex_8e157 0 = .ok (.iload_n 0, 1)) rfl rfl ?_
  refine j_if_lt hE (by decide +kernel : decode cJ3_checkIndex_8e157 1 = .ok (.ifCond .lt 8, 3)) (tgt := 9) (by decide) (fun q => ?_) (fun q => ?_)
  · replace h := h.1 q
    exact S_Precond_checkIndex_9 hE _ _ _ _ h
  · replace h := h.2 q
    refine j_iload_n hE (by decide +kernel : decode cJ3_checkIndex_8e157 4 = .ok (.iload_n 0, 1)) rfl rfl ?_
    refine j_iload_n hE (by decide +kernel : decode cJ3_checkIndex_8e157 5 = .ok (.iload_n 1, 1)) rfl rfl ?_
    refine j_icmp_lt hE (by decide +kernel : decode cJ3_checkIndex_8e157 6 = .ok (.if_icmp .lt 10, 3)) (tgt := 16) (by decide) (fun q => ?_) (fun q => ?_)
    · replace h := h.1 q
      refine j_iload_n hE (by decide +kernel : decode cJ3_checkIndex_8e157 16 = .ok (.iload_n 0, 1)) rfl rfl ?_
      exact j_iret hE (by decide +kernel : decode cJ3_checkIndex_8e157 17 = .ok (.ireturn, 1)) ⟨_, rfl, h⟩
    · replace h := h.2 q
      exact S_Precond_checkIndex_9 hE _ _ _ _ h
set_option maxHeartbeats 4000000 in
set_option maxRecDepth 100000 in
theorem rl_Precond_checkIndex {Γ : GAM} {l : Launch} {p0 : Int32} {p1 : Int32} {p2 : Option Nat} {g : GH} {K : Int32 → GH → Prop} (h0 : B_Precond_checkIndex_0 Γ K p0 p1 p2 g) : MetA Γ l yJ3_checkIndex_8e157 cJ3_checkIndex_8e157 3 (some (.int)) 0 0 [.int p0, .int p1, va_rf p2] g (fun r g' => ∃ x, r = some (.int x) ∧ K x g') := by
  refine MetA.introL (Lx := [some (.int p0), some (.int p1), some (va_rf p2)]) (by decide) (by cases p2 <;> exact Nat.le_of_ble_eq_true rfl) rfl (by cases p2 <;> rfl) ?_
  intro E hEl hE hnm
  exact S_Precond_checkIndex_0 hE p0 p1 p2 g h0
theorem mt_Precond_checkIndex {Γ : GAM} {l : Launch} (p0 : Int32) (p1 : Int32) (p2 : Option Nat) (g : GH) (K : Int32 → GH → Prop) (h : Sp_Precond_checkIndex Γ p0 p1 p2 g K) : MetA Γ l yJ3_checkIndex_8e157 cJ3_checkIndex_8e157 3 (some (.int)) 0 0 [.int p0, .int p1, va_rf p2] g (fun r g' => ∃ x, r = some (.int x) ∧ K x g') := by
  exact rl_Precond_checkIndex ⟨fun q => absurd h.1 (Int32.not_le.mpr q), fun _ => ⟨fun _ => h.2.2, fun q => absurd h.2.1 q⟩⟩
def Sp_Objects_checkIndex (Γ : GAM) (p0 p1 : Int32) (g : GH) (K : Int32 → GH → Prop) : Prop := 0 ≤ p0 ∧ p0 < p1 ∧ K p0 g
-- the walk of Objects_checkIndex
set_option maxRecDepth 100000 in
def B_Objects_checkIndex_0 (Γ : GAM) (K : Int32 → GH → Prop) (p0 : Int32) (p1 : Int32) (g : GH) : Prop :=
  Sp_Precond_checkIndex Γ p0 p1 none g (fun (x2 : Int32) (g1 : GH) => K x2 g1)
set_option maxHeartbeats 4000000 in
set_option maxRecDepth 100000 in
theorem S_Objects_checkIndex_0 {Γ : GAM} {E : EV} {K : Int32 → GH → Prop} (hE : GE Γ E cJ15_checkIndex_7cf53 2 RJ15 (some (.int)) 1 22 (fun r g' => ∃ x, r = some (.int x) ∧ K x g')) (p0 : Int32) (p1 : Int32) (g : GH) (h : B_Objects_checkIndex_0 Γ K p0 p1 g) : JW Γ E 0 [some (.int p0), some (.int p1)] [] g := by
  unfold B_Objects_checkIndex_0 at h
  refine j_iload_n hE (by decide +kernel : decode cJ15_checkIndex_7cf53 0 = .ok (.iload_n 0, 1)) rfl rfl ?_
  refine j_iload_n hE (by decide +kernel : decode cJ15_checkIndex_7cf53 1 = .ok (.iload_n 1, 1)) rfl rfl ?_
  refine j_null hE (by decide +kernel : decode cJ15_checkIndex_7cf53 2 = .ok (.aconst_null, 1)) ?_
  refine j_callS hE rfl cl_J15_105 st_J3_checkIndex_8e157 ⟨by omega, by omega⟩ (As := [.int p0, .int p1, va_rf none]) (rest := []) rfl rfl (Nat.le_of_ble_eq_true rfl) (by decide +kernel : decode cJ15_checkIndex_7cf53 3 = .ok (.invokestatic 105, 3)) (mt_Precond_checkIndex _ _ _ _ _ h) ?_
  rintro _ g1 ⟨x2, rfl, h⟩
  exact j_iret hE (by decide +kernel : decode cJ15_checkIndex_7cf53 6 = .ok (.ireturn, 1)) ⟨_, rfl, h⟩
set_option maxHeartbeats 4000000 in
set_option maxRecDepth 100000 in
theorem rl_Objects_checkIndex {Γ : GAM} {l : Launch} {p0 : Int32} {p1 : Int32} {g : GH} {K : Int32 → GH → Prop} (h0 : B_Objects_checkIndex_0 Γ K p0 p1 g) : MetA Γ l yJ15_checkIndex_7cf53 cJ15_checkIndex_7cf53 2 (some (.int)) 1 22 [.int p0, .int p1] g (fun r g' => ∃ x, r = some (.int x) ∧ K x g') := by
  refine MetA.introL (Lx := [some (.int p0), some (.int p1)]) (by decide) (Nat.le_of_ble_eq_true rfl) rfl rfl ?_
  intro E hEl hE hnm
  exact S_Objects_checkIndex_0 hE p0 p1 g h0
theorem mt_Objects_checkIndex {Γ : GAM} {l : Launch} (p0 : Int32) (p1 : Int32) (g : GH) (K : Int32 → GH → Prop) (h : Sp_Objects_checkIndex Γ p0 p1 g K) : MetA Γ l yJ15_checkIndex_7cf53 cJ15_checkIndex_7cf53 2 (some (.int)) 1 22 [.int p0, .int p1] g (fun r g' => ∃ x, r = some (.int x) ∧ K x g') := by
  exact rl_Objects_checkIndex h
def Sp_AL_get (Γ : GAM) (th : Nat) (p0 : Int32) (g : GH) (K : Nat → GH → Prop) : Prop := ∃ xs k x, AC Γ g th xs ∧ p0 = nI k ∧ xs[k]? = some x ∧ K x g
-- the walk of AL_get
set_option maxRecDepth 100000 in
def B_AL_get_0 (Γ : GAM) (K : Nat → GH → Prop) (th : Nat) (p0 : Int32) (g : GH) : Prop :=
  Kd g th = 1 ∧ Sp_Objects_checkIndex Γ p0 (Gi g 2 th) g (fun (x2 : Int32) (g1 : GH) => Kd g1 th = 1 ∧ Sp_AL_elementData Γ th p0 g1 (fun (a4 : Nat) (g3 : GH) => K a4 g3))
set_option maxHeartbeats 4000000 in
set_option maxRecDepth 100000 in
theorem S_AL_get_0 {Γ : GAM} {E : EV} {K : Nat → GH → Prop} (hE : GE Γ E cJx4a65c_get_915e3 2 RJx4a65c (some (.object "java/lang/Object")) 2 43 (fun r g' => ∃ x, r = some (.ref x) ∧ K x g')) (th : Nat) (p0 : Int32) (g : GH) (h : B_AL_get_0 Γ K th p0 g) : JW Γ E 0 [some (.ref th), some (.int p0)] [] g := by
  unfold B_AL_get_0 at h
  refine j_iload_n hE (by decide +kernel : decode cJx4a65c_get_915e3 0 = .ok (.iload_n 1, 1)) rfl rfl ?_
  refine j_aload_n hE (by decide +kernel : decode cJx4a65c_get_915e3 1 = .ok (.aload_n 0, 1)) rfl rfl ?_
  obtain ⟨hk, h⟩ := h
  refine j_getI hE fg_Jx4a65c_48 hk (by decide +kernel : decode cJx4a65c_get_915e3 2 = .ok (.getfield 48, 3)) ?_
  refine j_callS hE rfl cl_Jx4a65c_118 st_J15_checkIndex_7cf53 ⟨by omega, by omega⟩ (As := [.int p0, .int (Gi g 2 th)]) (rest := []) rfl rfl (Nat.le_of_ble_eq_true rfl) (by decide +kernel : decode cJx4a65c_get_915e3 5 = .ok (.invokestatic 118, 3)) (mt_Objects_checkIndex _ _ _ _ h) ?_
  rintro _ g1 ⟨x2, rfl, h⟩
  refine j_pop hE (by decide +kernel : decode cJx4a65c_get_915e3 8 = .ok (.pop, 1)) rfl ?_
  refine j_aload_n hE (by decide +kernel : decode cJx4a65c_get_915e3 9 = .ok (.aload_n 0, 1)) rfl rfl ?_
  refine j_iload_n hE (by decide +kernel : decode cJx4a65c_get_915e3 10 = .ok (.iload_n 1, 1)) rfl rfl ?_
  obtain ⟨hk, h⟩ := h
  refine j_callV hE rfl cl_Jx4a65c_123 cf_0 im_Jx4a65c_elementData_915e3 se_Jx4a65c_elementData_915e3 ⟨by omega, by omega⟩ (As := [.int p0]) (rest := []) rfl rfl (Nat.le_of_ble_eq_true rfl) hk (by decide +kernel : decode cJx4a65c_get_915e3 11 = .ok (.invokevirtual 123, 3)) (mt_AL_elementData _ _ _ _ h) ?_
  rintro _ g3 ⟨a4, rfl, h⟩
  exact j_aret (v := some a4) hE (Or.inl ⟨_, rfl⟩) (by decide +kernel : decode cJx4a65c_get_915e3 14 = .ok (.areturn, 1)) ⟨_, rfl, h⟩
set_option maxHeartbeats 4000000 in
set_option maxRecDepth 100000 in
theorem rl_AL_get {Γ : GAM} {l : Launch} {th : Nat} {p0 : Int32} {g : GH} {K : Nat → GH → Prop} (h0 : B_AL_get_0 Γ K th p0 g) : MetA Γ l yJx4a65c_get_915e3 cJx4a65c_get_915e3 2 (some (.object "java/lang/Object")) 2 43 [.ref th, .int p0] g (fun r g' => ∃ x, r = some (.ref x) ∧ K x g') := by
  refine MetA.introL (Lx := [some (.ref th), some (.int p0)]) (by decide) (Nat.le_of_ble_eq_true rfl) rfl rfl ?_
  intro E hEl hE hnm
  exact S_AL_get_0 hE th p0 g h0
theorem mt_AL_get {Γ : GAM} {l : Launch} (th : Nat) (p0 : Int32) (g : GH) (K : Nat → GH → Prop) (h : Sp_AL_get Γ th p0 g K) : MetA Γ l yJx4a65c_get_915e3 cJx4a65c_get_915e3 2 (some (.object "java/lang/Object")) 2 43 [.ref th, .int p0] g (fun r g' => ∃ x, r = some (.ref x) ∧ K x g') := by
  obtain ⟨xs, k, x, hA, rfl, hx, hK⟩ := h
  have hk := (List.getElem?_eq_some_iff.mp hx).1
  have hl := hA.2.2.1
  refine rl_AL_get ⟨hA.1.2, nj_nneg (by omega), ?_, hA.1.2, xs, k, x, hA, rfl, hx, hK⟩
  rw [hA.2.1]
  exact (nj_lt (by omega) (by omega)).mpr hk
def Sp_AL_rangeCheckForAdd (Γ : GAM) (th : Nat) (p0 : Int32) (g : GH) (K : GH → Prop) : Prop := Kd g th = 1 ∧ 0 ≤ p0 ∧ p0 ≤ Gi g 2 th ∧ K g
-- the walk of AL_rangeCheckForAdd
set_option maxRecDepth 100000 in
def B_AL_rangeCheckForAdd_12 (Γ : GAM) (K : GH → Prop) (l0 : Nat) (l1 : Int32) (g : GH) : Prop :=
  False
set_option maxHeartbeats 4000000 in
set_option maxRecDepth 100000 in
theorem S_AL_rangeCheckForAdd_12 {Γ : GAM} {E : EV} {K : GH → Prop} (hE : GE Γ E cJx4a65c_rangeCheckForAdd_d00df 2 RJx4a65c none 0 0 (fun r g' => r = none ∧ K g')) (l0 : Nat) (l1 : Int32) (g : GH) (h : B_AL_rangeCheckForAdd_12 Γ K l0 l1 g) : JW Γ E 12 [some (.ref l0), some (.int l1)] [] g := by
  unfold B_AL_rangeCheckForAdd_12 at h
  exact h.elim
set_option maxRecDepth 100000 in
def B_AL_rangeCheckForAdd_0 (Γ : GAM) (K : GH → Prop) (th : Nat) (p0 : Int32) (g : GH) : Prop :=
  Kd g th = 1 ∧ (((Gi g 2 th) < p0 → B_AL_rangeCheckForAdd_12 Γ K th p0 g) ∧ (¬ ((Gi g 2 th) < p0) → ((0 ≤ p0 → K g) ∧ (¬ (0 ≤ p0) → B_AL_rangeCheckForAdd_12 Γ K th p0 g))))
set_option maxHeartbeats 4000000 in
set_option maxRecDepth 100000 in
theorem S_AL_rangeCheckForAdd_0 {Γ : GAM} {E : EV} {K : GH → Prop} (hE : GE Γ E cJx4a65c_rangeCheckForAdd_d00df 2 RJx4a65c none 0 0 (fun r g' => r = none ∧ K g')) (th : Nat) (p0 : Int32) (g : GH) (h : B_AL_rangeCheckForAdd_0 Γ K th p0 g) : JW Γ E 0 [some (.ref th), some (.int p0)] [] g := by
  unfold B_AL_rangeCheckForAdd_0 at h
  refine j_iload_n hE (by decide +kernel : decode cJx4a65c_rangeCheckForAdd_d00df 0 = .ok (.iload_n 1, 1)) rfl rfl ?_
  refine j_aload_n hE (by decide +kernel : decode cJx4a65c_rangeCheckForAdd_d00df 1 = .ok (.aload_n 0, 1)) rfl rfl ?_
  obtain ⟨hk, h⟩ := h
  refine j_getI hE fg_Jx4a65c_48 hk (by decide +kernel : decode cJx4a65c_rangeCheckForAdd_d00df 2 = .ok (.getfield 48, 3)) ?_
  refine j_icmp_gt hE (by decide +kernel : decode cJx4a65c_rangeCheckForAdd_d00df 5 = .ok (.if_icmp .gt 7, 3)) (tgt := 12) (by decide) (fun q => ?_) (fun q => ?_)
  · replace h := h.1 q
    exact S_AL_rangeCheckForAdd_12 hE _ _ _ h
  · replace h := h.2 q
    refine j_iload_n hE (by decide +kernel : decode cJx4a65c_rangeCheckForAdd_d00df 8 = .ok (.iload_n 1, 1)) rfl rfl ?_
    refine j_if_ge hE (by decide +kernel : decode cJx4a65c_rangeCheckForAdd_d00df 9 = .ok (.ifCond .ge 16, 3)) (tgt := 25) (by decide) (fun q => ?_) (fun q => ?_)
    · replace h := h.1 q
      exact j_vret hE (by decide +kernel : decode cJx4a65c_rangeCheckForAdd_d00df 25 = .ok (.return_, 1)) ⟨rfl, h⟩
    · replace h := h.2 q
      exact S_AL_rangeCheckForAdd_12 hE _ _ _ h
set_option maxHeartbeats 4000000 in
set_option maxRecDepth 100000 in
theorem rl_AL_rangeCheckForAdd {Γ : GAM} {l : Launch} {th : Nat} {p0 : Int32} {g : GH} {K : GH → Prop} (h0 : B_AL_rangeCheckForAdd_0 Γ K th p0 g) : MetA Γ l yJx4a65c_rangeCheckForAdd_d00df cJx4a65c_rangeCheckForAdd_d00df 2 none 0 0 [.ref th, .int p0] g (fun r g' => r = none ∧ K g') := by
  refine MetA.introL (Lx := [some (.ref th), some (.int p0)]) (by decide) (Nat.le_of_ble_eq_true rfl) rfl rfl ?_
  intro E hEl hE hnm
  exact S_AL_rangeCheckForAdd_0 hE th p0 g h0
theorem mt_AL_rangeCheckForAdd {Γ : GAM} {l : Launch} (th : Nat) (p0 : Int32) (g : GH) (K : GH → Prop) (h : Sp_AL_rangeCheckForAdd Γ th p0 g K) : MetA Γ l yJx4a65c_rangeCheckForAdd_d00df cJx4a65c_rangeCheckForAdd_d00df 2 none 0 0 [.ref th, .int p0] g (fun r g' => r = none ∧ K g') := by
  obtain ⟨h1, h2, h3, h4⟩ := h
  exact rl_AL_rangeCheckForAdd ⟨h1, fun q => absurd h3 (Int32.not_le.mpr q), fun _ => ⟨fun _ => h4, fun q => absurd h2 q⟩⟩
def Sp_AL_clear (Γ : GAM) (th : Nat) (g : GH) (K : GH → Prop) : Prop := ∃ xs, AC Γ g th xs ∧ ∀ g', Fr [] [] [th] g g' → AC Γ g' th [] → (Hn g' = Hn g ∧ Hu g' = Hu g ∧ Gr g' = Gr g ∧ Ln g' = Ln g) → K g'
-- the walk of AL_clear
set_option maxRecDepth 100000 in
def B_AL_clear_27 (Γ : GAM) (K27 : Nat → Int32 → Int32 → GH → Prop) (K : GH → Prop) (l1 : Nat) (l2 : Int32) (l3 : Int32) (g : GH) : Prop :=
  ((l2 ≤ l3 → K g) ∧ (¬ (l2 ≤ l3) → Kd g l1 = 22 ∧ inB l3 (Ln g l1) ∧ ∀ g1 : GH, g1 = sRA g (Co g l1) (Ow g l1) l3.toNatClampNeg none → K27 l1 l2 (l3 + (1 : Int32)) g1))
set_option maxHeartbeats 4000000 in
set_option maxRecDepth 100000 in
theorem S_AL_clear_27 {Γ : GAM} {E : EV} {K : GH → Prop} (hE : GE Γ E cJx4a65c_clear_da8c8 4 RJx4a65c none 0 0 (fun r g' => r = none ∧ K g')) {K27 : Nat → Int32 → Int32 → GH → Prop} (hK27 : ∀ (l1 : Nat) (l2 : Int32) (l3 : Int32) (g : GH), K27 l1 l2 l3 g → JW Γ E 27 [none, some (.ref l1), some (.int l2), some (.int l3)] [] g) (l1 : Nat) (l2 : Int32) (l3 : Int32) (g : GH) (h : B_AL_clear_27 Γ K27 K l1 l2 l3 g) : JW Γ E 27 [none, some (.ref l1), some (.int l2), some (.int l3)] [] g := by
  unfold B_AL_clear_27 at h
  refine j_iload_n hE (by decide +kernel : decode cJx4a65c_clear_da8c8 27 = .ok (.iload_n 3, 1)) rfl rfl ?_
  refine j_iload_n hE (by decide +kernel : decode cJx4a65c_clear_da8c8 28 = .ok (.iload_n 2, 1)) rfl rfl ?_
  refine j_icmp_ge hE (by decide +kernel : decode cJx4a65c_clear_da8c8 29 = .ok (.if_icmp .ge 13, 3)) (tgt := 42) (by decide) (fun q => ?_) (fun q => ?_)
  · replace h := h.1 q
    exact j_vret hE (by decide +kernel : decode cJx4a65c_clear_da8c8 42 = .ok (.return_, 1)) ⟨rfl, h⟩
  · replace h := h.2 q
    refine j_aload_n hE (by decide +kernel : decode cJx4a65c_clear_da8c8 32 = .ok (.aload_n 1, 1)) rfl rfl ?_
    refine j_iload_n hE (by decide +kernel : decode cJx4a65c_clear_da8c8 33 = .ok (.iload_n 3, 1)) rfl rfl ?_
    refine j_null hE (by decide +kernel : decode cJx4a65c_clear_da8c8 34 = .ok (.aconst_null, 1)) ?_
    obtain ⟨hk, hb, h⟩ := h
    obtain ⟨g1, hg⟩ : ∃ z, z = sRA g (Co g l1) (Ow g l1) l3.toNatClampNeg none := ⟨_, rfl⟩; replace h := h g1 hg
    refine j_aastN hE hk hb (by decide +kernel : decode cJx4a65c_clear_da8c8 35 = .ok (.aastore, 1)) ?_
    rw [← hg]
    refine j_iinc hE (by decide +kernel : decode cJx4a65c_clear_da8c8 36 = .ok (.iinc 3 1, 3)) (v := (1 : Int32)) (by decide) rfl (Nat.le_of_ble_eq_true rfl) rfl ?_
    refine j_goto hE (by decide +kernel : decode cJx4a65c_clear_da8c8 39 = .ok (.goto (-12), 3)) (tgt := 27) (by decide) ?_
    exact hK27 _ _ _ _ h
set_option maxRecDepth 100000 in
def B_AL_clear_0 (Γ : GAM) (K27 : Nat → Int32 → Int32 → GH → Prop) (K : GH → Prop) (th : Nat) (g : GH) : Prop :=
  Kd g th = 1 ∧ Kd g th = 1 ∧ ∀ g1 : GH, g1 = sI g 0 th ((Gi g 0 th) + (1 : Int32)) → Kd g1 th = 1 ∧ ∃ a2 : Nat, Gr g1 1 th = some a2 ∧ Kd g1 th = 1 ∧ ∀ x3 : Int32, x3 = (Gi g1 2 th) → Kd g1 th = 1 ∧ ∀ g4 : GH, g4 = sI g1 2 th (0 : Int32) → K27 a2 x3 (0 : Int32) g4
set_option maxHeartbeats 4000000 in
set_option maxRecDepth 100000 in
theorem S_AL_clear_0 {Γ : GAM} {E : EV} {K : GH → Prop} (hE : GE Γ E cJx4a65c_clear_da8c8 4 RJx4a65c none 0 0 (fun r g' => r = none ∧ K g')) {K27 : Nat → Int32 → Int32 → GH → Prop} (hK27 : ∀ (l1 : Nat) (l2 : Int32) (l3 : Int32) (g : GH), K27 l1 l2 l3 g → JW Γ E 27 [none, some (.ref l1), some (.int l2), some (.int l3)] [] g) (th : Nat) (g : GH) (h : B_AL_clear_0 Γ K27 K th g) : JW Γ E 0 [some (.ref th), none, none, none] [] g := by
  unfold B_AL_clear_0 at h
  refine j_aload_n hE (by decide +kernel : decode cJx4a65c_clear_da8c8 0 = .ok (.aload_n 0, 1)) rfl rfl ?_
  refine j_dup hE (by decide +kernel : decode cJx4a65c_clear_da8c8 1 = .ok (.dup, 1)) rfl ?_
  obtain ⟨hk, h⟩ := h
  refine j_getI hE fg_Jx4a65c_63 hk (by decide +kernel : decode cJx4a65c_clear_da8c8 2 = .ok (.getfield 63, 3)) ?_
  refine j_iconst hE (by decide +kernel : decode cJx4a65c_clear_da8c8 5 = .ok (.iconst 1, 1)) (v := (1 : Int32)) (by decide) ?_
  refine j_iadd hE (by decide +kernel : decode cJx4a65c_clear_da8c8 6 = .ok (.iadd, 1)) ?_
  obtain ⟨hk, h⟩ := h
  obtain ⟨g1, hg⟩ : ∃ z, z = sI g 0 th ((Gi g 0 th) + (1 : Int32)) := ⟨_, rfl⟩; replace h := h g1 hg
  refine j_putI hE fa_Jx4a65c_63 hk (fun q => by cases q) (by decide +kernel : decode cJx4a65c_clear_da8c8 7 = .ok (.putfield 63, 3)) ?_
  rw [← hg]
  refine j_aload_n hE (by decide +kernel : decode cJx4a65c_clear_da8c8 10 = .ok (.aload_n 0, 1)) rfl rfl ?_
  obtain ⟨hk, h⟩ := h
  obtain ⟨a2, ha, h⟩ := h
  refine j_getRn hE fg_Jx4a65c_9 hk ha (by decide +kernel : decode cJx4a65c_clear_da8c8 11 = .ok (.getfield 9, 3)) ?_
  refine j_astore_n hE (by decide +kernel : decode cJx4a65c_clear_da8c8 14 = .ok (.astore_n 1, 1)) rfl (Nat.le_of_ble_eq_true rfl) rfl ?_
  refine j_aload_n hE (by decide +kernel : decode cJx4a65c_clear_da8c8 15 = .ok (.aload_n 0, 1)) rfl rfl ?_
  obtain ⟨hk, h⟩ := h
  refine j_getI hE fg_Jx4a65c_48 hk (by decide +kernel : decode cJx4a65c_clear_da8c8 16 = .ok (.getfield 48, 3)) ?_
  obtain ⟨x3, hx⟩ : ∃ z, z = (Gi g1 2 th) := ⟨_, rfl⟩; replace h := h x3 hx; rw [← hx]
  refine j_istore_n hE (by decide +kernel : decode cJx4a65c_clear_da8c8 19 = .ok (.istore_n 2, 1)) rfl (Nat.le_of_ble_eq_true rfl) rfl ?_
  refine j_aload_n hE (by decide +kernel : decode cJx4a65c_clear_da8c8 20 = .ok (.aload_n 0, 1)) rfl rfl ?_
  refine j_iconst hE (by decide +kernel : decode cJx4a65c_clear_da8c8 21 = .ok (.iconst 0, 1)) (v := (0 : Int32)) (by decide) ?_
  refine j_dup_x1 hE (by decide +kernel : decode cJx4a65c_clear_da8c8 22 = .ok (.dup_x1, 1)) rfl rfl ?_
  obtain ⟨hk, h⟩ := h
  obtain ⟨g4, hg⟩ : ∃ z, z = sI g1 2 th (0 : Int32) := ⟨_, rfl⟩; replace h := h g4 hg
  refine j_putI hE fa_Jx4a65c_48 hk (fun q => by cases q) (by decide +kernel : decode cJx4a65c_clear_da8c8 23 = .ok (.putfield 48, 3)) ?_
  rw [← hg]
  refine j_istore_n hE (by decide +kernel : decode cJx4a65c_clear_da8c8 26 = .ok (.istore_n 3, 1)) rfl (Nat.le_of_ble_eq_true rfl) rfl ?_
  refine j_weak [none, some (.ref a2), some (.int x3), some (.int (0 : Int32))] ⟨rfl, ⟨rfl, ⟨rfl, trivial⟩⟩⟩ ?_
  exact hK27 _ _ _ _ h
set_option maxHeartbeats 4000000 in
set_option maxRecDepth 100000 in
theorem rl_AL_clear {Γ : GAM} {l : Launch} {th : Nat} {g : GH} {K : GH → Prop} (I27 : Nat → Nat → Int32 → Int32 → GH → Prop) (hh27 : ∀ n (l1 : Nat) (l2 : Int32) (l3 : Int32) (g : GH), I27 n l1 l2 l3 g → B_AL_clear_27 Γ (fun l1 l2 l3 g => ∃ m, m < n ∧ I27 m l1 l2 l3 g) K l1 l2 l3 g) (h0 : B_AL_clear_0 Γ (fun l1 l2 l3 g => ∃ m, I27 m l1 l2 l3 g) K th g) : MetA Γ l yJx4a65c_clear_da8c8 cJx4a65c_clear_da8c8 4 none 0 0 [.ref th] g (fun r g' => r = none ∧ K g') := by
  refine MetA.introL (Lx := [some (.ref th), none, none, none]) (by decide) (Nat.le_of_ble_eq_true rfl) rfl rfl ?_
  intro E hEl hE hnm
  have hall : ∀ n, (∀ (l1 : Nat) (l2 : Int32) (l3 : Int32) (g : GH), I27 n l1 l2 l3 g → JW Γ E 27 [none, some (.ref l1), some (.int l2), some (.int l3)] [] g) := by
    intro n
    induction n using Nat.strongRecOn with
    | ind n ih =>
      exact fun l1 l2 l3 g hi => S_AL_clear_27 hE (fun l1 l2 l3 g hm => by obtain ⟨m, hm, h⟩ := hm; exact (ih m hm) l1 l2 l3 g h) l1 l2 l3 g (hh27 n l1 l2 l3 g hi)
  exact S_AL_clear_0 hE (fun l1 l2 l3 g hm => by obtain ⟨m, h⟩ := hm; exact (hall m) l1 l2 l3 g h) th g h0
theorem mt_AL_clear {Γ : GAM} {l : Launch} (th : Nat) (g : GH) (K : GH → Prop) (h : Sp_AL_clear Γ th g K) : MetA Γ l yJx4a65c_clear_da8c8 cJx4a65c_clear_da8c8 4 none 0 0 [.ref th] g (fun r g' => r = none ∧ K g') := by
  refine MetA.rep (fun hR => ?_)
  have hen := EN.of hR
  obtain ⟨xs, hA, hK⟩ := h
  obtain ⟨⟨h1, h2⟩, h3, h4, d, ⟨h5, h6, h7⟩, h8, h9, h10, h11⟩ := id hA
  refine rl_AL_clear (fun n l1 l2 l3 g' => l1 = d ∧ l2 = nI xs.length ∧ ∃ k, k ≤ xs.length ∧ n = xs.length - k ∧ l3 = nI k ∧ Fr [] [] [th] g g' ∧ Gi g' 2 th = 0 ∧ (Kd g' = Kd g ∧ Gr g' = Gr g ∧ Co g' = Co g ∧ Ow g' = Ow g ∧ Ln g' = Ln g ∧ Hn g' = Hn g ∧ Hu g' = Hu g)) ?_ ?_
  · rintro n l1 l2 l3 g' ⟨rfl, rfl, k, hk, rfl, rfl, hfr, hs, e1, e2, e3, e4, e5, e6, e7⟩
    unfold B_AL_clear_27
    rw [nj_le (by omega) (by omega)]
    refine ⟨fun z => ?_, fun z => ?_⟩
    · refine hK g' hfr ⟨⟨by rw [e6]; exact h1, by rw [e1]; exact h2⟩, by rw [hs]; rfl, Nat.zero_le _, l1, ⟨by rw [e2]; exact h5, by rw [e6]; exact h6, by rw [e1]; exact h7⟩, Nat.zero_le _, by rw [e5]; exact h9, ?_, fun i x hx => by simp at hx⟩ ⟨e6, e7, e2, e5⟩
      rw [e3, e4, e5]
      rcases h10 with ⟨q1, q2, q3, q4⟩ | q
      · refine .inl ⟨q1, q2, q3, ?_⟩
        unfold free at q4 ⊢
        rw [e1, e3, e4]; exact q4
      · exact .inr q
    · rcases h10 with ⟨_, q, _⟩ | ⟨q1, q2, q3⟩
      · omega
      · refine ⟨by rw [e1]; exact h7, by rw [e5]; exact inB_nI (by omega) (by omega), fun g1 hg1 => ?_⟩
        rw [e3, e4, q2, q3, nj_cl (by omega)] at hg1
        have hen' : EN g' := by unfold EN; rw [e6, e1]; exact hen
        refine ⟨xs.length - (k + 1), by omega, rfl, rfl, k + 1, by omega, rfl, nj_s k, hfr.tr (by rw [hg1]; exact Fr.sRA hen' ⟨by omega, by simp⟩), by rw [hg1]; exact hs, ?_⟩
        rw [hg1]
        exact ⟨e1, e2, e3, e4, e5, e6, e7⟩
  · unfold B_AL_clear_0
    refine ⟨h2, h2, ?_⟩
    rintro g1 rfl
    refine ⟨h2, d, h5, h2, ?_⟩
    rintro x3 rfl
    refine ⟨h2, ?_⟩
    rintro g4 rfl
    refine ⟨_, rfl, by rw [Gi_sI, if_neg (fun q => absurd q.1 (by decide))]; exact h3, 0, Nat.zero_le _, rfl, nj_0, ?_, by rw [Gi_sI, if_pos ⟨rfl, rfl⟩], rfl, rfl, rfl, rfl, rfl, rfl, rfl⟩
    have f1 : Fr [] [] [th] g (sI g 0 th (Gi g 0 th + 1)) := Fr.sI hen (.inr ⟨by simp, by omega⟩)
    exact f1.tr (Fr.sI (show EN (sI g 0 th (Gi g 0 th + 1)) from hen) (.inr ⟨by simp, by omega⟩))
def Sp_ArrSup_hugeLength (Γ : GAM) (p0 : Int32) (p1 : Int32) (g : GH) (K : Int32 → GH → Prop) : Prop := False
theorem mt_ArrSup_hugeLength {Γ : GAM} {l : Launch} (p0 : Int32) (p1 : Int32) (g : GH) (K : Int32 → GH → Prop) (h : Sp_ArrSup_hugeLength Γ p0 p1 g K) : MetA Γ l yJ8_hugeLength_7cf53 cJ8_hugeLength_7cf53 3 (some (.int)) 0 0 [.int p0, .int p1] g (fun r g' => ∃ x, r = some (.int x) ∧ K x g') := h.elim
def Sp_ArrSup_newLength (Γ : GAM) (p0 p1 p2 : Int32) (g : GH) (K : Int32 → GH → Prop) : Prop := 0 < p0 + (if p1 < p2 then p2 else p1) ∧ p0 + (if p1 < p2 then p2 else p1) ≤ 2147483639 ∧ K (p0 + (if p1 < p2 then p2 else p1)) g
-- the walk of ArrSup_newLength
set_option maxRecDepth 100000 in
def B_ArrSup_newLength_21 (Γ : GAM) (K : Int32 → GH → Prop) (l0 : Int32) (l1 : Int32) (g : GH) : Prop :=
  Sp_ArrSup_hugeLength Γ l0 l1 g (fun (x2 : Int32) (g1 : GH) => K x2 g1)
set_option maxHeartbeats 4000000 in
set_option maxRecDepth 100000 in
theorem S_ArrSup_newLength_21 {Γ : GAM} {E : EV} {K : Int32 → GH → Prop} (hE : GE Γ E cJ8_newLength_cabcc 4 RJ8 (some (.int)) 1 30 (fun r g' => ∃ x, r = some (.int x) ∧ K x g')) (l0 : Int32) (l1 : Int32) (g : GH) (h : B_ArrSup_newLength_21 Γ K l0 l1 g) : JW Γ E 21 [some (.int l0), some (.int l1), none, none] [] g := by
  unfold B_ArrSup_newLength_21 at h
  refine j_iload_n hE (by decide +kernel : decode cJ8_newLength_cabcc 21 = .ok (.iload_n 0, 1)) rfl rfl ?_
  refine j_iload_n hE (by decide +kernel : decode cJ8_newLength_cabcc 22 = .ok (.iload_n 1, 1)) rfl rfl ?_
  refine j_callS hE rfl cl_J8_201 st_J8_hugeLength_7cf53 ⟨by omega, by omega⟩ (As := [.int l0, .int l1]) (rest := []) rfl rfl (Nat.le_of_ble_eq_true rfl) (by decide +kernel : decode cJ8_newLength_cabcc 23 = .ok (.invokestatic 201, 3)) (mt_ArrSup_hugeLength _ _ _ _ h) ?_
  rintro _ g1 ⟨x2, rfl, h⟩
  exact j_iret hE (by decide +kernel : decode cJ8_newLength_cabcc 26 = .ok (.ireturn, 1)) ⟨_, rfl, h⟩
set_option maxRecDepth 100000 in
def B_ArrSup_newLength_0 (Γ : GAM) (K : Int32 → GH → Prop) (p0 : Int32) (p1 : Int32) (p2 : Int32) (g : GH) : Prop :=
  ∀ x1 : Int32, x1 = (p0 + (if p1 < p2 then p2 else p1)) → ((x1 ≤ (0 : Int32) → B_ArrSup_newLength_21 Γ K p0 p1 g) ∧ (¬ (x1 ≤ (0 : Int32)) → (((2147483639 : Int32) < x1 → B_ArrSup_newLength_21 Γ K p0 p1 g) ∧ (¬ ((2147483639 : Int32) < x1) → K x1 g))))
set_option maxHeartbeats 4000000 in
set_option maxRecDepth 100000 in
theorem S_ArrSup_newLength_0 {Γ : GAM} {E : EV} {K : Int32 → GH → Prop} (hE : GE Γ E cJ8_newLength_cabcc 4 RJ8 (some (.int)) 1 30 (fun r g' => ∃ x, r = some (.int x) ∧ K x g')) (p0 : Int32) (p1 : Int32) (p2 : Int32) (g : GH) (h : B_ArrSup_newLength_0 Γ K p0 p1 p2 g) : JW Γ E 0 [some (.int p0), some (.int p1), some (.int p2), none] [] g := by
  unfold B_ArrSup_newLength_0 at h
  refine j_iload_n hE (by decide +kernel : decode cJ8_newLength_cabcc 0 = .ok (.iload_n 0, 1)) rfl rfl ?_
  refine j_iload_n hE (by decide +kernel : decode cJ8_newLength_cabcc 1 = .ok (.iload_n 1, 1)) rfl rfl ?_
  refine j_iload_n hE (by decide +kernel : decode cJ8_newLength_cabcc 2 = .ok (.iload_n 2, 1)) rfl rfl ?_
  refine j_mmax hE rfl ml_J8_194 st_J9_max_7cf53 in_Math co_J9_max_7cf53 (Nat.le_of_ble_eq_true rfl) (by omega) (by omega) (by decide +kernel : decode cJ8_newLength_cabcc 3 = .ok (.invokestatic 194, 3)) ?_
  refine j_iadd hE (by decide +kernel : decode cJ8_newLength_cabcc 6 = .ok (.iadd, 1)) ?_
  obtain ⟨x1, hx⟩ : ∃ z, z = (p0 + (if p1 < p2 then p2 else p1)) := ⟨_, rfl⟩; replace h := h x1 hx; rw [← hx]
  refine j_istore_n hE (by decide +kernel : decode cJ8_newLength_cabcc 7 = .ok (.istore_n 3, 1)) rfl (Nat.le_of_ble_eq_true rfl) rfl ?_
  refine j_iconst hE (by decide +kernel : decode cJ8_newLength_cabcc 8 = .ok (.iconst 0, 1)) (v := (0 : Int32)) (by decide) ?_
  refine j_iload_n hE (by decide +kernel : decode cJ8_newLength_cabcc 9 = .ok (.iload_n 3, 1)) rfl rfl ?_
  refine j_icmp_ge hE (by decide +kernel : decode cJ8_newLength_cabcc 10 = .ok (.if_icmp .ge 11, 3)) (tgt := 21) (by decide) (fun q => ?_) (fun q => ?_)
  · replace h := h.1 q
    refine j_weak [some (.int p0), some (.int p1), none, none] ⟨rfl, ⟨rfl, trivial⟩⟩ ?_
    exact S_ArrSup_newLength_21 hE _ _ _ h
  · replace h := h.2 q
    refine j_iload_n hE (by decide +kernel : decode cJ8_newLength_cabcc 13 = .ok (.iload_n 3, 1)) rfl rfl ?_
    refine j_ldc hE ct_J8_200 (by decide +kernel : decode cJ8_newLength_cabcc 14 = .ok (.ldc 200, 2)) ?_
    refine j_icmp_gt hE (by decide +kernel : decode cJ8_newLength_cabcc 16 = .ok (.if_icmp .gt 5, 3)) (tgt := 21) (by decide) (fun q => ?_) (fun q => ?_)
    · replace h := h.1 q
      refine j_weak [some (.int p0), some (.int p1), none, none] ⟨rfl, ⟨rfl, trivial⟩⟩ ?_
      exact S_ArrSup_newLength_21 hE _ _ _ h
    · replace h := h.2 q
      refine j_iload_n hE (by decide +kernel : decode cJ8_newLength_cabcc 19 = .ok (.iload_n 3, 1)) rfl rfl ?_
      exact j_iret hE (by decide +kernel : decode cJ8_newLength_cabcc 20 = .ok (.ireturn, 1)) ⟨_, rfl, h⟩
set_option maxHeartbeats 4000000 in
set_option maxRecDepth 100000 in
theorem rl_ArrSup_newLength {Γ : GAM} {l : Launch} {p0 : Int32} {p1 : Int32} {p2 : Int32} {g : GH} {K : Int32 → GH → Prop} (h0 : B_ArrSup_newLength_0 Γ K p0 p1 p2 g) : MetA Γ l yJ8_newLength_cabcc cJ8_newLength_cabcc 4 (some (.int)) 1 30 [.int p0, .int p1, .int p2] g (fun r g' => ∃ x, r = some (.int x) ∧ K x g') := by
  refine MetA.introL (Lx := [some (.int p0), some (.int p1), some (.int p2), none]) (by decide) (Nat.le_of_ble_eq_true rfl) rfl rfl ?_
  intro E hEl hE hnm
  exact S_ArrSup_newLength_0 hE p0 p1 p2 g h0
theorem mt_ArrSup_newLength {Γ : GAM} {l : Launch} (p0 : Int32) (p1 : Int32) (p2 : Int32) (g : GH) (K : Int32 → GH → Prop) (h : Sp_ArrSup_newLength Γ p0 p1 p2 g K) : MetA Γ l yJ8_newLength_cabcc cJ8_newLength_cabcc 4 (some (.int)) 1 30 [.int p0, .int p1, .int p2] g (fun r g' => ∃ x, r = some (.int x) ∧ K x g') := by
  obtain ⟨h1, h2, h3⟩ := h
  refine rl_ArrSup_newLength ?_
  unfold B_ArrSup_newLength_0
  rintro x1 rfl
  exact ⟨fun q => absurd h1 (Int32.not_lt.mpr q), fun _ => ⟨fun q => absurd h2 (Int32.not_le.mpr q), fun _ => h3⟩⟩
/-- a copy of an array of references, longer than it was -/
def Sp_Arrays_copyOf_2 (Γ : GAM) (p0 : Nat) (p1 : Int32) (p2 : Nat) (g : GH) (K : Nat → GH → Prop) : Prop := p2 = Γ.2.1 99 ∧ (p0 < Hn g ∧ Kd g p0 = 22 ∧ 1 ≤ Ln g p0) ∧ ∃ n, p1 = nI n ∧ 1 ≤ n ∧ n ≤ 3000 ∧ Ln g p0 ≤ n ∧ NT g ∧ (∀ i, i < Ln g p0 → ∀ y, Ra g (Co g p0) (Ow g p0) i = some y → isO g y) ∧ Hn g + 1 ≤ gB Γ + NCC ∧ Hu g + n ≤ NSS ∧ ∀ g', g' = sRAf (nA g 22 1000 0 n) 1000 0 (va_cpy (Ra g (Co g p0) (Ow g p0)) (fun _ => none) 0 0 (Ln g p0)) → K (Hn g) g'
-- the walk of Arrays_copyOf_2
set_option maxRecDepth 100000 in
def B_Arrays_copyOf_2_24 (Γ : GAM) (K : Nat → GH → Prop) (l0 : Nat) (l1 : Int32) (s0 : Nat) (g : GH) : Prop :=
  (20 ≤ Kd g l0 ∧ Kd g l0 < 24) ∧ Kd g l0 = 22 ∧ Kd g s0 = 22 ∧ 0 ≤ (0 : Int32) ∧ 0 ≤ (0 : Int32) ∧ 0 ≤ (if l1 < (Int32.ofNat (Ln g l0)) then l1 else (Int32.ofNat (Ln g l0))) ∧ (0 : Int32).toNatClampNeg + (if l1 < (Int32.ofNat (Ln g l0)) then l1 else (Int32.ofNat (Ln g l0))).toNatClampNeg ≤ Ln g l0 ∧ (0 : Int32).toNatClampNeg + (if l1 < (Int32.ofNat (Ln g l0)) then l1 else (Int32.ofNat (Ln g l0))).toNatClampNeg ≤ Ln g s0 ∧ (0 < Ln g l0 ∧ 0 < Ln g s0) ∧ (∀ i, i < (if l1 < (Int32.ofNat (Ln g l0)) then l1 else (Int32.ofNat (Ln g l0))).toNatClampNeg → ∀ y, Ra g (Co g l0) (Ow g l0) ((0 : Int32).toNatClampNeg + i) = some y → ∃ ci, Kd g y = ci + 1 ∧ ci < 13) ∧ ∀ g1 : GH, g1 = sRAf g (Co g s0) (Ow g s0) (va_cpy (Ra g (Co g l0) (Ow g l0)) (Ra g (Co g s0) (Ow g s0)) (0 : Int32).toNatClampNeg (0 : Int32).toNatClampNeg (if l1 < (Int32.ofNat (Ln g l0)) then l1 else (Int32.ofNat (Ln g l0))).toNatClampNeg) → K s0 g1
set_option maxHeartbeats 4000000 in
set_option maxRecDepth 100000 in
theorem S_Arrays_copyOf_2_24 {Γ : GAM} {E : EV} {K : Nat → GH → Prop} (hE : GE Γ E cJ7_copyOf_6403c 4 RJ7 (some (.array (.object "java/lang/Object"))) 1 40 (fun r g' => ∃ x, r = some (.ref x) ∧ K x g')) (l0 : Nat) (l1 : Int32) (s0 : Nat) (g : GH) (h : B_Arrays_copyOf_2_24 Γ K l0 l1 s0 g) : JW Γ E 24 [some (.ref l0), some (.int l1), none, none] [.ref s0] g := by
  unfold B_Arrays_copyOf_2_24 at h
  refine j_astore_n hE (by decide +kernel : decode cJ7_copyOf_6403c 24 = .ok (.astore_n 3, 1)) rfl (Nat.le_of_ble_eq_true rfl) rfl ?_
  refine j_aload_n hE (by decide +kernel : decode cJ7_copyOf_6403c 25 = .ok (.aload_n 0, 1)) rfl rfl ?_
  refine j_iconst hE (by decide +kernel : decode cJ7_copyOf_6403c 26 = .ok (.iconst 0, 1)) (v := (0 : Int32)) (by decide) ?_
  refine j_aload_n hE (by decide +kernel : decode cJ7_copyOf_6403c 27 = .ok (.aload_n 3, 1)) rfl rfl ?_
  refine j_iconst hE (by decide +kernel : decode cJ7_copyOf_6403c 28 = .ok (.iconst 0, 1)) (v := (0 : Int32)) (by decide) ?_
  refine j_aload_n hE (by decide +kernel : decode cJ7_copyOf_6403c 29 = .ok (.aload_n 0, 1)) rfl rfl ?_
  obtain ⟨hk, h⟩ := h
  refine j_alen hE hk (by decide +kernel : decode cJ7_copyOf_6403c 30 = .ok (.arraylength, 1)) ?_
  refine j_iload_n hE (by decide +kernel : decode cJ7_copyOf_6403c 31 = .ok (.iload_n 1, 1)) rfl rfl ?_
  refine j_mmin hE rfl ml_J7_304 st_J9_min_7cf53 in_Math co_J9_min_7cf53 (Nat.le_of_ble_eq_true rfl) (by omega) (by omega) (by decide +kernel : decode cJ7_copyOf_6403c 32 = .ok (.invokestatic 304, 3)) ?_
  obtain ⟨hk0, hk, c1, c2, c3, c4, c5, c6, c7, h⟩ := h
  obtain ⟨g1, hg⟩ : ∃ z, z = sRAf g (Co g s0) (Ow g s0) (va_cpy (Ra g (Co g l0) (Ow g l0)) (Ra g (Co g s0) (Ow g s0)) (0 : Int32).toNatClampNeg (0 : Int32).toNatClampNeg (if l1 < (Int32.ofNat (Ln g l0)) then l1 else (Int32.ofNat (Ln g l0))).toNatClampNeg) := ⟨_, rfl⟩; replace h := h g1 hg
  refine j_copyq hE rfl cp_J7_150 hk0 hk c1 c2 c3 c4 c5 c6 c7 (Nat.le_of_ble_eq_true rfl) (by omega) (by omega) (by decide +kernel : decode cJ7_copyOf_6403c 35 = .ok (.invokestatic 150, 3)) ?_
  rw [← hg]
  refine j_aload_n hE (by decide +kernel : decode cJ7_copyOf_6403c 38 = .ok (.aload_n 3, 1)) rfl rfl ?_
  exact j_aret (v := some s0) hE (Or.inr ⟨_, rfl⟩) (by decide +kernel : decode cJ7_copyOf_6403c 39 = .ok (.areturn, 1)) ⟨_, rfl, h⟩
set_option maxRecDepth 100000 in
def B_Arrays_copyOf_2_0 (Γ : GAM) (K : Nat → GH → Prop) (p0 : Nat) (p1 : Int32) (p2 : Nat) (g : GH) : Prop :=
  ((¬ ((some p2) = (some (Γ.2.1 99))) → False) ∧ ((some p2) = (some (Γ.2.1 99)) → 0 ≤ p1 ∧ p1.toNatClampNeg ≤ 60000000 ∧ 0 < Hn g ∧ free g 1000 0 ∧ Hn g + 1 ≤ gB Γ + NCC ∧ Hu g + p1.toNatClampNeg ≤ NSS ∧ ∀ (a1 : Nat) (g2 : GH), a1 = Hn g → g2 = nA g 22 1000 0 (p1.toNatClampNeg) → B_Arrays_copyOf_2_24 Γ K p0 p1 a1 g2))
set_option maxHeartbeats 4000000 in
set_option maxRecDepth 100000 in
theorem S_Arrays_copyOf_2_0 {Γ : GAM} {E : EV} {K : Nat → GH → Prop} (hE : GE Γ E cJ7_copyOf_6403c 4 RJ7 (some (.array (.object "java/lang/Object"))) 1 40 (fun r g' => ∃ x, r = some (.ref x) ∧ K x g')) (p0 : Nat) (p1 : Int32) (p2 : Nat) (g : GH) (h : B_Arrays_copyOf_2_0 Γ K p0 p1 p2 g) : JW Γ E 0 [some (.ref p0), some (.int p1), some (.ref p2), none] [] g := by
  unfold B_Arrays_copyOf_2_0 at h
  refine j_aload_n hE (by decide +kernel : decode cJ7_copyOf_6403c 0 = .ok (.aload_n 2, 1)) rfl rfl ?_
  refine j_ldcM hE ck_J7_110 (by decide +kernel : decode cJ7_copyOf_6403c 1 = .ok (.ldc 110, 2)) ?_
  show JW _ _ _ _ (va_rf (some (Γ.2.1 99)) :: va_rf (some p2) :: []) _
  refine j_acmp_ne hE (by decide +kernel : decode cJ7_copyOf_6403c 3 = .ok (.if_acmp .ne 10, 3)) (tgt := 13) (by decide) (fun q => ?_) (fun q => ?_)
  · replace h := h.1 q
    refine j_aload_n hE (by decide +kernel : decode cJ7_copyOf_6403c 13 = .ok (.aload_n 2, 1)) rfl rfl ?_
    exact h.elim
  · replace h := h.2 q
    refine j_iload_n hE (by decide +kernel : decode cJ7_copyOf_6403c 6 = .ok (.iload_n 1, 1)) rfl rfl ?_
    obtain ⟨hp, hm, ho1, hf1, hn1, hn2, h⟩ := h
    obtain ⟨a1, ha⟩ : ∃ z, z = Hn g := ⟨_, rfl⟩; obtain ⟨g2, hg⟩ : ∃ z, z = nA g 22 1000 0 (p1.toNatClampNeg) := ⟨_, rfl⟩; replace h := h a1 g2 ha hg
    refine j_anew (co := 1000) (ow := 0) (n := (p1.toNatClampNeg)) hE ck_J7_2 hp rfl hm ho1 hf1 (by decide +kernel : decode cJ7_copyOf_6403c 7 = .ok (.anewarray 2, 3)) hn1 hn2 ?_
    rw [← hg, ← ha]
    refine j_goto hE (by decide +kernel : decode cJ7_copyOf_6403c 10 = .ok (.goto 14, 3)) (tgt := 24) (by decide) ?_
    refine j_weak [some (.ref p0), some (.int p1), none, none] ⟨rfl, ⟨rfl, trivial⟩⟩ ?_
    exact S_Arrays_copyOf_2_24 hE _ _ _ _ h
set_option maxHeartbeats 4000000 in
set_option maxRecDepth 100000 in
theorem rl_Arrays_copyOf_2 {Γ : GAM} {l : Launch} {p0 : Nat} {p1 : Int32} {p2 : Nat} {g : GH} {K : Nat → GH → Prop} (h0 : B_Arrays_copyOf_2_0 Γ K p0 p1 p2 g) : MetA Γ l yJ7_copyOf_6403c cJ7_copyOf_6403c 4 (some (.array (.object "java/lang/Object"))) 1 40 [.ref p0, .int p1, .ref p2] g (fun r g' => ∃ x, r = some (.ref x) ∧ K x g') := by
  refine MetA.introL (Lx := [some (.ref p0), some (.int p1), some (.ref p2), none]) (by decide) (Nat.le_of_ble_eq_true rfl) rfl rfl ?_
  intro E hEl hE hnm
  exact S_Arrays_copyOf_2_0 hE p0 p1 p2 g h0
theorem mt_Arrays_copyOf_2 {Γ : GAM} {l : Launch} (p0 : Nat) (p1 : Int32) (p2 : Nat) (g : GH) (K : Nat → GH → Prop) (h : Sp_Arrays_copyOf_2 Γ p0 p1 p2 g K) : MetA Γ l yJ7_copyOf_6403c cJ7_copyOf_6403c 4 (some (.array (.object "java/lang/Object"))) 1 40 [.ref p0, .int p1, .ref p2] g (fun r g' => ∃ x, r = some (.ref x) ∧ K x g') := by
  obtain ⟨rfl, ⟨h1, h2, hl1⟩, n, rfl, hn1, hn3, hl, hnt, hel, r1, r2, hK⟩ := h
  have hne : p0 ≠ Hn g := by omega
  have hlab : ¬ (Co g p0 = 1000 ∧ Ow g p0 = 0) := fun q => (hnt p0 (by omega)).1 q.1
  refine rl_Arrays_copyOf_2 ?_
  unfold B_Arrays_copyOf_2_0
  refine ⟨fun q => absurd rfl q, fun _ => ⟨nj_nneg (by omega), by rw [nj_cl (by omega)]; omega, by omega, fun b q1 q2 => absurd q2 (hnt b q1).1, r1, by rw [nj_cl (by omega)]; exact r2, ?_⟩⟩
  rintro a1 g2 rfl hg2
  rw [nj_cl (by omega)] at hg2
  have k0 : Kd g2 p0 = 22 := by rw [hg2, Kd_nA, if_neg hne]; exact h2
  have c0 : Co g2 p0 = Co g p0 := by rw [hg2, Co_nA, if_neg hne]
  have o0 : Ow g2 p0 = Ow g p0 := by rw [hg2, Ow_nA, if_neg hne]
  have l0 : Ln g2 p0 = Ln g p0 := by rw [hg2, Ln_nA, if_neg hne]
  have k1 : Kd g2 (Hn g) = 22 := by rw [hg2, Kd_nA, if_pos rfl]
  have c1 : Co g2 (Hn g) = 1000 := by rw [hg2, Co_nA, if_pos rfl]
  have o1 : Ow g2 (Hn g) = 0 := by rw [hg2, Ow_nA, if_pos rfl]
  have l1 : Ln g2 (Hn g) = n := by rw [hg2, Ln_nA, if_pos rfl]
  have ra0 : Ra g2 (Co g p0) (Ow g p0) = Ra g (Co g p0) (Ow g p0) := by rw [hg2, Ra_nA, if_neg hlab]
  have ra1 : Ra g2 1000 0 = fun _ => none := by rw [hg2, Ra_nA, if_pos ⟨rfl, rfl⟩]
  have hmin : (if nI n < Int32.ofNat (Ln g2 p0) then nI n else Int32.ofNat (Ln g2 p0)) = nI (Ln g p0) := by
    rw [l0]
    show (if nI n < nI (Ln g p0) then _ else nI (Ln g p0)) = _
    rw [if_neg]
    intro q
    have := (nj_lt (by omega) (by omega)).mp q
    omega
  unfold B_Arrays_copyOf_2_24
  rw [hmin, k0, k1, c0, o0, c1, o1, l0, l1, ra0, ra1]
  have h00 : (0 : Int32).toNatClampNeg = 0 := by decide
  rw [h00, nj_cl (show Ln g p0 < 2147483648 by omega)]
  refine ⟨⟨by omega, by omega⟩, rfl, rfl, by decide, by decide, nj_nneg (by omega), by omega, by omega, by omega, fun i hi y hy => ?_, fun g3 hg3 => hK g3 (by rw [hg3, hg2])⟩
  rw [Nat.zero_add] at hy
  obtain ⟨q1, ci, q2, q3⟩ := hel i hi y hy
  exact ⟨ci, by rw [hg2, Kd_nA, if_neg (by omega)]; exact q2, q3⟩
def Sp_Arrays_copyOf_1 (Γ : GAM) (p0 : Nat) (p1 : Int32) (g : GH) (K : Nat → GH → Prop) : Prop := Sp_Arrays_copyOf_2 Γ p0 p1 (Γ.2.1 99) g K
-- the walk of Arrays_copyOf_1
set_option maxRecDepth 100000 in
def B_Arrays_copyOf_1_0 (Γ : GAM) (K : Nat → GH → Prop) (p0 : Nat) (p1 : Int32) (g : GH) : Prop :=
  (Kd g p0 = 22 ∧ 0 < Ln g p0) ∧ Sp_Arrays_copyOf_2 Γ p0 p1 (Γ.2.1 99) g (fun (a2 : Nat) (g1 : GH) => K a2 g1)
set_option maxHeartbeats 4000000 in
set_option maxRecDepth 100000 in
theorem S_Arrays_copyOf_1_0 {Γ : GAM} {E : EV} {K : Nat → GH → Prop} (hE : GE Γ E cJ7_copyOf_1904c 2 RJ7 (some (.array (.object "java/lang/Object"))) 2 63 (fun r g' => ∃ x, r = some (.ref x) ∧ K x g')) (p0 : Nat) (p1 : Int32) (g : GH) (h : B_Arrays_copyOf_1_0 Γ K p0 p1 g) : JW Γ E 0 [some (.ref p0), some (.int p1)] [] g := by
  unfold B_Arrays_copyOf_1_0 at h
  refine j_aload_n hE (by decide +kernel : decode cJ7_copyOf_1904c 0 = .ok (.aload_n 0, 1)) rfl rfl ?_
  refine j_iload_n hE (by decide +kernel : decode cJ7_copyOf_1904c 1 = .ok (.iload_n 1, 1)) rfl rfl ?_
  refine j_aload_n hE (by decide +kernel : decode cJ7_copyOf_1904c 2 = .ok (.aload_n 0, 1)) rfl rfl ?_
  obtain ⟨hk, h⟩ := h
  refine j_getC hE rfl hk (gw_of ge_methodLink gg_ml (List.mem_of_getElem? (i := 34) rfl)) (Nat.le_of_ble_eq_true rfl) (by omega) (by omega) (by decide +kernel : decode cJ7_copyOf_1904c 3 = .ok (.invokevirtual 86, 3)) ?_
  refine j_callS hE rfl cl_J7_300 st_J7_copyOf_6403c ⟨by omega, by omega⟩ (As := [.ref p0, .int p1, .ref (Γ.2.1 99)]) (rest := []) rfl rfl (Nat.le_of_ble_eq_true rfl) (by decide +kernel : decode cJ7_copyOf_1904c 6 = .ok (.invokestatic 300, 3)) (mt_Arrays_copyOf_2 _ _ _ _ _ h) ?_
  rintro _ g1 ⟨a2, rfl, h⟩
  exact j_aret (v := some a2) hE (Or.inr ⟨_, rfl⟩) (by decide +kernel : decode cJ7_copyOf_1904c 9 = .ok (.areturn, 1)) ⟨_, rfl, h⟩
set_option maxHeartbeats 4000000 in
set_option maxRecDepth 100000 in
theorem rl_Arrays_copyOf_1 {Γ : GAM} {l : Launch} {p0 : Nat} {p1 : Int32} {g : GH} {K : Nat → GH → Prop} (h0 : B_Arrays_copyOf_1_0 Γ K p0 p1 g) : MetA Γ l yJ7_copyOf_1904c cJ7_copyOf_1904c 2 (some (.array (.object "java/lang/Object"))) 2 63 [.ref p0, .int p1] g (fun r g' => ∃ x, r = some (.ref x) ∧ K x g') := by
  refine MetA.introL (Lx := [some (.ref p0), some (.int p1)]) (by decide) (Nat.le_of_ble_eq_true rfl) rfl rfl ?_
  intro E hEl hE hnm
  exact S_Arrays_copyOf_1_0 hE p0 p1 g h0
theorem mt_Arrays_copyOf_1 {Γ : GAM} {l : Launch} (p0 : Nat) (p1 : Int32) (g : GH) (K : Nat → GH → Prop) (h : Sp_Arrays_copyOf_1 Γ p0 p1 g K) : MetA Γ l yJ7_copyOf_1904c cJ7_copyOf_1904c 2 (some (.array (.object "java/lang/Object"))) 2 63 [.ref p0, .int p1] g (fun r g' => ∃ x, r = some (.ref x) ∧ K x g') := by
  exact rl_Arrays_copyOf_1 ⟨h.2.1.2, h⟩
/-- what stands when a list's array has been made anew -/
theorem grow_fin {Γ : GAM} {g g3 : GH} {th d x m : Nat} {xs : List Nat} {f : Nat → Option Nat} (hR : ∃ H, Rep Γ g H) (hA : AC Γ g th xs) (hd : Gr g 1 th = some d) (hx : (x = d ∧ 1 ≤ Ln g d) ∨ (x = Hn g + 1 ∧ Ln g d = 0)) (hm : xs.length < m) (hm2 : m ≤ 2000) (hf : ∀ i y, xs[i]? = some y → f i = some y)
    (e1 : Gi g3 = Gi g) (e2 : ∀ f a, Gr g3 f a = if f = 1 ∧ a = th then some (Hn g) else Gr g f a) (e3 : ∀ c o, (c < 998 ∨ 1000 < c) → Ia g3 c o = Ia g c o ∧ Ra g3 c o = Ra g c o) (e4 : Ra g3 1000 0 = f) (e5 : ∀ a, Kd g3 a = if a = Hn g then 22 else Kd g a) (e6 : ∀ a, Co g3 a = if a = Hn g then 1000 else Co g a) (e7 : ∀ a, Ow g3 a = if a = Hn g then 0 else Ow g a) (e8 : ∀ a, Ln g3 a = if a = Hn g then m else Ln g a) (e9 : ∀ a, a < Hn g → La g3 a = La g a) (e10 : Hn g3 = Hn g + 1) (e11 : Hu g3 = Hu g + m) :
    (∀ H, Rep Γ g3 H → Rep Γ (rl2 (kl g3 x) (Hn g) 1 th) H) ∧ Fr [] [] [th] g (rl2 (kl g3 x) (Hn g) 1 th) ∧ AC Γ (rl2 (kl g3 x) (Hn g) 1 th) th xs ∧ (Gr (rl2 (kl g3 x) (Hn g) 1 th) 1 th = some (Hn g) ∧ xs.length < Ln (rl2 (kl g3 x) (Hn g) 1 th) (Hn g) ∧ Co (rl2 (kl g3 x) (Hn g) 1 th) (Hn g) = 1 ∧ Ow (rl2 (kl g3 x) (Hn g) 1 th) (Hn g) = th ∧ Kd (rl2 (kl g3 x) (Hn g) 1 th) (Hn g) = 22) ∧ (Gi (rl2 (kl g3 x) (Hn g) 1 th) = Gi g ∧ Hn (rl2 (kl g3 x) (Hn g) 1 th) ≤ Hn g + 1 ∧ Hu (rl2 (kl g3 x) (Hn g) 1 th) ≤ Hu g + 2000) := by
  obtain ⟨⟨h1, h2⟩, h3, h4, d', ⟨h5, h6, h7⟩, h8, h9, h10, h11⟩ := id hA
  rw [hd] at h5; cases h5
  have hen := EN.of hR
  obtain ⟨H0, hR0⟩ := hR
  -- no other array is the list's
  have hlab : ∀ b, b ≠ Hn g → 20 ≤ Kd (kl g3 x) b → Co (kl g3 x) b = 1 → Ow (kl g3 x) b ≠ th := by
    intro b hb q1 q2 q3
    rw [Kd_kl, e5, if_neg hb] at q1
    rw [Co_kl, e6, if_neg hb] at q2
    rw [Ow_kl, e7, if_neg hb] at q3
    by_cases hbx : b = x
    · rw [if_pos hbx] at q1; omega
    · rw [if_neg hbx] at q1
      rcases h10 with ⟨_, z1, _, z2⟩ | ⟨z1, z2, z3⟩
      · exact z2 b q1 q2 q3
      · rcases hx with ⟨rfl, _⟩ | ⟨_, z⟩
        · exact hbx (hR0.2.2.2.2.2.1 b x q1 (by omega) (q2.trans z2.symm) (q3.trans z3.symm))
        · omega
  have hxn : x ≠ Hn g := by rcases hx with ⟨rfl, _⟩ | ⟨rfl, _⟩ <;> omega
  refine ⟨fun H hH => Rep_rl2 (by rw [Hn_kl, e10]; omega) hlab H (Rep_kl H hH), ⟨fun f a q1 _ q3 => by rw [Gi_rl2, Gi_kl, e1], fun f a q1 q3 => ?_, fun c o q1 _ q3 q4 => ?_, fun a q1 => ?_, by rw [Hn_rl2, Hn_kl, e10]; omega, by rw [Hu_rl2, Hu_kl, e11]; omega, ⟨fun hnt b q1 => ?_, fun _ b q1 => ?_⟩, fun b q1 q2 q3 => ?_⟩, ⟨⟨by rw [Hn_rl2, Hn_kl, e10]; omega, ?_⟩, by rw [Gi_rl2, Gi_kl, e1]; exact h3, h4, Hn g, ⟨by rw [Gr_rl2, Gr_kl, e2, if_pos ⟨rfl, rfl⟩], by rw [Hn_rl2, Hn_kl, e10]; omega, ?_⟩, ?_, ?_, .inr ⟨?_, by rw [Co_rl2, if_pos rfl], by rw [Ow_rl2, if_pos rfl]⟩, fun i y hy => ?_⟩, ⟨by rw [Gr_rl2, Gr_kl, e2, if_pos ⟨rfl, rfl⟩], ?_, by rw [Co_rl2, if_pos rfl], by rw [Ow_rl2, if_pos rfl], ?_⟩, ⟨by rw [Gi_rl2, Gi_kl, e1], by rw [Hn_rl2, Hn_kl, e10]; omega, by rw [Hu_rl2, Hu_kl, e11]; omega⟩⟩
  · rw [Gr_rl2, Gr_kl, e2, if_neg (fun q => q3 ⟨by rw [q.2]; simp, by omega⟩)]
  · rw [Ia_rl2, Ra_rl2, if_neg (fun q => q4 ⟨by omega, by rw [q.2]; simp⟩), if_neg (fun q => q4 ⟨by omega, by rw [q.2]; simp⟩)]
    exact e3 c o q3
  · have hne : a ≠ Hn g := by omega
    by_cases hax : a = x
    · rcases hx with ⟨rfl, z⟩ | ⟨rfl, _⟩
      · rcases h10 with ⟨_, z1, _⟩ | ⟨z1, z2, z3⟩
        · omega
        · subst hax
          exact .inl ⟨h7, by omega, by rw [z3]; simp, by rw [Kd_rl2, Kd_kl, if_pos rfl]⟩
      · omega
    · refine .inr ⟨by rw [Kd_rl2, Kd_kl, if_neg hax, e5, if_neg hne], by rw [Co_rl2, if_neg hne, Co_kl, e6, if_neg hne], by rw [Ow_rl2, if_neg hne, Ow_kl, e7, if_neg hne], by rw [Ln_rl2, Ln_kl, e8, if_neg hne], by rw [La_rl2, La_kl]; exact e9 a q1⟩
  · rw [Co_rl2]
    by_cases hb : b = Hn g
    · rw [if_pos hb]; omega
    · rw [Kd_rl2, Kd_kl] at q1
      rw [if_neg hb, Co_kl, e6, if_neg hb]
      by_cases hbx : b = x
      · rw [if_pos hbx] at q1; omega
      · rw [if_neg hbx, e5, if_neg hb] at q1; exact hnt b q1
  · rw [Hn_rl2, Hn_kl, e10] at q1
    rw [Kd_rl2, Kd_kl]
    split
    · rfl
    · rw [e5, if_neg (by omega)]; exact hen b (by omega)
  · rw [Kd_rl2, Kd_kl] at q2
    rw [Ow_rl2]
    by_cases hb : b = Hn g
    · rw [if_pos hb]; exact .inl (by simp)
    · exfalso
      by_cases hbx : b = x
      · rw [if_pos hbx] at q2; omega
      · rw [if_neg hbx, e5, if_neg hb, hen b q1] at q2; omega
  · have hthx : th ≠ x := by
      rcases hx with ⟨rfl, _⟩ | ⟨rfl, _⟩
      · intro q; rw [q] at h2; omega
      · omega
    rw [Kd_rl2, Kd_kl, if_neg hthx, e5, if_neg (by omega)]; exact h2
  · rw [Kd_rl2, Kd_kl, if_neg (Ne.symm hxn), e5, if_pos rfl]
  · rw [Ln_rl2, Ln_kl, e8, if_pos rfl]; omega
  · rw [Ln_rl2, Ln_kl, e8, if_pos rfl]; omega
  · rw [Ln_rl2, Ln_kl, e8, if_pos rfl]; omega
  · rw [Ra_rl2, if_pos ⟨rfl, rfl⟩, Co_kl, Ow_kl, e6, e7, if_pos rfl, if_pos rfl, Ra_kl, e4]; exact hf i y hy
  · rw [Ln_rl2, Ln_kl, e8, if_pos rfl]; exact hm
  · rw [Kd_rl2, Kd_kl, if_neg (Ne.symm hxn), e5, if_pos rfl]
