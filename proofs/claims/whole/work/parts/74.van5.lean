/-! the class: its small predicates; its van, what it is told -/
theorem ite01' {p : Prop} (d : Decidable p) : (@ite Int32 p d 1 0) = 0 ∨ (@ite Int32 p d 1 0) = 1 := by by_cases h : p <;> simp [h]
def Sp_PV_isBox (Γ : GAM) (v : Int32) (g : GH) (K : Int32 → GH → Prop) : Prop := K (if 0 ≤ v ∧ v ≤ 7 then 1 else 0) g
-- the walk of PV_isBox
set_option maxRecDepth 100000 in
def B_PV_isBox_0 (Γ : GAM) (K : Int32 → GH → Prop) (p0 : Int32) (g : GH) : Prop :=
  Sp_PV_isWithin Γ p0 (0 : Int32) (7 : Int32) g (fun (x2 : Int32) (g1 : GH) => ((x2 = 0 ∨ x2 = 1) ∧ K x2 g1))
set_option maxHeartbeats 4000000 in
set_option maxRecDepth 100000 in
theorem S_PV_isBox_0 {Γ : GAM} {E : EV} {K : Int32 → GH → Prop} (hE : GE Γ E cX10_isBox 1 RX10 (some (.boolean)) 1 22 (fun r g' => ∃ x, r = some (.int x) ∧ K x g')) (p0 : Int32) (g : GH) (h : B_PV_isBox_0 Γ K p0 g) : JW Γ E 0 [some (.int p0)] [] g := by
  unfold B_PV_isBox_0 at h
  refine j_iload_n hE (by decide +kernel : decode cX10_isBox 0 = .ok (.iload_n 0, 1)) rfl rfl ?_
  refine j_iconst hE (by decide +kernel : decode cX10_isBox 1 = .ok (.iconst 0, 1)) (v := (0 : Int32)) (by decide) ?_
  refine j_bipush hE (by decide +kernel : decode cX10_isBox 2 = .ok (.bipush 7, 2)) (v := (7 : Int32)) (by decide) ?_
  refine j_callS hE rfl cl_X10_64 st_X10_isWithin ⟨by omega, by omega⟩ (As := [.int p0, .int (0 : Int32), .int (7 : Int32)]) (rest := []) rfl rfl (Nat.le_of_ble_eq_true rfl) (by decide +kernel : decode cX10_isBox 4 = .ok (.invokestatic 64, 3)) (mt_PV_isWithin _ _ _ _ _ h) ?_
  rintro _ g1 ⟨x2, rfl, h⟩
  exact j_zret hE h.1 (by decide +kernel : decode cX10_isBox 7 = .ok (.ireturn, 1)) ⟨_, rfl, h.2⟩
set_option maxHeartbeats 4000000 in
set_option maxRecDepth 100000 in
theorem rl_PV_isBox {Γ : GAM} {l : Launch} {p0 : Int32} {g : GH} {K : Int32 → GH → Prop} (h0 : B_PV_isBox_0 Γ K p0 g) : MetA Γ l yX10_isBox cX10_isBox 1 (some (.boolean)) 1 22 [.int p0] g (fun r g' => ∃ x, r = some (.int x) ∧ K x g') := by
  refine MetA.introL (Lx := [some (.int p0)]) (by decide) (Nat.le_of_ble_eq_true rfl) rfl rfl ?_
  intro E hEl hE hnm
  exact S_PV_isBox_0 hE p0 g h0
theorem mt_PV_isBox {Γ : GAM} {l : Launch} (p0 : Int32) (g : GH) (K : Int32 → GH → Prop) (h : Sp_PV_isBox Γ p0 g K) : MetA Γ l yX10_isBox cX10_isBox 1 (some (.boolean)) 1 22 [.int p0] g (fun r g' => ∃ x, r = some (.int x) ∧ K x g') := by
  refine rl_PV_isBox ?_
  unfold B_PV_isBox_0 Sp_PV_isWithin
  exact ⟨ite01 _, h⟩
def Sp_PV_isShire (Γ : GAM) (v : Int32) (g : GH) (K : Int32 → GH → Prop) : Prop := K (if 0 ≤ v ∧ v ≤ 3 then 1 else 0) g
-- the walk of PV_isShire
set_option maxRecDepth 100000 in
def B_PV_isShire_0 (Γ : GAM) (K : Int32 → GH → Prop) (p0 : Int32) (g : GH) : Prop :=
  Sp_PV_isWithin Γ p0 (0 : Int32) (3 : Int32) g (fun (x2 : Int32) (g1 : GH) => ((x2 = 0 ∨ x2 = 1) ∧ K x2 g1))
set_option maxHeartbeats 4000000 in
set_option maxRecDepth 100000 in
theorem S_PV_isShire_0 {Γ : GAM} {E : EV} {K : Int32 → GH → Prop} (hE : GE Γ E cX10_isShire 1 RX10 (some (.boolean)) 1 22 (fun r g' => ∃ x, r = some (.int x) ∧ K x g')) (p0 : Int32) (g : GH) (h : B_PV_isShire_0 Γ K p0 g) : JW Γ E 0 [some (.int p0)] [] g := by
  unfold B_PV_isShire_0 at h
  refine j_iload_n hE (by decide +kernel : decode cX10_isShire 0 = .ok (.iload_n 0, 1)) rfl rfl ?_
  refine j_iconst hE (by decide +kernel : decode cX10_isShire 1 = .ok (.iconst 0, 1)) (v := (0 : Int32)) (by decide) ?_
  refine j_iconst hE (by decide +kernel : decode cX10_isShire 2 = .ok (.iconst 3, 1)) (v := (3 : Int32)) (by decide) ?_
  refine j_callS hE rfl cl_X10_64 st_X10_isWithin ⟨by omega, by omega⟩ (As := [.int p0, .int (0 : Int32), .int (3 : Int32)]) (rest := []) rfl rfl (Nat.le_of_ble_eq_true rfl) (by decide +kernel : decode cX10_isShire 3 = .ok (.invokestatic 64, 3)) (mt_PV_isWithin _ _ _ _ _ h) ?_
  rintro _ g1 ⟨x2, rfl, h⟩
  exact j_zret hE h.1 (by decide +kernel : decode cX10_isShire 6 = .ok (.ireturn, 1)) ⟨_, rfl, h.2⟩
set_option maxHeartbeats 4000000 in
set_option maxRecDepth 100000 in
theorem rl_PV_isShire {Γ : GAM} {l : Launch} {p0 : Int32} {g : GH} {K : Int32 → GH → Prop} (h0 : B_PV_isShire_0 Γ K p0 g) : MetA Γ l yX10_isShire cX10_isShire 1 (some (.boolean)) 1 22 [.int p0] g (fun r g' => ∃ x, r = some (.int x) ∧ K x g') := by
  refine MetA.introL (Lx := [some (.int p0)]) (by decide) (Nat.le_of_ble_eq_true rfl) rfl rfl ?_
  intro E hEl hE hnm
  exact S_PV_isShire_0 hE p0 g h0
theorem mt_PV_isShire {Γ : GAM} {l : Launch} (p0 : Int32) (g : GH) (K : Int32 → GH → Prop) (h : Sp_PV_isShire Γ p0 g K) : MetA Γ l yX10_isShire cX10_isShire 1 (some (.boolean)) 1 22 [.int p0] g (fun r g' => ∃ x, r = some (.int x) ∧ K x g') := by
  refine rl_PV_isShire ?_
  unfold B_PV_isShire_0 Sp_PV_isWithin
  exact ⟨ite01 _, h⟩
def Sp_PV_isStreet (Γ : GAM) (v : Int32) (g : GH) (K : Int32 → GH → Prop) : Prop := K (if 0 ≤ v ∧ v ≤ 9 then 1 else 0) g
-- the walk of PV_isStreet
set_option maxRecDepth 100000 in
def B_PV_isStreet_0 (Γ : GAM) (K : Int32 → GH → Prop) (p0 : Int32) (g : GH) : Prop :=
  Sp_PV_isWithin Γ p0 (0 : Int32) (9 : Int32) g (fun (x2 : Int32) (g1 : GH) => ((x2 = 0 ∨ x2 = 1) ∧ K x2 g1))
set_option maxHeartbeats 4000000 in
set_option maxRecDepth 100000 in
theorem S_PV_isStreet_0 {Γ : GAM} {E : EV} {K : Int32 → GH → Prop} (hE : GE Γ E cX10_isStreet 1 RX10 (some (.boolean)) 1 22 (fun r g' => ∃ x, r = some (.int x) ∧ K x g')) (p0 : Int32) (g : GH) (h : B_PV_isStreet_0 Γ K p0 g) : JW Γ E 0 [some (.int p0)] [] g := by
  unfold B_PV_isStreet_0 at h
  refine j_iload_n hE (by decide +kernel : decode cX10_isStreet 0 = .ok (.iload_n 0, 1)) rfl rfl ?_
  refine j_iconst hE (by decide +kernel : decode cX10_isStreet 1 = .ok (.iconst 0, 1)) (v := (0 : Int32)) (by decide) ?_
  refine j_bipush hE (by decide +kernel : decode cX10_isStreet 2 = .ok (.bipush 9, 2)) (v := (9 : Int32)) (by decide) ?_
  refine j_callS hE rfl cl_X10_64 st_X10_isWithin ⟨by omega, by omega⟩ (As := [.int p0, .int (0 : Int32), .int (9 : Int32)]) (rest := []) rfl rfl (Nat.le_of_ble_eq_true rfl) (by decide +kernel : decode cX10_isStreet 4 = .ok (.invokestatic 64, 3)) (mt_PV_isWithin _ _ _ _ _ h) ?_
  rintro _ g1 ⟨x2, rfl, h⟩
  exact j_zret hE h.1 (by decide +kernel : decode cX10_isStreet 7 = .ok (.ireturn, 1)) ⟨_, rfl, h.2⟩
set_option maxHeartbeats 4000000 in
set_option maxRecDepth 100000 in
theorem rl_PV_isStreet {Γ : GAM} {l : Launch} {p0 : Int32} {g : GH} {K : Int32 → GH → Prop} (h0 : B_PV_isStreet_0 Γ K p0 g) : MetA Γ l yX10_isStreet cX10_isStreet 1 (some (.boolean)) 1 22 [.int p0] g (fun r g' => ∃ x, r = some (.int x) ∧ K x g') := by
  refine MetA.introL (Lx := [some (.int p0)]) (by decide) (Nat.le_of_ble_eq_true rfl) rfl rfl ?_
  intro E hEl hE hnm
  exact S_PV_isStreet_0 hE p0 g h0
theorem mt_PV_isStreet {Γ : GAM} {l : Launch} (p0 : Int32) (g : GH) (K : Int32 → GH → Prop) (h : Sp_PV_isStreet Γ p0 g K) : MetA Γ l yX10_isStreet cX10_isStreet 1 (some (.boolean)) 1 22 [.int p0] g (fun r g' => ∃ x, r = some (.int x) ∧ K x g') := by
  refine rl_PV_isStreet ?_
  unfold B_PV_isStreet_0 Sp_PV_isWithin
  exact ⟨ite01 _, h⟩
def Sp_PV_isChoice (Γ : GAM) (v : Int32) (g : GH) (K : Int32 → GH → Prop) : Prop := K (if 0 ≤ v ∧ v ≤ 4 then 1 else 0) g
-- the walk of PV_isChoice
set_option maxRecDepth 100000 in
def B_PV_isChoice_0 (Γ : GAM) (K : Int32 → GH → Prop) (p0 : Int32) (g : GH) : Prop :=
  Sp_PV_isWithin Γ p0 (0 : Int32) (4 : Int32) g (fun (x2 : Int32) (g1 : GH) => ((x2 = 0 ∨ x2 = 1) ∧ K x2 g1))
set_option maxHeartbeats 4000000 in
set_option maxRecDepth 100000 in
theorem S_PV_isChoice_0 {Γ : GAM} {E : EV} {K : Int32 → GH → Prop} (hE : GE Γ E cX10_isChoice 1 RX10 (some (.boolean)) 1 22 (fun r g' => ∃ x, r = some (.int x) ∧ K x g')) (p0 : Int32) (g : GH) (h : B_PV_isChoice_0 Γ K p0 g) : JW Γ E 0 [some (.int p0)] [] g := by
  unfold B_PV_isChoice_0 at h
  refine j_iload_n hE (by decide +kernel : decode cX10_isChoice 0 = .ok (.iload_n 0, 1)) rfl rfl ?_
  refine j_iconst hE (by decide +kernel : decode cX10_isChoice 1 = .ok (.iconst 0, 1)) (v := (0 : Int32)) (by decide) ?_
  refine j_iconst hE (by decide +kernel : decode cX10_isChoice 2 = .ok (.iconst 4, 1)) (v := (4 : Int32)) (by decide) ?_
  refine j_callS hE rfl cl_X10_64 st_X10_isWithin ⟨by omega, by omega⟩ (As := [.int p0, .int (0 : Int32), .int (4 : Int32)]) (rest := []) rfl rfl (Nat.le_of_ble_eq_true rfl) (by decide +kernel : decode cX10_isChoice 3 = .ok (.invokestatic 64, 3)) (mt_PV_isWithin _ _ _ _ _ h) ?_
  rintro _ g1 ⟨x2, rfl, h⟩
  exact j_zret hE h.1 (by decide +kernel : decode cX10_isChoice 6 = .ok (.ireturn, 1)) ⟨_, rfl, h.2⟩
set_option maxHeartbeats 4000000 in
set_option maxRecDepth 100000 in
theorem rl_PV_isChoice {Γ : GAM} {l : Launch} {p0 : Int32} {g : GH} {K : Int32 → GH → Prop} (h0 : B_PV_isChoice_0 Γ K p0 g) : MetA Γ l yX10_isChoice cX10_isChoice 1 (some (.boolean)) 1 22 [.int p0] g (fun r g' => ∃ x, r = some (.int x) ∧ K x g') := by
  refine MetA.introL (Lx := [some (.int p0)]) (by decide) (Nat.le_of_ble_eq_true rfl) rfl rfl ?_
  intro E hEl hE hnm
  exact S_PV_isChoice_0 hE p0 g h0
theorem mt_PV_isChoice {Γ : GAM} {l : Launch} (p0 : Int32) (g : GH) (K : Int32 → GH → Prop) (h : Sp_PV_isChoice Γ p0 g K) : MetA Γ l yX10_isChoice cX10_isChoice 1 (some (.boolean)) 1 22 [.int p0] g (fun r g' => ∃ x, r = some (.int x) ∧ K x g') := by
  refine rl_PV_isChoice ?_
  unfold B_PV_isChoice_0 Sp_PV_isWithin
  exact ⟨ite01 _, h⟩
def Sp_PV_isHand (Γ : GAM) (v : Int32) (g : GH) (K : Int32 → GH → Prop) : Prop := K (if 0 ≤ v ∧ v ≤ 5 then 1 else 0) g
-- the walk of PV_isHand
set_option maxRecDepth 100000 in
def B_PV_isHand_0 (Γ : GAM) (K : Int32 → GH → Prop) (p0 : Int32) (g : GH) : Prop :=
  Sp_PV_isWithin Γ p0 (0 : Int32) (5 : Int32) g (fun (x2 : Int32) (g1 : GH) => ((x2 = 0 ∨ x2 = 1) ∧ K x2 g1))
set_option maxHeartbeats 4000000 in
set_option maxRecDepth 100000 in
theorem S_PV_isHand_0 {Γ : GAM} {E : EV} {K : Int32 → GH → Prop} (hE : GE Γ E cX10_isHand 1 RX10 (some (.boolean)) 1 22 (fun r g' => ∃ x, r = some (.int x) ∧ K x g')) (p0 : Int32) (g : GH) (h : B_PV_isHand_0 Γ K p0 g) : JW Γ E 0 [some (.int p0)] [] g := by
  unfold B_PV_isHand_0 at h
  refine j_iload_n hE (by decide +kernel : decode cX10_isHand 0 = .ok (.iload_n 0, 1)) rfl rfl ?_
  refine j_iconst hE (by decide +kernel : decode cX10_isHand 1 = .ok (.iconst 0, 1)) (v := (0 : Int32)) (by decide) ?_
  refine j_iconst hE (by decide +kernel : decode cX10_isHand 2 = .ok (.iconst 5, 1)) (v := (5 : Int32)) (by decide) ?_
  refine j_callS hE rfl cl_X10_64 st_X10_isWithin ⟨by omega, by omega⟩ (As := [.int p0, .int (0 : Int32), .int (5 : Int32)]) (rest := []) rfl rfl (Nat.le_of_ble_eq_true rfl) (by decide +kernel : decode cX10_isHand 3 = .ok (.invokestatic 64, 3)) (mt_PV_isWithin _ _ _ _ _ h) ?_
  rintro _ g1 ⟨x2, rfl, h⟩
  exact j_zret hE h.1 (by decide +kernel : decode cX10_isHand 6 = .ok (.ireturn, 1)) ⟨_, rfl, h.2⟩
set_option maxHeartbeats 4000000 in
set_option maxRecDepth 100000 in
theorem rl_PV_isHand {Γ : GAM} {l : Launch} {p0 : Int32} {g : GH} {K : Int32 → GH → Prop} (h0 : B_PV_isHand_0 Γ K p0 g) : MetA Γ l yX10_isHand cX10_isHand 1 (some (.boolean)) 1 22 [.int p0] g (fun r g' => ∃ x, r = some (.int x) ∧ K x g') := by
  refine MetA.introL (Lx := [some (.int p0)]) (by decide) (Nat.le_of_ble_eq_true rfl) rfl rfl ?_
  intro E hEl hE hnm
  exact S_PV_isHand_0 hE p0 g h0
theorem mt_PV_isHand {Γ : GAM} {l : Launch} (p0 : Int32) (g : GH) (K : Int32 → GH → Prop) (h : Sp_PV_isHand Γ p0 g K) : MetA Γ l yX10_isHand cX10_isHand 1 (some (.boolean)) 1 22 [.int p0] g (fun r g' => ∃ x, r = some (.int x) ∧ K x g') := by
  refine rl_PV_isHand ?_
  unfold B_PV_isHand_0 Sp_PV_isWithin
  exact ⟨ite01 _, h⟩
def Sp_PV_isSign (Γ : GAM) (v : Int32) (g : GH) (K : Int32 → GH → Prop) : Prop := K (if 0 ≤ v ∧ v ≤ 99999999 then 1 else 0) g
-- the walk of PV_isSign
set_option maxRecDepth 100000 in
def B_PV_isSign_0 (Γ : GAM) (K : Int32 → GH → Prop) (p0 : Int32) (g : GH) : Prop :=
  Sp_PV_isWithin Γ p0 (0 : Int32) (99999999 : Int32) g (fun (x2 : Int32) (g1 : GH) => ((x2 = 0 ∨ x2 = 1) ∧ K x2 g1))
set_option maxHeartbeats 4000000 in
set_option maxRecDepth 100000 in
theorem S_PV_isSign_0 {Γ : GAM} {E : EV} {K : Int32 → GH → Prop} (hE : GE Γ E cX10_isSign 1 RX10 (some (.boolean)) 1 22 (fun r g' => ∃ x, r = some (.int x) ∧ K x g')) (p0 : Int32) (g : GH) (h : B_PV_isSign_0 Γ K p0 g) : JW Γ E 0 [some (.int p0)] [] g := by
  unfold B_PV_isSign_0 at h
  refine j_iload_n hE (by decide +kernel : decode cX10_isSign 0 = .ok (.iload_n 0, 1)) rfl rfl ?_
  refine j_iconst hE (by decide +kernel : decode cX10_isSign 1 = .ok (.iconst 0, 1)) (v := (0 : Int32)) (by decide) ?_
  refine j_ldcw hE ct_X10_360 (by decide +kernel : decode cX10_isSign 2 = .ok (.ldc_w 360, 3)) ?_
  refine j_callS hE rfl cl_X10_64 st_X10_isWithin ⟨by omega, by omega⟩ (As := [.int p0, .int (0 : Int32), .int (99999999 : Int32)]) (rest := []) rfl rfl (Nat.le_of_ble_eq_true rfl) (by decide +kernel : decode cX10_isSign 5 = .ok (.invokestatic 64, 3)) (mt_PV_isWithin _ _ _ _ _ h) ?_
  rintro _ g1 ⟨x2, rfl, h⟩
  exact j_zret hE h.1 (by decide +kernel : decode cX10_isSign 8 = .ok (.ireturn, 1)) ⟨_, rfl, h.2⟩
set_option maxHeartbeats 4000000 in
set_option maxRecDepth 100000 in
theorem rl_PV_isSign {Γ : GAM} {l : Launch} {p0 : Int32} {g : GH} {K : Int32 → GH → Prop} (h0 : B_PV_isSign_0 Γ K p0 g) : MetA Γ l yX10_isSign cX10_isSign 1 (some (.boolean)) 1 22 [.int p0] g (fun r g' => ∃ x, r = some (.int x) ∧ K x g') := by
  refine MetA.introL (Lx := [some (.int p0)]) (by decide) (Nat.le_of_ble_eq_true rfl) rfl rfl ?_
  intro E hEl hE hnm
  exact S_PV_isSign_0 hE p0 g h0
theorem mt_PV_isSign {Γ : GAM} {l : Launch} (p0 : Int32) (g : GH) (K : Int32 → GH → Prop) (h : Sp_PV_isSign Γ p0 g K) : MetA Γ l yX10_isSign cX10_isSign 1 (some (.boolean)) 1 22 [.int p0] g (fun r g' => ∃ x, r = some (.int x) ∧ K x g') := by
  refine rl_PV_isSign ?_
  unfold B_PV_isSign_0 Sp_PV_isWithin
  exact ⟨ite01 _, h⟩
def Sp_PV_isDay (Γ : GAM) (v : Int32) (g : GH) (K : Int32 → GH → Prop) : Prop := K (if 0 ≤ v ∧ v ≤ 400 then 1 else 0) g
-- the walk of PV_isDay
set_option maxRecDepth 100000 in
def B_PV_isDay_0 (Γ : GAM) (K : Int32 → GH → Prop) (p0 : Int32) (g : GH) : Prop :=
  Sp_PV_isWithin Γ p0 (0 : Int32) (400 : Int32) g (fun (x2 : Int32) (g1 : GH) => ((x2 = 0 ∨ x2 = 1) ∧ K x2 g1))
set_option maxHeartbeats 4000000 in
set_option maxRecDepth 100000 in
theorem S_PV_isDay_0 {Γ : GAM} {E : EV} {K : Int32 → GH → Prop} (hE : GE Γ E cX10_isDay 1 RX10 (some (.boolean)) 1 22 (fun r g' => ∃ x, r = some (.int x) ∧ K x g')) (p0 : Int32) (g : GH) (h : B_PV_isDay_0 Γ K p0 g) : JW Γ E 0 [some (.int p0)] [] g := by
  unfold B_PV_isDay_0 at h
  refine j_iload_n hE (by decide +kernel : decode cX10_isDay 0 = .ok (.iload_n 0, 1)) rfl rfl ?_
  refine j_iconst hE (by decide +kernel : decode cX10_isDay 1 = .ok (.iconst 0, 1)) (v := (0 : Int32)) (by decide) ?_
  refine j_sipush hE (by decide +kernel : decode cX10_isDay 2 = .ok (.sipush 400, 3)) (v := (400 : Int32)) (by decide) ?_
  refine j_callS hE rfl cl_X10_64 st_X10_isWithin ⟨by omega, by omega⟩ (As := [.int p0, .int (0 : Int32), .int (400 : Int32)]) (rest := []) rfl rfl (Nat.le_of_ble_eq_true rfl) (by decide +kernel : decode cX10_isDay 5 = .ok (.invokestatic 64, 3)) (mt_PV_isWithin _ _ _ _ _ h) ?_
  rintro _ g1 ⟨x2, rfl, h⟩
  exact j_zret hE h.1 (by decide +kernel : decode cX10_isDay 8 = .ok (.ireturn, 1)) ⟨_, rfl, h.2⟩
set_option maxHeartbeats 4000000 in
set_option maxRecDepth 100000 in
theorem rl_PV_isDay {Γ : GAM} {l : Launch} {p0 : Int32} {g : GH} {K : Int32 → GH → Prop} (h0 : B_PV_isDay_0 Γ K p0 g) : MetA Γ l yX10_isDay cX10_isDay 1 (some (.boolean)) 1 22 [.int p0] g (fun r g' => ∃ x, r = some (.int x) ∧ K x g') := by
  refine MetA.introL (Lx := [some (.int p0)]) (by decide) (Nat.le_of_ble_eq_true rfl) rfl rfl ?_
  intro E hEl hE hnm
  exact S_PV_isDay_0 hE p0 g h0
theorem mt_PV_isDay {Γ : GAM} {l : Launch} (p0 : Int32) (g : GH) (K : Int32 → GH → Prop) (h : Sp_PV_isDay Γ p0 g K) : MetA Γ l yX10_isDay cX10_isDay 1 (some (.boolean)) 1 22 [.int p0] g (fun r g' => ∃ x, r = some (.int x) ∧ K x g') := by
  refine rl_PV_isDay ?_
  unfold B_PV_isDay_0 Sp_PV_isWithin
  exact ⟨ite01 _, h⟩
def Sp_PV_isMinute (Γ : GAM) (v : Int32) (g : GH) (K : Int32 → GH → Prop) : Prop := K (if 0 ≤ v ∧ v ≤ 1440 then 1 else 0) g
-- the walk of PV_isMinute
set_option maxRecDepth 100000 in
def B_PV_isMinute_0 (Γ : GAM) (K : Int32 → GH → Prop) (p0 : Int32) (g : GH) : Prop :=
  Sp_PV_isWithin Γ p0 (0 : Int32) (1440 : Int32) g (fun (x2 : Int32) (g1 : GH) => ((x2 = 0 ∨ x2 = 1) ∧ K x2 g1))
set_option maxHeartbeats 4000000 in
set_option maxRecDepth 100000 in
theorem S_PV_isMinute_0 {Γ : GAM} {E : EV} {K : Int32 → GH → Prop} (hE : GE Γ E cX10_isMinute 1 RX10 (some (.boolean)) 1 22 (fun r g' => ∃ x, r = some (.int x) ∧ K x g')) (p0 : Int32) (g : GH) (h : B_PV_isMinute_0 Γ K p0 g) : JW Γ E 0 [some (.int p0)] [] g := by
  unfold B_PV_isMinute_0 at h
  refine j_iload_n hE (by decide +kernel : decode cX10_isMinute 0 = .ok (.iload_n 0, 1)) rfl rfl ?_
  refine j_iconst hE (by decide +kernel : decode cX10_isMinute 1 = .ok (.iconst 0, 1)) (v := (0 : Int32)) (by decide) ?_
  refine j_sipush hE (by decide +kernel : decode cX10_isMinute 2 = .ok (.sipush 1440, 3)) (v := (1440 : Int32)) (by decide) ?_
  refine j_callS hE rfl cl_X10_64 st_X10_isWithin ⟨by omega, by omega⟩ (As := [.int p0, .int (0 : Int32), .int (1440 : Int32)]) (rest := []) rfl rfl (Nat.le_of_ble_eq_true rfl) (by decide +kernel : decode cX10_isMinute 5 = .ok (.invokestatic 64, 3)) (mt_PV_isWithin _ _ _ _ _ h) ?_
  rintro _ g1 ⟨x2, rfl, h⟩
  exact j_zret hE h.1 (by decide +kernel : decode cX10_isMinute 8 = .ok (.ireturn, 1)) ⟨_, rfl, h.2⟩
set_option maxHeartbeats 4000000 in
set_option maxRecDepth 100000 in
theorem rl_PV_isMinute {Γ : GAM} {l : Launch} {p0 : Int32} {g : GH} {K : Int32 → GH → Prop} (h0 : B_PV_isMinute_0 Γ K p0 g) : MetA Γ l yX10_isMinute cX10_isMinute 1 (some (.boolean)) 1 22 [.int p0] g (fun r g' => ∃ x, r = some (.int x) ∧ K x g') := by
  refine MetA.introL (Lx := [some (.int p0)]) (by decide) (Nat.le_of_ble_eq_true rfl) rfl rfl ?_
  intro E hEl hE hnm
  exact S_PV_isMinute_0 hE p0 g h0
theorem mt_PV_isMinute {Γ : GAM} {l : Launch} (p0 : Int32) (g : GH) (K : Int32 → GH → Prop) (h : Sp_PV_isMinute Γ p0 g K) : MetA Γ l yX10_isMinute cX10_isMinute 1 (some (.boolean)) 1 22 [.int p0] g (fun r g' => ∃ x, r = some (.int x) ∧ K x g') := by
  refine rl_PV_isMinute ?_
  unfold B_PV_isMinute_0 Sp_PV_isWithin
  exact ⟨ite01 _, h⟩
def Sp_PV_isUpToNow (Γ : GAM) (m : Nat) (v : Int32) (g : GH) (K : Int32 → GH → Prop) : Prop := Kd g m = 12 ∧ K (if 0 ≤ v ∧ v ≤ Gi g 1408 m then 1 else 0) g
-- the walk of PV_isUpToNow
set_option maxRecDepth 100000 in
def B_PV_isUpToNow_0 (Γ : GAM) (K : Int32 → GH → Prop) (th : Nat) (p0 : Int32) (g : GH) : Prop :=
  Kd g th = 12 ∧ Sp_PV_isWithin Γ p0 (0 : Int32) (Gi g 1408 th) g (fun (x2 : Int32) (g1 : GH) => ((x2 = 0 ∨ x2 = 1) ∧ K x2 g1))
set_option maxHeartbeats 4000000 in
set_option maxRecDepth 100000 in
theorem S_PV_isUpToNow_0 {Γ : GAM} {E : EV} {K : Int32 → GH → Prop} (hE : GE Γ E cX10_isUpToNow 2 RX10 (some (.boolean)) 1 22 (fun r g' => ∃ x, r = some (.int x) ∧ K x g')) (th : Nat) (p0 : Int32) (g : GH) (h : B_PV_isUpToNow_0 Γ K th p0 g) : JW Γ E 0 [some (.ref th), some (.int p0)] [] g := by
  unfold B_PV_isUpToNow_0 at h
  refine j_iload_n hE (by decide +kernel : decode cX10_isUpToNow 0 = .ok (.iload_n 1, 1)) rfl rfl ?_
  refine j_iconst hE (by decide +kernel : decode cX10_isUpToNow 1 = .ok (.iconst 0, 1)) (v := (0 : Int32)) (by decide) ?_
  refine j_aload_n hE (by decide +kernel : decode cX10_isUpToNow 2 = .ok (.aload_n 0, 1)) rfl rfl ?_
  obtain ⟨hk, h⟩ := h
  refine j_getI hE fg_X10_68 hk (by decide +kernel : decode cX10_isUpToNow 3 = .ok (.getfield 68, 3)) ?_
  refine j_callS hE rfl cl_X10_64 st_X10_isWithin ⟨by omega, by omega⟩ (As := [.int p0, .int (0 : Int32), .int (Gi g 1408 th)]) (rest := []) rfl rfl (Nat.le_of_ble_eq_true rfl) (by decide +kernel : decode cX10_isUpToNow 6 = .ok (.invokestatic 64, 3)) (mt_PV_isWithin _ _ _ _ _ h) ?_
  rintro _ g1 ⟨x2, rfl, h⟩
  exact j_zret hE h.1 (by decide +kernel : decode cX10_isUpToNow 9 = .ok (.ireturn, 1)) ⟨_, rfl, h.2⟩
set_option maxHeartbeats 4000000 in
set_option maxRecDepth 100000 in
theorem rl_PV_isUpToNow {Γ : GAM} {l : Launch} {th : Nat} {p0 : Int32} {g : GH} {K : Int32 → GH → Prop} (h0 : B_PV_isUpToNow_0 Γ K th p0 g) : MetA Γ l yX10_isUpToNow cX10_isUpToNow 2 (some (.boolean)) 1 22 [.ref th, .int p0] g (fun r g' => ∃ x, r = some (.int x) ∧ K x g') := by
  refine MetA.introL (Lx := [some (.ref th), some (.int p0)]) (by decide) (Nat.le_of_ble_eq_true rfl) rfl rfl ?_
  intro E hEl hE hnm
  exact S_PV_isUpToNow_0 hE th p0 g h0
theorem mt_PV_isUpToNow {Γ : GAM} {l : Launch} (th : Nat) (p0 : Int32) (g : GH) (K : Int32 → GH → Prop) (h : Sp_PV_isUpToNow Γ th p0 g K) : MetA Γ l yX10_isUpToNow cX10_isUpToNow 2 (some (.boolean)) 1 22 [.ref th, .int p0] g (fun r g' => ∃ x, r = some (.int x) ∧ K x g') := by
  refine rl_PV_isUpToNow ?_
  unfold B_PV_isUpToNow_0 Sp_PV_isWithin
  exact ⟨h.1, ite01 _, h.2⟩
def Sp_Vn_boxAt (Γ : GAM) (m : Nat) (i : Int32) (g : GH) (K : Int32 → GH → Prop) : Prop := ∃ s t, V6 m g ∧ Gi g 1160 m = nI (vN s) ∧ VD m g s t ∧ K (if (vBe s t).isSome = true ∧ (0 ≤ i ∧ i ≤ nI (vN s) - 1) then nI ((vTr s t).getD i.toNatClampNeg 0) else -1) g
-- the walk of Vn_boxAt
set_option maxRecDepth 100000 in
def B_Vn_boxAt_46 (Γ : GAM) (K : Int32 → GH → Prop) (s0 : Int32) (g : GH) : Prop :=
  K s0 g
set_option maxHeartbeats 4000000 in
set_option maxRecDepth 100000 in
theorem S_Vn_boxAt_46 {Γ : GAM} {E : EV} {K : Int32 → GH → Prop} (hE : GE Γ E cX8_boxAt 3 RX8 (some (.int)) 1 30 (fun r g' => ∃ x, r = some (.int x) ∧ K x g')) (s0 : Int32) (g : GH) (h : B_Vn_boxAt_46 Γ K s0 g) : JW Γ E 46 [none, none, none] [.int s0] g := by
  unfold B_Vn_boxAt_46 at h
  exact j_iret hE (by decide +kernel : decode cX8_boxAt 46 = .ok (.ireturn, 1)) ⟨_, rfl, h⟩
set_option maxRecDepth 100000 in
def B_Vn_boxAt_24 (Γ : GAM) (K : Int32 → GH → Prop) (l0 : Nat) (l1 : Int32) (s0 : Int32) (g : GH) : Prop :=
  Sp_PV_isWithin Γ l1 (0 : Int32) (s0 - (1 : Int32)) g (fun (x2 : Int32) (g1 : GH) => ((x2 = 0 → B_Vn_boxAt_46 Γ K (-1 : Int32) g1) ∧ (¬ (x2 = 0) → Kd g1 l0 = 10 ∧ ∃ a3 : Nat, Gr g1 1157 l0 = some a3 ∧ Kd g1 a3 = 20 ∧ inB l1 (Ln g1 a3) ∧ B_Vn_boxAt_46 Γ K (Ia g1 (Co g1 a3) (Ow g1 a3) l1.toNatClampNeg) g1)))
set_option maxHeartbeats 4000000 in
set_option maxRecDepth 100000 in
theorem S_Vn_boxAt_24 {Γ : GAM} {E : EV} {K : Int32 → GH → Prop} (hE : GE Γ E cX8_boxAt 3 RX8 (some (.int)) 1 30 (fun r g' => ∃ x, r = some (.int x) ∧ K x g')) (l0 : Nat) (l1 : Int32) (s0 : Int32) (g : GH) (h : B_Vn_boxAt_24 Γ K l0 l1 s0 g) : JW Γ E 24 [some (.ref l0), some (.int l1), none] [.int s0] g := by
  unfold B_Vn_boxAt_24 at h
  refine j_istore_n hE (by decide +kernel : decode cX8_boxAt 24 = .ok (.istore_n 2, 1)) rfl (Nat.le_of_ble_eq_true rfl) rfl ?_
  refine j_iload_n hE (by decide +kernel : decode cX8_boxAt 25 = .ok (.iload_n 1, 1)) rfl rfl ?_
  refine j_iconst hE (by decide +kernel : decode cX8_boxAt 26 = .ok (.iconst 0, 1)) (v := (0 : Int32)) (by decide) ?_
  refine j_iload_n hE (by decide +kernel : decode cX8_boxAt 27 = .ok (.iload_n 2, 1)) rfl rfl ?_
  refine j_iconst hE (by decide +kernel : decode cX8_boxAt 28 = .ok (.iconst 1, 1)) (v := (1 : Int32)) (by decide) ?_
  refine j_isub hE (by decide +kernel : decode cX8_boxAt 29 = .ok (.isub, 1)) ?_
  refine j_callSN hE rfl cl_X8_56 st_X10_isWithin ⟨by omega, by omega⟩ (As := [.int l1, .int (0 : Int32), .int (s0 - (1 : Int32))]) (rest := []) rfl rfl (Nat.le_of_ble_eq_true rfl) (by decide +kernel : decode cX8_boxAt 30 = .ok (.invokestatic 56, 3)) (mt_PV_isWithin _ _ _ _ _ h) ?_
  rintro _ g1 ⟨x2, rfl, h⟩
  refine j_if_eq hE (by decide +kernel : decode cX8_boxAt 33 = .ok (.ifCond .eq 12, 3)) (tgt := 45) (by decide) (fun q => ?_) (fun q => ?_)
  · replace h := h.1 q
    refine j_iconst hE (by decide +kernel : decode cX8_boxAt 45 = .ok (.iconst (-1), 1)) (v := (-1 : Int32)) (by decide) ?_
    refine j_weak [none, none, none] trivial ?_
    exact S_Vn_boxAt_46 hE _ _ h
  · replace h := h.2 q
    refine j_aload_n hE (by decide +kernel : decode cX8_boxAt 36 = .ok (.aload_n 0, 1)) rfl rfl ?_
    obtain ⟨hk, h⟩ := h
    obtain ⟨a3, ha, h⟩ := h
    refine j_getRn hE fg_X8_27 hk ha (by decide +kernel : decode cX8_boxAt 37 = .ok (.getfield 27, 3)) ?_
    refine j_iload_n hE (by decide +kernel : decode cX8_boxAt 40 = .ok (.iload_n 1, 1)) rfl rfl ?_
    obtain ⟨hk, hb, h⟩ := h
    refine j_iald hE hk hb (by decide +kernel : decode cX8_boxAt 41 = .ok (.iaload, 1)) ?_
    refine j_goto hE (by decide +kernel : decode cX8_boxAt 42 = .ok (.goto 4, 3)) (tgt := 46) (by decide) ?_
    refine j_weak [none, none, none] trivial ?_
    exact S_Vn_boxAt_46 hE _ _ h
set_option maxRecDepth 100000 in
def B_Vn_boxAt_0 (Γ : GAM) (K : Int32 → GH → Prop) (th : Nat) (p0 : Int32) (g : GH) : Prop :=
  Kd g th = 10 ∧ ((¬ ((Gi g 1161 th) = (-1 : Int32)) → Kd g th = 10 ∧ Kd g th = 10 ∧ ∃ a1 : Nat, Gr g 1157 th = some a1 ∧ (20 ≤ Kd g a1 ∧ Kd g a1 < 24) ∧ B_Vn_boxAt_24 Γ K th p0 (if (Int32.ofNat (Ln g a1)) < (Gi g 1160 th) then (Int32.ofNat (Ln g a1)) else (Gi g 1160 th)) g) ∧ ((Gi g 1161 th) = (-1 : Int32) → B_Vn_boxAt_24 Γ K th p0 (0 : Int32) g))
set_option maxHeartbeats 4000000 in
set_option maxRecDepth 100000 in
theorem S_Vn_boxAt_0 {Γ : GAM} {E : EV} {K : Int32 → GH → Prop} (hE : GE Γ E cX8_boxAt 3 RX8 (some (.int)) 1 30 (fun r g' => ∃ x, r = some (.int x) ∧ K x g')) (th : Nat) (p0 : Int32) (g : GH) (h : B_Vn_boxAt_0 Γ K th p0 g) : JW Γ E 0 [some (.ref th), some (.int p0), none] [] g := by
  unfold B_Vn_boxAt_0 at h
  refine j_aload_n hE (by decide +kernel : decode cX8_boxAt 0 = .ok (.aload_n 0, 1)) rfl rfl ?_
  obtain ⟨hk, h⟩ := h
  refine j_getI hE fg_X8_34 hk (by decide +kernel : decode cX8_boxAt 1 = .ok (.getfield 34, 3)) ?_
  refine j_iconst hE (by decide +kernel : decode cX8_boxAt 4 = .ok (.iconst (-1), 1)) (v := (-1 : Int32)) (by decide) ?_
  refine j_icmp_ne hE (by decide +kernel : decode cX8_boxAt 5 = .ok (.if_icmp .ne 7, 3)) (tgt := 12) (by decide) (fun q => ?_) (fun q => ?_)
  · replace h := h.1 q
    refine j_aload_n hE (by decide +kernel : decode cX8_boxAt 12 = .ok (.aload_n 0, 1)) rfl rfl ?_
    obtain ⟨hk, h⟩ := h
    refine j_getI hE fg_X8_50 hk (by decide +kernel : decode cX8_boxAt 13 = .ok (.getfield 50, 3)) ?_
    refine j_aload_n hE (by decide +kernel : decode cX8_boxAt 16 = .ok (.aload_n 0, 1)) rfl rfl ?_
    obtain ⟨hk, h⟩ := h
    obtain ⟨a1, ha, h⟩ := h
    refine j_getRn hE fg_X8_27 hk ha (by decide +kernel : decode cX8_boxAt 17 = .ok (.getfield 27, 3)) ?_
    obtain ⟨hk, h⟩ := h
    refine j_alen hE hk (by decide +kernel : decode cX8_boxAt 20 = .ok (.arraylength, 1)) ?_
    refine j_mmin hE rfl ml_X8_75 st_J9_min_7cf53 in_Math co_J9_min_7cf53 (Nat.le_of_ble_eq_true rfl) (by omega) (by omega) (by decide +kernel : decode cX8_boxAt 21 = .ok (.invokestatic 75, 3)) ?_
    exact S_Vn_boxAt_24 hE _ _ _ _ h
  · replace h := h.2 q
    refine j_iconst hE (by decide +kernel : decode cX8_boxAt 8 = .ok (.iconst 0, 1)) (v := (0 : Int32)) (by decide) ?_
    refine j_goto hE (by decide +kernel : decode cX8_boxAt 9 = .ok (.goto 15, 3)) (tgt := 24) (by decide) ?_
    exact S_Vn_boxAt_24 hE _ _ _ _ h
set_option maxHeartbeats 4000000 in
set_option maxRecDepth 100000 in
theorem rl_Vn_boxAt {Γ : GAM} {l : Launch} {th : Nat} {p0 : Int32} {g : GH} {K : Int32 → GH → Prop} (h0 : B_Vn_boxAt_0 Γ K th p0 g) : MetA Γ l yX8_boxAt cX8_boxAt 3 (some (.int)) 1 30 [.ref th, .int p0] g (fun r g' => ∃ x, r = some (.int x) ∧ K x g') := by
  refine MetA.introL (Lx := [some (.ref th), some (.int p0), none]) (by decide) (Nat.le_of_ble_eq_true rfl) rfl rfl ?_
  intro E hEl hE hnm
  exact S_Vn_boxAt_0 hE th p0 g h0
theorem mt_Vn_boxAt {Γ : GAM} {l : Launch} (th : Nat) (p0 : Int32) (g : GH) (K : Int32 → GH → Prop) (h : Sp_Vn_boxAt Γ th p0 g K) : MetA Γ l yX8_boxAt cX8_boxAt 3 (some (.int)) 1 30 [.ref th, .int p0] g (fun r g' => ∃ x, r = some (.int x) ∧ K x g') := by
  obtain ⟨s, t, hV, hst, ⟨hD1, hD2⟩, hK⟩ := h
  obtain ⟨hkd, a1, a2, a3, a4, a5, a6, _, _, _, _, _, ⟨c1, c2, c3, c4, c5⟩⟩ := hV
  have hv8 := vN_le s
  refine rl_Vn_boxAt ?_
  unfold B_Vn_boxAt_0 B_Vn_boxAt_24 B_Vn_boxAt_46 Sp_PV_isWithin
  rw [hD1]
  cases hb : vBe s t with
  | none =>
    rw [hb] at hK
    rw [if_neg (fun z => absurd z.1 (by simp))] at hK
    refine ⟨hkd, fun u => absurd rfl u, fun _ => ⟨fun _ => hK, fun u => ?_⟩⟩
    refine absurd ?_ u
    rw [if_neg]
    rintro ⟨z1, z2⟩
    exact absurd (Int32.le_trans z1 z2) (by decide)
  | some p =>
    obtain ⟨hp1, hp2⟩ := hD2 p hb
    have hlen := vBe_len s t hb
    have htr : vTr s t = p.2 := by unfold vTr; rw [hb]
    rw [hb, htr] at hK
    refine ⟨hkd, fun _ => ⟨hkd, hkd, a6, c1, ⟨by omega, by omega⟩, ?_⟩, fun u => absurd u (nI_nm1 (by omega))⟩
    have e8 : Int32.ofNat (Ln g a6) = nI 8 := by rw [c5]; rfl
    rw [e8, hst, if_neg (c := nI 8 < nI (vN s)) (fun z => by have := (nj_lt (by omega) (by omega)).mp z; omega)]
    refine ⟨fun u => ?_, fun u => ?_⟩
    · rw [if_neg (fun z => by rw [if_pos z.2] at u; exact absurd u (by decide))] at hK
      exact hK
    · have hin : 0 ≤ p0 ∧ p0 ≤ nI (vN s) - 1 := Classical.byContradiction (fun z => u (if_neg z))
      rw [if_pos ⟨rfl, hin⟩] at hK
      have hn := nj_of hin.1
      have hlt : p0.toNatClampNeg < vN s := by
        have h2 := hin.2
        rw [hn.1] at h2
        rcases Nat.eq_zero_or_pos (vN s) with z | z
        · rw [z] at h2
          exact absurd (Int32.le_trans (nj_nneg hn.2) h2) (by decide)
        · rw [show nI (vN s) - 1 = nI (vN s - 1) from nj_sub (b := 1) (by omega)] at h2
          have := (nj_le hn.2 (by omega)).mp h2
          omega
      have hb8 : inB p0 (Ln g a6) := by rw [c5]; exact ⟨hin.1, by omega⟩
      refine ⟨hkd, a6, c1, c2, hb8, ?_⟩
      obtain ⟨x, hx⟩ := get_lt (show p0.toNatClampNeg < p.2.length by omega)
      rw [c3, c4, hp2 _ x hx]
      rw [List.getD_eq_getElem?_getD, hx] at hK
      exact hK
def Sp_Vn_setStop (Γ : GAM) (m : Nat) (v : Int32) (g : GH) (K : GH → Prop) : Prop := ∃ s, VnI m g s ∧ ∀ g', FrX m [1158, 1162] [] g g' → VnI m g' (u_stp s v) → K g'
-- the walk of Vn_setStop
set_option maxRecDepth 100000 in
def B_Vn_setStop_0 (Γ : GAM) (K : GH → Prop) (th : Nat) (p0 : Int32) (g : GH) : Prop :=
  Kd g th = 10 ∧ ∀ g1 : GH, g1 = sI g 1158 th p0 → Kd g1 th = 10 ∧ ∀ g2 : GH, g2 = sI g1 1162 th (-1 : Int32) → K g2
set_option maxHeartbeats 4000000 in
set_option maxRecDepth 100000 in
theorem S_Vn_setStop_0 {Γ : GAM} {E : EV} {K : GH → Prop} (hE : GE Γ E cX8_setStop 2 RX8 none 0 0 (fun r g' => r = none ∧ K g')) (th : Nat) (p0 : Int32) (g : GH) (h : B_Vn_setStop_0 Γ K th p0 g) : JW Γ E 0 [some (.ref th), some (.int p0)] [] g := by
  unfold B_Vn_setStop_0 at h
  refine j_aload_n hE (by decide +kernel : decode cX8_setStop 0 = .ok (.aload_n 0, 1)) rfl rfl ?_
  refine j_iload_n hE (by decide +kernel : decode cX8_setStop 1 = .ok (.iload_n 1, 1)) rfl rfl ?_
  obtain ⟨hk, h⟩ := h
  obtain ⟨g1, hg⟩ : ∃ z, z = sI g 1158 th p0 := ⟨_, rfl⟩; replace h := h g1 hg
  refine j_putI hE fa_X8_30 hk (fun q => by cases q) (by decide +kernel : decode cX8_setStop 2 = .ok (.putfield 30, 3)) ?_
  rw [← hg]
  refine j_aload_n hE (by decide +kernel : decode cX8_setStop 5 = .ok (.aload_n 0, 1)) rfl rfl ?_
  refine j_iconst hE (by decide +kernel : decode cX8_setStop 6 = .ok (.iconst (-1), 1)) (v := (-1 : Int32)) (by decide) ?_
  obtain ⟨hk, h⟩ := h
  obtain ⟨g2, hg⟩ : ∃ z, z = sI g1 1162 th (-1 : Int32) := ⟨_, rfl⟩; replace h := h g2 hg
  refine j_putI hE fa_X8_37 hk (fun q => by cases q) (by decide +kernel : decode cX8_setStop 7 = .ok (.putfield 37, 3)) ?_
  rw [← hg]
  exact j_vret hE (by decide +kernel : decode cX8_setStop 10 = .ok (.return_, 1)) ⟨rfl, h⟩
set_option maxHeartbeats 4000000 in
set_option maxRecDepth 100000 in
theorem rl_Vn_setStop {Γ : GAM} {l : Launch} {th : Nat} {p0 : Int32} {g : GH} {K : GH → Prop} (h0 : B_Vn_setStop_0 Γ K th p0 g) : MetA Γ l yX8_setStop cX8_setStop 2 none 0 0 [.ref th, .int p0] g (fun r g' => r = none ∧ K g') := by
  refine MetA.introL (Lx := [some (.ref th), some (.int p0)]) (by decide) (Nat.le_of_ble_eq_true rfl) rfl rfl ?_
  intro E hEl hE hnm
  exact S_Vn_setStop_0 hE th p0 g h0
theorem mt_Vn_setStop {Γ : GAM} {l : Launch} (th : Nat) (p0 : Int32) (g : GH) (K : GH → Prop) (h : Sp_Vn_setStop Γ th p0 g K) : MetA Γ l yX8_setStop cX8_setStop 2 none 0 0 [.ref th, .int p0] g (fun r g' => r = none ∧ K g') := by
  obtain ⟨s, ⟨⟨a, b, c, d, e, f⟩, hC⟩, hK⟩ := h
  refine rl_Vn_setStop ?_
  unfold B_Vn_setStop_0
  refine ⟨a.1, ?_⟩
  rintro _ rfl
  refine ⟨a.1, ?_⟩
  rintro _ rfl
  have hx : FrX th [1158, 1162] [] g (sI (sI g 1158 th p0) 1162 th (-1)) := (FrX.sI (by decide)).tr (FrX.sI (by decide))
  refine hK _ hx ⟨⟨a.x hx, ?_, (hx.2.1 _ (by decide)).trans c, (hx.2.1 _ (by decide)).trans d, e, f⟩, .inl ?_⟩
  · rw [Gi_sI, if_neg (fun z => absurd z.1 (by decide)), Gi_sI, if_pos ⟨rfl, rfl⟩]; rfl
  · rw [Gi_sI, if_pos ⟨rfl, rfl⟩]
def Sp_Vn_setRoad (Γ : GAM) (m : Nat) (p0 p1 v : Int32) (g : GH) (K : GH → Prop) : Prop := ∃ s a b, VnI m g s ∧ p0 = nI a ∧ p1 = nI b ∧ a < 9 ∧ b < 9 ∧ ∀ g', FrX m [1162] [1154] g g' → VnI m g' (u_roa s (fun i => if i = 9 * a + b ∨ i = 9 * b + a then v else s_roa s i)) → K g'
-- the walk of Vn_setRoad
set_option maxRecDepth 100000 in
def B_Vn_setRoad_49 (Γ : GAM) (K : GH → Prop)  (g : GH) : Prop :=
  K g
set_option maxHeartbeats 4000000 in
set_option maxRecDepth 100000 in
theorem S_Vn_setRoad_49 {Γ : GAM} {E : EV} {K : GH → Prop} (hE : GE Γ E cX8_setRoad 4 RX8 none 1 22 (fun r g' => r = none ∧ K g'))  (g : GH) (h : B_Vn_setRoad_49 Γ K  g) : JW Γ E 49 [none, none, none, none] [] g := by
  unfold B_Vn_setRoad_49 at h
  exact j_vret hE (by decide +kernel : decode cX8_setRoad 49 = .ok (.return_, 1)) ⟨rfl, h⟩
set_option maxRecDepth 100000 in
def B_Vn_setRoad_0 (Γ : GAM) (K : GH → Prop) (th : Nat) (p0 : Int32) (p1 : Int32) (p2 : Int32) (g : GH) : Prop :=
  Sp_PV_isWithin Γ p0 (0 : Int32) (8 : Int32) g (fun (x2 : Int32) (g1 : GH) => ((x2 = 0 → B_Vn_setRoad_49 Γ K g1) ∧ (¬ (x2 = 0) → Sp_PV_isWithin Γ p1 (0 : Int32) (8 : Int32) g1 (fun (x4 : Int32) (g3 : GH) => ((x4 = 0 → B_Vn_setRoad_49 Γ K g3) ∧ (¬ (x4 = 0) → Kd g3 th = 10 ∧ ∃ a5 : Nat, Gr g3 1154 th = some a5 ∧ Kd g3 a5 = 20 ∧ inB ((p0 * (9 : Int32)) + p1) (Ln g3 a5) ∧ ∀ g6 : GH, g6 = sA g3 (Co g3 a5) (Ow g3 a5) ((p0 * (9 : Int32)) + p1).toNatClampNeg p2 → Kd g6 th = 10 ∧ ∃ a7 : Nat, Gr g6 1154 th = some a7 ∧ Kd g6 a7 = 20 ∧ inB ((p1 * (9 : Int32)) + p0) (Ln g6 a7) ∧ ∀ g8 : GH, g8 = sA g6 (Co g6 a7) (Ow g6 a7) ((p1 * (9 : Int32)) + p0).toNatClampNeg p2 → Kd g8 th = 10 ∧ ∀ g9 : GH, g9 = sI g8 1162 th (-1 : Int32) → B_Vn_setRoad_49 Γ K g9))))))
set_option maxHeartbeats 4000000 in
set_option maxRecDepth 100000 in
theorem S_Vn_setRoad_0 {Γ : GAM} {E : EV} {K : GH → Prop} (hE : GE Γ E cX8_setRoad 4 RX8 none 1 22 (fun r g' => r = none ∧ K g')) (th : Nat) (p0 : Int32) (p1 : Int32) (p2 : Int32) (g : GH) (h : B_Vn_setRoad_0 Γ K th p0 p1 p2 g) : JW Γ E 0 [some (.ref th), some (.int p0), some (.int p1), some (.int p2)] [] g := by
  unfold B_Vn_setRoad_0 at h
  refine j_iload_n hE (by decide +kernel : decode cX8_setRoad 0 = .ok (.iload_n 1, 1)) rfl rfl ?_
  refine j_iconst hE (by decide +kernel : decode cX8_setRoad 1 = .ok (.iconst 0, 1)) (v := (0 : Int32)) (by decide) ?_
  refine j_bipush hE (by decide +kernel : decode cX8_setRoad 2 = .ok (.bipush 8, 2)) (v := (8 : Int32)) (by decide) ?_
  refine j_callSN hE rfl cl_X8_56 st_X10_isWithin ⟨by omega, by omega⟩ (As := [.int p0, .int (0 : Int32), .int (8 : Int32)]) (rest := []) rfl rfl (Nat.le_of_ble_eq_true rfl) (by decide +kernel : decode cX8_setRoad 4 = .ok (.invokestatic 56, 3)) (mt_PV_isWithin _ _ _ _ _ h) ?_
  rintro _ g1 ⟨x2, rfl, h⟩
  refine j_if_eq hE (by decide +kernel : decode cX8_setRoad 7 = .ok (.ifCond .eq 42, 3)) (tgt := 49) (by decide) (fun q => ?_) (fun q => ?_)
  · replace h := h.1 q
    refine j_weak [none, none, none, none] trivial ?_
    exact S_Vn_setRoad_49 hE _ h
  · replace h := h.2 q
    refine j_iload_n hE (by decide +kernel : decode cX8_setRoad 10 = .ok (.iload_n 2, 1)) rfl rfl ?_
    refine j_iconst hE (by decide +kernel : decode cX8_setRoad 11 = .ok (.iconst 0, 1)) (v := (0 : Int32)) (by decide) ?_
    refine j_bipush hE (by decide +kernel : decode cX8_setRoad 12 = .ok (.bipush 8, 2)) (v := (8 : Int32)) (by decide) ?_
    refine j_callSN hE rfl cl_X8_56 st_X10_isWithin ⟨by omega, by omega⟩ (As := [.int p1, .int (0 : Int32), .int (8 : Int32)]) (rest := []) rfl rfl (Nat.le_of_ble_eq_true rfl) (by decide +kernel : decode cX8_setRoad 14 = .ok (.invokestatic 56, 3)) (mt_PV_isWithin _ _ _ _ _ h) ?_
    rintro _ g3 ⟨x4, rfl, h⟩
    refine j_if_eq hE (by decide +kernel : decode cX8_setRoad 17 = .ok (.ifCond .eq 32, 3)) (tgt := 49) (by decide) (fun q => ?_) (fun q => ?_)
    · replace h := h.1 q
      refine j_weak [none, none, none, none] trivial ?_
      exact S_Vn_setRoad_49 hE _ h
    · replace h := h.2 q
      refine j_aload_n hE (by decide +kernel : decode cX8_setRoad 20 = .ok (.aload_n 0, 1)) rfl rfl ?_
      obtain ⟨hk, h⟩ := h
      obtain ⟨a5, ha, h⟩ := h
      refine j_getRn hE fg_X8_18 hk ha (by decide +kernel : decode cX8_setRoad 21 = .ok (.getfield 18, 3)) ?_
      refine j_iload_n hE (by decide +kernel : decode cX8_setRoad 24 = .ok (.iload_n 1, 1)) rfl rfl ?_
      refine j_bipush hE (by decide +kernel : decode cX8_setRoad 25 = .ok (.bipush 9, 2)) (v := (9 : Int32)) (by decide) ?_
      refine j_imul hE (by decide +kernel : decode cX8_setRoad 27 = .ok (.imul, 1)) ?_
      refine j_iload_n hE (by decide +kernel : decode cX8_setRoad 28 = .ok (.iload_n 2, 1)) rfl rfl ?_
      refine j_iadd hE (by decide +kernel : decode cX8_setRoad 29 = .ok (.iadd, 1)) ?_
      refine j_iload_n hE (by decide +kernel : decode cX8_setRoad 30 = .ok (.iload_n 3, 1)) rfl rfl ?_
      obtain ⟨hk, hb, h⟩ := h
      obtain ⟨g6, hg⟩ : ∃ z, z = sA g3 (Co g3 a5) (Ow g3 a5) ((p0 * (9 : Int32)) + p1).toNatClampNeg p2 := ⟨_, rfl⟩; replace h := h g6 hg
      refine j_iast hE hk hb (by decide +kernel : decode cX8_setRoad 31 = .ok (.iastore, 1)) ?_
      rw [← hg]
      refine j_aload_n hE (by decide +kernel : decode cX8_setRoad 32 = .ok (.aload_n 0, 1)) rfl rfl ?_
      obtain ⟨hk, h⟩ := h
      obtain ⟨a7, ha, h⟩ := h
      refine j_getRn hE fg_X8_18 hk ha (by decide +kernel : decode cX8_setRoad 33 = .ok (.getfield 18, 3)) ?_
      refine j_iload_n hE (by decide +kernel : decode cX8_setRoad 36 = .ok (.iload_n 2, 1)) rfl rfl ?_
      refine j_bipush hE (by decide +kernel : decode cX8_setRoad 37 = .ok (.bipush 9, 2)) (v := (9 : Int32)) (by decide) ?_
      refine j_imul hE (by decide +kernel : decode cX8_setRoad 39 = .ok (.imul, 1)) ?_
      refine j_iload_n hE (by decide +kernel : decode cX8_setRoad 40 = .ok (.iload_n 1, 1)) rfl rfl ?_
      refine j_iadd hE (by decide +kernel : decode cX8_setRoad 41 = .ok (.iadd, 1)) ?_
      refine j_iload_n hE (by decide +kernel : decode cX8_setRoad 42 = .ok (.iload_n 3, 1)) rfl rfl ?_
      obtain ⟨hk, hb, h⟩ := h
      obtain ⟨g8, hg⟩ : ∃ z, z = sA g6 (Co g6 a7) (Ow g6 a7) ((p1 * (9 : Int32)) + p0).toNatClampNeg p2 := ⟨_, rfl⟩; replace h := h g8 hg
      refine j_iast hE hk hb (by decide +kernel : decode cX8_setRoad 43 = .ok (.iastore, 1)) ?_
      rw [← hg]
      refine j_aload_n hE (by decide +kernel : decode cX8_setRoad 44 = .ok (.aload_n 0, 1)) rfl rfl ?_
      refine j_iconst hE (by decide +kernel : decode cX8_setRoad 45 = .ok (.iconst (-1), 1)) (v := (-1 : Int32)) (by decide) ?_
      obtain ⟨hk, h⟩ := h
      obtain ⟨g9, hg⟩ : ∃ z, z = sI g8 1162 th (-1 : Int32) := ⟨_, rfl⟩; replace h := h g9 hg
      refine j_putI hE fa_X8_37 hk (fun q => by cases q) (by decide +kernel : decode cX8_setRoad 46 = .ok (.putfield 37, 3)) ?_
      rw [← hg]
      refine j_weak [none, none, none, none] trivial ?_
      exact S_Vn_setRoad_49 hE _ h
set_option maxHeartbeats 4000000 in
set_option maxRecDepth 100000 in
theorem rl_Vn_setRoad {Γ : GAM} {l : Launch} {th : Nat} {p0 : Int32} {p1 : Int32} {p2 : Int32} {g : GH} {K : GH → Prop} (h0 : B_Vn_setRoad_0 Γ K th p0 p1 p2 g) : MetA Γ l yX8_setRoad cX8_setRoad 4 none 1 22 [.ref th, .int p0, .int p1, .int p2] g (fun r g' => r = none ∧ K g') := by
  refine MetA.introL (Lx := [some (.ref th), some (.int p0), some (.int p1), some (.int p2)]) (by decide) (Nat.le_of_ble_eq_true rfl) rfl rfl ?_
  intro E hEl hE hnm
  exact S_Vn_setRoad_0 hE th p0 p1 p2 g h0
theorem mt_Vn_setRoad {Γ : GAM} {l : Launch} (th : Nat) (p0 : Int32) (p1 : Int32) (p2 : Int32) (g : GH) (K : GH → Prop) (h : Sp_Vn_setRoad Γ th p0 p1 p2 g K) : MetA Γ l yX8_setRoad cX8_setRoad 4 none 1 22 [.ref th, .int p0, .int p1, .int p2] g (fun r g' => r = none ∧ K g') := by
  obtain ⟨s, x, y, ⟨⟨a, b, c, d, e, f⟩, hC⟩, rfl, rfl, hx9, hy9, hK⟩ := h
  obtain ⟨hkd, a1, a2, a3, a4, a5, a6, _, _, ⟨d1, d2, d3, d4, d5⟩, _⟩ := id a
  refine rl_Vn_setRoad ?_
  unfold B_Vn_setRoad_0 B_Vn_setRoad_49 Sp_PV_isWithin
  have hin : ∀ x, x < 9 → (0 : Int32) ≤ nI x ∧ nI x ≤ (8 : Int32) := fun x hx => ⟨nj_nneg (by omega), (nj_le (b := 8) (by omega) (by omega)).mpr (by omega)⟩
  rw [if_pos (hin x hx9)]
  refine ⟨fun u => absurd u (by decide), fun _ => ?_⟩
  show ((if (0 : Int32) ≤ nI y ∧ nI y ≤ (8 : Int32) then (1 : Int32) else 0) = 0 → _) ∧ (¬ ((if (0 : Int32) ≤ nI y ∧ nI y ≤ (8 : Int32) then (1 : Int32) else 0) = 0) → _)
  have e9 : ∀ x y, nI x * 9 + nI y = nI (9 * x + y) := fun x y => by
    rw [show (9 : Int32) = nI 9 from rfl, nj_mul, nI_add9, Nat.mul_comm]
  refine ⟨fun u => by rw [if_pos (hin y hy9)] at u; exact absurd u (by decide), fun _ => ?_⟩
  rw [e9, e9]
  refine ⟨hkd, a3, d1, d2, by rw [d5]; exact inB_nI (by omega) (by omega), ?_⟩
  rw [d3, d4, nj_cl (by omega)]
  rintro _ rfl
  refine ⟨hkd, a3, d1, d2, by show inB _ (Ln g a3); rw [d5]; exact inB_nI (by omega) (by omega), ?_⟩
  rw [Co_sA, Ow_sA, d3, d4, nj_cl (by omega)]
  rintro _ rfl
  refine ⟨hkd, ?_⟩
  rintro _ rfl
  have hx : FrX th [1162] [1154] g (sI (sA (sA g 1154 th (9 * x + y) p2) 1154 th (9 * y + x) p2) 1162 th (-1)) := (FrX.sA (by decide)).tr ((FrX.sA (by decide)).tr (FrX.sI (by decide)))
  refine hK _ hx ⟨⟨a.x hx, (hx.2.1 _ (by decide)).trans b, (hx.2.1 _ (by decide)).trans c, (hx.2.1 _ (by decide)).trans d, fun k z hk hz => ?_, fun i j hi hj hij => ?_⟩, .inl ?_⟩
  · rw [hx.2.2 _ (by decide), hx.2.2 _ (by decide)]; exact e k z hk hz
  · rw [Ia_sI, Ia_sA, Ia_sA]
    show _ = if 9 * i + j = 9 * x + y ∨ 9 * i + j = 9 * y + x then p2 else s_roa s (9 * i + j)
    simp only [true_and]
    by_cases z1 : 9 * i + j = 9 * y + x
    · rw [if_pos z1, if_pos (.inr z1)]
    · rw [if_neg z1]
      by_cases z2 : 9 * i + j = 9 * x + y
      · rw [if_pos z2, if_pos (.inl z2)]
      · rw [if_neg z2, if_neg (by rintro (z | z); exact z2 z; exact z1 z)]
        exact f i j hi hj hij
  · rw [Gi_sI, if_pos ⟨rfl, rfl⟩]
theorem shr_bit : ∀ m, m < 256 → ∀ b, b < 8 → (((nI m >>> (nI b &&& 31)) &&& 1) = 0 ↔ m.testBit b = false) := by decide +kernel
def Sp_Vn_setBox (Γ : GAM) (m : Nat) (p0 v w : Int32) (g : GH) (K : GH → Prop) : Prop := ∃ s b, VnI m g s ∧ p0 = nI b ∧ b < 8 ∧ ∀ g', FrX m [1160, 1159, 1162] [1152, 1153] g g' → VnI m g' (u_box s (fun i => if i = b then some (v, w) else s_box s i)) → K g'
-- the walk of Vn_setBox
set_option maxRecDepth 100000 in
def B_Vn_setBox_63 (Γ : GAM) (K : GH → Prop)  (g : GH) : Prop :=
  K g
set_option maxHeartbeats 4000000 in
set_option maxRecDepth 100000 in
theorem S_Vn_setBox_63 {Γ : GAM} {E : EV} {K : GH → Prop} (hE : GE Γ E cX8_setBox 4 RX8 none 2 42 (fun r g' => r = none ∧ K g'))  (g : GH) (h : B_Vn_setBox_63 Γ K  g) : JW Γ E 63 [none, none, none, none] [] g := by
  unfold B_Vn_setBox_63 at h
  exact j_vret hE (by decide +kernel : decode cX8_setBox 63 = .ok (.return_, 1)) ⟨rfl, h⟩
set_option maxRecDepth 100000 in
def B_Vn_setBox_28 (Γ : GAM) (K : GH → Prop) (l0 : Nat) (l1 : Int32) (l2 : Int32) (l3 : Int32) (s0 : Int32) (s1 : Int32) (s2 : Nat) (g : GH) : Prop :=
  Kd g s2 = 10 ∧ ∀ g1 : GH, g1 = sI g 1160 s2 (s1 + s0) → Kd g1 l0 = 10 ∧ Kd g1 l0 = 10 ∧ ∀ g2 : GH, g2 = sI g1 1159 l0 ((Gi g1 1159 l0) ||| ((1 : Int32) <<< (l1 &&& 31))) → Kd g2 l0 = 10 ∧ ∃ a3 : Nat, Gr g2 1152 l0 = some a3 ∧ Kd g2 a3 = 20 ∧ inB l1 (Ln g2 a3) ∧ ∀ g4 : GH, g4 = sA g2 (Co g2 a3) (Ow g2 a3) l1.toNatClampNeg l2 → Kd g4 l0 = 10 ∧ ∃ a5 : Nat, Gr g4 1153 l0 = some a5 ∧ Kd g4 a5 = 20 ∧ inB l1 (Ln g4 a5) ∧ ∀ g6 : GH, g6 = sA g4 (Co g4 a5) (Ow g4 a5) l1.toNatClampNeg l3 → Kd g6 l0 = 10 ∧ ∀ g7 : GH, g7 = sI g6 1162 l0 (-1 : Int32) → B_Vn_setBox_63 Γ K g7
set_option maxHeartbeats 4000000 in
set_option maxRecDepth 100000 in
theorem S_Vn_setBox_28 {Γ : GAM} {E : EV} {K : GH → Prop} (hE : GE Γ E cX8_setBox 4 RX8 none 2 42 (fun r g' => r = none ∧ K g')) (l0 : Nat) (l1 : Int32) (l2 : Int32) (l3 : Int32) (s0 : Int32) (s1 : Int32) (s2 : Nat) (g : GH) (h : B_Vn_setBox_28 Γ K l0 l1 l2 l3 s0 s1 s2 g) : JW Γ E 28 [some (.ref l0), some (.int l1), some (.int l2), some (.int l3)] [.int s0, .int s1, .ref s2] g := by
  unfold B_Vn_setBox_28 at h
  refine j_iadd hE (by decide +kernel : decode cX8_setBox 28 = .ok (.iadd, 1)) ?_
  obtain ⟨hk, h⟩ := h
  obtain ⟨g1, hg⟩ : ∃ z, z = sI g 1160 s2 (s1 + s0) := ⟨_, rfl⟩; replace h := h g1 hg
  refine j_putI hE fa_X8_50 hk (fun q => by cases q) (by decide +kernel : decode cX8_setBox 29 = .ok (.putfield 50, 3)) ?_
  rw [← hg]
  refine j_aload_n hE (by decide +kernel : decode cX8_setBox 32 = .ok (.aload_n 0, 1)) rfl rfl ?_
  refine j_dup hE (by decide +kernel : decode cX8_setBox 33 = .ok (.dup, 1)) rfl ?_
  obtain ⟨hk, h⟩ := h
  refine j_getI hE fg_X8_53 hk (by decide +kernel : decode cX8_setBox 34 = .ok (.getfield 53, 3)) ?_
  refine j_iconst hE (by decide +kernel : decode cX8_setBox 37 = .ok (.iconst 1, 1)) (v := (1 : Int32)) (by decide) ?_
  refine j_iload_n hE (by decide +kernel : decode cX8_setBox 38 = .ok (.iload_n 1, 1)) rfl rfl ?_
  refine j_ishl hE (by decide +kernel : decode cX8_setBox 39 = .ok (.ishl, 1)) ?_
  refine j_ior hE (by decide +kernel : decode cX8_setBox 40 = .ok (.ior, 1)) ?_
  obtain ⟨hk, h⟩ := h
  obtain ⟨g2, hg⟩ : ∃ z, z = sI g1 1159 l0 ((Gi g1 1159 l0) ||| ((1 : Int32) <<< (l1 &&& 31))) := ⟨_, rfl⟩; replace h := h g2 hg
  refine j_putI hE fa_X8_53 hk (fun q => by cases q) (by decide +kernel : decode cX8_setBox 41 = .ok (.putfield 53, 3)) ?_
  rw [← hg]
  refine j_aload_n hE (by decide +kernel : decode cX8_setBox 44 = .ok (.aload_n 0, 1)) rfl rfl ?_
  obtain ⟨hk, h⟩ := h
  obtain ⟨a3, ha, h⟩ := h
  refine j_getRn hE fg_X8_9 hk ha (by decide +kernel : decode cX8_setBox 45 = .ok (.getfield 9, 3)) ?_
  refine j_iload_n hE (by decide +kernel : decode cX8_setBox 48 = .ok (.iload_n 1, 1)) rfl rfl ?_
  refine j_iload_n hE (by decide +kernel : decode cX8_setBox 49 = .ok (.iload_n 2, 1)) rfl rfl ?_
  obtain ⟨hk, hb, h⟩ := h
  obtain ⟨g4, hg⟩ : ∃ z, z = sA g2 (Co g2 a3) (Ow g2 a3) l1.toNatClampNeg l2 := ⟨_, rfl⟩; replace h := h g4 hg
  refine j_iast hE hk hb (by decide +kernel : decode cX8_setBox 50 = .ok (.iastore, 1)) ?_
  rw [← hg]
  refine j_aload_n hE (by decide +kernel : decode cX8_setBox 51 = .ok (.aload_n 0, 1)) rfl rfl ?_
  obtain ⟨hk, h⟩ := h
  obtain ⟨a5, ha, h⟩ := h
  refine j_getRn hE fg_X8_15 hk ha (by decide +kernel : decode cX8_setBox 52 = .ok (.getfield 15, 3)) ?_
  refine j_iload_n hE (by decide +kernel : decode cX8_setBox 55 = .ok (.iload_n 1, 1)) rfl rfl ?_
  refine j_iload_n hE (by decide +kernel : decode cX8_setBox 56 = .ok (.iload_n 3, 1)) rfl rfl ?_
  obtain ⟨hk, hb, h⟩ := h
  obtain ⟨g6, hg⟩ : ∃ z, z = sA g4 (Co g4 a5) (Ow g4 a5) l1.toNatClampNeg l3 := ⟨_, rfl⟩; replace h := h g6 hg
  refine j_iast hE hk hb (by decide +kernel : decode cX8_setBox 57 = .ok (.iastore, 1)) ?_
  rw [← hg]
  refine j_aload_n hE (by decide +kernel : decode cX8_setBox 58 = .ok (.aload_n 0, 1)) rfl rfl ?_
  refine j_iconst hE (by decide +kernel : decode cX8_setBox 59 = .ok (.iconst (-1), 1)) (v := (-1 : Int32)) (by decide) ?_
  obtain ⟨hk, h⟩ := h
  obtain ⟨g7, hg⟩ : ∃ z, z = sI g6 1162 l0 (-1 : Int32) := ⟨_, rfl⟩; replace h := h g7 hg
  refine j_putI hE fa_X8_37 hk (fun q => by cases q) (by decide +kernel : decode cX8_setBox 60 = .ok (.putfield 37, 3)) ?_
  rw [← hg]
  refine j_weak [none, none, none, none] trivial ?_
  exact S_Vn_setBox_63 hE _ h
set_option maxRecDepth 100000 in
def B_Vn_setBox_0 (Γ : GAM) (K : GH → Prop) (th : Nat) (p0 : Int32) (p1 : Int32) (p2 : Int32) (g : GH) : Prop :=
  Sp_PV_isBox Γ p0 g (fun (x2 : Int32) (g1 : GH) => ((x2 = 0 → B_Vn_setBox_63 Γ K g1) ∧ (¬ (x2 = 0) → Kd g1 th = 10 ∧ Kd g1 th = 10 ∧ ((¬ ((((Gi g1 1159 th) >>> (p0 &&& 31)) &&& (1 : Int32)) = 0) → B_Vn_setBox_28 Γ K th p0 p1 p2 (0 : Int32) (Gi g1 1160 th) th g1) ∧ ((((Gi g1 1159 th) >>> (p0 &&& 31)) &&& (1 : Int32)) = 0 → B_Vn_setBox_28 Γ K th p0 p1 p2 (1 : Int32) (Gi g1 1160 th) th g1)))))
set_option maxHeartbeats 4000000 in
set_option maxRecDepth 100000 in
theorem S_Vn_setBox_0 {Γ : GAM} {E : EV} {K : GH → Prop} (hE : GE Γ E cX8_setBox 4 RX8 none 2 42 (fun r g' => r = none ∧ K g')) (th : Nat) (p0 : Int32) (p1 : Int32) (p2 : Int32) (g : GH) (h : B_Vn_setBox_0 Γ K th p0 p1 p2 g) : JW Γ E 0 [some (.ref th), some (.int p0), some (.int p1), some (.int p2)] [] g := by
  unfold B_Vn_setBox_0 at h
  refine j_iload_n hE (by decide +kernel : decode cX8_setBox 0 = .ok (.iload_n 1, 1)) rfl rfl ?_
  refine j_callSN hE rfl cl_X8_46 st_X10_isBox ⟨by omega, by omega⟩ (As := [.int p0]) (rest := []) rfl rfl (Nat.le_of_ble_eq_true rfl) (by decide +kernel : decode cX8_setBox 1 = .ok (.invokestatic 46, 3)) (mt_PV_isBox _ _ _ h) ?_
  rintro _ g1 ⟨x2, rfl, h⟩
  refine j_if_eq hE (by decide +kernel : decode cX8_setBox 4 = .ok (.ifCond .eq 59, 3)) (tgt := 63) (by decide) (fun q => ?_) (fun q => ?_)
  · replace h := h.1 q
    refine j_weak [none, none, none, none] trivial ?_
    exact S_Vn_setBox_63 hE _ h
  · replace h := h.2 q
    refine j_aload_n hE (by decide +kernel : decode cX8_setBox 7 = .ok (.aload_n 0, 1)) rfl rfl ?_
    refine j_dup hE (by decide +kernel : decode cX8_setBox 8 = .ok (.dup, 1)) rfl ?_
    obtain ⟨hk, h⟩ := h
    refine j_getI hE fg_X8_50 hk (by decide +kernel : decode cX8_setBox 9 = .ok (.getfield 50, 3)) ?_
    refine j_aload_n hE (by decide +kernel : decode cX8_setBox 12 = .ok (.aload_n 0, 1)) rfl rfl ?_
    obtain ⟨hk, h⟩ := h
    refine j_getI hE fg_X8_53 hk (by decide +kernel : decode cX8_setBox 13 = .ok (.getfield 53, 3)) ?_
    refine j_iload_n hE (by decide +kernel : decode cX8_setBox 16 = .ok (.iload_n 1, 1)) rfl rfl ?_
    refine j_ishr hE (by decide +kernel : decode cX8_setBox 17 = .ok (.ishr, 1)) ?_
    refine j_iconst hE (by decide +kernel : decode cX8_setBox 18 = .ok (.iconst 1, 1)) (v := (1 : Int32)) (by decide) ?_
    refine j_iand hE (by decide +kernel : decode cX8_setBox 19 = .ok (.iand, 1)) ?_
    refine j_if_ne hE (by decide +kernel : decode cX8_setBox 20 = .ok (.ifCond .ne 7, 3)) (tgt := 27) (by decide) (fun q => ?_) (fun q => ?_)
    · replace h := h.1 q
      refine j_iconst hE (by decide +kernel : decode cX8_setBox 27 = .ok (.iconst 0, 1)) (v := (0 : Int32)) (by decide) ?_
      exact S_Vn_setBox_28 hE _ _ _ _ _ _ _ _ h
    · replace h := h.2 q
      refine j_iconst hE (by decide +kernel : decode cX8_setBox 23 = .ok (.iconst 1, 1)) (v := (1 : Int32)) (by decide) ?_
      refine j_goto hE (by decide +kernel : decode cX8_setBox 24 = .ok (.goto 4, 3)) (tgt := 28) (by decide) ?_
      exact S_Vn_setBox_28 hE _ _ _ _ _ _ _ _ h
set_option maxHeartbeats 4000000 in
set_option maxRecDepth 100000 in
theorem rl_Vn_setBox {Γ : GAM} {l : Launch} {th : Nat} {p0 : Int32} {p1 : Int32} {p2 : Int32} {g : GH} {K : GH → Prop} (h0 : B_Vn_setBox_0 Γ K th p0 p1 p2 g) : MetA Γ l yX8_setBox cX8_setBox 4 none 2 42 [.ref th, .int p0, .int p1, .int p2] g (fun r g' => r = none ∧ K g') := by
  refine MetA.introL (Lx := [some (.ref th), some (.int p0), some (.int p1), some (.int p2)]) (by decide) (Nat.le_of_ble_eq_true rfl) rfl rfl ?_
  intro E hEl hE hnm
  exact S_Vn_setBox_0 hE th p0 p1 p2 g h0
theorem vA_box {s : ST} {b : Nat} {x : Int32 × Int32} (hb : b < 8) : (∀ c, c ∈ vA (u_box s (fun i => if i = b then some x else s_box s i)) ↔ c ∈ b :: vA s) := fun c => by
  rw [vA_mem, List.mem_cons, vA_mem]
  show c < 8 ∧ (if c = b then some x else s_box s c).isSome = true ↔ _
  by_cases e : c = b
  · rw [if_pos e]; subst e; simp [hb]
  · rw [if_neg e]; unfold vSt; simp [e]
theorem vA_mN {s : ST} {b : Nat} {x : Int32 × Int32} (hb : b < 8) : mN (vA (u_box s (fun i => if i = b then some x else s_box s i))) = mN (vA s) ||| 2 ^ b := by
  rw [← mN_app]
  apply Nat.eq_of_testBit_eq
  intro i
  rw [mN_bit, mN_bit]
  refine decide_eq_decide.mpr ((vA_box hb i).trans ?_)
  simp [or_comm]
theorem vA_vN {s : ST} {b : Nat} {x : Int32 × Int32} (hb : b < 8) : vN (u_box s (fun i => if i = b then some x else s_box s i)) = vN s + (if b ∈ vA s then 0 else 1) := by
  have hn := vA_nd s
  have hn2 := vA_nd (u_box s (fun i => if i = b then some x else s_box s i))
  have h := fun c => vA_box (s := s) (x := x) hb c
  show (vA (u_box s (fun i => if i = b then some x else s_box s i))).length = (vA s).length + _
  split
  · rename_i hm
    have h' : ∀ c, c ∈ vA (u_box s (fun i => if i = b then some x else s_box s i)) ↔ c ∈ vA s := fun c => (h c).trans ⟨fun z => by
      rcases List.mem_cons.mp z with e | z
      · rw [e]; exact hm
      · exact z, fun z => List.mem_cons_of_mem _ z⟩
    exact Nat.le_antisymm (nd_len hn2 (fun c hc => (h' c).mp hc)) (nd_len hn (fun c hc => (h' c).mpr hc))
  · rename_i hm
    have := Nat.le_antisymm (nd_len hn2 (fun c hc => (h c).mp hc)) (nd_len (List.nodup_cons.mpr ⟨hm, hn⟩) (fun c hc => (h c).mpr hc))
    rw [this, List.length_cons]
theorem mt_Vn_setBox {Γ : GAM} {l : Launch} (th : Nat) (p0 : Int32) (p1 : Int32) (p2 : Int32) (g : GH) (K : GH → Prop) (h : Sp_Vn_setBox Γ th p0 p1 p2 g K) : MetA Γ l yX8_setBox cX8_setBox 4 none 2 42 [.ref th, .int p0, .int p1, .int p2] g (fun r g' => r = none ∧ K g') := by
  obtain ⟨s, x, ⟨⟨a, b, c, d, e, f⟩, hC⟩, rfl, hx8, hK⟩ := h
  obtain ⟨hkd, a1, a2, a3, a4, a5, a6, ⟨b1, b2, b3, b4, b5⟩, ⟨c1, c2, c3, c4, c5⟩, _⟩ := id a
  have hA : mN (vA s) < 256 := mN_lt (fun x hx => (vA_mem.mp hx).1)
  refine rl_Vn_setBox ?_
  unfold B_Vn_setBox_0 B_Vn_setBox_63 Sp_PV_isBox
  rw [if_pos ⟨nj_nneg (by omega), (nj_le (b := 7) (by omega) (by omega)).mpr (by omega)⟩]
  have h28 : ∀ k : Nat, k = (if x ∈ vA s then 0 else 1) → B_Vn_setBox_28 Γ K th (nI x) p1 p2 (nI k) (Gi g 1160 th) th g := fun k hk => by
    unfold B_Vn_setBox_28 B_Vn_setBox_63
    refine ⟨hkd, ?_⟩
    rintro _ rfl
    refine ⟨hkd, hkd, ?_⟩
    rintro _ rfl
    refine ⟨hkd, a1, b1, b2, by show inB _ (Ln g a1); rw [b5]; exact inB_nI hx8 (by omega), ?_⟩
    rw [Co_sI, Co_sI, Ow_sI, Ow_sI, b3, b4, nj_cl (by omega), Gi_sI, if_neg (fun z => absurd z.1 (by decide)), c, sh_bit _ hx8, or_bit _ hA _ hx8, d, nI_add9]
    rintro _ rfl
    refine ⟨hkd, a2, c1, c2, by show inB _ (Ln g a2); rw [c5]; exact inB_nI hx8 (by omega), ?_⟩
    rw [Co_sA, Co_sI, Co_sI, Ow_sA, Ow_sI, Ow_sI, c3, c4]
    rintro _ rfl
    refine ⟨hkd, ?_⟩
    rintro _ rfl
    have hx : FrX th [1160, 1159, 1162] [1152, 1153] g (sI (sA (sA (sI (sI g 1160 th (nI (vN s + k))) 1159 th (nI (mN (vA s) ||| 2 ^ x))) 1152 th x p1) 1153 th x p2) 1162 th (-1)) := (FrX.sI (by decide)).tr ((FrX.sI (by decide)).tr ((FrX.sA (by decide)).tr ((FrX.sA (by decide)).tr (FrX.sI (by decide)))))
    refine hK _ hx ⟨⟨a.x hx, (hx.2.1 _ (by decide)).trans b, ?_, ?_, fun k z hk hz => ?_, fun i j hi hj hij => ?_⟩, .inl ?_⟩
    · rw [vA_mN hx8, Gi_sI, if_neg (fun z => absurd z.1 (by decide)), Gi_sA, Gi_sA, Gi_sI, if_pos ⟨rfl, rfl⟩]
    · rw [vA_vN hx8, ← hk, Gi_sI, if_neg (fun z => absurd z.1 (by decide)), Gi_sA, Gi_sA, Gi_sI, if_neg (fun z => absurd z.1 (by decide)), Gi_sI, if_pos ⟨rfl, rfl⟩]
    · have hz' : (if k = x then some (p1, p2) else s_box s k) = some z := hz
      simp only [Ia_sI, Ia_sA, true_and, show (1152 : Nat) ≠ 1153 by decide, show (1153 : Nat) ≠ 1152 by decide, false_and, if_false]
      split at hz'
      · rename_i e1
        cases hz'
        rw [if_pos e1, if_pos e1]
        exact ⟨rfl, rfl⟩
      · rename_i e1
        rw [if_neg e1, if_neg e1]
        exact e k z hk hz'
    · rw [hx.2.2 _ (by decide)]; exact f i j hi hj hij
    · rw [Gi_sI, if_pos ⟨rfl, rfl⟩]
  refine ⟨fun u => absurd u (by decide), fun _ => ⟨hkd, hkd, ?_⟩⟩
  rw [c, shr_bit _ hA _ hx8, mN_bit]
  refine ⟨fun u => ?_, fun u => ?_⟩
  · have hm : x ∈ vA s := Classical.byContradiction (fun z => u (decide_eq_false z))
    exact h28 0 (by rw [if_pos hm])
  · have hm : x ∉ vA s := of_decide_eq_false u
    exact h28 1 (by rw [if_neg hm])
theorem StK.setAf {Γ : GAM} {kd0 : Nat} {fl : List (Nat × Nat × Nat)} {th : Nat} {g0 g : GH} {n c : Nat} {v : Nat → Int32} {V : Nat → Int32} {W : Nat → Nat → Int32} (h : StK Γ kd0 fl th g0 n V W g) : StK Γ kd0 fl th g0 n V (fun c' => if c' = c then v else W c') (sAf g c th v) := by
  obtain ⟨⟨c1, c2, c3, c4, c5, c6, c7⟩, e1, h1, h2, h3, h4, h10, h5, h6, h7, h8⟩ := h
  refine ⟨⟨c1, c2, fun c' o ho => ⟨?_, (c3 c' o ho).2⟩, c4, c5, c6, c7⟩, e1, h1, h2, h3, h4, h10, h5, h6, fun i x hi hx => ?_, h8⟩
  · rw [Ia_sAf, if_neg (fun q => ho q.2), (c3 c' o ho).1]
  · obtain ⟨z1, z2, z3, z4, z5, z6⟩ := h7 i x hi hx
    refine ⟨z1, z2, z3, z4, z5, ?_⟩
    rw [Ia_sAf, z6]; simp
def flVn : List (Nat × Nat × Nat) := [(1152, 20, 8), (1153, 20, 8), (1154, 20, 81), (1155, 20, 2048), (1156, 20, 8), (1157, 20, 8)]
def Sp_Vn_init (Γ : GAM) (th : Nat) (g : GH) (K : GH → Prop) : Prop := NEW Γ 10 flVn th g ∧ ∀ g', MADE flVn th g g' → (∀ s, (∀ b, s_box s b = none) → (∀ i, s_roa s i = 30) → s_stp s = 5 → VnI th g' s) → K g'
-- the walk of Vn_init
set_option maxRecDepth 100000 in
def B_Vn_init_0 (Γ : GAM) (K : GH → Prop) (th : Nat) (g : GH) : Prop :=
  th < Hn g ∧ free g 1152 th ∧ Hn g + 1 ≤ gB Γ + NCC ∧ Hu g + 8 ≤ NSS ∧ ∀ (a1 : Nat) (g2 : GH), a1 = Hn g → g2 = nA g 20 1152 th (8) → Kd g2 th = 10 ∧ ∀ g3 : GH, g3 = sR g2 1152 th (some a1) → th < Hn g3 ∧ free g3 1153 th ∧ Hn g3 + 1 ≤ gB Γ + NCC ∧ Hu g3 + 8 ≤ NSS ∧ ∀ (a4 : Nat) (g5 : GH), a4 = Hn g3 → g5 = nA g3 20 1153 th (8) → Kd g5 th = 10 ∧ ∀ g6 : GH, g6 = sR g5 1153 th (some a4) → th < Hn g6 ∧ free g6 1154 th ∧ Hn g6 + 1 ≤ gB Γ + NCC ∧ Hu g6 + 81 ≤ NSS ∧ ∀ (a7 : Nat) (g8 : GH), a7 = Hn g6 → g8 = nA g6 20 1154 th (81) → Kd g8 th = 10 ∧ ∀ g9 : GH, g9 = sR g8 1154 th (some a7) → th < Hn g9 ∧ free g9 1155 th ∧ Hn g9 + 1 ≤ gB Γ + NCC ∧ Hu g9 + 2048 ≤ NSS ∧ ∀ (a10 : Nat) (g11 : GH), a10 = Hn g9 → g11 = nA g9 20 1155 th (2048) → Kd g11 th = 10 ∧ ∀ g12 : GH, g12 = sR g11 1155 th (some a10) → th < Hn g12 ∧ free g12 1156 th ∧ Hn g12 + 1 ≤ gB Γ + NCC ∧ Hu g12 + 8 ≤ NSS ∧ ∀ (a13 : Nat) (g14 : GH), a13 = Hn g12 → g14 = nA g12 20 1156 th (8) → Kd g14 th = 10 ∧ ∀ g15 : GH, g15 = sR g14 1156 th (some a13) → th < Hn g15 ∧ free g15 1157 th ∧ Hn g15 + 1 ≤ gB Γ + NCC ∧ Hu g15 + 8 ≤ NSS ∧ ∀ (a16 : Nat) (g17 : GH), a16 = Hn g15 → g17 = nA g15 20 1157 th (8) → Kd g17 th = 10 ∧ ∀ g18 : GH, g18 = sR g17 1157 th (some a16) → Kd g18 th = 10 ∧ ∀ g19 : GH, g19 = sI g18 1158 th (5 : Int32) → Kd g19 th = 10 ∧ ∀ g20 : GH, g20 = sI g19 1161 th (-1 : Int32) → Kd g20 th = 10 ∧ ∀ g21 : GH, g21 = sI g20 1162 th (-1 : Int32) → Kd g21 th = 10 ∧ ∃ a22 : Nat, Gr g21 1154 th = some a22 ∧ Sp_Arrays_fill Γ a22 (30 : Int32) g21 (fun (g23 : GH) => K g23)
set_option maxHeartbeats 4000000 in
set_option maxRecDepth 100000 in
theorem S_Vn_init_0 {Γ : GAM} {E : EV} {K : GH → Prop} (hE : GE Γ E cX8_init 1 RX8 none 1 23 (fun r g' => r = none ∧ K g')) (hnm : E.2.2.2.2.2.2.2.2.1.name = "<init>") (th : Nat) (g : GH) (h : B_Vn_init_0 Γ K th g) : JW Γ E 0 [some (.ref th)] [] g := by
  unfold B_Vn_init_0 at h
  refine j_aload_n hE (by decide +kernel : decode cX8_init 0 = .ok (.aload_n 0, 1)) rfl rfl ?_
  refine j_objInit hE rfl ol_X8 oi_in oi_code (Nat.le_of_ble_eq_true rfl) (by omega) (by omega) (by decide +kernel : decode cX8_init 1 = .ok (.invokespecial 3, 3)) ?_
  refine j_aload_n hE (by decide +kernel : decode cX8_init 4 = .ok (.aload_n 0, 1)) rfl rfl ?_
  refine j_bipush hE (by decide +kernel : decode cX8_init 5 = .ok (.bipush 8, 2)) (v := (8 : Int32)) (by decide) ?_
  obtain ⟨ho1, hf1, hn1, hn2, h⟩ := h
  obtain ⟨a1, ha⟩ : ∃ z, z = Hn g := ⟨_, rfl⟩; obtain ⟨g2, hg⟩ : ∃ z, z = nA g 20 1152 th (8) := ⟨_, rfl⟩; replace h := h a1 g2 ha hg
  refine j_newarray (k := 20) (co := 1152) (ow := th) (n := (8)) (atype := .int) hE ac_int (Or.inl ⟨rfl, rfl⟩) (by decide) (by decide) (by decide) ho1 hf1 (by decide +kernel : decode cX8_init 7 = .ok (.newarray .int, 2)) hn1 hn2 ?_
  rw [← hg, ← ha]
  obtain ⟨hk, h⟩ := h
  obtain ⟨g3, hg⟩ : ∃ z, z = sR g2 1152 th (some a1) := ⟨_, rfl⟩; replace h := h g3 hg
  refine j_putR (v := (some a1)) hE fa_X8_9 hk (fun _ => hnm) (by decide +kernel : decode cX8_init 9 = .ok (.putfield 9, 3)) ?_
  rw [← hg]
  refine j_aload_n hE (by decide +kernel : decode cX8_init 12 = .ok (.aload_n 0, 1)) rfl rfl ?_
  refine j_bipush hE (by decide +kernel : decode cX8_init 13 = .ok (.bipush 8, 2)) (v := (8 : Int32)) (by decide) ?_
  obtain ⟨ho1, hf1, hn1, hn2, h⟩ := h
  obtain ⟨a4, ha⟩ : ∃ z, z = Hn g3 := ⟨_, rfl⟩; obtain ⟨g5, hg⟩ : ∃ z, z = nA g3 20 1153 th (8) := ⟨_, rfl⟩; replace h := h a4 g5 ha hg
  refine j_newarray (k := 20) (co := 1153) (ow := th) (n := (8)) (atype := .int) hE ac_int (Or.inl ⟨rfl, rfl⟩) (by decide) (by decide) (by decide) ho1 hf1 (by decide +kernel : decode cX8_init 15 = .ok (.newarray .int, 2)) hn1 hn2 ?_
  rw [← hg, ← ha]
  obtain ⟨hk, h⟩ := h
  obtain ⟨g6, hg⟩ : ∃ z, z = sR g5 1153 th (some a4) := ⟨_, rfl⟩; replace h := h g6 hg
  refine j_putR (v := (some a4)) hE fa_X8_15 hk (fun _ => hnm) (by decide +kernel : decode cX8_init 17 = .ok (.putfield 15, 3)) ?_
  rw [← hg]
  refine j_aload_n hE (by decide +kernel : decode cX8_init 20 = .ok (.aload_n 0, 1)) rfl rfl ?_
  refine j_bipush hE (by decide +kernel : decode cX8_init 21 = .ok (.bipush 81, 2)) (v := (81 : Int32)) (by decide) ?_
  obtain ⟨ho1, hf1, hn1, hn2, h⟩ := h
  obtain ⟨a7, ha⟩ : ∃ z, z = Hn g6 := ⟨_, rfl⟩; obtain ⟨g8, hg⟩ : ∃ z, z = nA g6 20 1154 th (81) := ⟨_, rfl⟩; replace h := h a7 g8 ha hg
  refine j_newarray (k := 20) (co := 1154) (ow := th) (n := (81)) (atype := .int) hE ac_int (Or.inl ⟨rfl, rfl⟩) (by decide) (by decide) (by decide) ho1 hf1 (by decide +kernel : decode cX8_init 23 = .ok (.newarray .int, 2)) hn1 hn2 ?_
  rw [← hg, ← ha]
  obtain ⟨hk, h⟩ := h
  obtain ⟨g9, hg⟩ : ∃ z, z = sR g8 1154 th (some a7) := ⟨_, rfl⟩; replace h := h g9 hg
  refine j_putR (v := (some a7)) hE fa_X8_18 hk (fun _ => hnm) (by decide +kernel : decode cX8_init 25 = .ok (.putfield 18, 3)) ?_
  rw [← hg]
  refine j_aload_n hE (by decide +kernel : decode cX8_init 28 = .ok (.aload_n 0, 1)) rfl rfl ?_
  refine j_sipush hE (by decide +kernel : decode cX8_init 29 = .ok (.sipush 2048, 3)) (v := (2048 : Int32)) (by decide) ?_
  obtain ⟨ho1, hf1, hn1, hn2, h⟩ := h
  obtain ⟨a10, ha⟩ : ∃ z, z = Hn g9 := ⟨_, rfl⟩; obtain ⟨g11, hg⟩ : ∃ z, z = nA g9 20 1155 th (2048) := ⟨_, rfl⟩; replace h := h a10 g11 ha hg
  refine j_newarray (k := 20) (co := 1155) (ow := th) (n := (2048)) (atype := .int) hE ac_int (Or.inl ⟨rfl, rfl⟩) (by decide) (by decide) (by decide) ho1 hf1 (by decide +kernel : decode cX8_init 32 = .ok (.newarray .int, 2)) hn1 hn2 ?_
  rw [← hg, ← ha]
  obtain ⟨hk, h⟩ := h
  obtain ⟨g12, hg⟩ : ∃ z, z = sR g11 1155 th (some a10) := ⟨_, rfl⟩; replace h := h g12 hg
  refine j_putR (v := (some a10)) hE fa_X8_21 hk (fun _ => hnm) (by decide +kernel : decode cX8_init 34 = .ok (.putfield 21, 3)) ?_
  rw [← hg]
  refine j_aload_n hE (by decide +kernel : decode cX8_init 37 = .ok (.aload_n 0, 1)) rfl rfl ?_
  refine j_bipush hE (by decide +kernel : decode cX8_init 38 = .ok (.bipush 8, 2)) (v := (8 : Int32)) (by decide) ?_
  obtain ⟨ho1, hf1, hn1, hn2, h⟩ := h
  obtain ⟨a13, ha⟩ : ∃ z, z = Hn g12 := ⟨_, rfl⟩; obtain ⟨g14, hg⟩ : ∃ z, z = nA g12 20 1156 th (8) := ⟨_, rfl⟩; replace h := h a13 g14 ha hg
  refine j_newarray (k := 20) (co := 1156) (ow := th) (n := (8)) (atype := .int) hE ac_int (Or.inl ⟨rfl, rfl⟩) (by decide) (by decide) (by decide) ho1 hf1 (by decide +kernel : decode cX8_init 40 = .ok (.newarray .int, 2)) hn1 hn2 ?_
  rw [← hg, ← ha]
  obtain ⟨hk, h⟩ := h
  obtain ⟨g15, hg⟩ : ∃ z, z = sR g14 1156 th (some a13) := ⟨_, rfl⟩; replace h := h g15 hg
  refine j_putR (v := (some a13)) hE fa_X8_24 hk (fun _ => hnm) (by decide +kernel : decode cX8_init 42 = .ok (.putfield 24, 3)) ?_
  rw [← hg]
  refine j_aload_n hE (by decide +kernel : decode cX8_init 45 = .ok (.aload_n 0, 1)) rfl rfl ?_
  refine j_bipush hE (by decide +kernel : decode cX8_init 46 = .ok (.bipush 8, 2)) (v := (8 : Int32)) (by decide) ?_
  obtain ⟨ho1, hf1, hn1, hn2, h⟩ := h
  obtain ⟨a16, ha⟩ : ∃ z, z = Hn g15 := ⟨_, rfl⟩; obtain ⟨g17, hg⟩ : ∃ z, z = nA g15 20 1157 th (8) := ⟨_, rfl⟩; replace h := h a16 g17 ha hg
  refine j_newarray (k := 20) (co := 1157) (ow := th) (n := (8)) (atype := .int) hE ac_int (Or.inl ⟨rfl, rfl⟩) (by decide) (by decide) (by decide) ho1 hf1 (by decide +kernel : decode cX8_init 48 = .ok (.newarray .int, 2)) hn1 hn2 ?_
  rw [← hg, ← ha]
  obtain ⟨hk, h⟩ := h
  obtain ⟨g18, hg⟩ : ∃ z, z = sR g17 1157 th (some a16) := ⟨_, rfl⟩; replace h := h g18 hg
  refine j_putR (v := (some a16)) hE fa_X8_27 hk (fun _ => hnm) (by decide +kernel : decode cX8_init 50 = .ok (.putfield 27, 3)) ?_
  rw [← hg]
  refine j_aload_n hE (by decide +kernel : decode cX8_init 53 = .ok (.aload_n 0, 1)) rfl rfl ?_
  refine j_iconst hE (by decide +kernel : decode cX8_init 54 = .ok (.iconst 5, 1)) (v := (5 : Int32)) (by decide) ?_
  obtain ⟨hk, h⟩ := h
  obtain ⟨g19, hg⟩ : ∃ z, z = sI g18 1158 th (5 : Int32) := ⟨_, rfl⟩; replace h := h g19 hg
  refine j_putI hE fa_X8_30 hk (fun q => by cases q) (by decide +kernel : decode cX8_init 55 = .ok (.putfield 30, 3)) ?_
  rw [← hg]
  refine j_aload_n hE (by decide +kernel : decode cX8_init 58 = .ok (.aload_n 0, 1)) rfl rfl ?_
  refine j_iconst hE (by decide +kernel : decode cX8_init 59 = .ok (.iconst (-1), 1)) (v := (-1 : Int32)) (by decide) ?_
  obtain ⟨hk, h⟩ := h
  obtain ⟨g20, hg⟩ : ∃ z, z = sI g19 1161 th (-1 : Int32) := ⟨_, rfl⟩; replace h := h g20 hg
  refine j_putI hE fa_X8_34 hk (fun q => by cases q) (by decide +kernel : decode cX8_init 60 = .ok (.putfield 34, 3)) ?_
  rw [← hg]
  refine j_aload_n hE (by decide +kernel : decode cX8_init 63 = .ok (.aload_n 0, 1)) rfl rfl ?_
  refine j_iconst hE (by decide +kernel : decode cX8_init 64 = .ok (.iconst (-1), 1)) (v := (-1 : Int32)) (by decide) ?_
  obtain ⟨hk, h⟩ := h
  obtain ⟨g21, hg⟩ : ∃ z, z = sI g20 1162 th (-1 : Int32) := ⟨_, rfl⟩; replace h := h g21 hg
  refine j_putI hE fa_X8_37 hk (fun q => by cases q) (by decide +kernel : decode cX8_init 65 = .ok (.putfield 37, 3)) ?_
  rw [← hg]
  refine j_aload_n hE (by decide +kernel : decode cX8_init 68 = .ok (.aload_n 0, 1)) rfl rfl ?_
  obtain ⟨hk, h⟩ := h
  obtain ⟨a22, ha, h⟩ := h
  refine j_getRn hE fg_X8_18 hk ha (by decide +kernel : decode cX8_init 69 = .ok (.getfield 18, 3)) ?_
  refine j_bipush hE (by decide +kernel : decode cX8_init 72 = .ok (.bipush 30, 2)) (v := (30 : Int32)) (by decide) ?_
  refine j_callS hE rfl cl_X8_40 st_J7_fill_53178 ⟨by omega, by omega⟩ (As := [.ref a22, .int (30 : Int32)]) (rest := []) rfl rfl (Nat.le_of_ble_eq_true rfl) (by decide +kernel : decode cX8_init 74 = .ok (.invokestatic 40, 3)) (mt_Arrays_fill _ _ _ _ h) ?_
  rintro _ g23 ⟨rfl, h⟩
  exact j_vret hE (by decide +kernel : decode cX8_init 77 = .ok (.return_, 1)) ⟨rfl, h⟩
set_option maxHeartbeats 4000000 in
set_option maxRecDepth 100000 in
theorem rl_Vn_init {Γ : GAM} {l : Launch} {th : Nat} {g : GH} {K : GH → Prop} (h0 : B_Vn_init_0 Γ K th g) : MetA Γ l yX8_init cX8_init 1 none 1 23 [.ref th] g (fun r g' => r = none ∧ K g') := by
  refine MetA.introL (Lx := [some (.ref th)]) (by decide) (Nat.le_of_ble_eq_true rfl) rfl rfl ?_
  intro E hEl hE hnm
  exact S_Vn_init_0 hE hnm th g h0
theorem mt_Vn_init {Γ : GAM} {l : Launch} (th : Nat) (g : GH) (K : GH → Prop) (h : Sp_Vn_init Γ th g K) : MetA Γ l yX8_init cX8_init 1 none 1 23 [.ref th] g (fun r g' => r = none ∧ K g') := by
  obtain ⟨⟨h1, h2, h3, h4, h5, h5', h6⟩, hK⟩ := h
  have S := StK.ini (W := fun _ _ => 0) h1 h2 h3 h4 h5 h5' h6 ⟨by decide, by decide +kernel⟩
  refine rl_Vn_init ?_
  unfold B_Vn_init_0

  refine S.step (n := 0) rfl ?_
  clear S; intro _ S
  refine S.step (n := 1) rfl ?_
  clear S; intro _ S
  refine S.step (n := 2) rfl ?_
  clear S; intro _ S
  refine S.step (n := 3) rfl ?_
  clear S; intro _ S
  refine S.step (n := 4) rfl ?_
  clear S; intro _ S
  refine S.step (n := 5) rfl ?_
  clear S; intro _ S
  refine ⟨S.kd, ?_⟩
  rintro _ rfl
  replace S := S.setI (f := 1158) (v := 5)
  refine ⟨S.kd, ?_⟩
  rintro _ rfl
  replace S := S.setI (f := 1161) (v := -1)
  refine ⟨S.kd, ?_⟩
  rintro _ rfl
  replace S := S.setI (f := 1162) (v := -1)
  refine ⟨S.kd, ?_⟩
  obtain ⟨r1, r2, r3, r4, r5, r6⟩ := S.2.2.2.2.2.2.2.2.2.1 2 _ (by decide) rfl
  refine ⟨_, r1, r2, by rw [r5]; decide, ?_⟩
  rw [r3, r4, r5]
  have S := S.setAf (c := 1154) (v := fun i => if i < 81 then 30 else 0)
  rw [show ((1154, 20, 81) : Nat × Nat × Nat).1 = 1154 from rfl] at r6
  simp only at r6 ⊢
  rw [r6]
  refine hK _ (StK.made S (by decide)) (fun s hs1 hs2 hs3 => ?_)
  have hkd := S.kd
  obtain ⟨_, _, _, _, _, _, _, _, hV, hA, _⟩ := S
  obtain ⟨p1, p2, p3, p4, p5, _⟩ := hA 0 _ (by decide) rfl
  obtain ⟨q1, q2, q3, q4, q5, _⟩ := hA 1 _ (by decide) rfl
  obtain ⟨t1, t2, t3, t4, t5, t6⟩ := hA 2 _ (by decide) rfl
  obtain ⟨u1, u2, u3, u4, u5, _⟩ := hA 3 _ (by decide) rfl
  obtain ⟨w1, w2, w3, w4, w5, _⟩ := hA 4 _ (by decide) rfl
  obtain ⟨x1, x2, x3, x4, x5, _⟩ := hA 5 _ (by decide) rfl
  have hv : vA s = [] := by
    refine List.eq_nil_iff_forall_not_mem.mpr (fun b hb => ?_)
    have := (vA_mem.mp hb).2
    unfold vSt at this
    rw [hs1] at this
    exact absurd this (by decide)
  refine ⟨⟨⟨hkd, _, _, _, _, _, _, ⟨p1, p2, p3, p4, p5⟩, ⟨q1, q2, q3, q4, q5⟩, ⟨t1, t2, t3, t4, t5⟩, ⟨u1, u2, u3, u4, u5⟩, ⟨w1, w2, w3, w4, w5⟩, ⟨x1, x2, x3, x4, x5⟩⟩, ?_, ?_, ?_, fun b x _ hx => ?_, fun a b ha hb _ => ?_⟩, .inl (hV _)⟩
  · rw [hs3]; exact hV _
  · rw [hv]; exact hV _
  · show _ = nI (vA s).length
    rw [hv]; exact hV _
  · rw [hs1] at hx; simp at hx
  · rw [hs2]
    simp only at t6
    rw [t6]
    simp only [if_true]
    rw [if_pos (by omega)]
