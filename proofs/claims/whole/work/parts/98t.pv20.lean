/-! the class made -/
theorem NEW.nO {Γ : GAM} {g : GH} {ci N : Nat} {fl : List (Nat × Nat × Nat)} (z1 : ∀ f, Gi g f (Hn g) = 0) (z2 : ∀ f, Gr g f (Hn g) = none) (z3 : ∀ c, free g c (Hn g)) (z4 : EN g) (hr : Hn g + 1 + fl.length ≤ gB Γ + NCC ∧ Hu g + N + (fl.map (fun x => x.2.2)).sum ≤ NSS) (hci : ci < 19) : NEW Γ (ci + 1) fl (Hn g) (nO g ci N) := by
  refine ⟨by rw [Hn_nO]; omega, by rw [Kd_nO, if_pos rfl], fun b hb => ?_, fun F b hb hc ho => ?_, z1, z2, by rw [Hn_nO]; exact hr.1, by rw [Hu_nO]; exact hr.2⟩
  · rw [Hn_nO] at hb
    rw [Kd_nO, if_neg (by omega)]; exact z4 b (by omega)
  · by_cases zb : b = Hn g
    · rw [Kd_nO, if_pos zb] at hb; omega
    · rw [Kd_nO, if_neg zb] at hb
      exact z3 F b hb hc ho
theorem inR {th ci N F : Nat} {g g4 g5 : GH} (he : EN g) (hth : th < Hn g) (c : CNw (Hn g) (nO g ci N) g4) (hci : ci < 19) (h5 : g5 = sR g4 F th (some (Hn g))) : CNw th g g5 ∧ (∀ f, f ≠ F → Gr g5 f th = Gr g f th) ∧ Gr g5 F th = some (Hn g) ∧ EN g5 ∧ (Hn g5 = Hn g4 ∧ Hu g5 = Hu g4) ∧ CNw th g4 g5 := by
  have c1 := CNw.inn (th := th) he c hci
  have c2 : CNw th g4 g5 := by rw [h5]; exact CNw.sR c1.2.2.2.2.2.2
  have c3 := c1.tr c2
  refine ⟨c3, fun f hf => ?_, by rw [h5, Gr_sR, if_pos ⟨rfl, rfl⟩], c3.2.2.2.2.2.2, by rw [h5]; exact ⟨rfl, rfl⟩, c2⟩
  rw [h5, Gr_sR, if_neg (fun z => hf z.1), (c.1 f th (by rw [Hn_nO]; omega) (by omega)).2]; rfl
theorem SE.nO {Γ : GAM} {g : GH} {ci N : Nat} (h : SE Γ g) : SE Γ (nO g ci N) := by
  obtain ⟨s1, s2, s3, s4⟩ := h
  exact ⟨by rw [Hn_nO]; omega, by rw [Kd_nO, if_neg (by omega)]; exact s2, s3, s4⟩
theorem NT.nO {g : GH} {ci N : Nat} (h : NT g) (hci : ci < 19) : NT (nO g ci N) := fun b hb => by
  by_cases zb : b = Hn g
  · rw [Kd_nO, if_pos zb] at hb; omega
  · rw [Kd_nO, if_neg zb] at hb
    exact h b hb
def Sp_PV_init (Γ : GAM) (th : Nat) (g : GH) (K : GH → Prop) : Prop := NEWL Γ 12 th g 40 4000 ∧ NT g ∧ (∀ f, 128 ≤ f → Gi g f th = 0) ∧ ∀ C g', CNw th g g' → c_x C = th → ClsI Γ C g' st0 → (Hn g' ≤ Hn g + 40 ∧ Hu g' ≤ Hu g + 4000) → K g'
-- the walk of PV_init
set_option maxRecDepth 100000 in
def B_PV_init_0 (Γ : GAM) (K : GH → Prop) (th : Nat) (g : GH) : Prop :=
  Kd g th = 12 ∧ ∀ g1 : GH, g1 = sI g 1409 th (5 : Int32) → Hn g1 + 1 ≤ gB Γ + NCC ∧ Hu g1 + 10 ≤ NSS ∧ ∀ (a2 : Nat) (g3 : GH), a2 = Hn g1 → g3 = nO g1 5 10 → (∀ f, Gi g1 f (Hn g1) = 0) → (∀ f, Gr g1 f (Hn g1) = none) → (∀ c, free g1 c (Hn g1)) → (∀ a, Hn g1 ≤ a → Kd g1 a = 0) → Sp_Po_init Γ a2 g3 (fun (g4 : GH) => Kd g4 th = 12 ∧ ∀ g5 : GH, g5 = sR g4 1410 th (some a2) → Hn g5 + 1 ≤ gB Γ + NCC ∧ Hu g5 + 8 ≤ NSS ∧ ∀ (a6 : Nat) (g7 : GH), a6 = Hn g5 → g7 = nO g5 7 8 → (∀ f, Gi g5 f (Hn g5) = 0) → (∀ f, Gr g5 f (Hn g5) = none) → (∀ c, free g5 c (Hn g5)) → (∀ a, Hn g5 ≤ a → Kd g5 a = 0) → Sp_Ta_init Γ a6 g7 (fun (g8 : GH) => Kd g8 th = 12 ∧ ∀ g9 : GH, g9 = sR g8 1411 th (some a6) → Hn g9 + 1 ≤ gB Γ + NCC ∧ Hu g9 + 7 ≤ NSS ∧ ∀ (a10 : Nat) (g11 : GH), a10 = Hn g9 → g11 = nO g9 6 7 → (∀ f, Gi g9 f (Hn g9) = 0) → (∀ f, Gr g9 f (Hn g9) = none) → (∀ c, free g9 c (Hn g9)) → (∀ a, Hn g9 ≤ a → Kd g9 a = 0) → Sp_Pr_init Γ a10 g11 (fun (g12 : GH) => Kd g12 th = 12 ∧ ∀ g13 : GH, g13 = sR g12 1412 th (some a10) → Hn g13 + 1 ≤ gB Γ + NCC ∧ Hu g13 + 11 ≤ NSS ∧ ∀ (a14 : Nat) (g15 : GH), a14 = Hn g13 → g15 = nO g13 9 11 → (∀ f, Gi g13 f (Hn g13) = 0) → (∀ f, Gr g13 f (Hn g13) = none) → (∀ c, free g13 c (Hn g13)) → (∀ a, Hn g13 ≤ a → Kd g13 a = 0) → Sp_Vn_init Γ a14 g15 (fun (g16 : GH) => Kd g16 th = 12 ∧ ∀ g17 : GH, g17 = sR g16 1413 th (some a14) → Hn g17 + 1 ≤ gB Γ + NCC ∧ Hu g17 + 3 ≤ NSS ∧ ∀ (a18 : Nat) (g19 : GH), a18 = Hn g17 → g19 = nO g17 0 3 → (∀ f, Gi g17 f (Hn g17) = 0) → (∀ f, Gr g17 f (Hn g17) = none) → (∀ c, free g17 c (Hn g17)) → (∀ a, Hn g17 ≤ a → Kd g17 a = 0) → Sp_AL_init Γ a18 g19 (fun (g20 : GH) => Kd g20 th = 12 ∧ ∀ g21 : GH, g21 = sR g20 1414 th (some a18) → th < Hn g21 ∧ free g21 1415 th ∧ Hn g21 + 1 ≤ gB Γ + NCC ∧ Hu g21 + 4 ≤ NSS ∧ ∀ (a22 : Nat) (g23 : GH), a22 = Hn g21 → g23 = nA g21 20 1415 th (4) → Kd g23 th = 12 ∧ ∀ g24 : GH, g24 = sR g23 1415 th (some a22) → th < Hn g24 ∧ free g24 1416 th ∧ Hn g24 + 1 ≤ gB Γ + NCC ∧ Hu g24 + 401 ≤ NSS ∧ ∀ (a25 : Nat) (g26 : GH), a25 = Hn g24 → g26 = nA g24 20 1416 th (401) → Kd g26 th = 12 ∧ ∀ g27 : GH, g27 = sR g26 1416 th (some a25) → th < Hn g27 ∧ free g27 1417 th ∧ Hn g27 + 1 ≤ gB Γ + NCC ∧ Hu g27 + 200 ≤ NSS ∧ ∀ (a28 : Nat) (g29 : GH), a28 = Hn g27 → g29 = nA g27 20 1417 th (200) → Kd g29 th = 12 ∧ ∀ g30 : GH, g30 = sR g29 1417 th (some a28) → Kd g30 th = 12 ∧ ∃ a31 : Nat, Gr g30 1415 th = some a31 ∧ Sp_Arrays_fill Γ a31 (300 : Int32) g30 (fun (g32 : GH) => K g32))))))
set_option maxHeartbeats 4000000 in
set_option maxRecDepth 100000 in
theorem S_PV_init_0 {Γ : GAM} {E : EV} {K : GH → Prop} (hE : GE Γ E cX10_init 1 RX10 none 6 120 (fun r g' => r = none ∧ K g')) (hnm : E.2.2.2.2.2.2.2.2.1.name = "<init>") (th : Nat) (g : GH) (h : B_PV_init_0 Γ K th g) : JW Γ E 0 [some (.ref th)] [] g := by
  unfold B_PV_init_0 at h
  refine j_aload_n hE (by decide +kernel : decode cX10_init 0 = .ok (.aload_n 0, 1)) rfl rfl ?_
  refine j_objInit hE rfl ol_X10 oi_in oi_code (Nat.le_of_ble_eq_true rfl) (by omega) (by omega) (by decide +kernel : decode cX10_init 1 = .ok (.invokespecial 3, 3)) ?_
  refine j_aload_n hE (by decide +kernel : decode cX10_init 4 = .ok (.aload_n 0, 1)) rfl rfl ?_
  refine j_iconst hE (by decide +kernel : decode cX10_init 5 = .ok (.iconst 5, 1)) (v := (5 : Int32)) (by decide) ?_
  obtain ⟨hk, h⟩ := h
  obtain ⟨g1, hg⟩ : ∃ z, z = sI g 1409 th (5 : Int32) := ⟨_, rfl⟩; replace h := h g1 hg
  refine j_putI hE fa_X10_9 hk (fun q => by cases q) (by decide +kernel : decode cX10_init 6 = .ok (.putfield 9, 3)) ?_
  rw [← hg]
  refine j_aload_n hE (by decide +kernel : decode cX10_init 9 = .ok (.aload_n 0, 1)) rfl rfl ?_
  obtain ⟨hn1, hn2, h⟩ := h
  refine j_new hE cf_5 ck_X10_13 in_X4 (by decide +kernel : decode cX10_init 10 = .ok (.new 13, 3)) hn1 hn2 (fun f1 f2 f3 f4 => ?_)
  obtain ⟨a2, ha⟩ : ∃ z, z = Hn g1 := ⟨_, rfl⟩; obtain ⟨g3, hg⟩ : ∃ z, z = nO g1 5 10 := ⟨_, rfl⟩; replace h := h a2 g3 ha hg f1 f2 f3 f4; rw [← hg, ← ha]
  refine j_dup hE (by decide +kernel : decode cX10_init 13 = .ok (.dup, 1)) rfl ?_
  refine j_callIN hE rfl cl_X10_15 im_X4_init rfl ⟨by omega, by omega⟩ (As := []) (rest := [.ref a2, .ref th]) (b := a2) rfl rfl (Nat.le_of_ble_eq_true rfl) (by decide +kernel : decode cX10_init 14 = .ok (.invokespecial 15, 3)) (mt_Po_init _ _ _ h) ?_
  rintro _ g4 ⟨rfl, h⟩
  obtain ⟨hk, h⟩ := h
  obtain ⟨g5, hg⟩ : ∃ z, z = sR g4 1410 th (some a2) := ⟨_, rfl⟩; replace h := h g5 hg
  refine j_putR (v := (some a2)) hE fa_X10_16 hk (fun _ => hnm) (by decide +kernel : decode cX10_init 17 = .ok (.putfield 16, 3)) ?_
  rw [← hg]
  refine j_aload_n hE (by decide +kernel : decode cX10_init 20 = .ok (.aload_n 0, 1)) rfl rfl ?_
  obtain ⟨hn1, hn2, h⟩ := h
  refine j_new hE cf_7 ck_X10_20 in_X6 (by decide +kernel : decode cX10_init 21 = .ok (.new 20, 3)) hn1 hn2 (fun f1 f2 f3 f4 => ?_)
  obtain ⟨a6, ha⟩ : ∃ z, z = Hn g5 := ⟨_, rfl⟩; obtain ⟨g7, hg⟩ : ∃ z, z = nO g5 7 8 := ⟨_, rfl⟩; replace h := h a6 g7 ha hg f1 f2 f3 f4; rw [← hg, ← ha]
  refine j_dup hE (by decide +kernel : decode cX10_init 24 = .ok (.dup, 1)) rfl ?_
  refine j_callIN hE rfl cl_X10_22 im_X6_init rfl ⟨by omega, by omega⟩ (As := []) (rest := [.ref a6, .ref th]) (b := a6) rfl rfl (Nat.le_of_ble_eq_true rfl) (by decide +kernel : decode cX10_init 25 = .ok (.invokespecial 22, 3)) (mt_Ta_init _ _ _ h) ?_
  rintro _ g8 ⟨rfl, h⟩
  obtain ⟨hk, h⟩ := h
  obtain ⟨g9, hg⟩ : ∃ z, z = sR g8 1411 th (some a6) := ⟨_, rfl⟩; replace h := h g9 hg
  refine j_putR (v := (some a6)) hE fa_X10_23 hk (fun _ => hnm) (by decide +kernel : decode cX10_init 28 = .ok (.putfield 23, 3)) ?_
  rw [← hg]
  refine j_aload_n hE (by decide +kernel : decode cX10_init 31 = .ok (.aload_n 0, 1)) rfl rfl ?_
  obtain ⟨hn1, hn2, h⟩ := h
  refine j_new hE cf_6 ck_X10_27 in_X5 (by decide +kernel : decode cX10_init 32 = .ok (.new 27, 3)) hn1 hn2 (fun f1 f2 f3 f4 => ?_)
  obtain ⟨a10, ha⟩ : ∃ z, z = Hn g9 := ⟨_, rfl⟩; obtain ⟨g11, hg⟩ : ∃ z, z = nO g9 6 7 := ⟨_, rfl⟩; replace h := h a10 g11 ha hg f1 f2 f3 f4; rw [← hg, ← ha]
  refine j_dup hE (by decide +kernel : decode cX10_init 35 = .ok (.dup, 1)) rfl ?_
  refine j_callIN hE rfl cl_X10_29 im_X5_init rfl ⟨by omega, by omega⟩ (As := []) (rest := [.ref a10, .ref th]) (b := a10) rfl rfl (Nat.le_of_ble_eq_true rfl) (by decide +kernel : decode cX10_init 36 = .ok (.invokespecial 29, 3)) (mt_Pr_init _ _ _ h) ?_
  rintro _ g12 ⟨rfl, h⟩
  obtain ⟨hk, h⟩ := h
  obtain ⟨g13, hg⟩ : ∃ z, z = sR g12 1412 th (some a10) := ⟨_, rfl⟩; replace h := h g13 hg
  refine j_putR (v := (some a10)) hE fa_X10_30 hk (fun _ => hnm) (by decide +kernel : decode cX10_init 39 = .ok (.putfield 30, 3)) ?_
  rw [← hg]
  refine j_aload_n hE (by decide +kernel : decode cX10_init 42 = .ok (.aload_n 0, 1)) rfl rfl ?_
  obtain ⟨hn1, hn2, h⟩ := h
  refine j_new hE cf_9 ck_X10_34 in_X8 (by decide +kernel : decode cX10_init 43 = .ok (.new 34, 3)) hn1 hn2 (fun f1 f2 f3 f4 => ?_)
  obtain ⟨a14, ha⟩ : ∃ z, z = Hn g13 := ⟨_, rfl⟩; obtain ⟨g15, hg⟩ : ∃ z, z = nO g13 9 11 := ⟨_, rfl⟩; replace h := h a14 g15 ha hg f1 f2 f3 f4; rw [← hg, ← ha]
  refine j_dup hE (by decide +kernel : decode cX10_init 46 = .ok (.dup, 1)) rfl ?_
  refine j_callI hE rfl cl_X10_36 im_X8_init rfl ⟨by omega, by omega⟩ (As := []) (rest := [.ref a14, .ref th]) (b := a14) rfl rfl (Nat.le_of_ble_eq_true rfl) (by decide +kernel : decode cX10_init 47 = .ok (.invokespecial 36, 3)) (mt_Vn_init _ _ _ h) ?_
  rintro _ g16 ⟨rfl, h⟩
  obtain ⟨hk, h⟩ := h
  obtain ⟨g17, hg⟩ : ∃ z, z = sR g16 1413 th (some a14) := ⟨_, rfl⟩; replace h := h g17 hg
  refine j_putR (v := (some a14)) hE fa_X10_37 hk (fun _ => hnm) (by decide +kernel : decode cX10_init 50 = .ok (.putfield 37, 3)) ?_
  rw [← hg]
  refine j_aload_n hE (by decide +kernel : decode cX10_init 53 = .ok (.aload_n 0, 1)) rfl rfl ?_
  obtain ⟨hn1, hn2, h⟩ := h
  refine j_new hE cf_0 ck_X10_41 in_Jx4a65c (by decide +kernel : decode cX10_init 54 = .ok (.new 41, 3)) hn1 hn2 (fun f1 f2 f3 f4 => ?_)
  obtain ⟨a18, ha⟩ : ∃ z, z = Hn g17 := ⟨_, rfl⟩; obtain ⟨g19, hg⟩ : ∃ z, z = nO g17 0 3 := ⟨_, rfl⟩; replace h := h a18 g19 ha hg f1 f2 f3 f4; rw [← hg, ← ha]
  refine j_dup hE (by decide +kernel : decode cX10_init 57 = .ok (.dup, 1)) rfl ?_
  refine j_callI hE rfl cl_X10_43 im_Jx4a65c_init_da8c8 rfl ⟨by omega, by omega⟩ (As := []) (rest := [.ref a18, .ref th]) (b := a18) rfl rfl (Nat.le_of_ble_eq_true rfl) (by decide +kernel : decode cX10_init 58 = .ok (.invokespecial 43, 3)) (mt_AL_init _ _ _ h) ?_
  rintro _ g20 ⟨rfl, h⟩
  obtain ⟨hk, h⟩ := h
  obtain ⟨g21, hg⟩ : ∃ z, z = sR g20 1414 th (some a18) := ⟨_, rfl⟩; replace h := h g21 hg
  refine j_putR (v := (some a18)) hE fa_X10_44 hk (fun _ => hnm) (by decide +kernel : decode cX10_init 61 = .ok (.putfield 44, 3)) ?_
  rw [← hg]
  refine j_aload_n hE (by decide +kernel : decode cX10_init 64 = .ok (.aload_n 0, 1)) rfl rfl ?_
  refine j_iconst hE (by decide +kernel : decode cX10_init 65 = .ok (.iconst 4, 1)) (v := (4 : Int32)) (by decide) ?_
  obtain ⟨ho1, hf1, hn1, hn2, h⟩ := h
  obtain ⟨a22, ha⟩ : ∃ z, z = Hn g21 := ⟨_, rfl⟩; obtain ⟨g23, hg⟩ : ∃ z, z = nA g21 20 1415 th (4) := ⟨_, rfl⟩; replace h := h a22 g23 ha hg
  refine j_newarray (k := 20) (co := 1415) (ow := th) (n := (4)) (atype := .int) hE ac_int (Or.inl ⟨rfl, rfl⟩) (by decide) (by decide) (by decide) ho1 hf1 (by decide +kernel : decode cX10_init 66 = .ok (.newarray .int, 2)) hn1 hn2 ?_
  rw [← hg, ← ha]
  obtain ⟨hk, h⟩ := h
  obtain ⟨g24, hg⟩ : ∃ z, z = sR g23 1415 th (some a22) := ⟨_, rfl⟩; replace h := h g24 hg
  refine j_putR (v := (some a22)) hE fa_X10_48 hk (fun _ => hnm) (by decide +kernel : decode cX10_init 68 = .ok (.putfield 48, 3)) ?_
  rw [← hg]
  refine j_aload_n hE (by decide +kernel : decode cX10_init 71 = .ok (.aload_n 0, 1)) rfl rfl ?_
  refine j_sipush hE (by decide +kernel : decode cX10_init 72 = .ok (.sipush 401, 3)) (v := (401 : Int32)) (by decide) ?_
  obtain ⟨ho1, hf1, hn1, hn2, h⟩ := h
  obtain ⟨a25, ha⟩ : ∃ z, z = Hn g24 := ⟨_, rfl⟩; obtain ⟨g26, hg⟩ : ∃ z, z = nA g24 20 1416 th (401) := ⟨_, rfl⟩; replace h := h a25 g26 ha hg
  refine j_newarray (k := 20) (co := 1416) (ow := th) (n := (401)) (atype := .int) hE ac_int (Or.inl ⟨rfl, rfl⟩) (by decide) (by decide) (by decide) ho1 hf1 (by decide +kernel : decode cX10_init 75 = .ok (.newarray .int, 2)) hn1 hn2 ?_
  rw [← hg, ← ha]
  obtain ⟨hk, h⟩ := h
  obtain ⟨g27, hg⟩ : ∃ z, z = sR g26 1416 th (some a25) := ⟨_, rfl⟩; replace h := h g27 hg
  refine j_putR (v := (some a25)) hE fa_X10_52 hk (fun _ => hnm) (by decide +kernel : decode cX10_init 77 = .ok (.putfield 52, 3)) ?_
  rw [← hg]
  refine j_aload_n hE (by decide +kernel : decode cX10_init 80 = .ok (.aload_n 0, 1)) rfl rfl ?_
  refine j_sipush hE (by decide +kernel : decode cX10_init 81 = .ok (.sipush 200, 3)) (v := (200 : Int32)) (by decide) ?_
  obtain ⟨ho1, hf1, hn1, hn2, h⟩ := h
  obtain ⟨a28, ha⟩ : ∃ z, z = Hn g27 := ⟨_, rfl⟩; obtain ⟨g29, hg⟩ : ∃ z, z = nA g27 20 1417 th (200) := ⟨_, rfl⟩; replace h := h a28 g29 ha hg
  refine j_newarray (k := 20) (co := 1417) (ow := th) (n := (200)) (atype := .int) hE ac_int (Or.inl ⟨rfl, rfl⟩) (by decide) (by decide) (by decide) ho1 hf1 (by decide +kernel : decode cX10_init 84 = .ok (.newarray .int, 2)) hn1 hn2 ?_
  rw [← hg, ← ha]
  obtain ⟨hk, h⟩ := h
  obtain ⟨g30, hg⟩ : ∃ z, z = sR g29 1417 th (some a28) := ⟨_, rfl⟩; replace h := h g30 hg
  refine j_putR (v := (some a28)) hE fa_X10_55 hk (fun _ => hnm) (by decide +kernel : decode cX10_init 86 = .ok (.putfield 55, 3)) ?_
  rw [← hg]
  refine j_aload_n hE (by decide +kernel : decode cX10_init 89 = .ok (.aload_n 0, 1)) rfl rfl ?_
  obtain ⟨hk, h⟩ := h
  obtain ⟨a31, ha, h⟩ := h
  refine j_getRn hE fg_X10_48 hk ha (by decide +kernel : decode cX10_init 90 = .ok (.getfield 48, 3)) ?_
  refine j_sipush hE (by decide +kernel : decode cX10_init 93 = .ok (.sipush 300, 3)) (v := (300 : Int32)) (by decide) ?_
  refine j_callS hE rfl cl_X10_58 st_J7_fill_53178 ⟨by omega, by omega⟩ (As := [.ref a31, .int (300 : Int32)]) (rest := []) rfl rfl (Nat.le_of_ble_eq_true rfl) (by decide +kernel : decode cX10_init 96 = .ok (.invokestatic 58, 3)) (mt_Arrays_fill _ _ _ _ h) ?_
  rintro _ g32 ⟨rfl, h⟩
  exact j_vret hE (by decide +kernel : decode cX10_init 99 = .ok (.return_, 1)) ⟨rfl, h⟩
set_option maxHeartbeats 4000000 in
set_option maxRecDepth 100000 in
theorem rl_PV_init {Γ : GAM} {l : Launch} {th : Nat} {g : GH} {K : GH → Prop} (h0 : B_PV_init_0 Γ K th g) : MetA Γ l yX10_init cX10_init 1 none 6 120 [.ref th] g (fun r g' => r = none ∧ K g') := by
  refine MetA.introL (Lx := [some (.ref th)]) (by decide) (Nat.le_of_ble_eq_true rfl) rfl rfl ?_
  intro E hEl hE hnm
  exact S_PV_init_0 hE hnm th g h0
theorem mt_PV_init {Γ : GAM} {l : Launch} (th : Nat) (g : GH) (K : GH → Prop) (h : Sp_PV_init Γ th g K) : MetA Γ l yX10_init cX10_init 1 none 6 120 [.ref th] g (fun r g' => r = none ∧ K g') := by
  obtain ⟨⟨⟨n1, n2⟩, n3, n4, n5, n6⟩, hnt, hG0, hK⟩ := h
  refine MetA.rep (fun hR => MetA.ghV (rl_PV_init ?_))
  have S0 := SL.ini n1 n2 (by decide) n3 n4 hR
  have he0 := S0.2.1
  unfold B_PV_init_0
  refine ⟨S0.kd, ?_⟩
  rintro g1 hg1
  have S1 := S0.setI (f := 1409) (v := 5) (by decide)
  rw [← hg1] at S1
  have h1 : Hn g1 = Hn g ∧ Hu g1 = Hu g := by rw [hg1]; exact ⟨rfl, rfl⟩
  have hse1 : SE Γ g1 := by rw [hg1]; exact n4
  have hnt1 : NT g1 := by rw [hg1]; exact hnt
  -- the post
  refine ⟨by omega, by omega, ?_⟩
  rintro _ g3 rfl hg3 z1 z2 z3 z4
  have hN1 := NEW.nO (Γ := Γ) (ci := 5) (N := 10) (fl := []) z1 z2 z3 z4 ⟨by show Hn g1 + 1 + 0 ≤ _; omega, by show Hu g1 + 10 + 0 ≤ _; omega⟩ (by decide)
  rw [← hg3] at hN1
  have h3 : Hn g3 = Hn g1 + 1 ∧ Hu g3 = Hu g1 + 10 := by rw [hg3]; exact ⟨rfl, rfl⟩
  refine ⟨⟨⟨hN1.1, hN1.2.1⟩, hN1.2.2.2.1, by rw [hg3]; exact hse1.nO, by omega, by omega⟩, by rw [hg3]; exact hnt1.nO (by decide), fun f _ => hN1.2.2.2.2.1 f, fun D g4 cn1 hD hv hPo hCo e4 => ?_⟩
  rw [hg3] at cn1
  refine ⟨(S1.inner cn1 (by decide)).kd, ?_⟩
  rintro g5 hg5
  have S2 := (S1.inner cn1 (by decide)).setR (F := 1410) (v := some (Hn g1)) (by decide) (by simp) (by simp)
  rw [← hg5] at S2
  obtain ⟨s1, r1, q1, he5, e5, t1⟩ := inR S1.2.1 (by omega) cn1 (by decide) hg5
  -- the tape
  refine ⟨by omega, by omega, ?_⟩
  clear z1 z2 z3 z4
  rintro _ g7 rfl hg7 z1 z2 z3 z4
  have hsT : (flTa.map (fun x => x.2.2)).sum = 521 := by decide
  have hN2 := NEW.nO (Γ := Γ) (ci := 7) (N := 8) (fl := flTa) z1 z2 z3 z4 ⟨by show Hn g5 + 1 + 4 ≤ _; omega, by rw [hsT]; omega⟩ (by decide)
  have h7 : Hn g7 = Hn g5 + 1 ∧ Hu g7 = Hu g5 + 8 := by rw [hg7]; exact ⟨rfl, rfl⟩
  refine ⟨by rw [hg7]; exact hN2, fun g8 m2 hT => ?_⟩
  have e8 : Hn g8 = Hn g7 + 4 ∧ Hu g8 ≤ Hu g7 + 521 := by
    obtain ⟨_, _, y1, y2, _⟩ := m2
    rw [hsT] at y2
    exact ⟨y1, y2⟩
  have cn2 := m2.cn
  rw [hg7] at cn2
  refine ⟨(S2.inner cn2 (by decide)).kd, ?_⟩
  rintro g9 hg9
  have S3 := (S2.inner cn2 (by decide)).setR (F := 1411) (v := some (Hn g5)) (by decide) (by simp) (by simp)
  rw [← hg9] at S3
  obtain ⟨s2, r2, q2, he9, e9, t2⟩ := inR S2.2.1 (by omega) cn2 (by decide) hg9
  -- the press
  refine ⟨by omega, by omega, ?_⟩
  clear z1 z2 z3 z4
  rintro _ g11 rfl hg11 z1 z2 z3 z4
  have hsP : (flPr.map (fun x => x.2.2)).sum = 60 := by decide
  have hN3 := NEW.nO (Γ := Γ) (ci := 6) (N := 7) (fl := flPr) z1 z2 z3 z4 ⟨by show Hn g9 + 1 + 5 ≤ _; omega, by rw [hsP]; omega⟩ (by decide)
  have h11 : Hn g11 = Hn g9 + 1 ∧ Hu g11 = Hu g9 + 7 := by rw [hg11]; exact ⟨rfl, rfl⟩
  refine ⟨by rw [hg11]; exact hN3, fun g12 m3 hPr => ?_⟩
  have e12 : Hn g12 = Hn g11 + 5 ∧ Hu g12 ≤ Hu g11 + 60 := by
    obtain ⟨_, _, y1, y2, _⟩ := m3
    rw [hsP] at y2
    exact ⟨y1, y2⟩
  have cn3 := m3.cn
  rw [hg11] at cn3
  refine ⟨(S3.inner cn3 (by decide)).kd, ?_⟩
  rintro g13 hg13
  have S4 := (S3.inner cn3 (by decide)).setR (F := 1412) (v := some (Hn g9)) (by decide) (by simp) (by simp)
  rw [← hg13] at S4
  obtain ⟨s3, r3, q3, he13, e13, t3⟩ := inR S3.2.1 (by omega) cn3 (by decide) hg13
  -- the van
  refine ⟨by omega, by omega, ?_⟩
  clear z1 z2 z3 z4
  rintro _ g15 rfl hg15 z1 z2 z3 z4
  have hsV : (flVn.map (fun x => x.2.2)).sum ≤ 2161 := by decide
  have hN4 := NEW.nO (Γ := Γ) (ci := 9) (N := 11) (fl := flVn) z1 z2 z3 z4 ⟨by show Hn g13 + 1 + 6 ≤ _; omega, by omega⟩ (by decide)
  have h15 : Hn g15 = Hn g13 + 1 ∧ Hu g15 = Hu g13 + 11 := by rw [hg15]; exact ⟨rfl, rfl⟩
  refine ⟨by rw [hg15]; exact hN4, fun g16 m4 hVn => ?_⟩
  have e16 : Hn g16 = Hn g15 + 6 ∧ Hu g16 ≤ Hu g15 + 2161 := by
    obtain ⟨_, _, y1, y2, _⟩ := m4
    exact ⟨y1, Nat.le_trans y2 (Nat.add_le_add_left hsV _)⟩
  have cn4 := m4.cn
  rw [hg15] at cn4
  refine ⟨(S4.inner cn4 (by decide)).kd, ?_⟩
  rintro g17 hg17
  have S5 := (S4.inner cn4 (by decide)).setR (F := 1413) (v := some (Hn g13)) (by decide) (by simp) (by simp)
  rw [← hg17] at S5
  obtain ⟨s4, r4, q4, he17, e17, t4⟩ := inR S4.2.1 (by omega) cn4 (by decide) hg17
  -- the heaps, the arrays
  refine S5.listP (F := 1414) (by decide) (by simp) (by simp) (by omega) (by omega) (fun g21 S6 e21 s5 r5 => ?_)
  refine S6.arrP (F := 1415) (by decide) (by simp) (by simp) (by omega) (by omega) (fun g24 S7 e24 s6 r6 => ?_)
  refine S7.arrP (F := 1416) (by decide) (by simp) (by simp) (by omega) (by omega) (fun g27 S8 e27 s7 r7 => ?_)
  refine S8.arrP (F := 1417) (by decide) (by simp) (by simp) (by omega) (by omega) (fun g30 S9 e30 s8 r8 => ?_)
  obtain ⟨a, a1, a2, a3, a4, a5⟩ := (S9.2.2.2.2.2.2.2.2.2.1 (1415, 4) (by simp)).1.e
  simp only at a1 a3 a5
  refine ⟨S9.kd, a, a1, a2, by rw [a5]; decide, ?_⟩
  rw [a3, a4, a5]
  obtain ⟨fE, hfE⟩ : ∃ fE, fE = (fun i => if i < 4 then (300 : Int32) else Ia g30 1415 th i) := ⟨_, rfl⟩
  rw [← hfE]
  have hnd : (([(1414, Hn g17)] : List (Nat × Nat)).map (·.2)).Nodup := by simp
  obtain ⟨f1, f2, f3, f4, f5⟩ := S9.fin hnd
  have hkl : Kd g30 (Hn g17) = 1 := (S9.2.2.2.2.2.2.2.2.1 (1414, Hn g17) (by simp)).2.1
  obtain ⟨gl, hgl⟩ : ∃ gl, gl = lbs g30 th [(1414, Hn g17)] := ⟨_, rfl⟩
  obtain ⟨gf, hgf⟩ : ∃ gf, gf = sAf gl 1415 th fE := ⟨_, rfl⟩
  refine ⟨gf, fun H hR => ?_, ?_⟩
  · have := Rep_lbs (th := th) hR [(1414, Hn g17)] (fun x hx => by rw [List.mem_singleton.mp hx]; show Kd g30 (Hn g17) < 20; omega)
    rw [hgf, hgl]; exact this
  rw [← hgl] at f1 f2 f3 f4 f5
  have hHf : Hn gf = Hn g30 ∧ Hu gf = Hu g30 := by rw [hgf]; exact ⟨f3.2.2.2.2.2.2.2.1, f3.2.2.2.2.2.2.2.2⟩
  have tail : ∀ gk, CNw th gk g30 → Hn gk ≤ Hn g17 → CNw th gk gf := fun gk c hle => by
    have := (c.lb f3 (fun b hb => by
      rw [hgl]
      refine lbs_co g30 th b _ (fun x hx e => ?_)
      rw [List.mem_singleton.mp hx] at e
      have e' : Hn g17 = b := e
      rcases hb with hb | hb
      · omega
      · rw [← e'] at hb; omega))
    rw [hgf]
    exact this.tr (CNw.sAf this.2.2.2.2.2.2)
  have c17 := s5.tr (s6.tr (s7.tr s8))
  have c13 := s4.tr c17
  have c9 := s3.tr c13
  have c5 := s2.tr c9
  have w1 := tail _ (t1.tr c5) (by omega)
  have w2 := tail _ (t2.tr c9) (by omega)
  have w3 := tail _ (t3.tr c13) (by omega)
  have w4 := tail _ (t4.tr c17) (by omega)
  have kd4 : Kd g4 th = 12 := (S1.inner cn1 (by decide)).kd
  have hPof := hPo.cn hv w1 kd4
  have hCof := hCo.cn w1 kd4
  have hTf := hT.cn w2 cn2.2.2.2.2.2.2 (by omega)
  have hPrf := (hPr st0 rfl rfl).cn w3 cn3.2.2.2.2.2.2 (by omega)
  have hVnf := (hVn st0 (fun _ => rfl) (fun _ => rfl) rfl).cn w4 cn4.2.2.2.2.2.2 (by omega)
  have hGr : ∀ f, Gr gf f th = Gr g30 f th := fun f => by rw [hgf, ← f3.2.1]; rfl
  have rr : ∀ f, f ≠ 1414 → f ≠ 1415 → f ≠ 1416 → f ≠ 1417 → Gr gf f th = Gr g17 f th := fun f x1 x2 x3 x4 => by
    rw [hGr, r8 f x4, r7 f x3, r6 f x2, r5 f x1]
  have A := f4 (1414, Hn g17) (by simp)
  simp only at A
  obtain ⟨A1, A2, A3, A4⟩ := A
  have cf := tail _ c17 (Nat.le_refl _)
  have V := S9.2.2.2.2.2.2.2.2.2.2
  have hGi : ∀ f, 128 ≤ f → Gi gf f th = (fun f' => if f' = 1409 then (5 : Int32) else Gi g f' th) f := fun f hf => by
    rw [hgf]
    show Gi gl f th = _
    rw [f3.1, V f hf]
  have AIf : ∀ F n, (F, n) ∈ [(1417, 200), (1416, 401), (1415, 4)] → AI gf F th n := fun F n hx => by
    have := f5 (F, n) hx
    rw [hgf]; exact this
  have A1f : AC Γ gf (Hn g17) [] := by rw [hgf]; exact A1
  refine hK ((th, Hn g5, Hn g9, Hn g13, Hn g17), D, []) gf ?_ rfl ⟨⟨⟨by show th < Hn gf; omega, ?_⟩, ⟨?_, ?_, ?_, ?_, ?_⟩, ⟨by show Hn g17 < Hn gf; omega, A1f.1.2, ?_, ?_⟩, AIf _ _ (by simp), AIf _ _ (by simp), AIf _ _ (by simp)⟩, ⟨?_, ?_, fun k hk => ?_⟩, hTf, hPrf, hVnf, ⟨A1f, rfl, fun i h hi => (by cases hi)⟩, hPof, hCof⟩ ⟨by omega, by omega⟩
  · rw [hgf]
    exact f2.tr (CNw.sAf f2.2.2.2.2.2.2)
  · show Kd gf th = 12
    rw [hgf]
    show Kd gl th = 12
    rw [f3.2.2.2.2.2.1]; exact S9.kd
  · show Gr gf 1410 th = some (d_p D)
    rw [rr _ (by decide) (by decide) (by decide) (by decide), r4 _ (by decide), r3 _ (by decide), r2 _ (by decide), q1, hD]
  · show Gr gf 1411 th = some (Hn g5)
    rw [rr _ (by decide) (by decide) (by decide) (by decide), r4 _ (by decide), r3 _ (by decide), q2]
  · show Gr gf 1412 th = some (Hn g9)
    rw [rr _ (by decide) (by decide) (by decide) (by decide), r4 _ (by decide), q3]
  · show Gr gf 1413 th = some (Hn g13)
    rw [rr _ (by decide) (by decide) (by decide) (by decide), q4]
  · show Gr gf 1414 th = some (Hn g17)
    rw [hgf]; exact A2
  · show Co gf (Hn g17) = _
    rw [hgf]; exact A3
  · show Ow gf (Hn g17) = th
    rw [hgf]; exact A4
  · show Gi gf 1408 th = 0
    rw [hGi _ (by decide)]
    show Gi g 1408 th = 0
    exact hG0 _ (by decide)
  · show Gi gf 1409 th = 5
    rw [hGi _ (by decide)]; rfl
  · show Ia gf 1415 th k = 300
    rw [hgf, Ia_sAf, if_pos ⟨rfl, rfl⟩, hfE]
    show (if k < 4 then _ else _) = _
    rw [if_pos hk]
