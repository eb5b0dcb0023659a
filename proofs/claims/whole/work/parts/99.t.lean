def Sp_AL_init (Γ : GAM) (q0 : Nat) (g : GH) (K : GH → Prop) : Prop := False
theorem mt_AL_init {Γ : GAM} {l : Launch} (q0 : Nat) (g : GH) (K : GH → Prop) (h : Sp_AL_init Γ q0 g K) : MetA Γ l yJx4a65c_init_da8c8 cJx4a65c_init_da8c8 1 none 0 0 [.ref q0] g (fun r g' => r = none ∧ K g') := h.elim
-- the walk of En_init
set_option maxRecDepth 100000 in
def B_En_init_0 (Γ : GAM) (K : GH → Prop) (th : Nat) (p0 : Int32) (p1 : Nat) (p2 : Int32) (p3 : Int32) (p4 : Int32) (g : GH) : Prop :=
  Hn g + 1 ≤ gB Γ + NCC ∧ Hu g + 3 ≤ NSS ∧ ∀ (a1 : Nat) (g2 : GH), a1 = Hn g → g2 = nO g 0 3 → (∀ f, Gi g f (Hn g) = 0) → (∀ f, Gr g f (Hn g) = none) → (∀ c, free g c (Hn g)) → (∀ a, Hn g ≤ a → Kd g a = 0) → Sp_AL_init Γ a1 g2 (fun (g3 : GH) => Kd g3 th = 2 ∧ ∀ g4 : GH, g4 = sR g3 133 th (some a1) → Kd g4 th = 2 ∧ ∀ g5 : GH, g5 = sI g4 134 th (-1 : Int32) → th < Hn g5 ∧ free g5 135 th ∧ Hn g5 + 1 ≤ gB Γ + NCC ∧ Hu g5 + 16 ≤ NSS ∧ ∀ (a6 : Nat) (g7 : GH), a6 = Hn g5 → g7 = nA g5 20 135 th (16) → Kd g7 th = 2 ∧ ∀ g8 : GH, g8 = sR g7 135 th (some a6) → th < Hn g8 ∧ free g8 136 th ∧ Hn g8 + 1 ≤ gB Γ + NCC ∧ Hu g8 + 16 ≤ NSS ∧ ∀ (a9 : Nat) (g10 : GH), a9 = Hn g8 → g10 = nA g8 20 136 th (16) → Kd g10 th = 2 ∧ ∀ g11 : GH, g11 = sR g10 136 th (some a9) → Kd g11 th = 2 ∧ ∀ g12 : GH, g12 = sI g11 137 th (-1 : Int32) → Kd g12 th = 2 ∧ ∀ g13 : GH, g13 = sI g12 138 th (-1 : Int32) → Kd g13 th = 2 ∧ ∀ g14 : GH, g14 = sI g13 140 th (-1 : Int32) → Kd g14 th = 2 ∧ ∀ g15 : GH, g15 = sI g14 141 th (-1 : Int32) → Kd g15 th = 2 ∧ ∀ g16 : GH, g16 = sI g15 142 th (-1 : Int32) → Kd g16 th = 2 ∧ ∀ g17 : GH, g17 = sI g16 128 th p0 → Kd g17 th = 2 ∧ ∀ g18 : GH, g18 = sR g17 129 th (some p1) → Kd g18 th = 2 ∧ ∀ g19 : GH, g19 = sI g18 130 th p2 → Kd g19 th = 2 ∧ ∀ g20 : GH, g20 = sI g19 131 th p3 → Kd g20 th = 2 ∧ ∀ g21 : GH, g21 = sI g20 132 th p4 → K g21)
set_option maxHeartbeats 4000000 in
set_option maxRecDepth 100000 in
theorem S_En_init_0 {Γ : GAM} {E : EV} {K : GH → Prop} (hE : GE Γ E cX0_init 6 RX0 none 1 20 (fun r g' => r = none ∧ K g')) (hnm : E.2.2.2.2.2.2.2.2.1.name = "<init>") (th : Nat) (p0 : Int32) (p1 : Nat) (p2 : Int32) (p3 : Int32) (p4 : Int32) (g : GH) (h : B_En_init_0 Γ K th p0 p1 p2 p3 p4 g) : JW Γ E 0 [some (.ref th), some (.int p0), some (.ref p1), some (.int p2), some (.int p3), some (.int p4)] [] g := by
  unfold B_En_init_0 at h
  refine j_aload_n hE (by decide +kernel : decode cX0_init 0 = .ok (.aload_n 0, 1)) rfl rfl ?_
  refine j_objInit hE rfl ol_X0 oi_in oi_code (Nat.le_of_ble_eq_true rfl) (by omega) (by omega) (by decide +kernel : decode cX0_init 1 = .ok (.invokespecial 3, 3)) ?_
  refine j_aload_n hE (by decide +kernel : decode cX0_init 4 = .ok (.aload_n 0, 1)) rfl rfl ?_
  obtain ⟨hn1, hn2, h⟩ := h
  refine j_new hE cf_0 ck_X0_9 in_Jx4a65c (by decide +kernel : decode cX0_init 5 = .ok (.new 9, 3)) hn1 hn2 (fun f1 f2 f3 f4 => ?_)
  obtain ⟨a1, ha⟩ : ∃ z, z = Hn g := ⟨_, rfl⟩; obtain ⟨g2, hg⟩ : ∃ z, z = nO g 0 3 := ⟨_, rfl⟩; have h := h a1 g2 ha hg f1 f2 f3 f4; rw [← hg, ← ha]
  refine j_dup hE (by decide +kernel : decode cX0_init 8 = .ok (.dup, 1)) rfl ?_
  refine j_callI hE rfl cl_X0_11 im_Jx4a65c_init_da8c8 rfl ⟨by omega, by omega⟩ (As := []) (rest := [.ref a1, .ref th]) (b := a1) rfl rfl (Nat.le_of_ble_eq_true rfl) (by decide +kernel : decode cX0_init 9 = .ok (.invokespecial 11, 3)) (mt_AL_init _ _ _ h) ?_
  rintro _ g3 ⟨rfl, h⟩
  obtain ⟨hk, h⟩ := h
  obtain ⟨g4, hg⟩ : ∃ z, z = sR g3 133 th (some a1) := ⟨_, rfl⟩; have h := h g4 hg
  refine j_putR (v := (some a1)) hE fa_X0_12 hk (fun _ => hnm) (by decide +kernel : decode cX0_init 12 = .ok (.putfield 12, 3)) ?_
  rw [← hg]
  refine j_aload_n hE (by decide +kernel : decode cX0_init 15 = .ok (.aload_n 0, 1)) rfl rfl ?_
  refine j_iconst hE (by decide +kernel : decode cX0_init 16 = .ok (.iconst (-1), 1)) (v := (-1 : Int32)) (by decide) ?_
  obtain ⟨hk, h⟩ := h
  obtain ⟨g5, hg⟩ : ∃ z, z = sI g4 134 th (-1 : Int32) := ⟨_, rfl⟩; have h := h g5 hg
  refine j_putI hE fa_X0_18 hk (fun q => by cases q) (by decide +kernel : decode cX0_init 17 = .ok (.putfield 18, 3)) ?_
  rw [← hg]
  refine j_aload_n hE (by decide +kernel : decode cX0_init 20 = .ok (.aload_n 0, 1)) rfl rfl ?_
  refine j_bipush hE (by decide +kernel : decode cX0_init 21 = .ok (.bipush 16, 2)) (v := (16 : Int32)) (by decide) ?_
  obtain ⟨ho1, hf1, hn1, hn2, h⟩ := h
  obtain ⟨a6, ha⟩ : ∃ z, z = Hn g5 := ⟨_, rfl⟩; obtain ⟨g7, hg⟩ : ∃ z, z = nA g5 20 135 th (16) := ⟨_, rfl⟩; have h := h a6 g7 ha hg
  refine j_newarray (k := 20) (co := 135) (ow := th) (n := (16)) (atype := .int) hE ac_int (Or.inl ⟨rfl, rfl⟩) (by decide) (by decide) (by decide) ho1 hf1 (by decide +kernel : decode cX0_init 23 = .ok (.newarray .int, 2)) hn1 hn2 ?_
  rw [← hg, ← ha]
  obtain ⟨hk, h⟩ := h
  obtain ⟨g8, hg⟩ : ∃ z, z = sR g7 135 th (some a6) := ⟨_, rfl⟩; have h := h g8 hg
  refine j_putR (v := (some a6)) hE fa_X0_22 hk (fun _ => hnm) (by decide +kernel : decode cX0_init 25 = .ok (.putfield 22, 3)) ?_
  rw [← hg]
  refine j_aload_n hE (by decide +kernel : decode cX0_init 28 = .ok (.aload_n 0, 1)) rfl rfl ?_
  refine j_bipush hE (by decide +kernel : decode cX0_init 29 = .ok (.bipush 16, 2)) (v := (16 : Int32)) (by decide) ?_
  obtain ⟨ho1, hf1, hn1, hn2, h⟩ := h
  obtain ⟨a9, ha⟩ : ∃ z, z = Hn g8 := ⟨_, rfl⟩; obtain ⟨g10, hg⟩ : ∃ z, z = nA g8 20 136 th (16) := ⟨_, rfl⟩; have h := h a9 g10 ha hg
  refine j_newarray (k := 20) (co := 136) (ow := th) (n := (16)) (atype := .int) hE ac_int (Or.inl ⟨rfl, rfl⟩) (by decide) (by decide) (by decide) ho1 hf1 (by decide +kernel : decode cX0_init 31 = .ok (.newarray .int, 2)) hn1 hn2 ?_
  rw [← hg, ← ha]
  obtain ⟨hk, h⟩ := h
  obtain ⟨g11, hg⟩ : ∃ z, z = sR g10 136 th (some a9) := ⟨_, rfl⟩; have h := h g11 hg
  refine j_putR (v := (some a9)) hE fa_X0_26 hk (fun _ => hnm) (by decide +kernel : decode cX0_init 33 = .ok (.putfield 26, 3)) ?_
  rw [← hg]
  refine j_aload_n hE (by decide +kernel : decode cX0_init 36 = .ok (.aload_n 0, 1)) rfl rfl ?_
  refine j_iconst hE (by decide +kernel : decode cX0_init 37 = .ok (.iconst (-1), 1)) (v := (-1 : Int32)) (by decide) ?_
  obtain ⟨hk, h⟩ := h
  obtain ⟨g12, hg⟩ : ∃ z, z = sI g11 137 th (-1 : Int32) := ⟨_, rfl⟩; have h := h g12 hg
  refine j_putI hE fa_X0_29 hk (fun q => by cases q) (by decide +kernel : decode cX0_init 38 = .ok (.putfield 29, 3)) ?_
  rw [← hg]
  refine j_aload_n hE (by decide +kernel : decode cX0_init 41 = .ok (.aload_n 0, 1)) rfl rfl ?_
  refine j_iconst hE (by decide +kernel : decode cX0_init 42 = .ok (.iconst (-1), 1)) (v := (-1 : Int32)) (by decide) ?_
  obtain ⟨hk, h⟩ := h
  obtain ⟨g13, hg⟩ : ∃ z, z = sI g12 138 th (-1 : Int32) := ⟨_, rfl⟩; have h := h g13 hg
  refine j_putI hE fa_X0_32 hk (fun q => by cases q) (by decide +kernel : decode cX0_init 43 = .ok (.putfield 32, 3)) ?_
  rw [← hg]
  refine j_aload_n hE (by decide +kernel : decode cX0_init 46 = .ok (.aload_n 0, 1)) rfl rfl ?_
  refine j_iconst hE (by decide +kernel : decode cX0_init 47 = .ok (.iconst (-1), 1)) (v := (-1 : Int32)) (by decide) ?_
  obtain ⟨hk, h⟩ := h
  obtain ⟨g14, hg⟩ : ∃ z, z = sI g13 140 th (-1 : Int32) := ⟨_, rfl⟩; have h := h g14 hg
  refine j_putI hE fa_X0_35 hk (fun q => by cases q) (by decide +kernel : decode cX0_init 48 = .ok (.putfield 35, 3)) ?_
  rw [← hg]
  refine j_aload_n hE (by decide +kernel : decode cX0_init 51 = .ok (.aload_n 0, 1)) rfl rfl ?_
  refine j_iconst hE (by decide +kernel : decode cX0_init 52 = .ok (.iconst (-1), 1)) (v := (-1 : Int32)) (by decide) ?_
  obtain ⟨hk, h⟩ := h
  obtain ⟨g15, hg⟩ : ∃ z, z = sI g14 141 th (-1 : Int32) := ⟨_, rfl⟩; have h := h g15 hg
  refine j_putI hE fa_X0_38 hk (fun q => by cases q) (by decide +kernel : decode cX0_init 53 = .ok (.putfield 38, 3)) ?_
  rw [← hg]
  refine j_aload_n hE (by decide +kernel : decode cX0_init 56 = .ok (.aload_n 0, 1)) rfl rfl ?_
  refine j_iconst hE (by decide +kernel : decode cX0_init 57 = .ok (.iconst (-1), 1)) (v := (-1 : Int32)) (by decide) ?_
  obtain ⟨hk, h⟩ := h
  obtain ⟨g16, hg⟩ : ∃ z, z = sI g15 142 th (-1 : Int32) := ⟨_, rfl⟩; have h := h g16 hg
  refine j_putI hE fa_X0_41 hk (fun q => by cases q) (by decide +kernel : decode cX0_init 58 = .ok (.putfield 41, 3)) ?_
  rw [← hg]
  refine j_aload_n hE (by decide +kernel : decode cX0_init 61 = .ok (.aload_n 0, 1)) rfl rfl ?_
  refine j_iload_n hE (by decide +kernel : decode cX0_init 62 = .ok (.iload_n 1, 1)) rfl rfl ?_
  obtain ⟨hk, h⟩ := h
  obtain ⟨g17, hg⟩ : ∃ z, z = sI g16 128 th p0 := ⟨_, rfl⟩; have h := h g17 hg
  refine j_putI hE fa_X0_44 hk (fun _ => hnm) (by decide +kernel : decode cX0_init 63 = .ok (.putfield 44, 3)) ?_
  rw [← hg]
  refine j_aload_n hE (by decide +kernel : decode cX0_init 66 = .ok (.aload_n 0, 1)) rfl rfl ?_
  refine j_aload_n hE (by decide +kernel : decode cX0_init 67 = .ok (.aload_n 2, 1)) rfl rfl ?_
  obtain ⟨hk, h⟩ := h
  obtain ⟨g18, hg⟩ : ∃ z, z = sR g17 129 th (some p1) := ⟨_, rfl⟩; have h := h g18 hg
  refine j_putR (v := (some p1)) hE fa_X0_47 hk (fun _ => hnm) (by decide +kernel : decode cX0_init 68 = .ok (.putfield 47, 3)) ?_
  rw [← hg]
  refine j_aload_n hE (by decide +kernel : decode cX0_init 71 = .ok (.aload_n 0, 1)) rfl rfl ?_
  refine j_iload_n hE (by decide +kernel : decode cX0_init 72 = .ok (.iload_n 3, 1)) rfl rfl ?_
  obtain ⟨hk, h⟩ := h
  obtain ⟨g19, hg⟩ : ∃ z, z = sI g18 130 th p2 := ⟨_, rfl⟩; have h := h g19 hg
  refine j_putI hE fa_X0_51 hk (fun _ => hnm) (by decide +kernel : decode cX0_init 73 = .ok (.putfield 51, 3)) ?_
  rw [← hg]
  refine j_aload_n hE (by decide +kernel : decode cX0_init 76 = .ok (.aload_n 0, 1)) rfl rfl ?_
  refine j_iload hE (by decide +kernel : decode cX0_init 77 = .ok (.iload 4, 2)) rfl ?_
  obtain ⟨hk, h⟩ := h
  obtain ⟨g20, hg⟩ : ∃ z, z = sI g19 131 th p3 := ⟨_, rfl⟩; have h := h g20 hg
  refine j_putI hE fa_X0_54 hk (fun _ => hnm) (by decide +kernel : decode cX0_init 79 = .ok (.putfield 54, 3)) ?_
  rw [← hg]
  refine j_aload_n hE (by decide +kernel : decode cX0_init 82 = .ok (.aload_n 0, 1)) rfl rfl ?_
  refine j_iload hE (by decide +kernel : decode cX0_init 83 = .ok (.iload 5, 2)) rfl ?_
  obtain ⟨hk, h⟩ := h
  obtain ⟨g21, hg⟩ : ∃ z, z = sI g20 132 th p4 := ⟨_, rfl⟩; have h := h g21 hg
  refine j_putI hE fa_X0_57 hk (fun _ => hnm) (by decide +kernel : decode cX0_init 85 = .ok (.putfield 57, 3)) ?_
  rw [← hg]
  exact j_vret hE (by decide +kernel : decode cX0_init 88 = .ok (.return_, 1)) ⟨rfl, h⟩
set_option maxHeartbeats 4000000 in
set_option maxRecDepth 100000 in
theorem rl_En_init {Γ : GAM} {l : Launch} {th : Nat} {p0 : Int32} {p1 : Nat} {p2 : Int32} {p3 : Int32} {p4 : Int32} {g : GH} {K : GH → Prop} (h0 : B_En_init_0 Γ K th p0 p1 p2 p3 p4 g) : MetA Γ l yX0_init cX0_init 6 none 1 20 [.ref th, .int p0, .ref p1, .int p2, .int p3, .int p4] g (fun r g' => r = none ∧ K g') := by
  refine MetA.introL (Lx := [some (.ref th), some (.int p0), some (.ref p1), some (.int p2), some (.int p3), some (.int p4)]) (by decide) (Nat.le_of_ble_eq_true rfl) rfl rfl ?_
  intro E hEl hE hnm
  exact S_En_init_0 hE hnm th p0 p1 p2 p3 p4 g h0
def Sp_Arrays_fill (Γ : GAM) (q0 : Nat) (q1 : Int32) (g : GH) (K : GH → Prop) : Prop := False
theorem mt_Arrays_fill {Γ : GAM} {l : Launch} (q0 : Nat) (q1 : Int32) (g : GH) (K : GH → Prop) (h : Sp_Arrays_fill Γ q0 q1 g K) : MetA Γ l yJ7_fill_53178 cJ7_fill_53178 4 none 0 0 [.ref q0, .int q1] g (fun r g' => r = none ∧ K g') := h.elim
-- the walk of En_forget
set_option maxRecDepth 100000 in
def B_En_forget_0 (Γ : GAM) (K : GH → Prop) (th : Nat) (g : GH) : Prop :=
  Kd g th = 2 ∧ ∃ a1 : Nat, Gr g 135 th = some a1 ∧ Sp_Arrays_fill Γ a1 (-1 : Int32) g (fun (g2 : GH) => Kd g2 th = 2 ∧ ∃ a3 : Nat, Gr g2 136 th = some a3 ∧ Sp_Arrays_fill Γ a3 (-1 : Int32) g2 (fun (g4 : GH) => Kd g4 th = 2 ∧ ∀ g5 : GH, g5 = sI g4 137 th (-1 : Int32) → Kd g5 th = 2 ∧ ∀ g6 : GH, g6 = sI g5 138 th (-1 : Int32) → Kd g6 th = 2 ∧ ∀ g7 : GH, g7 = sI g6 139 th (0 : Int32) → Kd g7 th = 2 ∧ ∀ g8 : GH, g8 = sI g7 140 th (-1 : Int32) → Kd g8 th = 2 ∧ ∀ g9 : GH, g9 = sI g8 141 th (-1 : Int32) → Kd g9 th = 2 ∧ ∀ g10 : GH, g10 = sI g9 142 th (-1 : Int32) → K g10))
set_option maxHeartbeats 4000000 in
set_option maxRecDepth 100000 in
theorem S_En_forget_0 {Γ : GAM} {E : EV} {K : GH → Prop} (hE : GE Γ E cX0_forget 1 RX0 none 1 23 (fun r g' => r = none ∧ K g')) (th : Nat) (g : GH) (h : B_En_forget_0 Γ K th g) : JW Γ E 0 [some (.ref th)] [] g := by
  unfold B_En_forget_0 at h
  refine j_aload_n hE (by decide +kernel : decode cX0_forget 0 = .ok (.aload_n 0, 1)) rfl rfl ?_
  obtain ⟨hk, h⟩ := h
  obtain ⟨a1, ha, h⟩ := h
  refine j_getRn hE fg_X0_22 hk ha (by decide +kernel : decode cX0_forget 1 = .ok (.getfield 22, 3)) ?_
  refine j_iconst hE (by decide +kernel : decode cX0_forget 4 = .ok (.iconst (-1), 1)) (v := (-1 : Int32)) (by decide) ?_
  refine j_callS hE rfl cl_X0_60 st_J7_fill_53178 ⟨by omega, by omega⟩ (As := [.ref a1, .int (-1 : Int32)]) (rest := []) rfl rfl (Nat.le_of_ble_eq_true rfl) (by decide +kernel : decode cX0_forget 5 = .ok (.invokestatic 60, 3)) (mt_Arrays_fill _ _ _ _ h) ?_
  rintro _ g2 ⟨rfl, h⟩
  refine j_aload_n hE (by decide +kernel : decode cX0_forget 8 = .ok (.aload_n 0, 1)) rfl rfl ?_
  obtain ⟨hk, h⟩ := h
  obtain ⟨a3, ha, h⟩ := h
  refine j_getRn hE fg_X0_26 hk ha (by decide +kernel : decode cX0_forget 9 = .ok (.getfield 26, 3)) ?_
  refine j_iconst hE (by decide +kernel : decode cX0_forget 12 = .ok (.iconst (-1), 1)) (v := (-1 : Int32)) (by decide) ?_
  refine j_callS hE rfl cl_X0_60 st_J7_fill_53178 ⟨by omega, by omega⟩ (As := [.ref a3, .int (-1 : Int32)]) (rest := []) rfl rfl (Nat.le_of_ble_eq_true rfl) (by decide +kernel : decode cX0_forget 13 = .ok (.invokestatic 60, 3)) (mt_Arrays_fill _ _ _ _ h) ?_
  rintro _ g4 ⟨rfl, h⟩
  refine j_aload_n hE (by decide +kernel : decode cX0_forget 16 = .ok (.aload_n 0, 1)) rfl rfl ?_
  refine j_iconst hE (by decide +kernel : decode cX0_forget 17 = .ok (.iconst (-1), 1)) (v := (-1 : Int32)) (by decide) ?_
  obtain ⟨hk, h⟩ := h
  obtain ⟨g5, hg⟩ : ∃ z, z = sI g4 137 th (-1 : Int32) := ⟨_, rfl⟩; have h := h g5 hg
  refine j_putI hE fa_X0_29 hk (fun q => by cases q) (by decide +kernel : decode cX0_forget 18 = .ok (.putfield 29, 3)) ?_
  rw [← hg]
  refine j_aload_n hE (by decide +kernel : decode cX0_forget 21 = .ok (.aload_n 0, 1)) rfl rfl ?_
  refine j_iconst hE (by decide +kernel : decode cX0_forget 22 = .ok (.iconst (-1), 1)) (v := (-1 : Int32)) (by decide) ?_
  obtain ⟨hk, h⟩ := h
  obtain ⟨g6, hg⟩ : ∃ z, z = sI g5 138 th (-1 : Int32) := ⟨_, rfl⟩; have h := h g6 hg
  refine j_putI hE fa_X0_32 hk (fun q => by cases q) (by decide +kernel : decode cX0_forget 23 = .ok (.putfield 32, 3)) ?_
  rw [← hg]
  refine j_aload_n hE (by decide +kernel : decode cX0_forget 26 = .ok (.aload_n 0, 1)) rfl rfl ?_
  refine j_iconst hE (by decide +kernel : decode cX0_forget 27 = .ok (.iconst 0, 1)) (v := (0 : Int32)) (by decide) ?_
  obtain ⟨hk, h⟩ := h
  obtain ⟨g7, hg⟩ : ∃ z, z = sI g6 139 th (0 : Int32) := ⟨_, rfl⟩; have h := h g7 hg
  refine j_putI hE fa_X0_66 hk (fun q => by cases q) (by decide +kernel : decode cX0_forget 28 = .ok (.putfield 66, 3)) ?_
  rw [← hg]
  refine j_aload_n hE (by decide +kernel : decode cX0_forget 31 = .ok (.aload_n 0, 1)) rfl rfl ?_
  refine j_iconst hE (by decide +kernel : decode cX0_forget 32 = .ok (.iconst (-1), 1)) (v := (-1 : Int32)) (by decide) ?_
  obtain ⟨hk, h⟩ := h
  obtain ⟨g8, hg⟩ : ∃ z, z = sI g7 140 th (-1 : Int32) := ⟨_, rfl⟩; have h := h g8 hg
  refine j_putI hE fa_X0_35 hk (fun q => by cases q) (by decide +kernel : decode cX0_forget 33 = .ok (.putfield 35, 3)) ?_
  rw [← hg]
  refine j_aload_n hE (by decide +kernel : decode cX0_forget 36 = .ok (.aload_n 0, 1)) rfl rfl ?_
  refine j_iconst hE (by decide +kernel : decode cX0_forget 37 = .ok (.iconst (-1), 1)) (v := (-1 : Int32)) (by decide) ?_
  obtain ⟨hk, h⟩ := h
  obtain ⟨g9, hg⟩ : ∃ z, z = sI g8 141 th (-1 : Int32) := ⟨_, rfl⟩; have h := h g9 hg
  refine j_putI hE fa_X0_38 hk (fun q => by cases q) (by decide +kernel : decode cX0_forget 38 = .ok (.putfield 38, 3)) ?_
  rw [← hg]
  refine j_aload_n hE (by decide +kernel : decode cX0_forget 41 = .ok (.aload_n 0, 1)) rfl rfl ?_
  refine j_iconst hE (by decide +kernel : decode cX0_forget 42 = .ok (.iconst (-1), 1)) (v := (-1 : Int32)) (by decide) ?_
  obtain ⟨hk, h⟩ := h
  obtain ⟨g10, hg⟩ : ∃ z, z = sI g9 142 th (-1 : Int32) := ⟨_, rfl⟩; have h := h g10 hg
  refine j_putI hE fa_X0_41 hk (fun q => by cases q) (by decide +kernel : decode cX0_forget 43 = .ok (.putfield 41, 3)) ?_
  rw [← hg]
  exact j_vret hE (by decide +kernel : decode cX0_forget 46 = .ok (.return_, 1)) ⟨rfl, h⟩
set_option maxHeartbeats 4000000 in
set_option maxRecDepth 100000 in
theorem rl_En_forget {Γ : GAM} {l : Launch} {th : Nat} {g : GH} {K : GH → Prop} (h0 : B_En_forget_0 Γ K th g) : MetA Γ l yX0_forget cX0_forget 1 none 1 23 [.ref th] g (fun r g' => r = none ∧ K g') := by
  refine MetA.introL (Lx := [some (.ref th)]) (by decide) (Nat.le_of_ble_eq_true rfl) rfl rfl ?_
  intro E hEl hE hnm
  exact S_En_forget_0 hE th g h0
def Sp_En_forget (Γ : GAM) (q0 : Nat) (g : GH) (K : GH → Prop) : Prop := False
theorem mt_En_forget {Γ : GAM} {l : Launch} (q0 : Nat) (g : GH) (K : GH → Prop) (h : Sp_En_forget Γ q0 g K) : MetA Γ l yX0_forget cX0_forget 1 none 0 0 [.ref q0] g (fun r g' => r = none ∧ K g') := h.elim
def Sp_AL_size (Γ : GAM) (q0 : Nat) (g : GH) (K : Int32 → GH → Prop) : Prop := False
theorem mt_AL_size {Γ : GAM} {l : Launch} (q0 : Nat) (g : GH) (K : Int32 → GH → Prop) (h : Sp_AL_size Γ q0 g K) : MetA Γ l yJx4a65c_size_8abf5 cJx4a65c_size_8abf5 1 (some (.int)) 0 0 [.ref q0] g (fun r g' => ∃ x, r = some (.int x) ∧ K x g') := h.elim
def Sp_AL_get (Γ : GAM) (q0 : Nat) (q1 : Int32) (g : GH) (K : Nat → GH → Prop) : Prop := False
theorem mt_AL_get {Γ : GAM} {l : Launch} (q0 : Nat) (q1 : Int32) (g : GH) (K : Nat → GH → Prop) (h : Sp_AL_get Γ q0 q1 g K) : MetA Γ l yJx4a65c_get_915e3 cJx4a65c_get_915e3 2 (some (.object "java/lang/Object")) 0 0 [.ref q0, .int q1] g (fun r g' => ∃ x, r = some (.ref x) ∧ K x g') := h.elim
def Sp_PV_isWithin (Γ : GAM) (q0 : Int32) (q1 : Int32) (q2 : Int32) (g : GH) (K : Int32 → GH → Prop) : Prop := False
theorem mt_PV_isWithin {Γ : GAM} {l : Launch} (q0 : Int32) (q1 : Int32) (q2 : Int32) (g : GH) (K : Int32 → GH → Prop) (h : Sp_PV_isWithin Γ q0 q1 q2 g K) : MetA Γ l yX10_isWithin cX10_isWithin 3 (some (.boolean)) 0 0 [.int q0, .int q1, .int q2] g (fun r g' => ∃ x, r = some (.int x) ∧ K x g') := h.elim
-- the walk of En_learn
set_option maxRecDepth 100000 in
def B_En_learn_76 (Γ : GAM) (K6 : Nat → Int32 → Int32 → GH → Prop) (K : GH → Prop) (l0 : Nat) (l1 : Int32) (l2 : Int32) (g : GH) : Prop :=
  K6 l0 l1 (l2 + (1 : Int32)) g
set_option maxHeartbeats 4000000 in
set_option maxRecDepth 100000 in
theorem S_En_learn_76 {Γ : GAM} {E : EV} {K : GH → Prop} (hE : GE Γ E cX0_learn 4 RX0 none 1 22 (fun r g' => r = none ∧ K g')) {K6 : Nat → Int32 → Int32 → GH → Prop} (hK6 : ∀ (l0 : Nat) (l1 : Int32) (l2 : Int32) (g : GH), K6 l0 l1 l2 g → JW Γ E 6 [some (.ref l0), some (.int l1), some (.int l2), none] [] g) (l0 : Nat) (l1 : Int32) (l2 : Int32) (g : GH) (h : B_En_learn_76 Γ K6 K l0 l1 l2 g) : JW Γ E 76 [some (.ref l0), some (.int l1), some (.int l2), none] [] g := by
  unfold B_En_learn_76 at h
  refine j_iinc hE (by decide +kernel : decode cX0_learn 76 = .ok (.iinc 2 1, 3)) (v := (1 : Int32)) (by decide) rfl (Nat.le_of_ble_eq_true rfl) rfl ?_
  refine j_goto hE (by decide +kernel : decode cX0_learn 79 = .ok (.goto (-73), 3)) (tgt := 6) (by decide) ?_
  exact hK6 _ _ _ _ h
set_option maxRecDepth 100000 in
def B_En_learn_6 (Γ : GAM) (K6 : Nat → Int32 → Int32 → GH → Prop) (K : GH → Prop) (l0 : Nat) (l1 : Int32) (l2 : Int32) (g : GH) : Prop :=
  Kd g l0 = 2 ∧ ∃ a1 : Nat, Gr g 133 l0 = some a1 ∧ Kd g a1 = 1 ∧ Sp_AL_size Γ a1 g (fun (x3 : Int32) (g2 : GH) => ((x3 ≤ l2 → K g2) ∧ (¬ (x3 ≤ l2) → Kd g2 l0 = 2 ∧ ∃ a4 : Nat, Gr g2 133 l0 = some a4 ∧ Kd g2 a4 = 1 ∧ Sp_AL_get Γ a4 l2 g2 (fun (a6 : Nat) (g5 : GH) => Kd g5 a6 = 9 ∧ Kd g5 a6 = 9 ∧ ((l1 < (Gi g5 1027 a6) → B_En_learn_76 Γ K6 K l0 l1 l2 g5) ∧ (¬ (l1 < (Gi g5 1027 a6)) → Kd g5 a6 = 9 ∧ Sp_PV_isWithin Γ (Gi g5 1024 a6) (0 : Int32) (15 : Int32) g5 (fun (x8 : Int32) (g7 : GH) => ((x8 = 0 → B_En_learn_76 Γ K6 K l0 l1 l2 g7) ∧ (¬ (x8 = 0) → Kd g7 l0 = 2 ∧ ∃ a9 : Nat, Gr g7 135 l0 = some a9 ∧ Kd g7 a6 = 9 ∧ Kd g7 a6 = 9 ∧ Kd g7 a9 = 20 ∧ inB (Gi g7 1024 a6) (Ln g7 a9) ∧ ∀ g10 : GH, g10 = sA g7 (Co g7 a9) (Ow g7 a9) (Gi g7 1024 a6).toNatClampNeg (Gi g7 1025 a6) → Kd g10 l0 = 2 ∧ ∃ a11 : Nat, Gr g10 136 l0 = some a11 ∧ Kd g10 a6 = 9 ∧ Kd g10 a6 = 9 ∧ Kd g10 a11 = 20 ∧ inB (Gi g10 1024 a6) (Ln g10 a11) ∧ ∀ g12 : GH, g12 = sA g10 (Co g10 a11) (Ow g10 a11) (Gi g10 1024 a6).toNatClampNeg (Gi g10 1026 a6) → B_En_learn_76 Γ K6 K l0 l1 l2 g12)))))))))
set_option maxHeartbeats 4000000 in
set_option maxRecDepth 100000 in
theorem S_En_learn_6 {Γ : GAM} {E : EV} {K : GH → Prop} (hE : GE Γ E cX0_learn 4 RX0 none 1 22 (fun r g' => r = none ∧ K g')) {K6 : Nat → Int32 → Int32 → GH → Prop} (hK6 : ∀ (l0 : Nat) (l1 : Int32) (l2 : Int32) (g : GH), K6 l0 l1 l2 g → JW Γ E 6 [some (.ref l0), some (.int l1), some (.int l2), none] [] g) (l0 : Nat) (l1 : Int32) (l2 : Int32) (g : GH) (h : B_En_learn_6 Γ K6 K l0 l1 l2 g) : JW Γ E 6 [some (.ref l0), some (.int l1), some (.int l2), none] [] g := by
  unfold B_En_learn_6 at h
  refine j_iload_n hE (by decide +kernel : decode cX0_learn 6 = .ok (.iload_n 2, 1)) rfl rfl ?_
  refine j_aload_n hE (by decide +kernel : decode cX0_learn 7 = .ok (.aload_n 0, 1)) rfl rfl ?_
  obtain ⟨hk, h⟩ := h
  obtain ⟨a1, ha, h⟩ := h
  refine j_getRn hE fg_X0_12 hk ha (by decide +kernel : decode cX0_learn 8 = .ok (.getfield 12, 3)) ?_
  obtain ⟨hk, h⟩ := h
  refine j_callV hE rfl cl_X0_72 cf_0 im_Jx4a65c_size_8abf5 se_Jx4a65c_size_8abf5 ⟨by omega, by omega⟩ (As := []) (rest := [.int l2]) rfl rfl (Nat.le_of_ble_eq_true rfl) hk (by decide +kernel : decode cX0_learn 11 = .ok (.invokevirtual 72, 3)) (mt_AL_size _ _ _ h) ?_
  rintro _ g2 ⟨x3, rfl, h⟩
  refine j_icmp_ge hE (by decide +kernel : decode cX0_learn 14 = .ok (.if_icmp .ge 68, 3)) (tgt := 82) (by decide) (fun q => ?_) (fun q => ?_)
  · have h := h.1 q
    exact j_vret hE (by decide +kernel : decode cX0_learn 82 = .ok (.return_, 1)) ⟨rfl, h⟩
  · have h := h.2 q
    refine j_aload_n hE (by decide +kernel : decode cX0_learn 17 = .ok (.aload_n 0, 1)) rfl rfl ?_
    obtain ⟨hk, h⟩ := h
    obtain ⟨a4, ha, h⟩ := h
    refine j_getRn hE fg_X0_12 hk ha (by decide +kernel : decode cX0_learn 18 = .ok (.getfield 12, 3)) ?_
    refine j_iload_n hE (by decide +kernel : decode cX0_learn 21 = .ok (.iload_n 2, 1)) rfl rfl ?_
    obtain ⟨hk, h⟩ := h
    refine j_callV hE rfl cl_X0_76 cf_0 im_Jx4a65c_get_915e3 se_Jx4a65c_get_915e3 ⟨by omega, by omega⟩ (As := [.int l2]) (rest := []) rfl rfl (Nat.le_of_ble_eq_true rfl) hk (by decide +kernel : decode cX0_learn 22 = .ok (.invokevirtual 76, 3)) (mt_AL_get _ _ _ _ h) ?_
    rintro _ g5 ⟨a6, rfl, h⟩
    obtain ⟨hk, h⟩ := h
    refine j_cast hE cf_8 ck_X0_80 hk (by decide +kernel : decode cX0_learn 25 = .ok (.checkcast 80, 3)) ?_
    refine j_astore_n hE (by decide +kernel : decode cX0_learn 28 = .ok (.astore_n 3, 1)) rfl (Nat.le_of_ble_eq_true rfl) rfl ?_
    refine j_aload_n hE (by decide +kernel : decode cX0_learn 29 = .ok (.aload_n 3, 1)) rfl rfl ?_
    obtain ⟨hk, h⟩ := h
    refine j_getI hE fg_X0_82 hk (by decide +kernel : decode cX0_learn 30 = .ok (.getfield 82, 3)) ?_
    refine j_iload_n hE (by decide +kernel : decode cX0_learn 33 = .ok (.iload_n 1, 1)) rfl rfl ?_
    refine j_icmp_gt hE (by decide +kernel : decode cX0_learn 34 = .ok (.if_icmp .gt 42, 3)) (tgt := 76) (by decide) (fun q => ?_) (fun q => ?_)
    · have h := h.1 q
      refine j_weak [some (.ref l0), some (.int l1), some (.int l2), none] ⟨rfl, ⟨rfl, ⟨rfl, trivial⟩⟩⟩ ?_
      exact S_En_learn_76 hE hK6 _ _ _ _ h
    · have h := h.2 q
      refine j_aload_n hE (by decide +kernel : decode cX0_learn 37 = .ok (.aload_n 3, 1)) rfl rfl ?_
      obtain ⟨hk, h⟩ := h
      refine j_getI hE fg_X0_83 hk (by decide +kernel : decode cX0_learn 38 = .ok (.getfield 83, 3)) ?_
      refine j_iconst hE (by decide +kernel : decode cX0_learn 41 = .ok (.iconst 0, 1)) (v := (0 : Int32)) (by decide) ?_
      refine j_bipush hE (by decide +kernel : decode cX0_learn 42 = .ok (.bipush 15, 2)) (v := (15 : Int32)) (by decide) ?_
      refine j_callSN hE rfl cl_X0_86 st_X10_isWithin ⟨by omega, by omega⟩ (As := [.int (Gi g5 1024 a6), .int (0 : Int32), .int (15 : Int32)]) (rest := []) rfl rfl (Nat.le_of_ble_eq_true rfl) (by decide +kernel : decode cX0_learn 44 = .ok (.invokestatic 86, 3)) (mt_PV_isWithin _ _ _ _ _ h) ?_
      rintro _ g7 ⟨x8, rfl, h⟩
      refine j_if_eq hE (by decide +kernel : decode cX0_learn 47 = .ok (.ifCond .eq 29, 3)) (tgt := 76) (by decide) (fun q => ?_) (fun q => ?_)
      · have h := h.1 q
        refine j_weak [some (.ref l0), some (.int l1), some (.int l2), none] ⟨rfl, ⟨rfl, ⟨rfl, trivial⟩⟩⟩ ?_
        exact S_En_learn_76 hE hK6 _ _ _ _ h
      · have h := h.2 q
        refine j_aload_n hE (by decide +kernel : decode cX0_learn 50 = .ok (.aload_n 0, 1)) rfl rfl ?_
        obtain ⟨hk, h⟩ := h
        obtain ⟨a9, ha, h⟩ := h
        refine j_getRn hE fg_X0_22 hk ha (by decide +kernel : decode cX0_learn 51 = .ok (.getfield 22, 3)) ?_
        refine j_aload_n hE (by decide +kernel : decode cX0_learn 54 = .ok (.aload_n 3, 1)) rfl rfl ?_
        obtain ⟨hk, h⟩ := h
        refine j_getI hE fg_X0_83 hk (by decide +kernel : decode cX0_learn 55 = .ok (.getfield 83, 3)) ?_
        refine j_aload_n hE (by decide +kernel : decode cX0_learn 58 = .ok (.aload_n 3, 1)) rfl rfl ?_
        obtain ⟨hk, h⟩ := h
        refine j_getI hE fg_X0_90 hk (by decide +kernel : decode cX0_learn 59 = .ok (.getfield 90, 3)) ?_
        obtain ⟨hk, hb, h⟩ := h
        obtain ⟨g10, hg⟩ : ∃ z, z = sA g7 (Co g7 a9) (Ow g7 a9) (Gi g7 1024 a6).toNatClampNeg (Gi g7 1025 a6) := ⟨_, rfl⟩; have h := h g10 hg
        refine j_iast hE hk hb (by decide +kernel : decode cX0_learn 62 = .ok (.iastore, 1)) ?_
        rw [← hg]
        refine j_aload_n hE (by decide +kernel : decode cX0_learn 63 = .ok (.aload_n 0, 1)) rfl rfl ?_
        obtain ⟨hk, h⟩ := h
        obtain ⟨a11, ha, h⟩ := h
        refine j_getRn hE fg_X0_26 hk ha (by decide +kernel : decode cX0_learn 64 = .ok (.getfield 26, 3)) ?_
        refine j_aload_n hE (by decide +kernel : decode cX0_learn 67 = .ok (.aload_n 3, 1)) rfl rfl ?_
        obtain ⟨hk, h⟩ := h
        refine j_getI hE fg_X0_83 hk (by decide +kernel : decode cX0_learn 68 = .ok (.getfield 83, 3)) ?_
        refine j_aload_n hE (by decide +kernel : decode cX0_learn 71 = .ok (.aload_n 3, 1)) rfl rfl ?_
        obtain ⟨hk, h⟩ := h
        refine j_getI hE fg_X0_93 hk (by decide +kernel : decode cX0_learn 72 = .ok (.getfield 93, 3)) ?_
        obtain ⟨hk, hb, h⟩ := h
        obtain ⟨g12, hg⟩ : ∃ z, z = sA g10 (Co g10 a11) (Ow g10 a11) (Gi g10 1024 a6).toNatClampNeg (Gi g10 1026 a6) := ⟨_, rfl⟩; have h := h g12 hg
        refine j_iast hE hk hb (by decide +kernel : decode cX0_learn 75 = .ok (.iastore, 1)) ?_
        rw [← hg]
        refine j_weak [some (.ref l0), some (.int l1), some (.int l2), none] ⟨rfl, ⟨rfl, ⟨rfl, trivial⟩⟩⟩ ?_
        exact S_En_learn_76 hE hK6 _ _ _ _ h
set_option maxRecDepth 100000 in
def B_En_learn_0 (Γ : GAM) (K6 : Nat → Int32 → Int32 → GH → Prop) (K : GH → Prop) (th : Nat) (p0 : Int32) (g : GH) : Prop :=
  Kd g th = 2 ∧ Sp_En_forget Γ th g (fun (g1 : GH) => K6 th p0 (0 : Int32) g1)
set_option maxHeartbeats 4000000 in
set_option maxRecDepth 100000 in
theorem S_En_learn_0 {Γ : GAM} {E : EV} {K : GH → Prop} (hE : GE Γ E cX0_learn 4 RX0 none 1 22 (fun r g' => r = none ∧ K g')) {K6 : Nat → Int32 → Int32 → GH → Prop} (hK6 : ∀ (l0 : Nat) (l1 : Int32) (l2 : Int32) (g : GH), K6 l0 l1 l2 g → JW Γ E 6 [some (.ref l0), some (.int l1), some (.int l2), none] [] g) (th : Nat) (p0 : Int32) (g : GH) (h : B_En_learn_0 Γ K6 K th p0 g) : JW Γ E 0 [some (.ref th), some (.int p0), none, none] [] g := by
  unfold B_En_learn_0 at h
  refine j_aload_n hE (by decide +kernel : decode cX0_learn 0 = .ok (.aload_n 0, 1)) rfl rfl ?_
  obtain ⟨hk, h⟩ := h
  refine j_callV hE rfl cl_X0_69 cf_1 im_X0_forget se_X0_forget ⟨by omega, by omega⟩ (As := []) (rest := []) rfl rfl (Nat.le_of_ble_eq_true rfl) hk (by decide +kernel : decode cX0_learn 1 = .ok (.invokevirtual 69, 3)) (mt_En_forget _ _ _ h) ?_
  rintro _ g1 ⟨rfl, h⟩
  refine j_iconst hE (by decide +kernel : decode cX0_learn 4 = .ok (.iconst 0, 1)) (v := (0 : Int32)) (by decide) ?_
  refine j_istore_n hE (by decide +kernel : decode cX0_learn 5 = .ok (.istore_n 2, 1)) rfl (Nat.le_of_ble_eq_true rfl) rfl ?_
  exact hK6 _ _ _ _ h
set_option maxHeartbeats 4000000 in
set_option maxRecDepth 100000 in
theorem rl_En_learn {Γ : GAM} {l : Launch} {th : Nat} {p0 : Int32} {g : GH} {K : GH → Prop} (I6 : Nat → Nat → Int32 → Int32 → GH → Prop) (hh6 : ∀ n (l0 : Nat) (l1 : Int32) (l2 : Int32) (g : GH), I6 n l0 l1 l2 g → B_En_learn_6 Γ (fun l0 l1 l2 g => ∃ m, m < n ∧ I6 m l0 l1 l2 g) K l0 l1 l2 g) (h0 : B_En_learn_0 Γ (fun l0 l1 l2 g => ∃ m, I6 m l0 l1 l2 g) K th p0 g) : MetA Γ l yX0_learn cX0_learn 4 none 1 22 [.ref th, .int p0] g (fun r g' => r = none ∧ K g') := by
  refine MetA.introL (Lx := [some (.ref th), some (.int p0), none, none]) (by decide) (Nat.le_of_ble_eq_true rfl) rfl rfl ?_
  intro E hEl hE hnm
  have hall : ∀ n, (∀ (l0 : Nat) (l1 : Int32) (l2 : Int32) (g : GH), I6 n l0 l1 l2 g → JW Γ E 6 [some (.ref l0), some (.int l1), some (.int l2), none] [] g) := by
    intro n
    induction n using Nat.strongRecOn with
    | ind n ih =>
      exact fun l0 l1 l2 g hi => S_En_learn_6 hE (fun l0 l1 l2 g hm => by obtain ⟨m, hm, h⟩ := hm; exact (ih m hm) l0 l1 l2 g h) l0 l1 l2 g (hh6 n l0 l1 l2 g hi)
  exact S_En_learn_0 hE (fun l0 l1 l2 g hm => by obtain ⟨m, h⟩ := hm; exact (hall m) l0 l1 l2 g h) th p0 g h0
-- the walk of En_isCounted
set_option maxRecDepth 100000 in
def B_En_isCounted_27 (Γ : GAM) (K : Int32 → GH → Prop) (s0 : Int32) (g : GH) : Prop :=
  ((s0 = 0 ∨ s0 = 1) ∧ K s0 g)
set_option maxHeartbeats 4000000 in
set_option maxRecDepth 100000 in
theorem S_En_isCounted_27 {Γ : GAM} {E : EV} {K : Int32 → GH → Prop} (hE : GE Γ E cX0_isCounted 1 RX0 (some (.boolean)) 0 0 (fun r g' => ∃ x, r = some (.int x) ∧ K x g')) (s0 : Int32) (g : GH) (h : B_En_isCounted_27 Γ K s0 g) : JW Γ E 27 [none] [.int s0] g := by
  unfold B_En_isCounted_27 at h
  exact j_zret hE h.1 (by decide +kernel : decode cX0_isCounted 27 = .ok (.ireturn, 1)) ⟨_, rfl, h.2⟩
set_option maxRecDepth 100000 in
def B_En_isCounted_26 (Γ : GAM) (K : Int32 → GH → Prop)  (g : GH) : Prop :=
  B_En_isCounted_27 Γ K (0 : Int32) g
set_option maxHeartbeats 4000000 in
set_option maxRecDepth 100000 in
theorem S_En_isCounted_26 {Γ : GAM} {E : EV} {K : Int32 → GH → Prop} (hE : GE Γ E cX0_isCounted 1 RX0 (some (.boolean)) 0 0 (fun r g' => ∃ x, r = some (.int x) ∧ K x g'))  (g : GH) (h : B_En_isCounted_26 Γ K  g) : JW Γ E 26 [none] [] g := by
  unfold B_En_isCounted_26 at h
  refine j_iconst hE (by decide +kernel : decode cX0_isCounted 26 = .ok (.iconst 0, 1)) (v := (0 : Int32)) (by decide) ?_
  exact S_En_isCounted_27 hE _ _ h
set_option maxRecDepth 100000 in
def B_En_isCounted_0 (Γ : GAM) (K : Int32 → GH → Prop) (th : Nat) (g : GH) : Prop :=
  Kd g th = 2 ∧ ((¬ ((Gi g 140 th) = (2 : Int32)) → B_En_isCounted_26 Γ K g) ∧ ((Gi g 140 th) = (2 : Int32) → Kd g th = 2 ∧ ∃ a1 : Nat, Gr g 129 th = some a1 ∧ Kd g a1 = 11 ∧ Kd g th = 2 ∧ ((¬ ((Gi g 1287 a1) = (Gi g 128 th)) → B_En_isCounted_26 Γ K g) ∧ ((Gi g 1287 a1) = (Gi g 128 th) → B_En_isCounted_27 Γ K (1 : Int32) g))))
set_option maxHeartbeats 4000000 in
set_option maxRecDepth 100000 in
theorem S_En_isCounted_0 {Γ : GAM} {E : EV} {K : Int32 → GH → Prop} (hE : GE Γ E cX0_isCounted 1 RX0 (some (.boolean)) 0 0 (fun r g' => ∃ x, r = some (.int x) ∧ K x g')) (th : Nat) (g : GH) (h : B_En_isCounted_0 Γ K th g) : JW Γ E 0 [some (.ref th)] [] g := by
  unfold B_En_isCounted_0 at h
  refine j_aload_n hE (by decide +kernel : decode cX0_isCounted 0 = .ok (.aload_n 0, 1)) rfl rfl ?_
  obtain ⟨hk, h⟩ := h
  refine j_getI hE fg_X0_35 hk (by decide +kernel : decode cX0_isCounted 1 = .ok (.getfield 35, 3)) ?_
  refine j_iconst hE (by decide +kernel : decode cX0_isCounted 4 = .ok (.iconst 2, 1)) (v := (2 : Int32)) (by decide) ?_
  refine j_icmp_ne hE (by decide +kernel : decode cX0_isCounted 5 = .ok (.if_icmp .ne 21, 3)) (tgt := 26) (by decide) (fun q => ?_) (fun q => ?_)
  · have h := h.1 q
    refine j_weak [none] trivial ?_
    exact S_En_isCounted_26 hE _ h
  · have h := h.2 q
    refine j_aload_n hE (by decide +kernel : decode cX0_isCounted 8 = .ok (.aload_n 0, 1)) rfl rfl ?_
    obtain ⟨hk, h⟩ := h
    obtain ⟨a1, ha, h⟩ := h
    refine j_getRn hE fg_X0_47 hk ha (by decide +kernel : decode cX0_isCounted 9 = .ok (.getfield 47, 3)) ?_
    obtain ⟨hk, h⟩ := h
    refine j_getI hE fg_X0_96 hk (by decide +kernel : decode cX0_isCounted 12 = .ok (.getfield 96, 3)) ?_
    refine j_aload_n hE (by decide +kernel : decode cX0_isCounted 15 = .ok (.aload_n 0, 1)) rfl rfl ?_
    obtain ⟨hk, h⟩ := h
    refine j_getI hE fg_X0_44 hk (by decide +kernel : decode cX0_isCounted 16 = .ok (.getfield 44, 3)) ?_
    refine j_icmp_ne hE (by decide +kernel : decode cX0_isCounted 19 = .ok (.if_icmp .ne 7, 3)) (tgt := 26) (by decide) (fun q => ?_) (fun q => ?_)
    · have h := h.1 q
      refine j_weak [none] trivial ?_
      exact S_En_isCounted_26 hE _ h
    · have h := h.2 q
      refine j_iconst hE (by decide +kernel : decode cX0_isCounted 22 = .ok (.iconst 1, 1)) (v := (1 : Int32)) (by decide) ?_
      refine j_goto hE (by decide +kernel : decode cX0_isCounted 23 = .ok (.goto 4, 3)) (tgt := 27) (by decide) ?_
      refine j_weak [none] trivial ?_
      exact S_En_isCounted_27 hE _ _ h
set_option maxHeartbeats 4000000 in
set_option maxRecDepth 100000 in
theorem rl_En_isCounted {Γ : GAM} {l : Launch} {th : Nat} {g : GH} {K : Int32 → GH → Prop} (h0 : B_En_isCounted_0 Γ K th g) : MetA Γ l yX0_isCounted cX0_isCounted 1 (some (.boolean)) 0 0 [.ref th] g (fun r g' => ∃ x, r = some (.int x) ∧ K x g') := by
  refine MetA.introL (Lx := [some (.ref th)]) (by decide) (Nat.le_of_ble_eq_true rfl) rfl rfl ?_
  intro E hEl hE hnm
  exact S_En_isCounted_0 hE th g h0
def Sp_Vo_shireOn (Γ : GAM) (q0 : Nat) (q1 : Int32) (q2 : Int32) (g : GH) (K : Int32 → GH → Prop) : Prop := False
theorem mt_Vo_shireOn {Γ : GAM} {l : Launch} (q0 : Nat) (q1 : Int32) (q2 : Int32) (g : GH) (K : Int32 → GH → Prop) (h : Sp_Vo_shireOn Γ q0 q1 q2 g K) : MetA Γ l yX9_shireOn cX9_shireOn 7 (some (.int)) 0 0 [.ref q0, .int q1, .int q2] g (fun r g' => ∃ x, r = some (.int x) ∧ K x g') := h.elim
-- the walk of En_shireOf
set_option maxRecDepth 100000 in
def B_En_shireOf_23 (Γ : GAM) (K : Int32 → GH → Prop) (l1 : Int32) (s0 : Int32) (s1 : Nat) (g : GH) : Prop :=
  Kd g s1 = 11 ∧ Sp_Vo_shireOn Γ s1 s0 l1 g (fun (x2 : Int32) (g1 : GH) => K x2 g1)
set_option maxHeartbeats 4000000 in
set_option maxRecDepth 100000 in
theorem S_En_shireOf_23 {Γ : GAM} {E : EV} {K : Int32 → GH → Prop} (hE : GE Γ E cX0_shireOf 2 RX0 (some (.int)) 1 26 (fun r g' => ∃ x, r = some (.int x) ∧ K x g')) (l1 : Int32) (s0 : Int32) (s1 : Nat) (g : GH) (h : B_En_shireOf_23 Γ K l1 s0 s1 g) : JW Γ E 23 [none, some (.int l1)] [.int s0, .ref s1] g := by
  unfold B_En_shireOf_23 at h
  refine j_iload_n hE (by decide +kernel : decode cX0_shireOf 23 = .ok (.iload_n 1, 1)) rfl rfl ?_
  obtain ⟨hk, h⟩ := h
  refine j_callV hE rfl cl_X0_101 cf_10 im_X9_shireOn se_X9_shireOn ⟨by omega, by omega⟩ (As := [.int s0, .int l1]) (rest := []) rfl rfl (Nat.le_of_ble_eq_true rfl) hk (by decide +kernel : decode cX0_shireOf 24 = .ok (.invokevirtual 101, 3)) (mt_Vo_shireOn _ _ _ _ _ h) ?_
  rintro _ g1 ⟨x2, rfl, h⟩
  exact j_iret hE (by decide +kernel : decode cX0_shireOf 27 = .ok (.ireturn, 1)) ⟨_, rfl, h⟩
set_option maxRecDepth 100000 in
def B_En_shireOf_0 (Γ : GAM) (K : Int32 → GH → Prop) (th : Nat) (p0 : Int32) (g : GH) : Prop :=
  Kd g th = 2 ∧ ∃ a1 : Nat, Gr g 129 th = some a1 ∧ Kd g th = 2 ∧ ((¬ ((Gi g 137 th) = (-1 : Int32)) → Kd g th = 2 ∧ B_En_shireOf_23 Γ K p0 (Gi g 137 th) a1 g) ∧ ((Gi g 137 th) = (-1 : Int32) → Kd g th = 2 ∧ B_En_shireOf_23 Γ K p0 (Gi g 130 th) a1 g))
set_option maxHeartbeats 4000000 in
set_option maxRecDepth 100000 in
theorem S_En_shireOf_0 {Γ : GAM} {E : EV} {K : Int32 → GH → Prop} (hE : GE Γ E cX0_shireOf 2 RX0 (some (.int)) 1 26 (fun r g' => ∃ x, r = some (.int x) ∧ K x g')) (th : Nat) (p0 : Int32) (g : GH) (h : B_En_shireOf_0 Γ K th p0 g) : JW Γ E 0 [some (.ref th), some (.int p0)] [] g := by
  unfold B_En_shireOf_0 at h
  refine j_aload_n hE (by decide +kernel : decode cX0_shireOf 0 = .ok (.aload_n 0, 1)) rfl rfl ?_
  obtain ⟨hk, h⟩ := h
  obtain ⟨a1, ha, h⟩ := h
  refine j_getRn hE fg_X0_47 hk ha (by decide +kernel : decode cX0_shireOf 1 = .ok (.getfield 47, 3)) ?_
  refine j_aload_n hE (by decide +kernel : decode cX0_shireOf 4 = .ok (.aload_n 0, 1)) rfl rfl ?_
  obtain ⟨hk, h⟩ := h
  refine j_getI hE fg_X0_29 hk (by decide +kernel : decode cX0_shireOf 5 = .ok (.getfield 29, 3)) ?_
  refine j_iconst hE (by decide +kernel : decode cX0_shireOf 8 = .ok (.iconst (-1), 1)) (v := (-1 : Int32)) (by decide) ?_
  refine j_icmp_ne hE (by decide +kernel : decode cX0_shireOf 9 = .ok (.if_icmp .ne 10, 3)) (tgt := 19) (by decide) (fun q => ?_) (fun q => ?_)
  · have h := h.1 q
    refine j_aload_n hE (by decide +kernel : decode cX0_shireOf 19 = .ok (.aload_n 0, 1)) rfl rfl ?_
    obtain ⟨hk, h⟩ := h
    refine j_getI hE fg_X0_29 hk (by decide +kernel : decode cX0_shireOf 20 = .ok (.getfield 29, 3)) ?_
    refine j_weak [none, some (.int p0)] ⟨rfl, trivial⟩ ?_
    exact S_En_shireOf_23 hE _ _ _ _ h
  · have h := h.2 q
    refine j_aload_n hE (by decide +kernel : decode cX0_shireOf 12 = .ok (.aload_n 0, 1)) rfl rfl ?_
    obtain ⟨hk, h⟩ := h
    refine j_getI hE fg_X0_51 hk (by decide +kernel : decode cX0_shireOf 13 = .ok (.getfield 51, 3)) ?_
    refine j_goto hE (by decide +kernel : decode cX0_shireOf 16 = .ok (.goto 7, 3)) (tgt := 23) (by decide) ?_
    refine j_weak [none, some (.int p0)] ⟨rfl, trivial⟩ ?_
    exact S_En_shireOf_23 hE _ _ _ _ h
set_option maxHeartbeats 4000000 in
set_option maxRecDepth 100000 in
theorem rl_En_shireOf {Γ : GAM} {l : Launch} {th : Nat} {p0 : Int32} {g : GH} {K : Int32 → GH → Prop} (h0 : B_En_shireOf_0 Γ K th p0 g) : MetA Γ l yX0_shireOf cX0_shireOf 2 (some (.int)) 1 26 [.ref th, .int p0] g (fun r g' => ∃ x, r = some (.int x) ∧ K x g') := by
  refine MetA.introL (Lx := [some (.ref th), some (.int p0)]) (by decide) (Nat.le_of_ble_eq_true rfl) rfl rfl ?_
  intro E hEl hE hnm
  exact S_En_shireOf_0 hE th p0 g h0
-- the walk of En_unlikeFigures
set_option maxRecDepth 100000 in
def B_En_unlikeFigures_59 (Γ : GAM) (K35 : Int32 → Int32 → Int32 → Int32 → GH → Prop) (K : Int32 → GH → Prop) (l1 : Int32) (l2 : Int32) (l4 : Int32) (s0 : Int32) (s1 : Int32) (g : GH) : Prop :=
  ∀ x1 : Int32, x1 = (s1 + s0) → ∀ x2 : Int32, x2 = (l1 / (10 : Int32)) → ∀ x3 : Int32, x3 = (l2 / (10 : Int32)) → K35 x2 x3 x1 (l4 + (1 : Int32)) g
set_option maxHeartbeats 4000000 in
set_option maxRecDepth 100000 in
theorem S_En_unlikeFigures_59 {Γ : GAM} {E : EV} {K : Int32 → GH → Prop} (hE : GE Γ E cX0_unlikeFigures 5 RX0 (some (.int)) 0 0 (fun r g' => ∃ x, r = some (.int x) ∧ K x g')) {K35 : Int32 → Int32 → Int32 → Int32 → GH → Prop} (hK35 : ∀ (l1 : Int32) (l2 : Int32) (l3 : Int32) (l4 : Int32) (g : GH), K35 l1 l2 l3 l4 g → JW Γ E 35 [none, some (.int l1), some (.int l2), some (.int l3), some (.int l4)] [] g) (l1 : Int32) (l2 : Int32) (l4 : Int32) (s0 : Int32) (s1 : Int32) (g : GH) (h : B_En_unlikeFigures_59 Γ K35 K l1 l2 l4 s0 s1 g) : JW Γ E 59 [none, some (.int l1), some (.int l2), none, some (.int l4)] [.int s0, .int s1] g := by
  unfold B_En_unlikeFigures_59 at h
  refine j_iadd hE (by decide +kernel : decode cX0_unlikeFigures 59 = .ok (.iadd, 1)) ?_
  obtain ⟨x1, hx⟩ : ∃ z, z = (s1 + s0) := ⟨_, rfl⟩; have h := h x1 hx; rw [← hx]
  refine j_istore_n hE (by decide +kernel : decode cX0_unlikeFigures 60 = .ok (.istore_n 3, 1)) rfl (Nat.le_of_ble_eq_true rfl) rfl ?_
  refine j_iload_n hE (by decide +kernel : decode cX0_unlikeFigures 61 = .ok (.iload_n 1, 1)) rfl rfl ?_
  refine j_bipush hE (by decide +kernel : decode cX0_unlikeFigures 62 = .ok (.bipush 10, 2)) (v := (10 : Int32)) (by decide) ?_
  refine j_idiv hE (by decide +kernel : decode cX0_unlikeFigures 64 = .ok (.idiv, 1)) (by decide) ?_
  obtain ⟨x2, hx⟩ : ∃ z, z = (l1 / (10 : Int32)) := ⟨_, rfl⟩; have h := h x2 hx; rw [← hx]
  refine j_istore_n hE (by decide +kernel : decode cX0_unlikeFigures 65 = .ok (.istore_n 1, 1)) rfl (Nat.le_of_ble_eq_true rfl) rfl ?_
  refine j_iload_n hE (by decide +kernel : decode cX0_unlikeFigures 66 = .ok (.iload_n 2, 1)) rfl rfl ?_
  refine j_bipush hE (by decide +kernel : decode cX0_unlikeFigures 67 = .ok (.bipush 10, 2)) (v := (10 : Int32)) (by decide) ?_
  refine j_idiv hE (by decide +kernel : decode cX0_unlikeFigures 69 = .ok (.idiv, 1)) (by decide) ?_
  obtain ⟨x3, hx⟩ : ∃ z, z = (l2 / (10 : Int32)) := ⟨_, rfl⟩; have h := h x3 hx; rw [← hx]
  refine j_istore_n hE (by decide +kernel : decode cX0_unlikeFigures 70 = .ok (.istore_n 2, 1)) rfl (Nat.le_of_ble_eq_true rfl) rfl ?_
  refine j_iinc hE (by decide +kernel : decode cX0_unlikeFigures 71 = .ok (.iinc 4 1, 3)) (v := (1 : Int32)) (by decide) rfl (Nat.le_of_ble_eq_true rfl) rfl ?_
  refine j_goto hE (by decide +kernel : decode cX0_unlikeFigures 74 = .ok (.goto (-39), 3)) (tgt := 35) (by decide) ?_
  exact hK35 _ _ _ _ _ h
set_option maxRecDepth 100000 in
def B_En_unlikeFigures_35 (Γ : GAM) (K35 : Int32 → Int32 → Int32 → Int32 → GH → Prop) (K : Int32 → GH → Prop) (l1 : Int32) (l2 : Int32) (l3 : Int32) (l4 : Int32) (g : GH) : Prop :=
  (((8 : Int32) ≤ l4 → K l3 g) ∧ (¬ ((8 : Int32) ≤ l4) → ((¬ ((l1 - l1 / (10 : Int32) * (10 : Int32)) = (l2 - l2 / (10 : Int32) * (10 : Int32))) → B_En_unlikeFigures_59 Γ K35 K l1 l2 l4 (1 : Int32) l3 g) ∧ ((l1 - l1 / (10 : Int32) * (10 : Int32)) = (l2 - l2 / (10 : Int32) * (10 : Int32)) → B_En_unlikeFigures_59 Γ K35 K l1 l2 l4 (0 : Int32) l3 g))))
set_option maxHeartbeats 4000000 in
set_option maxRecDepth 100000 in
theorem S_En_unlikeFigures_35 {Γ : GAM} {E : EV} {K : Int32 → GH → Prop} (hE : GE Γ E cX0_unlikeFigures 5 RX0 (some (.int)) 0 0 (fun r g' => ∃ x, r = some (.int x) ∧ K x g')) {K35 : Int32 → Int32 → Int32 → Int32 → GH → Prop} (hK35 : ∀ (l1 : Int32) (l2 : Int32) (l3 : Int32) (l4 : Int32) (g : GH), K35 l1 l2 l3 l4 g → JW Γ E 35 [none, some (.int l1), some (.int l2), some (.int l3), some (.int l4)] [] g) (l1 : Int32) (l2 : Int32) (l3 : Int32) (l4 : Int32) (g : GH) (h : B_En_unlikeFigures_35 Γ K35 K l1 l2 l3 l4 g) : JW Γ E 35 [none, some (.int l1), some (.int l2), some (.int l3), some (.int l4)] [] g := by
  unfold B_En_unlikeFigures_35 at h
  refine j_iload hE (by decide +kernel : decode cX0_unlikeFigures 35 = .ok (.iload 4, 2)) rfl ?_
  refine j_bipush hE (by decide +kernel : decode cX0_unlikeFigures 37 = .ok (.bipush 8, 2)) (v := (8 : Int32)) (by decide) ?_
  refine j_icmp_ge hE (by decide +kernel : decode cX0_unlikeFigures 39 = .ok (.if_icmp .ge 38, 3)) (tgt := 77) (by decide) (fun q => ?_) (fun q => ?_)
  · have h := h.1 q
    refine j_iload_n hE (by decide +kernel : decode cX0_unlikeFigures 77 = .ok (.iload_n 3, 1)) rfl rfl ?_
    exact j_iret hE (by decide +kernel : decode cX0_unlikeFigures 78 = .ok (.ireturn, 1)) ⟨_, rfl, h⟩
  · have h := h.2 q
    refine j_iload_n hE (by decide +kernel : decode cX0_unlikeFigures 42 = .ok (.iload_n 3, 1)) rfl rfl ?_
    refine j_iload_n hE (by decide +kernel : decode cX0_unlikeFigures 43 = .ok (.iload_n 1, 1)) rfl rfl ?_
    refine j_bipush hE (by decide +kernel : decode cX0_unlikeFigures 44 = .ok (.bipush 10, 2)) (v := (10 : Int32)) (by decide) ?_
    refine j_irem hE (by decide +kernel : decode cX0_unlikeFigures 46 = .ok (.irem, 1)) (by decide) ?_
    refine j_iload_n hE (by decide +kernel : decode cX0_unlikeFigures 47 = .ok (.iload_n 2, 1)) rfl rfl ?_
    refine j_bipush hE (by decide +kernel : decode cX0_unlikeFigures 48 = .ok (.bipush 10, 2)) (v := (10 : Int32)) (by decide) ?_
    refine j_irem hE (by decide +kernel : decode cX0_unlikeFigures 50 = .ok (.irem, 1)) (by decide) ?_
    refine j_icmp_ne hE (by decide +kernel : decode cX0_unlikeFigures 51 = .ok (.if_icmp .ne 7, 3)) (tgt := 58) (by decide) (fun q => ?_) (fun q => ?_)
    · have h := h.1 q
      refine j_iconst hE (by decide +kernel : decode cX0_unlikeFigures 58 = .ok (.iconst 1, 1)) (v := (1 : Int32)) (by decide) ?_
      refine j_weak [none, some (.int l1), some (.int l2), none, some (.int l4)] ⟨rfl, ⟨rfl, ⟨rfl, trivial⟩⟩⟩ ?_
      exact S_En_unlikeFigures_59 hE hK35 _ _ _ _ _ _ h
    · have h := h.2 q
      refine j_iconst hE (by decide +kernel : decode cX0_unlikeFigures 54 = .ok (.iconst 0, 1)) (v := (0 : Int32)) (by decide) ?_
      refine j_goto hE (by decide +kernel : decode cX0_unlikeFigures 55 = .ok (.goto 4, 3)) (tgt := 59) (by decide) ?_
      refine j_weak [none, some (.int l1), some (.int l2), none, some (.int l4)] ⟨rfl, ⟨rfl, ⟨rfl, trivial⟩⟩⟩ ?_
      exact S_En_unlikeFigures_59 hE hK35 _ _ _ _ _ _ h
set_option maxRecDepth 100000 in
def B_En_unlikeFigures_0 (Γ : GAM) (K35 : Int32 → Int32 → Int32 → Int32 → GH → Prop) (K : Int32 → GH → Prop) (th : Nat) (g : GH) : Prop :=
  Kd g th = 2 ∧ ∃ a1 : Nat, Gr g 136 th = some a1 ∧ Kd g a1 = 20 ∧ inB (9 : Int32) (Ln g a1) ∧ ((¬ ((Ia g (Co g a1) (Ow g a1) (9 : Int32).toNatClampNeg) = (-1 : Int32)) → Kd g th = 2 ∧ ∃ a2 : Nat, Gr g 136 th = some a2 ∧ Kd g a2 = 20 ∧ inB (9 : Int32) (Ln g a2) ∧ ∀ x3 : Int32, x3 = (Ia g (Co g a2) (Ow g a2) (9 : Int32).toNatClampNeg) → Kd g th = 2 ∧ ∃ a4 : Nat, Gr g 129 th = some a4 ∧ Kd g a4 = 11 ∧ ∀ x5 : Int32, x5 = (Gi g 1282 a4) → K35 x3 x5 (0 : Int32) (0 : Int32) g) ∧ ((Ia g (Co g a1) (Ow g a1) (9 : Int32).toNatClampNeg) = (-1 : Int32) → K (9 : Int32) g))
set_option maxHeartbeats 4000000 in
set_option maxRecDepth 100000 in
theorem S_En_unlikeFigures_0 {Γ : GAM} {E : EV} {K : Int32 → GH → Prop} (hE : GE Γ E cX0_unlikeFigures 5 RX0 (some (.int)) 0 0 (fun r g' => ∃ x, r = some (.int x) ∧ K x g')) {K35 : Int32 → Int32 → Int32 → Int32 → GH → Prop} (hK35 : ∀ (l1 : Int32) (l2 : Int32) (l3 : Int32) (l4 : Int32) (g : GH), K35 l1 l2 l3 l4 g → JW Γ E 35 [none, some (.int l1), some (.int l2), some (.int l3), some (.int l4)] [] g) (th : Nat) (g : GH) (h : B_En_unlikeFigures_0 Γ K35 K th g) : JW Γ E 0 [some (.ref th), none, none, none, none] [] g := by
  unfold B_En_unlikeFigures_0 at h
  refine j_aload_n hE (by decide +kernel : decode cX0_unlikeFigures 0 = .ok (.aload_n 0, 1)) rfl rfl ?_
  obtain ⟨hk, h⟩ := h
  obtain ⟨a1, ha, h⟩ := h
  refine j_getRn hE fg_X0_26 hk ha (by decide +kernel : decode cX0_unlikeFigures 1 = .ok (.getfield 26, 3)) ?_
  refine j_bipush hE (by decide +kernel : decode cX0_unlikeFigures 4 = .ok (.bipush 9, 2)) (v := (9 : Int32)) (by decide) ?_
  obtain ⟨hk, hb, h⟩ := h
  refine j_iald hE hk hb (by decide +kernel : decode cX0_unlikeFigures 6 = .ok (.iaload, 1)) ?_
  refine j_iconst hE (by decide +kernel : decode cX0_unlikeFigures 7 = .ok (.iconst (-1), 1)) (v := (-1 : Int32)) (by decide) ?_
  refine j_icmp_ne hE (by decide +kernel : decode cX0_unlikeFigures 8 = .ok (.if_icmp .ne 6, 3)) (tgt := 14) (by decide) (fun q => ?_) (fun q => ?_)
  · have h := h.1 q
    refine j_aload_n hE (by decide +kernel : decode cX0_unlikeFigures 14 = .ok (.aload_n 0, 1)) rfl rfl ?_
    obtain ⟨hk, h⟩ := h
    obtain ⟨a2, ha, h⟩ := h
    refine j_getRn hE fg_X0_26 hk ha (by decide +kernel : decode cX0_unlikeFigures 15 = .ok (.getfield 26, 3)) ?_
    refine j_bipush hE (by decide +kernel : decode cX0_unlikeFigures 18 = .ok (.bipush 9, 2)) (v := (9 : Int32)) (by decide) ?_
    obtain ⟨hk, hb, h⟩ := h
    refine j_iald hE hk hb (by decide +kernel : decode cX0_unlikeFigures 20 = .ok (.iaload, 1)) ?_
    obtain ⟨x3, hx⟩ : ∃ z, z = (Ia g (Co g a2) (Ow g a2) (9 : Int32).toNatClampNeg) := ⟨_, rfl⟩; have h := h x3 hx; rw [← hx]
    refine j_istore_n hE (by decide +kernel : decode cX0_unlikeFigures 21 = .ok (.istore_n 1, 1)) rfl (Nat.le_of_ble_eq_true rfl) rfl ?_
    refine j_aload_n hE (by decide +kernel : decode cX0_unlikeFigures 22 = .ok (.aload_n 0, 1)) rfl rfl ?_
    obtain ⟨hk, h⟩ := h
    obtain ⟨a4, ha, h⟩ := h
    refine j_getRn hE fg_X0_47 hk ha (by decide +kernel : decode cX0_unlikeFigures 23 = .ok (.getfield 47, 3)) ?_
    obtain ⟨hk, h⟩ := h
    refine j_getI hE fg_X0_105 hk (by decide +kernel : decode cX0_unlikeFigures 26 = .ok (.getfield 105, 3)) ?_
    obtain ⟨x5, hx⟩ : ∃ z, z = (Gi g 1282 a4) := ⟨_, rfl⟩; have h := h x5 hx; rw [← hx]
    refine j_istore_n hE (by decide +kernel : decode cX0_unlikeFigures 29 = .ok (.istore_n 2, 1)) rfl (Nat.le_of_ble_eq_true rfl) rfl ?_
    refine j_iconst hE (by decide +kernel : decode cX0_unlikeFigures 30 = .ok (.iconst 0, 1)) (v := (0 : Int32)) (by decide) ?_
    refine j_istore_n hE (by decide +kernel : decode cX0_unlikeFigures 31 = .ok (.istore_n 3, 1)) rfl (Nat.le_of_ble_eq_true rfl) rfl ?_
    refine j_iconst hE (by decide +kernel : decode cX0_unlikeFigures 32 = .ok (.iconst 0, 1)) (v := (0 : Int32)) (by decide) ?_
    refine j_istore hE (by decide +kernel : decode cX0_unlikeFigures 33 = .ok (.istore 4, 2)) (Nat.le_of_ble_eq_true rfl) rfl ?_
    refine j_weak [none, some (.int x3), some (.int x5), some (.int (0 : Int32)), some (.int (0 : Int32))] ⟨rfl, ⟨rfl, ⟨rfl, ⟨rfl, trivial⟩⟩⟩⟩ ?_
    exact hK35 _ _ _ _ _ h
  · have h := h.2 q
    refine j_bipush hE (by decide +kernel : decode cX0_unlikeFigures 11 = .ok (.bipush 9, 2)) (v := (9 : Int32)) (by decide) ?_
    exact j_iret hE (by decide +kernel : decode cX0_unlikeFigures 13 = .ok (.ireturn, 1)) ⟨_, rfl, h⟩
set_option maxHeartbeats 4000000 in
set_option maxRecDepth 100000 in
theorem rl_En_unlikeFigures {Γ : GAM} {l : Launch} {th : Nat} {g : GH} {K : Int32 → GH → Prop} (I35 : Nat → Int32 → Int32 → Int32 → Int32 → GH → Prop) (hh35 : ∀ n (l1 : Int32) (l2 : Int32) (l3 : Int32) (l4 : Int32) (g : GH), I35 n l1 l2 l3 l4 g → B_En_unlikeFigures_35 Γ (fun l1 l2 l3 l4 g => ∃ m, m < n ∧ I35 m l1 l2 l3 l4 g) K l1 l2 l3 l4 g) (h0 : B_En_unlikeFigures_0 Γ (fun l1 l2 l3 l4 g => ∃ m, I35 m l1 l2 l3 l4 g) K th g) : MetA Γ l yX0_unlikeFigures cX0_unlikeFigures 5 (some (.int)) 0 0 [.ref th] g (fun r g' => ∃ x, r = some (.int x) ∧ K x g') := by
  refine MetA.introL (Lx := [some (.ref th), none, none, none, none]) (by decide) (Nat.le_of_ble_eq_true rfl) rfl rfl ?_
  intro E hEl hE hnm
  have hall : ∀ n, (∀ (l1 : Int32) (l2 : Int32) (l3 : Int32) (l4 : Int32) (g : GH), I35 n l1 l2 l3 l4 g → JW Γ E 35 [none, some (.int l1), some (.int l2), some (.int l3), some (.int l4)] [] g) := by
    intro n
    induction n using Nat.strongRecOn with
    | ind n ih =>
      exact fun l1 l2 l3 l4 g hi => S_En_unlikeFigures_35 hE (fun l1 l2 l3 l4 g hm => by obtain ⟨m, hm, h⟩ := hm; exact (ih m hm) l1 l2 l3 l4 g h) l1 l2 l3 l4 g (hh35 n l1 l2 l3 l4 g hi)
  exact S_En_unlikeFigures_0 hE (fun l1 l2 l3 l4 g hm => by obtain ⟨m, h⟩ := hm; exact (hall m) l1 l2 l3 l4 g h) th g h0
-- the walk of En_handsThatTold
set_option maxRecDepth 100000 in
def B_En_handsThatTold_29 (Γ : GAM) (K4 : Nat → Int32 → Int32 → Int32 → GH → Prop) (K : Int32 → GH → Prop) (l0 : Nat) (l1 : Int32) (l3 : Int32) (s0 : Int32) (s1 : Int32) (g : GH) : Prop :=
  ∀ x1 : Int32, x1 = (s1 + s0) → K4 l0 l1 x1 (l3 + (1 : Int32)) g
set_option maxHeartbeats 4000000 in
set_option maxRecDepth 100000 in
theorem S_En_handsThatTold_29 {Γ : GAM} {E : EV} {K : Int32 → GH → Prop} (hE : GE Γ E cX0_handsThatTold 4 RX0 (some (.int)) 0 0 (fun r g' => ∃ x, r = some (.int x) ∧ K x g')) {K4 : Nat → Int32 → Int32 → Int32 → GH → Prop} (hK4 : ∀ (l0 : Nat) (l1 : Int32) (l2 : Int32) (l3 : Int32) (g : GH), K4 l0 l1 l2 l3 g → JW Γ E 4 [some (.ref l0), some (.int l1), some (.int l2), some (.int l3)] [] g) (l0 : Nat) (l1 : Int32) (l3 : Int32) (s0 : Int32) (s1 : Int32) (g : GH) (h : B_En_handsThatTold_29 Γ K4 K l0 l1 l3 s0 s1 g) : JW Γ E 29 [some (.ref l0), some (.int l1), none, some (.int l3)] [.int s0, .int s1] g := by
  unfold B_En_handsThatTold_29 at h
  refine j_iadd hE (by decide +kernel : decode cX0_handsThatTold 29 = .ok (.iadd, 1)) ?_
  obtain ⟨x1, hx⟩ : ∃ z, z = (s1 + s0) := ⟨_, rfl⟩; have h := h x1 hx; rw [← hx]
  refine j_istore_n hE (by decide +kernel : decode cX0_handsThatTold 30 = .ok (.istore_n 2, 1)) rfl (Nat.le_of_ble_eq_true rfl) rfl ?_
  refine j_iinc hE (by decide +kernel : decode cX0_handsThatTold 31 = .ok (.iinc 3 1, 3)) (v := (1 : Int32)) (by decide) rfl (Nat.le_of_ble_eq_true rfl) rfl ?_
  refine j_goto hE (by decide +kernel : decode cX0_handsThatTold 34 = .ok (.goto (-30), 3)) (tgt := 4) (by decide) ?_
  exact hK4 _ _ _ _ _ h
set_option maxRecDepth 100000 in
def B_En_handsThatTold_4 (Γ : GAM) (K4 : Nat → Int32 → Int32 → Int32 → GH → Prop) (K : Int32 → GH → Prop) (l0 : Nat) (l1 : Int32) (l2 : Int32) (l3 : Int32) (g : GH) : Prop :=
  (((6 : Int32) ≤ l3 → K l2 g) ∧ (¬ ((6 : Int32) ≤ l3) → Kd g l0 = 2 ∧ ∃ a1 : Nat, Gr g 136 l0 = some a1 ∧ Kd g a1 = 20 ∧ inB ((10 : Int32) + l3) (Ln g a1) ∧ ((¬ ((Ia g (Co g a1) (Ow g a1) ((10 : Int32) + l3).toNatClampNeg) = l1) → B_En_handsThatTold_29 Γ K4 K l0 l1 l3 (0 : Int32) l2 g) ∧ ((Ia g (Co g a1) (Ow g a1) ((10 : Int32) + l3).toNatClampNeg) = l1 → B_En_handsThatTold_29 Γ K4 K l0 l1 l3 (1 : Int32) l2 g))))
set_option maxHeartbeats 4000000 in
set_option maxRecDepth 100000 in
theorem S_En_handsThatTold_4 {Γ : GAM} {E : EV} {K : Int32 → GH → Prop} (hE : GE Γ E cX0_handsThatTold 4 RX0 (some (.int)) 0 0 (fun r g' => ∃ x, r = some (.int x) ∧ K x g')) {K4 : Nat → Int32 → Int32 → Int32 → GH → Prop} (hK4 : ∀ (l0 : Nat) (l1 : Int32) (l2 : Int32) (l3 : Int32) (g : GH), K4 l0 l1 l2 l3 g → JW Γ E 4 [some (.ref l0), some (.int l1), some (.int l2), some (.int l3)] [] g) (l0 : Nat) (l1 : Int32) (l2 : Int32) (l3 : Int32) (g : GH) (h : B_En_handsThatTold_4 Γ K4 K l0 l1 l2 l3 g) : JW Γ E 4 [some (.ref l0), some (.int l1), some (.int l2), some (.int l3)] [] g := by
  unfold B_En_handsThatTold_4 at h
  refine j_iload_n hE (by decide +kernel : decode cX0_handsThatTold 4 = .ok (.iload_n 3, 1)) rfl rfl ?_
  refine j_bipush hE (by decide +kernel : decode cX0_handsThatTold 5 = .ok (.bipush 6, 2)) (v := (6 : Int32)) (by decide) ?_
  refine j_icmp_ge hE (by decide +kernel : decode cX0_handsThatTold 7 = .ok (.if_icmp .ge 30, 3)) (tgt := 37) (by decide) (fun q => ?_) (fun q => ?_)
  · have h := h.1 q
    refine j_iload_n hE (by decide +kernel : decode cX0_handsThatTold 37 = .ok (.iload_n 2, 1)) rfl rfl ?_
    exact j_iret hE (by decide +kernel : decode cX0_handsThatTold 38 = .ok (.ireturn, 1)) ⟨_, rfl, h⟩
  · have h := h.2 q
    refine j_iload_n hE (by decide +kernel : decode cX0_handsThatTold 10 = .ok (.iload_n 2, 1)) rfl rfl ?_
    refine j_aload_n hE (by decide +kernel : decode cX0_handsThatTold 11 = .ok (.aload_n 0, 1)) rfl rfl ?_
    obtain ⟨hk, h⟩ := h
    obtain ⟨a1, ha, h⟩ := h
    refine j_getRn hE fg_X0_26 hk ha (by decide +kernel : decode cX0_handsThatTold 12 = .ok (.getfield 26, 3)) ?_
    refine j_bipush hE (by decide +kernel : decode cX0_handsThatTold 15 = .ok (.bipush 10, 2)) (v := (10 : Int32)) (by decide) ?_
    refine j_iload_n hE (by decide +kernel : decode cX0_handsThatTold 17 = .ok (.iload_n 3, 1)) rfl rfl ?_
    refine j_iadd hE (by decide +kernel : decode cX0_handsThatTold 18 = .ok (.iadd, 1)) ?_
    obtain ⟨hk, hb, h⟩ := h
    refine j_iald hE hk hb (by decide +kernel : decode cX0_handsThatTold 19 = .ok (.iaload, 1)) ?_
    refine j_iload_n hE (by decide +kernel : decode cX0_handsThatTold 20 = .ok (.iload_n 1, 1)) rfl rfl ?_
    refine j_icmp_ne hE (by decide +kernel : decode cX0_handsThatTold 21 = .ok (.if_icmp .ne 7, 3)) (tgt := 28) (by decide) (fun q => ?_) (fun q => ?_)
    · have h := h.1 q
      refine j_iconst hE (by decide +kernel : decode cX0_handsThatTold 28 = .ok (.iconst 0, 1)) (v := (0 : Int32)) (by decide) ?_
      refine j_weak [some (.ref l0), some (.int l1), none, some (.int l3)] ⟨rfl, ⟨rfl, ⟨rfl, trivial⟩⟩⟩ ?_
      exact S_En_handsThatTold_29 hE hK4 _ _ _ _ _ _ h
    · have h := h.2 q
      refine j_iconst hE (by decide +kernel : decode cX0_handsThatTold 24 = .ok (.iconst 1, 1)) (v := (1 : Int32)) (by decide) ?_
      refine j_goto hE (by decide +kernel : decode cX0_handsThatTold 25 = .ok (.goto 4, 3)) (tgt := 29) (by decide) ?_
      refine j_weak [some (.ref l0), some (.int l1), none, some (.int l3)] ⟨rfl, ⟨rfl, ⟨rfl, trivial⟩⟩⟩ ?_
      exact S_En_handsThatTold_29 hE hK4 _ _ _ _ _ _ h
set_option maxRecDepth 100000 in
def B_En_handsThatTold_0 (Γ : GAM) (K4 : Nat → Int32 → Int32 → Int32 → GH → Prop) (K : Int32 → GH → Prop) (th : Nat) (p0 : Int32) (g : GH) : Prop :=
  K4 th p0 (0 : Int32) (0 : Int32) g
set_option maxHeartbeats 4000000 in
set_option maxRecDepth 100000 in
theorem S_En_handsThatTold_0 {Γ : GAM} {E : EV} {K : Int32 → GH → Prop} (hE : GE Γ E cX0_handsThatTold 4 RX0 (some (.int)) 0 0 (fun r g' => ∃ x, r = some (.int x) ∧ K x g')) {K4 : Nat → Int32 → Int32 → Int32 → GH → Prop} (hK4 : ∀ (l0 : Nat) (l1 : Int32) (l2 : Int32) (l3 : Int32) (g : GH), K4 l0 l1 l2 l3 g → JW Γ E 4 [some (.ref l0), some (.int l1), some (.int l2), some (.int l3)] [] g) (th : Nat) (p0 : Int32) (g : GH) (h : B_En_handsThatTold_0 Γ K4 K th p0 g) : JW Γ E 0 [some (.ref th), some (.int p0), none, none] [] g := by
  unfold B_En_handsThatTold_0 at h
  refine j_iconst hE (by decide +kernel : decode cX0_handsThatTold 0 = .ok (.iconst 0, 1)) (v := (0 : Int32)) (by decide) ?_
  refine j_istore_n hE (by decide +kernel : decode cX0_handsThatTold 1 = .ok (.istore_n 2, 1)) rfl (Nat.le_of_ble_eq_true rfl) rfl ?_
  refine j_iconst hE (by decide +kernel : decode cX0_handsThatTold 2 = .ok (.iconst 0, 1)) (v := (0 : Int32)) (by decide) ?_
  refine j_istore_n hE (by decide +kernel : decode cX0_handsThatTold 3 = .ok (.istore_n 3, 1)) rfl (Nat.le_of_ble_eq_true rfl) rfl ?_
  exact hK4 _ _ _ _ _ h
set_option maxHeartbeats 4000000 in
set_option maxRecDepth 100000 in
theorem rl_En_handsThatTold {Γ : GAM} {l : Launch} {th : Nat} {p0 : Int32} {g : GH} {K : Int32 → GH → Prop} (I4 : Nat → Nat → Int32 → Int32 → Int32 → GH → Prop) (hh4 : ∀ n (l0 : Nat) (l1 : Int32) (l2 : Int32) (l3 : Int32) (g : GH), I4 n l0 l1 l2 l3 g → B_En_handsThatTold_4 Γ (fun l0 l1 l2 l3 g => ∃ m, m < n ∧ I4 m l0 l1 l2 l3 g) K l0 l1 l2 l3 g) (h0 : B_En_handsThatTold_0 Γ (fun l0 l1 l2 l3 g => ∃ m, I4 m l0 l1 l2 l3 g) K th p0 g) : MetA Γ l yX0_handsThatTold cX0_handsThatTold 4 (some (.int)) 0 0 [.ref th, .int p0] g (fun r g' => ∃ x, r = some (.int x) ∧ K x g') := by
  refine MetA.introL (Lx := [some (.ref th), some (.int p0), none, none]) (by decide) (Nat.le_of_ble_eq_true rfl) rfl rfl ?_
  intro E hEl hE hnm
  have hall : ∀ n, (∀ (l0 : Nat) (l1 : Int32) (l2 : Int32) (l3 : Int32) (g : GH), I4 n l0 l1 l2 l3 g → JW Γ E 4 [some (.ref l0), some (.int l1), some (.int l2), some (.int l3)] [] g) := by
    intro n
    induction n using Nat.strongRecOn with
    | ind n ih =>
      exact fun l0 l1 l2 l3 g hi => S_En_handsThatTold_4 hE (fun l0 l1 l2 l3 g hm => by obtain ⟨m, hm, h⟩ := hm; exact (ih m hm) l0 l1 l2 l3 g h) l0 l1 l2 l3 g (hh4 n l0 l1 l2 l3 g hi)
  exact S_En_handsThatTold_0 hE (fun l0 l1 l2 l3 g hm => by obtain ⟨m, h⟩ := hm; exact (hall m) l0 l1 l2 l3 g h) th p0 g h0
def Sp_PV_isHand (Γ : GAM) (q0 : Int32) (g : GH) (K : Int32 → GH → Prop) : Prop := False
theorem mt_PV_isHand {Γ : GAM} {l : Launch} (q0 : Int32) (g : GH) (K : Int32 → GH → Prop) (h : Sp_PV_isHand Γ q0 g K) : MetA Γ l yX10_isHand cX10_isHand 1 (some (.boolean)) 0 0 [.int q0] g (fun r g' => ∃ x, r = some (.int x) ∧ K x g') := h.elim
def Sp_En_handsThatTold (Γ : GAM) (q0 : Nat) (q1 : Int32) (g : GH) (K : Int32 → GH → Prop) : Prop := False
theorem mt_En_handsThatTold {Γ : GAM} {l : Launch} (q0 : Nat) (q1 : Int32) (g : GH) (K : Int32 → GH → Prop) (h : Sp_En_handsThatTold Γ q0 q1 g K) : MetA Γ l yX0_handsThatTold cX0_handsThatTold 4 (some (.int)) 0 0 [.ref q0, .int q1] g (fun r g' => ∃ x, r = some (.int x) ∧ K x g') := h.elim
-- the walk of En_doublesOf
set_option maxRecDepth 100000 in
def B_En_doublesOf_101 (Γ : GAM) (K : Int32 → GH → Prop) (s0 : Int32) (g : GH) : Prop :=
  K s0 g
set_option maxHeartbeats 4000000 in
set_option maxRecDepth 100000 in
theorem S_En_doublesOf_101 {Γ : GAM} {E : EV} {K : Int32 → GH → Prop} (hE : GE Γ E cX0_doublesOf 5 RX0 (some (.int)) 1 23 (fun r g' => ∃ x, r = some (.int x) ∧ K x g')) (s0 : Int32) (g : GH) (h : B_En_doublesOf_101 Γ K s0 g) : JW Γ E 101 [none, none, none, none, none] [.int s0] g := by
  unfold B_En_doublesOf_101 at h
  exact j_iret hE (by decide +kernel : decode cX0_doublesOf 101 = .ok (.ireturn, 1)) ⟨_, rfl, h⟩
set_option maxRecDepth 100000 in
def B_En_doublesOf_89 (Γ : GAM) (K : Int32 → GH → Prop) (s0 : Int32) (g : GH) : Prop :=
  K s0 g
set_option maxHeartbeats 4000000 in
set_option maxRecDepth 100000 in
theorem S_En_doublesOf_89 {Γ : GAM} {E : EV} {K : Int32 → GH → Prop} (hE : GE Γ E cX0_doublesOf 5 RX0 (some (.int)) 1 23 (fun r g' => ∃ x, r = some (.int x) ∧ K x g')) (s0 : Int32) (g : GH) (h : B_En_doublesOf_89 Γ K s0 g) : JW Γ E 89 [none, none, none, none, none] [.int s0] g := by
  unfold B_En_doublesOf_89 at h
  exact j_iret hE (by decide +kernel : decode cX0_doublesOf 89 = .ok (.ireturn, 1)) ⟨_, rfl, h⟩
set_option maxRecDepth 100000 in
def B_En_doublesOf_20 (Γ : GAM) (K : Int32 → GH → Prop)  (g : GH) : Prop :=
  K (0 : Int32) g
set_option maxHeartbeats 4000000 in
set_option maxRecDepth 100000 in
theorem S_En_doublesOf_20 {Γ : GAM} {E : EV} {K : Int32 → GH → Prop} (hE : GE Γ E cX0_doublesOf 5 RX0 (some (.int)) 1 23 (fun r g' => ∃ x, r = some (.int x) ∧ K x g'))  (g : GH) (h : B_En_doublesOf_20 Γ K  g) : JW Γ E 20 [none, none, none, none, none] [] g := by
  unfold B_En_doublesOf_20 at h
  refine j_iconst hE (by decide +kernel : decode cX0_doublesOf 20 = .ok (.iconst 0, 1)) (v := (0 : Int32)) (by decide) ?_
  exact j_iret hE (by decide +kernel : decode cX0_doublesOf 21 = .ok (.ireturn, 1)) ⟨_, rfl, h⟩
set_option maxRecDepth 100000 in
def B_En_doublesOf_0 (Γ : GAM) (K : Int32 → GH → Prop) (th : Nat) (p0 : Int32) (p1 : Int32) (g : GH) : Prop :=
  Sp_PV_isHand Γ p0 g (fun (x2 : Int32) (g1 : GH) => ((x2 = 0 → B_En_doublesOf_20 Γ K g1) ∧ (¬ (x2 = 0) → Kd g1 th = 2 ∧ ∃ a3 : Nat, Gr g1 136 th = some a3 ∧ Kd g1 a3 = 20 ∧ inB ((10 : Int32) + p0) (Ln g1 a3) ∧ ((¬ ((Ia g1 (Co g1 a3) (Ow g1 a3) ((10 : Int32) + p0).toNatClampNeg) = (-1 : Int32)) → Kd g1 th = 2 ∧ ∃ a4 : Nat, Gr g1 136 th = some a4 ∧ Kd g1 a4 = 20 ∧ inB ((10 : Int32) + p0) (Ln g1 a4) ∧ ∀ x5 : Int32, x5 = (Ia g1 (Co g1 a4) (Ow g1 a4) ((10 : Int32) + p0).toNatClampNeg) → Kd g1 th = 2 ∧ Sp_En_handsThatTold Γ th ((1 : Int32) - x5) g1 (fun (x7 : Int32) (g6 : GH) => ((p1 = (0 : Int32) → Kd g6 th = 2 ∧ Sp_En_handsThatTold Γ th x5 g6 (fun (x9 : Int32) (g8 : GH) => K ((x7 + x9) - (1 : Int32)) g8)) ∧ (¬ (p1 = (0 : Int32)) → ((p1 = (1 : Int32) → ((¬ (x5 = 0) → B_En_doublesOf_89 Γ K (0 : Int32) g6) ∧ (x5 = 0 → B_En_doublesOf_89 Γ K x7 g6))) ∧ (¬ (p1 = (1 : Int32)) → ((¬ (x5 = (1 : Int32)) → B_En_doublesOf_101 Γ K (0 : Int32) g6) ∧ (x5 = (1 : Int32) → B_En_doublesOf_101 Γ K x7 g6)))))))) ∧ ((Ia g1 (Co g1 a3) (Ow g1 a3) ((10 : Int32) + p0).toNatClampNeg) = (-1 : Int32) → B_En_doublesOf_20 Γ K g1)))))
set_option maxHeartbeats 4000000 in
set_option maxRecDepth 100000 in
theorem S_En_doublesOf_0 {Γ : GAM} {E : EV} {K : Int32 → GH → Prop} (hE : GE Γ E cX0_doublesOf 5 RX0 (some (.int)) 1 23 (fun r g' => ∃ x, r = some (.int x) ∧ K x g')) (th : Nat) (p0 : Int32) (p1 : Int32) (g : GH) (h : B_En_doublesOf_0 Γ K th p0 p1 g) : JW Γ E 0 [some (.ref th), some (.int p0), some (.int p1), none, none] [] g := by
  unfold B_En_doublesOf_0 at h
  refine j_iload_n hE (by decide +kernel : decode cX0_doublesOf 0 = .ok (.iload_n 1, 1)) rfl rfl ?_
  refine j_callSN hE rfl cl_X0_108 st_X10_isHand ⟨by omega, by omega⟩ (As := [.int p0]) (rest := []) rfl rfl (Nat.le_of_ble_eq_true rfl) (by decide +kernel : decode cX0_doublesOf 1 = .ok (.invokestatic 108, 3)) (mt_PV_isHand _ _ _ h) ?_
  rintro _ g1 ⟨x2, rfl, h⟩
  refine j_if_eq hE (by decide +kernel : decode cX0_doublesOf 4 = .ok (.ifCond .eq 16, 3)) (tgt := 20) (by decide) (fun q => ?_) (fun q => ?_)
  · have h := h.1 q
    refine j_weak [none, none, none, none, none] trivial ?_
    exact S_En_doublesOf_20 hE _ h
  · have h := h.2 q
    refine j_aload_n hE (by decide +kernel : decode cX0_doublesOf 7 = .ok (.aload_n 0, 1)) rfl rfl ?_
    obtain ⟨hk, h⟩ := h
    obtain ⟨a3, ha, h⟩ := h
    refine j_getRn hE fg_X0_26 hk ha (by decide +kernel : decode cX0_doublesOf 8 = .ok (.getfield 26, 3)) ?_
    refine j_bipush hE (by decide +kernel : decode cX0_doublesOf 11 = .ok (.bipush 10, 2)) (v := (10 : Int32)) (by decide) ?_
    refine j_iload_n hE (by decide +kernel : decode cX0_doublesOf 13 = .ok (.iload_n 1, 1)) rfl rfl ?_
    refine j_iadd hE (by decide +kernel : decode cX0_doublesOf 14 = .ok (.iadd, 1)) ?_
    obtain ⟨hk, hb, h⟩ := h
    refine j_iald hE hk hb (by decide +kernel : decode cX0_doublesOf 15 = .ok (.iaload, 1)) ?_
    refine j_iconst hE (by decide +kernel : decode cX0_doublesOf 16 = .ok (.iconst (-1), 1)) (v := (-1 : Int32)) (by decide) ?_
    refine j_icmp_ne hE (by decide +kernel : decode cX0_doublesOf 17 = .ok (.if_icmp .ne 5, 3)) (tgt := 22) (by decide) (fun q => ?_) (fun q => ?_)
    · have h := h.1 q
      refine j_aload_n hE (by decide +kernel : decode cX0_doublesOf 22 = .ok (.aload_n 0, 1)) rfl rfl ?_
      obtain ⟨hk, h⟩ := h
      obtain ⟨a4, ha, h⟩ := h
      refine j_getRn hE fg_X0_26 hk ha (by decide +kernel : decode cX0_doublesOf 23 = .ok (.getfield 26, 3)) ?_
      refine j_bipush hE (by decide +kernel : decode cX0_doublesOf 26 = .ok (.bipush 10, 2)) (v := (10 : Int32)) (by decide) ?_
      refine j_iload_n hE (by decide +kernel : decode cX0_doublesOf 28 = .ok (.iload_n 1, 1)) rfl rfl ?_
      refine j_iadd hE (by decide +kernel : decode cX0_doublesOf 29 = .ok (.iadd, 1)) ?_
      obtain ⟨hk, hb, h⟩ := h
      refine j_iald hE hk hb (by decide +kernel : decode cX0_doublesOf 30 = .ok (.iaload, 1)) ?_
      obtain ⟨x5, hx⟩ : ∃ z, z = (Ia g1 (Co g1 a4) (Ow g1 a4) ((10 : Int32) + p0).toNatClampNeg) := ⟨_, rfl⟩; have h := h x5 hx; rw [← hx]
      refine j_istore_n hE (by decide +kernel : decode cX0_doublesOf 31 = .ok (.istore_n 3, 1)) rfl (Nat.le_of_ble_eq_true rfl) rfl ?_
      refine j_aload_n hE (by decide +kernel : decode cX0_doublesOf 32 = .ok (.aload_n 0, 1)) rfl rfl ?_
      refine j_iconst hE (by decide +kernel : decode cX0_doublesOf 33 = .ok (.iconst 1, 1)) (v := (1 : Int32)) (by decide) ?_
      refine j_iload_n hE (by decide +kernel : decode cX0_doublesOf 34 = .ok (.iload_n 3, 1)) rfl rfl ?_
      refine j_isub hE (by decide +kernel : decode cX0_doublesOf 35 = .ok (.isub, 1)) ?_
      obtain ⟨hk, h⟩ := h
      refine j_callV hE rfl cl_X0_112 cf_1 im_X0_handsThatTold se_X0_handsThatTold ⟨by omega, by omega⟩ (As := [.int ((1 : Int32) - x5)]) (rest := []) rfl rfl (Nat.le_of_ble_eq_true rfl) hk (by decide +kernel : decode cX0_doublesOf 36 = .ok (.invokevirtual 112, 3)) (mt_En_handsThatTold _ _ _ _ h) ?_
      rintro _ g6 ⟨x7, rfl, h⟩
      refine j_istore hE (by decide +kernel : decode cX0_doublesOf 39 = .ok (.istore 4, 2)) (Nat.le_of_ble_eq_true rfl) rfl ?_
      refine j_iload_n hE (by decide +kernel : decode cX0_doublesOf 41 = .ok (.iload_n 2, 1)) rfl rfl ?_
      by_cases q0 : p1 = (0 : Int32)
      · have h := h.1 q0
        refine j_lookup hE (by decide +kernel : decode cX0_doublesOf 42 = .ok (.lookupswitch 48 #[(0, 26), (1, 37)], 26)) (by decide) (off := 26) (by rw [q0]; decide) (tgt := 68) (by decide) ?_
        refine j_iload hE (by decide +kernel : decode cX0_doublesOf 68 = .ok (.iload 4, 2)) rfl ?_
        refine j_aload_n hE (by decide +kernel : decode cX0_doublesOf 70 = .ok (.aload_n 0, 1)) rfl rfl ?_
        refine j_iload_n hE (by decide +kernel : decode cX0_doublesOf 71 = .ok (.iload_n 3, 1)) rfl rfl ?_
        obtain ⟨hk, h⟩ := h
        refine j_callV hE rfl cl_X0_112 cf_1 im_X0_handsThatTold se_X0_handsThatTold ⟨by omega, by omega⟩ (As := [.int x5]) (rest := [.int x7]) rfl rfl (Nat.le_of_ble_eq_true rfl) hk (by decide +kernel : decode cX0_doublesOf 72 = .ok (.invokevirtual 112, 3)) (mt_En_handsThatTold _ _ _ _ h) ?_
        rintro _ g8 ⟨x9, rfl, h⟩
        refine j_iadd hE (by decide +kernel : decode cX0_doublesOf 75 = .ok (.iadd, 1)) ?_
        refine j_iconst hE (by decide +kernel : decode cX0_doublesOf 76 = .ok (.iconst 1, 1)) (v := (1 : Int32)) (by decide) ?_
        refine j_isub hE (by decide +kernel : decode cX0_doublesOf 77 = .ok (.isub, 1)) ?_
        exact j_iret hE (by decide +kernel : decode cX0_doublesOf 78 = .ok (.ireturn, 1)) ⟨_, rfl, h⟩
      · have h := h.2 q0
        by_cases q1 : p1 = (1 : Int32)
        · have h := h.1 q1
          refine j_lookup hE (by decide +kernel : decode cX0_doublesOf 42 = .ok (.lookupswitch 48 #[(0, 26), (1, 37)], 26)) (by decide) (off := 37) (by rw [q1]; decide) (tgt := 79) (by decide) ?_
          refine j_iload_n hE (by decide +kernel : decode cX0_doublesOf 79 = .ok (.iload_n 3, 1)) rfl rfl ?_
          refine j_if_ne hE (by decide +kernel : decode cX0_doublesOf 80 = .ok (.ifCond .ne 8, 3)) (tgt := 88) (by decide) (fun q => ?_) (fun q => ?_)
          · have h := h.1 q
            refine j_iconst hE (by decide +kernel : decode cX0_doublesOf 88 = .ok (.iconst 0, 1)) (v := (0 : Int32)) (by decide) ?_
            refine j_weak [none, none, none, none, none] trivial ?_
            exact S_En_doublesOf_89 hE _ _ h
          · have h := h.2 q
            refine j_iload hE (by decide +kernel : decode cX0_doublesOf 83 = .ok (.iload 4, 2)) rfl ?_
            refine j_goto hE (by decide +kernel : decode cX0_doublesOf 85 = .ok (.goto 4, 3)) (tgt := 89) (by decide) ?_
            refine j_weak [none, none, none, none, none] trivial ?_
            exact S_En_doublesOf_89 hE _ _ h
        · have h := h.2 q1
          refine j_lookup hE (by decide +kernel : decode cX0_doublesOf 42 = .ok (.lookupswitch 48 #[(0, 26), (1, 37)], 26)) (by decide) (off := 48) ((lv_osw q0 (by decide)).trans ((lv_osw q1 (by decide)).trans (rfl))) (tgt := 90) (by decide) ?_
          refine j_iload_n hE (by decide +kernel : decode cX0_doublesOf 90 = .ok (.iload_n 3, 1)) rfl rfl ?_
          refine j_iconst hE (by decide +kernel : decode cX0_doublesOf 91 = .ok (.iconst 1, 1)) (v := (1 : Int32)) (by decide) ?_
          refine j_icmp_ne hE (by decide +kernel : decode cX0_doublesOf 92 = .ok (.if_icmp .ne 8, 3)) (tgt := 100) (by decide) (fun q => ?_) (fun q => ?_)
          · have h := h.1 q
            refine j_iconst hE (by decide +kernel : decode cX0_doublesOf 100 = .ok (.iconst 0, 1)) (v := (0 : Int32)) (by decide) ?_
            refine j_weak [none, none, none, none, none] trivial ?_
            exact S_En_doublesOf_101 hE _ _ h
          · have h := h.2 q
            refine j_iload hE (by decide +kernel : decode cX0_doublesOf 95 = .ok (.iload 4, 2)) rfl ?_
            refine j_goto hE (by decide +kernel : decode cX0_doublesOf 97 = .ok (.goto 4, 3)) (tgt := 101) (by decide) ?_
            refine j_weak [none, none, none, none, none] trivial ?_
            exact S_En_doublesOf_101 hE _ _ h
    · have h := h.2 q
      refine j_weak [none, none, none, none, none] trivial ?_
      exact S_En_doublesOf_20 hE _ h
set_option maxHeartbeats 4000000 in
set_option maxRecDepth 100000 in
theorem rl_En_doublesOf {Γ : GAM} {l : Launch} {th : Nat} {p0 : Int32} {p1 : Int32} {g : GH} {K : Int32 → GH → Prop} (h0 : B_En_doublesOf_0 Γ K th p0 p1 g) : MetA Γ l yX0_doublesOf cX0_doublesOf 5 (some (.int)) 1 23 [.ref th, .int p0, .int p1] g (fun r g' => ∃ x, r = some (.int x) ∧ K x g') := by
  refine MetA.introL (Lx := [some (.ref th), some (.int p0), some (.int p1), none, none]) (by decide) (Nat.le_of_ble_eq_true rfl) rfl rfl ?_
  intro E hEl hE hnm
  exact S_En_doublesOf_0 hE th p0 p1 g h0
def Sp_En_unlikeFigures (Γ : GAM) (q0 : Nat) (g : GH) (K : Int32 → GH → Prop) : Prop := False
theorem mt_En_unlikeFigures {Γ : GAM} {l : Launch} (q0 : Nat) (g : GH) (K : Int32 → GH → Prop) (h : Sp_En_unlikeFigures Γ q0 g K) : MetA Γ l yX0_unlikeFigures cX0_unlikeFigures 5 (some (.int)) 0 0 [.ref q0] g (fun r g' => ∃ x, r = some (.int x) ∧ K x g') := h.elim
-- the walk of En_numberOf
set_option maxRecDepth 100000 in
def B_En_numberOf_194 (Γ : GAM) (K : Int32 → GH → Prop) (s0 : Int32) (g : GH) : Prop :=
  K s0 g
set_option maxHeartbeats 4000000 in
set_option maxRecDepth 100000 in
theorem S_En_numberOf_194 {Γ : GAM} {E : EV} {K : Int32 → GH → Prop} (hE : GE Γ E cX0_numberOf 3 RX0 (some (.int)) 1 24 (fun r g' => ∃ x, r = some (.int x) ∧ K x g')) (s0 : Int32) (g : GH) (h : B_En_numberOf_194 Γ K s0 g) : JW Γ E 194 [none, none, none] [.int s0] g := by
  unfold B_En_numberOf_194 at h
  exact j_iret hE (by decide +kernel : decode cX0_numberOf 194 = .ok (.ireturn, 1)) ⟨_, rfl, h⟩
set_option maxRecDepth 100000 in
def B_En_numberOf_0 (Γ : GAM) (K : Int32 → GH → Prop) (th : Nat) (p0 : Int32) (p1 : Int32) (g : GH) : Prop :=
  ((p0 = (98 : Int32) → Kd g th = 2 ∧ ∃ a1 : Nat, Gr g 129 th = some a1 ∧ Kd g a1 = 11 ∧ K (Gi g 1288 a1) g) ∧ (¬ (p0 = (98 : Int32)) → ((p0 = (99 : Int32) → Kd g th = 2 ∧ K (Gi g 137 th) g) ∧ (¬ (p0 = (99 : Int32)) → ((p0 = (100 : Int32) → Kd g th = 2 ∧ ∃ a2 : Nat, Gr g 129 th = some a2 ∧ Kd g a2 = 11 ∧ K (Gi g 1281 a2) g) ∧ (¬ (p0 = (100 : Int32)) → ((p0 = (101 : Int32) → Kd g th = 2 ∧ ∃ a3 : Nat, Gr g 129 th = some a3 ∧ Kd g a3 = 11 ∧ K (Gi g 1285 a3) g) ∧ (¬ (p0 = (101 : Int32)) → ((p0 = (102 : Int32) → Kd g th = 2 ∧ ∃ a4 : Nat, Gr g 135 th = some a4 ∧ Kd g a4 = 20 ∧ inB (5 : Int32) (Ln g a4) ∧ K (Ia g (Co g a4) (Ow g a4) (5 : Int32).toNatClampNeg) g) ∧ (¬ (p0 = (102 : Int32)) → ((p0 = (103 : Int32) → Kd g th = 2 ∧ ∃ a5 : Nat, Gr g 129 th = some a5 ∧ Kd g a5 = 11 ∧ K (Gi g 1281 a5) g) ∧ (¬ (p0 = (103 : Int32)) → ((p0 = (104 : Int32) → Kd g th = 2 ∧ ∃ a6 : Nat, Gr g 129 th = some a6 ∧ Kd g a6 = 11 ∧ K (Gi g 1281 a6) g) ∧ (¬ (p0 = (104 : Int32)) → ((p0 = (105 : Int32) → Kd g th = 2 ∧ ((¬ ((Gi g 138 th) = (-1 : Int32)) → B_En_numberOf_194 Γ K (1 : Int32) g) ∧ ((Gi g 138 th) = (-1 : Int32) → B_En_numberOf_194 Γ K (0 : Int32) g))) ∧ (¬ (p0 = (105 : Int32)) → ((p0 = (106 : Int32) → Kd g th = 2 ∧ ∃ a7 : Nat, Gr g 129 th = some a7 ∧ Kd g a7 = 11 ∧ K (Gi g 1281 a7) g) ∧ (¬ (p0 = (106 : Int32)) → ((p0 = (107 : Int32) → Kd g th = 2 ∧ ∃ a8 : Nat, Gr g 129 th = some a8 ∧ Kd g a8 = 11 ∧ K (Gi g 1281 a8) g) ∧ (¬ (p0 = (107 : Int32)) → ((p0 = (108 : Int32) → Kd g th = 2 ∧ ∃ a9 : Nat, Gr g 135 th = some a9 ∧ Kd g a9 = 20 ∧ inB (4 : Int32) (Ln g a9) ∧ K (Ia g (Co g a9) (Ow g a9) (4 : Int32).toNatClampNeg) g) ∧ (¬ (p0 = (108 : Int32)) → ((p0 = (109 : Int32) → Kd g th = 2 ∧ ∃ a10 : Nat, Gr g 135 th = some a10 ∧ Kd g a10 = 20 ∧ inB (1 : Int32) (Ln g a10) ∧ K (Ia g (Co g a10) (Ow g a10) (1 : Int32).toNatClampNeg) g) ∧ (¬ (p0 = (109 : Int32)) → ((p0 = (110 : Int32) → Kd g th = 2 ∧ K (Gi g 139 th) g) ∧ (¬ (p0 = (110 : Int32)) → ((p0 = (111 : Int32) → Kd g th = 2 ∧ K (Gi g 130 th) g) ∧ (¬ (p0 = (111 : Int32)) → ((p0 = (112 : Int32) → Kd g th = 2 ∧ ∃ a11 : Nat, Gr g 135 th = some a11 ∧ Kd g a11 = 20 ∧ inB (7 : Int32) (Ln g a11) ∧ K (Ia g (Co g a11) (Ow g a11) (7 : Int32).toNatClampNeg) g) ∧ (¬ (p0 = (112 : Int32)) → ((p0 = (113 : Int32) → Kd g th = 2 ∧ ∃ a12 : Nat, Gr g 129 th = some a12 ∧ Kd g a12 = 11 ∧ K (Gi g 1281 a12) g) ∧ (¬ (p0 = (113 : Int32)) → ((p0 = (114 : Int32) → Kd g th = 2 ∧ ∃ a13 : Nat, Gr g 135 th = some a13 ∧ Kd g a13 = 20 ∧ inB (8 : Int32) (Ln g a13) ∧ K (Ia g (Co g a13) (Ow g a13) (8 : Int32).toNatClampNeg) g) ∧ (¬ (p0 = (114 : Int32)) → ((p0 = (115 : Int32) → Kd g th = 2 ∧ Sp_En_unlikeFigures Γ th g (fun (x15 : Int32) (g14 : GH) => K x15 g14)) ∧ (¬ (p0 = (115 : Int32)) → ((p0 = (116 : Int32) → K p1 g) ∧ (¬ (p0 = (116 : Int32)) → ((p0 = (117 : Int32) → Kd g th = 2 ∧ ∃ a16 : Nat, Gr g 129 th = some a16 ∧ Kd g a16 = 11 ∧ K (Gi g 1281 a16) g) ∧ (¬ (p0 = (117 : Int32)) → ((p0 = (118 : Int32) → Kd g th = 2 ∧ ∃ a17 : Nat, Gr g 129 th = some a17 ∧ Kd g a17 = 11 ∧ K (Gi g 1281 a17) g) ∧ (¬ (p0 = (118 : Int32)) → ((p0 = (119 : Int32) → Kd g th = 2 ∧ ∃ a18 : Nat, Gr g 129 th = some a18 ∧ Kd g a18 = 11 ∧ K (Gi g 1281 a18) g) ∧ (¬ (p0 = (119 : Int32)) → ((p0 = (120 : Int32) → Kd g th = 2 ∧ ∃ a19 : Nat, Gr g 135 th = some a19 ∧ Kd g a19 = 20 ∧ inB (6 : Int32) (Ln g a19) ∧ K (Ia g (Co g a19) (Ow g a19) (6 : Int32).toNatClampNeg) g) ∧ (¬ (p0 = (120 : Int32)) → ((p0 = (121 : Int32) → Kd g th = 2 ∧ Sp_En_handsThatTold Γ th (1 : Int32) g (fun (x21 : Int32) (g20 : GH) => K x21 g20)) ∧ (¬ (p0 = (121 : Int32)) → ((p0 = (122 : Int32) → Kd g th = 2 ∧ Sp_En_handsThatTold Γ th (0 : Int32) g (fun (x23 : Int32) (g22 : GH) => K x23 g22)) ∧ (¬ (p0 = (122 : Int32)) → Kd g th = 2 ∧ ∃ a24 : Nat, Gr g 129 th = some a24 ∧ Kd g a24 = 11 ∧ K (Gi g 1281 a24) g))))))))))))))))))))))))))))))))))))))))))))))))))
set_option maxHeartbeats 4000000 in
set_option maxRecDepth 100000 in
theorem S_En_numberOf_0 {Γ : GAM} {E : EV} {K : Int32 → GH → Prop} (hE : GE Γ E cX0_numberOf 3 RX0 (some (.int)) 1 24 (fun r g' => ∃ x, r = some (.int x) ∧ K x g')) (th : Nat) (p0 : Int32) (p1 : Int32) (g : GH) (h : B_En_numberOf_0 Γ K th p0 p1 g) : JW Γ E 0 [some (.ref th), some (.int p0), some (.int p1)] [] g := by
  unfold B_En_numberOf_0 at h
  refine j_iload_n hE (by decide +kernel : decode cX0_numberOf 0 = .ok (.iload_n 1, 1)) rfl rfl ?_
  by_cases q0 : p0 = (98 : Int32)
  · have h := h.1 q0
    refine j_tableIn hE (by decide +kernel : decode cX0_numberOf 1 = .ok (.tableswitch 224 98 122 #[172, 129, 224, 216, 149, 224, 224, 180, 224, 224, 142, 122, 211, 117, 156, 224, 164, 194, 115, 224, 224, 224, 134, 199, 205], 115)) (by rw [q0]; decide) (by rw [q0]; decide) (off := 172) (by rw [q0]; decide) (tgt := 173) (by decide) ?_
    refine j_aload_n hE (by decide +kernel : decode cX0_numberOf 173 = .ok (.aload_n 0, 1)) rfl rfl ?_
    obtain ⟨hk, h⟩ := h
    obtain ⟨a1, ha, h⟩ := h
    refine j_getRn hE fg_X0_47 hk ha (by decide +kernel : decode cX0_numberOf 174 = .ok (.getfield 47, 3)) ?_
    obtain ⟨hk, h⟩ := h
    refine j_getI hE fg_X0_116 hk (by decide +kernel : decode cX0_numberOf 177 = .ok (.getfield 116, 3)) ?_
    exact j_iret hE (by decide +kernel : decode cX0_numberOf 180 = .ok (.ireturn, 1)) ⟨_, rfl, h⟩
  · have h := h.2 q0
    by_cases q1 : p0 = (99 : Int32)
    · have h := h.1 q1
      refine j_tableIn hE (by decide +kernel : decode cX0_numberOf 1 = .ok (.tableswitch 224 98 122 #[172, 129, 224, 216, 149, 224, 224, 180, 224, 224, 142, 122, 211, 117, 156, 224, 164, 194, 115, 224, 224, 224, 134, 199, 205], 115)) (by rw [q1]; decide) (by rw [q1]; decide) (off := 129) (by rw [q1]; decide) (tgt := 130) (by decide) ?_
      refine j_aload_n hE (by decide +kernel : decode cX0_numberOf 130 = .ok (.aload_n 0, 1)) rfl rfl ?_
      obtain ⟨hk, h⟩ := h
      refine j_getI hE fg_X0_29 hk (by decide +kernel : decode cX0_numberOf 131 = .ok (.getfield 29, 3)) ?_
      exact j_iret hE (by decide +kernel : decode cX0_numberOf 134 = .ok (.ireturn, 1)) ⟨_, rfl, h⟩
    · have h := h.2 q1
      by_cases q2 : p0 = (100 : Int32)
      · have h := h.1 q2
        refine j_tableIn hE (by decide +kernel : decode cX0_numberOf 1 = .ok (.tableswitch 224 98 122 #[172, 129, 224, 216, 149, 224, 224, 180, 224, 224, 142, 122, 211, 117, 156, 224, 164, 194, 115, 224, 224, 224, 134, 199, 205], 115)) (by rw [q2]; decide) (by rw [q2]; decide) (off := 224) (by rw [q2]; decide) (tgt := 225) (by decide) ?_
        refine j_aload_n hE (by decide +kernel : decode cX0_numberOf 225 = .ok (.aload_n 0, 1)) rfl rfl ?_
        obtain ⟨hk, h⟩ := h
        obtain ⟨a2, ha, h⟩ := h
        refine j_getRn hE fg_X0_47 hk ha (by decide +kernel : decode cX0_numberOf 226 = .ok (.getfield 47, 3)) ?_
        obtain ⟨hk, h⟩ := h
        refine j_getI hE fg_X0_125 hk (by decide +kernel : decode cX0_numberOf 229 = .ok (.getfield 125, 3)) ?_
        exact j_iret hE (by decide +kernel : decode cX0_numberOf 232 = .ok (.ireturn, 1)) ⟨_, rfl, h⟩
      · have h := h.2 q2
        by_cases q3 : p0 = (101 : Int32)
        · have h := h.1 q3
          refine j_tableIn hE (by decide +kernel : decode cX0_numberOf 1 = .ok (.tableswitch 224 98 122 #[172, 129, 224, 216, 149, 224, 224, 180, 224, 224, 142, 122, 211, 117, 156, 224, 164, 194, 115, 224, 224, 224, 134, 199, 205], 115)) (by rw [q3]; decide) (by rw [q3]; decide) (off := 216) (by rw [q3]; decide) (tgt := 217) (by decide) ?_
          refine j_aload_n hE (by decide +kernel : decode cX0_numberOf 217 = .ok (.aload_n 0, 1)) rfl rfl ?_
          obtain ⟨hk, h⟩ := h
          obtain ⟨a3, ha, h⟩ := h
          refine j_getRn hE fg_X0_47 hk ha (by decide +kernel : decode cX0_numberOf 218 = .ok (.getfield 47, 3)) ?_
          obtain ⟨hk, h⟩ := h
          refine j_getI hE fg_X0_122 hk (by decide +kernel : decode cX0_numberOf 221 = .ok (.getfield 122, 3)) ?_
          exact j_iret hE (by decide +kernel : decode cX0_numberOf 224 = .ok (.ireturn, 1)) ⟨_, rfl, h⟩
        · have h := h.2 q3
          by_cases q4 : p0 = (102 : Int32)
          · have h := h.1 q4
            refine j_tableIn hE (by decide +kernel : decode cX0_numberOf 1 = .ok (.tableswitch 224 98 122 #[172, 129, 224, 216, 149, 224, 224, 180, 224, 224, 142, 122, 211, 117, 156, 224, 164, 194, 115, 224, 224, 224, 134, 199, 205], 115)) (by rw [q4]; decide) (by rw [q4]; decide) (off := 149) (by rw [q4]; decide) (tgt := 150) (by decide) ?_
            refine j_aload_n hE (by decide +kernel : decode cX0_numberOf 150 = .ok (.aload_n 0, 1)) rfl rfl ?_
            obtain ⟨hk, h⟩ := h
            obtain ⟨a4, ha, h⟩ := h
            refine j_getRn hE fg_X0_22 hk ha (by decide +kernel : decode cX0_numberOf 151 = .ok (.getfield 22, 3)) ?_
            refine j_iconst hE (by decide +kernel : decode cX0_numberOf 154 = .ok (.iconst 5, 1)) (v := (5 : Int32)) (by decide) ?_
            obtain ⟨hk, hb, h⟩ := h
            refine j_iald hE hk hb (by decide +kernel : decode cX0_numberOf 155 = .ok (.iaload, 1)) ?_
            exact j_iret hE (by decide +kernel : decode cX0_numberOf 156 = .ok (.ireturn, 1)) ⟨_, rfl, h⟩
          · have h := h.2 q4
            by_cases q5 : p0 = (103 : Int32)
            · have h := h.1 q5
              refine j_tableIn hE (by decide +kernel : decode cX0_numberOf 1 = .ok (.tableswitch 224 98 122 #[172, 129, 224, 216, 149, 224, 224, 180, 224, 224, 142, 122, 211, 117, 156, 224, 164, 194, 115, 224, 224, 224, 134, 199, 205], 115)) (by rw [q5]; decide) (by rw [q5]; decide) (off := 224) (by rw [q5]; decide) (tgt := 225) (by decide) ?_
              refine j_aload_n hE (by decide +kernel : decode cX0_numberOf 225 = .ok (.aload_n 0, 1)) rfl rfl ?_
              obtain ⟨hk, h⟩ := h
              obtain ⟨a5, ha, h⟩ := h
              refine j_getRn hE fg_X0_47 hk ha (by decide +kernel : decode cX0_numberOf 226 = .ok (.getfield 47, 3)) ?_
              obtain ⟨hk, h⟩ := h
              refine j_getI hE fg_X0_125 hk (by decide +kernel : decode cX0_numberOf 229 = .ok (.getfield 125, 3)) ?_
              exact j_iret hE (by decide +kernel : decode cX0_numberOf 232 = .ok (.ireturn, 1)) ⟨_, rfl, h⟩
            · have h := h.2 q5
              by_cases q6 : p0 = (104 : Int32)
              · have h := h.1 q6
                refine j_tableIn hE (by decide +kernel : decode cX0_numberOf 1 = .ok (.tableswitch 224 98 122 #[172, 129, 224, 216, 149, 224, 224, 180, 224, 224, 142, 122, 211, 117, 156, 224, 164, 194, 115, 224, 224, 224, 134, 199, 205], 115)) (by rw [q6]; decide) (by rw [q6]; decide) (off := 224) (by rw [q6]; decide) (tgt := 225) (by decide) ?_
                refine j_aload_n hE (by decide +kernel : decode cX0_numberOf 225 = .ok (.aload_n 0, 1)) rfl rfl ?_
                obtain ⟨hk, h⟩ := h
                obtain ⟨a6, ha, h⟩ := h
                refine j_getRn hE fg_X0_47 hk ha (by decide +kernel : decode cX0_numberOf 226 = .ok (.getfield 47, 3)) ?_
                obtain ⟨hk, h⟩ := h
                refine j_getI hE fg_X0_125 hk (by decide +kernel : decode cX0_numberOf 229 = .ok (.getfield 125, 3)) ?_
                exact j_iret hE (by decide +kernel : decode cX0_numberOf 232 = .ok (.ireturn, 1)) ⟨_, rfl, h⟩
              · have h := h.2 q6
                by_cases q7 : p0 = (105 : Int32)
                · have h := h.1 q7
                  refine j_tableIn hE (by decide +kernel : decode cX0_numberOf 1 = .ok (.tableswitch 224 98 122 #[172, 129, 224, 216, 149, 224, 224, 180, 224, 224, 142, 122, 211, 117, 156, 224, 164, 194, 115, 224, 224, 224, 134, 199, 205], 115)) (by rw [q7]; decide) (by rw [q7]; decide) (off := 180) (by rw [q7]; decide) (tgt := 181) (by decide) ?_
                  refine j_aload_n hE (by decide +kernel : decode cX0_numberOf 181 = .ok (.aload_n 0, 1)) rfl rfl ?_
                  obtain ⟨hk, h⟩ := h
                  refine j_getI hE fg_X0_32 hk (by decide +kernel : decode cX0_numberOf 182 = .ok (.getfield 32, 3)) ?_
                  refine j_iconst hE (by decide +kernel : decode cX0_numberOf 185 = .ok (.iconst (-1), 1)) (v := (-1 : Int32)) (by decide) ?_
                  refine j_icmp_ne hE (by decide +kernel : decode cX0_numberOf 186 = .ok (.if_icmp .ne 7, 3)) (tgt := 193) (by decide) (fun q => ?_) (fun q => ?_)
                  · have h := h.1 q
                    refine j_iconst hE (by decide +kernel : decode cX0_numberOf 193 = .ok (.iconst 1, 1)) (v := (1 : Int32)) (by decide) ?_
                    refine j_weak [none, none, none] trivial ?_
                    exact S_En_numberOf_194 hE _ _ h
                  · have h := h.2 q
                    refine j_iconst hE (by decide +kernel : decode cX0_numberOf 189 = .ok (.iconst 0, 1)) (v := (0 : Int32)) (by decide) ?_
                    refine j_goto hE (by decide +kernel : decode cX0_numberOf 190 = .ok (.goto 4, 3)) (tgt := 194) (by decide) ?_
                    refine j_weak [none, none, none] trivial ?_
                    exact S_En_numberOf_194 hE _ _ h
                · have h := h.2 q7
                  by_cases q8 : p0 = (106 : Int32)
                  · have h := h.1 q8
                    refine j_tableIn hE (by decide +kernel : decode cX0_numberOf 1 = .ok (.tableswitch 224 98 122 #[172, 129, 224, 216, 149, 224, 224, 180, 224, 224, 142, 122, 211, 117, 156, 224, 164, 194, 115, 224, 224, 224, 134, 199, 205], 115)) (by rw [q8]; decide) (by rw [q8]; decide) (off := 224) (by rw [q8]; decide) (tgt := 225) (by decide) ?_
                    refine j_aload_n hE (by decide +kernel : decode cX0_numberOf 225 = .ok (.aload_n 0, 1)) rfl rfl ?_
                    obtain ⟨hk, h⟩ := h
                    obtain ⟨a7, ha, h⟩ := h
                    refine j_getRn hE fg_X0_47 hk ha (by decide +kernel : decode cX0_numberOf 226 = .ok (.getfield 47, 3)) ?_
                    obtain ⟨hk, h⟩ := h
                    refine j_getI hE fg_X0_125 hk (by decide +kernel : decode cX0_numberOf 229 = .ok (.getfield 125, 3)) ?_
                    exact j_iret hE (by decide +kernel : decode cX0_numberOf 232 = .ok (.ireturn, 1)) ⟨_, rfl, h⟩
                  · have h := h.2 q8
                    by_cases q9 : p0 = (107 : Int32)
                    · have h := h.1 q9
                      refine j_tableIn hE (by decide +kernel : decode cX0_numberOf 1 = .ok (.tableswitch 224 98 122 #[172, 129, 224, 216, 149, 224, 224, 180, 224, 224, 142, 122, 211, 117, 156, 224, 164, 194, 115, 224, 224, 224, 134, 199, 205], 115)) (by rw [q9]; decide) (by rw [q9]; decide) (off := 224) (by rw [q9]; decide) (tgt := 225) (by decide) ?_
                      refine j_aload_n hE (by decide +kernel : decode cX0_numberOf 225 = .ok (.aload_n 0, 1)) rfl rfl ?_
                      obtain ⟨hk, h⟩ := h
                      obtain ⟨a8, ha, h⟩ := h
                      refine j_getRn hE fg_X0_47 hk ha (by decide +kernel : decode cX0_numberOf 226 = .ok (.getfield 47, 3)) ?_
                      obtain ⟨hk, h⟩ := h
                      refine j_getI hE fg_X0_125 hk (by decide +kernel : decode cX0_numberOf 229 = .ok (.getfield 125, 3)) ?_
                      exact j_iret hE (by decide +kernel : decode cX0_numberOf 232 = .ok (.ireturn, 1)) ⟨_, rfl, h⟩
                    · have h := h.2 q9
                      by_cases q10 : p0 = (108 : Int32)
                      · have h := h.1 q10
                        refine j_tableIn hE (by decide +kernel : decode cX0_numberOf 1 = .ok (.tableswitch 224 98 122 #[172, 129, 224, 216, 149, 224, 224, 180, 224, 224, 142, 122, 211, 117, 156, 224, 164, 194, 115, 224, 224, 224, 134, 199, 205], 115)) (by rw [q10]; decide) (by rw [q10]; decide) (off := 142) (by rw [q10]; decide) (tgt := 143) (by decide) ?_
                        refine j_aload_n hE (by decide +kernel : decode cX0_numberOf 143 = .ok (.aload_n 0, 1)) rfl rfl ?_
                        obtain ⟨hk, h⟩ := h
                        obtain ⟨a9, ha, h⟩ := h
                        refine j_getRn hE fg_X0_22 hk ha (by decide +kernel : decode cX0_numberOf 144 = .ok (.getfield 22, 3)) ?_
                        refine j_iconst hE (by decide +kernel : decode cX0_numberOf 147 = .ok (.iconst 4, 1)) (v := (4 : Int32)) (by decide) ?_
                        obtain ⟨hk, hb, h⟩ := h
                        refine j_iald hE hk hb (by decide +kernel : decode cX0_numberOf 148 = .ok (.iaload, 1)) ?_
                        exact j_iret hE (by decide +kernel : decode cX0_numberOf 149 = .ok (.ireturn, 1)) ⟨_, rfl, h⟩
                      · have h := h.2 q10
                        by_cases q11 : p0 = (109 : Int32)
                        · have h := h.1 q11
                          refine j_tableIn hE (by decide +kernel : decode cX0_numberOf 1 = .ok (.tableswitch 224 98 122 #[172, 129, 224, 216, 149, 224, 224, 180, 224, 224, 142, 122, 211, 117, 156, 224, 164, 194, 115, 224, 224, 224, 134, 199, 205], 115)) (by rw [q11]; decide) (by rw [q11]; decide) (off := 122) (by rw [q11]; decide) (tgt := 123) (by decide) ?_
                          refine j_aload_n hE (by decide +kernel : decode cX0_numberOf 123 = .ok (.aload_n 0, 1)) rfl rfl ?_
                          obtain ⟨hk, h⟩ := h
                          obtain ⟨a10, ha, h⟩ := h
                          refine j_getRn hE fg_X0_22 hk ha (by decide +kernel : decode cX0_numberOf 124 = .ok (.getfield 22, 3)) ?_
                          refine j_iconst hE (by decide +kernel : decode cX0_numberOf 127 = .ok (.iconst 1, 1)) (v := (1 : Int32)) (by decide) ?_
                          obtain ⟨hk, hb, h⟩ := h
                          refine j_iald hE hk hb (by decide +kernel : decode cX0_numberOf 128 = .ok (.iaload, 1)) ?_
                          exact j_iret hE (by decide +kernel : decode cX0_numberOf 129 = .ok (.ireturn, 1)) ⟨_, rfl, h⟩
                        · have h := h.2 q11
                          by_cases q12 : p0 = (110 : Int32)
                          · have h := h.1 q12
                            refine j_tableIn hE (by decide +kernel : decode cX0_numberOf 1 = .ok (.tableswitch 224 98 122 #[172, 129, 224, 216, 149, 224, 224, 180, 224, 224, 142, 122, 211, 117, 156, 224, 164, 194, 115, 224, 224, 224, 134, 199, 205], 115)) (by rw [q12]; decide) (by rw [q12]; decide) (off := 211) (by rw [q12]; decide) (tgt := 212) (by decide) ?_
                            refine j_aload_n hE (by decide +kernel : decode cX0_numberOf 212 = .ok (.aload_n 0, 1)) rfl rfl ?_
                            obtain ⟨hk, h⟩ := h
                            refine j_getI hE fg_X0_66 hk (by decide +kernel : decode cX0_numberOf 213 = .ok (.getfield 66, 3)) ?_
                            exact j_iret hE (by decide +kernel : decode cX0_numberOf 216 = .ok (.ireturn, 1)) ⟨_, rfl, h⟩
                          · have h := h.2 q12
                            by_cases q13 : p0 = (111 : Int32)
                            · have h := h.1 q13
                              refine j_tableIn hE (by decide +kernel : decode cX0_numberOf 1 = .ok (.tableswitch 224 98 122 #[172, 129, 224, 216, 149, 224, 224, 180, 224, 224, 142, 122, 211, 117, 156, 224, 164, 194, 115, 224, 224, 224, 134, 199, 205], 115)) (by rw [q13]; decide) (by rw [q13]; decide) (off := 117) (by rw [q13]; decide) (tgt := 118) (by decide) ?_
                              refine j_aload_n hE (by decide +kernel : decode cX0_numberOf 118 = .ok (.aload_n 0, 1)) rfl rfl ?_
                              obtain ⟨hk, h⟩ := h
                              refine j_getI hE fg_X0_51 hk (by decide +kernel : decode cX0_numberOf 119 = .ok (.getfield 51, 3)) ?_
                              exact j_iret hE (by decide +kernel : decode cX0_numberOf 122 = .ok (.ireturn, 1)) ⟨_, rfl, h⟩
                            · have h := h.2 q13
                              by_cases q14 : p0 = (112 : Int32)
                              · have h := h.1 q14
                                refine j_tableIn hE (by decide +kernel : decode cX0_numberOf 1 = .ok (.tableswitch 224 98 122 #[172, 129, 224, 216, 149, 224, 224, 180, 224, 224, 142, 122, 211, 117, 156, 224, 164, 194, 115, 224, 224, 224, 134, 199, 205], 115)) (by rw [q14]; decide) (by rw [q14]; decide) (off := 156) (by rw [q14]; decide) (tgt := 157) (by decide) ?_
                                refine j_aload_n hE (by decide +kernel : decode cX0_numberOf 157 = .ok (.aload_n 0, 1)) rfl rfl ?_
                                obtain ⟨hk, h⟩ := h
                                obtain ⟨a11, ha, h⟩ := h
                                refine j_getRn hE fg_X0_22 hk ha (by decide +kernel : decode cX0_numberOf 158 = .ok (.getfield 22, 3)) ?_
                                refine j_bipush hE (by decide +kernel : decode cX0_numberOf 161 = .ok (.bipush 7, 2)) (v := (7 : Int32)) (by decide) ?_
                                obtain ⟨hk, hb, h⟩ := h
                                refine j_iald hE hk hb (by decide +kernel : decode cX0_numberOf 163 = .ok (.iaload, 1)) ?_
                                exact j_iret hE (by decide +kernel : decode cX0_numberOf 164 = .ok (.ireturn, 1)) ⟨_, rfl, h⟩
                              · have h := h.2 q14
                                by_cases q15 : p0 = (113 : Int32)
                                · have h := h.1 q15
                                  refine j_tableIn hE (by decide +kernel : decode cX0_numberOf 1 = .ok (.tableswitch 224 98 122 #[172, 129, 224, 216, 149, 224, 224, 180, 224, 224, 142, 122, 211, 117, 156, 224, 164, 194, 115, 224, 224, 224, 134, 199, 205], 115)) (by rw [q15]; decide) (by rw [q15]; decide) (off := 224) (by rw [q15]; decide) (tgt := 225) (by decide) ?_
                                  refine j_aload_n hE (by decide +kernel : decode cX0_numberOf 225 = .ok (.aload_n 0, 1)) rfl rfl ?_
                                  obtain ⟨hk, h⟩ := h
                                  obtain ⟨a12, ha, h⟩ := h
                                  refine j_getRn hE fg_X0_47 hk ha (by decide +kernel : decode cX0_numberOf 226 = .ok (.getfield 47, 3)) ?_
                                  obtain ⟨hk, h⟩ := h
                                  refine j_getI hE fg_X0_125 hk (by decide +kernel : decode cX0_numberOf 229 = .ok (.getfield 125, 3)) ?_
                                  exact j_iret hE (by decide +kernel : decode cX0_numberOf 232 = .ok (.ireturn, 1)) ⟨_, rfl, h⟩
                                · have h := h.2 q15
                                  by_cases q16 : p0 = (114 : Int32)
                                  · have h := h.1 q16
                                    refine j_tableIn hE (by decide +kernel : decode cX0_numberOf 1 = .ok (.tableswitch 224 98 122 #[172, 129, 224, 216, 149, 224, 224, 180, 224, 224, 142, 122, 211, 117, 156, 224, 164, 194, 115, 224, 224, 224, 134, 199, 205], 115)) (by rw [q16]; decide) (by rw [q16]; decide) (off := 164) (by rw [q16]; decide) (tgt := 165) (by decide) ?_
                                    refine j_aload_n hE (by decide +kernel : decode cX0_numberOf 165 = .ok (.aload_n 0, 1)) rfl rfl ?_
                                    obtain ⟨hk, h⟩ := h
                                    obtain ⟨a13, ha, h⟩ := h
                                    refine j_getRn hE fg_X0_22 hk ha (by decide +kernel : decode cX0_numberOf 166 = .ok (.getfield 22, 3)) ?_
                                    refine j_bipush hE (by decide +kernel : decode cX0_numberOf 169 = .ok (.bipush 8, 2)) (v := (8 : Int32)) (by decide) ?_
                                    obtain ⟨hk, hb, h⟩ := h
                                    refine j_iald hE hk hb (by decide +kernel : decode cX0_numberOf 171 = .ok (.iaload, 1)) ?_
                                    exact j_iret hE (by decide +kernel : decode cX0_numberOf 172 = .ok (.ireturn, 1)) ⟨_, rfl, h⟩
                                  · have h := h.2 q16
                                    by_cases q17 : p0 = (115 : Int32)
                                    · have h := h.1 q17
                                      refine j_tableIn hE (by decide +kernel : decode cX0_numberOf 1 = .ok (.tableswitch 224 98 122 #[172, 129, 224, 216, 149, 224, 224, 180, 224, 224, 142, 122, 211, 117, 156, 224, 164, 194, 115, 224, 224, 224, 134, 199, 205], 115)) (by rw [q17]; decide) (by rw [q17]; decide) (off := 194) (by rw [q17]; decide) (tgt := 195) (by decide) ?_
                                      refine j_aload_n hE (by decide +kernel : decode cX0_numberOf 195 = .ok (.aload_n 0, 1)) rfl rfl ?_
                                      obtain ⟨hk, h⟩ := h
                                      refine j_callV hE rfl cl_X0_119 cf_1 im_X0_unlikeFigures se_X0_unlikeFigures ⟨by omega, by omega⟩ (As := []) (rest := []) rfl rfl (Nat.le_of_ble_eq_true rfl) hk (by decide +kernel : decode cX0_numberOf 196 = .ok (.invokevirtual 119, 3)) (mt_En_unlikeFigures _ _ _ h) ?_
                                      rintro _ g14 ⟨x15, rfl, h⟩
                                      exact j_iret hE (by decide +kernel : decode cX0_numberOf 199 = .ok (.ireturn, 1)) ⟨_, rfl, h⟩
                                    · have h := h.2 q17
                                      by_cases q18 : p0 = (116 : Int32)
                                      · have h := h.1 q18
                                        refine j_tableIn hE (by decide +kernel : decode cX0_numberOf 1 = .ok (.tableswitch 224 98 122 #[172, 129, 224, 216, 149, 224, 224, 180, 224, 224, 142, 122, 211, 117, 156, 224, 164, 194, 115, 224, 224, 224, 134, 199, 205], 115)) (by rw [q18]; decide) (by rw [q18]; decide) (off := 115) (by rw [q18]; decide) (tgt := 116) (by decide) ?_
                                        refine j_iload_n hE (by decide +kernel : decode cX0_numberOf 116 = .ok (.iload_n 2, 1)) rfl rfl ?_
                                        exact j_iret hE (by decide +kernel : decode cX0_numberOf 117 = .ok (.ireturn, 1)) ⟨_, rfl, h⟩
                                      · have h := h.2 q18
                                        by_cases q19 : p0 = (117 : Int32)
                                        · have h := h.1 q19
                                          refine j_tableIn hE (by decide +kernel : decode cX0_numberOf 1 = .ok (.tableswitch 224 98 122 #[172, 129, 224, 216, 149, 224, 224, 180, 224, 224, 142, 122, 211, 117, 156, 224, 164, 194, 115, 224, 224, 224, 134, 199, 205], 115)) (by rw [q19]; decide) (by rw [q19]; decide) (off := 224) (by rw [q19]; decide) (tgt := 225) (by decide) ?_
                                          refine j_aload_n hE (by decide +kernel : decode cX0_numberOf 225 = .ok (.aload_n 0, 1)) rfl rfl ?_
                                          obtain ⟨hk, h⟩ := h
                                          obtain ⟨a16, ha, h⟩ := h
                                          refine j_getRn hE fg_X0_47 hk ha (by decide +kernel : decode cX0_numberOf 226 = .ok (.getfield 47, 3)) ?_
                                          obtain ⟨hk, h⟩ := h
                                          refine j_getI hE fg_X0_125 hk (by decide +kernel : decode cX0_numberOf 229 = .ok (.getfield 125, 3)) ?_
                                          exact j_iret hE (by decide +kernel : decode cX0_numberOf 232 = .ok (.ireturn, 1)) ⟨_, rfl, h⟩
                                        · have h := h.2 q19
                                          by_cases q20 : p0 = (118 : Int32)
                                          · have h := h.1 q20
                                            refine j_tableIn hE (by decide +kernel : decode cX0_numberOf 1 = .ok (.tableswitch 224 98 122 #[172, 129, 224, 216, 149, 224, 224, 180, 224, 224, 142, 122, 211, 117, 156, 224, 164, 194, 115, 224, 224, 224, 134, 199, 205], 115)) (by rw [q20]; decide) (by rw [q20]; decide) (off := 224) (by rw [q20]; decide) (tgt := 225) (by decide) ?_
                                            refine j_aload_n hE (by decide +kernel : decode cX0_numberOf 225 = .ok (.aload_n 0, 1)) rfl rfl ?_
                                            obtain ⟨hk, h⟩ := h
                                            obtain ⟨a17, ha, h⟩ := h
                                            refine j_getRn hE fg_X0_47 hk ha (by decide +kernel : decode cX0_numberOf 226 = .ok (.getfield 47, 3)) ?_
                                            obtain ⟨hk, h⟩ := h
                                            refine j_getI hE fg_X0_125 hk (by decide +kernel : decode cX0_numberOf 229 = .ok (.getfield 125, 3)) ?_
                                            exact j_iret hE (by decide +kernel : decode cX0_numberOf 232 = .ok (.ireturn, 1)) ⟨_, rfl, h⟩
                                          · have h := h.2 q20
                                            by_cases q21 : p0 = (119 : Int32)
                                            · have h := h.1 q21
                                              refine j_tableIn hE (by decide +kernel : decode cX0_numberOf 1 = .ok (.tableswitch 224 98 122 #[172, 129, 224, 216, 149, 224, 224, 180, 224, 224, 142, 122, 211, 117, 156, 224, 164, 194, 115, 224, 224, 224, 134, 199, 205], 115)) (by rw [q21]; decide) (by rw [q21]; decide) (off := 224) (by rw [q21]; decide) (tgt := 225) (by decide) ?_
                                              refine j_aload_n hE (by decide +kernel : decode cX0_numberOf 225 = .ok (.aload_n 0, 1)) rfl rfl ?_
                                              obtain ⟨hk, h⟩ := h
                                              obtain ⟨a18, ha, h⟩ := h
                                              refine j_getRn hE fg_X0_47 hk ha (by decide +kernel : decode cX0_numberOf 226 = .ok (.getfield 47, 3)) ?_
                                              obtain ⟨hk, h⟩ := h
                                              refine j_getI hE fg_X0_125 hk (by decide +kernel : decode cX0_numberOf 229 = .ok (.getfield 125, 3)) ?_
                                              exact j_iret hE (by decide +kernel : decode cX0_numberOf 232 = .ok (.ireturn, 1)) ⟨_, rfl, h⟩
                                            · have h := h.2 q21
                                              by_cases q22 : p0 = (120 : Int32)
                                              · have h := h.1 q22
                                                refine j_tableIn hE (by decide +kernel : decode cX0_numberOf 1 = .ok (.tableswitch 224 98 122 #[172, 129, 224, 216, 149, 224, 224, 180, 224, 224, 142, 122, 211, 117, 156, 224, 164, 194, 115, 224, 224, 224, 134, 199, 205], 115)) (by rw [q22]; decide) (by rw [q22]; decide) (off := 134) (by rw [q22]; decide) (tgt := 135) (by decide) ?_
                                                refine j_aload_n hE (by decide +kernel : decode cX0_numberOf 135 = .ok (.aload_n 0, 1)) rfl rfl ?_
                                                obtain ⟨hk, h⟩ := h
                                                obtain ⟨a19, ha, h⟩ := h
                                                refine j_getRn hE fg_X0_22 hk ha (by decide +kernel : decode cX0_numberOf 136 = .ok (.getfield 22, 3)) ?_
                                                refine j_bipush hE (by decide +kernel : decode cX0_numberOf 139 = .ok (.bipush 6, 2)) (v := (6 : Int32)) (by decide) ?_
                                                obtain ⟨hk, hb, h⟩ := h
                                                refine j_iald hE hk hb (by decide +kernel : decode cX0_numberOf 141 = .ok (.iaload, 1)) ?_
                                                exact j_iret hE (by decide +kernel : decode cX0_numberOf 142 = .ok (.ireturn, 1)) ⟨_, rfl, h⟩
                                              · have h := h.2 q22
                                                by_cases q23 : p0 = (121 : Int32)
                                                · have h := h.1 q23
                                                  refine j_tableIn hE (by decide +kernel : decode cX0_numberOf 1 = .ok (.tableswitch 224 98 122 #[172, 129, 224, 216, 149, 224, 224, 180, 224, 224, 142, 122, 211, 117, 156, 224, 164, 194, 115, 224, 224, 224, 134, 199, 205], 115)) (by rw [q23]; decide) (by rw [q23]; decide) (off := 199) (by rw [q23]; decide) (tgt := 200) (by decide) ?_
                                                  refine j_aload_n hE (by decide +kernel : decode cX0_numberOf 200 = .ok (.aload_n 0, 1)) rfl rfl ?_
                                                  refine j_iconst hE (by decide +kernel : decode cX0_numberOf 201 = .ok (.iconst 1, 1)) (v := (1 : Int32)) (by decide) ?_
                                                  obtain ⟨hk, h⟩ := h
                                                  refine j_callV hE rfl cl_X0_112 cf_1 im_X0_handsThatTold se_X0_handsThatTold ⟨by omega, by omega⟩ (As := [.int (1 : Int32)]) (rest := []) rfl rfl (Nat.le_of_ble_eq_true rfl) hk (by decide +kernel : decode cX0_numberOf 202 = .ok (.invokevirtual 112, 3)) (mt_En_handsThatTold _ _ _ _ h) ?_
                                                  rintro _ g20 ⟨x21, rfl, h⟩
                                                  exact j_iret hE (by decide +kernel : decode cX0_numberOf 205 = .ok (.ireturn, 1)) ⟨_, rfl, h⟩
                                                · have h := h.2 q23
                                                  by_cases q24 : p0 = (122 : Int32)
                                                  · have h := h.1 q24
                                                    refine j_tableIn hE (by decide +kernel : decode cX0_numberOf 1 = .ok (.tableswitch 224 98 122 #[172, 129, 224, 216, 149, 224, 224, 180, 224, 224, 142, 122, 211, 117, 156, 224, 164, 194, 115, 224, 224, 224, 134, 199, 205], 115)) (by rw [q24]; decide) (by rw [q24]; decide) (off := 205) (by rw [q24]; decide) (tgt := 206) (by decide) ?_
                                                    refine j_aload_n hE (by decide +kernel : decode cX0_numberOf 206 = .ok (.aload_n 0, 1)) rfl rfl ?_
                                                    refine j_iconst hE (by decide +kernel : decode cX0_numberOf 207 = .ok (.iconst 0, 1)) (v := (0 : Int32)) (by decide) ?_
                                                    obtain ⟨hk, h⟩ := h
                                                    refine j_callV hE rfl cl_X0_112 cf_1 im_X0_handsThatTold se_X0_handsThatTold ⟨by omega, by omega⟩ (As := [.int (0 : Int32)]) (rest := []) rfl rfl (Nat.le_of_ble_eq_true rfl) hk (by decide +kernel : decode cX0_numberOf 208 = .ok (.invokevirtual 112, 3)) (mt_En_handsThatTold _ _ _ _ h) ?_
                                                    rintro _ g22 ⟨x23, rfl, h⟩
                                                    exact j_iret hE (by decide +kernel : decode cX0_numberOf 211 = .ok (.ireturn, 1)) ⟨_, rfl, h⟩
                                                  · have h := h.2 q24
                                                    have qq : (p0).toInt < 98 ∨ 122 < (p0).toInt := by
                                                      have z0 : ¬ (p0).toInt = 98 := fun e => q0 (Int32.toInt_inj.mp (e.trans (by decide)))
                                                      have z1 : ¬ (p0).toInt = 99 := fun e => q1 (Int32.toInt_inj.mp (e.trans (by decide)))
                                                      have z2 : ¬ (p0).toInt = 100 := fun e => q2 (Int32.toInt_inj.mp (e.trans (by decide)))
                                                      have z3 : ¬ (p0).toInt = 101 := fun e => q3 (Int32.toInt_inj.mp (e.trans (by decide)))
                                                      have z4 : ¬ (p0).toInt = 102 := fun e => q4 (Int32.toInt_inj.mp (e.trans (by decide)))
                                                      have z5 : ¬ (p0).toInt = 103 := fun e => q5 (Int32.toInt_inj.mp (e.trans (by decide)))
                                                      have z6 : ¬ (p0).toInt = 104 := fun e => q6 (Int32.toInt_inj.mp (e.trans (by decide)))
                                                      have z7 : ¬ (p0).toInt = 105 := fun e => q7 (Int32.toInt_inj.mp (e.trans (by decide)))
                                                      have z8 : ¬ (p0).toInt = 106 := fun e => q8 (Int32.toInt_inj.mp (e.trans (by decide)))
                                                      have z9 : ¬ (p0).toInt = 107 := fun e => q9 (Int32.toInt_inj.mp (e.trans (by decide)))
                                                      have z10 : ¬ (p0).toInt = 108 := fun e => q10 (Int32.toInt_inj.mp (e.trans (by decide)))
                                                      have z11 : ¬ (p0).toInt = 109 := fun e => q11 (Int32.toInt_inj.mp (e.trans (by decide)))
                                                      have z12 : ¬ (p0).toInt = 110 := fun e => q12 (Int32.toInt_inj.mp (e.trans (by decide)))
                                                      have z13 : ¬ (p0).toInt = 111 := fun e => q13 (Int32.toInt_inj.mp (e.trans (by decide)))
                                                      have z14 : ¬ (p0).toInt = 112 := fun e => q14 (Int32.toInt_inj.mp (e.trans (by decide)))
                                                      have z15 : ¬ (p0).toInt = 113 := fun e => q15 (Int32.toInt_inj.mp (e.trans (by decide)))
                                                      have z16 : ¬ (p0).toInt = 114 := fun e => q16 (Int32.toInt_inj.mp (e.trans (by decide)))
                                                      have z17 : ¬ (p0).toInt = 115 := fun e => q17 (Int32.toInt_inj.mp (e.trans (by decide)))
                                                      have z18 : ¬ (p0).toInt = 116 := fun e => q18 (Int32.toInt_inj.mp (e.trans (by decide)))
                                                      have z19 : ¬ (p0).toInt = 117 := fun e => q19 (Int32.toInt_inj.mp (e.trans (by decide)))
                                                      have z20 : ¬ (p0).toInt = 118 := fun e => q20 (Int32.toInt_inj.mp (e.trans (by decide)))
                                                      have z21 : ¬ (p0).toInt = 119 := fun e => q21 (Int32.toInt_inj.mp (e.trans (by decide)))
                                                      have z22 : ¬ (p0).toInt = 120 := fun e => q22 (Int32.toInt_inj.mp (e.trans (by decide)))
                                                      have z23 : ¬ (p0).toInt = 121 := fun e => q23 (Int32.toInt_inj.mp (e.trans (by decide)))
                                                      have z24 : ¬ (p0).toInt = 122 := fun e => q24 (Int32.toInt_inj.mp (e.trans (by decide)))
                                                      omega
                                                    refine j_tableOut hE (by decide +kernel : decode cX0_numberOf 1 = .ok (.tableswitch 224 98 122 #[172, 129, 224, 216, 149, 224, 224, 180, 224, 224, 142, 122, 211, 117, 156, 224, 164, 194, 115, 224, 224, 224, 134, 199, 205], 115)) qq (tgt := 225) (by decide) ?_
                                                    refine j_aload_n hE (by decide +kernel : decode cX0_numberOf 225 = .ok (.aload_n 0, 1)) rfl rfl ?_
                                                    obtain ⟨hk, h⟩ := h
                                                    obtain ⟨a24, ha, h⟩ := h
                                                    refine j_getRn hE fg_X0_47 hk ha (by decide +kernel : decode cX0_numberOf 226 = .ok (.getfield 47, 3)) ?_
                                                    obtain ⟨hk, h⟩ := h
                                                    refine j_getI hE fg_X0_125 hk (by decide +kernel : decode cX0_numberOf 229 = .ok (.getfield 125, 3)) ?_
                                                    exact j_iret hE (by decide +kernel : decode cX0_numberOf 232 = .ok (.ireturn, 1)) ⟨_, rfl, h⟩
set_option maxHeartbeats 4000000 in
set_option maxRecDepth 100000 in
theorem rl_En_numberOf {Γ : GAM} {l : Launch} {th : Nat} {p0 : Int32} {p1 : Int32} {g : GH} {K : Int32 → GH → Prop} (h0 : B_En_numberOf_0 Γ K th p0 p1 g) : MetA Γ l yX0_numberOf cX0_numberOf 3 (some (.int)) 1 24 [.ref th, .int p0, .int p1] g (fun r g' => ∃ x, r = some (.int x) ∧ K x g') := by
  refine MetA.introL (Lx := [some (.ref th), some (.int p0), some (.int p1)]) (by decide) (Nat.le_of_ble_eq_true rfl) rfl rfl ?_
  intro E hEl hE hnm
  exact S_En_numberOf_0 hE th p0 p1 g h0
-- the walk of Hp_init
set_option maxRecDepth 100000 in
def B_Hp_init_0 (Γ : GAM) (K : GH → Prop) (th : Nat) (p0 : Int32) (p1 : Int32) (g : GH) : Prop :=
  th < Hn g ∧ free g 258 th ∧ Hn g + 1 ≤ gB Γ + NCC ∧ Hu g + 5 ≤ NSS ∧ ∀ (a1 : Nat) (g2 : GH), a1 = Hn g → g2 = nA g 20 258 th (5) → Kd g2 th = 3 ∧ ∀ g3 : GH, g3 = sR g2 258 th (some a1) → Kd g3 th = 3 ∧ ∀ g4 : GH, g4 = sI g3 256 th p0 → Kd g4 th = 3 ∧ ∀ g5 : GH, g5 = sI g4 257 th p1 → K g5
set_option maxHeartbeats 4000000 in
set_option maxRecDepth 100000 in
theorem S_Hp_init_0 {Γ : GAM} {E : EV} {K : GH → Prop} (hE : GE Γ E cX1_init 3 RX1 none 1 20 (fun r g' => r = none ∧ K g')) (hnm : E.2.2.2.2.2.2.2.2.1.name = "<init>") (th : Nat) (p0 : Int32) (p1 : Int32) (g : GH) (h : B_Hp_init_0 Γ K th p0 p1 g) : JW Γ E 0 [some (.ref th), some (.int p0), some (.int p1)] [] g := by
  unfold B_Hp_init_0 at h
  refine j_aload_n hE (by decide +kernel : decode cX1_init 0 = .ok (.aload_n 0, 1)) rfl rfl ?_
  refine j_objInit hE rfl ol_X1 oi_in oi_code (Nat.le_of_ble_eq_true rfl) (by omega) (by omega) (by decide +kernel : decode cX1_init 1 = .ok (.invokespecial 3, 3)) ?_
  refine j_aload_n hE (by decide +kernel : decode cX1_init 4 = .ok (.aload_n 0, 1)) rfl rfl ?_
  refine j_iconst hE (by decide +kernel : decode cX1_init 5 = .ok (.iconst 5, 1)) (v := (5 : Int32)) (by decide) ?_
  obtain ⟨ho1, hf1, hn1, hn2, h⟩ := h
  obtain ⟨a1, ha⟩ : ∃ z, z = Hn g := ⟨_, rfl⟩; obtain ⟨g2, hg⟩ : ∃ z, z = nA g 20 258 th (5) := ⟨_, rfl⟩; have h := h a1 g2 ha hg
  refine j_newarray (k := 20) (co := 258) (ow := th) (n := (5)) (atype := .int) hE ac_int (Or.inl ⟨rfl, rfl⟩) (by decide) (by decide) (by decide) ho1 hf1 (by decide +kernel : decode cX1_init 6 = .ok (.newarray .int, 2)) hn1 hn2 ?_
  rw [← hg, ← ha]
  obtain ⟨hk, h⟩ := h
  obtain ⟨g3, hg⟩ : ∃ z, z = sR g2 258 th (some a1) := ⟨_, rfl⟩; have h := h g3 hg
  refine j_putR (v := (some a1)) hE fa_X1_9 hk (fun _ => hnm) (by decide +kernel : decode cX1_init 8 = .ok (.putfield 9, 3)) ?_
  rw [← hg]
  refine j_aload_n hE (by decide +kernel : decode cX1_init 11 = .ok (.aload_n 0, 1)) rfl rfl ?_
  refine j_iload_n hE (by decide +kernel : decode cX1_init 12 = .ok (.iload_n 1, 1)) rfl rfl ?_
  obtain ⟨hk, h⟩ := h
  obtain ⟨g4, hg⟩ : ∃ z, z = sI g3 256 th p0 := ⟨_, rfl⟩; have h := h g4 hg
  refine j_putI hE fa_X1_15 hk (fun _ => hnm) (by decide +kernel : decode cX1_init 13 = .ok (.putfield 15, 3)) ?_
  rw [← hg]
  refine j_aload_n hE (by decide +kernel : decode cX1_init 16 = .ok (.aload_n 0, 1)) rfl rfl ?_
  refine j_iload_n hE (by decide +kernel : decode cX1_init 17 = .ok (.iload_n 2, 1)) rfl rfl ?_
  obtain ⟨hk, h⟩ := h
  obtain ⟨g5, hg⟩ : ∃ z, z = sI g4 257 th p1 := ⟨_, rfl⟩; have h := h g5 hg
  refine j_putI hE fa_X1_19 hk (fun _ => hnm) (by decide +kernel : decode cX1_init 18 = .ok (.putfield 19, 3)) ?_
  rw [← hg]
  exact j_vret hE (by decide +kernel : decode cX1_init 21 = .ok (.return_, 1)) ⟨rfl, h⟩
set_option maxHeartbeats 4000000 in
set_option maxRecDepth 100000 in
theorem rl_Hp_init {Γ : GAM} {l : Launch} {th : Nat} {p0 : Int32} {p1 : Int32} {g : GH} {K : GH → Prop} (h0 : B_Hp_init_0 Γ K th p0 p1 g) : MetA Γ l yX1_init cX1_init 3 none 1 20 [.ref th, .int p0, .int p1] g (fun r g' => r = none ∧ K g') := by
  refine MetA.introL (Lx := [some (.ref th), some (.int p0), some (.int p1)]) (by decide) (Nat.le_of_ble_eq_true rfl) rfl rfl ?_
  intro E hEl hE hnm
  exact S_Hp_init_0 hE hnm th p0 p1 g h0
def Sp_PV_isChoice (Γ : GAM) (q0 : Int32) (g : GH) (K : Int32 → GH → Prop) : Prop := False
theorem mt_PV_isChoice {Γ : GAM} {l : Launch} (q0 : Int32) (g : GH) (K : Int32 → GH → Prop) (h : Sp_PV_isChoice Γ q0 g K) : MetA Γ l yX10_isChoice cX10_isChoice 1 (some (.boolean)) 0 0 [.int q0] g (fun r g' => ∃ x, r = some (.int x) ∧ K x g') := h.elim
-- the walk of Hp_lay
set_option maxRecDepth 100000 in
def B_Hp_lay_41 (Γ : GAM) (K : GH → Prop)  (g : GH) : Prop :=
  K g
set_option maxHeartbeats 4000000 in
set_option maxRecDepth 100000 in
theorem S_Hp_lay_41 {Γ : GAM} {E : EV} {K : GH → Prop} (hE : GE Γ E cX1_lay 2 RX1 none 1 20 (fun r g' => r = none ∧ K g'))  (g : GH) (h : B_Hp_lay_41 Γ K  g) : JW Γ E 41 [none, none] [] g := by
  unfold B_Hp_lay_41 at h
  exact j_vret hE (by decide +kernel : decode cX1_lay 41 = .ok (.return_, 1)) ⟨rfl, h⟩
set_option maxRecDepth 100000 in
def B_Hp_lay_0 (Γ : GAM) (K : GH → Prop) (th : Nat) (p0 : Nat) (g : GH) : Prop :=
  Kd g p0 = 2 ∧ Sp_PV_isChoice Γ (Gi g 131 p0) g (fun (x2 : Int32) (g1 : GH) => ((x2 = 0 → B_Hp_lay_41 Γ K g1) ∧ (¬ (x2 = 0) → Kd g1 th = 3 ∧ Kd g1 p0 = 2 ∧ ∀ g3 : GH, g3 = sI g1 134 p0 (Gi g1 256 th) → Kd g3 th = 3 ∧ ∃ a4 : Nat, Gr g3 258 th = some a4 ∧ Kd g3 p0 = 2 ∧ Kd g3 a4 = 20 ∧ inB (Gi g3 131 p0) (Ln g3 a4) ∧ Kd g3 a4 = 20 ∧ inB (Gi g3 131 p0) (Ln g3 a4) ∧ ∀ g5 : GH, g5 = sA g3 (Co g3 a4) (Ow g3 a4) (Gi g3 131 p0).toNatClampNeg ((Ia g3 (Co g3 a4) (Ow g3 a4) (Gi g3 131 p0).toNatClampNeg) + (1 : Int32)) → Kd g5 th = 3 ∧ Kd g5 th = 3 ∧ ∀ g6 : GH, g6 = sI g5 259 th ((Gi g5 259 th) + (1 : Int32)) → B_Hp_lay_41 Γ K g6)))
set_option maxHeartbeats 4000000 in
set_option maxRecDepth 100000 in
theorem S_Hp_lay_0 {Γ : GAM} {E : EV} {K : GH → Prop} (hE : GE Γ E cX1_lay 2 RX1 none 1 20 (fun r g' => r = none ∧ K g')) (th : Nat) (p0 : Nat) (g : GH) (h : B_Hp_lay_0 Γ K th p0 g) : JW Γ E 0 [some (.ref th), some (.ref p0)] [] g := by
  unfold B_Hp_lay_0 at h
  refine j_aload_n hE (by decide +kernel : decode cX1_lay 0 = .ok (.aload_n 1, 1)) rfl rfl ?_
  obtain ⟨hk, h⟩ := h
  refine j_getI hE fg_X1_22 hk (by decide +kernel : decode cX1_lay 1 = .ok (.getfield 22, 3)) ?_
  refine j_callSN hE rfl cl_X1_27 st_X10_isChoice ⟨by omega, by omega⟩ (As := [.int (Gi g 131 p0)]) (rest := []) rfl rfl (Nat.le_of_ble_eq_true rfl) (by decide +kernel : decode cX1_lay 4 = .ok (.invokestatic 27, 3)) (mt_PV_isChoice _ _ _ h) ?_
  rintro _ g1 ⟨x2, rfl, h⟩
  refine j_if_eq hE (by decide +kernel : decode cX1_lay 7 = .ok (.ifCond .eq 34, 3)) (tgt := 41) (by decide) (fun q => ?_) (fun q => ?_)
  · have h := h.1 q
    refine j_weak [none, none] trivial ?_
    exact S_Hp_lay_41 hE _ h
  · have h := h.2 q
    refine j_aload_n hE (by decide +kernel : decode cX1_lay 10 = .ok (.aload_n 1, 1)) rfl rfl ?_
    refine j_aload_n hE (by decide +kernel : decode cX1_lay 11 = .ok (.aload_n 0, 1)) rfl rfl ?_
    obtain ⟨hk, h⟩ := h
    refine j_getI hE fg_X1_15 hk (by decide +kernel : decode cX1_lay 12 = .ok (.getfield 15, 3)) ?_
    obtain ⟨hk, h⟩ := h
    obtain ⟨g3, hg⟩ : ∃ z, z = sI g1 134 p0 (Gi g1 256 th) := ⟨_, rfl⟩; have h := h g3 hg
    refine j_putI hE fa_X1_31 hk (fun q => by cases q) (by decide +kernel : decode cX1_lay 15 = .ok (.putfield 31, 3)) ?_
    rw [← hg]
    refine j_aload_n hE (by decide +kernel : decode cX1_lay 18 = .ok (.aload_n 0, 1)) rfl rfl ?_
    obtain ⟨hk, h⟩ := h
    obtain ⟨a4, ha, h⟩ := h
    refine j_getRn hE fg_X1_9 hk ha (by decide +kernel : decode cX1_lay 19 = .ok (.getfield 9, 3)) ?_
    refine j_aload_n hE (by decide +kernel : decode cX1_lay 22 = .ok (.aload_n 1, 1)) rfl rfl ?_
    obtain ⟨hk, h⟩ := h
    refine j_getI hE fg_X1_22 hk (by decide +kernel : decode cX1_lay 23 = .ok (.getfield 22, 3)) ?_
    refine j_dup2 hE (by decide +kernel : decode cX1_lay 26 = .ok (.dup2, 1)) rfl rfl ?_
    obtain ⟨hk, hb, h⟩ := h
    refine j_iald hE hk hb (by decide +kernel : decode cX1_lay 27 = .ok (.iaload, 1)) ?_
    refine j_iconst hE (by decide +kernel : decode cX1_lay 28 = .ok (.iconst 1, 1)) (v := (1 : Int32)) (by decide) ?_
    refine j_iadd hE (by decide +kernel : decode cX1_lay 29 = .ok (.iadd, 1)) ?_
    obtain ⟨hk, hb, h⟩ := h
    obtain ⟨g5, hg⟩ : ∃ z, z = sA g3 (Co g3 a4) (Ow g3 a4) (Gi g3 131 p0).toNatClampNeg ((Ia g3 (Co g3 a4) (Ow g3 a4) (Gi g3 131 p0).toNatClampNeg) + (1 : Int32)) := ⟨_, rfl⟩; have h := h g5 hg
    refine j_iast hE hk hb (by decide +kernel : decode cX1_lay 30 = .ok (.iastore, 1)) ?_
    rw [← hg]
    refine j_aload_n hE (by decide +kernel : decode cX1_lay 31 = .ok (.aload_n 0, 1)) rfl rfl ?_
    refine j_dup hE (by decide +kernel : decode cX1_lay 32 = .ok (.dup, 1)) rfl ?_
    obtain ⟨hk, h⟩ := h
    refine j_getI hE fg_X1_34 hk (by decide +kernel : decode cX1_lay 33 = .ok (.getfield 34, 3)) ?_
    refine j_iconst hE (by decide +kernel : decode cX1_lay 36 = .ok (.iconst 1, 1)) (v := (1 : Int32)) (by decide) ?_
    refine j_iadd hE (by decide +kernel : decode cX1_lay 37 = .ok (.iadd, 1)) ?_
    obtain ⟨hk, h⟩ := h
    obtain ⟨g6, hg⟩ : ∃ z, z = sI g5 259 th ((Gi g5 259 th) + (1 : Int32)) := ⟨_, rfl⟩; have h := h g6 hg
    refine j_putI hE fa_X1_34 hk (fun q => by cases q) (by decide +kernel : decode cX1_lay 38 = .ok (.putfield 34, 3)) ?_
    rw [← hg]
    refine j_weak [none, none] trivial ?_
    exact S_Hp_lay_41 hE _ h
set_option maxHeartbeats 4000000 in
set_option maxRecDepth 100000 in
theorem rl_Hp_lay {Γ : GAM} {l : Launch} {th : Nat} {p0 : Nat} {g : GH} {K : GH → Prop} (h0 : B_Hp_lay_0 Γ K th p0 g) : MetA Γ l yX1_lay cX1_lay 2 none 1 20 [.ref th, .ref p0] g (fun r g' => r = none ∧ K g') := by
  refine MetA.introL (Lx := [some (.ref th), some (.ref p0)]) (by decide) (Nat.le_of_ble_eq_true rfl) rfl rfl ?_
  intro E hEl hE hnm
  exact S_Hp_lay_0 hE th p0 g h0
-- the walk of Ju_init
set_option maxRecDepth 100000 in
def B_Ju_init_0 (Γ : GAM) (K : GH → Prop) (th : Nat) (g : GH) : Prop :=
  Hn g + 1 ≤ gB Γ + NCC ∧ Hu g + 3 ≤ NSS ∧ ∀ (a1 : Nat) (g2 : GH), a1 = Hn g → g2 = nO g 0 3 → (∀ f, Gi g f (Hn g) = 0) → (∀ f, Gr g f (Hn g) = none) → (∀ c, free g c (Hn g)) → (∀ a, Hn g ≤ a → Kd g a = 0) → Sp_AL_init Γ a1 g2 (fun (g3 : GH) => Kd g3 th = 4 ∧ ∀ g4 : GH, g4 = sR g3 384 th (some a1) → th < Hn g4 ∧ free g4 385 th ∧ Hn g4 + 1 ≤ gB Γ + NCC ∧ Hu g4 + 200 ≤ NSS ∧ ∀ (a5 : Nat) (g6 : GH), a5 = Hn g4 → g6 = nA g4 20 385 th (200) → Kd g6 th = 4 ∧ ∀ g7 : GH, g7 = sR g6 385 th (some a5) → K g7)
set_option maxHeartbeats 4000000 in
set_option maxRecDepth 100000 in
theorem S_Ju_init_0 {Γ : GAM} {E : EV} {K : GH → Prop} (hE : GE Γ E cX2_init 1 RX2 none 1 20 (fun r g' => r = none ∧ K g')) (hnm : E.2.2.2.2.2.2.2.2.1.name = "<init>") (th : Nat) (g : GH) (h : B_Ju_init_0 Γ K th g) : JW Γ E 0 [some (.ref th)] [] g := by
  unfold B_Ju_init_0 at h
  refine j_aload_n hE (by decide +kernel : decode cX2_init 0 = .ok (.aload_n 0, 1)) rfl rfl ?_
  refine j_objInit hE rfl ol_X2 oi_in oi_code (Nat.le_of_ble_eq_true rfl) (by omega) (by omega) (by decide +kernel : decode cX2_init 1 = .ok (.invokespecial 3, 3)) ?_
  refine j_aload_n hE (by decide +kernel : decode cX2_init 4 = .ok (.aload_n 0, 1)) rfl rfl ?_
  obtain ⟨hn1, hn2, h⟩ := h
  refine j_new hE cf_0 ck_X2_9 in_Jx4a65c (by decide +kernel : decode cX2_init 5 = .ok (.new 9, 3)) hn1 hn2 (fun f1 f2 f3 f4 => ?_)
  obtain ⟨a1, ha⟩ : ∃ z, z = Hn g := ⟨_, rfl⟩; obtain ⟨g2, hg⟩ : ∃ z, z = nO g 0 3 := ⟨_, rfl⟩; have h := h a1 g2 ha hg f1 f2 f3 f4; rw [← hg, ← ha]
  refine j_dup hE (by decide +kernel : decode cX2_init 8 = .ok (.dup, 1)) rfl ?_
  refine j_callI hE rfl cl_X2_11 im_Jx4a65c_init_da8c8 rfl ⟨by omega, by omega⟩ (As := []) (rest := [.ref a1, .ref th]) (b := a1) rfl rfl (Nat.le_of_ble_eq_true rfl) (by decide +kernel : decode cX2_init 9 = .ok (.invokespecial 11, 3)) (mt_AL_init _ _ _ h) ?_
  rintro _ g3 ⟨rfl, h⟩
  obtain ⟨hk, h⟩ := h
  obtain ⟨g4, hg⟩ : ∃ z, z = sR g3 384 th (some a1) := ⟨_, rfl⟩; have h := h g4 hg
  refine j_putR (v := (some a1)) hE fa_X2_12 hk (fun _ => hnm) (by decide +kernel : decode cX2_init 12 = .ok (.putfield 12, 3)) ?_
  rw [← hg]
  refine j_aload_n hE (by decide +kernel : decode cX2_init 15 = .ok (.aload_n 0, 1)) rfl rfl ?_
  refine j_sipush hE (by decide +kernel : decode cX2_init 16 = .ok (.sipush 200, 3)) (v := (200 : Int32)) (by decide) ?_
  obtain ⟨ho1, hf1, hn1, hn2, h⟩ := h
  obtain ⟨a5, ha⟩ : ∃ z, z = Hn g4 := ⟨_, rfl⟩; obtain ⟨g6, hg⟩ : ∃ z, z = nA g4 20 385 th (200) := ⟨_, rfl⟩; have h := h a5 g6 ha hg
  refine j_newarray (k := 20) (co := 385) (ow := th) (n := (200)) (atype := .int) hE ac_int (Or.inl ⟨rfl, rfl⟩) (by decide) (by decide) (by decide) ho1 hf1 (by decide +kernel : decode cX2_init 19 = .ok (.newarray .int, 2)) hn1 hn2 ?_
  rw [← hg, ← ha]
  obtain ⟨hk, h⟩ := h
  obtain ⟨g7, hg⟩ : ∃ z, z = sR g6 385 th (some a5) := ⟨_, rfl⟩; have h := h g7 hg
  refine j_putR (v := (some a5)) hE fa_X2_18 hk (fun _ => hnm) (by decide +kernel : decode cX2_init 21 = .ok (.putfield 18, 3)) ?_
  rw [← hg]
  exact j_vret hE (by decide +kernel : decode cX2_init 24 = .ok (.return_, 1)) ⟨rfl, h⟩
set_option maxHeartbeats 4000000 in
set_option maxRecDepth 100000 in
theorem rl_Ju_init {Γ : GAM} {l : Launch} {th : Nat} {g : GH} {K : GH → Prop} (h0 : B_Ju_init_0 Γ K th g) : MetA Γ l yX2_init cX2_init 1 none 1 20 [.ref th] g (fun r g' => r = none ∧ K g') := by
  refine MetA.introL (Lx := [some (.ref th)]) (by decide) (Nat.le_of_ble_eq_true rfl) rfl rfl ?_
  intro E hEl hE hnm
  exact S_Ju_init_0 hE hnm th g h0
-- the walk of Ju_inForce
set_option maxRecDepth 100000 in
def B_Ju_inForce_83 (Γ : GAM) (K9 : Nat → Int32 → Int32 → Int32 → Int32 → Int32 → Int32 → GH → Prop) (K : Int32 → GH → Prop) (l0 : Nat) (l1 : Int32) (l2 : Int32) (l3 : Int32) (l4 : Int32) (l5 : Int32) (l6 : Int32) (g : GH) : Prop :=
  K9 l0 l1 l2 l3 l4 l5 (l6 + (1 : Int32)) g
set_option maxHeartbeats 4000000 in
set_option maxRecDepth 100000 in
theorem S_Ju_inForce_83 {Γ : GAM} {E : EV} {K : Int32 → GH → Prop} (hE : GE Γ E cX2_inForce 8 RX2 (some (.int)) 1 21 (fun r g' => ∃ x, r = some (.int x) ∧ K x g')) {K9 : Nat → Int32 → Int32 → Int32 → Int32 → Int32 → Int32 → GH → Prop} (hK9 : ∀ (l0 : Nat) (l1 : Int32) (l2 : Int32) (l3 : Int32) (l4 : Int32) (l5 : Int32) (l6 : Int32) (g : GH), K9 l0 l1 l2 l3 l4 l5 l6 g → JW Γ E 9 [some (.ref l0), some (.int l1), some (.int l2), some (.int l3), some (.int l4), some (.int l5), some (.int l6), none] [] g) (l0 : Nat) (l1 : Int32) (l2 : Int32) (l3 : Int32) (l4 : Int32) (l5 : Int32) (l6 : Int32) (g : GH) (h : B_Ju_inForce_83 Γ K9 K l0 l1 l2 l3 l4 l5 l6 g) : JW Γ E 83 [some (.ref l0), some (.int l1), some (.int l2), some (.int l3), some (.int l4), some (.int l5), some (.int l6), none] [] g := by
  unfold B_Ju_inForce_83 at h
  refine j_iinc hE (by decide +kernel : decode cX2_inForce 83 = .ok (.iinc 6 1, 3)) (v := (1 : Int32)) (by decide) rfl (Nat.le_of_ble_eq_true rfl) rfl ?_
  refine j_goto hE (by decide +kernel : decode cX2_inForce 86 = .ok (.goto (-77), 3)) (tgt := 9) (by decide) ?_
  exact hK9 _ _ _ _ _ _ _ _ h
set_option maxRecDepth 100000 in
def B_Ju_inForce_9 (Γ : GAM) (K9 : Nat → Int32 → Int32 → Int32 → Int32 → Int32 → Int32 → GH → Prop) (K : Int32 → GH → Prop) (l0 : Nat) (l1 : Int32) (l2 : Int32) (l3 : Int32) (l4 : Int32) (l5 : Int32) (l6 : Int32) (g : GH) : Prop :=
  Kd g l0 = 4 ∧ ∃ a1 : Nat, Gr g 384 l0 = some a1 ∧ Kd g a1 = 1 ∧ Sp_AL_size Γ a1 g (fun (x3 : Int32) (g2 : GH) => ((x3 ≤ l6 → K l4 g2) ∧ (¬ (x3 ≤ l6) → Kd g2 l0 = 4 ∧ ∃ a4 : Nat, Gr g2 384 l0 = some a4 ∧ Kd g2 a4 = 1 ∧ Sp_AL_get Γ a4 l6 g2 (fun (a6 : Nat) (g5 : GH) => Kd g5 a6 = 5 ∧ Kd g5 a6 = 5 ∧ ((¬ ((Gi g5 512 a6) = l1) → B_Ju_inForce_83 Γ K9 K l0 l1 l2 l3 l4 l5 l6 g5) ∧ ((Gi g5 512 a6) = l1 → Kd g5 a6 = 5 ∧ ((l3 < (Gi g5 514 a6) → B_Ju_inForce_83 Γ K9 K l0 l1 l2 l3 l4 l5 l6 g5) ∧ (¬ (l3 < (Gi g5 514 a6)) → Kd g5 a6 = 5 ∧ ((l2 < (Gi g5 513 a6) → B_Ju_inForce_83 Γ K9 K l0 l1 l2 l3 l4 l5 l6 g5) ∧ (¬ (l2 < (Gi g5 513 a6)) → Kd g5 a6 = 5 ∧ (((Gi g5 513 a6) < l5 → B_Ju_inForce_83 Γ K9 K l0 l1 l2 l3 l4 l5 l6 g5) ∧ (¬ ((Gi g5 513 a6) < l5) → Kd g5 a6 = 5 ∧ ∀ x7 : Int32, x7 = (Gi g5 513 a6) → B_Ju_inForce_83 Γ K9 K l0 l1 l2 l3 l6 x7 l6 g5))))))))))))
set_option maxHeartbeats 4000000 in
set_option maxRecDepth 100000 in
theorem S_Ju_inForce_9 {Γ : GAM} {E : EV} {K : Int32 → GH → Prop} (hE : GE Γ E cX2_inForce 8 RX2 (some (.int)) 1 21 (fun r g' => ∃ x, r = some (.int x) ∧ K x g')) {K9 : Nat → Int32 → Int32 → Int32 → Int32 → Int32 → Int32 → GH → Prop} (hK9 : ∀ (l0 : Nat) (l1 : Int32) (l2 : Int32) (l3 : Int32) (l4 : Int32) (l5 : Int32) (l6 : Int32) (g : GH), K9 l0 l1 l2 l3 l4 l5 l6 g → JW Γ E 9 [some (.ref l0), some (.int l1), some (.int l2), some (.int l3), some (.int l4), some (.int l5), some (.int l6), none] [] g) (l0 : Nat) (l1 : Int32) (l2 : Int32) (l3 : Int32) (l4 : Int32) (l5 : Int32) (l6 : Int32) (g : GH) (h : B_Ju_inForce_9 Γ K9 K l0 l1 l2 l3 l4 l5 l6 g) : JW Γ E 9 [some (.ref l0), some (.int l1), some (.int l2), some (.int l3), some (.int l4), some (.int l5), some (.int l6), none] [] g := by
  unfold B_Ju_inForce_9 at h
  refine j_iload hE (by decide +kernel : decode cX2_inForce 9 = .ok (.iload 6, 2)) rfl ?_
  refine j_aload_n hE (by decide +kernel : decode cX2_inForce 11 = .ok (.aload_n 0, 1)) rfl rfl ?_
  obtain ⟨hk, h⟩ := h
  obtain ⟨a1, ha, h⟩ := h
  refine j_getRn hE fg_X2_12 hk ha (by decide +kernel : decode cX2_inForce 12 = .ok (.getfield 12, 3)) ?_
  obtain ⟨hk, h⟩ := h
  refine j_callV hE rfl cl_X2_22 cf_0 im_Jx4a65c_size_8abf5 se_Jx4a65c_size_8abf5 ⟨by omega, by omega⟩ (As := []) (rest := [.int l6]) rfl rfl (Nat.le_of_ble_eq_true rfl) hk (by decide +kernel : decode cX2_inForce 15 = .ok (.invokevirtual 22, 3)) (mt_AL_size _ _ _ h) ?_
  rintro _ g2 ⟨x3, rfl, h⟩
  refine j_icmp_ge hE (by decide +kernel : decode cX2_inForce 18 = .ok (.if_icmp .ge 71, 3)) (tgt := 89) (by decide) (fun q => ?_) (fun q => ?_)
  · have h := h.1 q
    refine j_iload hE (by decide +kernel : decode cX2_inForce 89 = .ok (.iload 4, 2)) rfl ?_
    exact j_iret hE (by decide +kernel : decode cX2_inForce 91 = .ok (.ireturn, 1)) ⟨_, rfl, h⟩
  · have h := h.2 q
    refine j_aload_n hE (by decide +kernel : decode cX2_inForce 21 = .ok (.aload_n 0, 1)) rfl rfl ?_
    obtain ⟨hk, h⟩ := h
    obtain ⟨a4, ha, h⟩ := h
    refine j_getRn hE fg_X2_12 hk ha (by decide +kernel : decode cX2_inForce 22 = .ok (.getfield 12, 3)) ?_
    refine j_iload hE (by decide +kernel : decode cX2_inForce 25 = .ok (.iload 6, 2)) rfl ?_
    obtain ⟨hk, h⟩ := h
    refine j_callV hE rfl cl_X2_26 cf_0 im_Jx4a65c_get_915e3 se_Jx4a65c_get_915e3 ⟨by omega, by omega⟩ (As := [.int l6]) (rest := []) rfl rfl (Nat.le_of_ble_eq_true rfl) hk (by decide +kernel : decode cX2_inForce 27 = .ok (.invokevirtual 26, 3)) (mt_AL_get _ _ _ _ h) ?_
    rintro _ g5 ⟨a6, rfl, h⟩
    obtain ⟨hk, h⟩ := h
    refine j_cast hE cf_4 ck_X2_30 hk (by decide +kernel : decode cX2_inForce 30 = .ok (.checkcast 30, 3)) ?_
    refine j_astore hE (by decide +kernel : decode cX2_inForce 33 = .ok (.astore 7, 2)) (Nat.le_of_ble_eq_true rfl) rfl ?_
    refine j_aload hE (by decide +kernel : decode cX2_inForce 35 = .ok (.aload 7, 2)) rfl ?_
    obtain ⟨hk, h⟩ := h
    refine j_getI hE fg_X2_32 hk (by decide +kernel : decode cX2_inForce 37 = .ok (.getfield 32, 3)) ?_
    refine j_iload_n hE (by decide +kernel : decode cX2_inForce 40 = .ok (.iload_n 1, 1)) rfl rfl ?_
    refine j_icmp_ne hE (by decide +kernel : decode cX2_inForce 41 = .ok (.if_icmp .ne 42, 3)) (tgt := 83) (by decide) (fun q => ?_) (fun q => ?_)
    · have h := h.1 q
      refine j_weak [some (.ref l0), some (.int l1), some (.int l2), some (.int l3), some (.int l4), some (.int l5), some (.int l6), none] ⟨rfl, ⟨rfl, ⟨rfl, ⟨rfl, ⟨rfl, ⟨rfl, ⟨rfl, trivial⟩⟩⟩⟩⟩⟩⟩ ?_
      exact S_Ju_inForce_83 hE hK9 _ _ _ _ _ _ _ _ h
    · have h := h.2 q
      refine j_aload hE (by decide +kernel : decode cX2_inForce 44 = .ok (.aload 7, 2)) rfl ?_
      obtain ⟨hk, h⟩ := h
      refine j_getI hE fg_X2_36 hk (by decide +kernel : decode cX2_inForce 46 = .ok (.getfield 36, 3)) ?_
      refine j_iload_n hE (by decide +kernel : decode cX2_inForce 49 = .ok (.iload_n 3, 1)) rfl rfl ?_
      refine j_icmp_gt hE (by decide +kernel : decode cX2_inForce 50 = .ok (.if_icmp .gt 33, 3)) (tgt := 83) (by decide) (fun q => ?_) (fun q => ?_)
      · have h := h.1 q
        refine j_weak [some (.ref l0), some (.int l1), some (.int l2), some (.int l3), some (.int l4), some (.int l5), some (.int l6), none] ⟨rfl, ⟨rfl, ⟨rfl, ⟨rfl, ⟨rfl, ⟨rfl, ⟨rfl, trivial⟩⟩⟩⟩⟩⟩⟩ ?_
        exact S_Ju_inForce_83 hE hK9 _ _ _ _ _ _ _ _ h
      · have h := h.2 q
        refine j_aload hE (by decide +kernel : decode cX2_inForce 53 = .ok (.aload 7, 2)) rfl ?_
        obtain ⟨hk, h⟩ := h
        refine j_getI hE fg_X2_39 hk (by decide +kernel : decode cX2_inForce 55 = .ok (.getfield 39, 3)) ?_
        refine j_iload_n hE (by decide +kernel : decode cX2_inForce 58 = .ok (.iload_n 2, 1)) rfl rfl ?_
        refine j_icmp_gt hE (by decide +kernel : decode cX2_inForce 59 = .ok (.if_icmp .gt 24, 3)) (tgt := 83) (by decide) (fun q => ?_) (fun q => ?_)
        · have h := h.1 q
          refine j_weak [some (.ref l0), some (.int l1), some (.int l2), some (.int l3), some (.int l4), some (.int l5), some (.int l6), none] ⟨rfl, ⟨rfl, ⟨rfl, ⟨rfl, ⟨rfl, ⟨rfl, ⟨rfl, trivial⟩⟩⟩⟩⟩⟩⟩ ?_
          exact S_Ju_inForce_83 hE hK9 _ _ _ _ _ _ _ _ h
        · have h := h.2 q
          refine j_aload hE (by decide +kernel : decode cX2_inForce 62 = .ok (.aload 7, 2)) rfl ?_
          obtain ⟨hk, h⟩ := h
          refine j_getI hE fg_X2_39 hk (by decide +kernel : decode cX2_inForce 64 = .ok (.getfield 39, 3)) ?_
          refine j_iload hE (by decide +kernel : decode cX2_inForce 67 = .ok (.iload 5, 2)) rfl ?_
          refine j_icmp_lt hE (by decide +kernel : decode cX2_inForce 69 = .ok (.if_icmp .lt 14, 3)) (tgt := 83) (by decide) (fun q => ?_) (fun q => ?_)
          · have h := h.1 q
            refine j_weak [some (.ref l0), some (.int l1), some (.int l2), some (.int l3), some (.int l4), some (.int l5), some (.int l6), none] ⟨rfl, ⟨rfl, ⟨rfl, ⟨rfl, ⟨rfl, ⟨rfl, ⟨rfl, trivial⟩⟩⟩⟩⟩⟩⟩ ?_
            exact S_Ju_inForce_83 hE hK9 _ _ _ _ _ _ _ _ h
          · have h := h.2 q
            refine j_iload hE (by decide +kernel : decode cX2_inForce 72 = .ok (.iload 6, 2)) rfl ?_
            refine j_istore hE (by decide +kernel : decode cX2_inForce 74 = .ok (.istore 4, 2)) (Nat.le_of_ble_eq_true rfl) rfl ?_
            refine j_aload hE (by decide +kernel : decode cX2_inForce 76 = .ok (.aload 7, 2)) rfl ?_
            obtain ⟨hk, h⟩ := h
            refine j_getI hE fg_X2_39 hk (by decide +kernel : decode cX2_inForce 78 = .ok (.getfield 39, 3)) ?_
            obtain ⟨x7, hx⟩ : ∃ z, z = (Gi g5 513 a6) := ⟨_, rfl⟩; have h := h x7 hx; rw [← hx]
            refine j_istore hE (by decide +kernel : decode cX2_inForce 81 = .ok (.istore 5, 2)) (Nat.le_of_ble_eq_true rfl) rfl ?_
            refine j_weak [some (.ref l0), some (.int l1), some (.int l2), some (.int l3), some (.int l6), some (.int x7), some (.int l6), none] ⟨rfl, ⟨rfl, ⟨rfl, ⟨rfl, ⟨rfl, ⟨rfl, ⟨rfl, trivial⟩⟩⟩⟩⟩⟩⟩ ?_
            exact S_Ju_inForce_83 hE hK9 _ _ _ _ _ _ _ _ h
set_option maxRecDepth 100000 in
def B_Ju_inForce_0 (Γ : GAM) (K9 : Nat → Int32 → Int32 → Int32 → Int32 → Int32 → Int32 → GH → Prop) (K : Int32 → GH → Prop) (th : Nat) (p0 : Int32) (p1 : Int32) (p2 : Int32) (g : GH) : Prop :=
  K9 th p0 p1 p2 (-1 : Int32) (-1 : Int32) (0 : Int32) g
set_option maxHeartbeats 4000000 in
set_option maxRecDepth 100000 in
theorem S_Ju_inForce_0 {Γ : GAM} {E : EV} {K : Int32 → GH → Prop} (hE : GE Γ E cX2_inForce 8 RX2 (some (.int)) 1 21 (fun r g' => ∃ x, r = some (.int x) ∧ K x g')) {K9 : Nat → Int32 → Int32 → Int32 → Int32 → Int32 → Int32 → GH → Prop} (hK9 : ∀ (l0 : Nat) (l1 : Int32) (l2 : Int32) (l3 : Int32) (l4 : Int32) (l5 : Int32) (l6 : Int32) (g : GH), K9 l0 l1 l2 l3 l4 l5 l6 g → JW Γ E 9 [some (.ref l0), some (.int l1), some (.int l2), some (.int l3), some (.int l4), some (.int l5), some (.int l6), none] [] g) (th : Nat) (p0 : Int32) (p1 : Int32) (p2 : Int32) (g : GH) (h : B_Ju_inForce_0 Γ K9 K th p0 p1 p2 g) : JW Γ E 0 [some (.ref th), some (.int p0), some (.int p1), some (.int p2), none, none, none, none] [] g := by
  unfold B_Ju_inForce_0 at h
  refine j_iconst hE (by decide +kernel : decode cX2_inForce 0 = .ok (.iconst (-1), 1)) (v := (-1 : Int32)) (by decide) ?_
  refine j_istore hE (by decide +kernel : decode cX2_inForce 1 = .ok (.istore 4, 2)) (Nat.le_of_ble_eq_true rfl) rfl ?_
  refine j_iconst hE (by decide +kernel : decode cX2_inForce 3 = .ok (.iconst (-1), 1)) (v := (-1 : Int32)) (by decide) ?_
  refine j_istore hE (by decide +kernel : decode cX2_inForce 4 = .ok (.istore 5, 2)) (Nat.le_of_ble_eq_true rfl) rfl ?_
  refine j_iconst hE (by decide +kernel : decode cX2_inForce 6 = .ok (.iconst 0, 1)) (v := (0 : Int32)) (by decide) ?_
  refine j_istore hE (by decide +kernel : decode cX2_inForce 7 = .ok (.istore 6, 2)) (Nat.le_of_ble_eq_true rfl) rfl ?_
  exact hK9 _ _ _ _ _ _ _ _ h
set_option maxHeartbeats 4000000 in
set_option maxRecDepth 100000 in
theorem rl_Ju_inForce {Γ : GAM} {l : Launch} {th : Nat} {p0 : Int32} {p1 : Int32} {p2 : Int32} {g : GH} {K : Int32 → GH → Prop} (I9 : Nat → Nat → Int32 → Int32 → Int32 → Int32 → Int32 → Int32 → GH → Prop) (hh9 : ∀ n (l0 : Nat) (l1 : Int32) (l2 : Int32) (l3 : Int32) (l4 : Int32) (l5 : Int32) (l6 : Int32) (g : GH), I9 n l0 l1 l2 l3 l4 l5 l6 g → B_Ju_inForce_9 Γ (fun l0 l1 l2 l3 l4 l5 l6 g => ∃ m, m < n ∧ I9 m l0 l1 l2 l3 l4 l5 l6 g) K l0 l1 l2 l3 l4 l5 l6 g) (h0 : B_Ju_inForce_0 Γ (fun l0 l1 l2 l3 l4 l5 l6 g => ∃ m, I9 m l0 l1 l2 l3 l4 l5 l6 g) K th p0 p1 p2 g) : MetA Γ l yX2_inForce cX2_inForce 8 (some (.int)) 1 21 [.ref th, .int p0, .int p1, .int p2] g (fun r g' => ∃ x, r = some (.int x) ∧ K x g') := by
  refine MetA.introL (Lx := [some (.ref th), some (.int p0), some (.int p1), some (.int p2), none, none, none, none]) (by decide) (Nat.le_of_ble_eq_true rfl) rfl rfl ?_
  intro E hEl hE hnm
  have hall : ∀ n, (∀ (l0 : Nat) (l1 : Int32) (l2 : Int32) (l3 : Int32) (l4 : Int32) (l5 : Int32) (l6 : Int32) (g : GH), I9 n l0 l1 l2 l3 l4 l5 l6 g → JW Γ E 9 [some (.ref l0), some (.int l1), some (.int l2), some (.int l3), some (.int l4), some (.int l5), some (.int l6), none] [] g) := by
    intro n
    induction n using Nat.strongRecOn with
    | ind n ih =>
      exact fun l0 l1 l2 l3 l4 l5 l6 g hi => S_Ju_inForce_9 hE (fun l0 l1 l2 l3 l4 l5 l6 g hm => by obtain ⟨m, hm, h⟩ := hm; exact (ih m hm) l0 l1 l2 l3 l4 l5 l6 g h) l0 l1 l2 l3 l4 l5 l6 g (hh9 n l0 l1 l2 l3 l4 l5 l6 g hi)
  exact S_Ju_inForce_0 hE (fun l0 l1 l2 l3 l4 l5 l6 g hm => by obtain ⟨m, h⟩ := hm; exact (hall m) l0 l1 l2 l3 l4 l5 l6 g h) th p0 p1 p2 g h0
def Sp_En_shireOf (Γ : GAM) (q0 : Nat) (q1 : Int32) (g : GH) (K : Int32 → GH → Prop) : Prop := False
theorem mt_En_shireOf {Γ : GAM} {l : Launch} (q0 : Nat) (q1 : Int32) (g : GH) (K : Int32 → GH → Prop) (h : Sp_En_shireOf Γ q0 q1 g K) : MetA Γ l yX0_shireOf cX0_shireOf 2 (some (.int)) 0 0 [.ref q0, .int q1] g (fun r g' => ∃ x, r = some (.int x) ∧ K x g') := h.elim
def Sp_Ju_inForce (Γ : GAM) (q0 : Nat) (q1 : Int32) (q2 : Int32) (q3 : Int32) (g : GH) (K : Int32 → GH → Prop) : Prop := False
theorem mt_Ju_inForce {Γ : GAM} {l : Launch} (q0 : Nat) (q1 : Int32) (q2 : Int32) (q3 : Int32) (g : GH) (K : Int32 → GH → Prop) (h : Sp_Ju_inForce Γ q0 q1 q2 q3 g K) : MetA Γ l yX2_inForce cX2_inForce 8 (some (.int)) 0 0 [.ref q0, .int q1, .int q2, .int q3] g (fun r g' => ∃ x, r = some (.int x) ∧ K x g') := h.elim
def Sp_Ju_valueOf (Γ : GAM) (q0 : Nat) (q1 : Nat) (q2 : Int32) (q3 : Nat) (q4 : Int32) (g : GH) (K : Int32 → GH → Prop) : Prop := False
theorem mt_Ju_valueOf {Γ : GAM} {l : Launch} (q0 : Nat) (q1 : Nat) (q2 : Int32) (q3 : Nat) (q4 : Int32) (g : GH) (K : Int32 → GH → Prop) (h : Sp_Ju_valueOf Γ q0 q1 q2 q3 q4 g K) : MetA Γ l yX2_valueOf cX2_valueOf 8 (some (.int)) 0 0 [.ref q0, .ref q1, .int q2, .ref q3, .int q4] g (fun r g' => ∃ x, r = some (.int x) ∧ K x g') := h.elim
def Sp_Ju_pass (Γ : GAM) (q0 : Nat) (q1 : Nat) (q2 : Int32) (q3 : Int32) (q4 : Int32) (g : GH) (K : GH → Prop) : Prop := False
theorem mt_Ju_pass {Γ : GAM} {l : Launch} (q0 : Nat) (q1 : Nat) (q2 : Int32) (q3 : Int32) (q4 : Int32) (g : GH) (K : GH → Prop) (h : Sp_Ju_pass Γ q0 q1 q2 q3 q4 g K) : MetA Γ l yX2_pass cX2_pass 5 none 0 0 [.ref q0, .ref q1, .int q2, .int q3, .int q4] g (fun r g' => r = none ∧ K g') := h.elim
-- the walk of Ju_decide
set_option maxRecDepth 100000 in
def B_Ju_decide_54 (Γ : GAM) (K54 : Nat → Nat → Int32 → Nat → Int32 → GH → Prop) (K : GH → Prop) (l0 : Nat) (l1 : Nat) (l2 : Int32) (l4 : Nat) (l5 : Int32) (g : GH) : Prop :=
  Kd g l4 = 5 ∧ (((Gi g 515 l4) ≤ l5 → Kd g l1 = 2 ∧ ∀ g1 : GH, g1 = sI g 140 l1 (4 : Int32) → Kd g1 l1 = 2 ∧ ∀ g2 : GH, g2 = sI g1 141 l1 (9991 : Int32) → K g2) ∧ (¬ ((Gi g 515 l4) ≤ l5) → Kd g l0 = 4 ∧ Sp_Ju_valueOf Γ l0 l4 ((2 : Int32) * l5) l1 l2 g (fun (x4 : Int32) (g3 : GH) => ((x4 = 0 → K54 l0 l1 l2 l4 (l5 + (1 : Int32)) g3) ∧ (¬ (x4 = 0) → Kd g3 l1 = 2 ∧ ∀ g5 : GH, g5 = sI g3 142 l1 l5 → Kd g5 l4 = 5 ∧ ∃ a6 : Nat, Gr g5 518 l4 = some a6 ∧ Kd g5 a6 = 20 ∧ inB l5 (Ln g5 a6) ∧ Kd g5 l0 = 4 ∧ Sp_Ju_valueOf Γ l0 l4 (((2 : Int32) * l5) + (1 : Int32)) l1 l2 g5 (fun (x8 : Int32) (g7 : GH) => Kd g7 l0 = 4 ∧ Sp_Ju_pass Γ l0 l1 (Ia g5 (Co g5 a6) (Ow g5 a6) l5.toNatClampNeg) x8 l2 g7 (fun (g9 : GH) => K g9)))))))
set_option maxHeartbeats 4000000 in
set_option maxRecDepth 100000 in
theorem S_Ju_decide_54 {Γ : GAM} {E : EV} {K : GH → Prop} (hE : GE Γ E cX2_decide 6 RX2 none 1 27 (fun r g' => r = none ∧ K g')) {K54 : Nat → Nat → Int32 → Nat → Int32 → GH → Prop} (hK54 : ∀ (l0 : Nat) (l1 : Nat) (l2 : Int32) (l4 : Nat) (l5 : Int32) (g : GH), K54 l0 l1 l2 l4 l5 g → JW Γ E 54 [some (.ref l0), some (.ref l1), some (.int l2), none, some (.ref l4), some (.int l5)] [] g) (l0 : Nat) (l1 : Nat) (l2 : Int32) (l4 : Nat) (l5 : Int32) (g : GH) (h : B_Ju_decide_54 Γ K54 K l0 l1 l2 l4 l5 g) : JW Γ E 54 [some (.ref l0), some (.ref l1), some (.int l2), none, some (.ref l4), some (.int l5)] [] g := by
  unfold B_Ju_decide_54 at h
  refine j_iload hE (by decide +kernel : decode cX2_decide 54 = .ok (.iload 5, 2)) rfl ?_
  refine j_aload hE (by decide +kernel : decode cX2_decide 56 = .ok (.aload 4, 2)) rfl ?_
  obtain ⟨hk, h⟩ := h
  refine j_getI hE fg_X2_62 hk (by decide +kernel : decode cX2_decide 58 = .ok (.getfield 62, 3)) ?_
  refine j_icmp_ge hE (by decide +kernel : decode cX2_decide 61 = .ok (.if_icmp .ge 59, 3)) (tgt := 120) (by decide) (fun q => ?_) (fun q => ?_)
  · have h := h.1 q
    refine j_aload_n hE (by decide +kernel : decode cX2_decide 120 = .ok (.aload_n 1, 1)) rfl rfl ?_
    refine j_iconst hE (by decide +kernel : decode cX2_decide 121 = .ok (.iconst 4, 1)) (v := (4 : Int32)) (by decide) ?_
    obtain ⟨hk, h⟩ := h
    obtain ⟨g1, hg⟩ : ∃ z, z = sI g 140 l1 (4 : Int32) := ⟨_, rfl⟩; have h := h g1 hg
    refine j_putI hE fa_X2_59 hk (fun q => by cases q) (by decide +kernel : decode cX2_decide 122 = .ok (.putfield 59, 3)) ?_
    rw [← hg]
    refine j_aload_n hE (by decide +kernel : decode cX2_decide 125 = .ok (.aload_n 1, 1)) rfl rfl ?_
    refine j_sipush hE (by decide +kernel : decode cX2_decide 126 = .ok (.sipush 9991, 3)) (v := (9991 : Int32)) (by decide) ?_
    obtain ⟨hk, h⟩ := h
    obtain ⟨g2, hg⟩ : ∃ z, z = sI g1 141 l1 (9991 : Int32) := ⟨_, rfl⟩; have h := h g2 hg
    refine j_putI hE fa_X2_79 hk (fun q => by cases q) (by decide +kernel : decode cX2_decide 129 = .ok (.putfield 79, 3)) ?_
    rw [← hg]
    exact j_vret hE (by decide +kernel : decode cX2_decide 132 = .ok (.return_, 1)) ⟨rfl, h⟩
  · have h := h.2 q
    refine j_aload_n hE (by decide +kernel : decode cX2_decide 64 = .ok (.aload_n 0, 1)) rfl rfl ?_
    refine j_aload hE (by decide +kernel : decode cX2_decide 65 = .ok (.aload 4, 2)) rfl ?_
    refine j_iconst hE (by decide +kernel : decode cX2_decide 67 = .ok (.iconst 2, 1)) (v := (2 : Int32)) (by decide) ?_
    refine j_iload hE (by decide +kernel : decode cX2_decide 68 = .ok (.iload 5, 2)) rfl ?_
    refine j_imul hE (by decide +kernel : decode cX2_decide 70 = .ok (.imul, 1)) ?_
    refine j_aload_n hE (by decide +kernel : decode cX2_decide 71 = .ok (.aload_n 1, 1)) rfl rfl ?_
    refine j_iload_n hE (by decide +kernel : decode cX2_decide 72 = .ok (.iload_n 2, 1)) rfl rfl ?_
    obtain ⟨hk, h⟩ := h
    refine j_callV hE rfl cl_X2_65 cf_3 im_X2_valueOf se_X2_valueOf ⟨by omega, by omega⟩ (As := [.ref l4, .int ((2 : Int32) * l5), .ref l1, .int l2]) (rest := []) rfl rfl (Nat.le_of_ble_eq_true rfl) hk (by decide +kernel : decode cX2_decide 73 = .ok (.invokevirtual 65, 3)) (mt_Ju_valueOf _ _ _ _ _ _ _ h) ?_
    rintro _ g3 ⟨x4, rfl, h⟩
    refine j_if_eq hE (by decide +kernel : decode cX2_decide 76 = .ok (.ifCond .eq 38, 3)) (tgt := 114) (by decide) (fun q => ?_) (fun q => ?_)
    · have h := h.1 q
      refine j_iinc hE (by decide +kernel : decode cX2_decide 114 = .ok (.iinc 5 1, 3)) (v := (1 : Int32)) (by decide) rfl (Nat.le_of_ble_eq_true rfl) rfl ?_
      refine j_goto hE (by decide +kernel : decode cX2_decide 117 = .ok (.goto (-63), 3)) (tgt := 54) (by decide) ?_
      exact hK54 _ _ _ _ _ _ h
    · have h := h.2 q
      refine j_aload_n hE (by decide +kernel : decode cX2_decide 79 = .ok (.aload_n 1, 1)) rfl rfl ?_
      refine j_iload hE (by decide +kernel : decode cX2_decide 80 = .ok (.iload 5, 2)) rfl ?_
      obtain ⟨hk, h⟩ := h
      obtain ⟨g5, hg⟩ : ∃ z, z = sI g3 142 l1 l5 := ⟨_, rfl⟩; have h := h g5 hg
      refine j_putI hE fa_X2_69 hk (fun q => by cases q) (by decide +kernel : decode cX2_decide 82 = .ok (.putfield 69, 3)) ?_
      rw [← hg]
      refine j_aload_n hE (by decide +kernel : decode cX2_decide 85 = .ok (.aload_n 0, 1)) rfl rfl ?_
      refine j_aload_n hE (by decide +kernel : decode cX2_decide 86 = .ok (.aload_n 1, 1)) rfl rfl ?_
      refine j_aload hE (by decide +kernel : decode cX2_decide 87 = .ok (.aload 4, 2)) rfl ?_
      obtain ⟨hk, h⟩ := h
      obtain ⟨a6, ha, h⟩ := h
      refine j_getRn hE fg_X2_72 hk ha (by decide +kernel : decode cX2_decide 89 = .ok (.getfield 72, 3)) ?_
      refine j_iload hE (by decide +kernel : decode cX2_decide 92 = .ok (.iload 5, 2)) rfl ?_
      obtain ⟨hk, hb, h⟩ := h
      refine j_iald hE hk hb (by decide +kernel : decode cX2_decide 94 = .ok (.iaload, 1)) ?_
      refine j_aload_n hE (by decide +kernel : decode cX2_decide 95 = .ok (.aload_n 0, 1)) rfl rfl ?_
      refine j_aload hE (by decide +kernel : decode cX2_decide 96 = .ok (.aload 4, 2)) rfl ?_
      refine j_iconst hE (by decide +kernel : decode cX2_decide 98 = .ok (.iconst 2, 1)) (v := (2 : Int32)) (by decide) ?_
      refine j_iload hE (by decide +kernel : decode cX2_decide 99 = .ok (.iload 5, 2)) rfl ?_
      refine j_imul hE (by decide +kernel : decode cX2_decide 101 = .ok (.imul, 1)) ?_
      refine j_iconst hE (by decide +kernel : decode cX2_decide 102 = .ok (.iconst 1, 1)) (v := (1 : Int32)) (by decide) ?_
      refine j_iadd hE (by decide +kernel : decode cX2_decide 103 = .ok (.iadd, 1)) ?_
      refine j_aload_n hE (by decide +kernel : decode cX2_decide 104 = .ok (.aload_n 1, 1)) rfl rfl ?_
      refine j_iload_n hE (by decide +kernel : decode cX2_decide 105 = .ok (.iload_n 2, 1)) rfl rfl ?_
      obtain ⟨hk, h⟩ := h
      refine j_callV hE rfl cl_X2_65 cf_3 im_X2_valueOf se_X2_valueOf ⟨by omega, by omega⟩ (As := [.ref l4, .int (((2 : Int32) * l5) + (1 : Int32)), .ref l1, .int l2]) (rest := [.int (Ia g5 (Co g5 a6) (Ow g5 a6) l5.toNatClampNeg), .ref l1, .ref l0]) rfl rfl (Nat.le_of_ble_eq_true rfl) hk (by decide +kernel : decode cX2_decide 106 = .ok (.invokevirtual 65, 3)) (mt_Ju_valueOf _ _ _ _ _ _ _ h) ?_
      rintro _ g7 ⟨x8, rfl, h⟩
      refine j_iload_n hE (by decide +kernel : decode cX2_decide 109 = .ok (.iload_n 2, 1)) rfl rfl ?_
      obtain ⟨hk, h⟩ := h
      refine j_callV hE rfl cl_X2_75 cf_3 im_X2_pass se_X2_pass ⟨by omega, by omega⟩ (As := [.ref l1, .int (Ia g5 (Co g5 a6) (Ow g5 a6) l5.toNatClampNeg), .int x8, .int l2]) (rest := []) rfl rfl (Nat.le_of_ble_eq_true rfl) hk (by decide +kernel : decode cX2_decide 110 = .ok (.invokevirtual 75, 3)) (mt_Ju_pass _ _ _ _ _ _ _ h) ?_
      rintro _ g9 ⟨rfl, h⟩
      exact j_vret hE (by decide +kernel : decode cX2_decide 113 = .ok (.return_, 1)) ⟨rfl, h⟩
set_option maxRecDepth 100000 in
def B_Ju_decide_0 (Γ : GAM) (K54 : Nat → Nat → Int32 → Nat → Int32 → GH → Prop) (K : GH → Prop) (th : Nat) (p0 : Nat) (p1 : Int32) (g : GH) : Prop :=
  Kd g p0 = 2 ∧ Sp_En_shireOf Γ p0 p1 g (fun (x2 : Int32) (g1 : GH) => Kd g1 p0 = 2 ∧ Kd g1 th = 4 ∧ Sp_Ju_inForce Γ th x2 (Gi g1 137 p0) p1 g1 (fun (x4 : Int32) (g3 : GH) => Kd g3 th = 4 ∧ ∃ a5 : Nat, Gr g3 384 th = some a5 ∧ Kd g3 a5 = 1 ∧ Sp_AL_size Γ a5 g3 (fun (x7 : Int32) (g6 : GH) => Sp_PV_isWithin Γ x4 (0 : Int32) (x7 - (1 : Int32)) g6 (fun (x9 : Int32) (g8 : GH) => ((¬ (x9 = 0) → Kd g8 th = 4 ∧ ∃ a10 : Nat, Gr g8 384 th = some a10 ∧ Kd g8 a10 = 1 ∧ Sp_AL_get Γ a10 x4 g8 (fun (a12 : Nat) (g11 : GH) => Kd g11 a12 = 5 ∧ K54 th p0 p1 a12 (0 : Int32) g11)) ∧ (x9 = 0 → Kd g8 p0 = 2 ∧ ∀ g13 : GH, g13 = sI g8 140 p0 (3 : Int32) → K g13))))))
set_option maxHeartbeats 4000000 in
set_option maxRecDepth 100000 in
theorem S_Ju_decide_0 {Γ : GAM} {E : EV} {K : GH → Prop} (hE : GE Γ E cX2_decide 6 RX2 none 1 27 (fun r g' => r = none ∧ K g')) {K54 : Nat → Nat → Int32 → Nat → Int32 → GH → Prop} (hK54 : ∀ (l0 : Nat) (l1 : Nat) (l2 : Int32) (l4 : Nat) (l5 : Int32) (g : GH), K54 l0 l1 l2 l4 l5 g → JW Γ E 54 [some (.ref l0), some (.ref l1), some (.int l2), none, some (.ref l4), some (.int l5)] [] g) (th : Nat) (p0 : Nat) (p1 : Int32) (g : GH) (h : B_Ju_decide_0 Γ K54 K th p0 p1 g) : JW Γ E 0 [some (.ref th), some (.ref p0), some (.int p1), none, none, none] [] g := by
  unfold B_Ju_decide_0 at h
  refine j_aload_n hE (by decide +kernel : decode cX2_decide 0 = .ok (.aload_n 0, 1)) rfl rfl ?_
  refine j_aload_n hE (by decide +kernel : decode cX2_decide 1 = .ok (.aload_n 1, 1)) rfl rfl ?_
  refine j_iload_n hE (by decide +kernel : decode cX2_decide 2 = .ok (.iload_n 2, 1)) rfl rfl ?_
  obtain ⟨hk, h⟩ := h
  refine j_callV hE rfl cl_X2_42 cf_1 im_X0_shireOf se_X0_shireOf ⟨by omega, by omega⟩ (As := [.int p1]) (rest := [.ref th]) rfl rfl (Nat.le_of_ble_eq_true rfl) hk (by decide +kernel : decode cX2_decide 3 = .ok (.invokevirtual 42, 3)) (mt_En_shireOf _ _ _ _ h) ?_
  rintro _ g1 ⟨x2, rfl, h⟩
  refine j_aload_n hE (by decide +kernel : decode cX2_decide 6 = .ok (.aload_n 1, 1)) rfl rfl ?_
  obtain ⟨hk, h⟩ := h
  refine j_getI hE fg_X2_48 hk (by decide +kernel : decode cX2_decide 7 = .ok (.getfield 48, 3)) ?_
  refine j_iload_n hE (by decide +kernel : decode cX2_decide 10 = .ok (.iload_n 2, 1)) rfl rfl ?_
  obtain ⟨hk, h⟩ := h
  refine j_callV hE rfl cl_X2_51 cf_3 im_X2_inForce se_X2_inForce ⟨by omega, by omega⟩ (As := [.int x2, .int (Gi g1 137 p0), .int p1]) (rest := []) rfl rfl (Nat.le_of_ble_eq_true rfl) hk (by decide +kernel : decode cX2_decide 11 = .ok (.invokevirtual 51, 3)) (mt_Ju_inForce _ _ _ _ _ _ h) ?_
  rintro _ g3 ⟨x4, rfl, h⟩
  refine j_istore_n hE (by decide +kernel : decode cX2_decide 14 = .ok (.istore_n 3, 1)) rfl (Nat.le_of_ble_eq_true rfl) rfl ?_
  refine j_iload_n hE (by decide +kernel : decode cX2_decide 15 = .ok (.iload_n 3, 1)) rfl rfl ?_
  refine j_iconst hE (by decide +kernel : decode cX2_decide 16 = .ok (.iconst 0, 1)) (v := (0 : Int32)) (by decide) ?_
  refine j_aload_n hE (by decide +kernel : decode cX2_decide 17 = .ok (.aload_n 0, 1)) rfl rfl ?_
  obtain ⟨hk, h⟩ := h
  obtain ⟨a5, ha, h⟩ := h
  refine j_getRn hE fg_X2_12 hk ha (by decide +kernel : decode cX2_decide 18 = .ok (.getfield 12, 3)) ?_
  obtain ⟨hk, h⟩ := h
  refine j_callV hE rfl cl_X2_22 cf_0 im_Jx4a65c_size_8abf5 se_Jx4a65c_size_8abf5 ⟨by omega, by omega⟩ (As := []) (rest := [.int (0 : Int32), .int x4]) rfl rfl (Nat.le_of_ble_eq_true rfl) hk (by decide +kernel : decode cX2_decide 21 = .ok (.invokevirtual 22, 3)) (mt_AL_size _ _ _ h) ?_
  rintro _ g6 ⟨x7, rfl, h⟩
  refine j_iconst hE (by decide +kernel : decode cX2_decide 24 = .ok (.iconst 1, 1)) (v := (1 : Int32)) (by decide) ?_
  refine j_isub hE (by decide +kernel : decode cX2_decide 25 = .ok (.isub, 1)) ?_
  refine j_callSN hE rfl cl_X2_55 st_X10_isWithin ⟨by omega, by omega⟩ (As := [.int x4, .int (0 : Int32), .int (x7 - (1 : Int32))]) (rest := []) rfl rfl (Nat.le_of_ble_eq_true rfl) (by decide +kernel : decode cX2_decide 26 = .ok (.invokestatic 55, 3)) (mt_PV_isWithin _ _ _ _ _ h) ?_
  rintro _ g8 ⟨x9, rfl, h⟩
  refine j_if_ne hE (by decide +kernel : decode cX2_decide 29 = .ok (.ifCond .ne 9, 3)) (tgt := 38) (by decide) (fun q => ?_) (fun q => ?_)
  · have h := h.1 q
    refine j_aload_n hE (by decide +kernel : decode cX2_decide 38 = .ok (.aload_n 0, 1)) rfl rfl ?_
    obtain ⟨hk, h⟩ := h
    obtain ⟨a10, ha, h⟩ := h
    refine j_getRn hE fg_X2_12 hk ha (by decide +kernel : decode cX2_decide 39 = .ok (.getfield 12, 3)) ?_
    refine j_iload_n hE (by decide +kernel : decode cX2_decide 42 = .ok (.iload_n 3, 1)) rfl rfl ?_
    obtain ⟨hk, h⟩ := h
    refine j_callV hE rfl cl_X2_26 cf_0 im_Jx4a65c_get_915e3 se_Jx4a65c_get_915e3 ⟨by omega, by omega⟩ (As := [.int x4]) (rest := []) rfl rfl (Nat.le_of_ble_eq_true rfl) hk (by decide +kernel : decode cX2_decide 43 = .ok (.invokevirtual 26, 3)) (mt_AL_get _ _ _ _ h) ?_
    rintro _ g11 ⟨a12, rfl, h⟩
    obtain ⟨hk, h⟩ := h
    refine j_cast hE cf_4 ck_X2_30 hk (by decide +kernel : decode cX2_decide 46 = .ok (.checkcast 30, 3)) ?_
    refine j_astore hE (by decide +kernel : decode cX2_decide 49 = .ok (.astore 4, 2)) (Nat.le_of_ble_eq_true rfl) rfl ?_
    refine j_iconst hE (by decide +kernel : decode cX2_decide 51 = .ok (.iconst 0, 1)) (v := (0 : Int32)) (by decide) ?_
    refine j_istore hE (by decide +kernel : decode cX2_decide 52 = .ok (.istore 5, 2)) (Nat.le_of_ble_eq_true rfl) rfl ?_
    refine j_weak [some (.ref th), some (.ref p0), some (.int p1), none, some (.ref a12), some (.int (0 : Int32))] ⟨rfl, ⟨rfl, ⟨rfl, ⟨rfl, ⟨rfl, trivial⟩⟩⟩⟩⟩ ?_
    exact hK54 _ _ _ _ _ _ h
  · have h := h.2 q
    refine j_aload_n hE (by decide +kernel : decode cX2_decide 32 = .ok (.aload_n 1, 1)) rfl rfl ?_
    refine j_iconst hE (by decide +kernel : decode cX2_decide 33 = .ok (.iconst 3, 1)) (v := (3 : Int32)) (by decide) ?_
    obtain ⟨hk, h⟩ := h
    obtain ⟨g13, hg⟩ : ∃ z, z = sI g8 140 p0 (3 : Int32) := ⟨_, rfl⟩; have h := h g13 hg
    refine j_putI hE fa_X2_59 hk (fun q => by cases q) (by decide +kernel : decode cX2_decide 34 = .ok (.putfield 59, 3)) ?_
    rw [← hg]
    exact j_vret hE (by decide +kernel : decode cX2_decide 37 = .ok (.return_, 1)) ⟨rfl, h⟩
set_option maxHeartbeats 4000000 in
set_option maxRecDepth 100000 in
theorem rl_Ju_decide {Γ : GAM} {l : Launch} {th : Nat} {p0 : Nat} {p1 : Int32} {g : GH} {K : GH → Prop} (I54 : Nat → Nat → Nat → Int32 → Nat → Int32 → GH → Prop) (hh54 : ∀ n (l0 : Nat) (l1 : Nat) (l2 : Int32) (l4 : Nat) (l5 : Int32) (g : GH), I54 n l0 l1 l2 l4 l5 g → B_Ju_decide_54 Γ (fun l0 l1 l2 l4 l5 g => ∃ m, m < n ∧ I54 m l0 l1 l2 l4 l5 g) K l0 l1 l2 l4 l5 g) (h0 : B_Ju_decide_0 Γ (fun l0 l1 l2 l4 l5 g => ∃ m, I54 m l0 l1 l2 l4 l5 g) K th p0 p1 g) : MetA Γ l yX2_decide cX2_decide 6 none 1 27 [.ref th, .ref p0, .int p1] g (fun r g' => r = none ∧ K g') := by
  refine MetA.introL (Lx := [some (.ref th), some (.ref p0), some (.int p1), none, none, none]) (by decide) (Nat.le_of_ble_eq_true rfl) rfl rfl ?_
  intro E hEl hE hnm
  have hall : ∀ n, (∀ (l0 : Nat) (l1 : Nat) (l2 : Int32) (l4 : Nat) (l5 : Int32) (g : GH), I54 n l0 l1 l2 l4 l5 g → JW Γ E 54 [some (.ref l0), some (.ref l1), some (.int l2), none, some (.ref l4), some (.int l5)] [] g) := by
    intro n
    induction n using Nat.strongRecOn with
    | ind n ih =>
      exact fun l0 l1 l2 l4 l5 g hi => S_Ju_decide_54 hE (fun l0 l1 l2 l4 l5 g hm => by obtain ⟨m, hm, h⟩ := hm; exact (ih m hm) l0 l1 l2 l4 l5 g h) l0 l1 l2 l4 l5 g (hh54 n l0 l1 l2 l4 l5 g hi)
  exact S_Ju_decide_0 hE (fun l0 l1 l2 l4 l5 g hm => by obtain ⟨m, h⟩ := hm; exact (hall m) l0 l1 l2 l4 l5 g h) th p0 p1 g h0
def Sp_Ju_awaitCure (Γ : GAM) (q0 : Nat) (q1 : Nat) (q2 : Int32) (q3 : Int32) (g : GH) (K : GH → Prop) : Prop := False
theorem mt_Ju_awaitCure {Γ : GAM} {l : Launch} (q0 : Nat) (q1 : Nat) (q2 : Int32) (q3 : Int32) (g : GH) (K : GH → Prop) (h : Sp_Ju_awaitCure Γ q0 q1 q2 q3 g K) : MetA Γ l yX2_awaitCure cX2_awaitCure 5 none 0 0 [.ref q0, .ref q1, .int q2, .int q3] g (fun r g' => r = none ∧ K g') := h.elim
-- the walk of Ju_pass
set_option maxRecDepth 100000 in
def B_Ju_pass_73 (Γ : GAM) (K : GH → Prop)  (g : GH) : Prop :=
  K g
set_option maxHeartbeats 4000000 in
set_option maxRecDepth 100000 in
theorem S_Ju_pass_73 {Γ : GAM} {E : EV} {K : GH → Prop} (hE : GE Γ E cX2_pass 5 RX2 none 1 24 (fun r g' => r = none ∧ K g'))  (g : GH) (h : B_Ju_pass_73 Γ K  g) : JW Γ E 73 [none, none, none, none, none] [] g := by
  unfold B_Ju_pass_73 at h
  exact j_vret hE (by decide +kernel : decode cX2_pass 73 = .ok (.return_, 1)) ⟨rfl, h⟩
set_option maxRecDepth 100000 in
def B_Ju_pass_0 (Γ : GAM) (K : GH → Prop) (th : Nat) (p0 : Nat) (p1 : Int32) (p2 : Int32) (p3 : Int32) (g : GH) : Prop :=
  ((p1 = (103 : Int32) → Kd g p0 = 2 ∧ ∀ g1 : GH, g1 = sI g 140 p0 (2 : Int32) → B_Ju_pass_73 Γ K g1) ∧ (¬ (p1 = (103 : Int32)) → ((p1 = (118 : Int32) → Kd g p0 = 2 ∧ ∀ g2 : GH, g2 = sI g 140 p0 (4 : Int32) → Kd g2 p0 = 2 ∧ ∀ g3 : GH, g3 = sI g2 141 p0 p2 → B_Ju_pass_73 Γ K g3) ∧ (¬ (p1 = (118 : Int32)) → ((p1 = (119 : Int32) → Kd g p0 = 2 ∧ ∀ g4 : GH, g4 = sI g 140 p0 (3 : Int32) → B_Ju_pass_73 Γ K g4) ∧ (¬ (p1 = (119 : Int32)) → Kd g th = 4 ∧ Sp_Ju_awaitCure Γ th p0 p2 p3 g (fun (g5 : GH) => B_Ju_pass_73 Γ K g5)))))))
set_option maxHeartbeats 4000000 in
set_option maxRecDepth 100000 in
theorem S_Ju_pass_0 {Γ : GAM} {E : EV} {K : GH → Prop} (hE : GE Γ E cX2_pass 5 RX2 none 1 24 (fun r g' => r = none ∧ K g')) (th : Nat) (p0 : Nat) (p1 : Int32) (p2 : Int32) (p3 : Int32) (g : GH) (h : B_Ju_pass_0 Γ K th p0 p1 p2 p3 g) : JW Γ E 0 [some (.ref th), some (.ref p0), some (.int p1), some (.int p2), some (.int p3)] [] g := by
  unfold B_Ju_pass_0 at h
  refine j_iload_n hE (by decide +kernel : decode cX2_pass 0 = .ok (.iload_n 2, 1)) rfl rfl ?_
  by_cases q0 : p1 = (103 : Int32)
  · have h := h.1 q0
    refine j_lookup hE (by decide +kernel : decode cX2_pass 1 = .ok (.lookupswitch 64 #[(103, 35), (118, 51), (119, 43)], 35)) (by decide) (off := 35) (by rw [q0]; decide) (tgt := 36) (by decide) ?_
    refine j_aload_n hE (by decide +kernel : decode cX2_pass 36 = .ok (.aload_n 1, 1)) rfl rfl ?_
    refine j_iconst hE (by decide +kernel : decode cX2_pass 37 = .ok (.iconst 2, 1)) (v := (2 : Int32)) (by decide) ?_
    obtain ⟨hk, h⟩ := h
    obtain ⟨g1, hg⟩ : ∃ z, z = sI g 140 p0 (2 : Int32) := ⟨_, rfl⟩; have h := h g1 hg
    refine j_putI hE fa_X2_59 hk (fun q => by cases q) (by decide +kernel : decode cX2_pass 38 = .ok (.putfield 59, 3)) ?_
    rw [← hg]
    refine j_goto hE (by decide +kernel : decode cX2_pass 41 = .ok (.goto 32, 3)) (tgt := 73) (by decide) ?_
    refine j_weak [none, none, none, none, none] trivial ?_
    exact S_Ju_pass_73 hE _ h
  · have h := h.2 q0
    by_cases q1 : p1 = (118 : Int32)
    · have h := h.1 q1
      refine j_lookup hE (by decide +kernel : decode cX2_pass 1 = .ok (.lookupswitch 64 #[(103, 35), (118, 51), (119, 43)], 35)) (by decide) (off := 51) (by rw [q1]; decide) (tgt := 52) (by decide) ?_
      refine j_aload_n hE (by decide +kernel : decode cX2_pass 52 = .ok (.aload_n 1, 1)) rfl rfl ?_
      refine j_iconst hE (by decide +kernel : decode cX2_pass 53 = .ok (.iconst 4, 1)) (v := (4 : Int32)) (by decide) ?_
      obtain ⟨hk, h⟩ := h
      obtain ⟨g2, hg⟩ : ∃ z, z = sI g 140 p0 (4 : Int32) := ⟨_, rfl⟩; have h := h g2 hg
      refine j_putI hE fa_X2_59 hk (fun q => by cases q) (by decide +kernel : decode cX2_pass 54 = .ok (.putfield 59, 3)) ?_
      rw [← hg]
      refine j_aload_n hE (by decide +kernel : decode cX2_pass 57 = .ok (.aload_n 1, 1)) rfl rfl ?_
      refine j_iload_n hE (by decide +kernel : decode cX2_pass 58 = .ok (.iload_n 3, 1)) rfl rfl ?_
      obtain ⟨hk, h⟩ := h
      obtain ⟨g3, hg⟩ : ∃ z, z = sI g2 141 p0 p2 := ⟨_, rfl⟩; have h := h g3 hg
      refine j_putI hE fa_X2_79 hk (fun q => by cases q) (by decide +kernel : decode cX2_pass 59 = .ok (.putfield 79, 3)) ?_
      rw [← hg]
      refine j_goto hE (by decide +kernel : decode cX2_pass 62 = .ok (.goto 11, 3)) (tgt := 73) (by decide) ?_
      refine j_weak [none, none, none, none, none] trivial ?_
      exact S_Ju_pass_73 hE _ h
    · have h := h.2 q1
      by_cases q2 : p1 = (119 : Int32)
      · have h := h.1 q2
        refine j_lookup hE (by decide +kernel : decode cX2_pass 1 = .ok (.lookupswitch 64 #[(103, 35), (118, 51), (119, 43)], 35)) (by decide) (off := 43) (by rw [q2]; decide) (tgt := 44) (by decide) ?_
        refine j_aload_n hE (by decide +kernel : decode cX2_pass 44 = .ok (.aload_n 1, 1)) rfl rfl ?_
        refine j_iconst hE (by decide +kernel : decode cX2_pass 45 = .ok (.iconst 3, 1)) (v := (3 : Int32)) (by decide) ?_
        obtain ⟨hk, h⟩ := h
        obtain ⟨g4, hg⟩ : ∃ z, z = sI g 140 p0 (3 : Int32) := ⟨_, rfl⟩; have h := h g4 hg
        refine j_putI hE fa_X2_59 hk (fun q => by cases q) (by decide +kernel : decode cX2_pass 46 = .ok (.putfield 59, 3)) ?_
        rw [← hg]
        refine j_goto hE (by decide +kernel : decode cX2_pass 49 = .ok (.goto 24, 3)) (tgt := 73) (by decide) ?_
        refine j_weak [none, none, none, none, none] trivial ?_
        exact S_Ju_pass_73 hE _ h
      · have h := h.2 q2
        refine j_lookup hE (by decide +kernel : decode cX2_pass 1 = .ok (.lookupswitch 64 #[(103, 35), (118, 51), (119, 43)], 35)) (by decide) (off := 64) ((lv_osw q0 (by decide)).trans ((lv_osw q1 (by decide)).trans ((lv_osw q2 (by decide)).trans (rfl)))) (tgt := 65) (by decide) ?_
        refine j_aload_n hE (by decide +kernel : decode cX2_pass 65 = .ok (.aload_n 0, 1)) rfl rfl ?_
        refine j_aload_n hE (by decide +kernel : decode cX2_pass 66 = .ok (.aload_n 1, 1)) rfl rfl ?_
        refine j_iload_n hE (by decide +kernel : decode cX2_pass 67 = .ok (.iload_n 3, 1)) rfl rfl ?_
        refine j_iload hE (by decide +kernel : decode cX2_pass 68 = .ok (.iload 4, 2)) rfl ?_
        obtain ⟨hk, h⟩ := h
        refine j_callV hE rfl cl_X2_82 cf_3 im_X2_awaitCure se_X2_awaitCure ⟨by omega, by omega⟩ (As := [.ref p0, .int p2, .int p3]) (rest := []) rfl rfl (Nat.le_of_ble_eq_true rfl) hk (by decide +kernel : decode cX2_pass 70 = .ok (.invokevirtual 82, 3)) (mt_Ju_awaitCure _ _ _ _ _ _ h) ?_
        rintro _ g5 ⟨rfl, h⟩
        refine j_weak [none, none, none, none, none] trivial ?_
        exact S_Ju_pass_73 hE _ h
set_option maxHeartbeats 4000000 in
set_option maxRecDepth 100000 in
theorem rl_Ju_pass {Γ : GAM} {l : Launch} {th : Nat} {p0 : Nat} {p1 : Int32} {p2 : Int32} {p3 : Int32} {g : GH} {K : GH → Prop} (h0 : B_Ju_pass_0 Γ K th p0 p1 p2 p3 g) : MetA Γ l yX2_pass cX2_pass 5 none 1 24 [.ref th, .ref p0, .int p1, .int p2, .int p3] g (fun r g' => r = none ∧ K g') := by
  refine MetA.introL (Lx := [some (.ref th), some (.ref p0), some (.int p1), some (.int p2), some (.int p3)]) (by decide) (Nat.le_of_ble_eq_true rfl) rfl rfl ?_
  intro E hEl hE hnm
  exact S_Ju_pass_0 hE th p0 p1 p2 p3 g h0
-- the walk of Ju_awaitCure
set_option maxRecDepth 100000 in
def B_Ju_awaitCure_54 (Γ : GAM) (K : GH → Prop)  (g : GH) : Prop :=
  K g
set_option maxHeartbeats 4000000 in
set_option maxRecDepth 100000 in
theorem S_Ju_awaitCure_54 {Γ : GAM} {E : EV} {K : GH → Prop} (hE : GE Γ E cX2_awaitCure 5 RX2 none 0 0 (fun r g' => r = none ∧ K g'))  (g : GH) (h : B_Ju_awaitCure_54 Γ K  g) : JW Γ E 54 [none, none, none, none, none] [] g := by
  unfold B_Ju_awaitCure_54 at h
  exact j_vret hE (by decide +kernel : decode cX2_awaitCure 54 = .ok (.return_, 1)) ⟨rfl, h⟩
set_option maxRecDepth 100000 in
def B_Ju_awaitCure_29 (Γ : GAM) (K : GH → Prop) (l1 : Nat) (l2 : Int32) (l3 : Int32) (g : GH) : Prop :=
  ((l2 < l3 → Kd g l1 = 2 ∧ ∀ g1 : GH, g1 = sI g 140 l1 (4 : Int32) → Kd g1 l1 = 2 ∧ ∀ g2 : GH, g2 = sI g1 141 l1 (9990 : Int32) → B_Ju_awaitCure_54 Γ K g2) ∧ (¬ (l2 < l3) → Kd g l1 = 2 ∧ ∀ g3 : GH, g3 = sI g 140 l1 (3 : Int32) → B_Ju_awaitCure_54 Γ K g3))
set_option maxHeartbeats 4000000 in
set_option maxRecDepth 100000 in
theorem S_Ju_awaitCure_29 {Γ : GAM} {E : EV} {K : GH → Prop} (hE : GE Γ E cX2_awaitCure 5 RX2 none 0 0 (fun r g' => r = none ∧ K g')) (l1 : Nat) (l2 : Int32) (l3 : Int32) (g : GH) (h : B_Ju_awaitCure_29 Γ K l1 l2 l3 g) : JW Γ E 29 [none, some (.ref l1), some (.int l2), some (.int l3), none] [] g := by
  unfold B_Ju_awaitCure_29 at h
  refine j_iload_n hE (by decide +kernel : decode cX2_awaitCure 29 = .ok (.iload_n 3, 1)) rfl rfl ?_
  refine j_iload_n hE (by decide +kernel : decode cX2_awaitCure 30 = .ok (.iload_n 2, 1)) rfl rfl ?_
  refine j_icmp_gt hE (by decide +kernel : decode cX2_awaitCure 31 = .ok (.if_icmp .gt 11, 3)) (tgt := 42) (by decide) (fun q => ?_) (fun q => ?_)
  · have h := h.1 q
    refine j_aload_n hE (by decide +kernel : decode cX2_awaitCure 42 = .ok (.aload_n 1, 1)) rfl rfl ?_
    refine j_iconst hE (by decide +kernel : decode cX2_awaitCure 43 = .ok (.iconst 4, 1)) (v := (4 : Int32)) (by decide) ?_
    obtain ⟨hk, h⟩ := h
    obtain ⟨g1, hg⟩ : ∃ z, z = sI g 140 l1 (4 : Int32) := ⟨_, rfl⟩; have h := h g1 hg
    refine j_putI hE fa_X2_59 hk (fun q => by cases q) (by decide +kernel : decode cX2_awaitCure 44 = .ok (.putfield 59, 3)) ?_
    rw [← hg]
    refine j_aload_n hE (by decide +kernel : decode cX2_awaitCure 47 = .ok (.aload_n 1, 1)) rfl rfl ?_
    refine j_sipush hE (by decide +kernel : decode cX2_awaitCure 48 = .ok (.sipush 9990, 3)) (v := (9990 : Int32)) (by decide) ?_
    obtain ⟨hk, h⟩ := h
    obtain ⟨g2, hg⟩ : ∃ z, z = sI g1 141 l1 (9990 : Int32) := ⟨_, rfl⟩; have h := h g2 hg
    refine j_putI hE fa_X2_79 hk (fun q => by cases q) (by decide +kernel : decode cX2_awaitCure 51 = .ok (.putfield 79, 3)) ?_
    rw [← hg]
    refine j_weak [none, none, none, none, none] trivial ?_
    exact S_Ju_awaitCure_54 hE _ h
  · have h := h.2 q
    refine j_aload_n hE (by decide +kernel : decode cX2_awaitCure 34 = .ok (.aload_n 1, 1)) rfl rfl ?_
    refine j_iconst hE (by decide +kernel : decode cX2_awaitCure 35 = .ok (.iconst 3, 1)) (v := (3 : Int32)) (by decide) ?_
    obtain ⟨hk, h⟩ := h
    obtain ⟨g3, hg⟩ : ∃ z, z = sI g 140 l1 (3 : Int32) := ⟨_, rfl⟩; have h := h g3 hg
    refine j_putI hE fa_X2_59 hk (fun q => by cases q) (by decide +kernel : decode cX2_awaitCure 36 = .ok (.putfield 59, 3)) ?_
    rw [← hg]
    refine j_goto hE (by decide +kernel : decode cX2_awaitCure 39 = .ok (.goto 15, 3)) (tgt := 54) (by decide) ?_
    refine j_weak [none, none, none, none, none] trivial ?_
    exact S_Ju_awaitCure_54 hE _ h
set_option maxRecDepth 100000 in
def B_Ju_awaitCure_0 (Γ : GAM) (K : GH → Prop) (th : Nat) (p0 : Nat) (p1 : Int32) (p2 : Int32) (g : GH) : Prop :=
  Kd g p0 = 2 ∧ ∃ a1 : Nat, Gr g 135 p0 = some a1 ∧ Kd g a1 = 20 ∧ inB (6 : Int32) (Ln g a1) ∧ ∀ x2 : Int32, x2 = (Ia g (Co g a1) (Ow g a1) (6 : Int32).toNatClampNeg) → ((x2 = (-1 : Int32) → B_Ju_awaitCure_29 Γ K p0 p1 p2 g) ∧ (¬ (x2 = (-1 : Int32)) → ((p1 < x2 → B_Ju_awaitCure_29 Γ K p0 p1 p2 g) ∧ (¬ (p1 < x2) → Kd g p0 = 2 ∧ ∀ g3 : GH, g3 = sI g 140 p0 (2 : Int32) → B_Ju_awaitCure_54 Γ K g3))))
set_option maxHeartbeats 4000000 in
set_option maxRecDepth 100000 in
theorem S_Ju_awaitCure_0 {Γ : GAM} {E : EV} {K : GH → Prop} (hE : GE Γ E cX2_awaitCure 5 RX2 none 0 0 (fun r g' => r = none ∧ K g')) (th : Nat) (p0 : Nat) (p1 : Int32) (p2 : Int32) (g : GH) (h : B_Ju_awaitCure_0 Γ K th p0 p1 p2 g) : JW Γ E 0 [some (.ref th), some (.ref p0), some (.int p1), some (.int p2), none] [] g := by
  unfold B_Ju_awaitCure_0 at h
  refine j_aload_n hE (by decide +kernel : decode cX2_awaitCure 0 = .ok (.aload_n 1, 1)) rfl rfl ?_
  obtain ⟨hk, h⟩ := h
  obtain ⟨a1, ha, h⟩ := h
  refine j_getRn hE fg_X2_86 hk ha (by decide +kernel : decode cX2_awaitCure 1 = .ok (.getfield 86, 3)) ?_
  refine j_bipush hE (by decide +kernel : decode cX2_awaitCure 4 = .ok (.bipush 6, 2)) (v := (6 : Int32)) (by decide) ?_
  obtain ⟨hk, hb, h⟩ := h
  refine j_iald hE hk hb (by decide +kernel : decode cX2_awaitCure 6 = .ok (.iaload, 1)) ?_
  obtain ⟨x2, hx⟩ : ∃ z, z = (Ia g (Co g a1) (Ow g a1) (6 : Int32).toNatClampNeg) := ⟨_, rfl⟩; have h := h x2 hx; rw [← hx]
  refine j_istore hE (by decide +kernel : decode cX2_awaitCure 7 = .ok (.istore 4, 2)) (Nat.le_of_ble_eq_true rfl) rfl ?_
  refine j_iload hE (by decide +kernel : decode cX2_awaitCure 9 = .ok (.iload 4, 2)) rfl ?_
  refine j_iconst hE (by decide +kernel : decode cX2_awaitCure 11 = .ok (.iconst (-1), 1)) (v := (-1 : Int32)) (by decide) ?_
  refine j_icmp_eq hE (by decide +kernel : decode cX2_awaitCure 12 = .ok (.if_icmp .eq 17, 3)) (tgt := 29) (by decide) (fun q => ?_) (fun q => ?_)
  · have h := h.1 q
    refine j_weak [none, some (.ref p0), some (.int p1), some (.int p2), none] ⟨rfl, ⟨rfl, ⟨rfl, trivial⟩⟩⟩ ?_
    exact S_Ju_awaitCure_29 hE _ _ _ _ h
  · have h := h.2 q
    refine j_iload hE (by decide +kernel : decode cX2_awaitCure 15 = .ok (.iload 4, 2)) rfl ?_
    refine j_iload_n hE (by decide +kernel : decode cX2_awaitCure 17 = .ok (.iload_n 2, 1)) rfl rfl ?_
    refine j_icmp_gt hE (by decide +kernel : decode cX2_awaitCure 18 = .ok (.if_icmp .gt 11, 3)) (tgt := 29) (by decide) (fun q => ?_) (fun q => ?_)
    · have h := h.1 q
      refine j_weak [none, some (.ref p0), some (.int p1), some (.int p2), none] ⟨rfl, ⟨rfl, ⟨rfl, trivial⟩⟩⟩ ?_
      exact S_Ju_awaitCure_29 hE _ _ _ _ h
    · have h := h.2 q
      refine j_aload_n hE (by decide +kernel : decode cX2_awaitCure 21 = .ok (.aload_n 1, 1)) rfl rfl ?_
      refine j_iconst hE (by decide +kernel : decode cX2_awaitCure 22 = .ok (.iconst 2, 1)) (v := (2 : Int32)) (by decide) ?_
      obtain ⟨hk, h⟩ := h
      obtain ⟨g3, hg⟩ : ∃ z, z = sI g 140 p0 (2 : Int32) := ⟨_, rfl⟩; have h := h g3 hg
      refine j_putI hE fa_X2_59 hk (fun q => by cases q) (by decide +kernel : decode cX2_awaitCure 23 = .ok (.putfield 59, 3)) ?_
      rw [← hg]
      refine j_goto hE (by decide +kernel : decode cX2_awaitCure 26 = .ok (.goto 28, 3)) (tgt := 54) (by decide) ?_
      refine j_weak [none, none, none, none, none] trivial ?_
      exact S_Ju_awaitCure_54 hE _ h
set_option maxHeartbeats 4000000 in
set_option maxRecDepth 100000 in
theorem rl_Ju_awaitCure {Γ : GAM} {l : Launch} {th : Nat} {p0 : Nat} {p1 : Int32} {p2 : Int32} {g : GH} {K : GH → Prop} (h0 : B_Ju_awaitCure_0 Γ K th p0 p1 p2 g) : MetA Γ l yX2_awaitCure cX2_awaitCure 5 none 0 0 [.ref th, .ref p0, .int p1, .int p2] g (fun r g' => r = none ∧ K g') := by
  refine MetA.introL (Lx := [some (.ref th), some (.ref p0), some (.int p1), some (.int p2), none]) (by decide) (Nat.le_of_ble_eq_true rfl) rfl rfl ?_
  intro E hEl hE hnm
  exact S_Ju_awaitCure_0 hE th p0 p1 p2 g h0
def Sp_Ju_push (Γ : GAM) (q0 : Nat) (q1 : Int32) (g : GH) (K : GH → Prop) : Prop := False
theorem mt_Ju_push {Γ : GAM} {l : Launch} (q0 : Nat) (q1 : Int32) (g : GH) (K : GH → Prop) (h : Sp_Ju_push Γ q0 q1 g K) : MetA Γ l yX2_push cX2_push 2 none 0 0 [.ref q0, .int q1] g (fun r g' => r = none ∧ K g') := h.elim
def Sp_PV_isLetter (Γ : GAM) (q0 : Int32) (g : GH) (K : Int32 → GH → Prop) : Prop := False
theorem mt_PV_isLetter {Γ : GAM} {l : Launch} (q0 : Int32) (g : GH) (K : Int32 → GH → Prop) (h : Sp_PV_isLetter Γ q0 g K) : MetA Γ l yX10_isLetter cX10_isLetter 1 (some (.boolean)) 0 0 [.int q0] g (fun r g' => ∃ x, r = some (.int x) ∧ K x g') := h.elim
def Sp_En_numberOf (Γ : GAM) (q0 : Nat) (q1 : Int32) (q2 : Int32) (g : GH) (K : Int32 → GH → Prop) : Prop := False
theorem mt_En_numberOf {Γ : GAM} {l : Launch} (q0 : Nat) (q1 : Int32) (q2 : Int32) (g : GH) (K : Int32 → GH → Prop) (h : Sp_En_numberOf Γ q0 q1 q2 g K) : MetA Γ l yX0_numberOf cX0_numberOf 3 (some (.int)) 0 0 [.ref q0, .int q1, .int q2] g (fun r g' => ∃ x, r = some (.int x) ∧ K x g') := h.elim
def Sp_Ju_pop (Γ : GAM) (q0 : Nat) (g : GH) (K : Int32 → GH → Prop) : Prop := False
theorem mt_Ju_pop {Γ : GAM} {l : Launch} (q0 : Nat) (g : GH) (K : Int32 → GH → Prop) (h : Sp_Ju_pop Γ q0 g K) : MetA Γ l yX2_pop cX2_pop 1 (some (.int)) 0 0 [.ref q0] g (fun r g' => ∃ x, r = some (.int x) ∧ K x g') := h.elim
def Sp_Ju_joined (Γ : GAM) (q0 : Int32) (q1 : Int32) (q2 : Int32) (g : GH) (K : Int32 → GH → Prop) : Prop := False
theorem mt_Ju_joined {Γ : GAM} {l : Launch} (q0 : Int32) (q1 : Int32) (q2 : Int32) (g : GH) (K : Int32 → GH → Prop) (h : Sp_Ju_joined Γ q0 q1 q2 g K) : MetA Γ l yX2_joined cX2_joined 3 (some (.int)) 0 0 [.int q0, .int q1, .int q2] g (fun r g' => ∃ x, r = some (.int x) ∧ K x g') := h.elim
-- the walk of Ju_valueOf
set_option maxRecDepth 100000 in
def B_Ju_valueOf_179 (Γ : GAM) (K30 : Nat → Nat → Int32 → Nat → Int32 → Int32 → GH → Prop) (K : Int32 → GH → Prop) (l0 : Nat) (g : GH) : Prop :=
  Kd g l0 = 4 ∧ Sp_Ju_pop Γ l0 g (fun (x2 : Int32) (g1 : GH) => K x2 g1)
set_option maxHeartbeats 4000000 in
set_option maxRecDepth 100000 in
theorem S_Ju_valueOf_179 {Γ : GAM} {E : EV} {K : Int32 → GH → Prop} (hE : GE Γ E cX2_valueOf 8 RX2 (some (.int)) 1 22 (fun r g' => ∃ x, r = some (.int x) ∧ K x g')) {K30 : Nat → Nat → Int32 → Nat → Int32 → Int32 → GH → Prop} (hK30 : ∀ (l0 : Nat) (l1 : Nat) (l2 : Int32) (l3 : Nat) (l4 : Int32) (l5 : Int32) (g : GH), K30 l0 l1 l2 l3 l4 l5 g → JW Γ E 30 [some (.ref l0), some (.ref l1), some (.int l2), some (.ref l3), some (.int l4), some (.int l5), none, none] [] g) (l0 : Nat) (g : GH) (h : B_Ju_valueOf_179 Γ K30 K l0 g) : JW Γ E 179 [some (.ref l0), none, none, none, none, none, none, none] [] g := by
  unfold B_Ju_valueOf_179 at h
  refine j_aload_n hE (by decide +kernel : decode cX2_valueOf 179 = .ok (.aload_n 0, 1)) rfl rfl ?_
  obtain ⟨hk, h⟩ := h
  refine j_callV hE rfl cl_X2_110 cf_3 im_X2_pop se_X2_pop ⟨by omega, by omega⟩ (As := []) (rest := []) rfl rfl (Nat.le_of_ble_eq_true rfl) hk (by decide +kernel : decode cX2_valueOf 180 = .ok (.invokevirtual 110, 3)) (mt_Ju_pop _ _ _ h) ?_
  rintro _ g1 ⟨x2, rfl, h⟩
  exact j_iret hE (by decide +kernel : decode cX2_valueOf 183 = .ok (.ireturn, 1)) ⟨_, rfl, h⟩
set_option maxRecDepth 100000 in
def B_Ju_valueOf_173 (Γ : GAM) (K30 : Nat → Nat → Int32 → Nat → Int32 → Int32 → GH → Prop) (K : Int32 → GH → Prop) (l0 : Nat) (l1 : Nat) (l2 : Int32) (l3 : Nat) (l4 : Int32) (l5 : Int32) (g : GH) : Prop :=
  K30 l0 l1 l2 l3 l4 (l5 + (1 : Int32)) g
set_option maxHeartbeats 4000000 in
set_option maxRecDepth 100000 in
theorem S_Ju_valueOf_173 {Γ : GAM} {E : EV} {K : Int32 → GH → Prop} (hE : GE Γ E cX2_valueOf 8 RX2 (some (.int)) 1 22 (fun r g' => ∃ x, r = some (.int x) ∧ K x g')) {K30 : Nat → Nat → Int32 → Nat → Int32 → Int32 → GH → Prop} (hK30 : ∀ (l0 : Nat) (l1 : Nat) (l2 : Int32) (l3 : Nat) (l4 : Int32) (l5 : Int32) (g : GH), K30 l0 l1 l2 l3 l4 l5 g → JW Γ E 30 [some (.ref l0), some (.ref l1), some (.int l2), some (.ref l3), some (.int l4), some (.int l5), none, none] [] g) (l0 : Nat) (l1 : Nat) (l2 : Int32) (l3 : Nat) (l4 : Int32) (l5 : Int32) (g : GH) (h : B_Ju_valueOf_173 Γ K30 K l0 l1 l2 l3 l4 l5 g) : JW Γ E 173 [some (.ref l0), some (.ref l1), some (.int l2), some (.ref l3), some (.int l4), some (.int l5), none, none] [] g := by
  unfold B_Ju_valueOf_173 at h
  refine j_iinc hE (by decide +kernel : decode cX2_valueOf 173 = .ok (.iinc 5 1, 3)) (v := (1 : Int32)) (by decide) rfl (Nat.le_of_ble_eq_true rfl) rfl ?_
  refine j_goto hE (by decide +kernel : decode cX2_valueOf 176 = .ok (.goto (-146), 3)) (tgt := 30) (by decide) ?_
  exact hK30 _ _ _ _ _ _ _ h
set_option maxRecDepth 100000 in
def B_Ju_valueOf_127 (Γ : GAM) (K30 : Nat → Nat → Int32 → Nat → Int32 → Int32 → GH → Prop) (K : Int32 → GH → Prop) (l0 : Nat) (l1 : Nat) (l2 : Int32) (l3 : Nat) (l4 : Int32) (l5 : Int32) (s0 : Int32) (s1 : Nat) (g : GH) : Prop :=
  Kd g s1 = 4 ∧ Sp_Ju_push Γ s1 s0 g (fun (g1 : GH) => B_Ju_valueOf_173 Γ K30 K l0 l1 l2 l3 l4 l5 g1)
set_option maxHeartbeats 4000000 in
set_option maxRecDepth 100000 in
theorem S_Ju_valueOf_127 {Γ : GAM} {E : EV} {K : Int32 → GH → Prop} (hE : GE Γ E cX2_valueOf 8 RX2 (some (.int)) 1 22 (fun r g' => ∃ x, r = some (.int x) ∧ K x g')) {K30 : Nat → Nat → Int32 → Nat → Int32 → Int32 → GH → Prop} (hK30 : ∀ (l0 : Nat) (l1 : Nat) (l2 : Int32) (l3 : Nat) (l4 : Int32) (l5 : Int32) (g : GH), K30 l0 l1 l2 l3 l4 l5 g → JW Γ E 30 [some (.ref l0), some (.ref l1), some (.int l2), some (.ref l3), some (.int l4), some (.int l5), none, none] [] g) (l0 : Nat) (l1 : Nat) (l2 : Int32) (l3 : Nat) (l4 : Int32) (l5 : Int32) (s0 : Int32) (s1 : Nat) (g : GH) (h : B_Ju_valueOf_127 Γ K30 K l0 l1 l2 l3 l4 l5 s0 s1 g) : JW Γ E 127 [some (.ref l0), some (.ref l1), some (.int l2), some (.ref l3), some (.int l4), some (.int l5), none, none] [.int s0, .ref s1] g := by
  unfold B_Ju_valueOf_127 at h
  obtain ⟨hk, h⟩ := h
  refine j_callV hE rfl cl_X2_98 cf_3 im_X2_push se_X2_push ⟨by omega, by omega⟩ (As := [.int s0]) (rest := []) rfl rfl (Nat.le_of_ble_eq_true rfl) hk (by decide +kernel : decode cX2_valueOf 127 = .ok (.invokevirtual 98, 3)) (mt_Ju_push _ _ _ _ h) ?_
  rintro _ g1 ⟨rfl, h⟩
  refine j_goto hE (by decide +kernel : decode cX2_valueOf 130 = .ok (.goto 43, 3)) (tgt := 173) (by decide) ?_
  exact S_Ju_valueOf_173 hE hK30 _ _ _ _ _ _ _ h
set_option maxRecDepth 100000 in
def B_Ju_valueOf_30 (Γ : GAM) (K30 : Nat → Nat → Int32 → Nat → Int32 → Int32 → GH → Prop) (K : Int32 → GH → Prop) (l0 : Nat) (l1 : Nat) (l2 : Int32) (l3 : Nat) (l4 : Int32) (l5 : Int32) (g : GH) : Prop :=
  Kd g l1 = 5 ∧ ∃ a1 : Nat, Gr g 517 l1 = some a1 ∧ Kd g a1 = 20 ∧ inB (l2 + (1 : Int32)) (Ln g a1) ∧ (((Ia g (Co g a1) (Ow g a1) (l2 + (1 : Int32)).toNatClampNeg) ≤ l5 → B_Ju_valueOf_179 Γ K30 K l0 g) ∧ (¬ ((Ia g (Co g a1) (Ow g a1) (l2 + (1 : Int32)).toNatClampNeg) ≤ l5) → Kd g l1 = 5 ∧ ∃ a2 : Nat, Gr g 516 l1 = some a2 ∧ (20 ≤ Kd g a2 ∧ Kd g a2 < 24) ∧ Sp_PV_isWithin Γ l5 (0 : Int32) ((Int32.ofNat (Ln g a2)) - (1 : Int32)) g (fun (x4 : Int32) (g3 : GH) => ((x4 = 0 → B_Ju_valueOf_179 Γ K30 K l0 g3) ∧ (¬ (x4 = 0) → Kd g3 l1 = 5 ∧ ∃ a5 : Nat, Gr g3 516 l1 = some a5 ∧ Kd g3 a5 = 20 ∧ inB l5 (Ln g3 a5) ∧ ∀ x6 : Int32, x6 = (-(Ia g3 (Co g3 a5) (Ow g3 a5) l5.toNatClampNeg)) → ((0 < x6 → Sp_PV_isLetter Γ x6 g3 (fun (x8 : Int32) (g7 : GH) => ((x8 = 0 → ((¬ (x6 = (33 : Int32)) → ((¬ (x6 = (126 : Int32)) → Kd g7 l0 = 4 ∧ Sp_Ju_pop Γ l0 g7 (fun (x10 : Int32) (g9 : GH) => Kd g9 l0 = 4 ∧ Sp_Ju_pop Γ l0 g9 (fun (x12 : Int32) (g11 : GH) => Sp_Ju_joined Γ x6 x12 x10 g11 (fun (x14 : Int32) (g13 : GH) => Kd g13 l0 = 4 ∧ Sp_Ju_push Γ l0 x14 g13 (fun (g15 : GH) => B_Ju_valueOf_173 Γ K30 K l0 l1 l2 l3 l4 l5 g15))))) ∧ (x6 = (126 : Int32) → Kd g7 l0 = 4 ∧ Sp_Ju_pop Γ l0 g7 (fun (x17 : Int32) (g16 : GH) => Kd g16 l0 = 4 ∧ Sp_Ju_push Γ l0 (-x17) g16 (fun (g18 : GH) => B_Ju_valueOf_173 Γ K30 K l0 l1 l2 l3 l4 l5 g18))))) ∧ (x6 = (33 : Int32) → Kd g7 l0 = 4 ∧ Sp_Ju_pop Γ l0 g7 (fun (x20 : Int32) (g19 : GH) => ((¬ (x20 = 0) → B_Ju_valueOf_127 Γ K30 K l0 l1 l2 l3 l4 l5 (0 : Int32) l0 g19) ∧ (x20 = 0 → B_Ju_valueOf_127 Γ K30 K l0 l1 l2 l3 l4 l5 (1 : Int32) l0 g19)))))) ∧ (¬ (x8 = 0) → Kd g7 l3 = 2 ∧ Sp_En_numberOf Γ l3 x6 l4 g7 (fun (x22 : Int32) (g21 : GH) => Kd g21 l0 = 4 ∧ Sp_Ju_push Γ l0 x22 g21 (fun (g23 : GH) => B_Ju_valueOf_173 Γ K30 K l0 l1 l2 l3 l4 l5 g23)))))) ∧ (¬ (0 < x6) → Kd g3 l0 = 4 ∧ Sp_Ju_push Γ l0 (-x6) g3 (fun (g24 : GH) => B_Ju_valueOf_173 Γ K30 K l0 l1 l2 l3 l4 l5 g24))))))))
set_option maxHeartbeats 4000000 in
set_option maxRecDepth 100000 in
theorem S_Ju_valueOf_30 {Γ : GAM} {E : EV} {K : Int32 → GH → Prop} (hE : GE Γ E cX2_valueOf 8 RX2 (some (.int)) 1 22 (fun r g' => ∃ x, r = some (.int x) ∧ K x g')) {K30 : Nat → Nat → Int32 → Nat → Int32 → Int32 → GH → Prop} (hK30 : ∀ (l0 : Nat) (l1 : Nat) (l2 : Int32) (l3 : Nat) (l4 : Int32) (l5 : Int32) (g : GH), K30 l0 l1 l2 l3 l4 l5 g → JW Γ E 30 [some (.ref l0), some (.ref l1), some (.int l2), some (.ref l3), some (.int l4), some (.int l5), none, none] [] g) (l0 : Nat) (l1 : Nat) (l2 : Int32) (l3 : Nat) (l4 : Int32) (l5 : Int32) (g : GH) (h : B_Ju_valueOf_30 Γ K30 K l0 l1 l2 l3 l4 l5 g) : JW Γ E 30 [some (.ref l0), some (.ref l1), some (.int l2), some (.ref l3), some (.int l4), some (.int l5), none, none] [] g := by
  unfold B_Ju_valueOf_30 at h
  refine j_iload hE (by decide +kernel : decode cX2_valueOf 30 = .ok (.iload 5, 2)) rfl ?_
  refine j_aload_n hE (by decide +kernel : decode cX2_valueOf 32 = .ok (.aload_n 1, 1)) rfl rfl ?_
  obtain ⟨hk, h⟩ := h
  obtain ⟨a1, ha, h⟩ := h
  refine j_getRn hE fg_X2_89 hk ha (by decide +kernel : decode cX2_valueOf 33 = .ok (.getfield 89, 3)) ?_
  refine j_iload_n hE (by decide +kernel : decode cX2_valueOf 36 = .ok (.iload_n 2, 1)) rfl rfl ?_
  refine j_iconst hE (by decide +kernel : decode cX2_valueOf 37 = .ok (.iconst 1, 1)) (v := (1 : Int32)) (by decide) ?_
  refine j_iadd hE (by decide +kernel : decode cX2_valueOf 38 = .ok (.iadd, 1)) ?_
  obtain ⟨hk, hb, h⟩ := h
  refine j_iald hE hk hb (by decide +kernel : decode cX2_valueOf 39 = .ok (.iaload, 1)) ?_
  refine j_icmp_ge hE (by decide +kernel : decode cX2_valueOf 40 = .ok (.if_icmp .ge 139, 3)) (tgt := 179) (by decide) (fun q => ?_) (fun q => ?_)
  · have h := h.1 q
    refine j_weak [some (.ref l0), none, none, none, none, none, none, none] ⟨rfl, trivial⟩ ?_
    exact S_Ju_valueOf_179 hE hK30 _ _ h
  · have h := h.2 q
    refine j_iload hE (by decide +kernel : decode cX2_valueOf 43 = .ok (.iload 5, 2)) rfl ?_
    refine j_iconst hE (by decide +kernel : decode cX2_valueOf 45 = .ok (.iconst 0, 1)) (v := (0 : Int32)) (by decide) ?_
    refine j_aload_n hE (by decide +kernel : decode cX2_valueOf 46 = .ok (.aload_n 1, 1)) rfl rfl ?_
    obtain ⟨hk, h⟩ := h
    obtain ⟨a2, ha, h⟩ := h
    refine j_getRn hE fg_X2_95 hk ha (by decide +kernel : decode cX2_valueOf 47 = .ok (.getfield 95, 3)) ?_
    obtain ⟨hk, h⟩ := h
    refine j_alen hE hk (by decide +kernel : decode cX2_valueOf 50 = .ok (.arraylength, 1)) ?_
    refine j_iconst hE (by decide +kernel : decode cX2_valueOf 51 = .ok (.iconst 1, 1)) (v := (1 : Int32)) (by decide) ?_
    refine j_isub hE (by decide +kernel : decode cX2_valueOf 52 = .ok (.isub, 1)) ?_
    refine j_callSN hE rfl cl_X2_55 st_X10_isWithin ⟨by omega, by omega⟩ (As := [.int l5, .int (0 : Int32), .int ((Int32.ofNat (Ln g a2)) - (1 : Int32))]) (rest := []) rfl rfl (Nat.le_of_ble_eq_true rfl) (by decide +kernel : decode cX2_valueOf 53 = .ok (.invokestatic 55, 3)) (mt_PV_isWithin _ _ _ _ _ h) ?_
    rintro _ g3 ⟨x4, rfl, h⟩
    refine j_if_eq hE (by decide +kernel : decode cX2_valueOf 56 = .ok (.ifCond .eq 123, 3)) (tgt := 179) (by decide) (fun q => ?_) (fun q => ?_)
    · have h := h.1 q
      refine j_weak [some (.ref l0), none, none, none, none, none, none, none] ⟨rfl, trivial⟩ ?_
      exact S_Ju_valueOf_179 hE hK30 _ _ h
    · have h := h.2 q
      refine j_aload_n hE (by decide +kernel : decode cX2_valueOf 59 = .ok (.aload_n 1, 1)) rfl rfl ?_
      obtain ⟨hk, h⟩ := h
      obtain ⟨a5, ha, h⟩ := h
      refine j_getRn hE fg_X2_95 hk ha (by decide +kernel : decode cX2_valueOf 60 = .ok (.getfield 95, 3)) ?_
      refine j_iload hE (by decide +kernel : decode cX2_valueOf 63 = .ok (.iload 5, 2)) rfl ?_
      obtain ⟨hk, hb, h⟩ := h
      refine j_iald hE hk hb (by decide +kernel : decode cX2_valueOf 65 = .ok (.iaload, 1)) ?_
      refine j_ineg hE (by decide +kernel : decode cX2_valueOf 66 = .ok (.ineg, 1)) ?_
      obtain ⟨x6, hx⟩ : ∃ z, z = (-(Ia g3 (Co g3 a5) (Ow g3 a5) l5.toNatClampNeg)) := ⟨_, rfl⟩; have h := h x6 hx; rw [← hx]
      refine j_istore hE (by decide +kernel : decode cX2_valueOf 67 = .ok (.istore 6, 2)) (Nat.le_of_ble_eq_true rfl) rfl ?_
      refine j_iload hE (by decide +kernel : decode cX2_valueOf 69 = .ok (.iload 6, 2)) rfl ?_
      refine j_if_gt hE (by decide +kernel : decode cX2_valueOf 71 = .ok (.ifCond .gt 13, 3)) (tgt := 84) (by decide) (fun q => ?_) (fun q => ?_)
      · have h := h.1 q
        refine j_iload hE (by decide +kernel : decode cX2_valueOf 84 = .ok (.iload 6, 2)) rfl ?_
        refine j_callSN hE rfl cl_X2_102 st_X10_isLetter ⟨by omega, by omega⟩ (As := [.int x6]) (rest := []) rfl rfl (Nat.le_of_ble_eq_true rfl) (by decide +kernel : decode cX2_valueOf 86 = .ok (.invokestatic 102, 3)) (mt_PV_isLetter _ _ _ h) ?_
        rintro _ g7 ⟨x8, rfl, h⟩
        refine j_if_eq hE (by decide +kernel : decode cX2_valueOf 89 = .ok (.ifCond .eq 18, 3)) (tgt := 107) (by decide) (fun q => ?_) (fun q => ?_)
        · have h := h.1 q
          refine j_iload hE (by decide +kernel : decode cX2_valueOf 107 = .ok (.iload 6, 2)) rfl ?_
          refine j_bipush hE (by decide +kernel : decode cX2_valueOf 109 = .ok (.bipush 33, 2)) (v := (33 : Int32)) (by decide) ?_
          refine j_icmp_ne hE (by decide +kernel : decode cX2_valueOf 111 = .ok (.if_icmp .ne 22, 3)) (tgt := 133) (by decide) (fun q => ?_) (fun q => ?_)
          · have h := h.1 q
            refine j_iload hE (by decide +kernel : decode cX2_valueOf 133 = .ok (.iload 6, 2)) rfl ?_
            refine j_bipush hE (by decide +kernel : decode cX2_valueOf 135 = .ok (.bipush 126, 2)) (v := (126 : Int32)) (by decide) ?_
            refine j_icmp_ne hE (by decide +kernel : decode cX2_valueOf 137 = .ok (.if_icmp .ne 15, 3)) (tgt := 152) (by decide) (fun q => ?_) (fun q => ?_)
            · have h := h.1 q
              refine j_aload_n hE (by decide +kernel : decode cX2_valueOf 152 = .ok (.aload_n 0, 1)) rfl rfl ?_
              obtain ⟨hk, h⟩ := h
              refine j_callV hE rfl cl_X2_110 cf_3 im_X2_pop se_X2_pop ⟨by omega, by omega⟩ (As := []) (rest := []) rfl rfl (Nat.le_of_ble_eq_true rfl) hk (by decide +kernel : decode cX2_valueOf 153 = .ok (.invokevirtual 110, 3)) (mt_Ju_pop _ _ _ h) ?_
              rintro _ g9 ⟨x10, rfl, h⟩
              refine j_istore hE (by decide +kernel : decode cX2_valueOf 156 = .ok (.istore 7, 2)) (Nat.le_of_ble_eq_true rfl) rfl ?_
              refine j_aload_n hE (by decide +kernel : decode cX2_valueOf 158 = .ok (.aload_n 0, 1)) rfl rfl ?_
              refine j_iload hE (by decide +kernel : decode cX2_valueOf 159 = .ok (.iload 6, 2)) rfl ?_
              refine j_aload_n hE (by decide +kernel : decode cX2_valueOf 161 = .ok (.aload_n 0, 1)) rfl rfl ?_
              obtain ⟨hk, h⟩ := h
              refine j_callV hE rfl cl_X2_110 cf_3 im_X2_pop se_X2_pop ⟨by omega, by omega⟩ (As := []) (rest := [.int x6, .ref l0]) rfl rfl (Nat.le_of_ble_eq_true rfl) hk (by decide +kernel : decode cX2_valueOf 162 = .ok (.invokevirtual 110, 3)) (mt_Ju_pop _ _ _ h) ?_
              rintro _ g11 ⟨x12, rfl, h⟩
              refine j_iload hE (by decide +kernel : decode cX2_valueOf 165 = .ok (.iload 7, 2)) rfl ?_
              refine j_callS hE rfl cl_X2_115 st_X2_joined ⟨by omega, by omega⟩ (As := [.int x6, .int x12, .int x10]) (rest := [.ref l0]) rfl rfl (Nat.le_of_ble_eq_true rfl) (by decide +kernel : decode cX2_valueOf 167 = .ok (.invokestatic 115, 3)) (mt_Ju_joined _ _ _ _ _ h) ?_
              rintro _ g13 ⟨x14, rfl, h⟩
              obtain ⟨hk, h⟩ := h
              refine j_callV hE rfl cl_X2_98 cf_3 im_X2_push se_X2_push ⟨by omega, by omega⟩ (As := [.int x14]) (rest := []) rfl rfl (Nat.le_of_ble_eq_true rfl) hk (by decide +kernel : decode cX2_valueOf 170 = .ok (.invokevirtual 98, 3)) (mt_Ju_push _ _ _ _ h) ?_
              rintro _ g15 ⟨rfl, h⟩
              refine j_weak [some (.ref l0), some (.ref l1), some (.int l2), some (.ref l3), some (.int l4), some (.int l5), none, none] ⟨rfl, ⟨rfl, ⟨rfl, ⟨rfl, ⟨rfl, ⟨rfl, trivial⟩⟩⟩⟩⟩⟩ ?_
              exact S_Ju_valueOf_173 hE hK30 _ _ _ _ _ _ _ h
            · have h := h.2 q
              refine j_aload_n hE (by decide +kernel : decode cX2_valueOf 140 = .ok (.aload_n 0, 1)) rfl rfl ?_
              refine j_aload_n hE (by decide +kernel : decode cX2_valueOf 141 = .ok (.aload_n 0, 1)) rfl rfl ?_
              obtain ⟨hk, h⟩ := h
              refine j_callV hE rfl cl_X2_110 cf_3 im_X2_pop se_X2_pop ⟨by omega, by omega⟩ (As := []) (rest := [.ref l0]) rfl rfl (Nat.le_of_ble_eq_true rfl) hk (by decide +kernel : decode cX2_valueOf 142 = .ok (.invokevirtual 110, 3)) (mt_Ju_pop _ _ _ h) ?_
              rintro _ g16 ⟨x17, rfl, h⟩
              refine j_ineg hE (by decide +kernel : decode cX2_valueOf 145 = .ok (.ineg, 1)) ?_
              obtain ⟨hk, h⟩ := h
              refine j_callV hE rfl cl_X2_98 cf_3 im_X2_push se_X2_push ⟨by omega, by omega⟩ (As := [.int (-x17)]) (rest := []) rfl rfl (Nat.le_of_ble_eq_true rfl) hk (by decide +kernel : decode cX2_valueOf 146 = .ok (.invokevirtual 98, 3)) (mt_Ju_push _ _ _ _ h) ?_
              rintro _ g18 ⟨rfl, h⟩
              refine j_goto hE (by decide +kernel : decode cX2_valueOf 149 = .ok (.goto 24, 3)) (tgt := 173) (by decide) ?_
              refine j_weak [some (.ref l0), some (.ref l1), some (.int l2), some (.ref l3), some (.int l4), some (.int l5), none, none] ⟨rfl, ⟨rfl, ⟨rfl, ⟨rfl, ⟨rfl, ⟨rfl, trivial⟩⟩⟩⟩⟩⟩ ?_
              exact S_Ju_valueOf_173 hE hK30 _ _ _ _ _ _ _ h
          · have h := h.2 q
            refine j_aload_n hE (by decide +kernel : decode cX2_valueOf 114 = .ok (.aload_n 0, 1)) rfl rfl ?_
            refine j_aload_n hE (by decide +kernel : decode cX2_valueOf 115 = .ok (.aload_n 0, 1)) rfl rfl ?_
            obtain ⟨hk, h⟩ := h
            refine j_callV hE rfl cl_X2_110 cf_3 im_X2_pop se_X2_pop ⟨by omega, by omega⟩ (As := []) (rest := [.ref l0]) rfl rfl (Nat.le_of_ble_eq_true rfl) hk (by decide +kernel : decode cX2_valueOf 116 = .ok (.invokevirtual 110, 3)) (mt_Ju_pop _ _ _ h) ?_
            rintro _ g19 ⟨x20, rfl, h⟩
            refine j_if_ne hE (by decide +kernel : decode cX2_valueOf 119 = .ok (.ifCond .ne 7, 3)) (tgt := 126) (by decide) (fun q => ?_) (fun q => ?_)
            · have h := h.1 q
              refine j_iconst hE (by decide +kernel : decode cX2_valueOf 126 = .ok (.iconst 0, 1)) (v := (0 : Int32)) (by decide) ?_
              refine j_weak [some (.ref l0), some (.ref l1), some (.int l2), some (.ref l3), some (.int l4), some (.int l5), none, none] ⟨rfl, ⟨rfl, ⟨rfl, ⟨rfl, ⟨rfl, ⟨rfl, trivial⟩⟩⟩⟩⟩⟩ ?_
              exact S_Ju_valueOf_127 hE hK30 _ _ _ _ _ _ _ _ _ h
            · have h := h.2 q
              refine j_iconst hE (by decide +kernel : decode cX2_valueOf 122 = .ok (.iconst 1, 1)) (v := (1 : Int32)) (by decide) ?_
              refine j_goto hE (by decide +kernel : decode cX2_valueOf 123 = .ok (.goto 4, 3)) (tgt := 127) (by decide) ?_
              refine j_weak [some (.ref l0), some (.ref l1), some (.int l2), some (.ref l3), some (.int l4), some (.int l5), none, none] ⟨rfl, ⟨rfl, ⟨rfl, ⟨rfl, ⟨rfl, ⟨rfl, trivial⟩⟩⟩⟩⟩⟩ ?_
              exact S_Ju_valueOf_127 hE hK30 _ _ _ _ _ _ _ _ _ h
        · have h := h.2 q
          refine j_aload_n hE (by decide +kernel : decode cX2_valueOf 92 = .ok (.aload_n 0, 1)) rfl rfl ?_
          refine j_aload_n hE (by decide +kernel : decode cX2_valueOf 93 = .ok (.aload_n 3, 1)) rfl rfl ?_
          refine j_iload hE (by decide +kernel : decode cX2_valueOf 94 = .ok (.iload 6, 2)) rfl ?_
          refine j_iload hE (by decide +kernel : decode cX2_valueOf 96 = .ok (.iload 4, 2)) rfl ?_
          obtain ⟨hk, h⟩ := h
          refine j_callV hE rfl cl_X2_106 cf_1 im_X0_numberOf se_X0_numberOf ⟨by omega, by omega⟩ (As := [.int x6, .int l4]) (rest := [.ref l0]) rfl rfl (Nat.le_of_ble_eq_true rfl) hk (by decide +kernel : decode cX2_valueOf 98 = .ok (.invokevirtual 106, 3)) (mt_En_numberOf _ _ _ _ _ h) ?_
          rintro _ g21 ⟨x22, rfl, h⟩
          obtain ⟨hk, h⟩ := h
          refine j_callV hE rfl cl_X2_98 cf_3 im_X2_push se_X2_push ⟨by omega, by omega⟩ (As := [.int x22]) (rest := []) rfl rfl (Nat.le_of_ble_eq_true rfl) hk (by decide +kernel : decode cX2_valueOf 101 = .ok (.invokevirtual 98, 3)) (mt_Ju_push _ _ _ _ h) ?_
          rintro _ g23 ⟨rfl, h⟩
          refine j_goto hE (by decide +kernel : decode cX2_valueOf 104 = .ok (.goto 69, 3)) (tgt := 173) (by decide) ?_
          refine j_weak [some (.ref l0), some (.ref l1), some (.int l2), some (.ref l3), some (.int l4), some (.int l5), none, none] ⟨rfl, ⟨rfl, ⟨rfl, ⟨rfl, ⟨rfl, ⟨rfl, trivial⟩⟩⟩⟩⟩⟩ ?_
          exact S_Ju_valueOf_173 hE hK30 _ _ _ _ _ _ _ h
      · have h := h.2 q
        refine j_aload_n hE (by decide +kernel : decode cX2_valueOf 74 = .ok (.aload_n 0, 1)) rfl rfl ?_
        refine j_iload hE (by decide +kernel : decode cX2_valueOf 75 = .ok (.iload 6, 2)) rfl ?_
        refine j_ineg hE (by decide +kernel : decode cX2_valueOf 77 = .ok (.ineg, 1)) ?_
        obtain ⟨hk, h⟩ := h
        refine j_callV hE rfl cl_X2_98 cf_3 im_X2_push se_X2_push ⟨by omega, by omega⟩ (As := [.int (-x6)]) (rest := []) rfl rfl (Nat.le_of_ble_eq_true rfl) hk (by decide +kernel : decode cX2_valueOf 78 = .ok (.invokevirtual 98, 3)) (mt_Ju_push _ _ _ _ h) ?_
        rintro _ g24 ⟨rfl, h⟩
        refine j_goto hE (by decide +kernel : decode cX2_valueOf 81 = .ok (.goto 92, 3)) (tgt := 173) (by decide) ?_
        refine j_weak [some (.ref l0), some (.ref l1), some (.int l2), some (.ref l3), some (.int l4), some (.int l5), none, none] ⟨rfl, ⟨rfl, ⟨rfl, ⟨rfl, ⟨rfl, ⟨rfl, trivial⟩⟩⟩⟩⟩⟩ ?_
        exact S_Ju_valueOf_173 hE hK30 _ _ _ _ _ _ _ h
set_option maxRecDepth 100000 in
def B_Ju_valueOf_0 (Γ : GAM) (K30 : Nat → Nat → Int32 → Nat → Int32 → Int32 → GH → Prop) (K : Int32 → GH → Prop) (th : Nat) (p0 : Nat) (p1 : Int32) (p2 : Nat) (p3 : Int32) (g : GH) : Prop :=
  Kd g p0 = 5 ∧ ∃ a1 : Nat, Gr g 517 p0 = some a1 ∧ (20 ≤ Kd g a1 ∧ Kd g a1 < 24) ∧ Sp_PV_isWithin Γ p1 (0 : Int32) ((Int32.ofNat (Ln g a1)) - (2 : Int32)) g (fun (x3 : Int32) (g2 : GH) => ((¬ (x3 = 0) → Kd g2 th = 4 ∧ ∀ g4 : GH, g4 = sI g2 386 th (0 : Int32) → Kd g4 p0 = 5 ∧ ∃ a5 : Nat, Gr g4 517 p0 = some a5 ∧ Kd g4 a5 = 20 ∧ inB p1 (Ln g4 a5) ∧ ∀ x6 : Int32, x6 = (Ia g4 (Co g4 a5) (Ow g4 a5) p1.toNatClampNeg) → K30 th p0 p1 p2 p3 x6 g4) ∧ (x3 = 0 → K (0 : Int32) g2)))
set_option maxHeartbeats 4000000 in
set_option maxRecDepth 100000 in
theorem S_Ju_valueOf_0 {Γ : GAM} {E : EV} {K : Int32 → GH → Prop} (hE : GE Γ E cX2_valueOf 8 RX2 (some (.int)) 1 22 (fun r g' => ∃ x, r = some (.int x) ∧ K x g')) {K30 : Nat → Nat → Int32 → Nat → Int32 → Int32 → GH → Prop} (hK30 : ∀ (l0 : Nat) (l1 : Nat) (l2 : Int32) (l3 : Nat) (l4 : Int32) (l5 : Int32) (g : GH), K30 l0 l1 l2 l3 l4 l5 g → JW Γ E 30 [some (.ref l0), some (.ref l1), some (.int l2), some (.ref l3), some (.int l4), some (.int l5), none, none] [] g) (th : Nat) (p0 : Nat) (p1 : Int32) (p2 : Nat) (p3 : Int32) (g : GH) (h : B_Ju_valueOf_0 Γ K30 K th p0 p1 p2 p3 g) : JW Γ E 0 [some (.ref th), some (.ref p0), some (.int p1), some (.ref p2), some (.int p3), none, none, none] [] g := by
  unfold B_Ju_valueOf_0 at h
  refine j_iload_n hE (by decide +kernel : decode cX2_valueOf 0 = .ok (.iload_n 2, 1)) rfl rfl ?_
  refine j_iconst hE (by decide +kernel : decode cX2_valueOf 1 = .ok (.iconst 0, 1)) (v := (0 : Int32)) (by decide) ?_
  refine j_aload_n hE (by decide +kernel : decode cX2_valueOf 2 = .ok (.aload_n 1, 1)) rfl rfl ?_
  obtain ⟨hk, h⟩ := h
  obtain ⟨a1, ha, h⟩ := h
  refine j_getRn hE fg_X2_89 hk ha (by decide +kernel : decode cX2_valueOf 3 = .ok (.getfield 89, 3)) ?_
  obtain ⟨hk, h⟩ := h
  refine j_alen hE hk (by decide +kernel : decode cX2_valueOf 6 = .ok (.arraylength, 1)) ?_
  refine j_iconst hE (by decide +kernel : decode cX2_valueOf 7 = .ok (.iconst 2, 1)) (v := (2 : Int32)) (by decide) ?_
  refine j_isub hE (by decide +kernel : decode cX2_valueOf 8 = .ok (.isub, 1)) ?_
  refine j_callSN hE rfl cl_X2_55 st_X10_isWithin ⟨by omega, by omega⟩ (As := [.int p1, .int (0 : Int32), .int ((Int32.ofNat (Ln g a1)) - (2 : Int32))]) (rest := []) rfl rfl (Nat.le_of_ble_eq_true rfl) (by decide +kernel : decode cX2_valueOf 9 = .ok (.invokestatic 55, 3)) (mt_PV_isWithin _ _ _ _ _ h) ?_
  rintro _ g2 ⟨x3, rfl, h⟩
  refine j_if_ne hE (by decide +kernel : decode cX2_valueOf 12 = .ok (.ifCond .ne 5, 3)) (tgt := 17) (by decide) (fun q => ?_) (fun q => ?_)
  · have h := h.1 q
    refine j_aload_n hE (by decide +kernel : decode cX2_valueOf 17 = .ok (.aload_n 0, 1)) rfl rfl ?_
    refine j_iconst hE (by decide +kernel : decode cX2_valueOf 18 = .ok (.iconst 0, 1)) (v := (0 : Int32)) (by decide) ?_
    obtain ⟨hk, h⟩ := h
    obtain ⟨g4, hg⟩ : ∃ z, z = sI g2 386 th (0 : Int32) := ⟨_, rfl⟩; have h := h g4 hg
    refine j_putI hE fa_X2_92 hk (fun q => by cases q) (by decide +kernel : decode cX2_valueOf 19 = .ok (.putfield 92, 3)) ?_
    rw [← hg]
    refine j_aload_n hE (by decide +kernel : decode cX2_valueOf 22 = .ok (.aload_n 1, 1)) rfl rfl ?_
    obtain ⟨hk, h⟩ := h
    obtain ⟨a5, ha, h⟩ := h
    refine j_getRn hE fg_X2_89 hk ha (by decide +kernel : decode cX2_valueOf 23 = .ok (.getfield 89, 3)) ?_
    refine j_iload_n hE (by decide +kernel : decode cX2_valueOf 26 = .ok (.iload_n 2, 1)) rfl rfl ?_
    obtain ⟨hk, hb, h⟩ := h
    refine j_iald hE hk hb (by decide +kernel : decode cX2_valueOf 27 = .ok (.iaload, 1)) ?_
    obtain ⟨x6, hx⟩ : ∃ z, z = (Ia g4 (Co g4 a5) (Ow g4 a5) p1.toNatClampNeg) := ⟨_, rfl⟩; have h := h x6 hx; rw [← hx]
    refine j_istore hE (by decide +kernel : decode cX2_valueOf 28 = .ok (.istore 5, 2)) (Nat.le_of_ble_eq_true rfl) rfl ?_
    exact hK30 _ _ _ _ _ _ _ h
  · have h := h.2 q
    refine j_iconst hE (by decide +kernel : decode cX2_valueOf 15 = .ok (.iconst 0, 1)) (v := (0 : Int32)) (by decide) ?_
    exact j_iret hE (by decide +kernel : decode cX2_valueOf 16 = .ok (.ireturn, 1)) ⟨_, rfl, h⟩
set_option maxHeartbeats 4000000 in
set_option maxRecDepth 100000 in
theorem rl_Ju_valueOf {Γ : GAM} {l : Launch} {th : Nat} {p0 : Nat} {p1 : Int32} {p2 : Nat} {p3 : Int32} {g : GH} {K : Int32 → GH → Prop} (I30 : Nat → Nat → Nat → Int32 → Nat → Int32 → Int32 → GH → Prop) (hh30 : ∀ n (l0 : Nat) (l1 : Nat) (l2 : Int32) (l3 : Nat) (l4 : Int32) (l5 : Int32) (g : GH), I30 n l0 l1 l2 l3 l4 l5 g → B_Ju_valueOf_30 Γ (fun l0 l1 l2 l3 l4 l5 g => ∃ m, m < n ∧ I30 m l0 l1 l2 l3 l4 l5 g) K l0 l1 l2 l3 l4 l5 g) (h0 : B_Ju_valueOf_0 Γ (fun l0 l1 l2 l3 l4 l5 g => ∃ m, I30 m l0 l1 l2 l3 l4 l5 g) K th p0 p1 p2 p3 g) : MetA Γ l yX2_valueOf cX2_valueOf 8 (some (.int)) 1 22 [.ref th, .ref p0, .int p1, .ref p2, .int p3] g (fun r g' => ∃ x, r = some (.int x) ∧ K x g') := by
  refine MetA.introL (Lx := [some (.ref th), some (.ref p0), some (.int p1), some (.ref p2), some (.int p3), none, none, none]) (by decide) (Nat.le_of_ble_eq_true rfl) rfl rfl ?_
  intro E hEl hE hnm
  have hall : ∀ n, (∀ (l0 : Nat) (l1 : Nat) (l2 : Int32) (l3 : Nat) (l4 : Int32) (l5 : Int32) (g : GH), I30 n l0 l1 l2 l3 l4 l5 g → JW Γ E 30 [some (.ref l0), some (.ref l1), some (.int l2), some (.ref l3), some (.int l4), some (.int l5), none, none] [] g) := by
    intro n
    induction n using Nat.strongRecOn with
    | ind n ih =>
      exact fun l0 l1 l2 l3 l4 l5 g hi => S_Ju_valueOf_30 hE (fun l0 l1 l2 l3 l4 l5 g hm => by obtain ⟨m, hm, h⟩ := hm; exact (ih m hm) l0 l1 l2 l3 l4 l5 g h) l0 l1 l2 l3 l4 l5 g (hh30 n l0 l1 l2 l3 l4 l5 g hi)
  exact S_Ju_valueOf_0 hE (fun l0 l1 l2 l3 l4 l5 g hm => by obtain ⟨m, h⟩ := hm; exact (hall m) l0 l1 l2 l3 l4 l5 g h) th p0 p1 p2 p3 g h0
def Sp_Ju_bounded (Γ : GAM) (q0 : Int64) (g : GH) (K : Int32 → GH → Prop) : Prop := False
theorem mt_Ju_bounded {Γ : GAM} {l : Launch} (q0 : Int64) (g : GH) (K : Int32 → GH → Prop) (h : Sp_Ju_bounded Γ q0 g K) : MetA Γ l yX2_bounded cX2_bounded 2 (some (.int)) 0 0 [.long q0] g (fun r g' => ∃ x, r = some (.int x) ∧ K x g') := h.elim
-- the walk of Ju_joined
set_option maxRecDepth 100000 in
def B_Ju_joined_198 (Γ : GAM) (K : Int32 → GH → Prop) (s0 : Int32) (g : GH) : Prop :=
  K s0 g
set_option maxHeartbeats 4000000 in
set_option maxRecDepth 100000 in
theorem S_Ju_joined_198 {Γ : GAM} {E : EV} {K : Int32 → GH → Prop} (hE : GE Γ E cX2_joined 3 RX2 (some (.int)) 1 21 (fun r g' => ∃ x, r = some (.int x) ∧ K x g')) (s0 : Int32) (g : GH) (h : B_Ju_joined_198 Γ K s0 g) : JW Γ E 198 [none, none, none] [.int s0] g := by
  unfold B_Ju_joined_198 at h
  exact j_iret hE (by decide +kernel : decode cX2_joined 198 = .ok (.ireturn, 1)) ⟨_, rfl, h⟩
set_option maxRecDepth 100000 in
def B_Ju_joined_187 (Γ : GAM) (K : Int32 → GH → Prop) (s0 : Int32) (g : GH) : Prop :=
  K s0 g
set_option maxHeartbeats 4000000 in
set_option maxRecDepth 100000 in
theorem S_Ju_joined_187 {Γ : GAM} {E : EV} {K : Int32 → GH → Prop} (hE : GE Γ E cX2_joined 3 RX2 (some (.int)) 1 21 (fun r g' => ∃ x, r = some (.int x) ∧ K x g')) (s0 : Int32) (g : GH) (h : B_Ju_joined_187 Γ K s0 g) : JW Γ E 187 [none, none, none] [.int s0] g := by
  unfold B_Ju_joined_187 at h
  exact j_iret hE (by decide +kernel : decode cX2_joined 187 = .ok (.ireturn, 1)) ⟨_, rfl, h⟩
set_option maxRecDepth 100000 in
def B_Ju_joined_176 (Γ : GAM) (K : Int32 → GH → Prop) (s0 : Int32) (g : GH) : Prop :=
  K s0 g
set_option maxHeartbeats 4000000 in
set_option maxRecDepth 100000 in
theorem S_Ju_joined_176 {Γ : GAM} {E : EV} {K : Int32 → GH → Prop} (hE : GE Γ E cX2_joined 3 RX2 (some (.int)) 1 21 (fun r g' => ∃ x, r = some (.int x) ∧ K x g')) (s0 : Int32) (g : GH) (h : B_Ju_joined_176 Γ K s0 g) : JW Γ E 176 [none, none, none] [.int s0] g := by
  unfold B_Ju_joined_176 at h
  exact j_iret hE (by decide +kernel : decode cX2_joined 176 = .ok (.ireturn, 1)) ⟨_, rfl, h⟩
set_option maxRecDepth 100000 in
def B_Ju_joined_165 (Γ : GAM) (K : Int32 → GH → Prop) (s0 : Int32) (g : GH) : Prop :=
  K s0 g
set_option maxHeartbeats 4000000 in
set_option maxRecDepth 100000 in
theorem S_Ju_joined_165 {Γ : GAM} {E : EV} {K : Int32 → GH → Prop} (hE : GE Γ E cX2_joined 3 RX2 (some (.int)) 1 21 (fun r g' => ∃ x, r = some (.int x) ∧ K x g')) (s0 : Int32) (g : GH) (h : B_Ju_joined_165 Γ K s0 g) : JW Γ E 165 [none, none, none] [.int s0] g := by
  unfold B_Ju_joined_165 at h
  exact j_iret hE (by decide +kernel : decode cX2_joined 165 = .ok (.ireturn, 1)) ⟨_, rfl, h⟩
set_option maxRecDepth 100000 in
def B_Ju_joined_0 (Γ : GAM) (K : Int32 → GH → Prop) (p0 : Int32) (p1 : Int32) (p2 : Int32) (g : GH) : Prop :=
  ((p0 = (35 : Int32) → ((p1 = p2 → B_Ju_joined_176 Γ K (0 : Int32) g) ∧ (¬ (p1 = p2) → B_Ju_joined_176 Γ K (1 : Int32) g))) ∧ (¬ (p0 = (35 : Int32)) → ((p0 = (36 : Int32) → K (p1 ||| p2) g) ∧ (¬ (p0 = (36 : Int32)) → ((p0 = (37 : Int32) → K (p1 ||| p2) g) ∧ (¬ (p0 = (37 : Int32)) → ((p0 = (38 : Int32) → K (p1 &&& p2) g) ∧ (¬ (p0 = (38 : Int32)) → ((p0 = (39 : Int32) → K (p1 ||| p2) g) ∧ (¬ (p0 = (39 : Int32)) → ((p0 = (40 : Int32) → K (p1 ||| p2) g) ∧ (¬ (p0 = (40 : Int32)) → ((p0 = (41 : Int32) → K (p1 ||| p2) g) ∧ (¬ (p0 = (41 : Int32)) → ((p0 = (42 : Int32) → Sp_Ju_bounded Γ ((p1.toInt64) * (p2.toInt64)) g (fun (x2 : Int32) (g1 : GH) => K x2 g1)) ∧ (¬ (p0 = (42 : Int32)) → ((p0 = (43 : Int32) → Sp_Ju_bounded Γ ((p1.toInt64) + (p2.toInt64)) g (fun (x4 : Int32) (g3 : GH) => K x4 g3)) ∧ (¬ (p0 = (43 : Int32)) → ((p0 = (44 : Int32) → K (p1 ||| p2) g) ∧ (¬ (p0 = (44 : Int32)) → ((p0 = (45 : Int32) → Sp_Ju_bounded Γ ((p1.toInt64) - (p2.toInt64)) g (fun (x6 : Int32) (g5 : GH) => K x6 g5)) ∧ (¬ (p0 = (45 : Int32)) → ((p0 = (46 : Int32) → K (p1 ||| p2) g) ∧ (¬ (p0 = (46 : Int32)) → ((p0 = (47 : Int32) → K (p1 ||| p2) g) ∧ (¬ (p0 = (47 : Int32)) → ((p0 = (48 : Int32) → K (p1 ||| p2) g) ∧ (¬ (p0 = (48 : Int32)) → ((p0 = (49 : Int32) → K (p1 ||| p2) g) ∧ (¬ (p0 = (49 : Int32)) → ((p0 = (50 : Int32) → K (p1 ||| p2) g) ∧ (¬ (p0 = (50 : Int32)) → ((p0 = (51 : Int32) → K (p1 ||| p2) g) ∧ (¬ (p0 = (51 : Int32)) → ((p0 = (52 : Int32) → K (p1 ||| p2) g) ∧ (¬ (p0 = (52 : Int32)) → ((p0 = (53 : Int32) → K (p1 ||| p2) g) ∧ (¬ (p0 = (53 : Int32)) → ((p0 = (54 : Int32) → K (p1 ||| p2) g) ∧ (¬ (p0 = (54 : Int32)) → ((p0 = (55 : Int32) → K (p1 ||| p2) g) ∧ (¬ (p0 = (55 : Int32)) → ((p0 = (56 : Int32) → K (p1 ||| p2) g) ∧ (¬ (p0 = (56 : Int32)) → ((p0 = (57 : Int32) → K (p1 ||| p2) g) ∧ (¬ (p0 = (57 : Int32)) → ((p0 = (58 : Int32) → K (p1 ||| p2) g) ∧ (¬ (p0 = (58 : Int32)) → ((p0 = (59 : Int32) → K (p1 ||| p2) g) ∧ (¬ (p0 = (59 : Int32)) → ((p0 = (60 : Int32) → ((p2 ≤ p1 → B_Ju_joined_187 Γ K (0 : Int32) g) ∧ (¬ (p2 ≤ p1) → B_Ju_joined_187 Γ K (1 : Int32) g))) ∧ (¬ (p0 = (60 : Int32)) → ((p0 = (61 : Int32) → ((¬ (p1 = p2) → B_Ju_joined_165 Γ K (0 : Int32) g) ∧ (p1 = p2 → B_Ju_joined_165 Γ K (1 : Int32) g))) ∧ (¬ (p0 = (61 : Int32)) → ((p0 = (62 : Int32) → ((p1 ≤ p2 → B_Ju_joined_198 Γ K (0 : Int32) g) ∧ (¬ (p1 ≤ p2) → B_Ju_joined_198 Γ K (1 : Int32) g))) ∧ (¬ (p0 = (62 : Int32)) → K (p1 ||| p2) g))))))))))))))))))))))))))))))))))))))))))))))))))))))))
set_option maxHeartbeats 4000000 in
set_option maxRecDepth 100000 in
theorem S_Ju_joined_0 {Γ : GAM} {E : EV} {K : Int32 → GH → Prop} (hE : GE Γ E cX2_joined 3 RX2 (some (.int)) 1 21 (fun r g' => ∃ x, r = some (.int x) ∧ K x g')) (p0 : Int32) (p1 : Int32) (p2 : Int32) (g : GH) (h : B_Ju_joined_0 Γ K p0 p1 p2 g) : JW Γ E 0 [some (.int p0), some (.int p1), some (.int p2)] [] g := by
  unfold B_Ju_joined_0 at h
  refine j_iload_n hE (by decide +kernel : decode cX2_joined 0 = .ok (.iload_n 0, 1)) rfl rfl ?_
  by_cases q0 : p0 = (35 : Int32)
  · have h := h.1 q0
    refine j_tableIn hE (by decide +kernel : decode cX2_joined 1 = .ok (.tableswitch 202 35 62 #[165, 202, 202, 198, 202, 202, 202, 145, 127, 202, 136, 202, 202, 202, 202, 202, 202, 202, 202, 202, 202, 202, 202, 202, 202, 176, 154, 187], 127)) (by rw [q0]; decide) (by rw [q0]; decide) (off := 165) (by rw [q0]; decide) (tgt := 166) (by decide) ?_
    refine j_iload_n hE (by decide +kernel : decode cX2_joined 166 = .ok (.iload_n 1, 1)) rfl rfl ?_
    refine j_iload_n hE (by decide +kernel : decode cX2_joined 167 = .ok (.iload_n 2, 1)) rfl rfl ?_
    refine j_icmp_eq hE (by decide +kernel : decode cX2_joined 168 = .ok (.if_icmp .eq 7, 3)) (tgt := 175) (by decide) (fun q => ?_) (fun q => ?_)
    · have h := h.1 q
      refine j_iconst hE (by decide +kernel : decode cX2_joined 175 = .ok (.iconst 0, 1)) (v := (0 : Int32)) (by decide) ?_
      refine j_weak [none, none, none] trivial ?_
      exact S_Ju_joined_176 hE _ _ h
    · have h := h.2 q
      refine j_iconst hE (by decide +kernel : decode cX2_joined 171 = .ok (.iconst 1, 1)) (v := (1 : Int32)) (by decide) ?_
      refine j_goto hE (by decide +kernel : decode cX2_joined 172 = .ok (.goto 4, 3)) (tgt := 176) (by decide) ?_
      refine j_weak [none, none, none] trivial ?_
      exact S_Ju_joined_176 hE _ _ h
  · have h := h.2 q0
    by_cases q1 : p0 = (36 : Int32)
    · have h := h.1 q1
      refine j_tableIn hE (by decide +kernel : decode cX2_joined 1 = .ok (.tableswitch 202 35 62 #[165, 202, 202, 198, 202, 202, 202, 145, 127, 202, 136, 202, 202, 202, 202, 202, 202, 202, 202, 202, 202, 202, 202, 202, 202, 176, 154, 187], 127)) (by rw [q1]; decide) (by rw [q1]; decide) (off := 202) (by rw [q1]; decide) (tgt := 203) (by decide) ?_
      refine j_iload_n hE (by decide +kernel : decode cX2_joined 203 = .ok (.iload_n 1, 1)) rfl rfl ?_
      refine j_iload_n hE (by decide +kernel : decode cX2_joined 204 = .ok (.iload_n 2, 1)) rfl rfl ?_
      refine j_ior hE (by decide +kernel : decode cX2_joined 205 = .ok (.ior, 1)) ?_
      exact j_iret hE (by decide +kernel : decode cX2_joined 206 = .ok (.ireturn, 1)) ⟨_, rfl, h⟩
    · have h := h.2 q1
      by_cases q2 : p0 = (37 : Int32)
      · have h := h.1 q2
        refine j_tableIn hE (by decide +kernel : decode cX2_joined 1 = .ok (.tableswitch 202 35 62 #[165, 202, 202, 198, 202, 202, 202, 145, 127, 202, 136, 202, 202, 202, 202, 202, 202, 202, 202, 202, 202, 202, 202, 202, 202, 176, 154, 187], 127)) (by rw [q2]; decide) (by rw [q2]; decide) (off := 202) (by rw [q2]; decide) (tgt := 203) (by decide) ?_
        refine j_iload_n hE (by decide +kernel : decode cX2_joined 203 = .ok (.iload_n 1, 1)) rfl rfl ?_
        refine j_iload_n hE (by decide +kernel : decode cX2_joined 204 = .ok (.iload_n 2, 1)) rfl rfl ?_
        refine j_ior hE (by decide +kernel : decode cX2_joined 205 = .ok (.ior, 1)) ?_
        exact j_iret hE (by decide +kernel : decode cX2_joined 206 = .ok (.ireturn, 1)) ⟨_, rfl, h⟩
      · have h := h.2 q2
        by_cases q3 : p0 = (38 : Int32)
        · have h := h.1 q3
          refine j_tableIn hE (by decide +kernel : decode cX2_joined 1 = .ok (.tableswitch 202 35 62 #[165, 202, 202, 198, 202, 202, 202, 145, 127, 202, 136, 202, 202, 202, 202, 202, 202, 202, 202, 202, 202, 202, 202, 202, 202, 176, 154, 187], 127)) (by rw [q3]; decide) (by rw [q3]; decide) (off := 198) (by rw [q3]; decide) (tgt := 199) (by decide) ?_
          refine j_iload_n hE (by decide +kernel : decode cX2_joined 199 = .ok (.iload_n 1, 1)) rfl rfl ?_
          refine j_iload_n hE (by decide +kernel : decode cX2_joined 200 = .ok (.iload_n 2, 1)) rfl rfl ?_
          refine j_iand hE (by decide +kernel : decode cX2_joined 201 = .ok (.iand, 1)) ?_
          exact j_iret hE (by decide +kernel : decode cX2_joined 202 = .ok (.ireturn, 1)) ⟨_, rfl, h⟩
        · have h := h.2 q3
          by_cases q4 : p0 = (39 : Int32)
          · have h := h.1 q4
            refine j_tableIn hE (by decide +kernel : decode cX2_joined 1 = .ok (.tableswitch 202 35 62 #[165, 202, 202, 198, 202, 202, 202, 145, 127, 202, 136, 202, 202, 202, 202, 202, 202, 202, 202, 202, 202, 202, 202, 202, 202, 176, 154, 187], 127)) (by rw [q4]; decide) (by rw [q4]; decide) (off := 202) (by rw [q4]; decide) (tgt := 203) (by decide) ?_
            refine j_iload_n hE (by decide +kernel : decode cX2_joined 203 = .ok (.iload_n 1, 1)) rfl rfl ?_
            refine j_iload_n hE (by decide +kernel : decode cX2_joined 204 = .ok (.iload_n 2, 1)) rfl rfl ?_
            refine j_ior hE (by decide +kernel : decode cX2_joined 205 = .ok (.ior, 1)) ?_
            exact j_iret hE (by decide +kernel : decode cX2_joined 206 = .ok (.ireturn, 1)) ⟨_, rfl, h⟩
          · have h := h.2 q4
            by_cases q5 : p0 = (40 : Int32)
            · have h := h.1 q5
              refine j_tableIn hE (by decide +kernel : decode cX2_joined 1 = .ok (.tableswitch 202 35 62 #[165, 202, 202, 198, 202, 202, 202, 145, 127, 202, 136, 202, 202, 202, 202, 202, 202, 202, 202, 202, 202, 202, 202, 202, 202, 176, 154, 187], 127)) (by rw [q5]; decide) (by rw [q5]; decide) (off := 202) (by rw [q5]; decide) (tgt := 203) (by decide) ?_
              refine j_iload_n hE (by decide +kernel : decode cX2_joined 203 = .ok (.iload_n 1, 1)) rfl rfl ?_
              refine j_iload_n hE (by decide +kernel : decode cX2_joined 204 = .ok (.iload_n 2, 1)) rfl rfl ?_
              refine j_ior hE (by decide +kernel : decode cX2_joined 205 = .ok (.ior, 1)) ?_
              exact j_iret hE (by decide +kernel : decode cX2_joined 206 = .ok (.ireturn, 1)) ⟨_, rfl, h⟩
            · have h := h.2 q5
              by_cases q6 : p0 = (41 : Int32)
              · have h := h.1 q6
                refine j_tableIn hE (by decide +kernel : decode cX2_joined 1 = .ok (.tableswitch 202 35 62 #[165, 202, 202, 198, 202, 202, 202, 145, 127, 202, 136, 202, 202, 202, 202, 202, 202, 202, 202, 202, 202, 202, 202, 202, 202, 176, 154, 187], 127)) (by rw [q6]; decide) (by rw [q6]; decide) (off := 202) (by rw [q6]; decide) (tgt := 203) (by decide) ?_
                refine j_iload_n hE (by decide +kernel : decode cX2_joined 203 = .ok (.iload_n 1, 1)) rfl rfl ?_
                refine j_iload_n hE (by decide +kernel : decode cX2_joined 204 = .ok (.iload_n 2, 1)) rfl rfl ?_
                refine j_ior hE (by decide +kernel : decode cX2_joined 205 = .ok (.ior, 1)) ?_
                exact j_iret hE (by decide +kernel : decode cX2_joined 206 = .ok (.ireturn, 1)) ⟨_, rfl, h⟩
              · have h := h.2 q6
                by_cases q7 : p0 = (42 : Int32)
                · have h := h.1 q7
                  refine j_tableIn hE (by decide +kernel : decode cX2_joined 1 = .ok (.tableswitch 202 35 62 #[165, 202, 202, 198, 202, 202, 202, 145, 127, 202, 136, 202, 202, 202, 202, 202, 202, 202, 202, 202, 202, 202, 202, 202, 202, 176, 154, 187], 127)) (by rw [q7]; decide) (by rw [q7]; decide) (off := 145) (by rw [q7]; decide) (tgt := 146) (by decide) ?_
                  refine j_iload_n hE (by decide +kernel : decode cX2_joined 146 = .ok (.iload_n 1, 1)) rfl rfl ?_
                  refine j_i2l hE (by decide +kernel : decode cX2_joined 147 = .ok (.i2l, 1)) ?_
                  refine j_iload_n hE (by decide +kernel : decode cX2_joined 148 = .ok (.iload_n 2, 1)) rfl rfl ?_
                  refine j_i2l hE (by decide +kernel : decode cX2_joined 149 = .ok (.i2l, 1)) ?_
                  refine j_lmul hE (by decide +kernel : decode cX2_joined 150 = .ok (.lmul, 1)) ?_
                  refine j_callS hE rfl cl_X2_118 st_X2_bounded ⟨by omega, by omega⟩ (As := [.long ((p1.toInt64) * (p2.toInt64))]) (rest := []) rfl rfl (Nat.le_of_ble_eq_true rfl) (by decide +kernel : decode cX2_joined 151 = .ok (.invokestatic 118, 3)) (mt_Ju_bounded _ _ _ h) ?_
                  rintro _ g1 ⟨x2, rfl, h⟩
                  exact j_iret hE (by decide +kernel : decode cX2_joined 154 = .ok (.ireturn, 1)) ⟨_, rfl, h⟩
                · have h := h.2 q7
                  by_cases q8 : p0 = (43 : Int32)
                  · have h := h.1 q8
                    refine j_tableIn hE (by decide +kernel : decode cX2_joined 1 = .ok (.tableswitch 202 35 62 #[165, 202, 202, 198, 202, 202, 202, 145, 127, 202, 136, 202, 202, 202, 202, 202, 202, 202, 202, 202, 202, 202, 202, 202, 202, 176, 154, 187], 127)) (by rw [q8]; decide) (by rw [q8]; decide) (off := 127) (by rw [q8]; decide) (tgt := 128) (by decide) ?_
                    refine j_iload_n hE (by decide +kernel : decode cX2_joined 128 = .ok (.iload_n 1, 1)) rfl rfl ?_
                    refine j_i2l hE (by decide +kernel : decode cX2_joined 129 = .ok (.i2l, 1)) ?_
                    refine j_iload_n hE (by decide +kernel : decode cX2_joined 130 = .ok (.iload_n 2, 1)) rfl rfl ?_
                    refine j_i2l hE (by decide +kernel : decode cX2_joined 131 = .ok (.i2l, 1)) ?_
                    refine j_ladd hE (by decide +kernel : decode cX2_joined 132 = .ok (.ladd, 1)) ?_
                    refine j_callS hE rfl cl_X2_118 st_X2_bounded ⟨by omega, by omega⟩ (As := [.long ((p1.toInt64) + (p2.toInt64))]) (rest := []) rfl rfl (Nat.le_of_ble_eq_true rfl) (by decide +kernel : decode cX2_joined 133 = .ok (.invokestatic 118, 3)) (mt_Ju_bounded _ _ _ h) ?_
                    rintro _ g3 ⟨x4, rfl, h⟩
                    exact j_iret hE (by decide +kernel : decode cX2_joined 136 = .ok (.ireturn, 1)) ⟨_, rfl, h⟩
                  · have h := h.2 q8
                    by_cases q9 : p0 = (44 : Int32)
                    · have h := h.1 q9
                      refine j_tableIn hE (by decide +kernel : decode cX2_joined 1 = .ok (.tableswitch 202 35 62 #[165, 202, 202, 198, 202, 202, 202, 145, 127, 202, 136, 202, 202, 202, 202, 202, 202, 202, 202, 202, 202, 202, 202, 202, 202, 176, 154, 187], 127)) (by rw [q9]; decide) (by rw [q9]; decide) (off := 202) (by rw [q9]; decide) (tgt := 203) (by decide) ?_
                      refine j_iload_n hE (by decide +kernel : decode cX2_joined 203 = .ok (.iload_n 1, 1)) rfl rfl ?_
                      refine j_iload_n hE (by decide +kernel : decode cX2_joined 204 = .ok (.iload_n 2, 1)) rfl rfl ?_
                      refine j_ior hE (by decide +kernel : decode cX2_joined 205 = .ok (.ior, 1)) ?_
                      exact j_iret hE (by decide +kernel : decode cX2_joined 206 = .ok (.ireturn, 1)) ⟨_, rfl, h⟩
                    · have h := h.2 q9
                      by_cases q10 : p0 = (45 : Int32)
                      · have h := h.1 q10
                        refine j_tableIn hE (by decide +kernel : decode cX2_joined 1 = .ok (.tableswitch 202 35 62 #[165, 202, 202, 198, 202, 202, 202, 145, 127, 202, 136, 202, 202, 202, 202, 202, 202, 202, 202, 202, 202, 202, 202, 202, 202, 176, 154, 187], 127)) (by rw [q10]; decide) (by rw [q10]; decide) (off := 136) (by rw [q10]; decide) (tgt := 137) (by decide) ?_
                        refine j_iload_n hE (by decide +kernel : decode cX2_joined 137 = .ok (.iload_n 1, 1)) rfl rfl ?_
                        refine j_i2l hE (by decide +kernel : decode cX2_joined 138 = .ok (.i2l, 1)) ?_
                        refine j_iload_n hE (by decide +kernel : decode cX2_joined 139 = .ok (.iload_n 2, 1)) rfl rfl ?_
                        refine j_i2l hE (by decide +kernel : decode cX2_joined 140 = .ok (.i2l, 1)) ?_
                        refine j_lsub hE (by decide +kernel : decode cX2_joined 141 = .ok (.lsub, 1)) ?_
                        refine j_callS hE rfl cl_X2_118 st_X2_bounded ⟨by omega, by omega⟩ (As := [.long ((p1.toInt64) - (p2.toInt64))]) (rest := []) rfl rfl (Nat.le_of_ble_eq_true rfl) (by decide +kernel : decode cX2_joined 142 = .ok (.invokestatic 118, 3)) (mt_Ju_bounded _ _ _ h) ?_
                        rintro _ g5 ⟨x6, rfl, h⟩
                        exact j_iret hE (by decide +kernel : decode cX2_joined 145 = .ok (.ireturn, 1)) ⟨_, rfl, h⟩
                      · have h := h.2 q10
                        by_cases q11 : p0 = (46 : Int32)
                        · have h := h.1 q11
                          refine j_tableIn hE (by decide +kernel : decode cX2_joined 1 = .ok (.tableswitch 202 35 62 #[165, 202, 202, 198, 202, 202, 202, 145, 127, 202, 136, 202, 202, 202, 202, 202, 202, 202, 202, 202, 202, 202, 202, 202, 202, 176, 154, 187], 127)) (by rw [q11]; decide) (by rw [q11]; decide) (off := 202) (by rw [q11]; decide) (tgt := 203) (by decide) ?_
                          refine j_iload_n hE (by decide +kernel : decode cX2_joined 203 = .ok (.iload_n 1, 1)) rfl rfl ?_
                          refine j_iload_n hE (by decide +kernel : decode cX2_joined 204 = .ok (.iload_n 2, 1)) rfl rfl ?_
                          refine j_ior hE (by decide +kernel : decode cX2_joined 205 = .ok (.ior, 1)) ?_
                          exact j_iret hE (by decide +kernel : decode cX2_joined 206 = .ok (.ireturn, 1)) ⟨_, rfl, h⟩
                        · have h := h.2 q11
                          by_cases q12 : p0 = (47 : Int32)
                          · have h := h.1 q12
                            refine j_tableIn hE (by decide +kernel : decode cX2_joined 1 = .ok (.tableswitch 202 35 62 #[165, 202, 202, 198, 202, 202, 202, 145, 127, 202, 136, 202, 202, 202, 202, 202, 202, 202, 202, 202, 202, 202, 202, 202, 202, 176, 154, 187], 127)) (by rw [q12]; decide) (by rw [q12]; decide) (off := 202) (by rw [q12]; decide) (tgt := 203) (by decide) ?_
                            refine j_iload_n hE (by decide +kernel : decode cX2_joined 203 = .ok (.iload_n 1, 1)) rfl rfl ?_
                            refine j_iload_n hE (by decide +kernel : decode cX2_joined 204 = .ok (.iload_n 2, 1)) rfl rfl ?_
                            refine j_ior hE (by decide +kernel : decode cX2_joined 205 = .ok (.ior, 1)) ?_
                            exact j_iret hE (by decide +kernel : decode cX2_joined 206 = .ok (.ireturn, 1)) ⟨_, rfl, h⟩
                          · have h := h.2 q12
                            by_cases q13 : p0 = (48 : Int32)
                            · have h := h.1 q13
                              refine j_tableIn hE (by decide +kernel : decode cX2_joined 1 = .ok (.tableswitch 202 35 62 #[165, 202, 202, 198, 202, 202, 202, 145, 127, 202, 136, 202, 202, 202, 202, 202, 202, 202, 202, 202, 202, 202, 202, 202, 202, 176, 154, 187], 127)) (by rw [q13]; decide) (by rw [q13]; decide) (off := 202) (by rw [q13]; decide) (tgt := 203) (by decide) ?_
                              refine j_iload_n hE (by decide +kernel : decode cX2_joined 203 = .ok (.iload_n 1, 1)) rfl rfl ?_
                              refine j_iload_n hE (by decide +kernel : decode cX2_joined 204 = .ok (.iload_n 2, 1)) rfl rfl ?_
                              refine j_ior hE (by decide +kernel : decode cX2_joined 205 = .ok (.ior, 1)) ?_
                              exact j_iret hE (by decide +kernel : decode cX2_joined 206 = .ok (.ireturn, 1)) ⟨_, rfl, h⟩
                            · have h := h.2 q13
                              by_cases q14 : p0 = (49 : Int32)
                              · have h := h.1 q14
                                refine j_tableIn hE (by decide +kernel : decode cX2_joined 1 = .ok (.tableswitch 202 35 62 #[165, 202, 202, 198, 202, 202, 202, 145, 127, 202, 136, 202, 202, 202, 202, 202, 202, 202, 202, 202, 202, 202, 202, 202, 202, 176, 154, 187], 127)) (by rw [q14]; decide) (by rw [q14]; decide) (off := 202) (by rw [q14]; decide) (tgt := 203) (by decide) ?_
                                refine j_iload_n hE (by decide +kernel : decode cX2_joined 203 = .ok (.iload_n 1, 1)) rfl rfl ?_
                                refine j_iload_n hE (by decide +kernel : decode cX2_joined 204 = .ok (.iload_n 2, 1)) rfl rfl ?_
                                refine j_ior hE (by decide +kernel : decode cX2_joined 205 = .ok (.ior, 1)) ?_
                                exact j_iret hE (by decide +kernel : decode cX2_joined 206 = .ok (.ireturn, 1)) ⟨_, rfl, h⟩
                              · have h := h.2 q14
                                by_cases q15 : p0 = (50 : Int32)
                                · have h := h.1 q15
                                  refine j_tableIn hE (by decide +kernel : decode cX2_joined 1 = .ok (.tableswitch 202 35 62 #[165, 202, 202, 198, 202, 202, 202, 145, 127, 202, 136, 202, 202, 202, 202, 202, 202, 202, 202, 202, 202, 202, 202, 202, 202, 176, 154, 187], 127)) (by rw [q15]; decide) (by rw [q15]; decide) (off := 202) (by rw [q15]; decide) (tgt := 203) (by decide) ?_
                                  refine j_iload_n hE (by decide +kernel : decode cX2_joined 203 = .ok (.iload_n 1, 1)) rfl rfl ?_
                                  refine j_iload_n hE (by decide +kernel : decode cX2_joined 204 = .ok (.iload_n 2, 1)) rfl rfl ?_
                                  refine j_ior hE (by decide +kernel : decode cX2_joined 205 = .ok (.ior, 1)) ?_
                                  exact j_iret hE (by decide +kernel : decode cX2_joined 206 = .ok (.ireturn, 1)) ⟨_, rfl, h⟩
                                · have h := h.2 q15
                                  by_cases q16 : p0 = (51 : Int32)
                                  · have h := h.1 q16
                                    refine j_tableIn hE (by decide +kernel : decode cX2_joined 1 = .ok (.tableswitch 202 35 62 #[165, 202, 202, 198, 202, 202, 202, 145, 127, 202, 136, 202, 202, 202, 202, 202, 202, 202, 202, 202, 202, 202, 202, 202, 202, 176, 154, 187], 127)) (by rw [q16]; decide) (by rw [q16]; decide) (off := 202) (by rw [q16]; decide) (tgt := 203) (by decide) ?_
                                    refine j_iload_n hE (by decide +kernel : decode cX2_joined 203 = .ok (.iload_n 1, 1)) rfl rfl ?_
                                    refine j_iload_n hE (by decide +kernel : decode cX2_joined 204 = .ok (.iload_n 2, 1)) rfl rfl ?_
                                    refine j_ior hE (by decide +kernel : decode cX2_joined 205 = .ok (.ior, 1)) ?_
                                    exact j_iret hE (by decide +kernel : decode cX2_joined 206 = .ok (.ireturn, 1)) ⟨_, rfl, h⟩
                                  · have h := h.2 q16
                                    by_cases q17 : p0 = (52 : Int32)
                                    · have h := h.1 q17
                                      refine j_tableIn hE (by decide +kernel : decode cX2_joined 1 = .ok (.tableswitch 202 35 62 #[165, 202, 202, 198, 202, 202, 202, 145, 127, 202, 136, 202, 202, 202, 202, 202, 202, 202, 202, 202, 202, 202, 202, 202, 202, 176, 154, 187], 127)) (by rw [q17]; decide) (by rw [q17]; decide) (off := 202) (by rw [q17]; decide) (tgt := 203) (by decide) ?_
                                      refine j_iload_n hE (by decide +kernel : decode cX2_joined 203 = .ok (.iload_n 1, 1)) rfl rfl ?_
                                      refine j_iload_n hE (by decide +kernel : decode cX2_joined 204 = .ok (.iload_n 2, 1)) rfl rfl ?_
                                      refine j_ior hE (by decide +kernel : decode cX2_joined 205 = .ok (.ior, 1)) ?_
                                      exact j_iret hE (by decide +kernel : decode cX2_joined 206 = .ok (.ireturn, 1)) ⟨_, rfl, h⟩
                                    · have h := h.2 q17
                                      by_cases q18 : p0 = (53 : Int32)
                                      · have h := h.1 q18
                                        refine j_tableIn hE (by decide +kernel : decode cX2_joined 1 = .ok (.tableswitch 202 35 62 #[165, 202, 202, 198, 202, 202, 202, 145, 127, 202, 136, 202, 202, 202, 202, 202, 202, 202, 202, 202, 202, 202, 202, 202, 202, 176, 154, 187], 127)) (by rw [q18]; decide) (by rw [q18]; decide) (off := 202) (by rw [q18]; decide) (tgt := 203) (by decide) ?_
                                        refine j_iload_n hE (by decide +kernel : decode cX2_joined 203 = .ok (.iload_n 1, 1)) rfl rfl ?_
                                        refine j_iload_n hE (by decide +kernel : decode cX2_joined 204 = .ok (.iload_n 2, 1)) rfl rfl ?_
                                        refine j_ior hE (by decide +kernel : decode cX2_joined 205 = .ok (.ior, 1)) ?_
                                        exact j_iret hE (by decide +kernel : decode cX2_joined 206 = .ok (.ireturn, 1)) ⟨_, rfl, h⟩
                                      · have h := h.2 q18
                                        by_cases q19 : p0 = (54 : Int32)
                                        · have h := h.1 q19
                                          refine j_tableIn hE (by decide +kernel : decode cX2_joined 1 = .ok (.tableswitch 202 35 62 #[165, 202, 202, 198, 202, 202, 202, 145, 127, 202, 136, 202, 202, 202, 202, 202, 202, 202, 202, 202, 202, 202, 202, 202, 202, 176, 154, 187], 127)) (by rw [q19]; decide) (by rw [q19]; decide) (off := 202) (by rw [q19]; decide) (tgt := 203) (by decide) ?_
                                          refine j_iload_n hE (by decide +kernel : decode cX2_joined 203 = .ok (.iload_n 1, 1)) rfl rfl ?_
                                          refine j_iload_n hE (by decide +kernel : decode cX2_joined 204 = .ok (.iload_n 2, 1)) rfl rfl ?_
                                          refine j_ior hE (by decide +kernel : decode cX2_joined 205 = .ok (.ior, 1)) ?_
                                          exact j_iret hE (by decide +kernel : decode cX2_joined 206 = .ok (.ireturn, 1)) ⟨_, rfl, h⟩
                                        · have h := h.2 q19
                                          by_cases q20 : p0 = (55 : Int32)
                                          · have h := h.1 q20
                                            refine j_tableIn hE (by decide +kernel : decode cX2_joined 1 = .ok (.tableswitch 202 35 62 #[165, 202, 202, 198, 202, 202, 202, 145, 127, 202, 136, 202, 202, 202, 202, 202, 202, 202, 202, 202, 202, 202, 202, 202, 202, 176, 154, 187], 127)) (by rw [q20]; decide) (by rw [q20]; decide) (off := 202) (by rw [q20]; decide) (tgt := 203) (by decide) ?_
                                            refine j_iload_n hE (by decide +kernel : decode cX2_joined 203 = .ok (.iload_n 1, 1)) rfl rfl ?_
                                            refine j_iload_n hE (by decide +kernel : decode cX2_joined 204 = .ok (.iload_n 2, 1)) rfl rfl ?_
                                            refine j_ior hE (by decide +kernel : decode cX2_joined 205 = .ok (.ior, 1)) ?_
                                            exact j_iret hE (by decide +kernel : decode cX2_joined 206 = .ok (.ireturn, 1)) ⟨_, rfl, h⟩
                                          · have h := h.2 q20
                                            by_cases q21 : p0 = (56 : Int32)
                                            · have h := h.1 q21
                                              refine j_tableIn hE (by decide +kernel : decode cX2_joined 1 = .ok (.tableswitch 202 35 62 #[165, 202, 202, 198, 202, 202, 202, 145, 127, 202, 136, 202, 202, 202, 202, 202, 202, 202, 202, 202, 202, 202, 202, 202, 202, 176, 154, 187], 127)) (by rw [q21]; decide) (by rw [q21]; decide) (off := 202) (by rw [q21]; decide) (tgt := 203) (by decide) ?_
                                              refine j_iload_n hE (by decide +kernel : decode cX2_joined 203 = .ok (.iload_n 1, 1)) rfl rfl ?_
                                              refine j_iload_n hE (by decide +kernel : decode cX2_joined 204 = .ok (.iload_n 2, 1)) rfl rfl ?_
                                              refine j_ior hE (by decide +kernel : decode cX2_joined 205 = .ok (.ior, 1)) ?_
                                              exact j_iret hE (by decide +kernel : decode cX2_joined 206 = .ok (.ireturn, 1)) ⟨_, rfl, h⟩
                                            · have h := h.2 q21
                                              by_cases q22 : p0 = (57 : Int32)
                                              · have h := h.1 q22
                                                refine j_tableIn hE (by decide +kernel : decode cX2_joined 1 = .ok (.tableswitch 202 35 62 #[165, 202, 202, 198, 202, 202, 202, 145, 127, 202, 136, 202, 202, 202, 202, 202, 202, 202, 202, 202, 202, 202, 202, 202, 202, 176, 154, 187], 127)) (by rw [q22]; decide) (by rw [q22]; decide) (off := 202) (by rw [q22]; decide) (tgt := 203) (by decide) ?_
                                                refine j_iload_n hE (by decide +kernel : decode cX2_joined 203 = .ok (.iload_n 1, 1)) rfl rfl ?_
                                                refine j_iload_n hE (by decide +kernel : decode cX2_joined 204 = .ok (.iload_n 2, 1)) rfl rfl ?_
                                                refine j_ior hE (by decide +kernel : decode cX2_joined 205 = .ok (.ior, 1)) ?_
                                                exact j_iret hE (by decide +kernel : decode cX2_joined 206 = .ok (.ireturn, 1)) ⟨_, rfl, h⟩
                                              · have h := h.2 q22
                                                by_cases q23 : p0 = (58 : Int32)
                                                · have h := h.1 q23
                                                  refine j_tableIn hE (by decide +kernel : decode cX2_joined 1 = .ok (.tableswitch 202 35 62 #[165, 202, 202, 198, 202, 202, 202, 145, 127, 202, 136, 202, 202, 202, 202, 202, 202, 202, 202, 202, 202, 202, 202, 202, 202, 176, 154, 187], 127)) (by rw [q23]; decide) (by rw [q23]; decide) (off := 202) (by rw [q23]; decide) (tgt := 203) (by decide) ?_
                                                  refine j_iload_n hE (by decide +kernel : decode cX2_joined 203 = .ok (.iload_n 1, 1)) rfl rfl ?_
                                                  refine j_iload_n hE (by decide +kernel : decode cX2_joined 204 = .ok (.iload_n 2, 1)) rfl rfl ?_
                                                  refine j_ior hE (by decide +kernel : decode cX2_joined 205 = .ok (.ior, 1)) ?_
                                                  exact j_iret hE (by decide +kernel : decode cX2_joined 206 = .ok (.ireturn, 1)) ⟨_, rfl, h⟩
                                                · have h := h.2 q23
                                                  by_cases q24 : p0 = (59 : Int32)
                                                  · have h := h.1 q24
                                                    refine j_tableIn hE (by decide +kernel : decode cX2_joined 1 = .ok (.tableswitch 202 35 62 #[165, 202, 202, 198, 202, 202, 202, 145, 127, 202, 136, 202, 202, 202, 202, 202, 202, 202, 202, 202, 202, 202, 202, 202, 202, 176, 154, 187], 127)) (by rw [q24]; decide) (by rw [q24]; decide) (off := 202) (by rw [q24]; decide) (tgt := 203) (by decide) ?_
                                                    refine j_iload_n hE (by decide +kernel : decode cX2_joined 203 = .ok (.iload_n 1, 1)) rfl rfl ?_
                                                    refine j_iload_n hE (by decide +kernel : decode cX2_joined 204 = .ok (.iload_n 2, 1)) rfl rfl ?_
                                                    refine j_ior hE (by decide +kernel : decode cX2_joined 205 = .ok (.ior, 1)) ?_
                                                    exact j_iret hE (by decide +kernel : decode cX2_joined 206 = .ok (.ireturn, 1)) ⟨_, rfl, h⟩
                                                  · have h := h.2 q24
                                                    by_cases q25 : p0 = (60 : Int32)
                                                    · have h := h.1 q25
                                                      refine j_tableIn hE (by decide +kernel : decode cX2_joined 1 = .ok (.tableswitch 202 35 62 #[165, 202, 202, 198, 202, 202, 202, 145, 127, 202, 136, 202, 202, 202, 202, 202, 202, 202, 202, 202, 202, 202, 202, 202, 202, 176, 154, 187], 127)) (by rw [q25]; decide) (by rw [q25]; decide) (off := 176) (by rw [q25]; decide) (tgt := 177) (by decide) ?_
                                                      refine j_iload_n hE (by decide +kernel : decode cX2_joined 177 = .ok (.iload_n 1, 1)) rfl rfl ?_
                                                      refine j_iload_n hE (by decide +kernel : decode cX2_joined 178 = .ok (.iload_n 2, 1)) rfl rfl ?_
                                                      refine j_icmp_ge hE (by decide +kernel : decode cX2_joined 179 = .ok (.if_icmp .ge 7, 3)) (tgt := 186) (by decide) (fun q => ?_) (fun q => ?_)
                                                      · have h := h.1 q
                                                        refine j_iconst hE (by decide +kernel : decode cX2_joined 186 = .ok (.iconst 0, 1)) (v := (0 : Int32)) (by decide) ?_
                                                        refine j_weak [none, none, none] trivial ?_
                                                        exact S_Ju_joined_187 hE _ _ h
                                                      · have h := h.2 q
                                                        refine j_iconst hE (by decide +kernel : decode cX2_joined 182 = .ok (.iconst 1, 1)) (v := (1 : Int32)) (by decide) ?_
                                                        refine j_goto hE (by decide +kernel : decode cX2_joined 183 = .ok (.goto 4, 3)) (tgt := 187) (by decide) ?_
                                                        refine j_weak [none, none, none] trivial ?_
                                                        exact S_Ju_joined_187 hE _ _ h
                                                    · have h := h.2 q25
                                                      by_cases q26 : p0 = (61 : Int32)
                                                      · have h := h.1 q26
                                                        refine j_tableIn hE (by decide +kernel : decode cX2_joined 1 = .ok (.tableswitch 202 35 62 #[165, 202, 202, 198, 202, 202, 202, 145, 127, 202, 136, 202, 202, 202, 202, 202, 202, 202, 202, 202, 202, 202, 202, 202, 202, 176, 154, 187], 127)) (by rw [q26]; decide) (by rw [q26]; decide) (off := 154) (by rw [q26]; decide) (tgt := 155) (by decide) ?_
                                                        refine j_iload_n hE (by decide +kernel : decode cX2_joined 155 = .ok (.iload_n 1, 1)) rfl rfl ?_
                                                        refine j_iload_n hE (by decide +kernel : decode cX2_joined 156 = .ok (.iload_n 2, 1)) rfl rfl ?_
                                                        refine j_icmp_ne hE (by decide +kernel : decode cX2_joined 157 = .ok (.if_icmp .ne 7, 3)) (tgt := 164) (by decide) (fun q => ?_) (fun q => ?_)
                                                        · have h := h.1 q
                                                          refine j_iconst hE (by decide +kernel : decode cX2_joined 164 = .ok (.iconst 0, 1)) (v := (0 : Int32)) (by decide) ?_
                                                          refine j_weak [none, none, none] trivial ?_
                                                          exact S_Ju_joined_165 hE _ _ h
                                                        · have h := h.2 q
                                                          refine j_iconst hE (by decide +kernel : decode cX2_joined 160 = .ok (.iconst 1, 1)) (v := (1 : Int32)) (by decide) ?_
                                                          refine j_goto hE (by decide +kernel : decode cX2_joined 161 = .ok (.goto 4, 3)) (tgt := 165) (by decide) ?_
                                                          refine j_weak [none, none, none] trivial ?_
                                                          exact S_Ju_joined_165 hE _ _ h
                                                      · have h := h.2 q26
                                                        by_cases q27 : p0 = (62 : Int32)
                                                        · have h := h.1 q27
                                                          refine j_tableIn hE (by decide +kernel : decode cX2_joined 1 = .ok (.tableswitch 202 35 62 #[165, 202, 202, 198, 202, 202, 202, 145, 127, 202, 136, 202, 202, 202, 202, 202, 202, 202, 202, 202, 202, 202, 202, 202, 202, 176, 154, 187], 127)) (by rw [q27]; decide) (by rw [q27]; decide) (off := 187) (by rw [q27]; decide) (tgt := 188) (by decide) ?_
                                                          refine j_iload_n hE (by decide +kernel : decode cX2_joined 188 = .ok (.iload_n 1, 1)) rfl rfl ?_
                                                          refine j_iload_n hE (by decide +kernel : decode cX2_joined 189 = .ok (.iload_n 2, 1)) rfl rfl ?_
                                                          refine j_icmp_le hE (by decide +kernel : decode cX2_joined 190 = .ok (.if_icmp .le 7, 3)) (tgt := 197) (by decide) (fun q => ?_) (fun q => ?_)
                                                          · have h := h.1 q
                                                            refine j_iconst hE (by decide +kernel : decode cX2_joined 197 = .ok (.iconst 0, 1)) (v := (0 : Int32)) (by decide) ?_
                                                            refine j_weak [none, none, none] trivial ?_
                                                            exact S_Ju_joined_198 hE _ _ h
                                                          · have h := h.2 q
                                                            refine j_iconst hE (by decide +kernel : decode cX2_joined 193 = .ok (.iconst 1, 1)) (v := (1 : Int32)) (by decide) ?_
                                                            refine j_goto hE (by decide +kernel : decode cX2_joined 194 = .ok (.goto 4, 3)) (tgt := 198) (by decide) ?_
                                                            refine j_weak [none, none, none] trivial ?_
                                                            exact S_Ju_joined_198 hE _ _ h
                                                        · have h := h.2 q27
                                                          have qq : (p0).toInt < 35 ∨ 62 < (p0).toInt := by
                                                            have z0 : ¬ (p0).toInt = 35 := fun e => q0 (Int32.toInt_inj.mp (e.trans (by decide)))
                                                            have z1 : ¬ (p0).toInt = 36 := fun e => q1 (Int32.toInt_inj.mp (e.trans (by decide)))
                                                            have z2 : ¬ (p0).toInt = 37 := fun e => q2 (Int32.toInt_inj.mp (e.trans (by decide)))
                                                            have z3 : ¬ (p0).toInt = 38 := fun e => q3 (Int32.toInt_inj.mp (e.trans (by decide)))
                                                            have z4 : ¬ (p0).toInt = 39 := fun e => q4 (Int32.toInt_inj.mp (e.trans (by decide)))
                                                            have z5 : ¬ (p0).toInt = 40 := fun e => q5 (Int32.toInt_inj.mp (e.trans (by decide)))
                                                            have z6 : ¬ (p0).toInt = 41 := fun e => q6 (Int32.toInt_inj.mp (e.trans (by decide)))
                                                            have z7 : ¬ (p0).toInt = 42 := fun e => q7 (Int32.toInt_inj.mp (e.trans (by decide)))
                                                            have z8 : ¬ (p0).toInt = 43 := fun e => q8 (Int32.toInt_inj.mp (e.trans (by decide)))
                                                            have z9 : ¬ (p0).toInt = 44 := fun e => q9 (Int32.toInt_inj.mp (e.trans (by decide)))
                                                            have z10 : ¬ (p0).toInt = 45 := fun e => q10 (Int32.toInt_inj.mp (e.trans (by decide)))
                                                            have z11 : ¬ (p0).toInt = 46 := fun e => q11 (Int32.toInt_inj.mp (e.trans (by decide)))
                                                            have z12 : ¬ (p0).toInt = 47 := fun e => q12 (Int32.toInt_inj.mp (e.trans (by decide)))
                                                            have z13 : ¬ (p0).toInt = 48 := fun e => q13 (Int32.toInt_inj.mp (e.trans (by decide)))
                                                            have z14 : ¬ (p0).toInt = 49 := fun e => q14 (Int32.toInt_inj.mp (e.trans (by decide)))
                                                            have z15 : ¬ (p0).toInt = 50 := fun e => q15 (Int32.toInt_inj.mp (e.trans (by decide)))
                                                            have z16 : ¬ (p0).toInt = 51 := fun e => q16 (Int32.toInt_inj.mp (e.trans (by decide)))
                                                            have z17 : ¬ (p0).toInt = 52 := fun e => q17 (Int32.toInt_inj.mp (e.trans (by decide)))
                                                            have z18 : ¬ (p0).toInt = 53 := fun e => q18 (Int32.toInt_inj.mp (e.trans (by decide)))
                                                            have z19 : ¬ (p0).toInt = 54 := fun e => q19 (Int32.toInt_inj.mp (e.trans (by decide)))
                                                            have z20 : ¬ (p0).toInt = 55 := fun e => q20 (Int32.toInt_inj.mp (e.trans (by decide)))
                                                            have z21 : ¬ (p0).toInt = 56 := fun e => q21 (Int32.toInt_inj.mp (e.trans (by decide)))
                                                            have z22 : ¬ (p0).toInt = 57 := fun e => q22 (Int32.toInt_inj.mp (e.trans (by decide)))
                                                            have z23 : ¬ (p0).toInt = 58 := fun e => q23 (Int32.toInt_inj.mp (e.trans (by decide)))
                                                            have z24 : ¬ (p0).toInt = 59 := fun e => q24 (Int32.toInt_inj.mp (e.trans (by decide)))
                                                            have z25 : ¬ (p0).toInt = 60 := fun e => q25 (Int32.toInt_inj.mp (e.trans (by decide)))
                                                            have z26 : ¬ (p0).toInt = 61 := fun e => q26 (Int32.toInt_inj.mp (e.trans (by decide)))
                                                            have z27 : ¬ (p0).toInt = 62 := fun e => q27 (Int32.toInt_inj.mp (e.trans (by decide)))
                                                            omega
                                                          refine j_tableOut hE (by decide +kernel : decode cX2_joined 1 = .ok (.tableswitch 202 35 62 #[165, 202, 202, 198, 202, 202, 202, 145, 127, 202, 136, 202, 202, 202, 202, 202, 202, 202, 202, 202, 202, 202, 202, 202, 202, 176, 154, 187], 127)) qq (tgt := 203) (by decide) ?_
                                                          refine j_iload_n hE (by decide +kernel : decode cX2_joined 203 = .ok (.iload_n 1, 1)) rfl rfl ?_
                                                          refine j_iload_n hE (by decide +kernel : decode cX2_joined 204 = .ok (.iload_n 2, 1)) rfl rfl ?_
                                                          refine j_ior hE (by decide +kernel : decode cX2_joined 205 = .ok (.ior, 1)) ?_
                                                          exact j_iret hE (by decide +kernel : decode cX2_joined 206 = .ok (.ireturn, 1)) ⟨_, rfl, h⟩
set_option maxHeartbeats 4000000 in
set_option maxRecDepth 100000 in
theorem rl_Ju_joined {Γ : GAM} {l : Launch} {p0 : Int32} {p1 : Int32} {p2 : Int32} {g : GH} {K : Int32 → GH → Prop} (h0 : B_Ju_joined_0 Γ K p0 p1 p2 g) : MetA Γ l yX2_joined cX2_joined 3 (some (.int)) 1 21 [.int p0, .int p1, .int p2] g (fun r g' => ∃ x, r = some (.int x) ∧ K x g') := by
  refine MetA.introL (Lx := [some (.int p0), some (.int p1), some (.int p2)]) (by decide) (Nat.le_of_ble_eq_true rfl) rfl rfl ?_
  intro E hEl hE hnm
  exact S_Ju_joined_0 hE p0 p1 p2 g h0
def Sp_Math_min_l1 (Γ : GAM) (q0 : Int64) (q1 : Int64) (g : GH) (K : Int64 → GH → Prop) : Prop := False
theorem mt_Math_min_l1 {Γ : GAM} {l : Launch} (q0 : Int64) (q1 : Int64) (g : GH) (K : Int64 → GH → Prop) (h : Sp_Math_min_l1 Γ q0 q1 g K) : MetA Γ l yJ9_min_f86c9 cJ9_min_f86c9 4 (some (.long)) 0 0 [.long q0, .long q1] g (fun r g' => ∃ x, r = some (.long x) ∧ K x g') := h.elim
def Sp_Math_max_l1 (Γ : GAM) (q0 : Int64) (q1 : Int64) (g : GH) (K : Int64 → GH → Prop) : Prop := False
theorem mt_Math_max_l1 {Γ : GAM} {l : Launch} (q0 : Int64) (q1 : Int64) (g : GH) (K : Int64 → GH → Prop) (h : Sp_Math_max_l1 Γ q0 q1 g K) : MetA Γ l yJ9_max_f86c9 cJ9_max_f86c9 4 (some (.long)) 0 0 [.long q0, .long q1] g (fun r g' => ∃ x, r = some (.long x) ∧ K x g') := h.elim
-- the walk of Ju_bounded
set_option maxRecDepth 100000 in
def B_Ju_bounded_0 (Γ : GAM) (K : Int32 → GH → Prop) (p0 : Int64) (g : GH) : Prop :=
  Sp_Math_min_l1 Γ (1000000 : Int64) p0 g (fun (x2 : Int64) (g1 : GH) => Sp_Math_max_l1 Γ (-1000000 : Int64) x2 g1 (fun (x4 : Int64) (g3 : GH) => K (x4.toInt32) g3))
set_option maxHeartbeats 4000000 in
set_option maxRecDepth 100000 in
theorem S_Ju_bounded_0 {Γ : GAM} {E : EV} {K : Int32 → GH → Prop} (hE : GE Γ E cX2_bounded 2 RX2 (some (.int)) 1 23 (fun r g' => ∃ x, r = some (.int x) ∧ K x g')) (p0 : Int64) (g : GH) (h : B_Ju_bounded_0 Γ K p0 g) : JW Γ E 0 [some (.long p0), none] [] g := by
  unfold B_Ju_bounded_0 at h
  refine j_ldc2 hE ctL_X2_122 (by decide +kernel : decode cX2_bounded 0 = .ok (.ldc2_w 122, 3)) ?_
  refine j_ldc2 hE ctL_X2_124 (by decide +kernel : decode cX2_bounded 3 = .ok (.ldc2_w 124, 3)) ?_
  refine j_lload_n hE (by decide +kernel : decode cX2_bounded 6 = .ok (.lload_n 0, 1)) rfl rfl ?_
  refine j_callS hE rfl cl_X2_126 st_J9_min_f86c9 ⟨by omega, by omega⟩ (As := [.long (1000000 : Int64), .long p0]) (rest := [.long (-1000000 : Int64)]) rfl rfl (Nat.le_of_ble_eq_true rfl) (by decide +kernel : decode cX2_bounded 7 = .ok (.invokestatic 126, 3)) (mt_Math_min_l1 _ _ _ _ h) ?_
  rintro _ g1 ⟨x2, rfl, h⟩
  refine j_callS hE rfl cl_X2_132 st_J9_max_f86c9 ⟨by omega, by omega⟩ (As := [.long (-1000000 : Int64), .long x2]) (rest := []) rfl rfl (Nat.le_of_ble_eq_true rfl) (by decide +kernel : decode cX2_bounded 10 = .ok (.invokestatic 132, 3)) (mt_Math_max_l1 _ _ _ _ h) ?_
  rintro _ g3 ⟨x4, rfl, h⟩
  refine j_l2i hE (by decide +kernel : decode cX2_bounded 13 = .ok (.l2i, 1)) ?_
  exact j_iret hE (by decide +kernel : decode cX2_bounded 14 = .ok (.ireturn, 1)) ⟨_, rfl, h⟩
set_option maxHeartbeats 4000000 in
set_option maxRecDepth 100000 in
theorem rl_Ju_bounded {Γ : GAM} {l : Launch} {p0 : Int64} {g : GH} {K : Int32 → GH → Prop} (h0 : B_Ju_bounded_0 Γ K p0 g) : MetA Γ l yX2_bounded cX2_bounded 2 (some (.int)) 1 23 [.long p0] g (fun r g' => ∃ x, r = some (.int x) ∧ K x g') := by
  refine MetA.introL (Lx := [some (.long p0), none]) (by decide) (Nat.le_of_ble_eq_true rfl) rfl rfl ?_
  intro E hEl hE hnm
  exact S_Ju_bounded_0 hE p0 g h0
-- the walk of Ju_push
set_option maxRecDepth 100000 in
def B_Ju_push_39 (Γ : GAM) (K : GH → Prop)  (g : GH) : Prop :=
  K g
set_option maxHeartbeats 4000000 in
set_option maxRecDepth 100000 in
theorem S_Ju_push_39 {Γ : GAM} {E : EV} {K : GH → Prop} (hE : GE Γ E cX2_push 2 RX2 none 0 0 (fun r g' => r = none ∧ K g'))  (g : GH) (h : B_Ju_push_39 Γ K  g) : JW Γ E 39 [none, none] [] g := by
  unfold B_Ju_push_39 at h
  exact j_vret hE (by decide +kernel : decode cX2_push 39 = .ok (.return_, 1)) ⟨rfl, h⟩
set_option maxRecDepth 100000 in
def B_Ju_push_0 (Γ : GAM) (K : GH → Prop) (th : Nat) (p0 : Int32) (g : GH) : Prop :=
  Kd g th = 4 ∧ (((Gi g 386 th) < 0 → B_Ju_push_39 Γ K g) ∧ (¬ ((Gi g 386 th) < 0) → Kd g th = 4 ∧ Kd g th = 4 ∧ ∃ a1 : Nat, Gr g 385 th = some a1 ∧ (20 ≤ Kd g a1 ∧ Kd g a1 < 24) ∧ (((Int32.ofNat (Ln g a1)) ≤ (Gi g 386 th) → B_Ju_push_39 Γ K g) ∧ (¬ ((Int32.ofNat (Ln g a1)) ≤ (Gi g 386 th)) → Kd g th = 4 ∧ ∃ a2 : Nat, Gr g 385 th = some a2 ∧ Kd g th = 4 ∧ Kd g a2 = 20 ∧ inB (Gi g 386 th) (Ln g a2) ∧ ∀ g3 : GH, g3 = sA g (Co g a2) (Ow g a2) (Gi g 386 th).toNatClampNeg p0 → Kd g3 th = 4 ∧ Kd g3 th = 4 ∧ ∀ g4 : GH, g4 = sI g3 386 th ((Gi g3 386 th) + (1 : Int32)) → B_Ju_push_39 Γ K g4))))
set_option maxHeartbeats 4000000 in
set_option maxRecDepth 100000 in
theorem S_Ju_push_0 {Γ : GAM} {E : EV} {K : GH → Prop} (hE : GE Γ E cX2_push 2 RX2 none 0 0 (fun r g' => r = none ∧ K g')) (th : Nat) (p0 : Int32) (g : GH) (h : B_Ju_push_0 Γ K th p0 g) : JW Γ E 0 [some (.ref th), some (.int p0)] [] g := by
  unfold B_Ju_push_0 at h
  refine j_aload_n hE (by decide +kernel : decode cX2_push 0 = .ok (.aload_n 0, 1)) rfl rfl ?_
  obtain ⟨hk, h⟩ := h
  refine j_getI hE fg_X2_92 hk (by decide +kernel : decode cX2_push 1 = .ok (.getfield 92, 3)) ?_
  refine j_if_lt hE (by decide +kernel : decode cX2_push 4 = .ok (.ifCond .lt 35, 3)) (tgt := 39) (by decide) (fun q => ?_) (fun q => ?_)
  · have h := h.1 q
    refine j_weak [none, none] trivial ?_
    exact S_Ju_push_39 hE _ h
  · have h := h.2 q
    refine j_aload_n hE (by decide +kernel : decode cX2_push 7 = .ok (.aload_n 0, 1)) rfl rfl ?_
    obtain ⟨hk, h⟩ := h
    refine j_getI hE fg_X2_92 hk (by decide +kernel : decode cX2_push 8 = .ok (.getfield 92, 3)) ?_
    refine j_aload_n hE (by decide +kernel : decode cX2_push 11 = .ok (.aload_n 0, 1)) rfl rfl ?_
    obtain ⟨hk, h⟩ := h
    obtain ⟨a1, ha, h⟩ := h
    refine j_getRn hE fg_X2_18 hk ha (by decide +kernel : decode cX2_push 12 = .ok (.getfield 18, 3)) ?_
    obtain ⟨hk, h⟩ := h
    refine j_alen hE hk (by decide +kernel : decode cX2_push 15 = .ok (.arraylength, 1)) ?_
    refine j_icmp_ge hE (by decide +kernel : decode cX2_push 16 = .ok (.if_icmp .ge 23, 3)) (tgt := 39) (by decide) (fun q => ?_) (fun q => ?_)
    · have h := h.1 q
      refine j_weak [none, none] trivial ?_
      exact S_Ju_push_39 hE _ h
    · have h := h.2 q
      refine j_aload_n hE (by decide +kernel : decode cX2_push 19 = .ok (.aload_n 0, 1)) rfl rfl ?_
      obtain ⟨hk, h⟩ := h
      obtain ⟨a2, ha, h⟩ := h
      refine j_getRn hE fg_X2_18 hk ha (by decide +kernel : decode cX2_push 20 = .ok (.getfield 18, 3)) ?_
      refine j_aload_n hE (by decide +kernel : decode cX2_push 23 = .ok (.aload_n 0, 1)) rfl rfl ?_
      obtain ⟨hk, h⟩ := h
      refine j_getI hE fg_X2_92 hk (by decide +kernel : decode cX2_push 24 = .ok (.getfield 92, 3)) ?_
      refine j_iload_n hE (by decide +kernel : decode cX2_push 27 = .ok (.iload_n 1, 1)) rfl rfl ?_
      obtain ⟨hk, hb, h⟩ := h
      obtain ⟨g3, hg⟩ : ∃ z, z = sA g (Co g a2) (Ow g a2) (Gi g 386 th).toNatClampNeg p0 := ⟨_, rfl⟩; have h := h g3 hg
      refine j_iast hE hk hb (by decide +kernel : decode cX2_push 28 = .ok (.iastore, 1)) ?_
      rw [← hg]
      refine j_aload_n hE (by decide +kernel : decode cX2_push 29 = .ok (.aload_n 0, 1)) rfl rfl ?_
      refine j_dup hE (by decide +kernel : decode cX2_push 30 = .ok (.dup, 1)) rfl ?_
      obtain ⟨hk, h⟩ := h
      refine j_getI hE fg_X2_92 hk (by decide +kernel : decode cX2_push 31 = .ok (.getfield 92, 3)) ?_
      refine j_iconst hE (by decide +kernel : decode cX2_push 34 = .ok (.iconst 1, 1)) (v := (1 : Int32)) (by decide) ?_
      refine j_iadd hE (by decide +kernel : decode cX2_push 35 = .ok (.iadd, 1)) ?_
      obtain ⟨hk, h⟩ := h
      obtain ⟨g4, hg⟩ : ∃ z, z = sI g3 386 th ((Gi g3 386 th) + (1 : Int32)) := ⟨_, rfl⟩; have h := h g4 hg
      refine j_putI hE fa_X2_92 hk (fun q => by cases q) (by decide +kernel : decode cX2_push 36 = .ok (.putfield 92, 3)) ?_
      rw [← hg]
      refine j_weak [none, none] trivial ?_
      exact S_Ju_push_39 hE _ h
set_option maxHeartbeats 4000000 in
set_option maxRecDepth 100000 in
theorem rl_Ju_push {Γ : GAM} {l : Launch} {th : Nat} {p0 : Int32} {g : GH} {K : GH → Prop} (h0 : B_Ju_push_0 Γ K th p0 g) : MetA Γ l yX2_push cX2_push 2 none 0 0 [.ref th, .int p0] g (fun r g' => r = none ∧ K g') := by
  refine MetA.introL (Lx := [some (.ref th), some (.int p0)]) (by decide) (Nat.le_of_ble_eq_true rfl) rfl rfl ?_
  intro E hEl hE hnm
  exact S_Ju_push_0 hE th p0 g h0
-- the walk of Ju_pop
set_option maxRecDepth 100000 in
def B_Ju_pop_19 (Γ : GAM) (K : Int32 → GH → Prop)  (g : GH) : Prop :=
  K (0 : Int32) g
set_option maxHeartbeats 4000000 in
set_option maxRecDepth 100000 in
theorem S_Ju_pop_19 {Γ : GAM} {E : EV} {K : Int32 → GH → Prop} (hE : GE Γ E cX2_pop 1 RX2 (some (.int)) 0 0 (fun r g' => ∃ x, r = some (.int x) ∧ K x g'))  (g : GH) (h : B_Ju_pop_19 Γ K  g) : JW Γ E 19 [none] [] g := by
  unfold B_Ju_pop_19 at h
  refine j_iconst hE (by decide +kernel : decode cX2_pop 19 = .ok (.iconst 0, 1)) (v := (0 : Int32)) (by decide) ?_
  exact j_iret hE (by decide +kernel : decode cX2_pop 20 = .ok (.ireturn, 1)) ⟨_, rfl, h⟩
set_option maxRecDepth 100000 in
def B_Ju_pop_0 (Γ : GAM) (K : Int32 → GH → Prop) (th : Nat) (g : GH) : Prop :=
  Kd g th = 4 ∧ (((Gi g 386 th) ≤ 0 → B_Ju_pop_19 Γ K g) ∧ (¬ ((Gi g 386 th) ≤ 0) → Kd g th = 4 ∧ Kd g th = 4 ∧ ∃ a1 : Nat, Gr g 385 th = some a1 ∧ (20 ≤ Kd g a1 ∧ Kd g a1 < 24) ∧ (((Gi g 386 th) ≤ (Int32.ofNat (Ln g a1)) → Kd g th = 4 ∧ Kd g th = 4 ∧ ∀ g2 : GH, g2 = sI g 386 th ((Gi g 386 th) - (1 : Int32)) → Kd g2 th = 4 ∧ ∃ a3 : Nat, Gr g2 385 th = some a3 ∧ Kd g2 th = 4 ∧ Kd g2 a3 = 20 ∧ inB (Gi g2 386 th) (Ln g2 a3) ∧ K (Ia g2 (Co g2 a3) (Ow g2 a3) (Gi g2 386 th).toNatClampNeg) g2) ∧ (¬ ((Gi g 386 th) ≤ (Int32.ofNat (Ln g a1))) → B_Ju_pop_19 Γ K g))))
set_option maxHeartbeats 4000000 in
set_option maxRecDepth 100000 in
theorem S_Ju_pop_0 {Γ : GAM} {E : EV} {K : Int32 → GH → Prop} (hE : GE Γ E cX2_pop 1 RX2 (some (.int)) 0 0 (fun r g' => ∃ x, r = some (.int x) ∧ K x g')) (th : Nat) (g : GH) (h : B_Ju_pop_0 Γ K th g) : JW Γ E 0 [some (.ref th)] [] g := by
  unfold B_Ju_pop_0 at h
  refine j_aload_n hE (by decide +kernel : decode cX2_pop 0 = .ok (.aload_n 0, 1)) rfl rfl ?_
  obtain ⟨hk, h⟩ := h
  refine j_getI hE fg_X2_92 hk (by decide +kernel : decode cX2_pop 1 = .ok (.getfield 92, 3)) ?_
  refine j_if_le hE (by decide +kernel : decode cX2_pop 4 = .ok (.ifCond .le 15, 3)) (tgt := 19) (by decide) (fun q => ?_) (fun q => ?_)
  · have h := h.1 q
    refine j_weak [none] trivial ?_
    exact S_Ju_pop_19 hE _ h
  · have h := h.2 q
    refine j_aload_n hE (by decide +kernel : decode cX2_pop 7 = .ok (.aload_n 0, 1)) rfl rfl ?_
    obtain ⟨hk, h⟩ := h
    refine j_getI hE fg_X2_92 hk (by decide +kernel : decode cX2_pop 8 = .ok (.getfield 92, 3)) ?_
    refine j_aload_n hE (by decide +kernel : decode cX2_pop 11 = .ok (.aload_n 0, 1)) rfl rfl ?_
    obtain ⟨hk, h⟩ := h
    obtain ⟨a1, ha, h⟩ := h
    refine j_getRn hE fg_X2_18 hk ha (by decide +kernel : decode cX2_pop 12 = .ok (.getfield 18, 3)) ?_
    obtain ⟨hk, h⟩ := h
    refine j_alen hE hk (by decide +kernel : decode cX2_pop 15 = .ok (.arraylength, 1)) ?_
    refine j_icmp_le hE (by decide +kernel : decode cX2_pop 16 = .ok (.if_icmp .le 5, 3)) (tgt := 21) (by decide) (fun q => ?_) (fun q => ?_)
    · have h := h.1 q
      refine j_aload_n hE (by decide +kernel : decode cX2_pop 21 = .ok (.aload_n 0, 1)) rfl rfl ?_
      refine j_dup hE (by decide +kernel : decode cX2_pop 22 = .ok (.dup, 1)) rfl ?_
      obtain ⟨hk, h⟩ := h
      refine j_getI hE fg_X2_92 hk (by decide +kernel : decode cX2_pop 23 = .ok (.getfield 92, 3)) ?_
      refine j_iconst hE (by decide +kernel : decode cX2_pop 26 = .ok (.iconst 1, 1)) (v := (1 : Int32)) (by decide) ?_
      refine j_isub hE (by decide +kernel : decode cX2_pop 27 = .ok (.isub, 1)) ?_
      obtain ⟨hk, h⟩ := h
      obtain ⟨g2, hg⟩ : ∃ z, z = sI g 386 th ((Gi g 386 th) - (1 : Int32)) := ⟨_, rfl⟩; have h := h g2 hg
      refine j_putI hE fa_X2_92 hk (fun q => by cases q) (by decide +kernel : decode cX2_pop 28 = .ok (.putfield 92, 3)) ?_
      rw [← hg]
      refine j_aload_n hE (by decide +kernel : decode cX2_pop 31 = .ok (.aload_n 0, 1)) rfl rfl ?_
      obtain ⟨hk, h⟩ := h
      obtain ⟨a3, ha, h⟩ := h
      refine j_getRn hE fg_X2_18 hk ha (by decide +kernel : decode cX2_pop 32 = .ok (.getfield 18, 3)) ?_
      refine j_aload_n hE (by decide +kernel : decode cX2_pop 35 = .ok (.aload_n 0, 1)) rfl rfl ?_
      obtain ⟨hk, h⟩ := h
      refine j_getI hE fg_X2_92 hk (by decide +kernel : decode cX2_pop 36 = .ok (.getfield 92, 3)) ?_
      obtain ⟨hk, hb, h⟩ := h
      refine j_iald hE hk hb (by decide +kernel : decode cX2_pop 39 = .ok (.iaload, 1)) ?_
      exact j_iret hE (by decide +kernel : decode cX2_pop 40 = .ok (.ireturn, 1)) ⟨_, rfl, h⟩
    · have h := h.2 q
      refine j_weak [none] trivial ?_
      exact S_Ju_pop_19 hE _ h
set_option maxHeartbeats 4000000 in
set_option maxRecDepth 100000 in
theorem rl_Ju_pop {Γ : GAM} {l : Launch} {th : Nat} {g : GH} {K : Int32 → GH → Prop} (h0 : B_Ju_pop_0 Γ K th g) : MetA Γ l yX2_pop cX2_pop 1 (some (.int)) 0 0 [.ref th] g (fun r g' => ∃ x, r = some (.int x) ∧ K x g') := by
  refine MetA.introL (Lx := [some (.ref th)]) (by decide) (Nat.le_of_ble_eq_true rfl) rfl rfl ?_
  intro E hEl hE hnm
  exact S_Ju_pop_0 hE th g h0
def Sp_Arrays_copyOf_0 (Γ : GAM) (q0 : Nat) (q1 : Int32) (g : GH) (K : Option Nat → GH → Prop) : Prop := False
theorem mt_Arrays_copyOf_0 {Γ : GAM} {l : Launch} (q0 : Nat) (q1 : Int32) (g : GH) (K : Option Nat → GH → Prop) (h : Sp_Arrays_copyOf_0 Γ q0 q1 g K) : MetA Γ l yJ7_copyOf_59c91 cJ7_copyOf_59c91 3 (some (.array .int)) 0 0 [.ref q0, .int q1] g (fun r g' => ∃ x, r = some (va_rf x) ∧ K x g') := h.elim
-- the walk of Lw_init
set_option maxRecDepth 100000 in
def B_Lw_init_0 (Γ : GAM) (K : GH → Prop) (th : Nat) (p0 : Int32) (p1 : Int32) (p2 : Int32) (p3 : Nat) (g : GH) : Prop :=
  Kd g th = 5 ∧ ∀ g1 : GH, g1 = sI g 512 th p0 → Kd g1 th = 5 ∧ ∀ g2 : GH, g2 = sI g1 513 th p1 → Kd g2 th = 5 ∧ ∀ g3 : GH, g3 = sI g2 514 th p2 → Kd g3 p3 = 8 ∧ Kd g3 th = 5 ∧ ∀ g4 : GH, g4 = sI g3 515 th (Gi g3 902 p3) → Kd g4 p3 = 8 ∧ ∃ a5 : Nat, Gr g4 898 p3 = some a5 ∧ Kd g4 p3 = 8 ∧ Sp_Arrays_copyOf_0 Γ a5 (Gi g4 899 p3) g4 (fun (a7 : Option Nat) (g6 : GH) => Kd g6 th = 5 ∧ ∀ g8 : GH, g8 = sR g6 516 th a7 → Kd g8 p3 = 8 ∧ ∃ a9 : Nat, Gr g8 900 p3 = some a9 ∧ Kd g8 p3 = 8 ∧ Sp_Arrays_copyOf_0 Γ a9 (((2 : Int32) * (Gi g8 902 p3)) + (1 : Int32)) g8 (fun (a11 : Option Nat) (g10 : GH) => Kd g10 th = 5 ∧ ∀ g12 : GH, g12 = sR g10 517 th a11 → Kd g12 p3 = 8 ∧ ∃ a13 : Nat, Gr g12 901 p3 = some a13 ∧ Kd g12 p3 = 8 ∧ Sp_Arrays_copyOf_0 Γ a13 (Gi g12 902 p3) g12 (fun (a15 : Option Nat) (g14 : GH) => Kd g14 th = 5 ∧ ∀ g16 : GH, g16 = sR g14 518 th a15 → K g16)))
set_option maxHeartbeats 4000000 in
set_option maxRecDepth 100000 in
theorem S_Lw_init_0 {Γ : GAM} {E : EV} {K : GH → Prop} (hE : GE Γ E cX3_init 5 RX3 none 1 22 (fun r g' => r = none ∧ K g')) (hnm : E.2.2.2.2.2.2.2.2.1.name = "<init>") (th : Nat) (p0 : Int32) (p1 : Int32) (p2 : Int32) (p3 : Nat) (g : GH) (h : B_Lw_init_0 Γ K th p0 p1 p2 p3 g) : JW Γ E 0 [some (.ref th), some (.int p0), some (.int p1), some (.int p2), some (.ref p3)] [] g := by
  unfold B_Lw_init_0 at h
  refine j_aload_n hE (by decide +kernel : decode cX3_init 0 = .ok (.aload_n 0, 1)) rfl rfl ?_
  refine j_objInit hE rfl ol_X3 oi_in oi_code (Nat.le_of_ble_eq_true rfl) (by omega) (by omega) (by decide +kernel : decode cX3_init 1 = .ok (.invokespecial 1, 3)) ?_
  refine j_aload_n hE (by decide +kernel : decode cX3_init 4 = .ok (.aload_n 0, 1)) rfl rfl ?_
  refine j_iload_n hE (by decide +kernel : decode cX3_init 5 = .ok (.iload_n 1, 1)) rfl rfl ?_
  obtain ⟨hk, h⟩ := h
  obtain ⟨g1, hg⟩ : ∃ z, z = sI g 512 th p0 := ⟨_, rfl⟩; have h := h g1 hg
  refine j_putI hE fa_X3_7 hk (fun _ => hnm) (by decide +kernel : decode cX3_init 6 = .ok (.putfield 7, 3)) ?_
  rw [← hg]
  refine j_aload_n hE (by decide +kernel : decode cX3_init 9 = .ok (.aload_n 0, 1)) rfl rfl ?_
  refine j_iload_n hE (by decide +kernel : decode cX3_init 10 = .ok (.iload_n 2, 1)) rfl rfl ?_
  obtain ⟨hk, h⟩ := h
  obtain ⟨g2, hg⟩ : ∃ z, z = sI g1 513 th p1 := ⟨_, rfl⟩; have h := h g2 hg
  refine j_putI hE fa_X3_13 hk (fun _ => hnm) (by decide +kernel : decode cX3_init 11 = .ok (.putfield 13, 3)) ?_
  rw [← hg]
  refine j_aload_n hE (by decide +kernel : decode cX3_init 14 = .ok (.aload_n 0, 1)) rfl rfl ?_
  refine j_iload_n hE (by decide +kernel : decode cX3_init 15 = .ok (.iload_n 3, 1)) rfl rfl ?_
  obtain ⟨hk, h⟩ := h
  obtain ⟨g3, hg⟩ : ∃ z, z = sI g2 514 th p2 := ⟨_, rfl⟩; have h := h g3 hg
  refine j_putI hE fa_X3_16 hk (fun _ => hnm) (by decide +kernel : decode cX3_init 16 = .ok (.putfield 16, 3)) ?_
  rw [← hg]
  refine j_aload_n hE (by decide +kernel : decode cX3_init 19 = .ok (.aload_n 0, 1)) rfl rfl ?_
  refine j_aload hE (by decide +kernel : decode cX3_init 20 = .ok (.aload 4, 2)) rfl ?_
  obtain ⟨hk, h⟩ := h
  refine j_getI hE fg_X3_19 hk (by decide +kernel : decode cX3_init 22 = .ok (.getfield 19, 3)) ?_
  obtain ⟨hk, h⟩ := h
  obtain ⟨g4, hg⟩ : ∃ z, z = sI g3 515 th (Gi g3 902 p3) := ⟨_, rfl⟩; have h := h g4 hg
  refine j_putI hE fa_X3_24 hk (fun _ => hnm) (by decide +kernel : decode cX3_init 25 = .ok (.putfield 24, 3)) ?_
  rw [← hg]
  refine j_aload_n hE (by decide +kernel : decode cX3_init 28 = .ok (.aload_n 0, 1)) rfl rfl ?_
  refine j_aload hE (by decide +kernel : decode cX3_init 29 = .ok (.aload 4, 2)) rfl ?_
  obtain ⟨hk, h⟩ := h
  obtain ⟨a5, ha, h⟩ := h
  refine j_getRn hE fg_X3_25 hk ha (by decide +kernel : decode cX3_init 31 = .ok (.getfield 25, 3)) ?_
  refine j_aload hE (by decide +kernel : decode cX3_init 34 = .ok (.aload 4, 2)) rfl ?_
  obtain ⟨hk, h⟩ := h
  refine j_getI hE fg_X3_29 hk (by decide +kernel : decode cX3_init 36 = .ok (.getfield 29, 3)) ?_
  refine j_callS hE rfl cl_X3_32 st_J7_copyOf_59c91 ⟨by omega, by omega⟩ (As := [.ref a5, .int (Gi g4 899 p3)]) (rest := [.ref th]) rfl rfl (Nat.le_of_ble_eq_true rfl) (by decide +kernel : decode cX3_init 39 = .ok (.invokestatic 32, 3)) (mt_Arrays_copyOf_0 _ _ _ _ h) ?_
  rintro _ g6 ⟨a7, rfl, h⟩
  obtain ⟨hk, h⟩ := h
  obtain ⟨g8, hg⟩ : ∃ z, z = sR g6 516 th a7 := ⟨_, rfl⟩; have h := h g8 hg
  refine j_putR hE fa_X3_38 hk (fun _ => hnm) (by decide +kernel : decode cX3_init 42 = .ok (.putfield 38, 3)) ?_
  rw [← hg]
  refine j_aload_n hE (by decide +kernel : decode cX3_init 45 = .ok (.aload_n 0, 1)) rfl rfl ?_
  refine j_aload hE (by decide +kernel : decode cX3_init 46 = .ok (.aload 4, 2)) rfl ?_
  obtain ⟨hk, h⟩ := h
  obtain ⟨a9, ha, h⟩ := h
  refine j_getRn hE fg_X3_39 hk ha (by decide +kernel : decode cX3_init 48 = .ok (.getfield 39, 3)) ?_
  refine j_iconst hE (by decide +kernel : decode cX3_init 51 = .ok (.iconst 2, 1)) (v := (2 : Int32)) (by decide) ?_
  refine j_aload hE (by decide +kernel : decode cX3_init 52 = .ok (.aload 4, 2)) rfl ?_
  obtain ⟨hk, h⟩ := h
  refine j_getI hE fg_X3_19 hk (by decide +kernel : decode cX3_init 54 = .ok (.getfield 19, 3)) ?_
  refine j_imul hE (by decide +kernel : decode cX3_init 57 = .ok (.imul, 1)) ?_
  refine j_iconst hE (by decide +kernel : decode cX3_init 58 = .ok (.iconst 1, 1)) (v := (1 : Int32)) (by decide) ?_
  refine j_iadd hE (by decide +kernel : decode cX3_init 59 = .ok (.iadd, 1)) ?_
  refine j_callS hE rfl cl_X3_32 st_J7_copyOf_59c91 ⟨by omega, by omega⟩ (As := [.ref a9, .int (((2 : Int32) * (Gi g8 902 p3)) + (1 : Int32))]) (rest := [.ref th]) rfl rfl (Nat.le_of_ble_eq_true rfl) (by decide +kernel : decode cX3_init 60 = .ok (.invokestatic 32, 3)) (mt_Arrays_copyOf_0 _ _ _ _ h) ?_
  rintro _ g10 ⟨a11, rfl, h⟩
  obtain ⟨hk, h⟩ := h
  obtain ⟨g12, hg⟩ : ∃ z, z = sR g10 517 th a11 := ⟨_, rfl⟩; have h := h g12 hg
  refine j_putR hE fa_X3_42 hk (fun _ => hnm) (by decide +kernel : decode cX3_init 63 = .ok (.putfield 42, 3)) ?_
  rw [← hg]
  refine j_aload_n hE (by decide +kernel : decode cX3_init 66 = .ok (.aload_n 0, 1)) rfl rfl ?_
  refine j_aload hE (by decide +kernel : decode cX3_init 67 = .ok (.aload 4, 2)) rfl ?_
  obtain ⟨hk, h⟩ := h
  obtain ⟨a13, ha, h⟩ := h
  refine j_getRn hE fg_X3_43 hk ha (by decide +kernel : decode cX3_init 69 = .ok (.getfield 43, 3)) ?_
  refine j_aload hE (by decide +kernel : decode cX3_init 72 = .ok (.aload 4, 2)) rfl ?_
  obtain ⟨hk, h⟩ := h
  refine j_getI hE fg_X3_19 hk (by decide +kernel : decode cX3_init 74 = .ok (.getfield 19, 3)) ?_
  refine j_callS hE rfl cl_X3_32 st_J7_copyOf_59c91 ⟨by omega, by omega⟩ (As := [.ref a13, .int (Gi g12 902 p3)]) (rest := [.ref th]) rfl rfl (Nat.le_of_ble_eq_true rfl) (by decide +kernel : decode cX3_init 77 = .ok (.invokestatic 32, 3)) (mt_Arrays_copyOf_0 _ _ _ _ h) ?_
  rintro _ g14 ⟨a15, rfl, h⟩
  obtain ⟨hk, h⟩ := h
  obtain ⟨g16, hg⟩ : ∃ z, z = sR g14 518 th a15 := ⟨_, rfl⟩; have h := h g16 hg
  refine j_putR hE fa_X3_46 hk (fun _ => hnm) (by decide +kernel : decode cX3_init 80 = .ok (.putfield 46, 3)) ?_
  rw [← hg]
  exact j_vret hE (by decide +kernel : decode cX3_init 83 = .ok (.return_, 1)) ⟨rfl, h⟩
set_option maxHeartbeats 4000000 in
set_option maxRecDepth 100000 in
theorem rl_Lw_init {Γ : GAM} {l : Launch} {th : Nat} {p0 : Int32} {p1 : Int32} {p2 : Int32} {p3 : Nat} {g : GH} {K : GH → Prop} (h0 : B_Lw_init_0 Γ K th p0 p1 p2 p3 g) : MetA Γ l yX3_init cX3_init 5 none 1 22 [.ref th, .int p0, .int p1, .int p2, .ref p3] g (fun r g' => r = none ∧ K g') := by
  refine MetA.introL (Lx := [some (.ref th), some (.int p0), some (.int p1), some (.int p2), some (.ref p3)]) (by decide) (Nat.le_of_ble_eq_true rfl) rfl rfl ?_
  intro E hEl hE hnm
  exact S_Lw_init_0 hE hnm th p0 p1 p2 p3 g h0
def Sp_Ju_init (Γ : GAM) (q0 : Nat) (g : GH) (K : GH → Prop) : Prop := False
theorem mt_Ju_init {Γ : GAM} {l : Launch} (q0 : Nat) (g : GH) (K : GH → Prop) (h : Sp_Ju_init Γ q0 g K) : MetA Γ l yX2_init cX2_init 1 none 0 0 [.ref q0] g (fun r g' => r = none ∧ K g') := h.elim
-- the walk of Po_init
set_option maxRecDepth 100000 in
def B_Po_init_0 (Γ : GAM) (K : GH → Prop) (th : Nat) (g : GH) : Prop :=
  Hn g + 1 ≤ gB Γ + NCC ∧ Hu g + 3 ≤ NSS ∧ ∀ (a1 : Nat) (g2 : GH), a1 = Hn g → g2 = nO g 0 3 → (∀ f, Gi g f (Hn g) = 0) → (∀ f, Gr g f (Hn g) = none) → (∀ c, free g c (Hn g)) → (∀ a, Hn g ≤ a → Kd g a = 0) → Sp_AL_init Γ a1 g2 (fun (g3 : GH) => Kd g3 th = 6 ∧ ∀ g4 : GH, g4 = sR g3 640 th (some a1) → Hn g4 + 1 ≤ gB Γ + NCC ∧ Hu g4 + 3 ≤ NSS ∧ ∀ (a5 : Nat) (g6 : GH), a5 = Hn g4 → g6 = nO g4 0 3 → (∀ f, Gi g4 f (Hn g4) = 0) → (∀ f, Gr g4 f (Hn g4) = none) → (∀ c, free g4 c (Hn g4)) → (∀ a, Hn g4 ≤ a → Kd g4 a = 0) → Sp_AL_init Γ a5 g6 (fun (g7 : GH) => Kd g7 th = 6 ∧ ∀ g8 : GH, g8 = sR g7 641 th (some a5) → Hn g8 + 1 ≤ gB Γ + NCC ∧ Hu g8 + 3 ≤ NSS ∧ ∀ (a9 : Nat) (g10 : GH), a9 = Hn g8 → g10 = nO g8 0 3 → (∀ f, Gi g8 f (Hn g8) = 0) → (∀ f, Gr g8 f (Hn g8) = none) → (∀ c, free g8 c (Hn g8)) → (∀ a, Hn g8 ≤ a → Kd g8 a = 0) → Sp_AL_init Γ a9 g10 (fun (g11 : GH) => Kd g11 th = 6 ∧ ∀ g12 : GH, g12 = sR g11 642 th (some a9) → Hn g12 + 1 ≤ gB Γ + NCC ∧ Hu g12 + 3 ≤ NSS ∧ ∀ (a13 : Nat) (g14 : GH), a13 = Hn g12 → g14 = nO g12 3 3 → (∀ f, Gi g12 f (Hn g12) = 0) → (∀ f, Gr g12 f (Hn g12) = none) → (∀ c, free g12 c (Hn g12)) → (∀ a, Hn g12 ≤ a → Kd g12 a = 0) → Sp_Ju_init Γ a13 g14 (fun (g15 : GH) => Kd g15 th = 6 ∧ ∀ g16 : GH, g16 = sR g15 643 th (some a13) → Hn g16 + 1 ≤ gB Γ + NCC ∧ Hu g16 + 3 ≤ NSS ∧ ∀ (a17 : Nat) (g18 : GH), a17 = Hn g16 → g18 = nO g16 0 3 → (∀ f, Gi g16 f (Hn g16) = 0) → (∀ f, Gr g16 f (Hn g16) = none) → (∀ c, free g16 c (Hn g16)) → (∀ a, Hn g16 ≤ a → Kd g16 a = 0) → Sp_AL_init Γ a17 g18 (fun (g19 : GH) => Kd g19 th = 6 ∧ ∀ g20 : GH, g20 = sR g19 644 th (some a17) → K g20)))))
set_option maxHeartbeats 4000000 in
set_option maxRecDepth 100000 in
theorem S_Po_init_0 {Γ : GAM} {E : EV} {K : GH → Prop} (hE : GE Γ E cX4_init 1 RX4 none 1 20 (fun r g' => r = none ∧ K g')) (hnm : E.2.2.2.2.2.2.2.2.1.name = "<init>") (th : Nat) (g : GH) (h : B_Po_init_0 Γ K th g) : JW Γ E 0 [some (.ref th)] [] g := by
  unfold B_Po_init_0 at h
  refine j_aload_n hE (by decide +kernel : decode cX4_init 0 = .ok (.aload_n 0, 1)) rfl rfl ?_
  refine j_objInit hE rfl ol_X4 oi_in oi_code (Nat.le_of_ble_eq_true rfl) (by omega) (by omega) (by decide +kernel : decode cX4_init 1 = .ok (.invokespecial 3, 3)) ?_
  refine j_aload_n hE (by decide +kernel : decode cX4_init 4 = .ok (.aload_n 0, 1)) rfl rfl ?_
  obtain ⟨hn1, hn2, h⟩ := h
  refine j_new hE cf_0 ck_X4_9 in_Jx4a65c (by decide +kernel : decode cX4_init 5 = .ok (.new 9, 3)) hn1 hn2 (fun f1 f2 f3 f4 => ?_)
  obtain ⟨a1, ha⟩ : ∃ z, z = Hn g := ⟨_, rfl⟩; obtain ⟨g2, hg⟩ : ∃ z, z = nO g 0 3 := ⟨_, rfl⟩; have h := h a1 g2 ha hg f1 f2 f3 f4; rw [← hg, ← ha]
  refine j_dup hE (by decide +kernel : decode cX4_init 8 = .ok (.dup, 1)) rfl ?_
  refine j_callI hE rfl cl_X4_11 im_Jx4a65c_init_da8c8 rfl ⟨by omega, by omega⟩ (As := []) (rest := [.ref a1, .ref th]) (b := a1) rfl rfl (Nat.le_of_ble_eq_true rfl) (by decide +kernel : decode cX4_init 9 = .ok (.invokespecial 11, 3)) (mt_AL_init _ _ _ h) ?_
  rintro _ g3 ⟨rfl, h⟩
  obtain ⟨hk, h⟩ := h
  obtain ⟨g4, hg⟩ : ∃ z, z = sR g3 640 th (some a1) := ⟨_, rfl⟩; have h := h g4 hg
  refine j_putR (v := (some a1)) hE fa_X4_12 hk (fun _ => hnm) (by decide +kernel : decode cX4_init 12 = .ok (.putfield 12, 3)) ?_
  rw [← hg]
  refine j_aload_n hE (by decide +kernel : decode cX4_init 15 = .ok (.aload_n 0, 1)) rfl rfl ?_
  obtain ⟨hn1, hn2, h⟩ := h
  refine j_new hE cf_0 ck_X4_9 in_Jx4a65c (by decide +kernel : decode cX4_init 16 = .ok (.new 9, 3)) hn1 hn2 (fun f1 f2 f3 f4 => ?_)
  obtain ⟨a5, ha⟩ : ∃ z, z = Hn g4 := ⟨_, rfl⟩; obtain ⟨g6, hg⟩ : ∃ z, z = nO g4 0 3 := ⟨_, rfl⟩; have h := h a5 g6 ha hg f1 f2 f3 f4; rw [← hg, ← ha]
  refine j_dup hE (by decide +kernel : decode cX4_init 19 = .ok (.dup, 1)) rfl ?_
  refine j_callI hE rfl cl_X4_11 im_Jx4a65c_init_da8c8 rfl ⟨by omega, by omega⟩ (As := []) (rest := [.ref a5, .ref th]) (b := a5) rfl rfl (Nat.le_of_ble_eq_true rfl) (by decide +kernel : decode cX4_init 20 = .ok (.invokespecial 11, 3)) (mt_AL_init _ _ _ h) ?_
  rintro _ g7 ⟨rfl, h⟩
  obtain ⟨hk, h⟩ := h
  obtain ⟨g8, hg⟩ : ∃ z, z = sR g7 641 th (some a5) := ⟨_, rfl⟩; have h := h g8 hg
  refine j_putR (v := (some a5)) hE fa_X4_18 hk (fun _ => hnm) (by decide +kernel : decode cX4_init 23 = .ok (.putfield 18, 3)) ?_
  rw [← hg]
  refine j_aload_n hE (by decide +kernel : decode cX4_init 26 = .ok (.aload_n 0, 1)) rfl rfl ?_
  obtain ⟨hn1, hn2, h⟩ := h
  refine j_new hE cf_0 ck_X4_9 in_Jx4a65c (by decide +kernel : decode cX4_init 27 = .ok (.new 9, 3)) hn1 hn2 (fun f1 f2 f3 f4 => ?_)
  obtain ⟨a9, ha⟩ : ∃ z, z = Hn g8 := ⟨_, rfl⟩; obtain ⟨g10, hg⟩ : ∃ z, z = nO g8 0 3 := ⟨_, rfl⟩; have h := h a9 g10 ha hg f1 f2 f3 f4; rw [← hg, ← ha]
  refine j_dup hE (by decide +kernel : decode cX4_init 30 = .ok (.dup, 1)) rfl ?_
  refine j_callI hE rfl cl_X4_11 im_Jx4a65c_init_da8c8 rfl ⟨by omega, by omega⟩ (As := []) (rest := [.ref a9, .ref th]) (b := a9) rfl rfl (Nat.le_of_ble_eq_true rfl) (by decide +kernel : decode cX4_init 31 = .ok (.invokespecial 11, 3)) (mt_AL_init _ _ _ h) ?_
  rintro _ g11 ⟨rfl, h⟩
  obtain ⟨hk, h⟩ := h
  obtain ⟨g12, hg⟩ : ∃ z, z = sR g11 642 th (some a9) := ⟨_, rfl⟩; have h := h g12 hg
  refine j_putR (v := (some a9)) hE fa_X4_21 hk (fun _ => hnm) (by decide +kernel : decode cX4_init 34 = .ok (.putfield 21, 3)) ?_
  rw [← hg]
  refine j_aload_n hE (by decide +kernel : decode cX4_init 37 = .ok (.aload_n 0, 1)) rfl rfl ?_
  obtain ⟨hn1, hn2, h⟩ := h
  refine j_new hE cf_3 ck_X4_24 in_X2 (by decide +kernel : decode cX4_init 38 = .ok (.new 24, 3)) hn1 hn2 (fun f1 f2 f3 f4 => ?_)
  obtain ⟨a13, ha⟩ : ∃ z, z = Hn g12 := ⟨_, rfl⟩; obtain ⟨g14, hg⟩ : ∃ z, z = nO g12 3 3 := ⟨_, rfl⟩; have h := h a13 g14 ha hg f1 f2 f3 f4; rw [← hg, ← ha]
  refine j_dup hE (by decide +kernel : decode cX4_init 41 = .ok (.dup, 1)) rfl ?_
  refine j_callIN hE rfl cl_X4_26 im_X2_init rfl ⟨by omega, by omega⟩ (As := []) (rest := [.ref a13, .ref th]) (b := a13) rfl rfl (Nat.le_of_ble_eq_true rfl) (by decide +kernel : decode cX4_init 42 = .ok (.invokespecial 26, 3)) (mt_Ju_init _ _ _ h) ?_
  rintro _ g15 ⟨rfl, h⟩
  obtain ⟨hk, h⟩ := h
  obtain ⟨g16, hg⟩ : ∃ z, z = sR g15 643 th (some a13) := ⟨_, rfl⟩; have h := h g16 hg
  refine j_putR (v := (some a13)) hE fa_X4_27 hk (fun _ => hnm) (by decide +kernel : decode cX4_init 45 = .ok (.putfield 27, 3)) ?_
  rw [← hg]
  refine j_aload_n hE (by decide +kernel : decode cX4_init 48 = .ok (.aload_n 0, 1)) rfl rfl ?_
  obtain ⟨hn1, hn2, h⟩ := h
  refine j_new hE cf_0 ck_X4_9 in_Jx4a65c (by decide +kernel : decode cX4_init 49 = .ok (.new 9, 3)) hn1 hn2 (fun f1 f2 f3 f4 => ?_)
  obtain ⟨a17, ha⟩ : ∃ z, z = Hn g16 := ⟨_, rfl⟩; obtain ⟨g18, hg⟩ : ∃ z, z = nO g16 0 3 := ⟨_, rfl⟩; have h := h a17 g18 ha hg f1 f2 f3 f4; rw [← hg, ← ha]
  refine j_dup hE (by decide +kernel : decode cX4_init 52 = .ok (.dup, 1)) rfl ?_
  refine j_callI hE rfl cl_X4_11 im_Jx4a65c_init_da8c8 rfl ⟨by omega, by omega⟩ (As := []) (rest := [.ref a17, .ref th]) (b := a17) rfl rfl (Nat.le_of_ble_eq_true rfl) (by decide +kernel : decode cX4_init 53 = .ok (.invokespecial 11, 3)) (mt_AL_init _ _ _ h) ?_
  rintro _ g19 ⟨rfl, h⟩
  obtain ⟨hk, h⟩ := h
  obtain ⟨g20, hg⟩ : ∃ z, z = sR g19 644 th (some a17) := ⟨_, rfl⟩; have h := h g20 hg
  refine j_putR (v := (some a17)) hE fa_X4_31 hk (fun _ => hnm) (by decide +kernel : decode cX4_init 56 = .ok (.putfield 31, 3)) ?_
  rw [← hg]
  exact j_vret hE (by decide +kernel : decode cX4_init 59 = .ok (.return_, 1)) ⟨rfl, h⟩
set_option maxHeartbeats 4000000 in
set_option maxRecDepth 100000 in
theorem rl_Po_init {Γ : GAM} {l : Launch} {th : Nat} {g : GH} {K : GH → Prop} (h0 : B_Po_init_0 Γ K th g) : MetA Γ l yX4_init cX4_init 1 none 1 20 [.ref th] g (fun r g' => r = none ∧ K g') := by
  refine MetA.introL (Lx := [some (.ref th)]) (by decide) (Nat.le_of_ble_eq_true rfl) rfl rfl ?_
  intro E hEl hE hnm
  exact S_Po_init_0 hE hnm th g h0
-- the walk of Po_voterAt
set_option maxRecDepth 100000 in
def B_Po_voterAt_32 (Γ : GAM) (K : Option Nat → GH → Prop) (s0 : Option Nat) (g : GH) : Prop :=
  K s0 g
set_option maxHeartbeats 4000000 in
set_option maxRecDepth 100000 in
theorem S_Po_voterAt_32 {Γ : GAM} {E : EV} {K : Option Nat → GH → Prop} (hE : GE Γ E cX4_voterAt 2 RX4 (some (.object "PostVotes$Voter")) 1 22 (fun r g' => ∃ x, r = some (va_rf x) ∧ K x g')) (s0 : Option Nat) (g : GH) (h : B_Po_voterAt_32 Γ K s0 g) : JW Γ E 32 [none, none] [va_rf s0] g := by
  unfold B_Po_voterAt_32 at h
  exact j_aret (v := s0) hE (Or.inl ⟨_, rfl⟩) (by decide +kernel : decode cX4_voterAt 32 = .ok (.areturn, 1)) ⟨_, rfl, h⟩
set_option maxRecDepth 100000 in
def B_Po_voterAt_0 (Γ : GAM) (K : Option Nat → GH → Prop) (th : Nat) (p0 : Int32) (g : GH) : Prop :=
  Kd g th = 6 ∧ ∃ a1 : Nat, Gr g 640 th = some a1 ∧ Kd g a1 = 1 ∧ Sp_AL_size Γ a1 g (fun (x3 : Int32) (g2 : GH) => Sp_PV_isWithin Γ p0 (0 : Int32) (x3 - (1 : Int32)) g2 (fun (x5 : Int32) (g4 : GH) => ((x5 = 0 → B_Po_voterAt_32 Γ K none g4) ∧ (¬ (x5 = 0) → Kd g4 th = 6 ∧ ∃ a6 : Nat, Gr g4 640 th = some a6 ∧ Kd g4 a6 = 1 ∧ Sp_AL_get Γ a6 p0 g4 (fun (a8 : Nat) (g7 : GH) => Kd g7 a8 = 11 ∧ B_Po_voterAt_32 Γ K (some a8) g7)))))
set_option maxHeartbeats 4000000 in
set_option maxRecDepth 100000 in
theorem S_Po_voterAt_0 {Γ : GAM} {E : EV} {K : Option Nat → GH → Prop} (hE : GE Γ E cX4_voterAt 2 RX4 (some (.object "PostVotes$Voter")) 1 22 (fun r g' => ∃ x, r = some (va_rf x) ∧ K x g')) (th : Nat) (p0 : Int32) (g : GH) (h : B_Po_voterAt_0 Γ K th p0 g) : JW Γ E 0 [some (.ref th), some (.int p0)] [] g := by
  unfold B_Po_voterAt_0 at h
  refine j_iload_n hE (by decide +kernel : decode cX4_voterAt 0 = .ok (.iload_n 1, 1)) rfl rfl ?_
  refine j_iconst hE (by decide +kernel : decode cX4_voterAt 1 = .ok (.iconst 0, 1)) (v := (0 : Int32)) (by decide) ?_
  refine j_aload_n hE (by decide +kernel : decode cX4_voterAt 2 = .ok (.aload_n 0, 1)) rfl rfl ?_
  obtain ⟨hk, h⟩ := h
  obtain ⟨a1, ha, h⟩ := h
  refine j_getRn hE fg_X4_12 hk ha (by decide +kernel : decode cX4_voterAt 3 = .ok (.getfield 12, 3)) ?_
  obtain ⟨hk, h⟩ := h
  refine j_callV hE rfl cl_X4_34 cf_0 im_Jx4a65c_size_8abf5 se_Jx4a65c_size_8abf5 ⟨by omega, by omega⟩ (As := []) (rest := [.int (0 : Int32), .int p0]) rfl rfl (Nat.le_of_ble_eq_true rfl) hk (by decide +kernel : decode cX4_voterAt 6 = .ok (.invokevirtual 34, 3)) (mt_AL_size _ _ _ h) ?_
  rintro _ g2 ⟨x3, rfl, h⟩
  refine j_iconst hE (by decide +kernel : decode cX4_voterAt 9 = .ok (.iconst 1, 1)) (v := (1 : Int32)) (by decide) ?_
  refine j_isub hE (by decide +kernel : decode cX4_voterAt 10 = .ok (.isub, 1)) ?_
  refine j_callSN hE rfl cl_X4_38 st_X10_isWithin ⟨by omega, by omega⟩ (As := [.int p0, .int (0 : Int32), .int (x3 - (1 : Int32))]) (rest := []) rfl rfl (Nat.le_of_ble_eq_true rfl) (by decide +kernel : decode cX4_voterAt 11 = .ok (.invokestatic 38, 3)) (mt_PV_isWithin _ _ _ _ _ h) ?_
  rintro _ g4 ⟨x5, rfl, h⟩
  refine j_if_eq hE (by decide +kernel : decode cX4_voterAt 14 = .ok (.ifCond .eq 17, 3)) (tgt := 31) (by decide) (fun q => ?_) (fun q => ?_)
  · have h := h.1 q
    refine j_null hE (by decide +kernel : decode cX4_voterAt 31 = .ok (.aconst_null, 1)) ?_
    refine j_weak [none, none] trivial ?_
    exact S_Po_voterAt_32 hE _ _ h
  · have h := h.2 q
    refine j_aload_n hE (by decide +kernel : decode cX4_voterAt 17 = .ok (.aload_n 0, 1)) rfl rfl ?_
    obtain ⟨hk, h⟩ := h
    obtain ⟨a6, ha, h⟩ := h
    refine j_getRn hE fg_X4_12 hk ha (by decide +kernel : decode cX4_voterAt 18 = .ok (.getfield 12, 3)) ?_
    refine j_iload_n hE (by decide +kernel : decode cX4_voterAt 21 = .ok (.iload_n 1, 1)) rfl rfl ?_
    obtain ⟨hk, h⟩ := h
    refine j_callV hE rfl cl_X4_42 cf_0 im_Jx4a65c_get_915e3 se_Jx4a65c_get_915e3 ⟨by omega, by omega⟩ (As := [.int p0]) (rest := []) rfl rfl (Nat.le_of_ble_eq_true rfl) hk (by decide +kernel : decode cX4_voterAt 22 = .ok (.invokevirtual 42, 3)) (mt_AL_get _ _ _ _ h) ?_
    rintro _ g7 ⟨a8, rfl, h⟩
    obtain ⟨hk, h⟩ := h
    refine j_cast hE cf_10 ck_X4_46 hk (by decide +kernel : decode cX4_voterAt 25 = .ok (.checkcast 46, 3)) ?_
    refine j_goto hE (by decide +kernel : decode cX4_voterAt 28 = .ok (.goto 4, 3)) (tgt := 32) (by decide) ?_
    refine j_weak [none, none] trivial ?_
    exact S_Po_voterAt_32 hE _ _ h
set_option maxHeartbeats 4000000 in
set_option maxRecDepth 100000 in
theorem rl_Po_voterAt {Γ : GAM} {l : Launch} {th : Nat} {p0 : Int32} {g : GH} {K : Option Nat → GH → Prop} (h0 : B_Po_voterAt_0 Γ K th p0 g) : MetA Γ l yX4_voterAt cX4_voterAt 2 (some (.object "PostVotes$Voter")) 1 22 [.ref th, .int p0] g (fun r g' => ∃ x, r = some (va_rf x) ∧ K x g') := by
  refine MetA.introL (Lx := [some (.ref th), some (.int p0)]) (by decide) (Nat.le_of_ble_eq_true rfl) rfl rfl ?_
  intro E hEl hE hnm
  exact S_Po_voterAt_0 hE th p0 g h0
-- the walk of Po_envelopeAt
set_option maxRecDepth 100000 in
def B_Po_envelopeAt_32 (Γ : GAM) (K : Option Nat → GH → Prop) (s0 : Option Nat) (g : GH) : Prop :=
  K s0 g
set_option maxHeartbeats 4000000 in
set_option maxRecDepth 100000 in
theorem S_Po_envelopeAt_32 {Γ : GAM} {E : EV} {K : Option Nat → GH → Prop} (hE : GE Γ E cX4_envelopeAt 2 RX4 (some (.object "PostVotes$Envelope")) 1 22 (fun r g' => ∃ x, r = some (va_rf x) ∧ K x g')) (s0 : Option Nat) (g : GH) (h : B_Po_envelopeAt_32 Γ K s0 g) : JW Γ E 32 [none, none] [va_rf s0] g := by
  unfold B_Po_envelopeAt_32 at h
  exact j_aret (v := s0) hE (Or.inl ⟨_, rfl⟩) (by decide +kernel : decode cX4_envelopeAt 32 = .ok (.areturn, 1)) ⟨_, rfl, h⟩
set_option maxRecDepth 100000 in
def B_Po_envelopeAt_0 (Γ : GAM) (K : Option Nat → GH → Prop) (th : Nat) (p0 : Int32) (g : GH) : Prop :=
  Kd g th = 6 ∧ ∃ a1 : Nat, Gr g 641 th = some a1 ∧ Kd g a1 = 1 ∧ Sp_AL_size Γ a1 g (fun (x3 : Int32) (g2 : GH) => Sp_PV_isWithin Γ p0 (0 : Int32) (x3 - (1 : Int32)) g2 (fun (x5 : Int32) (g4 : GH) => ((x5 = 0 → B_Po_envelopeAt_32 Γ K none g4) ∧ (¬ (x5 = 0) → Kd g4 th = 6 ∧ ∃ a6 : Nat, Gr g4 641 th = some a6 ∧ Kd g4 a6 = 1 ∧ Sp_AL_get Γ a6 p0 g4 (fun (a8 : Nat) (g7 : GH) => Kd g7 a8 = 2 ∧ B_Po_envelopeAt_32 Γ K (some a8) g7)))))
set_option maxHeartbeats 4000000 in
set_option maxRecDepth 100000 in
theorem S_Po_envelopeAt_0 {Γ : GAM} {E : EV} {K : Option Nat → GH → Prop} (hE : GE Γ E cX4_envelopeAt 2 RX4 (some (.object "PostVotes$Envelope")) 1 22 (fun r g' => ∃ x, r = some (va_rf x) ∧ K x g')) (th : Nat) (p0 : Int32) (g : GH) (h : B_Po_envelopeAt_0 Γ K th p0 g) : JW Γ E 0 [some (.ref th), some (.int p0)] [] g := by
  unfold B_Po_envelopeAt_0 at h
  refine j_iload_n hE (by decide +kernel : decode cX4_envelopeAt 0 = .ok (.iload_n 1, 1)) rfl rfl ?_
  refine j_iconst hE (by decide +kernel : decode cX4_envelopeAt 1 = .ok (.iconst 0, 1)) (v := (0 : Int32)) (by decide) ?_
  refine j_aload_n hE (by decide +kernel : decode cX4_envelopeAt 2 = .ok (.aload_n 0, 1)) rfl rfl ?_
  obtain ⟨hk, h⟩ := h
  obtain ⟨a1, ha, h⟩ := h
  refine j_getRn hE fg_X4_18 hk ha (by decide +kernel : decode cX4_envelopeAt 3 = .ok (.getfield 18, 3)) ?_
  obtain ⟨hk, h⟩ := h
  refine j_callV hE rfl cl_X4_34 cf_0 im_Jx4a65c_size_8abf5 se_Jx4a65c_size_8abf5 ⟨by omega, by omega⟩ (As := []) (rest := [.int (0 : Int32), .int p0]) rfl rfl (Nat.le_of_ble_eq_true rfl) hk (by decide +kernel : decode cX4_envelopeAt 6 = .ok (.invokevirtual 34, 3)) (mt_AL_size _ _ _ h) ?_
  rintro _ g2 ⟨x3, rfl, h⟩
  refine j_iconst hE (by decide +kernel : decode cX4_envelopeAt 9 = .ok (.iconst 1, 1)) (v := (1 : Int32)) (by decide) ?_
  refine j_isub hE (by decide +kernel : decode cX4_envelopeAt 10 = .ok (.isub, 1)) ?_
  refine j_callSN hE rfl cl_X4_38 st_X10_isWithin ⟨by omega, by omega⟩ (As := [.int p0, .int (0 : Int32), .int (x3 - (1 : Int32))]) (rest := []) rfl rfl (Nat.le_of_ble_eq_true rfl) (by decide +kernel : decode cX4_envelopeAt 11 = .ok (.invokestatic 38, 3)) (mt_PV_isWithin _ _ _ _ _ h) ?_
  rintro _ g4 ⟨x5, rfl, h⟩
  refine j_if_eq hE (by decide +kernel : decode cX4_envelopeAt 14 = .ok (.ifCond .eq 17, 3)) (tgt := 31) (by decide) (fun q => ?_) (fun q => ?_)
  · have h := h.1 q
    refine j_null hE (by decide +kernel : decode cX4_envelopeAt 31 = .ok (.aconst_null, 1)) ?_
    refine j_weak [none, none] trivial ?_
    exact S_Po_envelopeAt_32 hE _ _ h
  · have h := h.2 q
    refine j_aload_n hE (by decide +kernel : decode cX4_envelopeAt 17 = .ok (.aload_n 0, 1)) rfl rfl ?_
    obtain ⟨hk, h⟩ := h
    obtain ⟨a6, ha, h⟩ := h
    refine j_getRn hE fg_X4_18 hk ha (by decide +kernel : decode cX4_envelopeAt 18 = .ok (.getfield 18, 3)) ?_
    refine j_iload_n hE (by decide +kernel : decode cX4_envelopeAt 21 = .ok (.iload_n 1, 1)) rfl rfl ?_
    obtain ⟨hk, h⟩ := h
    refine j_callV hE rfl cl_X4_42 cf_0 im_Jx4a65c_get_915e3 se_Jx4a65c_get_915e3 ⟨by omega, by omega⟩ (As := [.int p0]) (rest := []) rfl rfl (Nat.le_of_ble_eq_true rfl) hk (by decide +kernel : decode cX4_envelopeAt 22 = .ok (.invokevirtual 42, 3)) (mt_AL_get _ _ _ _ h) ?_
    rintro _ g7 ⟨a8, rfl, h⟩
    obtain ⟨hk, h⟩ := h
    refine j_cast hE cf_1 ck_X4_48 hk (by decide +kernel : decode cX4_envelopeAt 25 = .ok (.checkcast 48, 3)) ?_
    refine j_goto hE (by decide +kernel : decode cX4_envelopeAt 28 = .ok (.goto 4, 3)) (tgt := 32) (by decide) ?_
    refine j_weak [none, none] trivial ?_
    exact S_Po_envelopeAt_32 hE _ _ h
set_option maxHeartbeats 4000000 in
set_option maxRecDepth 100000 in
theorem rl_Po_envelopeAt {Γ : GAM} {l : Launch} {th : Nat} {p0 : Int32} {g : GH} {K : Option Nat → GH → Prop} (h0 : B_Po_envelopeAt_0 Γ K th p0 g) : MetA Γ l yX4_envelopeAt cX4_envelopeAt 2 (some (.object "PostVotes$Envelope")) 1 22 [.ref th, .int p0] g (fun r g' => ∃ x, r = some (va_rf x) ∧ K x g') := by
  refine MetA.introL (Lx := [some (.ref th), some (.int p0)]) (by decide) (Nat.le_of_ble_eq_true rfl) rfl rfl ?_
  intro E hEl hE hnm
  exact S_Po_envelopeAt_0 hE th p0 g h0
def Sp_En_learn (Γ : GAM) (q0 : Nat) (q1 : Int32) (g : GH) (K : GH → Prop) : Prop := False
theorem mt_En_learn {Γ : GAM} {l : Launch} (q0 : Nat) (q1 : Int32) (g : GH) (K : GH → Prop) (h : Sp_En_learn Γ q0 q1 g K) : MetA Γ l yX0_learn cX0_learn 4 none 0 0 [.ref q0, .int q1] g (fun r g' => r = none ∧ K g') := h.elim
def Sp_Po_firstEmptying (Γ : GAM) (q0 : Nat) (q1 : Int32) (q2 : Int32) (q3 : Int32) (g : GH) (K : Int32 → GH → Prop) : Prop := False
theorem mt_Po_firstEmptying {Γ : GAM} {l : Launch} (q0 : Nat) (q1 : Int32) (q2 : Int32) (q3 : Int32) (g : GH) (K : Int32 → GH → Prop) (h : Sp_Po_firstEmptying Γ q0 q1 q2 q3 g K) : MetA Γ l yX4_firstEmptying cX4_firstEmptying 8 (some (.int)) 0 0 [.ref q0, .int q1, .int q2, .int q3] g (fun r g' => ∃ x, r = some (.int x) ∧ K x g') := h.elim
def Sp_Math_max_i0 (Γ : GAM) (q0 : Int32) (q1 : Int32) (g : GH) (K : Int32 → GH → Prop) : Prop := False
theorem mt_Math_max_i0 {Γ : GAM} {l : Launch} (q0 : Int32) (q1 : Int32) (g : GH) (K : Int32 → GH → Prop) (h : Sp_Math_max_i0 Γ q0 q1 g K) : MetA Γ l yJ9_max_7cf53 cJ9_max_7cf53 2 (some (.int)) 0 0 [.int q0, .int q1] g (fun r g' => ∃ x, r = some (.int x) ∧ K x g') := h.elim
-- the walk of Po_settle
set_option maxRecDepth 100000 in
def B_Po_settle_163 (Γ : GAM) (K : GH → Prop)  (g : GH) : Prop :=
  K g
set_option maxHeartbeats 4000000 in
set_option maxRecDepth 100000 in
theorem S_Po_settle_163 {Γ : GAM} {E : EV} {K : GH → Prop} (hE : GE Γ E cX4_settle 6 RX4 none 1 27 (fun r g' => r = none ∧ K g'))  (g : GH) (h : B_Po_settle_163 Γ K  g) : JW Γ E 163 [none, none, none, none, none, none] [] g := by
  unfold B_Po_settle_163 at h
  exact j_vret hE (by decide +kernel : decode cX4_settle 163 = .ok (.return_, 1)) ⟨rfl, h⟩
set_option maxRecDepth 100000 in
def B_Po_settle_136 (Γ : GAM) (K : GH → Prop) (l1 : Nat) (l4 : Int32) (l5 : Int32) (g : GH) : Prop :=
  ((l4 = (-1 : Int32) → B_Po_settle_163 Γ K g) ∧ (¬ (l4 = (-1 : Int32)) → Kd g l1 = 2 ∧ (((Gi g 137 l1) = (-1 : Int32) → B_Po_settle_163 Γ K g) ∧ (¬ ((Gi g 137 l1) = (-1 : Int32)) → Kd g l1 = 2 ∧ Sp_Math_max_i0 Γ (Gi g 137 l1) l5 g (fun (x2 : Int32) (g1 : GH) => Kd g1 l1 = 2 ∧ ∀ g3 : GH, g3 = sI g1 137 l1 x2 → B_Po_settle_163 Γ K g3)))))
set_option maxHeartbeats 4000000 in
set_option maxRecDepth 100000 in
theorem S_Po_settle_136 {Γ : GAM} {E : EV} {K : GH → Prop} (hE : GE Γ E cX4_settle 6 RX4 none 1 27 (fun r g' => r = none ∧ K g')) (l1 : Nat) (l4 : Int32) (l5 : Int32) (g : GH) (h : B_Po_settle_136 Γ K l1 l4 l5 g) : JW Γ E 136 [none, some (.ref l1), none, none, some (.int l4), some (.int l5)] [] g := by
  unfold B_Po_settle_136 at h
  refine j_iload hE (by decide +kernel : decode cX4_settle 136 = .ok (.iload 4, 2)) rfl ?_
  refine j_iconst hE (by decide +kernel : decode cX4_settle 138 = .ok (.iconst (-1), 1)) (v := (-1 : Int32)) (by decide) ?_
  refine j_icmp_eq hE (by decide +kernel : decode cX4_settle 139 = .ok (.if_icmp .eq 24, 3)) (tgt := 163) (by decide) (fun q => ?_) (fun q => ?_)
  · have h := h.1 q
    refine j_weak [none, none, none, none, none, none] trivial ?_
    exact S_Po_settle_163 hE _ h
  · have h := h.2 q
    refine j_aload_n hE (by decide +kernel : decode cX4_settle 142 = .ok (.aload_n 1, 1)) rfl rfl ?_
    obtain ⟨hk, h⟩ := h
    refine j_getI hE fg_X4_58 hk (by decide +kernel : decode cX4_settle 143 = .ok (.getfield 58, 3)) ?_
    refine j_iconst hE (by decide +kernel : decode cX4_settle 146 = .ok (.iconst (-1), 1)) (v := (-1 : Int32)) (by decide) ?_
    refine j_icmp_eq hE (by decide +kernel : decode cX4_settle 147 = .ok (.if_icmp .eq 16, 3)) (tgt := 163) (by decide) (fun q => ?_) (fun q => ?_)
    · have h := h.1 q
      refine j_weak [none, none, none, none, none, none] trivial ?_
      exact S_Po_settle_163 hE _ h
    · have h := h.2 q
      refine j_aload_n hE (by decide +kernel : decode cX4_settle 150 = .ok (.aload_n 1, 1)) rfl rfl ?_
      refine j_aload_n hE (by decide +kernel : decode cX4_settle 151 = .ok (.aload_n 1, 1)) rfl rfl ?_
      obtain ⟨hk, h⟩ := h
      refine j_getI hE fg_X4_58 hk (by decide +kernel : decode cX4_settle 152 = .ok (.getfield 58, 3)) ?_
      refine j_iload hE (by decide +kernel : decode cX4_settle 155 = .ok (.iload 5, 2)) rfl ?_
      refine j_callS hE rfl cl_X4_77 st_J9_max_7cf53 ⟨by omega, by omega⟩ (As := [.int (Gi g 137 l1), .int l5]) (rest := [.ref l1]) rfl rfl (Nat.le_of_ble_eq_true rfl) (by decide +kernel : decode cX4_settle 157 = .ok (.invokestatic 77, 3)) (mt_Math_max_i0 _ _ _ _ h) ?_
      rintro _ g1 ⟨x2, rfl, h⟩
      obtain ⟨hk, h⟩ := h
      obtain ⟨g3, hg⟩ : ∃ z, z = sI g1 137 l1 x2 := ⟨_, rfl⟩; have h := h g3 hg
      refine j_putI hE fa_X4_58 hk (fun q => by cases q) (by decide +kernel : decode cX4_settle 160 = .ok (.putfield 58, 3)) ?_
      rw [← hg]
      refine j_weak [none, none, none, none, none, none] trivial ?_
      exact S_Po_settle_163 hE _ h
set_option maxRecDepth 100000 in
def B_Po_settle_94 (Γ : GAM) (K : GH → Prop) (l1 : Nat) (g : GH) : Prop :=
  Kd g l1 = 2 ∧ ∃ a1 : Nat, Gr g 135 l1 = some a1 ∧ Kd g a1 = 20 ∧ inB (4 : Int32) (Ln g a1) ∧ ∀ x2 : Int32, x2 = (Ia g (Co g a1) (Ow g a1) (4 : Int32).toNatClampNeg) → Kd g l1 = 2 ∧ ∃ a3 : Nat, Gr g 135 l1 = some a3 ∧ Kd g a3 = 20 ∧ inB (5 : Int32) (Ln g a3) ∧ ∀ x4 : Int32, x4 = (Ia g (Co g a3) (Ow g a3) (5 : Int32).toNatClampNeg) → ((x2 = (-1 : Int32) → B_Po_settle_136 Γ K l1 x2 x4 g) ∧ (¬ (x2 = (-1 : Int32)) → ((x2 ≤ x4 → B_Po_settle_136 Γ K l1 x2 x4 g) ∧ (¬ (x2 ≤ x4) → Kd g l1 = 2 ∧ ∀ g5 : GH, g5 = sI g 137 l1 (-1 : Int32) → Kd g5 l1 = 2 ∧ ∀ g6 : GH, g6 = sI g5 138 l1 (-1 : Int32) → B_Po_settle_163 Γ K g6))))
set_option maxHeartbeats 4000000 in
set_option maxRecDepth 100000 in
theorem S_Po_settle_94 {Γ : GAM} {E : EV} {K : GH → Prop} (hE : GE Γ E cX4_settle 6 RX4 none 1 27 (fun r g' => r = none ∧ K g')) (l1 : Nat) (g : GH) (h : B_Po_settle_94 Γ K l1 g) : JW Γ E 94 [none, some (.ref l1), none, none, none, none] [] g := by
  unfold B_Po_settle_94 at h
  refine j_aload_n hE (by decide +kernel : decode cX4_settle 94 = .ok (.aload_n 1, 1)) rfl rfl ?_
  obtain ⟨hk, h⟩ := h
  obtain ⟨a1, ha, h⟩ := h
  refine j_getRn hE fg_X4_54 hk ha (by decide +kernel : decode cX4_settle 95 = .ok (.getfield 54, 3)) ?_
  refine j_iconst hE (by decide +kernel : decode cX4_settle 98 = .ok (.iconst 4, 1)) (v := (4 : Int32)) (by decide) ?_
  obtain ⟨hk, hb, h⟩ := h
  refine j_iald hE hk hb (by decide +kernel : decode cX4_settle 99 = .ok (.iaload, 1)) ?_
  obtain ⟨x2, hx⟩ : ∃ z, z = (Ia g (Co g a1) (Ow g a1) (4 : Int32).toNatClampNeg) := ⟨_, rfl⟩; have h := h x2 hx; rw [← hx]
  refine j_istore hE (by decide +kernel : decode cX4_settle 100 = .ok (.istore 4, 2)) (Nat.le_of_ble_eq_true rfl) rfl ?_
  refine j_aload_n hE (by decide +kernel : decode cX4_settle 102 = .ok (.aload_n 1, 1)) rfl rfl ?_
  obtain ⟨hk, h⟩ := h
  obtain ⟨a3, ha, h⟩ := h
  refine j_getRn hE fg_X4_54 hk ha (by decide +kernel : decode cX4_settle 103 = .ok (.getfield 54, 3)) ?_
  refine j_iconst hE (by decide +kernel : decode cX4_settle 106 = .ok (.iconst 5, 1)) (v := (5 : Int32)) (by decide) ?_
  obtain ⟨hk, hb, h⟩ := h
  refine j_iald hE hk hb (by decide +kernel : decode cX4_settle 107 = .ok (.iaload, 1)) ?_
  obtain ⟨x4, hx⟩ : ∃ z, z = (Ia g (Co g a3) (Ow g a3) (5 : Int32).toNatClampNeg) := ⟨_, rfl⟩; have h := h x4 hx; rw [← hx]
  refine j_istore hE (by decide +kernel : decode cX4_settle 108 = .ok (.istore 5, 2)) (Nat.le_of_ble_eq_true rfl) rfl ?_
  refine j_iload hE (by decide +kernel : decode cX4_settle 110 = .ok (.iload 4, 2)) rfl ?_
  refine j_iconst hE (by decide +kernel : decode cX4_settle 112 = .ok (.iconst (-1), 1)) (v := (-1 : Int32)) (by decide) ?_
  refine j_icmp_eq hE (by decide +kernel : decode cX4_settle 113 = .ok (.if_icmp .eq 23, 3)) (tgt := 136) (by decide) (fun q => ?_) (fun q => ?_)
  · have h := h.1 q
    exact S_Po_settle_136 hE _ _ _ _ h
  · have h := h.2 q
    refine j_iload hE (by decide +kernel : decode cX4_settle 116 = .ok (.iload 5, 2)) rfl ?_
    refine j_iload hE (by decide +kernel : decode cX4_settle 118 = .ok (.iload 4, 2)) rfl ?_
    refine j_icmp_ge hE (by decide +kernel : decode cX4_settle 120 = .ok (.if_icmp .ge 16, 3)) (tgt := 136) (by decide) (fun q => ?_) (fun q => ?_)
    · have h := h.1 q
      exact S_Po_settle_136 hE _ _ _ _ h
    · have h := h.2 q
      refine j_aload_n hE (by decide +kernel : decode cX4_settle 123 = .ok (.aload_n 1, 1)) rfl rfl ?_
      refine j_iconst hE (by decide +kernel : decode cX4_settle 124 = .ok (.iconst (-1), 1)) (v := (-1 : Int32)) (by decide) ?_
      obtain ⟨hk, h⟩ := h
      obtain ⟨g5, hg⟩ : ∃ z, z = sI g 137 l1 (-1 : Int32) := ⟨_, rfl⟩; have h := h g5 hg
      refine j_putI hE fa_X4_58 hk (fun q => by cases q) (by decide +kernel : decode cX4_settle 125 = .ok (.putfield 58, 3)) ?_
      rw [← hg]
      refine j_aload_n hE (by decide +kernel : decode cX4_settle 128 = .ok (.aload_n 1, 1)) rfl rfl ?_
      refine j_iconst hE (by decide +kernel : decode cX4_settle 129 = .ok (.iconst (-1), 1)) (v := (-1 : Int32)) (by decide) ?_
      obtain ⟨hk, h⟩ := h
      obtain ⟨g6, hg⟩ : ∃ z, z = sI g5 138 l1 (-1 : Int32) := ⟨_, rfl⟩; have h := h g6 hg
      refine j_putI hE fa_X4_74 hk (fun q => by cases q) (by decide +kernel : decode cX4_settle 130 = .ok (.putfield 74, 3)) ?_
      rw [← hg]
      refine j_goto hE (by decide +kernel : decode cX4_settle 133 = .ok (.goto 30, 3)) (tgt := 163) (by decide) ?_
      refine j_weak [none, none, none, none, none, none] trivial ?_
      exact S_Po_settle_163 hE _ h
set_option maxRecDepth 100000 in
def B_Po_settle_83 (Γ : GAM) (K : GH → Prop) (l1 : Nat) (l3 : Int32) (l4 : Int32) (g : GH) : Prop :=
  Kd g l1 = 2 ∧ ∀ g1 : GH, g1 = sI g 137 l1 l4 → Kd g1 l1 = 2 ∧ ∀ g2 : GH, g2 = sI g1 138 l1 l3 → B_Po_settle_94 Γ K l1 g2
set_option maxHeartbeats 4000000 in
set_option maxRecDepth 100000 in
theorem S_Po_settle_83 {Γ : GAM} {E : EV} {K : GH → Prop} (hE : GE Γ E cX4_settle 6 RX4 none 1 27 (fun r g' => r = none ∧ K g')) (l1 : Nat) (l3 : Int32) (l4 : Int32) (g : GH) (h : B_Po_settle_83 Γ K l1 l3 l4 g) : JW Γ E 83 [none, some (.ref l1), none, some (.int l3), some (.int l4), none] [] g := by
  unfold B_Po_settle_83 at h
  refine j_aload_n hE (by decide +kernel : decode cX4_settle 83 = .ok (.aload_n 1, 1)) rfl rfl ?_
  refine j_iload hE (by decide +kernel : decode cX4_settle 84 = .ok (.iload 4, 2)) rfl ?_
  obtain ⟨hk, h⟩ := h
  obtain ⟨g1, hg⟩ : ∃ z, z = sI g 137 l1 l4 := ⟨_, rfl⟩; have h := h g1 hg
  refine j_putI hE fa_X4_58 hk (fun q => by cases q) (by decide +kernel : decode cX4_settle 86 = .ok (.putfield 58, 3)) ?_
  rw [← hg]
  refine j_aload_n hE (by decide +kernel : decode cX4_settle 89 = .ok (.aload_n 1, 1)) rfl rfl ?_
  refine j_iload_n hE (by decide +kernel : decode cX4_settle 90 = .ok (.iload_n 3, 1)) rfl rfl ?_
  obtain ⟨hk, h⟩ := h
  obtain ⟨g2, hg⟩ : ∃ z, z = sI g1 138 l1 l3 := ⟨_, rfl⟩; have h := h g2 hg
  refine j_putI hE fa_X4_74 hk (fun q => by cases q) (by decide +kernel : decode cX4_settle 91 = .ok (.putfield 74, 3)) ?_
  rw [← hg]
  refine j_weak [none, some (.ref l1), none, none, none, none] ⟨rfl, trivial⟩ ?_
  exact S_Po_settle_94 hE _ _ h
set_option maxRecDepth 100000 in
def B_Po_settle_0 (Γ : GAM) (K : GH → Prop) (th : Nat) (p0 : Nat) (p1 : Int32) (g : GH) : Prop :=
  Kd g p0 = 2 ∧ Sp_En_learn Γ p0 p1 g (fun (g1 : GH) => Kd g1 p0 = 2 ∧ ∃ a2 : Nat, Gr g1 135 p0 = some a2 ∧ Kd g1 a2 = 20 ∧ inB (2 : Int32) (Ln g1 a2) ∧ Kd g1 p0 = 2 ∧ ∀ g3 : GH, g3 = sI g1 137 p0 (Ia g1 (Co g1 a2) (Ow g1 a2) (2 : Int32).toNatClampNeg) → Kd g3 p0 = 2 ∧ ∃ a4 : Nat, Gr g3 136 p0 = some a4 ∧ Kd g3 a4 = 20 ∧ inB (3 : Int32) (Ln g3 a4) ∧ Kd g3 p0 = 2 ∧ ∃ a5 : Nat, Gr g3 135 p0 = some a5 ∧ Kd g3 a5 = 20 ∧ inB (3 : Int32) (Ln g3 a5) ∧ Kd g3 th = 6 ∧ Sp_Po_firstEmptying Γ th (Ia g3 (Co g3 a4) (Ow g3 a4) (3 : Int32).toNatClampNeg) (Ia g3 (Co g3 a5) (Ow g3 a5) (3 : Int32).toNatClampNeg) p1 g3 (fun (x7 : Int32) (g6 : GH) => Kd g6 th = 6 ∧ ∃ a8 : Nat, Gr g6 642 th = some a8 ∧ Kd g6 a8 = 1 ∧ Sp_AL_size Γ a8 g6 (fun (x10 : Int32) (g9 : GH) => Sp_PV_isWithin Γ x7 (0 : Int32) (x10 - (1 : Int32)) g9 (fun (x12 : Int32) (g11 : GH) => ((x12 = 0 → B_Po_settle_94 Γ K p0 g11) ∧ (¬ (x12 = 0) → Kd g11 th = 6 ∧ ∃ a13 : Nat, Gr g11 642 th = some a13 ∧ Kd g11 a13 = 1 ∧ Sp_AL_get Γ a13 x7 g11 (fun (a15 : Nat) (g14 : GH) => Kd g14 a15 = 9 ∧ Kd g14 a15 = 9 ∧ ∀ x16 : Int32, x16 = (Gi g14 1025 a15) → Kd g14 p0 = 2 ∧ (((Gi g14 137 p0) = (-1 : Int32) → B_Po_settle_83 Γ K p0 x7 x16 g14) ∧ (¬ ((Gi g14 137 p0) = (-1 : Int32)) → Kd g14 p0 = 2 ∧ (((Gi g14 137 p0) ≤ x16 → B_Po_settle_94 Γ K p0 g14) ∧ (¬ ((Gi g14 137 p0) ≤ x16) → B_Po_settle_83 Γ K p0 x7 x16 g14)))))))))))
set_option maxHeartbeats 4000000 in
set_option maxRecDepth 100000 in
theorem S_Po_settle_0 {Γ : GAM} {E : EV} {K : GH → Prop} (hE : GE Γ E cX4_settle 6 RX4 none 1 27 (fun r g' => r = none ∧ K g')) (th : Nat) (p0 : Nat) (p1 : Int32) (g : GH) (h : B_Po_settle_0 Γ K th p0 p1 g) : JW Γ E 0 [some (.ref th), some (.ref p0), some (.int p1), none, none, none] [] g := by
  unfold B_Po_settle_0 at h
  refine j_aload_n hE (by decide +kernel : decode cX4_settle 0 = .ok (.aload_n 1, 1)) rfl rfl ?_
  refine j_iload_n hE (by decide +kernel : decode cX4_settle 1 = .ok (.iload_n 2, 1)) rfl rfl ?_
  obtain ⟨hk, h⟩ := h
  refine j_callV hE rfl cl_X4_50 cf_1 im_X0_learn se_X0_learn ⟨by omega, by omega⟩ (As := [.int p1]) (rest := []) rfl rfl (Nat.le_of_ble_eq_true rfl) hk (by decide +kernel : decode cX4_settle 2 = .ok (.invokevirtual 50, 3)) (mt_En_learn _ _ _ _ h) ?_
  rintro _ g1 ⟨rfl, h⟩
  refine j_aload_n hE (by decide +kernel : decode cX4_settle 5 = .ok (.aload_n 1, 1)) rfl rfl ?_
  refine j_aload_n hE (by decide +kernel : decode cX4_settle 6 = .ok (.aload_n 1, 1)) rfl rfl ?_
  obtain ⟨hk, h⟩ := h
  obtain ⟨a2, ha, h⟩ := h
  refine j_getRn hE fg_X4_54 hk ha (by decide +kernel : decode cX4_settle 7 = .ok (.getfield 54, 3)) ?_
  refine j_iconst hE (by decide +kernel : decode cX4_settle 10 = .ok (.iconst 2, 1)) (v := (2 : Int32)) (by decide) ?_
  obtain ⟨hk, hb, h⟩ := h
  refine j_iald hE hk hb (by decide +kernel : decode cX4_settle 11 = .ok (.iaload, 1)) ?_
  obtain ⟨hk, h⟩ := h
  obtain ⟨g3, hg⟩ : ∃ z, z = sI g1 137 p0 (Ia g1 (Co g1 a2) (Ow g1 a2) (2 : Int32).toNatClampNeg) := ⟨_, rfl⟩; have h := h g3 hg
  refine j_putI hE fa_X4_58 hk (fun q => by cases q) (by decide +kernel : decode cX4_settle 12 = .ok (.putfield 58, 3)) ?_
  rw [← hg]
  refine j_aload_n hE (by decide +kernel : decode cX4_settle 15 = .ok (.aload_n 0, 1)) rfl rfl ?_
  refine j_aload_n hE (by decide +kernel : decode cX4_settle 16 = .ok (.aload_n 1, 1)) rfl rfl ?_
  obtain ⟨hk, h⟩ := h
  obtain ⟨a4, ha, h⟩ := h
  refine j_getRn hE fg_X4_62 hk ha (by decide +kernel : decode cX4_settle 17 = .ok (.getfield 62, 3)) ?_
  refine j_iconst hE (by decide +kernel : decode cX4_settle 20 = .ok (.iconst 3, 1)) (v := (3 : Int32)) (by decide) ?_
  obtain ⟨hk, hb, h⟩ := h
  refine j_iald hE hk hb (by decide +kernel : decode cX4_settle 21 = .ok (.iaload, 1)) ?_
  refine j_aload_n hE (by decide +kernel : decode cX4_settle 22 = .ok (.aload_n 1, 1)) rfl rfl ?_
  obtain ⟨hk, h⟩ := h
  obtain ⟨a5, ha, h⟩ := h
  refine j_getRn hE fg_X4_54 hk ha (by decide +kernel : decode cX4_settle 23 = .ok (.getfield 54, 3)) ?_
  refine j_iconst hE (by decide +kernel : decode cX4_settle 26 = .ok (.iconst 3, 1)) (v := (3 : Int32)) (by decide) ?_
  obtain ⟨hk, hb, h⟩ := h
  refine j_iald hE hk hb (by decide +kernel : decode cX4_settle 27 = .ok (.iaload, 1)) ?_
  refine j_iload_n hE (by decide +kernel : decode cX4_settle 28 = .ok (.iload_n 2, 1)) rfl rfl ?_
  obtain ⟨hk, h⟩ := h
  refine j_callV hE rfl cl_X4_65 cf_5 im_X4_firstEmptying se_X4_firstEmptying ⟨by omega, by omega⟩ (As := [.int (Ia g3 (Co g3 a4) (Ow g3 a4) (3 : Int32).toNatClampNeg), .int (Ia g3 (Co g3 a5) (Ow g3 a5) (3 : Int32).toNatClampNeg), .int p1]) (rest := []) rfl rfl (Nat.le_of_ble_eq_true rfl) hk (by decide +kernel : decode cX4_settle 29 = .ok (.invokevirtual 65, 3)) (mt_Po_firstEmptying _ _ _ _ _ _ h) ?_
  rintro _ g6 ⟨x7, rfl, h⟩
  refine j_istore_n hE (by decide +kernel : decode cX4_settle 32 = .ok (.istore_n 3, 1)) rfl (Nat.le_of_ble_eq_true rfl) rfl ?_
  refine j_iload_n hE (by decide +kernel : decode cX4_settle 33 = .ok (.iload_n 3, 1)) rfl rfl ?_
  refine j_iconst hE (by decide +kernel : decode cX4_settle 34 = .ok (.iconst 0, 1)) (v := (0 : Int32)) (by decide) ?_
  refine j_aload_n hE (by decide +kernel : decode cX4_settle 35 = .ok (.aload_n 0, 1)) rfl rfl ?_
  obtain ⟨hk, h⟩ := h
  obtain ⟨a8, ha, h⟩ := h
  refine j_getRn hE fg_X4_21 hk ha (by decide +kernel : decode cX4_settle 36 = .ok (.getfield 21, 3)) ?_
  obtain ⟨hk, h⟩ := h
  refine j_callV hE rfl cl_X4_34 cf_0 im_Jx4a65c_size_8abf5 se_Jx4a65c_size_8abf5 ⟨by omega, by omega⟩ (As := []) (rest := [.int (0 : Int32), .int x7]) rfl rfl (Nat.le_of_ble_eq_true rfl) hk (by decide +kernel : decode cX4_settle 39 = .ok (.invokevirtual 34, 3)) (mt_AL_size _ _ _ h) ?_
  rintro _ g9 ⟨x10, rfl, h⟩
  refine j_iconst hE (by decide +kernel : decode cX4_settle 42 = .ok (.iconst 1, 1)) (v := (1 : Int32)) (by decide) ?_
  refine j_isub hE (by decide +kernel : decode cX4_settle 43 = .ok (.isub, 1)) ?_
  refine j_callSN hE rfl cl_X4_38 st_X10_isWithin ⟨by omega, by omega⟩ (As := [.int x7, .int (0 : Int32), .int (x10 - (1 : Int32))]) (rest := []) rfl rfl (Nat.le_of_ble_eq_true rfl) (by decide +kernel : decode cX4_settle 44 = .ok (.invokestatic 38, 3)) (mt_PV_isWithin _ _ _ _ _ h) ?_
  rintro _ g11 ⟨x12, rfl, h⟩
  refine j_if_eq hE (by decide +kernel : decode cX4_settle 47 = .ok (.ifCond .eq 47, 3)) (tgt := 94) (by decide) (fun q => ?_) (fun q => ?_)
  · have h := h.1 q
    refine j_weak [none, some (.ref p0), none, none, none, none] ⟨rfl, trivial⟩ ?_
    exact S_Po_settle_94 hE _ _ h
  · have h := h.2 q
    refine j_aload_n hE (by decide +kernel : decode cX4_settle 50 = .ok (.aload_n 0, 1)) rfl rfl ?_
    obtain ⟨hk, h⟩ := h
    obtain ⟨a13, ha, h⟩ := h
    refine j_getRn hE fg_X4_21 hk ha (by decide +kernel : decode cX4_settle 51 = .ok (.getfield 21, 3)) ?_
    refine j_iload_n hE (by decide +kernel : decode cX4_settle 54 = .ok (.iload_n 3, 1)) rfl rfl ?_
    obtain ⟨hk, h⟩ := h
    refine j_callV hE rfl cl_X4_42 cf_0 im_Jx4a65c_get_915e3 se_Jx4a65c_get_915e3 ⟨by omega, by omega⟩ (As := [.int x7]) (rest := []) rfl rfl (Nat.le_of_ble_eq_true rfl) hk (by decide +kernel : decode cX4_settle 55 = .ok (.invokevirtual 42, 3)) (mt_AL_get _ _ _ _ h) ?_
    rintro _ g14 ⟨a15, rfl, h⟩
    obtain ⟨hk, h⟩ := h
    refine j_cast hE cf_8 ck_X4_69 hk (by decide +kernel : decode cX4_settle 58 = .ok (.checkcast 69, 3)) ?_
    obtain ⟨hk, h⟩ := h
    refine j_getI hE fg_X4_71 hk (by decide +kernel : decode cX4_settle 61 = .ok (.getfield 71, 3)) ?_
    obtain ⟨x16, hx⟩ : ∃ z, z = (Gi g14 1025 a15) := ⟨_, rfl⟩; have h := h x16 hx; rw [← hx]
    refine j_istore hE (by decide +kernel : decode cX4_settle 64 = .ok (.istore 4, 2)) (Nat.le_of_ble_eq_true rfl) rfl ?_
    refine j_aload_n hE (by decide +kernel : decode cX4_settle 66 = .ok (.aload_n 1, 1)) rfl rfl ?_
    obtain ⟨hk, h⟩ := h
    refine j_getI hE fg_X4_58 hk (by decide +kernel : decode cX4_settle 67 = .ok (.getfield 58, 3)) ?_
    refine j_iconst hE (by decide +kernel : decode cX4_settle 70 = .ok (.iconst (-1), 1)) (v := (-1 : Int32)) (by decide) ?_
    refine j_icmp_eq hE (by decide +kernel : decode cX4_settle 71 = .ok (.if_icmp .eq 12, 3)) (tgt := 83) (by decide) (fun q => ?_) (fun q => ?_)
    · have h := h.1 q
      refine j_weak [none, some (.ref p0), none, some (.int x7), some (.int x16), none] ⟨rfl, ⟨rfl, ⟨rfl, trivial⟩⟩⟩ ?_
      exact S_Po_settle_83 hE _ _ _ _ h
    · have h := h.2 q
      refine j_iload hE (by decide +kernel : decode cX4_settle 74 = .ok (.iload 4, 2)) rfl ?_
      refine j_aload_n hE (by decide +kernel : decode cX4_settle 76 = .ok (.aload_n 1, 1)) rfl rfl ?_
      obtain ⟨hk, h⟩ := h
      refine j_getI hE fg_X4_58 hk (by decide +kernel : decode cX4_settle 77 = .ok (.getfield 58, 3)) ?_
      refine j_icmp_ge hE (by decide +kernel : decode cX4_settle 80 = .ok (.if_icmp .ge 14, 3)) (tgt := 94) (by decide) (fun q => ?_) (fun q => ?_)
      · have h := h.1 q
        refine j_weak [none, some (.ref p0), none, none, none, none] ⟨rfl, trivial⟩ ?_
        exact S_Po_settle_94 hE _ _ h
      · have h := h.2 q
        refine j_weak [none, some (.ref p0), none, some (.int x7), some (.int x16), none] ⟨rfl, ⟨rfl, ⟨rfl, trivial⟩⟩⟩ ?_
        exact S_Po_settle_83 hE _ _ _ _ h
set_option maxHeartbeats 4000000 in
set_option maxRecDepth 100000 in
theorem rl_Po_settle {Γ : GAM} {l : Launch} {th : Nat} {p0 : Nat} {p1 : Int32} {g : GH} {K : GH → Prop} (h0 : B_Po_settle_0 Γ K th p0 p1 g) : MetA Γ l yX4_settle cX4_settle 6 none 1 27 [.ref th, .ref p0, .int p1] g (fun r g' => r = none ∧ K g') := by
  refine MetA.introL (Lx := [some (.ref th), some (.ref p0), some (.int p1), none, none, none]) (by decide) (Nat.le_of_ble_eq_true rfl) rfl rfl ?_
  intro E hEl hE hnm
  exact S_Po_settle_0 hE th p0 p1 g h0
-- the walk of Po_firstEmptying
set_option maxRecDepth 100000 in
def B_Po_firstEmptying_96 (Γ : GAM) (K11 : Nat → Int32 → Int32 → Int32 → Int32 → Int32 → Int32 → GH → Prop) (K : Int32 → GH → Prop) (l4 : Int32) (g : GH) : Prop :=
  K l4 g
set_option maxHeartbeats 4000000 in
set_option maxRecDepth 100000 in
theorem S_Po_firstEmptying_96 {Γ : GAM} {E : EV} {K : Int32 → GH → Prop} (hE : GE Γ E cX4_firstEmptying 8 RX4 (some (.int)) 1 21 (fun r g' => ∃ x, r = some (.int x) ∧ K x g')) {K11 : Nat → Int32 → Int32 → Int32 → Int32 → Int32 → Int32 → GH → Prop} (hK11 : ∀ (l0 : Nat) (l1 : Int32) (l2 : Int32) (l3 : Int32) (l4 : Int32) (l5 : Int32) (l6 : Int32) (g : GH), K11 l0 l1 l2 l3 l4 l5 l6 g → JW Γ E 11 [some (.ref l0), some (.int l1), some (.int l2), some (.int l3), some (.int l4), some (.int l5), some (.int l6), none] [] g) (l4 : Int32) (g : GH) (h : B_Po_firstEmptying_96 Γ K11 K l4 g) : JW Γ E 96 [none, none, none, none, some (.int l4), none, none, none] [] g := by
  unfold B_Po_firstEmptying_96 at h
  refine j_iload hE (by decide +kernel : decode cX4_firstEmptying 96 = .ok (.iload 4, 2)) rfl ?_
  exact j_iret hE (by decide +kernel : decode cX4_firstEmptying 98 = .ok (.ireturn, 1)) ⟨_, rfl, h⟩
set_option maxRecDepth 100000 in
def B_Po_firstEmptying_90 (Γ : GAM) (K11 : Nat → Int32 → Int32 → Int32 → Int32 → Int32 → Int32 → GH → Prop) (K : Int32 → GH → Prop) (l0 : Nat) (l1 : Int32) (l2 : Int32) (l3 : Int32) (l4 : Int32) (l5 : Int32) (l6 : Int32) (g : GH) : Prop :=
  K11 l0 l1 l2 l3 l4 l5 (l6 + (1 : Int32)) g
set_option maxHeartbeats 4000000 in
set_option maxRecDepth 100000 in
theorem S_Po_firstEmptying_90 {Γ : GAM} {E : EV} {K : Int32 → GH → Prop} (hE : GE Γ E cX4_firstEmptying 8 RX4 (some (.int)) 1 21 (fun r g' => ∃ x, r = some (.int x) ∧ K x g')) {K11 : Nat → Int32 → Int32 → Int32 → Int32 → Int32 → Int32 → GH → Prop} (hK11 : ∀ (l0 : Nat) (l1 : Int32) (l2 : Int32) (l3 : Int32) (l4 : Int32) (l5 : Int32) (l6 : Int32) (g : GH), K11 l0 l1 l2 l3 l4 l5 l6 g → JW Γ E 11 [some (.ref l0), some (.int l1), some (.int l2), some (.int l3), some (.int l4), some (.int l5), some (.int l6), none] [] g) (l0 : Nat) (l1 : Int32) (l2 : Int32) (l3 : Int32) (l4 : Int32) (l5 : Int32) (l6 : Int32) (g : GH) (h : B_Po_firstEmptying_90 Γ K11 K l0 l1 l2 l3 l4 l5 l6 g) : JW Γ E 90 [some (.ref l0), some (.int l1), some (.int l2), some (.int l3), some (.int l4), some (.int l5), some (.int l6), none] [] g := by
  unfold B_Po_firstEmptying_90 at h
  refine j_iinc hE (by decide +kernel : decode cX4_firstEmptying 90 = .ok (.iinc 6 1, 3)) (v := (1 : Int32)) (by decide) rfl (Nat.le_of_ble_eq_true rfl) rfl ?_
  refine j_goto hE (by decide +kernel : decode cX4_firstEmptying 93 = .ok (.goto (-82), 3)) (tgt := 11) (by decide) ?_
  exact hK11 _ _ _ _ _ _ _ _ h
set_option maxRecDepth 100000 in
def B_Po_firstEmptying_11 (Γ : GAM) (K11 : Nat → Int32 → Int32 → Int32 → Int32 → Int32 → Int32 → GH → Prop) (K : Int32 → GH → Prop) (l0 : Nat) (l1 : Int32) (l2 : Int32) (l3 : Int32) (l4 : Int32) (l5 : Int32) (l6 : Int32) (g : GH) : Prop :=
  Kd g l0 = 6 ∧ ∃ a1 : Nat, Gr g 642 l0 = some a1 ∧ Kd g a1 = 1 ∧ Sp_AL_size Γ a1 g (fun (x3 : Int32) (g2 : GH) => ((x3 ≤ l6 → B_Po_firstEmptying_96 Γ K11 K l4 g2) ∧ (¬ (x3 ≤ l6) → ((l2 = (-1 : Int32) → B_Po_firstEmptying_96 Γ K11 K l4 g2) ∧ (¬ (l2 = (-1 : Int32)) → Kd g2 l0 = 6 ∧ ∃ a4 : Nat, Gr g2 642 l0 = some a4 ∧ Kd g2 a4 = 1 ∧ Sp_AL_get Γ a4 l6 g2 (fun (a6 : Nat) (g5 : GH) => Kd g5 a6 = 9 ∧ Kd g5 a6 = 9 ∧ ((¬ ((Gi g5 1024 a6) = l1) → B_Po_firstEmptying_90 Γ K11 K l0 l1 l2 l3 l4 l5 l6 g5) ∧ ((Gi g5 1024 a6) = l1 → Kd g5 a6 = 9 ∧ ((l3 < (Gi g5 1027 a6) → B_Po_firstEmptying_90 Γ K11 K l0 l1 l2 l3 l4 l5 l6 g5) ∧ (¬ (l3 < (Gi g5 1027 a6)) → Kd g5 a6 = 9 ∧ (((Gi g5 1025 a6) < l2 → B_Po_firstEmptying_90 Γ K11 K l0 l1 l2 l3 l4 l5 l6 g5) ∧ (¬ ((Gi g5 1025 a6) < l2) → Kd g5 a6 = 9 ∧ ((l5 ≤ (Gi g5 1025 a6) → B_Po_firstEmptying_90 Γ K11 K l0 l1 l2 l3 l4 l5 l6 g5) ∧ (¬ (l5 ≤ (Gi g5 1025 a6)) → Kd g5 a6 = 9 ∧ ∀ x7 : Int32, x7 = (Gi g5 1025 a6) → B_Po_firstEmptying_90 Γ K11 K l0 l1 l2 l3 l6 x7 l6 g5))))))))))))))
set_option maxHeartbeats 4000000 in
set_option maxRecDepth 100000 in
theorem S_Po_firstEmptying_11 {Γ : GAM} {E : EV} {K : Int32 → GH → Prop} (hE : GE Γ E cX4_firstEmptying 8 RX4 (some (.int)) 1 21 (fun r g' => ∃ x, r = some (.int x) ∧ K x g')) {K11 : Nat → Int32 → Int32 → Int32 → Int32 → Int32 → Int32 → GH → Prop} (hK11 : ∀ (l0 : Nat) (l1 : Int32) (l2 : Int32) (l3 : Int32) (l4 : Int32) (l5 : Int32) (l6 : Int32) (g : GH), K11 l0 l1 l2 l3 l4 l5 l6 g → JW Γ E 11 [some (.ref l0), some (.int l1), some (.int l2), some (.int l3), some (.int l4), some (.int l5), some (.int l6), none] [] g) (l0 : Nat) (l1 : Int32) (l2 : Int32) (l3 : Int32) (l4 : Int32) (l5 : Int32) (l6 : Int32) (g : GH) (h : B_Po_firstEmptying_11 Γ K11 K l0 l1 l2 l3 l4 l5 l6 g) : JW Γ E 11 [some (.ref l0), some (.int l1), some (.int l2), some (.int l3), some (.int l4), some (.int l5), some (.int l6), none] [] g := by
  unfold B_Po_firstEmptying_11 at h
  refine j_iload hE (by decide +kernel : decode cX4_firstEmptying 11 = .ok (.iload 6, 2)) rfl ?_
  refine j_aload_n hE (by decide +kernel : decode cX4_firstEmptying 13 = .ok (.aload_n 0, 1)) rfl rfl ?_
  obtain ⟨hk, h⟩ := h
  obtain ⟨a1, ha, h⟩ := h
  refine j_getRn hE fg_X4_21 hk ha (by decide +kernel : decode cX4_firstEmptying 14 = .ok (.getfield 21, 3)) ?_
  obtain ⟨hk, h⟩ := h
  refine j_callV hE rfl cl_X4_34 cf_0 im_Jx4a65c_size_8abf5 se_Jx4a65c_size_8abf5 ⟨by omega, by omega⟩ (As := []) (rest := [.int l6]) rfl rfl (Nat.le_of_ble_eq_true rfl) hk (by decide +kernel : decode cX4_firstEmptying 17 = .ok (.invokevirtual 34, 3)) (mt_AL_size _ _ _ h) ?_
  rintro _ g2 ⟨x3, rfl, h⟩
  refine j_icmp_ge hE (by decide +kernel : decode cX4_firstEmptying 20 = .ok (.if_icmp .ge 76, 3)) (tgt := 96) (by decide) (fun q => ?_) (fun q => ?_)
  · have h := h.1 q
    refine j_weak [none, none, none, none, some (.int l4), none, none, none] ⟨rfl, trivial⟩ ?_
    exact S_Po_firstEmptying_96 hE hK11 _ _ h
  · have h := h.2 q
    refine j_iload_n hE (by decide +kernel : decode cX4_firstEmptying 23 = .ok (.iload_n 2, 1)) rfl rfl ?_
    refine j_iconst hE (by decide +kernel : decode cX4_firstEmptying 24 = .ok (.iconst (-1), 1)) (v := (-1 : Int32)) (by decide) ?_
    refine j_icmp_eq hE (by decide +kernel : decode cX4_firstEmptying 25 = .ok (.if_icmp .eq 71, 3)) (tgt := 96) (by decide) (fun q => ?_) (fun q => ?_)
    · have h := h.1 q
      refine j_weak [none, none, none, none, some (.int l4), none, none, none] ⟨rfl, trivial⟩ ?_
      exact S_Po_firstEmptying_96 hE hK11 _ _ h
    · have h := h.2 q
      refine j_aload_n hE (by decide +kernel : decode cX4_firstEmptying 28 = .ok (.aload_n 0, 1)) rfl rfl ?_
      obtain ⟨hk, h⟩ := h
      obtain ⟨a4, ha, h⟩ := h
      refine j_getRn hE fg_X4_21 hk ha (by decide +kernel : decode cX4_firstEmptying 29 = .ok (.getfield 21, 3)) ?_
      refine j_iload hE (by decide +kernel : decode cX4_firstEmptying 32 = .ok (.iload 6, 2)) rfl ?_
      obtain ⟨hk, h⟩ := h
      refine j_callV hE rfl cl_X4_42 cf_0 im_Jx4a65c_get_915e3 se_Jx4a65c_get_915e3 ⟨by omega, by omega⟩ (As := [.int l6]) (rest := []) rfl rfl (Nat.le_of_ble_eq_true rfl) hk (by decide +kernel : decode cX4_firstEmptying 34 = .ok (.invokevirtual 42, 3)) (mt_AL_get _ _ _ _ h) ?_
      rintro _ g5 ⟨a6, rfl, h⟩
      obtain ⟨hk, h⟩ := h
      refine j_cast hE cf_8 ck_X4_69 hk (by decide +kernel : decode cX4_firstEmptying 37 = .ok (.checkcast 69, 3)) ?_
      refine j_astore hE (by decide +kernel : decode cX4_firstEmptying 40 = .ok (.astore 7, 2)) (Nat.le_of_ble_eq_true rfl) rfl ?_
      refine j_aload hE (by decide +kernel : decode cX4_firstEmptying 42 = .ok (.aload 7, 2)) rfl ?_
      obtain ⟨hk, h⟩ := h
      refine j_getI hE fg_X4_83 hk (by decide +kernel : decode cX4_firstEmptying 44 = .ok (.getfield 83, 3)) ?_
      refine j_iload_n hE (by decide +kernel : decode cX4_firstEmptying 47 = .ok (.iload_n 1, 1)) rfl rfl ?_
      refine j_icmp_ne hE (by decide +kernel : decode cX4_firstEmptying 48 = .ok (.if_icmp .ne 42, 3)) (tgt := 90) (by decide) (fun q => ?_) (fun q => ?_)
      · have h := h.1 q
        refine j_weak [some (.ref l0), some (.int l1), some (.int l2), some (.int l3), some (.int l4), some (.int l5), some (.int l6), none] ⟨rfl, ⟨rfl, ⟨rfl, ⟨rfl, ⟨rfl, ⟨rfl, ⟨rfl, trivial⟩⟩⟩⟩⟩⟩⟩ ?_
        exact S_Po_firstEmptying_90 hE hK11 _ _ _ _ _ _ _ _ h
      · have h := h.2 q
        refine j_aload hE (by decide +kernel : decode cX4_firstEmptying 51 = .ok (.aload 7, 2)) rfl ?_
        obtain ⟨hk, h⟩ := h
        refine j_getI hE fg_X4_86 hk (by decide +kernel : decode cX4_firstEmptying 53 = .ok (.getfield 86, 3)) ?_
        refine j_iload_n hE (by decide +kernel : decode cX4_firstEmptying 56 = .ok (.iload_n 3, 1)) rfl rfl ?_
        refine j_icmp_gt hE (by decide +kernel : decode cX4_firstEmptying 57 = .ok (.if_icmp .gt 33, 3)) (tgt := 90) (by decide) (fun q => ?_) (fun q => ?_)
        · have h := h.1 q
          refine j_weak [some (.ref l0), some (.int l1), some (.int l2), some (.int l3), some (.int l4), some (.int l5), some (.int l6), none] ⟨rfl, ⟨rfl, ⟨rfl, ⟨rfl, ⟨rfl, ⟨rfl, ⟨rfl, trivial⟩⟩⟩⟩⟩⟩⟩ ?_
          exact S_Po_firstEmptying_90 hE hK11 _ _ _ _ _ _ _ _ h
        · have h := h.2 q
          refine j_aload hE (by decide +kernel : decode cX4_firstEmptying 60 = .ok (.aload 7, 2)) rfl ?_
          obtain ⟨hk, h⟩ := h
          refine j_getI hE fg_X4_71 hk (by decide +kernel : decode cX4_firstEmptying 62 = .ok (.getfield 71, 3)) ?_
          refine j_iload_n hE (by decide +kernel : decode cX4_firstEmptying 65 = .ok (.iload_n 2, 1)) rfl rfl ?_
          refine j_icmp_lt hE (by decide +kernel : decode cX4_firstEmptying 66 = .ok (.if_icmp .lt 24, 3)) (tgt := 90) (by decide) (fun q => ?_) (fun q => ?_)
          · have h := h.1 q
            refine j_weak [some (.ref l0), some (.int l1), some (.int l2), some (.int l3), some (.int l4), some (.int l5), some (.int l6), none] ⟨rfl, ⟨rfl, ⟨rfl, ⟨rfl, ⟨rfl, ⟨rfl, ⟨rfl, trivial⟩⟩⟩⟩⟩⟩⟩ ?_
            exact S_Po_firstEmptying_90 hE hK11 _ _ _ _ _ _ _ _ h
          · have h := h.2 q
            refine j_aload hE (by decide +kernel : decode cX4_firstEmptying 69 = .ok (.aload 7, 2)) rfl ?_
            obtain ⟨hk, h⟩ := h
            refine j_getI hE fg_X4_71 hk (by decide +kernel : decode cX4_firstEmptying 71 = .ok (.getfield 71, 3)) ?_
            refine j_iload hE (by decide +kernel : decode cX4_firstEmptying 74 = .ok (.iload 5, 2)) rfl ?_
            refine j_icmp_ge hE (by decide +kernel : decode cX4_firstEmptying 76 = .ok (.if_icmp .ge 14, 3)) (tgt := 90) (by decide) (fun q => ?_) (fun q => ?_)
            · have h := h.1 q
              refine j_weak [some (.ref l0), some (.int l1), some (.int l2), some (.int l3), some (.int l4), some (.int l5), some (.int l6), none] ⟨rfl, ⟨rfl, ⟨rfl, ⟨rfl, ⟨rfl, ⟨rfl, ⟨rfl, trivial⟩⟩⟩⟩⟩⟩⟩ ?_
              exact S_Po_firstEmptying_90 hE hK11 _ _ _ _ _ _ _ _ h
            · have h := h.2 q
              refine j_iload hE (by decide +kernel : decode cX4_firstEmptying 79 = .ok (.iload 6, 2)) rfl ?_
              refine j_istore hE (by decide +kernel : decode cX4_firstEmptying 81 = .ok (.istore 4, 2)) (Nat.le_of_ble_eq_true rfl) rfl ?_
              refine j_aload hE (by decide +kernel : decode cX4_firstEmptying 83 = .ok (.aload 7, 2)) rfl ?_
              obtain ⟨hk, h⟩ := h
              refine j_getI hE fg_X4_71 hk (by decide +kernel : decode cX4_firstEmptying 85 = .ok (.getfield 71, 3)) ?_
              obtain ⟨x7, hx⟩ : ∃ z, z = (Gi g5 1025 a6) := ⟨_, rfl⟩; have h := h x7 hx; rw [← hx]
              refine j_istore hE (by decide +kernel : decode cX4_firstEmptying 88 = .ok (.istore 5, 2)) (Nat.le_of_ble_eq_true rfl) rfl ?_
              refine j_weak [some (.ref l0), some (.int l1), some (.int l2), some (.int l3), some (.int l6), some (.int x7), some (.int l6), none] ⟨rfl, ⟨rfl, ⟨rfl, ⟨rfl, ⟨rfl, ⟨rfl, ⟨rfl, trivial⟩⟩⟩⟩⟩⟩⟩ ?_
              exact S_Po_firstEmptying_90 hE hK11 _ _ _ _ _ _ _ _ h
set_option maxRecDepth 100000 in
def B_Po_firstEmptying_0 (Γ : GAM) (K11 : Nat → Int32 → Int32 → Int32 → Int32 → Int32 → Int32 → GH → Prop) (K : Int32 → GH → Prop) (th : Nat) (p0 : Int32) (p1 : Int32) (p2 : Int32) (g : GH) : Prop :=
  K11 th p0 p1 p2 (-1 : Int32) (401 : Int32) (0 : Int32) g
set_option maxHeartbeats 4000000 in
set_option maxRecDepth 100000 in
theorem S_Po_firstEmptying_0 {Γ : GAM} {E : EV} {K : Int32 → GH → Prop} (hE : GE Γ E cX4_firstEmptying 8 RX4 (some (.int)) 1 21 (fun r g' => ∃ x, r = some (.int x) ∧ K x g')) {K11 : Nat → Int32 → Int32 → Int32 → Int32 → Int32 → Int32 → GH → Prop} (hK11 : ∀ (l0 : Nat) (l1 : Int32) (l2 : Int32) (l3 : Int32) (l4 : Int32) (l5 : Int32) (l6 : Int32) (g : GH), K11 l0 l1 l2 l3 l4 l5 l6 g → JW Γ E 11 [some (.ref l0), some (.int l1), some (.int l2), some (.int l3), some (.int l4), some (.int l5), some (.int l6), none] [] g) (th : Nat) (p0 : Int32) (p1 : Int32) (p2 : Int32) (g : GH) (h : B_Po_firstEmptying_0 Γ K11 K th p0 p1 p2 g) : JW Γ E 0 [some (.ref th), some (.int p0), some (.int p1), some (.int p2), none, none, none, none] [] g := by
  unfold B_Po_firstEmptying_0 at h
  refine j_iconst hE (by decide +kernel : decode cX4_firstEmptying 0 = .ok (.iconst (-1), 1)) (v := (-1 : Int32)) (by decide) ?_
  refine j_istore hE (by decide +kernel : decode cX4_firstEmptying 1 = .ok (.istore 4, 2)) (Nat.le_of_ble_eq_true rfl) rfl ?_
  refine j_sipush hE (by decide +kernel : decode cX4_firstEmptying 3 = .ok (.sipush 401, 3)) (v := (401 : Int32)) (by decide) ?_
  refine j_istore hE (by decide +kernel : decode cX4_firstEmptying 6 = .ok (.istore 5, 2)) (Nat.le_of_ble_eq_true rfl) rfl ?_
  refine j_iconst hE (by decide +kernel : decode cX4_firstEmptying 8 = .ok (.iconst 0, 1)) (v := (0 : Int32)) (by decide) ?_
  refine j_istore hE (by decide +kernel : decode cX4_firstEmptying 9 = .ok (.istore 6, 2)) (Nat.le_of_ble_eq_true rfl) rfl ?_
  exact hK11 _ _ _ _ _ _ _ _ h
set_option maxHeartbeats 4000000 in
set_option maxRecDepth 100000 in
theorem rl_Po_firstEmptying {Γ : GAM} {l : Launch} {th : Nat} {p0 : Int32} {p1 : Int32} {p2 : Int32} {g : GH} {K : Int32 → GH → Prop} (I11 : Nat → Nat → Int32 → Int32 → Int32 → Int32 → Int32 → Int32 → GH → Prop) (hh11 : ∀ n (l0 : Nat) (l1 : Int32) (l2 : Int32) (l3 : Int32) (l4 : Int32) (l5 : Int32) (l6 : Int32) (g : GH), I11 n l0 l1 l2 l3 l4 l5 l6 g → B_Po_firstEmptying_11 Γ (fun l0 l1 l2 l3 l4 l5 l6 g => ∃ m, m < n ∧ I11 m l0 l1 l2 l3 l4 l5 l6 g) K l0 l1 l2 l3 l4 l5 l6 g) (h0 : B_Po_firstEmptying_0 Γ (fun l0 l1 l2 l3 l4 l5 l6 g => ∃ m, I11 m l0 l1 l2 l3 l4 l5 l6 g) K th p0 p1 p2 g) : MetA Γ l yX4_firstEmptying cX4_firstEmptying 8 (some (.int)) 1 21 [.ref th, .int p0, .int p1, .int p2] g (fun r g' => ∃ x, r = some (.int x) ∧ K x g') := by
  refine MetA.introL (Lx := [some (.ref th), some (.int p0), some (.int p1), some (.int p2), none, none, none, none]) (by decide) (Nat.le_of_ble_eq_true rfl) rfl rfl ?_
  intro E hEl hE hnm
  have hall : ∀ n, (∀ (l0 : Nat) (l1 : Int32) (l2 : Int32) (l3 : Int32) (l4 : Int32) (l5 : Int32) (l6 : Int32) (g : GH), I11 n l0 l1 l2 l3 l4 l5 l6 g → JW Γ E 11 [some (.ref l0), some (.int l1), some (.int l2), some (.int l3), some (.int l4), some (.int l5), some (.int l6), none] [] g) := by
    intro n
    induction n using Nat.strongRecOn with
    | ind n ih =>
      exact fun l0 l1 l2 l3 l4 l5 l6 g hi => S_Po_firstEmptying_11 hE (fun l0 l1 l2 l3 l4 l5 l6 g hm => by obtain ⟨m, hm, h⟩ := hm; exact (ih m hm) l0 l1 l2 l3 l4 l5 l6 g h) l0 l1 l2 l3 l4 l5 l6 g (hh11 n l0 l1 l2 l3 l4 l5 l6 g hi)
  exact S_Po_firstEmptying_0 hE (fun l0 l1 l2 l3 l4 l5 l6 g hm => by obtain ⟨m, h⟩ := hm; exact (hall m) l0 l1 l2 l3 l4 l5 l6 g h) th p0 p1 p2 g h0
def Sp_Po_settle (Γ : GAM) (q0 : Nat) (q1 : Nat) (q2 : Int32) (g : GH) (K : GH → Prop) : Prop := False
theorem mt_Po_settle {Γ : GAM} {l : Launch} (q0 : Nat) (q1 : Nat) (q2 : Int32) (g : GH) (K : GH → Prop) (h : Sp_Po_settle Γ q0 q1 q2 g K) : MetA Γ l yX4_settle cX4_settle 6 none 0 0 [.ref q0, .ref q1, .int q2] g (fun r g' => r = none ∧ K g') := h.elim
-- the walk of Po_manyBy
set_option maxRecDepth 100000 in
def B_Po_manyBy_64 (Γ : GAM) (K5 : Nat → Int32 → Int32 → Int32 → Int32 → GH → Prop) (K : Int32 → GH → Prop) (l0 : Nat) (l1 : Int32) (l2 : Int32) (l3 : Int32) (l4 : Int32) (g : GH) : Prop :=
  K5 l0 l1 l2 l3 (l4 + (1 : Int32)) g
set_option maxHeartbeats 4000000 in
set_option maxRecDepth 100000 in
theorem S_Po_manyBy_64 {Γ : GAM} {E : EV} {K : Int32 → GH → Prop} (hE : GE Γ E cX4_manyBy 6 RX4 (some (.int)) 1 25 (fun r g' => ∃ x, r = some (.int x) ∧ K x g')) {K5 : Nat → Int32 → Int32 → Int32 → Int32 → GH → Prop} (hK5 : ∀ (l0 : Nat) (l1 : Int32) (l2 : Int32) (l3 : Int32) (l4 : Int32) (g : GH), K5 l0 l1 l2 l3 l4 g → JW Γ E 5 [some (.ref l0), some (.int l1), some (.int l2), some (.int l3), some (.int l4), none] [] g) (l0 : Nat) (l1 : Int32) (l2 : Int32) (l3 : Int32) (l4 : Int32) (g : GH) (h : B_Po_manyBy_64 Γ K5 K l0 l1 l2 l3 l4 g) : JW Γ E 64 [some (.ref l0), some (.int l1), some (.int l2), some (.int l3), some (.int l4), none] [] g := by
  unfold B_Po_manyBy_64 at h
  refine j_iinc hE (by decide +kernel : decode cX4_manyBy 64 = .ok (.iinc 4 1, 3)) (v := (1 : Int32)) (by decide) rfl (Nat.le_of_ble_eq_true rfl) rfl ?_
  refine j_goto hE (by decide +kernel : decode cX4_manyBy 67 = .ok (.goto (-62), 3)) (tgt := 5) (by decide) ?_
  exact hK5 _ _ _ _ _ _ h
set_option maxRecDepth 100000 in
def B_Po_manyBy_62 (Γ : GAM) (K5 : Nat → Int32 → Int32 → Int32 → Int32 → GH → Prop) (K : Int32 → GH → Prop) (l0 : Nat) (l1 : Int32) (l2 : Int32) (l4 : Int32) (s0 : Int32) (s1 : Int32) (g : GH) : Prop :=
  ∀ x1 : Int32, x1 = (s1 + s0) → B_Po_manyBy_64 Γ K5 K l0 l1 l2 x1 l4 g
set_option maxHeartbeats 4000000 in
set_option maxRecDepth 100000 in
theorem S_Po_manyBy_62 {Γ : GAM} {E : EV} {K : Int32 → GH → Prop} (hE : GE Γ E cX4_manyBy 6 RX4 (some (.int)) 1 25 (fun r g' => ∃ x, r = some (.int x) ∧ K x g')) {K5 : Nat → Int32 → Int32 → Int32 → Int32 → GH → Prop} (hK5 : ∀ (l0 : Nat) (l1 : Int32) (l2 : Int32) (l3 : Int32) (l4 : Int32) (g : GH), K5 l0 l1 l2 l3 l4 g → JW Γ E 5 [some (.ref l0), some (.int l1), some (.int l2), some (.int l3), some (.int l4), none] [] g) (l0 : Nat) (l1 : Int32) (l2 : Int32) (l4 : Int32) (s0 : Int32) (s1 : Int32) (g : GH) (h : B_Po_manyBy_62 Γ K5 K l0 l1 l2 l4 s0 s1 g) : JW Γ E 62 [some (.ref l0), some (.int l1), some (.int l2), none, some (.int l4), none] [.int s0, .int s1] g := by
  unfold B_Po_manyBy_62 at h
  refine j_iadd hE (by decide +kernel : decode cX4_manyBy 62 = .ok (.iadd, 1)) ?_
  obtain ⟨x1, hx⟩ : ∃ z, z = (s1 + s0) := ⟨_, rfl⟩; have h := h x1 hx; rw [← hx]
  refine j_istore_n hE (by decide +kernel : decode cX4_manyBy 63 = .ok (.istore_n 3, 1)) rfl (Nat.le_of_ble_eq_true rfl) rfl ?_
  exact S_Po_manyBy_64 hE hK5 _ _ _ _ _ _ h
set_option maxRecDepth 100000 in
def B_Po_manyBy_5 (Γ : GAM) (K5 : Nat → Int32 → Int32 → Int32 → Int32 → GH → Prop) (K : Int32 → GH → Prop) (l0 : Nat) (l1 : Int32) (l2 : Int32) (l3 : Int32) (l4 : Int32) (g : GH) : Prop :=
  Kd g l0 = 6 ∧ ∃ a1 : Nat, Gr g 641 l0 = some a1 ∧ Kd g a1 = 1 ∧ Sp_AL_size Γ a1 g (fun (x3 : Int32) (g2 : GH) => ((x3 ≤ l4 → K l3 g2) ∧ (¬ (x3 ≤ l4) → Kd g2 l0 = 6 ∧ ∃ a4 : Nat, Gr g2 641 l0 = some a4 ∧ Kd g2 a4 = 1 ∧ Sp_AL_get Γ a4 l4 g2 (fun (a6 : Nat) (g5 : GH) => Kd g5 a6 = 2 ∧ Kd g5 a6 = 2 ∧ ((l2 < (Gi g5 132 a6) → B_Po_manyBy_64 Γ K5 K l0 l1 l2 l3 l4 g5) ∧ (¬ (l2 < (Gi g5 132 a6)) → Kd g5 l0 = 6 ∧ Sp_Po_settle Γ l0 a6 l2 g5 (fun (g7 : GH) => Kd g7 a6 = 2 ∧ ((¬ ((Gi g7 138 a6) = l1) → B_Po_manyBy_62 Γ K5 K l0 l1 l2 l4 (0 : Int32) l3 g7) ∧ ((Gi g7 138 a6) = l1 → B_Po_manyBy_62 Γ K5 K l0 l1 l2 l4 (1 : Int32) l3 g7)))))))))
set_option maxHeartbeats 4000000 in
set_option maxRecDepth 100000 in
theorem S_Po_manyBy_5 {Γ : GAM} {E : EV} {K : Int32 → GH → Prop} (hE : GE Γ E cX4_manyBy 6 RX4 (some (.int)) 1 25 (fun r g' => ∃ x, r = some (.int x) ∧ K x g')) {K5 : Nat → Int32 → Int32 → Int32 → Int32 → GH → Prop} (hK5 : ∀ (l0 : Nat) (l1 : Int32) (l2 : Int32) (l3 : Int32) (l4 : Int32) (g : GH), K5 l0 l1 l2 l3 l4 g → JW Γ E 5 [some (.ref l0), some (.int l1), some (.int l2), some (.int l3), some (.int l4), none] [] g) (l0 : Nat) (l1 : Int32) (l2 : Int32) (l3 : Int32) (l4 : Int32) (g : GH) (h : B_Po_manyBy_5 Γ K5 K l0 l1 l2 l3 l4 g) : JW Γ E 5 [some (.ref l0), some (.int l1), some (.int l2), some (.int l3), some (.int l4), none] [] g := by
  unfold B_Po_manyBy_5 at h
  refine j_iload hE (by decide +kernel : decode cX4_manyBy 5 = .ok (.iload 4, 2)) rfl ?_
  refine j_aload_n hE (by decide +kernel : decode cX4_manyBy 7 = .ok (.aload_n 0, 1)) rfl rfl ?_
  obtain ⟨hk, h⟩ := h
  obtain ⟨a1, ha, h⟩ := h
  refine j_getRn hE fg_X4_18 hk ha (by decide +kernel : decode cX4_manyBy 8 = .ok (.getfield 18, 3)) ?_
  obtain ⟨hk, h⟩ := h
  refine j_callV hE rfl cl_X4_34 cf_0 im_Jx4a65c_size_8abf5 se_Jx4a65c_size_8abf5 ⟨by omega, by omega⟩ (As := []) (rest := [.int l4]) rfl rfl (Nat.le_of_ble_eq_true rfl) hk (by decide +kernel : decode cX4_manyBy 11 = .ok (.invokevirtual 34, 3)) (mt_AL_size _ _ _ h) ?_
  rintro _ g2 ⟨x3, rfl, h⟩
  refine j_icmp_ge hE (by decide +kernel : decode cX4_manyBy 14 = .ok (.if_icmp .ge 56, 3)) (tgt := 70) (by decide) (fun q => ?_) (fun q => ?_)
  · have h := h.1 q
    refine j_iload_n hE (by decide +kernel : decode cX4_manyBy 70 = .ok (.iload_n 3, 1)) rfl rfl ?_
    exact j_iret hE (by decide +kernel : decode cX4_manyBy 71 = .ok (.ireturn, 1)) ⟨_, rfl, h⟩
  · have h := h.2 q
    refine j_aload_n hE (by decide +kernel : decode cX4_manyBy 17 = .ok (.aload_n 0, 1)) rfl rfl ?_
    obtain ⟨hk, h⟩ := h
    obtain ⟨a4, ha, h⟩ := h
    refine j_getRn hE fg_X4_18 hk ha (by decide +kernel : decode cX4_manyBy 18 = .ok (.getfield 18, 3)) ?_
    refine j_iload hE (by decide +kernel : decode cX4_manyBy 21 = .ok (.iload 4, 2)) rfl ?_
    obtain ⟨hk, h⟩ := h
    refine j_callV hE rfl cl_X4_42 cf_0 im_Jx4a65c_get_915e3 se_Jx4a65c_get_915e3 ⟨by omega, by omega⟩ (As := [.int l4]) (rest := []) rfl rfl (Nat.le_of_ble_eq_true rfl) hk (by decide +kernel : decode cX4_manyBy 23 = .ok (.invokevirtual 42, 3)) (mt_AL_get _ _ _ _ h) ?_
    rintro _ g5 ⟨a6, rfl, h⟩
    obtain ⟨hk, h⟩ := h
    refine j_cast hE cf_1 ck_X4_48 hk (by decide +kernel : decode cX4_manyBy 26 = .ok (.checkcast 48, 3)) ?_
    refine j_astore hE (by decide +kernel : decode cX4_manyBy 29 = .ok (.astore 5, 2)) (Nat.le_of_ble_eq_true rfl) rfl ?_
    refine j_aload hE (by decide +kernel : decode cX4_manyBy 31 = .ok (.aload 5, 2)) rfl ?_
    obtain ⟨hk, h⟩ := h
    refine j_getI hE fg_X4_89 hk (by decide +kernel : decode cX4_manyBy 33 = .ok (.getfield 89, 3)) ?_
    refine j_iload_n hE (by decide +kernel : decode cX4_manyBy 36 = .ok (.iload_n 2, 1)) rfl rfl ?_
    refine j_icmp_gt hE (by decide +kernel : decode cX4_manyBy 37 = .ok (.if_icmp .gt 27, 3)) (tgt := 64) (by decide) (fun q => ?_) (fun q => ?_)
    · have h := h.1 q
      refine j_weak [some (.ref l0), some (.int l1), some (.int l2), some (.int l3), some (.int l4), none] ⟨rfl, ⟨rfl, ⟨rfl, ⟨rfl, ⟨rfl, trivial⟩⟩⟩⟩⟩ ?_
      exact S_Po_manyBy_64 hE hK5 _ _ _ _ _ _ h
    · have h := h.2 q
      refine j_aload_n hE (by decide +kernel : decode cX4_manyBy 40 = .ok (.aload_n 0, 1)) rfl rfl ?_
      refine j_aload hE (by decide +kernel : decode cX4_manyBy 41 = .ok (.aload 5, 2)) rfl ?_
      refine j_iload_n hE (by decide +kernel : decode cX4_manyBy 43 = .ok (.iload_n 2, 1)) rfl rfl ?_
      obtain ⟨hk, h⟩ := h
      refine j_callV hE rfl cl_X4_90 cf_5 im_X4_settle se_X4_settle ⟨by omega, by omega⟩ (As := [.ref a6, .int l2]) (rest := []) rfl rfl (Nat.le_of_ble_eq_true rfl) hk (by decide +kernel : decode cX4_manyBy 44 = .ok (.invokevirtual 90, 3)) (mt_Po_settle _ _ _ _ _ h) ?_
      rintro _ g7 ⟨rfl, h⟩
      refine j_iload_n hE (by decide +kernel : decode cX4_manyBy 47 = .ok (.iload_n 3, 1)) rfl rfl ?_
      refine j_aload hE (by decide +kernel : decode cX4_manyBy 48 = .ok (.aload 5, 2)) rfl ?_
      obtain ⟨hk, h⟩ := h
      refine j_getI hE fg_X4_74 hk (by decide +kernel : decode cX4_manyBy 50 = .ok (.getfield 74, 3)) ?_
      refine j_iload_n hE (by decide +kernel : decode cX4_manyBy 53 = .ok (.iload_n 1, 1)) rfl rfl ?_
      refine j_icmp_ne hE (by decide +kernel : decode cX4_manyBy 54 = .ok (.if_icmp .ne 7, 3)) (tgt := 61) (by decide) (fun q => ?_) (fun q => ?_)
      · have h := h.1 q
        refine j_iconst hE (by decide +kernel : decode cX4_manyBy 61 = .ok (.iconst 0, 1)) (v := (0 : Int32)) (by decide) ?_
        refine j_weak [some (.ref l0), some (.int l1), some (.int l2), none, some (.int l4), none] ⟨rfl, ⟨rfl, ⟨rfl, ⟨rfl, trivial⟩⟩⟩⟩ ?_
        exact S_Po_manyBy_62 hE hK5 _ _ _ _ _ _ _ h
      · have h := h.2 q
        refine j_iconst hE (by decide +kernel : decode cX4_manyBy 57 = .ok (.iconst 1, 1)) (v := (1 : Int32)) (by decide) ?_
        refine j_goto hE (by decide +kernel : decode cX4_manyBy 58 = .ok (.goto 4, 3)) (tgt := 62) (by decide) ?_
        refine j_weak [some (.ref l0), some (.int l1), some (.int l2), none, some (.int l4), none] ⟨rfl, ⟨rfl, ⟨rfl, ⟨rfl, trivial⟩⟩⟩⟩ ?_
        exact S_Po_manyBy_62 hE hK5 _ _ _ _ _ _ _ h
set_option maxRecDepth 100000 in
def B_Po_manyBy_0 (Γ : GAM) (K5 : Nat → Int32 → Int32 → Int32 → Int32 → GH → Prop) (K : Int32 → GH → Prop) (th : Nat) (p0 : Int32) (p1 : Int32) (g : GH) : Prop :=
  K5 th p0 p1 (0 : Int32) (0 : Int32) g
set_option maxHeartbeats 4000000 in
set_option maxRecDepth 100000 in
theorem S_Po_manyBy_0 {Γ : GAM} {E : EV} {K : Int32 → GH → Prop} (hE : GE Γ E cX4_manyBy 6 RX4 (some (.int)) 1 25 (fun r g' => ∃ x, r = some (.int x) ∧ K x g')) {K5 : Nat → Int32 → Int32 → Int32 → Int32 → GH → Prop} (hK5 : ∀ (l0 : Nat) (l1 : Int32) (l2 : Int32) (l3 : Int32) (l4 : Int32) (g : GH), K5 l0 l1 l2 l3 l4 g → JW Γ E 5 [some (.ref l0), some (.int l1), some (.int l2), some (.int l3), some (.int l4), none] [] g) (th : Nat) (p0 : Int32) (p1 : Int32) (g : GH) (h : B_Po_manyBy_0 Γ K5 K th p0 p1 g) : JW Γ E 0 [some (.ref th), some (.int p0), some (.int p1), none, none, none] [] g := by
  unfold B_Po_manyBy_0 at h
  refine j_iconst hE (by decide +kernel : decode cX4_manyBy 0 = .ok (.iconst 0, 1)) (v := (0 : Int32)) (by decide) ?_
  refine j_istore_n hE (by decide +kernel : decode cX4_manyBy 1 = .ok (.istore_n 3, 1)) rfl (Nat.le_of_ble_eq_true rfl) rfl ?_
  refine j_iconst hE (by decide +kernel : decode cX4_manyBy 2 = .ok (.iconst 0, 1)) (v := (0 : Int32)) (by decide) ?_
  refine j_istore hE (by decide +kernel : decode cX4_manyBy 3 = .ok (.istore 4, 2)) (Nat.le_of_ble_eq_true rfl) rfl ?_
  exact hK5 _ _ _ _ _ _ h
set_option maxHeartbeats 4000000 in
set_option maxRecDepth 100000 in
theorem rl_Po_manyBy {Γ : GAM} {l : Launch} {th : Nat} {p0 : Int32} {p1 : Int32} {g : GH} {K : Int32 → GH → Prop} (I5 : Nat → Nat → Int32 → Int32 → Int32 → Int32 → GH → Prop) (hh5 : ∀ n (l0 : Nat) (l1 : Int32) (l2 : Int32) (l3 : Int32) (l4 : Int32) (g : GH), I5 n l0 l1 l2 l3 l4 g → B_Po_manyBy_5 Γ (fun l0 l1 l2 l3 l4 g => ∃ m, m < n ∧ I5 m l0 l1 l2 l3 l4 g) K l0 l1 l2 l3 l4 g) (h0 : B_Po_manyBy_0 Γ (fun l0 l1 l2 l3 l4 g => ∃ m, I5 m l0 l1 l2 l3 l4 g) K th p0 p1 g) : MetA Γ l yX4_manyBy cX4_manyBy 6 (some (.int)) 1 25 [.ref th, .int p0, .int p1] g (fun r g' => ∃ x, r = some (.int x) ∧ K x g') := by
  refine MetA.introL (Lx := [some (.ref th), some (.int p0), some (.int p1), none, none, none]) (by decide) (Nat.le_of_ble_eq_true rfl) rfl rfl ?_
  intro E hEl hE hnm
  have hall : ∀ n, (∀ (l0 : Nat) (l1 : Int32) (l2 : Int32) (l3 : Int32) (l4 : Int32) (g : GH), I5 n l0 l1 l2 l3 l4 g → JW Γ E 5 [some (.ref l0), some (.int l1), some (.int l2), some (.int l3), some (.int l4), none] [] g) := by
    intro n
    induction n using Nat.strongRecOn with
    | ind n ih =>
      exact fun l0 l1 l2 l3 l4 g hi => S_Po_manyBy_5 hE (fun l0 l1 l2 l3 l4 g hm => by obtain ⟨m, hm, h⟩ := hm; exact (ih m hm) l0 l1 l2 l3 l4 g h) l0 l1 l2 l3 l4 g (hh5 n l0 l1 l2 l3 l4 g hi)
  exact S_Po_manyBy_0 hE (fun l0 l1 l2 l3 l4 g hm => by obtain ⟨m, h⟩ := hm; exact (hall m) l0 l1 l2 l3 l4 g h) th p0 p1 g h0
def Sp_Po_judgeOf (Γ : GAM) (q0 : Nat) (q1 : Nat) (q2 : Int32) (g : GH) (K : GH → Prop) : Prop := False
theorem mt_Po_judgeOf {Γ : GAM} {l : Launch} (q0 : Nat) (q1 : Nat) (q2 : Int32) (g : GH) (K : GH → Prop) (h : Sp_Po_judgeOf Γ q0 q1 q2 g K) : MetA Γ l yX4_judgeOf cX4_judgeOf 5 none 0 0 [.ref q0, .ref q1, .int q2] g (fun r g' => r = none ∧ K g') := h.elim
-- the walk of Po_judgeAll
set_option maxRecDepth 100000 in
def B_Po_judgeAll_2 (Γ : GAM) (K2 : Nat → Int32 → Int32 → GH → Prop) (K : GH → Prop) (l0 : Nat) (l1 : Int32) (l2 : Int32) (g : GH) : Prop :=
  Kd g l0 = 6 ∧ ∃ a1 : Nat, Gr g 640 l0 = some a1 ∧ Kd g a1 = 1 ∧ Sp_AL_size Γ a1 g (fun (x3 : Int32) (g2 : GH) => ((x3 ≤ l2 → K g2) ∧ (¬ (x3 ≤ l2) → Kd g2 l0 = 6 ∧ ∃ a4 : Nat, Gr g2 640 l0 = some a4 ∧ Kd g2 a4 = 1 ∧ Sp_AL_get Γ a4 l2 g2 (fun (a6 : Nat) (g5 : GH) => Kd g5 a6 = 11 ∧ Kd g5 l0 = 6 ∧ Sp_Po_judgeOf Γ l0 a6 l1 g5 (fun (g7 : GH) => K2 l0 l1 (l2 + (1 : Int32)) g7)))))
set_option maxHeartbeats 4000000 in
set_option maxRecDepth 100000 in
theorem S_Po_judgeAll_2 {Γ : GAM} {E : EV} {K : GH → Prop} (hE : GE Γ E cX4_judgeAll 3 RX4 none 1 24 (fun r g' => r = none ∧ K g')) {K2 : Nat → Int32 → Int32 → GH → Prop} (hK2 : ∀ (l0 : Nat) (l1 : Int32) (l2 : Int32) (g : GH), K2 l0 l1 l2 g → JW Γ E 2 [some (.ref l0), some (.int l1), some (.int l2)] [] g) (l0 : Nat) (l1 : Int32) (l2 : Int32) (g : GH) (h : B_Po_judgeAll_2 Γ K2 K l0 l1 l2 g) : JW Γ E 2 [some (.ref l0), some (.int l1), some (.int l2)] [] g := by
  unfold B_Po_judgeAll_2 at h
  refine j_iload_n hE (by decide +kernel : decode cX4_judgeAll 2 = .ok (.iload_n 2, 1)) rfl rfl ?_
  refine j_aload_n hE (by decide +kernel : decode cX4_judgeAll 3 = .ok (.aload_n 0, 1)) rfl rfl ?_
  obtain ⟨hk, h⟩ := h
  obtain ⟨a1, ha, h⟩ := h
  refine j_getRn hE fg_X4_12 hk ha (by decide +kernel : decode cX4_judgeAll 4 = .ok (.getfield 12, 3)) ?_
  obtain ⟨hk, h⟩ := h
  refine j_callV hE rfl cl_X4_34 cf_0 im_Jx4a65c_size_8abf5 se_Jx4a65c_size_8abf5 ⟨by omega, by omega⟩ (As := []) (rest := [.int l2]) rfl rfl (Nat.le_of_ble_eq_true rfl) hk (by decide +kernel : decode cX4_judgeAll 7 = .ok (.invokevirtual 34, 3)) (mt_AL_size _ _ _ h) ?_
  rintro _ g2 ⟨x3, rfl, h⟩
  refine j_icmp_ge hE (by decide +kernel : decode cX4_judgeAll 10 = .ok (.if_icmp .ge 25, 3)) (tgt := 35) (by decide) (fun q => ?_) (fun q => ?_)
  · have h := h.1 q
    exact j_vret hE (by decide +kernel : decode cX4_judgeAll 35 = .ok (.return_, 1)) ⟨rfl, h⟩
  · have h := h.2 q
    refine j_aload_n hE (by decide +kernel : decode cX4_judgeAll 13 = .ok (.aload_n 0, 1)) rfl rfl ?_
    refine j_aload_n hE (by decide +kernel : decode cX4_judgeAll 14 = .ok (.aload_n 0, 1)) rfl rfl ?_
    obtain ⟨hk, h⟩ := h
    obtain ⟨a4, ha, h⟩ := h
    refine j_getRn hE fg_X4_12 hk ha (by decide +kernel : decode cX4_judgeAll 15 = .ok (.getfield 12, 3)) ?_
    refine j_iload_n hE (by decide +kernel : decode cX4_judgeAll 18 = .ok (.iload_n 2, 1)) rfl rfl ?_
    obtain ⟨hk, h⟩ := h
    refine j_callV hE rfl cl_X4_42 cf_0 im_Jx4a65c_get_915e3 se_Jx4a65c_get_915e3 ⟨by omega, by omega⟩ (As := [.int l2]) (rest := [.ref l0]) rfl rfl (Nat.le_of_ble_eq_true rfl) hk (by decide +kernel : decode cX4_judgeAll 19 = .ok (.invokevirtual 42, 3)) (mt_AL_get _ _ _ _ h) ?_
    rintro _ g5 ⟨a6, rfl, h⟩
    obtain ⟨hk, h⟩ := h
    refine j_cast hE cf_10 ck_X4_46 hk (by decide +kernel : decode cX4_judgeAll 22 = .ok (.checkcast 46, 3)) ?_
    refine j_iload_n hE (by decide +kernel : decode cX4_judgeAll 25 = .ok (.iload_n 1, 1)) rfl rfl ?_
    obtain ⟨hk, h⟩ := h
    refine j_callV hE rfl cl_X4_94 cf_5 im_X4_judgeOf se_X4_judgeOf ⟨by omega, by omega⟩ (As := [.ref a6, .int l1]) (rest := []) rfl rfl (Nat.le_of_ble_eq_true rfl) hk (by decide +kernel : decode cX4_judgeAll 26 = .ok (.invokevirtual 94, 3)) (mt_Po_judgeOf _ _ _ _ _ h) ?_
    rintro _ g7 ⟨rfl, h⟩
    refine j_iinc hE (by decide +kernel : decode cX4_judgeAll 29 = .ok (.iinc 2 1, 3)) (v := (1 : Int32)) (by decide) rfl (Nat.le_of_ble_eq_true rfl) rfl ?_
    refine j_goto hE (by decide +kernel : decode cX4_judgeAll 32 = .ok (.goto (-30), 3)) (tgt := 2) (by decide) ?_
    exact hK2 _ _ _ _ h
set_option maxRecDepth 100000 in
def B_Po_judgeAll_0 (Γ : GAM) (K2 : Nat → Int32 → Int32 → GH → Prop) (K : GH → Prop) (th : Nat) (p0 : Int32) (g : GH) : Prop :=
  K2 th p0 (0 : Int32) g
set_option maxHeartbeats 4000000 in
set_option maxRecDepth 100000 in
theorem S_Po_judgeAll_0 {Γ : GAM} {E : EV} {K : GH → Prop} (hE : GE Γ E cX4_judgeAll 3 RX4 none 1 24 (fun r g' => r = none ∧ K g')) {K2 : Nat → Int32 → Int32 → GH → Prop} (hK2 : ∀ (l0 : Nat) (l1 : Int32) (l2 : Int32) (g : GH), K2 l0 l1 l2 g → JW Γ E 2 [some (.ref l0), some (.int l1), some (.int l2)] [] g) (th : Nat) (p0 : Int32) (g : GH) (h : B_Po_judgeAll_0 Γ K2 K th p0 g) : JW Γ E 0 [some (.ref th), some (.int p0), none] [] g := by
  unfold B_Po_judgeAll_0 at h
  refine j_iconst hE (by decide +kernel : decode cX4_judgeAll 0 = .ok (.iconst 0, 1)) (v := (0 : Int32)) (by decide) ?_
  refine j_istore_n hE (by decide +kernel : decode cX4_judgeAll 1 = .ok (.istore_n 2, 1)) rfl (Nat.le_of_ble_eq_true rfl) rfl ?_
  exact hK2 _ _ _ _ h
set_option maxHeartbeats 4000000 in
set_option maxRecDepth 100000 in
theorem rl_Po_judgeAll {Γ : GAM} {l : Launch} {th : Nat} {p0 : Int32} {g : GH} {K : GH → Prop} (I2 : Nat → Nat → Int32 → Int32 → GH → Prop) (hh2 : ∀ n (l0 : Nat) (l1 : Int32) (l2 : Int32) (g : GH), I2 n l0 l1 l2 g → B_Po_judgeAll_2 Γ (fun l0 l1 l2 g => ∃ m, m < n ∧ I2 m l0 l1 l2 g) K l0 l1 l2 g) (h0 : B_Po_judgeAll_0 Γ (fun l0 l1 l2 g => ∃ m, I2 m l0 l1 l2 g) K th p0 g) : MetA Γ l yX4_judgeAll cX4_judgeAll 3 none 1 24 [.ref th, .int p0] g (fun r g' => r = none ∧ K g') := by
  refine MetA.introL (Lx := [some (.ref th), some (.int p0), none]) (by decide) (Nat.le_of_ble_eq_true rfl) rfl rfl ?_
  intro E hEl hE hnm
  have hall : ∀ n, (∀ (l0 : Nat) (l1 : Int32) (l2 : Int32) (g : GH), I2 n l0 l1 l2 g → JW Γ E 2 [some (.ref l0), some (.int l1), some (.int l2)] [] g) := by
    intro n
    induction n using Nat.strongRecOn with
    | ind n ih =>
      exact fun l0 l1 l2 g hi => S_Po_judgeAll_2 hE (fun l0 l1 l2 g hm => by obtain ⟨m, hm, h⟩ := hm; exact (ih m hm) l0 l1 l2 g h) l0 l1 l2 g (hh2 n l0 l1 l2 g hi)
  exact S_Po_judgeAll_0 hE (fun l0 l1 l2 g hm => by obtain ⟨m, h⟩ := hm; exact (hall m) l0 l1 l2 g h) th p0 g h0
def Sp_Vo_learn (Γ : GAM) (q0 : Nat) (q1 : Int32) (g : GH) (K : GH → Prop) : Prop := False
theorem mt_Vo_learn {Γ : GAM} {l : Launch} (q0 : Nat) (q1 : Int32) (g : GH) (K : GH → Prop) (h : Sp_Vo_learn Γ q0 q1 g K) : MetA Γ l yX9_learn cX9_learn 4 none 0 0 [.ref q0, .int q1] g (fun r g' => r = none ∧ K g') := h.elim
def Sp_AL_clear (Γ : GAM) (q0 : Nat) (g : GH) (K : GH → Prop) : Prop := False
theorem mt_AL_clear {Γ : GAM} {l : Launch} (q0 : Nat) (g : GH) (K : GH → Prop) (h : Sp_AL_clear Γ q0 g K) : MetA Γ l yJx4a65c_clear_da8c8 cJx4a65c_clear_da8c8 4 none 0 0 [.ref q0] g (fun r g' => r = none ∧ K g') := h.elim
def Sp_Po_putInOrder (Γ : GAM) (q0 : Nat) (q1 : Nat) (g : GH) (K : GH → Prop) : Prop := False
theorem mt_Po_putInOrder {Γ : GAM} {l : Launch} (q0 : Nat) (q1 : Nat) (g : GH) (K : GH → Prop) (h : Sp_Po_putInOrder Γ q0 q1 g K) : MetA Γ l yX4_putInOrder cX4_putInOrder 3 none 0 0 [.ref q0, .ref q1] g (fun r g' => r = none ∧ K g') := h.elim
def Sp_Ju_decide (Γ : GAM) (q0 : Nat) (q1 : Nat) (q2 : Int32) (g : GH) (K : GH → Prop) : Prop := False
theorem mt_Ju_decide {Γ : GAM} {l : Launch} (q0 : Nat) (q1 : Nat) (q2 : Int32) (g : GH) (K : GH → Prop) (h : Sp_Ju_decide Γ q0 q1 q2 g K) : MetA Γ l yX2_decide cX2_decide 6 none 0 0 [.ref q0, .ref q1, .int q2] g (fun r g' => r = none ∧ K g') := h.elim
-- the walk of Po_judgeOf
set_option maxRecDepth 100000 in
def B_Po_judgeOf_171 (Γ : GAM) (K14 : Nat → Nat → Int32 → Int32 → GH → Prop) (K86 : Nat → Nat → Int32 → Int32 → GH → Prop) (K : GH → Prop) (l0 : Nat) (l1 : Nat) (l2 : Int32) (l3 : Int32) (g : GH) : Prop :=
  K86 l0 l1 l2 (l3 + (1 : Int32)) g
set_option maxHeartbeats 4000000 in
set_option maxRecDepth 100000 in
theorem S_Po_judgeOf_171 {Γ : GAM} {E : EV} {K : GH → Prop} (hE : GE Γ E cX4_judgeOf 5 RX4 none 1 25 (fun r g' => r = none ∧ K g')) {K14 : Nat → Nat → Int32 → Int32 → GH → Prop} {K86 : Nat → Nat → Int32 → Int32 → GH → Prop} (hK14 : ∀ (l0 : Nat) (l1 : Nat) (l2 : Int32) (l3 : Int32) (g : GH), K14 l0 l1 l2 l3 g → JW Γ E 14 [some (.ref l0), some (.ref l1), some (.int l2), some (.int l3), none] [] g) (hK86 : ∀ (l0 : Nat) (l1 : Nat) (l2 : Int32) (l3 : Int32) (g : GH), K86 l0 l1 l2 l3 g → JW Γ E 86 [some (.ref l0), some (.ref l1), some (.int l2), some (.int l3), none] [] g) (l0 : Nat) (l1 : Nat) (l2 : Int32) (l3 : Int32) (g : GH) (h : B_Po_judgeOf_171 Γ K14 K86 K l0 l1 l2 l3 g) : JW Γ E 171 [some (.ref l0), some (.ref l1), some (.int l2), some (.int l3), none] [] g := by
  unfold B_Po_judgeOf_171 at h
  refine j_iinc hE (by decide +kernel : decode cX4_judgeOf 171 = .ok (.iinc 3 1, 3)) (v := (1 : Int32)) (by decide) rfl (Nat.le_of_ble_eq_true rfl) rfl ?_
  refine j_goto hE (by decide +kernel : decode cX4_judgeOf 174 = .ok (.goto (-88), 3)) (tgt := 86) (by decide) ?_
  exact hK86 _ _ _ _ _ h
set_option maxRecDepth 100000 in
def B_Po_judgeOf_158 (Γ : GAM) (K14 : Nat → Nat → Int32 → Int32 → GH → Prop) (K86 : Nat → Nat → Int32 → Int32 → GH → Prop) (K : GH → Prop) (l0 : Nat) (l1 : Nat) (l2 : Int32) (l3 : Int32) (s0 : Int32) (s1 : Nat) (g : GH) : Prop :=
  Kd g s1 = 11 ∧ ∀ g1 : GH, g1 = sI g 1287 s1 s0 → Kd g1 l1 = 11 ∧ Kd g1 l1 = 11 ∧ ∀ g2 : GH, g2 = sI g1 1286 l1 ((Gi g1 1286 l1) + (1 : Int32)) → B_Po_judgeOf_171 Γ K14 K86 K l0 l1 l2 l3 g2
set_option maxHeartbeats 4000000 in
set_option maxRecDepth 100000 in
theorem S_Po_judgeOf_158 {Γ : GAM} {E : EV} {K : GH → Prop} (hE : GE Γ E cX4_judgeOf 5 RX4 none 1 25 (fun r g' => r = none ∧ K g')) {K14 : Nat → Nat → Int32 → Int32 → GH → Prop} {K86 : Nat → Nat → Int32 → Int32 → GH → Prop} (hK14 : ∀ (l0 : Nat) (l1 : Nat) (l2 : Int32) (l3 : Int32) (g : GH), K14 l0 l1 l2 l3 g → JW Γ E 14 [some (.ref l0), some (.ref l1), some (.int l2), some (.int l3), none] [] g) (hK86 : ∀ (l0 : Nat) (l1 : Nat) (l2 : Int32) (l3 : Int32) (g : GH), K86 l0 l1 l2 l3 g → JW Γ E 86 [some (.ref l0), some (.ref l1), some (.int l2), some (.int l3), none] [] g) (l0 : Nat) (l1 : Nat) (l2 : Int32) (l3 : Int32) (s0 : Int32) (s1 : Nat) (g : GH) (h : B_Po_judgeOf_158 Γ K14 K86 K l0 l1 l2 l3 s0 s1 g) : JW Γ E 158 [some (.ref l0), some (.ref l1), some (.int l2), some (.int l3), none] [.int s0, .ref s1] g := by
  unfold B_Po_judgeOf_158 at h
  obtain ⟨hk, h⟩ := h
  obtain ⟨g1, hg⟩ : ∃ z, z = sI g 1287 s1 s0 := ⟨_, rfl⟩; have h := h g1 hg
  refine j_putI hE fa_X4_128 hk (fun q => by cases q) (by decide +kernel : decode cX4_judgeOf 158 = .ok (.putfield 128, 3)) ?_
  rw [← hg]
  refine j_aload_n hE (by decide +kernel : decode cX4_judgeOf 161 = .ok (.aload_n 1, 1)) rfl rfl ?_
  refine j_dup hE (by decide +kernel : decode cX4_judgeOf 162 = .ok (.dup, 1)) rfl ?_
  obtain ⟨hk, h⟩ := h
  refine j_getI hE fg_X4_113 hk (by decide +kernel : decode cX4_judgeOf 163 = .ok (.getfield 113, 3)) ?_
  refine j_iconst hE (by decide +kernel : decode cX4_judgeOf 166 = .ok (.iconst 1, 1)) (v := (1 : Int32)) (by decide) ?_
  refine j_iadd hE (by decide +kernel : decode cX4_judgeOf 167 = .ok (.iadd, 1)) ?_
  obtain ⟨hk, h⟩ := h
  obtain ⟨g2, hg⟩ : ∃ z, z = sI g1 1286 l1 ((Gi g1 1286 l1) + (1 : Int32)) := ⟨_, rfl⟩; have h := h g2 hg
  refine j_putI hE fa_X4_113 hk (fun q => by cases q) (by decide +kernel : decode cX4_judgeOf 168 = .ok (.putfield 113, 3)) ?_
  rw [← hg]
  exact S_Po_judgeOf_171 hE hK14 hK86 _ _ _ _ _ h
set_option maxRecDepth 100000 in
def B_Po_judgeOf_86 (Γ : GAM) (K14 : Nat → Nat → Int32 → Int32 → GH → Prop) (K86 : Nat → Nat → Int32 → Int32 → GH → Prop) (K : GH → Prop) (l0 : Nat) (l1 : Nat) (l2 : Int32) (l3 : Int32) (g : GH) : Prop :=
  Kd g l0 = 6 ∧ ∃ a1 : Nat, Gr g 644 l0 = some a1 ∧ Kd g a1 = 1 ∧ Sp_AL_size Γ a1 g (fun (x3 : Int32) (g2 : GH) => ((x3 ≤ l3 → K g2) ∧ (¬ (x3 ≤ l3) → Kd g2 l0 = 6 ∧ ∃ a4 : Nat, Gr g2 644 l0 = some a4 ∧ Kd g2 a4 = 1 ∧ Sp_AL_get Γ a4 l3 g2 (fun (a6 : Nat) (g5 : GH) => Kd g5 a6 = 2 ∧ Kd g5 l1 = 11 ∧ Kd g5 a6 = 2 ∧ ∀ g7 : GH, g7 = sI g5 139 a6 (Gi g5 1286 l1) → Kd g7 l0 = 6 ∧ ∃ a8 : Nat, Gr g7 643 l0 = some a8 ∧ Kd g7 a8 = 4 ∧ Sp_Ju_decide Γ a8 a6 l2 g7 (fun (g9 : GH) => Kd g9 a6 = 2 ∧ ((¬ ((Gi g9 140 a6) = (2 : Int32)) → B_Po_judgeOf_171 Γ K14 K86 K l0 l1 l2 l3 g9) ∧ ((Gi g9 140 a6) = (2 : Int32) → Kd g9 l1 = 11 ∧ ((¬ ((Gi g9 1286 l1) = 0) → Kd g9 l1 = 11 ∧ B_Po_judgeOf_158 Γ K14 K86 K l0 l1 l2 l3 (Gi g9 1287 l1) l1 g9) ∧ ((Gi g9 1286 l1) = 0 → Kd g9 a6 = 2 ∧ B_Po_judgeOf_158 Γ K14 K86 K l0 l1 l2 l3 (Gi g9 128 a6) l1 g9)))))))))
set_option maxHeartbeats 4000000 in
set_option maxRecDepth 100000 in
theorem S_Po_judgeOf_86 {Γ : GAM} {E : EV} {K : GH → Prop} (hE : GE Γ E cX4_judgeOf 5 RX4 none 1 25 (fun r g' => r = none ∧ K g')) {K14 : Nat → Nat → Int32 → Int32 → GH → Prop} {K86 : Nat → Nat → Int32 → Int32 → GH → Prop} (hK14 : ∀ (l0 : Nat) (l1 : Nat) (l2 : Int32) (l3 : Int32) (g : GH), K14 l0 l1 l2 l3 g → JW Γ E 14 [some (.ref l0), some (.ref l1), some (.int l2), some (.int l3), none] [] g) (hK86 : ∀ (l0 : Nat) (l1 : Nat) (l2 : Int32) (l3 : Int32) (g : GH), K86 l0 l1 l2 l3 g → JW Γ E 86 [some (.ref l0), some (.ref l1), some (.int l2), some (.int l3), none] [] g) (l0 : Nat) (l1 : Nat) (l2 : Int32) (l3 : Int32) (g : GH) (h : B_Po_judgeOf_86 Γ K14 K86 K l0 l1 l2 l3 g) : JW Γ E 86 [some (.ref l0), some (.ref l1), some (.int l2), some (.int l3), none] [] g := by
  unfold B_Po_judgeOf_86 at h
  refine j_iload_n hE (by decide +kernel : decode cX4_judgeOf 86 = .ok (.iload_n 3, 1)) rfl rfl ?_
  refine j_aload_n hE (by decide +kernel : decode cX4_judgeOf 87 = .ok (.aload_n 0, 1)) rfl rfl ?_
  obtain ⟨hk, h⟩ := h
  obtain ⟨a1, ha, h⟩ := h
  refine j_getRn hE fg_X4_31 hk ha (by decide +kernel : decode cX4_judgeOf 88 = .ok (.getfield 31, 3)) ?_
  obtain ⟨hk, h⟩ := h
  refine j_callV hE rfl cl_X4_34 cf_0 im_Jx4a65c_size_8abf5 se_Jx4a65c_size_8abf5 ⟨by omega, by omega⟩ (As := []) (rest := [.int l3]) rfl rfl (Nat.le_of_ble_eq_true rfl) hk (by decide +kernel : decode cX4_judgeOf 91 = .ok (.invokevirtual 34, 3)) (mt_AL_size _ _ _ h) ?_
  rintro _ g2 ⟨x3, rfl, h⟩
  refine j_icmp_ge hE (by decide +kernel : decode cX4_judgeOf 94 = .ok (.if_icmp .ge 83, 3)) (tgt := 177) (by decide) (fun q => ?_) (fun q => ?_)
  · have h := h.1 q
    exact j_vret hE (by decide +kernel : decode cX4_judgeOf 177 = .ok (.return_, 1)) ⟨rfl, h⟩
  · have h := h.2 q
    refine j_aload_n hE (by decide +kernel : decode cX4_judgeOf 97 = .ok (.aload_n 0, 1)) rfl rfl ?_
    obtain ⟨hk, h⟩ := h
    obtain ⟨a4, ha, h⟩ := h
    refine j_getRn hE fg_X4_31 hk ha (by decide +kernel : decode cX4_judgeOf 98 = .ok (.getfield 31, 3)) ?_
    refine j_iload_n hE (by decide +kernel : decode cX4_judgeOf 101 = .ok (.iload_n 3, 1)) rfl rfl ?_
    obtain ⟨hk, h⟩ := h
    refine j_callV hE rfl cl_X4_42 cf_0 im_Jx4a65c_get_915e3 se_Jx4a65c_get_915e3 ⟨by omega, by omega⟩ (As := [.int l3]) (rest := []) rfl rfl (Nat.le_of_ble_eq_true rfl) hk (by decide +kernel : decode cX4_judgeOf 102 = .ok (.invokevirtual 42, 3)) (mt_AL_get _ _ _ _ h) ?_
    rintro _ g5 ⟨a6, rfl, h⟩
    obtain ⟨hk, h⟩ := h
    refine j_cast hE cf_1 ck_X4_48 hk (by decide +kernel : decode cX4_judgeOf 105 = .ok (.checkcast 48, 3)) ?_
    refine j_astore hE (by decide +kernel : decode cX4_judgeOf 108 = .ok (.astore 4, 2)) (Nat.le_of_ble_eq_true rfl) rfl ?_
    refine j_aload hE (by decide +kernel : decode cX4_judgeOf 110 = .ok (.aload 4, 2)) rfl ?_
    refine j_aload_n hE (by decide +kernel : decode cX4_judgeOf 112 = .ok (.aload_n 1, 1)) rfl rfl ?_
    obtain ⟨hk, h⟩ := h
    refine j_getI hE fg_X4_113 hk (by decide +kernel : decode cX4_judgeOf 113 = .ok (.getfield 113, 3)) ?_
    obtain ⟨hk, h⟩ := h
    obtain ⟨g7, hg⟩ : ∃ z, z = sI g5 139 a6 (Gi g5 1286 l1) := ⟨_, rfl⟩; have h := h g7 hg
    refine j_putI hE fa_X4_116 hk (fun q => by cases q) (by decide +kernel : decode cX4_judgeOf 116 = .ok (.putfield 116, 3)) ?_
    rw [← hg]
    refine j_aload_n hE (by decide +kernel : decode cX4_judgeOf 119 = .ok (.aload_n 0, 1)) rfl rfl ?_
    obtain ⟨hk, h⟩ := h
    obtain ⟨a8, ha, h⟩ := h
    refine j_getRn hE fg_X4_27 hk ha (by decide +kernel : decode cX4_judgeOf 120 = .ok (.getfield 27, 3)) ?_
    refine j_aload hE (by decide +kernel : decode cX4_judgeOf 123 = .ok (.aload 4, 2)) rfl ?_
    refine j_iload_n hE (by decide +kernel : decode cX4_judgeOf 125 = .ok (.iload_n 2, 1)) rfl rfl ?_
    obtain ⟨hk, h⟩ := h
    refine j_callV hE rfl cl_X4_119 cf_3 im_X2_decide se_X2_decide ⟨by omega, by omega⟩ (As := [.ref a6, .int l2]) (rest := []) rfl rfl (Nat.le_of_ble_eq_true rfl) hk (by decide +kernel : decode cX4_judgeOf 126 = .ok (.invokevirtual 119, 3)) (mt_Ju_decide _ _ _ _ _ h) ?_
    rintro _ g9 ⟨rfl, h⟩
    refine j_aload hE (by decide +kernel : decode cX4_judgeOf 129 = .ok (.aload 4, 2)) rfl ?_
    obtain ⟨hk, h⟩ := h
    refine j_getI hE fg_X4_122 hk (by decide +kernel : decode cX4_judgeOf 131 = .ok (.getfield 122, 3)) ?_
    refine j_iconst hE (by decide +kernel : decode cX4_judgeOf 134 = .ok (.iconst 2, 1)) (v := (2 : Int32)) (by decide) ?_
    refine j_icmp_ne hE (by decide +kernel : decode cX4_judgeOf 135 = .ok (.if_icmp .ne 36, 3)) (tgt := 171) (by decide) (fun q => ?_) (fun q => ?_)
    · have h := h.1 q
      refine j_weak [some (.ref l0), some (.ref l1), some (.int l2), some (.int l3), none] ⟨rfl, ⟨rfl, ⟨rfl, ⟨rfl, trivial⟩⟩⟩⟩ ?_
      exact S_Po_judgeOf_171 hE hK14 hK86 _ _ _ _ _ h
    · have h := h.2 q
      refine j_aload_n hE (by decide +kernel : decode cX4_judgeOf 138 = .ok (.aload_n 1, 1)) rfl rfl ?_
      refine j_aload_n hE (by decide +kernel : decode cX4_judgeOf 139 = .ok (.aload_n 1, 1)) rfl rfl ?_
      obtain ⟨hk, h⟩ := h
      refine j_getI hE fg_X4_113 hk (by decide +kernel : decode cX4_judgeOf 140 = .ok (.getfield 113, 3)) ?_
      refine j_if_ne hE (by decide +kernel : decode cX4_judgeOf 143 = .ok (.ifCond .ne 11, 3)) (tgt := 154) (by decide) (fun q => ?_) (fun q => ?_)
      · have h := h.1 q
        refine j_aload_n hE (by decide +kernel : decode cX4_judgeOf 154 = .ok (.aload_n 1, 1)) rfl rfl ?_
        obtain ⟨hk, h⟩ := h
        refine j_getI hE fg_X4_128 hk (by decide +kernel : decode cX4_judgeOf 155 = .ok (.getfield 128, 3)) ?_
        refine j_weak [some (.ref l0), some (.ref l1), some (.int l2), some (.int l3), none] ⟨rfl, ⟨rfl, ⟨rfl, ⟨rfl, trivial⟩⟩⟩⟩ ?_
        exact S_Po_judgeOf_158 hE hK14 hK86 _ _ _ _ _ _ _ h
      · have h := h.2 q
        refine j_aload hE (by decide +kernel : decode cX4_judgeOf 146 = .ok (.aload 4, 2)) rfl ?_
        obtain ⟨hk, h⟩ := h
        refine j_getI hE fg_X4_125 hk (by decide +kernel : decode cX4_judgeOf 148 = .ok (.getfield 125, 3)) ?_
        refine j_goto hE (by decide +kernel : decode cX4_judgeOf 151 = .ok (.goto 7, 3)) (tgt := 158) (by decide) ?_
        refine j_weak [some (.ref l0), some (.ref l1), some (.int l2), some (.int l3), none] ⟨rfl, ⟨rfl, ⟨rfl, ⟨rfl, trivial⟩⟩⟩⟩ ?_
        exact S_Po_judgeOf_158 hE hK14 hK86 _ _ _ _ _ _ _ h
set_option maxRecDepth 100000 in
def B_Po_judgeOf_78 (Γ : GAM) (K14 : Nat → Nat → Int32 → Int32 → GH → Prop) (K86 : Nat → Nat → Int32 → Int32 → GH → Prop) (K : GH → Prop) (l0 : Nat) (l1 : Nat) (l2 : Int32) (l3 : Int32) (g : GH) : Prop :=
  K14 l0 l1 l2 (l3 + (1 : Int32)) g
set_option maxHeartbeats 4000000 in
set_option maxRecDepth 100000 in
theorem S_Po_judgeOf_78 {Γ : GAM} {E : EV} {K : GH → Prop} (hE : GE Γ E cX4_judgeOf 5 RX4 none 1 25 (fun r g' => r = none ∧ K g')) {K14 : Nat → Nat → Int32 → Int32 → GH → Prop} {K86 : Nat → Nat → Int32 → Int32 → GH → Prop} (hK14 : ∀ (l0 : Nat) (l1 : Nat) (l2 : Int32) (l3 : Int32) (g : GH), K14 l0 l1 l2 l3 g → JW Γ E 14 [some (.ref l0), some (.ref l1), some (.int l2), some (.int l3), none] [] g) (hK86 : ∀ (l0 : Nat) (l1 : Nat) (l2 : Int32) (l3 : Int32) (g : GH), K86 l0 l1 l2 l3 g → JW Γ E 86 [some (.ref l0), some (.ref l1), some (.int l2), some (.int l3), none] [] g) (l0 : Nat) (l1 : Nat) (l2 : Int32) (l3 : Int32) (g : GH) (h : B_Po_judgeOf_78 Γ K14 K86 K l0 l1 l2 l3 g) : JW Γ E 78 [some (.ref l0), some (.ref l1), some (.int l2), some (.int l3), none] [] g := by
  unfold B_Po_judgeOf_78 at h
  refine j_iinc hE (by decide +kernel : decode cX4_judgeOf 78 = .ok (.iinc 3 1, 3)) (v := (1 : Int32)) (by decide) rfl (Nat.le_of_ble_eq_true rfl) rfl ?_
  refine j_goto hE (by decide +kernel : decode cX4_judgeOf 81 = .ok (.goto (-67), 3)) (tgt := 14) (by decide) ?_
  exact hK14 _ _ _ _ _ h
set_option maxRecDepth 100000 in
def B_Po_judgeOf_14 (Γ : GAM) (K14 : Nat → Nat → Int32 → Int32 → GH → Prop) (K86 : Nat → Nat → Int32 → Int32 → GH → Prop) (K : GH → Prop) (l0 : Nat) (l1 : Nat) (l2 : Int32) (l3 : Int32) (g : GH) : Prop :=
  Kd g l1 = 11 ∧ ∃ a1 : Nat, Gr g 1284 l1 = some a1 ∧ Kd g a1 = 1 ∧ Sp_AL_size Γ a1 g (fun (x3 : Int32) (g2 : GH) => ((x3 ≤ l3 → K86 l0 l1 l2 (0 : Int32) g2) ∧ (¬ (x3 ≤ l3) → Kd g2 l1 = 11 ∧ ∃ a4 : Nat, Gr g2 1284 l1 = some a4 ∧ Kd g2 a4 = 1 ∧ Sp_AL_get Γ a4 l3 g2 (fun (a6 : Nat) (g5 : GH) => Kd g5 a6 = 2 ∧ Kd g5 a6 = 2 ∧ (((Gi g5 132 a6) ≤ l2 → Kd g5 l1 = 11 ∧ Kd g5 l1 = 11 ∧ ∀ g7 : GH, g7 = sI g5 1285 l1 ((Gi g5 1285 l1) + (1 : Int32)) → Kd g7 l0 = 6 ∧ Sp_Po_settle Γ l0 a6 l2 g7 (fun (g8 : GH) => Kd g8 l0 = 6 ∧ Sp_Po_putInOrder Γ l0 a6 g8 (fun (g9 : GH) => B_Po_judgeOf_78 Γ K14 K86 K l0 l1 l2 l3 g9))) ∧ (¬ ((Gi g5 132 a6) ≤ l2) → Kd g5 a6 = 2 ∧ Sp_En_forget Γ a6 g5 (fun (g10 : GH) => B_Po_judgeOf_78 Γ K14 K86 K l0 l1 l2 l3 g10)))))))
set_option maxHeartbeats 4000000 in
set_option maxRecDepth 100000 in
theorem S_Po_judgeOf_14 {Γ : GAM} {E : EV} {K : GH → Prop} (hE : GE Γ E cX4_judgeOf 5 RX4 none 1 25 (fun r g' => r = none ∧ K g')) {K14 : Nat → Nat → Int32 → Int32 → GH → Prop} {K86 : Nat → Nat → Int32 → Int32 → GH → Prop} (hK14 : ∀ (l0 : Nat) (l1 : Nat) (l2 : Int32) (l3 : Int32) (g : GH), K14 l0 l1 l2 l3 g → JW Γ E 14 [some (.ref l0), some (.ref l1), some (.int l2), some (.int l3), none] [] g) (hK86 : ∀ (l0 : Nat) (l1 : Nat) (l2 : Int32) (l3 : Int32) (g : GH), K86 l0 l1 l2 l3 g → JW Γ E 86 [some (.ref l0), some (.ref l1), some (.int l2), some (.int l3), none] [] g) (l0 : Nat) (l1 : Nat) (l2 : Int32) (l3 : Int32) (g : GH) (h : B_Po_judgeOf_14 Γ K14 K86 K l0 l1 l2 l3 g) : JW Γ E 14 [some (.ref l0), some (.ref l1), some (.int l2), some (.int l3), none] [] g := by
  unfold B_Po_judgeOf_14 at h
  refine j_iload_n hE (by decide +kernel : decode cX4_judgeOf 14 = .ok (.iload_n 3, 1)) rfl rfl ?_
  refine j_aload_n hE (by decide +kernel : decode cX4_judgeOf 15 = .ok (.aload_n 1, 1)) rfl rfl ?_
  obtain ⟨hk, h⟩ := h
  obtain ⟨a1, ha, h⟩ := h
  refine j_getRn hE fg_X4_102 hk ha (by decide +kernel : decode cX4_judgeOf 16 = .ok (.getfield 102, 3)) ?_
  obtain ⟨hk, h⟩ := h
  refine j_callV hE rfl cl_X4_34 cf_0 im_Jx4a65c_size_8abf5 se_Jx4a65c_size_8abf5 ⟨by omega, by omega⟩ (As := []) (rest := [.int l3]) rfl rfl (Nat.le_of_ble_eq_true rfl) hk (by decide +kernel : decode cX4_judgeOf 19 = .ok (.invokevirtual 34, 3)) (mt_AL_size _ _ _ h) ?_
  rintro _ g2 ⟨x3, rfl, h⟩
  refine j_icmp_ge hE (by decide +kernel : decode cX4_judgeOf 22 = .ok (.if_icmp .ge 62, 3)) (tgt := 84) (by decide) (fun q => ?_) (fun q => ?_)
  · have h := h.1 q
    refine j_iconst hE (by decide +kernel : decode cX4_judgeOf 84 = .ok (.iconst 0, 1)) (v := (0 : Int32)) (by decide) ?_
    refine j_istore_n hE (by decide +kernel : decode cX4_judgeOf 85 = .ok (.istore_n 3, 1)) rfl (Nat.le_of_ble_eq_true rfl) rfl ?_
    exact hK86 _ _ _ _ _ h
  · have h := h.2 q
    refine j_aload_n hE (by decide +kernel : decode cX4_judgeOf 25 = .ok (.aload_n 1, 1)) rfl rfl ?_
    obtain ⟨hk, h⟩ := h
    obtain ⟨a4, ha, h⟩ := h
    refine j_getRn hE fg_X4_102 hk ha (by decide +kernel : decode cX4_judgeOf 26 = .ok (.getfield 102, 3)) ?_
    refine j_iload_n hE (by decide +kernel : decode cX4_judgeOf 29 = .ok (.iload_n 3, 1)) rfl rfl ?_
    obtain ⟨hk, h⟩ := h
    refine j_callV hE rfl cl_X4_42 cf_0 im_Jx4a65c_get_915e3 se_Jx4a65c_get_915e3 ⟨by omega, by omega⟩ (As := [.int l3]) (rest := []) rfl rfl (Nat.le_of_ble_eq_true rfl) hk (by decide +kernel : decode cX4_judgeOf 30 = .ok (.invokevirtual 42, 3)) (mt_AL_get _ _ _ _ h) ?_
    rintro _ g5 ⟨a6, rfl, h⟩
    obtain ⟨hk, h⟩ := h
    refine j_cast hE cf_1 ck_X4_48 hk (by decide +kernel : decode cX4_judgeOf 33 = .ok (.checkcast 48, 3)) ?_
    refine j_astore hE (by decide +kernel : decode cX4_judgeOf 36 = .ok (.astore 4, 2)) (Nat.le_of_ble_eq_true rfl) rfl ?_
    refine j_aload hE (by decide +kernel : decode cX4_judgeOf 38 = .ok (.aload 4, 2)) rfl ?_
    obtain ⟨hk, h⟩ := h
    refine j_getI hE fg_X4_89 hk (by decide +kernel : decode cX4_judgeOf 40 = .ok (.getfield 89, 3)) ?_
    refine j_iload_n hE (by decide +kernel : decode cX4_judgeOf 43 = .ok (.iload_n 2, 1)) rfl rfl ?_
    refine j_icmp_le hE (by decide +kernel : decode cX4_judgeOf 44 = .ok (.if_icmp .le 11, 3)) (tgt := 55) (by decide) (fun q => ?_) (fun q => ?_)
    · have h := h.1 q
      refine j_aload_n hE (by decide +kernel : decode cX4_judgeOf 55 = .ok (.aload_n 1, 1)) rfl rfl ?_
      refine j_dup hE (by decide +kernel : decode cX4_judgeOf 56 = .ok (.dup, 1)) rfl ?_
      obtain ⟨hk, h⟩ := h
      refine j_getI hE fg_X4_106 hk (by decide +kernel : decode cX4_judgeOf 57 = .ok (.getfield 106, 3)) ?_
      refine j_iconst hE (by decide +kernel : decode cX4_judgeOf 60 = .ok (.iconst 1, 1)) (v := (1 : Int32)) (by decide) ?_
      refine j_iadd hE (by decide +kernel : decode cX4_judgeOf 61 = .ok (.iadd, 1)) ?_
      obtain ⟨hk, h⟩ := h
      obtain ⟨g7, hg⟩ : ∃ z, z = sI g5 1285 l1 ((Gi g5 1285 l1) + (1 : Int32)) := ⟨_, rfl⟩; have h := h g7 hg
      refine j_putI hE fa_X4_106 hk (fun q => by cases q) (by decide +kernel : decode cX4_judgeOf 62 = .ok (.putfield 106, 3)) ?_
      rw [← hg]
      refine j_aload_n hE (by decide +kernel : decode cX4_judgeOf 65 = .ok (.aload_n 0, 1)) rfl rfl ?_
      refine j_aload hE (by decide +kernel : decode cX4_judgeOf 66 = .ok (.aload 4, 2)) rfl ?_
      refine j_iload_n hE (by decide +kernel : decode cX4_judgeOf 68 = .ok (.iload_n 2, 1)) rfl rfl ?_
      obtain ⟨hk, h⟩ := h
      refine j_callV hE rfl cl_X4_90 cf_5 im_X4_settle se_X4_settle ⟨by omega, by omega⟩ (As := [.ref a6, .int l2]) (rest := []) rfl rfl (Nat.le_of_ble_eq_true rfl) hk (by decide +kernel : decode cX4_judgeOf 69 = .ok (.invokevirtual 90, 3)) (mt_Po_settle _ _ _ _ _ h) ?_
      rintro _ g8 ⟨rfl, h⟩
      refine j_aload_n hE (by decide +kernel : decode cX4_judgeOf 72 = .ok (.aload_n 0, 1)) rfl rfl ?_
      refine j_aload hE (by decide +kernel : decode cX4_judgeOf 73 = .ok (.aload 4, 2)) rfl ?_
      obtain ⟨hk, h⟩ := h
      refine j_callV hE rfl cl_X4_109 cf_5 im_X4_putInOrder se_X4_putInOrder ⟨by omega, by omega⟩ (As := [.ref a6]) (rest := []) rfl rfl (Nat.le_of_ble_eq_true rfl) hk (by decide +kernel : decode cX4_judgeOf 75 = .ok (.invokevirtual 109, 3)) (mt_Po_putInOrder _ _ _ _ h) ?_
      rintro _ g9 ⟨rfl, h⟩
      refine j_weak [some (.ref l0), some (.ref l1), some (.int l2), some (.int l3), none] ⟨rfl, ⟨rfl, ⟨rfl, ⟨rfl, trivial⟩⟩⟩⟩ ?_
      exact S_Po_judgeOf_78 hE hK14 hK86 _ _ _ _ _ h
    · have h := h.2 q
      refine j_aload hE (by decide +kernel : decode cX4_judgeOf 47 = .ok (.aload 4, 2)) rfl ?_
      obtain ⟨hk, h⟩ := h
      refine j_callV hE rfl cl_X4_103 cf_1 im_X0_forget se_X0_forget ⟨by omega, by omega⟩ (As := []) (rest := []) rfl rfl (Nat.le_of_ble_eq_true rfl) hk (by decide +kernel : decode cX4_judgeOf 49 = .ok (.invokevirtual 103, 3)) (mt_En_forget _ _ _ h) ?_
      rintro _ g10 ⟨rfl, h⟩
      refine j_goto hE (by decide +kernel : decode cX4_judgeOf 52 = .ok (.goto 26, 3)) (tgt := 78) (by decide) ?_
      refine j_weak [some (.ref l0), some (.ref l1), some (.int l2), some (.int l3), none] ⟨rfl, ⟨rfl, ⟨rfl, ⟨rfl, trivial⟩⟩⟩⟩ ?_
      exact S_Po_judgeOf_78 hE hK14 hK86 _ _ _ _ _ h
set_option maxRecDepth 100000 in
def B_Po_judgeOf_0 (Γ : GAM) (K14 : Nat → Nat → Int32 → Int32 → GH → Prop) (K86 : Nat → Nat → Int32 → Int32 → GH → Prop) (K : GH → Prop) (th : Nat) (p0 : Nat) (p1 : Int32) (g : GH) : Prop :=
  Kd g p0 = 11 ∧ Sp_Vo_learn Γ p0 p1 g (fun (g1 : GH) => Kd g1 th = 6 ∧ ∃ a2 : Nat, Gr g1 644 th = some a2 ∧ Kd g1 a2 = 1 ∧ Sp_AL_clear Γ a2 g1 (fun (g3 : GH) => K14 th p0 p1 (0 : Int32) g3))
set_option maxHeartbeats 4000000 in
set_option maxRecDepth 100000 in
theorem S_Po_judgeOf_0 {Γ : GAM} {E : EV} {K : GH → Prop} (hE : GE Γ E cX4_judgeOf 5 RX4 none 1 25 (fun r g' => r = none ∧ K g')) {K14 : Nat → Nat → Int32 → Int32 → GH → Prop} {K86 : Nat → Nat → Int32 → Int32 → GH → Prop} (hK14 : ∀ (l0 : Nat) (l1 : Nat) (l2 : Int32) (l3 : Int32) (g : GH), K14 l0 l1 l2 l3 g → JW Γ E 14 [some (.ref l0), some (.ref l1), some (.int l2), some (.int l3), none] [] g) (hK86 : ∀ (l0 : Nat) (l1 : Nat) (l2 : Int32) (l3 : Int32) (g : GH), K86 l0 l1 l2 l3 g → JW Γ E 86 [some (.ref l0), some (.ref l1), some (.int l2), some (.int l3), none] [] g) (th : Nat) (p0 : Nat) (p1 : Int32) (g : GH) (h : B_Po_judgeOf_0 Γ K14 K86 K th p0 p1 g) : JW Γ E 0 [some (.ref th), some (.ref p0), some (.int p1), none, none] [] g := by
  unfold B_Po_judgeOf_0 at h
  refine j_aload_n hE (by decide +kernel : decode cX4_judgeOf 0 = .ok (.aload_n 1, 1)) rfl rfl ?_
  refine j_iload_n hE (by decide +kernel : decode cX4_judgeOf 1 = .ok (.iload_n 2, 1)) rfl rfl ?_
  obtain ⟨hk, h⟩ := h
  refine j_callV hE rfl cl_X4_98 cf_10 im_X9_learn se_X9_learn ⟨by omega, by omega⟩ (As := [.int p1]) (rest := []) rfl rfl (Nat.le_of_ble_eq_true rfl) hk (by decide +kernel : decode cX4_judgeOf 2 = .ok (.invokevirtual 98, 3)) (mt_Vo_learn _ _ _ _ h) ?_
  rintro _ g1 ⟨rfl, h⟩
  refine j_aload_n hE (by decide +kernel : decode cX4_judgeOf 5 = .ok (.aload_n 0, 1)) rfl rfl ?_
  obtain ⟨hk, h⟩ := h
  obtain ⟨a2, ha, h⟩ := h
  refine j_getRn hE fg_X4_31 hk ha (by decide +kernel : decode cX4_judgeOf 6 = .ok (.getfield 31, 3)) ?_
  obtain ⟨hk, h⟩ := h
  refine j_callV hE rfl cl_X4_99 cf_0 im_Jx4a65c_clear_da8c8 se_Jx4a65c_clear_da8c8 ⟨by omega, by omega⟩ (As := []) (rest := []) rfl rfl (Nat.le_of_ble_eq_true rfl) hk (by decide +kernel : decode cX4_judgeOf 9 = .ok (.invokevirtual 99, 3)) (mt_AL_clear _ _ _ h) ?_
  rintro _ g3 ⟨rfl, h⟩
  refine j_iconst hE (by decide +kernel : decode cX4_judgeOf 12 = .ok (.iconst 0, 1)) (v := (0 : Int32)) (by decide) ?_
  refine j_istore_n hE (by decide +kernel : decode cX4_judgeOf 13 = .ok (.istore_n 3, 1)) rfl (Nat.le_of_ble_eq_true rfl) rfl ?_
  exact hK14 _ _ _ _ _ h
set_option maxHeartbeats 4000000 in
set_option maxRecDepth 100000 in
theorem rl_Po_judgeOf {Γ : GAM} {l : Launch} {th : Nat} {p0 : Nat} {p1 : Int32} {g : GH} {K : GH → Prop} (I14 : Nat → Nat → Nat → Int32 → Int32 → GH → Prop) (I86 : Nat → Nat → Nat → Int32 → Int32 → GH → Prop) (hh14 : ∀ n (l0 : Nat) (l1 : Nat) (l2 : Int32) (l3 : Int32) (g : GH), I14 n l0 l1 l2 l3 g → B_Po_judgeOf_14 Γ (fun l0 l1 l2 l3 g => ∃ m, m < n ∧ I14 m l0 l1 l2 l3 g) (fun l0 l1 l2 l3 g => ∃ m, m < n ∧ I86 m l0 l1 l2 l3 g) K l0 l1 l2 l3 g) (hh86 : ∀ n (l0 : Nat) (l1 : Nat) (l2 : Int32) (l3 : Int32) (g : GH), I86 n l0 l1 l2 l3 g → B_Po_judgeOf_86 Γ (fun l0 l1 l2 l3 g => ∃ m, m < n ∧ I14 m l0 l1 l2 l3 g) (fun l0 l1 l2 l3 g => ∃ m, m < n ∧ I86 m l0 l1 l2 l3 g) K l0 l1 l2 l3 g) (h0 : B_Po_judgeOf_0 Γ (fun l0 l1 l2 l3 g => ∃ m, I14 m l0 l1 l2 l3 g) (fun l0 l1 l2 l3 g => ∃ m, I86 m l0 l1 l2 l3 g) K th p0 p1 g) : MetA Γ l yX4_judgeOf cX4_judgeOf 5 none 1 25 [.ref th, .ref p0, .int p1] g (fun r g' => r = none ∧ K g') := by
  refine MetA.introL (Lx := [some (.ref th), some (.ref p0), some (.int p1), none, none]) (by decide) (Nat.le_of_ble_eq_true rfl) rfl rfl ?_
  intro E hEl hE hnm
  have hall : ∀ n, (∀ (l0 : Nat) (l1 : Nat) (l2 : Int32) (l3 : Int32) (g : GH), I14 n l0 l1 l2 l3 g → JW Γ E 14 [some (.ref l0), some (.ref l1), some (.int l2), some (.int l3), none] [] g) ∧ (∀ (l0 : Nat) (l1 : Nat) (l2 : Int32) (l3 : Int32) (g : GH), I86 n l0 l1 l2 l3 g → JW Γ E 86 [some (.ref l0), some (.ref l1), some (.int l2), some (.int l3), none] [] g) := by
    intro n
    induction n using Nat.strongRecOn with
    | ind n ih =>
      exact ⟨fun l0 l1 l2 l3 g hi => S_Po_judgeOf_14 hE (fun l0 l1 l2 l3 g hm => by obtain ⟨m, hm, h⟩ := hm; exact (ih m hm).1 l0 l1 l2 l3 g h) (fun l0 l1 l2 l3 g hm => by obtain ⟨m, hm, h⟩ := hm; exact (ih m hm).2 l0 l1 l2 l3 g h) l0 l1 l2 l3 g (hh14 n l0 l1 l2 l3 g hi), fun l0 l1 l2 l3 g hi => S_Po_judgeOf_86 hE (fun l0 l1 l2 l3 g hm => by obtain ⟨m, hm, h⟩ := hm; exact (ih m hm).1 l0 l1 l2 l3 g h) (fun l0 l1 l2 l3 g hm => by obtain ⟨m, hm, h⟩ := hm; exact (ih m hm).2 l0 l1 l2 l3 g h) l0 l1 l2 l3 g (hh86 n l0 l1 l2 l3 g hi)⟩
  exact S_Po_judgeOf_0 hE (fun l0 l1 l2 l3 g hm => by obtain ⟨m, h⟩ := hm; exact (hall m).1 l0 l1 l2 l3 g h) (fun l0 l1 l2 l3 g hm => by obtain ⟨m, h⟩ := hm; exact (hall m).2 l0 l1 l2 l3 g h) th p0 p1 g h0
def Sp_AL_add_i0 (Γ : GAM) (q0 : Nat) (q1 : Int32) (q2 : Nat) (g : GH) (K : GH → Prop) : Prop := False
theorem mt_AL_add_i0 {Γ : GAM} {l : Launch} (q0 : Nat) (q1 : Int32) (q2 : Nat) (g : GH) (K : GH → Prop) (h : Sp_AL_add_i0 Γ q0 q1 q2 g K) : MetA Γ l yJx4a65c_add_7a177 cJx4a65c_add_7a177 5 none 0 0 [.ref q0, .int q1, .ref q2] g (fun r g' => r = none ∧ K g') := h.elim
-- the walk of Po_putInOrder
set_option maxRecDepth 100000 in
def B_Po_putInOrder_69 (Γ : GAM) (K36 : Nat → Nat → Int32 → GH → Prop) (K : GH → Prop) (l0 : Nat) (l1 : Nat) (l2 : Int32) (g : GH) : Prop :=
  Kd g l0 = 6 ∧ ∃ a1 : Nat, Gr g 644 l0 = some a1 ∧ Kd g a1 = 1 ∧ Sp_AL_add_i0 Γ a1 l2 l1 g (fun (g2 : GH) => K g2)
set_option maxHeartbeats 4000000 in
set_option maxRecDepth 100000 in
theorem S_Po_putInOrder_69 {Γ : GAM} {E : EV} {K : GH → Prop} (hE : GE Γ E cX4_putInOrder 3 RX4 none 1 24 (fun r g' => r = none ∧ K g')) {K36 : Nat → Nat → Int32 → GH → Prop} (hK36 : ∀ (l0 : Nat) (l1 : Nat) (l2 : Int32) (g : GH), K36 l0 l1 l2 g → JW Γ E 36 [some (.ref l0), some (.ref l1), some (.int l2)] [] g) (l0 : Nat) (l1 : Nat) (l2 : Int32) (g : GH) (h : B_Po_putInOrder_69 Γ K36 K l0 l1 l2 g) : JW Γ E 69 [some (.ref l0), some (.ref l1), some (.int l2)] [] g := by
  unfold B_Po_putInOrder_69 at h
  refine j_aload_n hE (by decide +kernel : decode cX4_putInOrder 69 = .ok (.aload_n 0, 1)) rfl rfl ?_
  obtain ⟨hk, h⟩ := h
  obtain ⟨a1, ha, h⟩ := h
  refine j_getRn hE fg_X4_31 hk ha (by decide +kernel : decode cX4_putInOrder 70 = .ok (.getfield 31, 3)) ?_
  refine j_iload_n hE (by decide +kernel : decode cX4_putInOrder 73 = .ok (.iload_n 2, 1)) rfl rfl ?_
  refine j_aload_n hE (by decide +kernel : decode cX4_putInOrder 74 = .ok (.aload_n 1, 1)) rfl rfl ?_
  obtain ⟨hk, h⟩ := h
  refine j_callV hE rfl cl_X4_131 cf_0 im_Jx4a65c_add_7a177 se_Jx4a65c_add_7a177 ⟨by omega, by omega⟩ (As := [.int l2, .ref l1]) (rest := []) rfl rfl (Nat.le_of_ble_eq_true rfl) hk (by decide +kernel : decode cX4_putInOrder 75 = .ok (.invokevirtual 131, 3)) (mt_AL_add_i0 _ _ _ _ _ h) ?_
  rintro _ g2 ⟨rfl, h⟩
  exact j_vret hE (by decide +kernel : decode cX4_putInOrder 78 = .ok (.return_, 1)) ⟨rfl, h⟩
set_option maxRecDepth 100000 in
def B_Po_putInOrder_36 (Γ : GAM) (K36 : Nat → Nat → Int32 → GH → Prop) (K : GH → Prop) (l0 : Nat) (l1 : Nat) (l2 : Int32) (g : GH) : Prop :=
  ((l2 ≤ 0 → B_Po_putInOrder_69 Γ K36 K l0 l1 l2 g) ∧ (¬ (l2 ≤ 0) → Kd g l0 = 6 ∧ ∃ a1 : Nat, Gr g 644 l0 = some a1 ∧ Kd g a1 = 1 ∧ Sp_AL_get Γ a1 (l2 - (1 : Int32)) g (fun (a3 : Nat) (g2 : GH) => Kd g2 a3 = 2 ∧ Kd g2 a3 = 2 ∧ Kd g2 l1 = 2 ∧ (((Gi g2 137 a3) ≤ (Gi g2 137 l1) → B_Po_putInOrder_69 Γ K36 K l0 l1 l2 g2) ∧ (¬ ((Gi g2 137 a3) ≤ (Gi g2 137 l1)) → K36 l0 l1 (l2 + (-1 : Int32)) g2)))))
set_option maxHeartbeats 4000000 in
set_option maxRecDepth 100000 in
theorem S_Po_putInOrder_36 {Γ : GAM} {E : EV} {K : GH → Prop} (hE : GE Γ E cX4_putInOrder 3 RX4 none 1 24 (fun r g' => r = none ∧ K g')) {K36 : Nat → Nat → Int32 → GH → Prop} (hK36 : ∀ (l0 : Nat) (l1 : Nat) (l2 : Int32) (g : GH), K36 l0 l1 l2 g → JW Γ E 36 [some (.ref l0), some (.ref l1), some (.int l2)] [] g) (l0 : Nat) (l1 : Nat) (l2 : Int32) (g : GH) (h : B_Po_putInOrder_36 Γ K36 K l0 l1 l2 g) : JW Γ E 36 [some (.ref l0), some (.ref l1), some (.int l2)] [] g := by
  unfold B_Po_putInOrder_36 at h
  refine j_iload_n hE (by decide +kernel : decode cX4_putInOrder 36 = .ok (.iload_n 2, 1)) rfl rfl ?_
  refine j_if_le hE (by decide +kernel : decode cX4_putInOrder 37 = .ok (.ifCond .le 32, 3)) (tgt := 69) (by decide) (fun q => ?_) (fun q => ?_)
  · have h := h.1 q
    exact S_Po_putInOrder_69 hE hK36 _ _ _ _ h
  · have h := h.2 q
    refine j_aload_n hE (by decide +kernel : decode cX4_putInOrder 40 = .ok (.aload_n 0, 1)) rfl rfl ?_
    obtain ⟨hk, h⟩ := h
    obtain ⟨a1, ha, h⟩ := h
    refine j_getRn hE fg_X4_31 hk ha (by decide +kernel : decode cX4_putInOrder 41 = .ok (.getfield 31, 3)) ?_
    refine j_iload_n hE (by decide +kernel : decode cX4_putInOrder 44 = .ok (.iload_n 2, 1)) rfl rfl ?_
    refine j_iconst hE (by decide +kernel : decode cX4_putInOrder 45 = .ok (.iconst 1, 1)) (v := (1 : Int32)) (by decide) ?_
    refine j_isub hE (by decide +kernel : decode cX4_putInOrder 46 = .ok (.isub, 1)) ?_
    obtain ⟨hk, h⟩ := h
    refine j_callV hE rfl cl_X4_42 cf_0 im_Jx4a65c_get_915e3 se_Jx4a65c_get_915e3 ⟨by omega, by omega⟩ (As := [.int (l2 - (1 : Int32))]) (rest := []) rfl rfl (Nat.le_of_ble_eq_true rfl) hk (by decide +kernel : decode cX4_putInOrder 47 = .ok (.invokevirtual 42, 3)) (mt_AL_get _ _ _ _ h) ?_
    rintro _ g2 ⟨a3, rfl, h⟩
    obtain ⟨hk, h⟩ := h
    refine j_cast hE cf_1 ck_X4_48 hk (by decide +kernel : decode cX4_putInOrder 50 = .ok (.checkcast 48, 3)) ?_
    obtain ⟨hk, h⟩ := h
    refine j_getI hE fg_X4_58 hk (by decide +kernel : decode cX4_putInOrder 53 = .ok (.getfield 58, 3)) ?_
    refine j_aload_n hE (by decide +kernel : decode cX4_putInOrder 56 = .ok (.aload_n 1, 1)) rfl rfl ?_
    obtain ⟨hk, h⟩ := h
    refine j_getI hE fg_X4_58 hk (by decide +kernel : decode cX4_putInOrder 57 = .ok (.getfield 58, 3)) ?_
    refine j_icmp_le hE (by decide +kernel : decode cX4_putInOrder 60 = .ok (.if_icmp .le 9, 3)) (tgt := 69) (by decide) (fun q => ?_) (fun q => ?_)
    · have h := h.1 q
      exact S_Po_putInOrder_69 hE hK36 _ _ _ _ h
    · have h := h.2 q
      refine j_iinc hE (by decide +kernel : decode cX4_putInOrder 63 = .ok (.iinc 2 (-1), 3)) (v := (-1 : Int32)) (by decide) rfl (Nat.le_of_ble_eq_true rfl) rfl ?_
      refine j_goto hE (by decide +kernel : decode cX4_putInOrder 66 = .ok (.goto (-30), 3)) (tgt := 36) (by decide) ?_
      exact hK36 _ _ _ _ h
set_option maxRecDepth 100000 in
def B_Po_putInOrder_24 (Γ : GAM) (K36 : Nat → Nat → Int32 → GH → Prop) (K : GH → Prop) (s0 : Int32) (s1 : Nat) (g : GH) : Prop :=
  Kd g s1 = 2 ∧ ∀ g1 : GH, g1 = sI g 140 s1 s0 → K g1
set_option maxHeartbeats 4000000 in
set_option maxRecDepth 100000 in
theorem S_Po_putInOrder_24 {Γ : GAM} {E : EV} {K : GH → Prop} (hE : GE Γ E cX4_putInOrder 3 RX4 none 1 24 (fun r g' => r = none ∧ K g')) {K36 : Nat → Nat → Int32 → GH → Prop} (hK36 : ∀ (l0 : Nat) (l1 : Nat) (l2 : Int32) (g : GH), K36 l0 l1 l2 g → JW Γ E 36 [some (.ref l0), some (.ref l1), some (.int l2)] [] g) (s0 : Int32) (s1 : Nat) (g : GH) (h : B_Po_putInOrder_24 Γ K36 K s0 s1 g) : JW Γ E 24 [none, none, none] [.int s0, .ref s1] g := by
  unfold B_Po_putInOrder_24 at h
  obtain ⟨hk, h⟩ := h
  obtain ⟨g1, hg⟩ : ∃ z, z = sI g 140 s1 s0 := ⟨_, rfl⟩; have h := h g1 hg
  refine j_putI hE fa_X4_122 hk (fun q => by cases q) (by decide +kernel : decode cX4_putInOrder 24 = .ok (.putfield 122, 3)) ?_
  rw [← hg]
  exact j_vret hE (by decide +kernel : decode cX4_putInOrder 27 = .ok (.return_, 1)) ⟨rfl, h⟩
set_option maxRecDepth 100000 in
def B_Po_putInOrder_0 (Γ : GAM) (K36 : Nat → Nat → Int32 → GH → Prop) (K : GH → Prop) (th : Nat) (p0 : Nat) (g : GH) : Prop :=
  Kd g p0 = 2 ∧ ((¬ ((Gi g 137 p0) = (-1 : Int32)) → Kd g th = 6 ∧ ∃ a1 : Nat, Gr g 644 th = some a1 ∧ Kd g a1 = 1 ∧ Sp_AL_size Γ a1 g (fun (x3 : Int32) (g2 : GH) => K36 th p0 x3 g2)) ∧ ((Gi g 137 p0) = (-1 : Int32) → Kd g p0 = 2 ∧ ∃ a4 : Nat, Gr g 135 p0 = some a4 ∧ Kd g a4 = 20 ∧ inB (4 : Int32) (Ln g a4) ∧ ((¬ ((Ia g (Co g a4) (Ow g a4) (4 : Int32).toNatClampNeg) = (-1 : Int32)) → B_Po_putInOrder_24 Γ K36 K (1 : Int32) p0 g) ∧ ((Ia g (Co g a4) (Ow g a4) (4 : Int32).toNatClampNeg) = (-1 : Int32) → B_Po_putInOrder_24 Γ K36 K (0 : Int32) p0 g))))
set_option maxHeartbeats 4000000 in
set_option maxRecDepth 100000 in
theorem S_Po_putInOrder_0 {Γ : GAM} {E : EV} {K : GH → Prop} (hE : GE Γ E cX4_putInOrder 3 RX4 none 1 24 (fun r g' => r = none ∧ K g')) {K36 : Nat → Nat → Int32 → GH → Prop} (hK36 : ∀ (l0 : Nat) (l1 : Nat) (l2 : Int32) (g : GH), K36 l0 l1 l2 g → JW Γ E 36 [some (.ref l0), some (.ref l1), some (.int l2)] [] g) (th : Nat) (p0 : Nat) (g : GH) (h : B_Po_putInOrder_0 Γ K36 K th p0 g) : JW Γ E 0 [some (.ref th), some (.ref p0), none] [] g := by
  unfold B_Po_putInOrder_0 at h
  refine j_aload_n hE (by decide +kernel : decode cX4_putInOrder 0 = .ok (.aload_n 1, 1)) rfl rfl ?_
  obtain ⟨hk, h⟩ := h
  refine j_getI hE fg_X4_58 hk (by decide +kernel : decode cX4_putInOrder 1 = .ok (.getfield 58, 3)) ?_
  refine j_iconst hE (by decide +kernel : decode cX4_putInOrder 4 = .ok (.iconst (-1), 1)) (v := (-1 : Int32)) (by decide) ?_
  refine j_icmp_ne hE (by decide +kernel : decode cX4_putInOrder 5 = .ok (.if_icmp .ne 23, 3)) (tgt := 28) (by decide) (fun q => ?_) (fun q => ?_)
  · have h := h.1 q
    refine j_aload_n hE (by decide +kernel : decode cX4_putInOrder 28 = .ok (.aload_n 0, 1)) rfl rfl ?_
    obtain ⟨hk, h⟩ := h
    obtain ⟨a1, ha, h⟩ := h
    refine j_getRn hE fg_X4_31 hk ha (by decide +kernel : decode cX4_putInOrder 29 = .ok (.getfield 31, 3)) ?_
    obtain ⟨hk, h⟩ := h
    refine j_callV hE rfl cl_X4_34 cf_0 im_Jx4a65c_size_8abf5 se_Jx4a65c_size_8abf5 ⟨by omega, by omega⟩ (As := []) (rest := []) rfl rfl (Nat.le_of_ble_eq_true rfl) hk (by decide +kernel : decode cX4_putInOrder 32 = .ok (.invokevirtual 34, 3)) (mt_AL_size _ _ _ h) ?_
    rintro _ g2 ⟨x3, rfl, h⟩
    refine j_istore_n hE (by decide +kernel : decode cX4_putInOrder 35 = .ok (.istore_n 2, 1)) rfl (Nat.le_of_ble_eq_true rfl) rfl ?_
    exact hK36 _ _ _ _ h
  · have h := h.2 q
    refine j_aload_n hE (by decide +kernel : decode cX4_putInOrder 8 = .ok (.aload_n 1, 1)) rfl rfl ?_
    refine j_aload_n hE (by decide +kernel : decode cX4_putInOrder 9 = .ok (.aload_n 1, 1)) rfl rfl ?_
    obtain ⟨hk, h⟩ := h
    obtain ⟨a4, ha, h⟩ := h
    refine j_getRn hE fg_X4_54 hk ha (by decide +kernel : decode cX4_putInOrder 10 = .ok (.getfield 54, 3)) ?_
    refine j_iconst hE (by decide +kernel : decode cX4_putInOrder 13 = .ok (.iconst 4, 1)) (v := (4 : Int32)) (by decide) ?_
    obtain ⟨hk, hb, h⟩ := h
    refine j_iald hE hk hb (by decide +kernel : decode cX4_putInOrder 14 = .ok (.iaload, 1)) ?_
    refine j_iconst hE (by decide +kernel : decode cX4_putInOrder 15 = .ok (.iconst (-1), 1)) (v := (-1 : Int32)) (by decide) ?_
    refine j_icmp_ne hE (by decide +kernel : decode cX4_putInOrder 16 = .ok (.if_icmp .ne 7, 3)) (tgt := 23) (by decide) (fun q => ?_) (fun q => ?_)
    · have h := h.1 q
      refine j_iconst hE (by decide +kernel : decode cX4_putInOrder 23 = .ok (.iconst 1, 1)) (v := (1 : Int32)) (by decide) ?_
      refine j_weak [none, none, none] trivial ?_
      exact S_Po_putInOrder_24 hE hK36 _ _ _ h
    · have h := h.2 q
      refine j_iconst hE (by decide +kernel : decode cX4_putInOrder 19 = .ok (.iconst 0, 1)) (v := (0 : Int32)) (by decide) ?_
      refine j_goto hE (by decide +kernel : decode cX4_putInOrder 20 = .ok (.goto 4, 3)) (tgt := 24) (by decide) ?_
      refine j_weak [none, none, none] trivial ?_
      exact S_Po_putInOrder_24 hE hK36 _ _ _ h
set_option maxHeartbeats 4000000 in
set_option maxRecDepth 100000 in
theorem rl_Po_putInOrder {Γ : GAM} {l : Launch} {th : Nat} {p0 : Nat} {g : GH} {K : GH → Prop} (I36 : Nat → Nat → Nat → Int32 → GH → Prop) (hh36 : ∀ n (l0 : Nat) (l1 : Nat) (l2 : Int32) (g : GH), I36 n l0 l1 l2 g → B_Po_putInOrder_36 Γ (fun l0 l1 l2 g => ∃ m, m < n ∧ I36 m l0 l1 l2 g) K l0 l1 l2 g) (h0 : B_Po_putInOrder_0 Γ (fun l0 l1 l2 g => ∃ m, I36 m l0 l1 l2 g) K th p0 g) : MetA Γ l yX4_putInOrder cX4_putInOrder 3 none 1 24 [.ref th, .ref p0] g (fun r g' => r = none ∧ K g') := by
  refine MetA.introL (Lx := [some (.ref th), some (.ref p0), none]) (by decide) (Nat.le_of_ble_eq_true rfl) rfl rfl ?_
  intro E hEl hE hnm
  have hall : ∀ n, (∀ (l0 : Nat) (l1 : Nat) (l2 : Int32) (g : GH), I36 n l0 l1 l2 g → JW Γ E 36 [some (.ref l0), some (.ref l1), some (.int l2)] [] g) := by
    intro n
    induction n using Nat.strongRecOn with
    | ind n ih =>
      exact fun l0 l1 l2 g hi => S_Po_putInOrder_36 hE (fun l0 l1 l2 g hm => by obtain ⟨m, hm, h⟩ := hm; exact (ih m hm) l0 l1 l2 g h) l0 l1 l2 g (hh36 n l0 l1 l2 g hi)
  exact S_Po_putInOrder_0 hE (fun l0 l1 l2 g hm => by obtain ⟨m, h⟩ := hm; exact (hall m) l0 l1 l2 g h) th p0 g h0
def Sp_En_doublesOf (Γ : GAM) (q0 : Nat) (q1 : Int32) (q2 : Int32) (g : GH) (K : Int32 → GH → Prop) : Prop := False
theorem mt_En_doublesOf {Γ : GAM} {l : Launch} (q0 : Nat) (q1 : Int32) (q2 : Int32) (g : GH) (K : Int32 → GH → Prop) (h : Sp_En_doublesOf Γ q0 q1 q2 g K) : MetA Γ l yX0_doublesOf cX0_doublesOf 5 (some (.int)) 0 0 [.ref q0, .int q1, .int q2] g (fun r g' => ∃ x, r = some (.int x) ∧ K x g') := h.elim
-- the walk of Po_doublesOf
set_option maxRecDepth 100000 in
def B_Po_doublesOf_68 (Γ : GAM) (K6 : Nat → Int32 → Int32 → Int32 → Int32 → Int32 → Int32 → GH → Prop) (K : Int32 → GH → Prop) (l0 : Nat) (l1 : Int32) (l2 : Int32) (l3 : Int32) (l4 : Int32) (l5 : Int32) (l6 : Int32) (g : GH) : Prop :=
  K6 l0 l1 l2 l3 l4 l5 (l6 + (1 : Int32)) g
set_option maxHeartbeats 4000000 in
set_option maxRecDepth 100000 in
theorem S_Po_doublesOf_68 {Γ : GAM} {E : EV} {K : Int32 → GH → Prop} (hE : GE Γ E cX4_doublesOf 8 RX4 (some (.int)) 1 24 (fun r g' => ∃ x, r = some (.int x) ∧ K x g')) {K6 : Nat → Int32 → Int32 → Int32 → Int32 → Int32 → Int32 → GH → Prop} (hK6 : ∀ (l0 : Nat) (l1 : Int32) (l2 : Int32) (l3 : Int32) (l4 : Int32) (l5 : Int32) (l6 : Int32) (g : GH), K6 l0 l1 l2 l3 l4 l5 l6 g → JW Γ E 6 [some (.ref l0), some (.int l1), some (.int l2), some (.int l3), some (.int l4), some (.int l5), some (.int l6), none] [] g) (l0 : Nat) (l1 : Int32) (l2 : Int32) (l3 : Int32) (l4 : Int32) (l5 : Int32) (l6 : Int32) (g : GH) (h : B_Po_doublesOf_68 Γ K6 K l0 l1 l2 l3 l4 l5 l6 g) : JW Γ E 68 [some (.ref l0), some (.int l1), some (.int l2), some (.int l3), some (.int l4), some (.int l5), some (.int l6), none] [] g := by
  unfold B_Po_doublesOf_68 at h
  refine j_iinc hE (by decide +kernel : decode cX4_doublesOf 68 = .ok (.iinc 6 1, 3)) (v := (1 : Int32)) (by decide) rfl (Nat.le_of_ble_eq_true rfl) rfl ?_
  refine j_goto hE (by decide +kernel : decode cX4_doublesOf 71 = .ok (.goto (-65), 3)) (tgt := 6) (by decide) ?_
  exact hK6 _ _ _ _ _ _ _ _ h
set_option maxRecDepth 100000 in
def B_Po_doublesOf_49 (Γ : GAM) (K6 : Nat → Int32 → Int32 → Int32 → Int32 → Int32 → Int32 → GH → Prop) (K : Int32 → GH → Prop) (l0 : Nat) (l1 : Int32) (l2 : Int32) (l3 : Int32) (l4 : Int32) (l5 : Int32) (l6 : Int32) (l7 : Nat) (g : GH) : Prop :=
  Kd g l7 = 2 ∧ Sp_En_learn Γ l7 l4 g (fun (g1 : GH) => Kd g1 l7 = 2 ∧ Sp_En_doublesOf Γ l7 l1 l3 g1 (fun (x3 : Int32) (g2 : GH) => ∀ x4 : Int32, x4 = (l5 + x3) → B_Po_doublesOf_68 Γ K6 K l0 l1 l2 l3 l4 x4 l6 g2))
set_option maxHeartbeats 4000000 in
set_option maxRecDepth 100000 in
theorem S_Po_doublesOf_49 {Γ : GAM} {E : EV} {K : Int32 → GH → Prop} (hE : GE Γ E cX4_doublesOf 8 RX4 (some (.int)) 1 24 (fun r g' => ∃ x, r = some (.int x) ∧ K x g')) {K6 : Nat → Int32 → Int32 → Int32 → Int32 → Int32 → Int32 → GH → Prop} (hK6 : ∀ (l0 : Nat) (l1 : Int32) (l2 : Int32) (l3 : Int32) (l4 : Int32) (l5 : Int32) (l6 : Int32) (g : GH), K6 l0 l1 l2 l3 l4 l5 l6 g → JW Γ E 6 [some (.ref l0), some (.int l1), some (.int l2), some (.int l3), some (.int l4), some (.int l5), some (.int l6), none] [] g) (l0 : Nat) (l1 : Int32) (l2 : Int32) (l3 : Int32) (l4 : Int32) (l5 : Int32) (l6 : Int32) (l7 : Nat) (g : GH) (h : B_Po_doublesOf_49 Γ K6 K l0 l1 l2 l3 l4 l5 l6 l7 g) : JW Γ E 49 [some (.ref l0), some (.int l1), some (.int l2), some (.int l3), some (.int l4), some (.int l5), some (.int l6), some (.ref l7)] [] g := by
  unfold B_Po_doublesOf_49 at h
  refine j_aload hE (by decide +kernel : decode cX4_doublesOf 49 = .ok (.aload 7, 2)) rfl ?_
  refine j_iload hE (by decide +kernel : decode cX4_doublesOf 51 = .ok (.iload 4, 2)) rfl ?_
  obtain ⟨hk, h⟩ := h
  refine j_callV hE rfl cl_X4_50 cf_1 im_X0_learn se_X0_learn ⟨by omega, by omega⟩ (As := [.int l4]) (rest := []) rfl rfl (Nat.le_of_ble_eq_true rfl) hk (by decide +kernel : decode cX4_doublesOf 53 = .ok (.invokevirtual 50, 3)) (mt_En_learn _ _ _ _ h) ?_
  rintro _ g1 ⟨rfl, h⟩
  refine j_iload hE (by decide +kernel : decode cX4_doublesOf 56 = .ok (.iload 5, 2)) rfl ?_
  refine j_aload hE (by decide +kernel : decode cX4_doublesOf 58 = .ok (.aload 7, 2)) rfl ?_
  refine j_iload_n hE (by decide +kernel : decode cX4_doublesOf 60 = .ok (.iload_n 1, 1)) rfl rfl ?_
  refine j_iload_n hE (by decide +kernel : decode cX4_doublesOf 61 = .ok (.iload_n 3, 1)) rfl rfl ?_
  obtain ⟨hk, h⟩ := h
  refine j_callV hE rfl cl_X4_142 cf_1 im_X0_doublesOf se_X0_doublesOf ⟨by omega, by omega⟩ (As := [.int l1, .int l3]) (rest := [.int l5]) rfl rfl (Nat.le_of_ble_eq_true rfl) hk (by decide +kernel : decode cX4_doublesOf 62 = .ok (.invokevirtual 142, 3)) (mt_En_doublesOf _ _ _ _ _ h) ?_
  rintro _ g2 ⟨x3, rfl, h⟩
  refine j_iadd hE (by decide +kernel : decode cX4_doublesOf 65 = .ok (.iadd, 1)) ?_
  obtain ⟨x4, hx⟩ : ∃ z, z = (l5 + x3) := ⟨_, rfl⟩; have h := h x4 hx; rw [← hx]
  refine j_istore hE (by decide +kernel : decode cX4_doublesOf 66 = .ok (.istore 5, 2)) (Nat.le_of_ble_eq_true rfl) rfl ?_
  refine j_weak [some (.ref l0), some (.int l1), some (.int l2), some (.int l3), some (.int l4), some (.int x4), some (.int l6), none] ⟨rfl, ⟨rfl, ⟨rfl, ⟨rfl, ⟨rfl, ⟨rfl, ⟨rfl, trivial⟩⟩⟩⟩⟩⟩⟩ ?_
  exact S_Po_doublesOf_68 hE hK6 _ _ _ _ _ _ _ _ h
set_option maxRecDepth 100000 in
def B_Po_doublesOf_6 (Γ : GAM) (K6 : Nat → Int32 → Int32 → Int32 → Int32 → Int32 → Int32 → GH → Prop) (K : Int32 → GH → Prop) (l0 : Nat) (l1 : Int32) (l2 : Int32) (l3 : Int32) (l4 : Int32) (l5 : Int32) (l6 : Int32) (g : GH) : Prop :=
  Kd g l0 = 6 ∧ ∃ a1 : Nat, Gr g 641 l0 = some a1 ∧ Kd g a1 = 1 ∧ Sp_AL_size Γ a1 g (fun (x3 : Int32) (g2 : GH) => ((x3 ≤ l6 → K l5 g2) ∧ (¬ (x3 ≤ l6) → Kd g2 l0 = 6 ∧ ∃ a4 : Nat, Gr g2 641 l0 = some a4 ∧ Kd g2 a4 = 1 ∧ Sp_AL_get Γ a4 l6 g2 (fun (a6 : Nat) (g5 : GH) => Kd g5 a6 = 2 ∧ ((l2 = (-1 : Int32) → B_Po_doublesOf_49 Γ K6 K l0 l1 l2 l3 l4 l5 l6 a6 g5) ∧ (¬ (l2 = (-1 : Int32)) → Kd g5 a6 = 2 ∧ ∃ a7 : Nat, Gr g5 129 a6 = some a7 ∧ Kd g5 a7 = 11 ∧ ((¬ ((Gi g5 1281 a7) = l2) → B_Po_doublesOf_68 Γ K6 K l0 l1 l2 l3 l4 l5 l6 g5) ∧ ((Gi g5 1281 a7) = l2 → B_Po_doublesOf_49 Γ K6 K l0 l1 l2 l3 l4 l5 l6 a6 g5))))))))
set_option maxHeartbeats 4000000 in
set_option maxRecDepth 100000 in
theorem S_Po_doublesOf_6 {Γ : GAM} {E : EV} {K : Int32 → GH → Prop} (hE : GE Γ E cX4_doublesOf 8 RX4 (some (.int)) 1 24 (fun r g' => ∃ x, r = some (.int x) ∧ K x g')) {K6 : Nat → Int32 → Int32 → Int32 → Int32 → Int32 → Int32 → GH → Prop} (hK6 : ∀ (l0 : Nat) (l1 : Int32) (l2 : Int32) (l3 : Int32) (l4 : Int32) (l5 : Int32) (l6 : Int32) (g : GH), K6 l0 l1 l2 l3 l4 l5 l6 g → JW Γ E 6 [some (.ref l0), some (.int l1), some (.int l2), some (.int l3), some (.int l4), some (.int l5), some (.int l6), none] [] g) (l0 : Nat) (l1 : Int32) (l2 : Int32) (l3 : Int32) (l4 : Int32) (l5 : Int32) (l6 : Int32) (g : GH) (h : B_Po_doublesOf_6 Γ K6 K l0 l1 l2 l3 l4 l5 l6 g) : JW Γ E 6 [some (.ref l0), some (.int l1), some (.int l2), some (.int l3), some (.int l4), some (.int l5), some (.int l6), none] [] g := by
  unfold B_Po_doublesOf_6 at h
  refine j_iload hE (by decide +kernel : decode cX4_doublesOf 6 = .ok (.iload 6, 2)) rfl ?_
  refine j_aload_n hE (by decide +kernel : decode cX4_doublesOf 8 = .ok (.aload_n 0, 1)) rfl rfl ?_
  obtain ⟨hk, h⟩ := h
  obtain ⟨a1, ha, h⟩ := h
  refine j_getRn hE fg_X4_18 hk ha (by decide +kernel : decode cX4_doublesOf 9 = .ok (.getfield 18, 3)) ?_
  obtain ⟨hk, h⟩ := h
  refine j_callV hE rfl cl_X4_34 cf_0 im_Jx4a65c_size_8abf5 se_Jx4a65c_size_8abf5 ⟨by omega, by omega⟩ (As := []) (rest := [.int l6]) rfl rfl (Nat.le_of_ble_eq_true rfl) hk (by decide +kernel : decode cX4_doublesOf 12 = .ok (.invokevirtual 34, 3)) (mt_AL_size _ _ _ h) ?_
  rintro _ g2 ⟨x3, rfl, h⟩
  refine j_icmp_ge hE (by decide +kernel : decode cX4_doublesOf 15 = .ok (.if_icmp .ge 59, 3)) (tgt := 74) (by decide) (fun q => ?_) (fun q => ?_)
  · have h := h.1 q
    refine j_iload hE (by decide +kernel : decode cX4_doublesOf 74 = .ok (.iload 5, 2)) rfl ?_
    exact j_iret hE (by decide +kernel : decode cX4_doublesOf 76 = .ok (.ireturn, 1)) ⟨_, rfl, h⟩
  · have h := h.2 q
    refine j_aload_n hE (by decide +kernel : decode cX4_doublesOf 18 = .ok (.aload_n 0, 1)) rfl rfl ?_
    obtain ⟨hk, h⟩ := h
    obtain ⟨a4, ha, h⟩ := h
    refine j_getRn hE fg_X4_18 hk ha (by decide +kernel : decode cX4_doublesOf 19 = .ok (.getfield 18, 3)) ?_
    refine j_iload hE (by decide +kernel : decode cX4_doublesOf 22 = .ok (.iload 6, 2)) rfl ?_
    obtain ⟨hk, h⟩ := h
    refine j_callV hE rfl cl_X4_42 cf_0 im_Jx4a65c_get_915e3 se_Jx4a65c_get_915e3 ⟨by omega, by omega⟩ (As := [.int l6]) (rest := []) rfl rfl (Nat.le_of_ble_eq_true rfl) hk (by decide +kernel : decode cX4_doublesOf 24 = .ok (.invokevirtual 42, 3)) (mt_AL_get _ _ _ _ h) ?_
    rintro _ g5 ⟨a6, rfl, h⟩
    obtain ⟨hk, h⟩ := h
    refine j_cast hE cf_1 ck_X4_48 hk (by decide +kernel : decode cX4_doublesOf 27 = .ok (.checkcast 48, 3)) ?_
    refine j_astore hE (by decide +kernel : decode cX4_doublesOf 30 = .ok (.astore 7, 2)) (Nat.le_of_ble_eq_true rfl) rfl ?_
    refine j_iload_n hE (by decide +kernel : decode cX4_doublesOf 32 = .ok (.iload_n 2, 1)) rfl rfl ?_
    refine j_iconst hE (by decide +kernel : decode cX4_doublesOf 33 = .ok (.iconst (-1), 1)) (v := (-1 : Int32)) (by decide) ?_
    refine j_icmp_eq hE (by decide +kernel : decode cX4_doublesOf 34 = .ok (.if_icmp .eq 15, 3)) (tgt := 49) (by decide) (fun q => ?_) (fun q => ?_)
    · have h := h.1 q
      exact S_Po_doublesOf_49 hE hK6 _ _ _ _ _ _ _ _ _ h
    · have h := h.2 q
      refine j_aload hE (by decide +kernel : decode cX4_doublesOf 37 = .ok (.aload 7, 2)) rfl ?_
      obtain ⟨hk, h⟩ := h
      obtain ⟨a7, ha, h⟩ := h
      refine j_getRn hE fg_X4_135 hk ha (by decide +kernel : decode cX4_doublesOf 39 = .ok (.getfield 135, 3)) ?_
      obtain ⟨hk, h⟩ := h
      refine j_getI hE fg_X4_139 hk (by decide +kernel : decode cX4_doublesOf 42 = .ok (.getfield 139, 3)) ?_
      refine j_iload_n hE (by decide +kernel : decode cX4_doublesOf 45 = .ok (.iload_n 2, 1)) rfl rfl ?_
      refine j_icmp_ne hE (by decide +kernel : decode cX4_doublesOf 46 = .ok (.if_icmp .ne 22, 3)) (tgt := 68) (by decide) (fun q => ?_) (fun q => ?_)
      · have h := h.1 q
        refine j_weak [some (.ref l0), some (.int l1), some (.int l2), some (.int l3), some (.int l4), some (.int l5), some (.int l6), none] ⟨rfl, ⟨rfl, ⟨rfl, ⟨rfl, ⟨rfl, ⟨rfl, ⟨rfl, trivial⟩⟩⟩⟩⟩⟩⟩ ?_
        exact S_Po_doublesOf_68 hE hK6 _ _ _ _ _ _ _ _ h
      · have h := h.2 q
        exact S_Po_doublesOf_49 hE hK6 _ _ _ _ _ _ _ _ _ h
set_option maxRecDepth 100000 in
def B_Po_doublesOf_0 (Γ : GAM) (K6 : Nat → Int32 → Int32 → Int32 → Int32 → Int32 → Int32 → GH → Prop) (K : Int32 → GH → Prop) (th : Nat) (p0 : Int32) (p1 : Int32) (p2 : Int32) (p3 : Int32) (g : GH) : Prop :=
  K6 th p0 p1 p2 p3 (0 : Int32) (0 : Int32) g
set_option maxHeartbeats 4000000 in
set_option maxRecDepth 100000 in
theorem S_Po_doublesOf_0 {Γ : GAM} {E : EV} {K : Int32 → GH → Prop} (hE : GE Γ E cX4_doublesOf 8 RX4 (some (.int)) 1 24 (fun r g' => ∃ x, r = some (.int x) ∧ K x g')) {K6 : Nat → Int32 → Int32 → Int32 → Int32 → Int32 → Int32 → GH → Prop} (hK6 : ∀ (l0 : Nat) (l1 : Int32) (l2 : Int32) (l3 : Int32) (l4 : Int32) (l5 : Int32) (l6 : Int32) (g : GH), K6 l0 l1 l2 l3 l4 l5 l6 g → JW Γ E 6 [some (.ref l0), some (.int l1), some (.int l2), some (.int l3), some (.int l4), some (.int l5), some (.int l6), none] [] g) (th : Nat) (p0 : Int32) (p1 : Int32) (p2 : Int32) (p3 : Int32) (g : GH) (h : B_Po_doublesOf_0 Γ K6 K th p0 p1 p2 p3 g) : JW Γ E 0 [some (.ref th), some (.int p0), some (.int p1), some (.int p2), some (.int p3), none, none, none] [] g := by
  unfold B_Po_doublesOf_0 at h
  refine j_iconst hE (by decide +kernel : decode cX4_doublesOf 0 = .ok (.iconst 0, 1)) (v := (0 : Int32)) (by decide) ?_
  refine j_istore hE (by decide +kernel : decode cX4_doublesOf 1 = .ok (.istore 5, 2)) (Nat.le_of_ble_eq_true rfl) rfl ?_
  refine j_iconst hE (by decide +kernel : decode cX4_doublesOf 3 = .ok (.iconst 0, 1)) (v := (0 : Int32)) (by decide) ?_
  refine j_istore hE (by decide +kernel : decode cX4_doublesOf 4 = .ok (.istore 6, 2)) (Nat.le_of_ble_eq_true rfl) rfl ?_
  exact hK6 _ _ _ _ _ _ _ _ h
set_option maxHeartbeats 4000000 in
set_option maxRecDepth 100000 in
theorem rl_Po_doublesOf {Γ : GAM} {l : Launch} {th : Nat} {p0 : Int32} {p1 : Int32} {p2 : Int32} {p3 : Int32} {g : GH} {K : Int32 → GH → Prop} (I6 : Nat → Nat → Int32 → Int32 → Int32 → Int32 → Int32 → Int32 → GH → Prop) (hh6 : ∀ n (l0 : Nat) (l1 : Int32) (l2 : Int32) (l3 : Int32) (l4 : Int32) (l5 : Int32) (l6 : Int32) (g : GH), I6 n l0 l1 l2 l3 l4 l5 l6 g → B_Po_doublesOf_6 Γ (fun l0 l1 l2 l3 l4 l5 l6 g => ∃ m, m < n ∧ I6 m l0 l1 l2 l3 l4 l5 l6 g) K l0 l1 l2 l3 l4 l5 l6 g) (h0 : B_Po_doublesOf_0 Γ (fun l0 l1 l2 l3 l4 l5 l6 g => ∃ m, I6 m l0 l1 l2 l3 l4 l5 l6 g) K th p0 p1 p2 p3 g) : MetA Γ l yX4_doublesOf cX4_doublesOf 8 (some (.int)) 1 24 [.ref th, .int p0, .int p1, .int p2, .int p3] g (fun r g' => ∃ x, r = some (.int x) ∧ K x g') := by
  refine MetA.introL (Lx := [some (.ref th), some (.int p0), some (.int p1), some (.int p2), some (.int p3), none, none, none]) (by decide) (Nat.le_of_ble_eq_true rfl) rfl rfl ?_
  intro E hEl hE hnm
  have hall : ∀ n, (∀ (l0 : Nat) (l1 : Int32) (l2 : Int32) (l3 : Int32) (l4 : Int32) (l5 : Int32) (l6 : Int32) (g : GH), I6 n l0 l1 l2 l3 l4 l5 l6 g → JW Γ E 6 [some (.ref l0), some (.int l1), some (.int l2), some (.int l3), some (.int l4), some (.int l5), some (.int l6), none] [] g) := by
    intro n
    induction n using Nat.strongRecOn with
    | ind n ih =>
      exact fun l0 l1 l2 l3 l4 l5 l6 g hi => S_Po_doublesOf_6 hE (fun l0 l1 l2 l3 l4 l5 l6 g hm => by obtain ⟨m, hm, h⟩ := hm; exact (ih m hm) l0 l1 l2 l3 l4 l5 l6 g h) l0 l1 l2 l3 l4 l5 l6 g (hh6 n l0 l1 l2 l3 l4 l5 l6 g hi)
  exact S_Po_doublesOf_0 hE (fun l0 l1 l2 l3 l4 l5 l6 g hm => by obtain ⟨m, h⟩ := hm; exact (hall m) l0 l1 l2 l3 l4 l5 l6 g h) th p0 p1 p2 p3 g h0
-- the walk of Pr_init
set_option maxRecDepth 100000 in
def B_Pr_init_0 (Γ : GAM) (K : GH → Prop) (th : Nat) (g : GH) : Prop :=
  th < Hn g ∧ free g 768 th ∧ Hn g + 1 ≤ gB Γ + NCC ∧ Hu g + 12 ≤ NSS ∧ ∀ (a1 : Nat) (g2 : GH), a1 = Hn g → g2 = nA g 20 768 th (12) → Kd g2 th = 7 ∧ ∀ g3 : GH, g3 = sR g2 768 th (some a1) → th < Hn g3 ∧ free g3 769 th ∧ Hn g3 + 1 ≤ gB Γ + NCC ∧ Hu g3 + 12 ≤ NSS ∧ ∀ (a4 : Nat) (g5 : GH), a4 = Hn g3 → g5 = nA g3 20 769 th (12) → Kd g5 th = 7 ∧ ∀ g6 : GH, g6 = sR g5 769 th (some a4) → th < Hn g6 ∧ free g6 770 th ∧ Hn g6 + 1 ≤ gB Γ + NCC ∧ Hu g6 + 12 ≤ NSS ∧ ∀ (a7 : Nat) (g8 : GH), a7 = Hn g6 → g8 = nA g6 20 770 th (12) → Kd g8 th = 7 ∧ ∀ g9 : GH, g9 = sR g8 770 th (some a7) → th < Hn g9 ∧ free g9 771 th ∧ Hn g9 + 1 ≤ gB Γ + NCC ∧ Hu g9 + 12 ≤ NSS ∧ ∀ (a10 : Nat) (g11 : GH), a10 = Hn g9 → g11 = nA g9 20 771 th (12) → Kd g11 th = 7 ∧ ∀ g12 : GH, g12 = sR g11 771 th (some a10) → th < Hn g12 ∧ free g12 772 th ∧ Hn g12 + 1 ≤ gB Γ + NCC ∧ Hu g12 + 12 ≤ NSS ∧ ∀ (a13 : Nat) (g14 : GH), a13 = Hn g12 → g14 = nA g12 20 772 th (12) → Kd g14 th = 7 ∧ ∀ g15 : GH, g15 = sR g14 772 th (some a13) → Kd g15 th = 7 ∧ ∀ g16 : GH, g16 = sI g15 774 th (100 : Int32) → K g16
set_option maxHeartbeats 4000000 in
set_option maxRecDepth 100000 in
theorem S_Pr_init_0 {Γ : GAM} {E : EV} {K : GH → Prop} (hE : GE Γ E cX5_init 1 RX5 none 1 20 (fun r g' => r = none ∧ K g')) (hnm : E.2.2.2.2.2.2.2.2.1.name = "<init>") (th : Nat) (g : GH) (h : B_Pr_init_0 Γ K th g) : JW Γ E 0 [some (.ref th)] [] g := by
  unfold B_Pr_init_0 at h
  refine j_aload_n hE (by decide +kernel : decode cX5_init 0 = .ok (.aload_n 0, 1)) rfl rfl ?_
  refine j_objInit hE rfl ol_X5 oi_in oi_code (Nat.le_of_ble_eq_true rfl) (by omega) (by omega) (by decide +kernel : decode cX5_init 1 = .ok (.invokespecial 3, 3)) ?_
  refine j_aload_n hE (by decide +kernel : decode cX5_init 4 = .ok (.aload_n 0, 1)) rfl rfl ?_
  refine j_bipush hE (by decide +kernel : decode cX5_init 5 = .ok (.bipush 12, 2)) (v := (12 : Int32)) (by decide) ?_
  obtain ⟨ho1, hf1, hn1, hn2, h⟩ := h
  obtain ⟨a1, ha⟩ : ∃ z, z = Hn g := ⟨_, rfl⟩; obtain ⟨g2, hg⟩ : ∃ z, z = nA g 20 768 th (12) := ⟨_, rfl⟩; have h := h a1 g2 ha hg
  refine j_newarray (k := 20) (co := 768) (ow := th) (n := (12)) (atype := .int) hE ac_int (Or.inl ⟨rfl, rfl⟩) (by decide) (by decide) (by decide) ho1 hf1 (by decide +kernel : decode cX5_init 7 = .ok (.newarray .int, 2)) hn1 hn2 ?_
  rw [← hg, ← ha]
  obtain ⟨hk, h⟩ := h
  obtain ⟨g3, hg⟩ : ∃ z, z = sR g2 768 th (some a1) := ⟨_, rfl⟩; have h := h g3 hg
  refine j_putR (v := (some a1)) hE fa_X5_9 hk (fun _ => hnm) (by decide +kernel : decode cX5_init 9 = .ok (.putfield 9, 3)) ?_
  rw [← hg]
  refine j_aload_n hE (by decide +kernel : decode cX5_init 12 = .ok (.aload_n 0, 1)) rfl rfl ?_
  refine j_bipush hE (by decide +kernel : decode cX5_init 13 = .ok (.bipush 12, 2)) (v := (12 : Int32)) (by decide) ?_
  obtain ⟨ho1, hf1, hn1, hn2, h⟩ := h
  obtain ⟨a4, ha⟩ : ∃ z, z = Hn g3 := ⟨_, rfl⟩; obtain ⟨g5, hg⟩ : ∃ z, z = nA g3 20 769 th (12) := ⟨_, rfl⟩; have h := h a4 g5 ha hg
  refine j_newarray (k := 20) (co := 769) (ow := th) (n := (12)) (atype := .int) hE ac_int (Or.inl ⟨rfl, rfl⟩) (by decide) (by decide) (by decide) ho1 hf1 (by decide +kernel : decode cX5_init 15 = .ok (.newarray .int, 2)) hn1 hn2 ?_
  rw [← hg, ← ha]
  obtain ⟨hk, h⟩ := h
  obtain ⟨g6, hg⟩ : ∃ z, z = sR g5 769 th (some a4) := ⟨_, rfl⟩; have h := h g6 hg
  refine j_putR (v := (some a4)) hE fa_X5_15 hk (fun _ => hnm) (by decide +kernel : decode cX5_init 17 = .ok (.putfield 15, 3)) ?_
  rw [← hg]
  refine j_aload_n hE (by decide +kernel : decode cX5_init 20 = .ok (.aload_n 0, 1)) rfl rfl ?_
  refine j_bipush hE (by decide +kernel : decode cX5_init 21 = .ok (.bipush 12, 2)) (v := (12 : Int32)) (by decide) ?_
  obtain ⟨ho1, hf1, hn1, hn2, h⟩ := h
  obtain ⟨a7, ha⟩ : ∃ z, z = Hn g6 := ⟨_, rfl⟩; obtain ⟨g8, hg⟩ : ∃ z, z = nA g6 20 770 th (12) := ⟨_, rfl⟩; have h := h a7 g8 ha hg
  refine j_newarray (k := 20) (co := 770) (ow := th) (n := (12)) (atype := .int) hE ac_int (Or.inl ⟨rfl, rfl⟩) (by decide) (by decide) (by decide) ho1 hf1 (by decide +kernel : decode cX5_init 23 = .ok (.newarray .int, 2)) hn1 hn2 ?_
  rw [← hg, ← ha]
  obtain ⟨hk, h⟩ := h
  obtain ⟨g9, hg⟩ : ∃ z, z = sR g8 770 th (some a7) := ⟨_, rfl⟩; have h := h g9 hg
  refine j_putR (v := (some a7)) hE fa_X5_18 hk (fun _ => hnm) (by decide +kernel : decode cX5_init 25 = .ok (.putfield 18, 3)) ?_
  rw [← hg]
  refine j_aload_n hE (by decide +kernel : decode cX5_init 28 = .ok (.aload_n 0, 1)) rfl rfl ?_
  refine j_bipush hE (by decide +kernel : decode cX5_init 29 = .ok (.bipush 12, 2)) (v := (12 : Int32)) (by decide) ?_
  obtain ⟨ho1, hf1, hn1, hn2, h⟩ := h
  obtain ⟨a10, ha⟩ : ∃ z, z = Hn g9 := ⟨_, rfl⟩; obtain ⟨g11, hg⟩ : ∃ z, z = nA g9 20 771 th (12) := ⟨_, rfl⟩; have h := h a10 g11 ha hg
  refine j_newarray (k := 20) (co := 771) (ow := th) (n := (12)) (atype := .int) hE ac_int (Or.inl ⟨rfl, rfl⟩) (by decide) (by decide) (by decide) ho1 hf1 (by decide +kernel : decode cX5_init 31 = .ok (.newarray .int, 2)) hn1 hn2 ?_
  rw [← hg, ← ha]
  obtain ⟨hk, h⟩ := h
  obtain ⟨g12, hg⟩ : ∃ z, z = sR g11 771 th (some a10) := ⟨_, rfl⟩; have h := h g12 hg
  refine j_putR (v := (some a10)) hE fa_X5_21 hk (fun _ => hnm) (by decide +kernel : decode cX5_init 33 = .ok (.putfield 21, 3)) ?_
  rw [← hg]
  refine j_aload_n hE (by decide +kernel : decode cX5_init 36 = .ok (.aload_n 0, 1)) rfl rfl ?_
  refine j_bipush hE (by decide +kernel : decode cX5_init 37 = .ok (.bipush 12, 2)) (v := (12 : Int32)) (by decide) ?_
  obtain ⟨ho1, hf1, hn1, hn2, h⟩ := h
  obtain ⟨a13, ha⟩ : ∃ z, z = Hn g12 := ⟨_, rfl⟩; obtain ⟨g14, hg⟩ : ∃ z, z = nA g12 20 772 th (12) := ⟨_, rfl⟩; have h := h a13 g14 ha hg
  refine j_newarray (k := 20) (co := 772) (ow := th) (n := (12)) (atype := .int) hE ac_int (Or.inl ⟨rfl, rfl⟩) (by decide) (by decide) (by decide) ho1 hf1 (by decide +kernel : decode cX5_init 39 = .ok (.newarray .int, 2)) hn1 hn2 ?_
  rw [← hg, ← ha]
  obtain ⟨hk, h⟩ := h
  obtain ⟨g15, hg⟩ : ∃ z, z = sR g14 772 th (some a13) := ⟨_, rfl⟩; have h := h g15 hg
  refine j_putR (v := (some a13)) hE fa_X5_24 hk (fun _ => hnm) (by decide +kernel : decode cX5_init 41 = .ok (.putfield 24, 3)) ?_
  rw [← hg]
  refine j_aload_n hE (by decide +kernel : decode cX5_init 44 = .ok (.aload_n 0, 1)) rfl rfl ?_
  refine j_bipush hE (by decide +kernel : decode cX5_init 45 = .ok (.bipush 100, 2)) (v := (100 : Int32)) (by decide) ?_
  obtain ⟨hk, h⟩ := h
  obtain ⟨g16, hg⟩ : ∃ z, z = sI g15 774 th (100 : Int32) := ⟨_, rfl⟩; have h := h g16 hg
  refine j_putI hE fa_X5_27 hk (fun q => by cases q) (by decide +kernel : decode cX5_init 47 = .ok (.putfield 27, 3)) ?_
  rw [← hg]
  exact j_vret hE (by decide +kernel : decode cX5_init 50 = .ok (.return_, 1)) ⟨rfl, h⟩
set_option maxHeartbeats 4000000 in
set_option maxRecDepth 100000 in
theorem rl_Pr_init {Γ : GAM} {l : Launch} {th : Nat} {g : GH} {K : GH → Prop} (h0 : B_Pr_init_0 Γ K th g) : MetA Γ l yX5_init cX5_init 1 none 1 20 [.ref th] g (fun r g' => r = none ∧ K g') := by
  refine MetA.introL (Lx := [some (.ref th)]) (by decide) (Nat.le_of_ble_eq_true rfl) rfl rfl ?_
  intro E hEl hE hnm
  exact S_Pr_init_0 hE hnm th g h0
-- the walk of Pr_order
set_option maxRecDepth 100000 in
def B_Pr_order_0 (Γ : GAM) (K : Int32 → GH → Prop) (th : Nat) (p0 : Int32) (p1 : Int32) (p2 : Int32) (g : GH) : Prop :=
  Kd g th = 7 ∧ (((Gi g 773 th) < (12 : Int32) → Kd g th = 7 ∧ ∃ a1 : Nat, Gr g 768 th = some a1 ∧ Kd g th = 7 ∧ Kd g a1 = 20 ∧ inB (Gi g 773 th) (Ln g a1) ∧ ∀ g2 : GH, g2 = sA g (Co g a1) (Ow g a1) (Gi g 773 th).toNatClampNeg p0 → Kd g2 th = 7 ∧ ∃ a3 : Nat, Gr g2 769 th = some a3 ∧ Kd g2 th = 7 ∧ Kd g2 a3 = 20 ∧ inB (Gi g2 773 th) (Ln g2 a3) ∧ ∀ g4 : GH, g4 = sA g2 (Co g2 a3) (Ow g2 a3) (Gi g2 773 th).toNatClampNeg p1 → Kd g4 th = 7 ∧ ∃ a5 : Nat, Gr g4 770 th = some a5 ∧ Kd g4 th = 7 ∧ Kd g4 a5 = 20 ∧ inB (Gi g4 773 th) (Ln g4 a5) ∧ ∀ g6 : GH, g6 = sA g4 (Co g4 a5) (Ow g4 a5) (Gi g4 773 th).toNatClampNeg p2 → Kd g6 th = 7 ∧ Kd g6 th = 7 ∧ ∀ g7 : GH, g7 = sI g6 773 th ((Gi g6 773 th) + (1 : Int32)) → Kd g7 th = 7 ∧ K ((Gi g7 773 th) - (1 : Int32)) g7) ∧ (¬ ((Gi g 773 th) < (12 : Int32)) → K (-1 : Int32) g))
set_option maxHeartbeats 4000000 in
set_option maxRecDepth 100000 in
theorem S_Pr_order_0 {Γ : GAM} {E : EV} {K : Int32 → GH → Prop} (hE : GE Γ E cX5_order 4 RX5 (some (.int)) 0 0 (fun r g' => ∃ x, r = some (.int x) ∧ K x g')) (th : Nat) (p0 : Int32) (p1 : Int32) (p2 : Int32) (g : GH) (h : B_Pr_order_0 Γ K th p0 p1 p2 g) : JW Γ E 0 [some (.ref th), some (.int p0), some (.int p1), some (.int p2)] [] g := by
  unfold B_Pr_order_0 at h
  refine j_aload_n hE (by decide +kernel : decode cX5_order 0 = .ok (.aload_n 0, 1)) rfl rfl ?_
  obtain ⟨hk, h⟩ := h
  refine j_getI hE fg_X5_31 hk (by decide +kernel : decode cX5_order 1 = .ok (.getfield 31, 3)) ?_
  refine j_bipush hE (by decide +kernel : decode cX5_order 4 = .ok (.bipush 12, 2)) (v := (12 : Int32)) (by decide) ?_
  refine j_icmp_lt hE (by decide +kernel : decode cX5_order 6 = .ok (.if_icmp .lt 5, 3)) (tgt := 11) (by decide) (fun q => ?_) (fun q => ?_)
  · have h := h.1 q
    refine j_aload_n hE (by decide +kernel : decode cX5_order 11 = .ok (.aload_n 0, 1)) rfl rfl ?_
    obtain ⟨hk, h⟩ := h
    obtain ⟨a1, ha, h⟩ := h
    refine j_getRn hE fg_X5_9 hk ha (by decide +kernel : decode cX5_order 12 = .ok (.getfield 9, 3)) ?_
    refine j_aload_n hE (by decide +kernel : decode cX5_order 15 = .ok (.aload_n 0, 1)) rfl rfl ?_
    obtain ⟨hk, h⟩ := h
    refine j_getI hE fg_X5_31 hk (by decide +kernel : decode cX5_order 16 = .ok (.getfield 31, 3)) ?_
    refine j_iload_n hE (by decide +kernel : decode cX5_order 19 = .ok (.iload_n 1, 1)) rfl rfl ?_
    obtain ⟨hk, hb, h⟩ := h
    obtain ⟨g2, hg⟩ : ∃ z, z = sA g (Co g a1) (Ow g a1) (Gi g 773 th).toNatClampNeg p0 := ⟨_, rfl⟩; have h := h g2 hg
    refine j_iast hE hk hb (by decide +kernel : decode cX5_order 20 = .ok (.iastore, 1)) ?_
    rw [← hg]
    refine j_aload_n hE (by decide +kernel : decode cX5_order 21 = .ok (.aload_n 0, 1)) rfl rfl ?_
    obtain ⟨hk, h⟩ := h
    obtain ⟨a3, ha, h⟩ := h
    refine j_getRn hE fg_X5_15 hk ha (by decide +kernel : decode cX5_order 22 = .ok (.getfield 15, 3)) ?_
    refine j_aload_n hE (by decide +kernel : decode cX5_order 25 = .ok (.aload_n 0, 1)) rfl rfl ?_
    obtain ⟨hk, h⟩ := h
    refine j_getI hE fg_X5_31 hk (by decide +kernel : decode cX5_order 26 = .ok (.getfield 31, 3)) ?_
    refine j_iload_n hE (by decide +kernel : decode cX5_order 29 = .ok (.iload_n 2, 1)) rfl rfl ?_
    obtain ⟨hk, hb, h⟩ := h
    obtain ⟨g4, hg⟩ : ∃ z, z = sA g2 (Co g2 a3) (Ow g2 a3) (Gi g2 773 th).toNatClampNeg p1 := ⟨_, rfl⟩; have h := h g4 hg
    refine j_iast hE hk hb (by decide +kernel : decode cX5_order 30 = .ok (.iastore, 1)) ?_
    rw [← hg]
    refine j_aload_n hE (by decide +kernel : decode cX5_order 31 = .ok (.aload_n 0, 1)) rfl rfl ?_
    obtain ⟨hk, h⟩ := h
    obtain ⟨a5, ha, h⟩ := h
    refine j_getRn hE fg_X5_18 hk ha (by decide +kernel : decode cX5_order 32 = .ok (.getfield 18, 3)) ?_
    refine j_aload_n hE (by decide +kernel : decode cX5_order 35 = .ok (.aload_n 0, 1)) rfl rfl ?_
    obtain ⟨hk, h⟩ := h
    refine j_getI hE fg_X5_31 hk (by decide +kernel : decode cX5_order 36 = .ok (.getfield 31, 3)) ?_
    refine j_iload_n hE (by decide +kernel : decode cX5_order 39 = .ok (.iload_n 3, 1)) rfl rfl ?_
    obtain ⟨hk, hb, h⟩ := h
    obtain ⟨g6, hg⟩ : ∃ z, z = sA g4 (Co g4 a5) (Ow g4 a5) (Gi g4 773 th).toNatClampNeg p2 := ⟨_, rfl⟩; have h := h g6 hg
    refine j_iast hE hk hb (by decide +kernel : decode cX5_order 40 = .ok (.iastore, 1)) ?_
    rw [← hg]
    refine j_aload_n hE (by decide +kernel : decode cX5_order 41 = .ok (.aload_n 0, 1)) rfl rfl ?_
    refine j_dup hE (by decide +kernel : decode cX5_order 42 = .ok (.dup, 1)) rfl ?_
    obtain ⟨hk, h⟩ := h
    refine j_getI hE fg_X5_31 hk (by decide +kernel : decode cX5_order 43 = .ok (.getfield 31, 3)) ?_
    refine j_iconst hE (by decide +kernel : decode cX5_order 46 = .ok (.iconst 1, 1)) (v := (1 : Int32)) (by decide) ?_
    refine j_iadd hE (by decide +kernel : decode cX5_order 47 = .ok (.iadd, 1)) ?_
    obtain ⟨hk, h⟩ := h
    obtain ⟨g7, hg⟩ : ∃ z, z = sI g6 773 th ((Gi g6 773 th) + (1 : Int32)) := ⟨_, rfl⟩; have h := h g7 hg
    refine j_putI hE fa_X5_31 hk (fun q => by cases q) (by decide +kernel : decode cX5_order 48 = .ok (.putfield 31, 3)) ?_
    rw [← hg]
    refine j_aload_n hE (by decide +kernel : decode cX5_order 51 = .ok (.aload_n 0, 1)) rfl rfl ?_
    obtain ⟨hk, h⟩ := h
    refine j_getI hE fg_X5_31 hk (by decide +kernel : decode cX5_order 52 = .ok (.getfield 31, 3)) ?_
    refine j_iconst hE (by decide +kernel : decode cX5_order 55 = .ok (.iconst 1, 1)) (v := (1 : Int32)) (by decide) ?_
    refine j_isub hE (by decide +kernel : decode cX5_order 56 = .ok (.isub, 1)) ?_
    exact j_iret hE (by decide +kernel : decode cX5_order 57 = .ok (.ireturn, 1)) ⟨_, rfl, h⟩
  · have h := h.2 q
    refine j_iconst hE (by decide +kernel : decode cX5_order 9 = .ok (.iconst (-1), 1)) (v := (-1 : Int32)) (by decide) ?_
    exact j_iret hE (by decide +kernel : decode cX5_order 10 = .ok (.ireturn, 1)) ⟨_, rfl, h⟩
set_option maxHeartbeats 4000000 in
set_option maxRecDepth 100000 in
theorem rl_Pr_order {Γ : GAM} {l : Launch} {th : Nat} {p0 : Int32} {p1 : Int32} {p2 : Int32} {g : GH} {K : Int32 → GH → Prop} (h0 : B_Pr_order_0 Γ K th p0 p1 p2 g) : MetA Γ l yX5_order cX5_order 4 (some (.int)) 0 0 [.ref th, .int p0, .int p1, .int p2] g (fun r g' => ∃ x, r = some (.int x) ∧ K x g') := by
  refine MetA.introL (Lx := [some (.ref th), some (.int p0), some (.int p1), some (.int p2)]) (by decide) (Nat.le_of_ble_eq_true rfl) rfl rfl ?_
  intro E hEl hE hnm
  exact S_Pr_order_0 hE th p0 p1 p2 g h0
def Sp_Math_min_i0 (Γ : GAM) (q0 : Int32) (q1 : Int32) (g : GH) (K : Int32 → GH → Prop) : Prop := False
theorem mt_Math_min_i0 {Γ : GAM} {l : Launch} (q0 : Int32) (q1 : Int32) (g : GH) (K : Int32 → GH → Prop) (h : Sp_Math_min_i0 Γ q0 q1 g K) : MetA Γ l yJ9_min_7cf53 cJ9_min_7cf53 2 (some (.int)) 0 0 [.int q0, .int q1] g (fun r g' => ∃ x, r = some (.int x) ∧ K x g') := h.elim
-- the walk of Pr_wholeDays
set_option maxRecDepth 100000 in
def B_Pr_wholeDays_42 (Γ : GAM) (K : Int32 → GH → Prop) (s0 : Int32) (g : GH) : Prop :=
  K s0 g
set_option maxHeartbeats 4000000 in
set_option maxRecDepth 100000 in
theorem S_Pr_wholeDays_42 {Γ : GAM} {E : EV} {K : Int32 → GH → Prop} (hE : GE Γ E cX5_wholeDays 5 RX5 (some (.int)) 1 21 (fun r g' => ∃ x, r = some (.int x) ∧ K x g')) (s0 : Int32) (g : GH) (h : B_Pr_wholeDays_42 Γ K s0 g) : JW Γ E 42 [none, none, none, none, none] [.int s0] g := by
  unfold B_Pr_wholeDays_42 at h
  exact j_iret hE (by decide +kernel : decode cX5_wholeDays 42 = .ok (.ireturn, 1)) ⟨_, rfl, h⟩
set_option maxRecDepth 100000 in
def B_Pr_wholeDays_20 (Γ : GAM) (K : Int32 → GH → Prop) (l2 : Int32) (l3 : Int32) (s0 : Int32) (g : GH) : Prop :=
  ((¬ (l3 = (-1 : Int32)) → Sp_Math_min_i0 Γ s0 ((l3 - l2) - (1 : Int32)) g (fun (x2 : Int32) (g1 : GH) => B_Pr_wholeDays_42 Γ K x2 g1)) ∧ (l3 = (-1 : Int32) → B_Pr_wholeDays_42 Γ K s0 g))
set_option maxHeartbeats 4000000 in
set_option maxRecDepth 100000 in
theorem S_Pr_wholeDays_20 {Γ : GAM} {E : EV} {K : Int32 → GH → Prop} (hE : GE Γ E cX5_wholeDays 5 RX5 (some (.int)) 1 21 (fun r g' => ∃ x, r = some (.int x) ∧ K x g')) (l2 : Int32) (l3 : Int32) (s0 : Int32) (g : GH) (h : B_Pr_wholeDays_20 Γ K l2 l3 s0 g) : JW Γ E 20 [none, none, some (.int l2), some (.int l3), none] [.int s0] g := by
  unfold B_Pr_wholeDays_20 at h
  refine j_istore hE (by decide +kernel : decode cX5_wholeDays 20 = .ok (.istore 4, 2)) (Nat.le_of_ble_eq_true rfl) rfl ?_
  refine j_iload_n hE (by decide +kernel : decode cX5_wholeDays 22 = .ok (.iload_n 3, 1)) rfl rfl ?_
  refine j_iconst hE (by decide +kernel : decode cX5_wholeDays 23 = .ok (.iconst (-1), 1)) (v := (-1 : Int32)) (by decide) ?_
  refine j_icmp_ne hE (by decide +kernel : decode cX5_wholeDays 24 = .ok (.if_icmp .ne 8, 3)) (tgt := 32) (by decide) (fun q => ?_) (fun q => ?_)
  · have h := h.1 q
    refine j_iload hE (by decide +kernel : decode cX5_wholeDays 32 = .ok (.iload 4, 2)) rfl ?_
    refine j_iload_n hE (by decide +kernel : decode cX5_wholeDays 34 = .ok (.iload_n 3, 1)) rfl rfl ?_
    refine j_iload_n hE (by decide +kernel : decode cX5_wholeDays 35 = .ok (.iload_n 2, 1)) rfl rfl ?_
    refine j_isub hE (by decide +kernel : decode cX5_wholeDays 36 = .ok (.isub, 1)) ?_
    refine j_iconst hE (by decide +kernel : decode cX5_wholeDays 37 = .ok (.iconst 1, 1)) (v := (1 : Int32)) (by decide) ?_
    refine j_isub hE (by decide +kernel : decode cX5_wholeDays 38 = .ok (.isub, 1)) ?_
    refine j_callS hE rfl cl_X5_51 st_J9_min_7cf53 ⟨by omega, by omega⟩ (As := [.int s0, .int ((l3 - l2) - (1 : Int32))]) (rest := []) rfl rfl (Nat.le_of_ble_eq_true rfl) (by decide +kernel : decode cX5_wholeDays 39 = .ok (.invokestatic 51, 3)) (mt_Math_min_i0 _ _ _ _ h) ?_
    rintro _ g1 ⟨x2, rfl, h⟩
    refine j_weak [none, none, none, none, none] trivial ?_
    exact S_Pr_wholeDays_42 hE _ _ h
  · have h := h.2 q
    refine j_iload hE (by decide +kernel : decode cX5_wholeDays 27 = .ok (.iload 4, 2)) rfl ?_
    refine j_goto hE (by decide +kernel : decode cX5_wholeDays 29 = .ok (.goto 13, 3)) (tgt := 42) (by decide) ?_
    refine j_weak [none, none, none, none, none] trivial ?_
    exact S_Pr_wholeDays_42 hE _ _ h
set_option maxRecDepth 100000 in
def B_Pr_wholeDays_0 (Γ : GAM) (K : Int32 → GH → Prop) (th : Nat) (p0 : Int32) (p1 : Int32) (p2 : Int32) (g : GH) : Prop :=
  Kd g th = 7 ∧ (((1 : Int32) ≤ (Gi g 774 th) → Kd g th = 7 ∧ ¬ ((Gi g 774 th) = 0) ∧ B_Pr_wholeDays_20 Γ K p1 p2 ((p0 - (1 : Int32)) / (Gi g 774 th)) g) ∧ (¬ ((1 : Int32) ≤ (Gi g 774 th)) → B_Pr_wholeDays_20 Γ K p1 p2 (0 : Int32) g))
set_option maxHeartbeats 4000000 in
set_option maxRecDepth 100000 in
theorem S_Pr_wholeDays_0 {Γ : GAM} {E : EV} {K : Int32 → GH → Prop} (hE : GE Γ E cX5_wholeDays 5 RX5 (some (.int)) 1 21 (fun r g' => ∃ x, r = some (.int x) ∧ K x g')) (th : Nat) (p0 : Int32) (p1 : Int32) (p2 : Int32) (g : GH) (h : B_Pr_wholeDays_0 Γ K th p0 p1 p2 g) : JW Γ E 0 [some (.ref th), some (.int p0), some (.int p1), some (.int p2), none] [] g := by
  unfold B_Pr_wholeDays_0 at h
  refine j_aload_n hE (by decide +kernel : decode cX5_wholeDays 0 = .ok (.aload_n 0, 1)) rfl rfl ?_
  obtain ⟨hk, h⟩ := h
  refine j_getI hE fg_X5_27 hk (by decide +kernel : decode cX5_wholeDays 1 = .ok (.getfield 27, 3)) ?_
  refine j_iconst hE (by decide +kernel : decode cX5_wholeDays 4 = .ok (.iconst 1, 1)) (v := (1 : Int32)) (by decide) ?_
  refine j_icmp_ge hE (by decide +kernel : decode cX5_wholeDays 5 = .ok (.if_icmp .ge 7, 3)) (tgt := 12) (by decide) (fun q => ?_) (fun q => ?_)
  · have h := h.1 q
    refine j_iload_n hE (by decide +kernel : decode cX5_wholeDays 12 = .ok (.iload_n 1, 1)) rfl rfl ?_
    refine j_iconst hE (by decide +kernel : decode cX5_wholeDays 13 = .ok (.iconst 1, 1)) (v := (1 : Int32)) (by decide) ?_
    refine j_isub hE (by decide +kernel : decode cX5_wholeDays 14 = .ok (.isub, 1)) ?_
    refine j_aload_n hE (by decide +kernel : decode cX5_wholeDays 15 = .ok (.aload_n 0, 1)) rfl rfl ?_
    obtain ⟨hk, h⟩ := h
    refine j_getI hE fg_X5_27 hk (by decide +kernel : decode cX5_wholeDays 16 = .ok (.getfield 27, 3)) ?_
    obtain ⟨hne, h⟩ := h
    refine j_idiv hE (by decide +kernel : decode cX5_wholeDays 19 = .ok (.idiv, 1)) hne ?_
    refine j_weak [none, none, some (.int p1), some (.int p2), none] ⟨rfl, ⟨rfl, trivial⟩⟩ ?_
    exact S_Pr_wholeDays_20 hE _ _ _ _ h
  · have h := h.2 q
    refine j_iconst hE (by decide +kernel : decode cX5_wholeDays 8 = .ok (.iconst 0, 1)) (v := (0 : Int32)) (by decide) ?_
    refine j_goto hE (by decide +kernel : decode cX5_wholeDays 9 = .ok (.goto 11, 3)) (tgt := 20) (by decide) ?_
    refine j_weak [none, none, some (.int p1), some (.int p2), none] ⟨rfl, ⟨rfl, trivial⟩⟩ ?_
    exact S_Pr_wholeDays_20 hE _ _ _ _ h
set_option maxHeartbeats 4000000 in
set_option maxRecDepth 100000 in
theorem rl_Pr_wholeDays {Γ : GAM} {l : Launch} {th : Nat} {p0 : Int32} {p1 : Int32} {p2 : Int32} {g : GH} {K : Int32 → GH → Prop} (h0 : B_Pr_wholeDays_0 Γ K th p0 p1 p2 g) : MetA Γ l yX5_wholeDays cX5_wholeDays 5 (some (.int)) 1 21 [.ref th, .int p0, .int p1, .int p2] g (fun r g' => ∃ x, r = some (.int x) ∧ K x g') := by
  refine MetA.introL (Lx := [some (.ref th), some (.int p0), some (.int p1), some (.int p2), none]) (by decide) (Nat.le_of_ble_eq_true rfl) rfl rfl ?_
  intro E hEl hE hnm
  exact S_Pr_wholeDays_0 hE th p0 p1 p2 g h0
-- the walk of Pr_mostUrgent
set_option maxRecDepth 100000 in
def B_Pr_mostUrgent_65 (Γ : GAM) (K4 : Nat → Int32 → Int32 → Int32 → GH → Prop) (K : Int32 → GH → Prop) (l0 : Nat) (l1 : Int32) (l2 : Int32) (l3 : Int32) (g : GH) : Prop :=
  K4 l0 l1 l2 (l3 + (1 : Int32)) g
set_option maxHeartbeats 4000000 in
set_option maxRecDepth 100000 in
theorem S_Pr_mostUrgent_65 {Γ : GAM} {E : EV} {K : Int32 → GH → Prop} (hE : GE Γ E cX5_mostUrgent 5 RX5 (some (.int)) 0 0 (fun r g' => ∃ x, r = some (.int x) ∧ K x g')) {K4 : Nat → Int32 → Int32 → Int32 → GH → Prop} (hK4 : ∀ (l0 : Nat) (l1 : Int32) (l2 : Int32) (l3 : Int32) (g : GH), K4 l0 l1 l2 l3 g → JW Γ E 4 [some (.ref l0), some (.int l1), some (.int l2), some (.int l3), none] [] g) (l0 : Nat) (l1 : Int32) (l2 : Int32) (l3 : Int32) (g : GH) (h : B_Pr_mostUrgent_65 Γ K4 K l0 l1 l2 l3 g) : JW Γ E 65 [some (.ref l0), some (.int l1), some (.int l2), some (.int l3), none] [] g := by
  unfold B_Pr_mostUrgent_65 at h
  refine j_iinc hE (by decide +kernel : decode cX5_mostUrgent 65 = .ok (.iinc 3 1, 3)) (v := (1 : Int32)) (by decide) rfl (Nat.le_of_ble_eq_true rfl) rfl ?_
  refine j_goto hE (by decide +kernel : decode cX5_mostUrgent 68 = .ok (.goto (-64), 3)) (tgt := 4) (by decide) ?_
  exact hK4 _ _ _ _ _ h
set_option maxRecDepth 100000 in
def B_Pr_mostUrgent_63 (Γ : GAM) (K4 : Nat → Int32 → Int32 → Int32 → GH → Prop) (K : Int32 → GH → Prop) (l0 : Nat) (l1 : Int32) (l3 : Int32) (g : GH) : Prop :=
  B_Pr_mostUrgent_65 Γ K4 K l0 l1 l3 l3 g
set_option maxHeartbeats 4000000 in
set_option maxRecDepth 100000 in
theorem S_Pr_mostUrgent_63 {Γ : GAM} {E : EV} {K : Int32 → GH → Prop} (hE : GE Γ E cX5_mostUrgent 5 RX5 (some (.int)) 0 0 (fun r g' => ∃ x, r = some (.int x) ∧ K x g')) {K4 : Nat → Int32 → Int32 → Int32 → GH → Prop} (hK4 : ∀ (l0 : Nat) (l1 : Int32) (l2 : Int32) (l3 : Int32) (g : GH), K4 l0 l1 l2 l3 g → JW Γ E 4 [some (.ref l0), some (.int l1), some (.int l2), some (.int l3), none] [] g) (l0 : Nat) (l1 : Int32) (l3 : Int32) (g : GH) (h : B_Pr_mostUrgent_63 Γ K4 K l0 l1 l3 g) : JW Γ E 63 [some (.ref l0), some (.int l1), none, some (.int l3), none] [] g := by
  unfold B_Pr_mostUrgent_63 at h
  refine j_iload_n hE (by decide +kernel : decode cX5_mostUrgent 63 = .ok (.iload_n 3, 1)) rfl rfl ?_
  refine j_istore_n hE (by decide +kernel : decode cX5_mostUrgent 64 = .ok (.istore_n 2, 1)) rfl (Nat.le_of_ble_eq_true rfl) rfl ?_
  exact S_Pr_mostUrgent_65 hE hK4 _ _ _ _ _ h
set_option maxRecDepth 100000 in
def B_Pr_mostUrgent_36 (Γ : GAM) (K4 : Nat → Int32 → Int32 → Int32 → GH → Prop) (K : Int32 → GH → Prop) (l0 : Nat) (l1 : Int32) (l2 : Int32) (l3 : Int32) (s0 : Int32) (g : GH) : Prop :=
  ((s0 = 0 → B_Pr_mostUrgent_65 Γ K4 K l0 l1 l2 l3 g) ∧ (¬ (s0 = 0) → ((l2 = (-1 : Int32) → B_Pr_mostUrgent_63 Γ K4 K l0 l1 l3 g) ∧ (¬ (l2 = (-1 : Int32)) → Kd g l0 = 7 ∧ ∃ a1 : Nat, Gr g 770 l0 = some a1 ∧ Kd g a1 = 20 ∧ inB l3 (Ln g a1) ∧ Kd g l0 = 7 ∧ ∃ a2 : Nat, Gr g 770 l0 = some a2 ∧ Kd g a2 = 20 ∧ inB l2 (Ln g a2) ∧ (((Ia g (Co g a2) (Ow g a2) l2.toNatClampNeg) ≤ (Ia g (Co g a1) (Ow g a1) l3.toNatClampNeg) → B_Pr_mostUrgent_65 Γ K4 K l0 l1 l2 l3 g) ∧ (¬ ((Ia g (Co g a2) (Ow g a2) l2.toNatClampNeg) ≤ (Ia g (Co g a1) (Ow g a1) l3.toNatClampNeg)) → B_Pr_mostUrgent_63 Γ K4 K l0 l1 l3 g))))))
set_option maxHeartbeats 4000000 in
set_option maxRecDepth 100000 in
theorem S_Pr_mostUrgent_36 {Γ : GAM} {E : EV} {K : Int32 → GH → Prop} (hE : GE Γ E cX5_mostUrgent 5 RX5 (some (.int)) 0 0 (fun r g' => ∃ x, r = some (.int x) ∧ K x g')) {K4 : Nat → Int32 → Int32 → Int32 → GH → Prop} (hK4 : ∀ (l0 : Nat) (l1 : Int32) (l2 : Int32) (l3 : Int32) (g : GH), K4 l0 l1 l2 l3 g → JW Γ E 4 [some (.ref l0), some (.int l1), some (.int l2), some (.int l3), none] [] g) (l0 : Nat) (l1 : Int32) (l2 : Int32) (l3 : Int32) (s0 : Int32) (g : GH) (h : B_Pr_mostUrgent_36 Γ K4 K l0 l1 l2 l3 s0 g) : JW Γ E 36 [some (.ref l0), some (.int l1), some (.int l2), some (.int l3), none] [.int s0] g := by
  unfold B_Pr_mostUrgent_36 at h
  refine j_istore hE (by decide +kernel : decode cX5_mostUrgent 36 = .ok (.istore 4, 2)) (Nat.le_of_ble_eq_true rfl) rfl ?_
  refine j_iload hE (by decide +kernel : decode cX5_mostUrgent 38 = .ok (.iload 4, 2)) rfl ?_
  refine j_if_eq hE (by decide +kernel : decode cX5_mostUrgent 40 = .ok (.ifCond .eq 25, 3)) (tgt := 65) (by decide) (fun q => ?_) (fun q => ?_)
  · have h := h.1 q
    refine j_weak [some (.ref l0), some (.int l1), some (.int l2), some (.int l3), none] ⟨rfl, ⟨rfl, ⟨rfl, ⟨rfl, trivial⟩⟩⟩⟩ ?_
    exact S_Pr_mostUrgent_65 hE hK4 _ _ _ _ _ h
  · have h := h.2 q
    refine j_iload_n hE (by decide +kernel : decode cX5_mostUrgent 43 = .ok (.iload_n 2, 1)) rfl rfl ?_
    refine j_iconst hE (by decide +kernel : decode cX5_mostUrgent 44 = .ok (.iconst (-1), 1)) (v := (-1 : Int32)) (by decide) ?_
    refine j_icmp_eq hE (by decide +kernel : decode cX5_mostUrgent 45 = .ok (.if_icmp .eq 18, 3)) (tgt := 63) (by decide) (fun q => ?_) (fun q => ?_)
    · have h := h.1 q
      refine j_weak [some (.ref l0), some (.int l1), none, some (.int l3), none] ⟨rfl, ⟨rfl, ⟨rfl, trivial⟩⟩⟩ ?_
      exact S_Pr_mostUrgent_63 hE hK4 _ _ _ _ h
    · have h := h.2 q
      refine j_aload_n hE (by decide +kernel : decode cX5_mostUrgent 48 = .ok (.aload_n 0, 1)) rfl rfl ?_
      obtain ⟨hk, h⟩ := h
      obtain ⟨a1, ha, h⟩ := h
      refine j_getRn hE fg_X5_18 hk ha (by decide +kernel : decode cX5_mostUrgent 49 = .ok (.getfield 18, 3)) ?_
      refine j_iload_n hE (by decide +kernel : decode cX5_mostUrgent 52 = .ok (.iload_n 3, 1)) rfl rfl ?_
      obtain ⟨hk, hb, h⟩ := h
      refine j_iald hE hk hb (by decide +kernel : decode cX5_mostUrgent 53 = .ok (.iaload, 1)) ?_
      refine j_aload_n hE (by decide +kernel : decode cX5_mostUrgent 54 = .ok (.aload_n 0, 1)) rfl rfl ?_
      obtain ⟨hk, h⟩ := h
      obtain ⟨a2, ha, h⟩ := h
      refine j_getRn hE fg_X5_18 hk ha (by decide +kernel : decode cX5_mostUrgent 55 = .ok (.getfield 18, 3)) ?_
      refine j_iload_n hE (by decide +kernel : decode cX5_mostUrgent 58 = .ok (.iload_n 2, 1)) rfl rfl ?_
      obtain ⟨hk, hb, h⟩ := h
      refine j_iald hE hk hb (by decide +kernel : decode cX5_mostUrgent 59 = .ok (.iaload, 1)) ?_
      refine j_icmp_ge hE (by decide +kernel : decode cX5_mostUrgent 60 = .ok (.if_icmp .ge 5, 3)) (tgt := 65) (by decide) (fun q => ?_) (fun q => ?_)
      · have h := h.1 q
        refine j_weak [some (.ref l0), some (.int l1), some (.int l2), some (.int l3), none] ⟨rfl, ⟨rfl, ⟨rfl, ⟨rfl, trivial⟩⟩⟩⟩ ?_
        exact S_Pr_mostUrgent_65 hE hK4 _ _ _ _ _ h
      · have h := h.2 q
        refine j_weak [some (.ref l0), some (.int l1), none, some (.int l3), none] ⟨rfl, ⟨rfl, ⟨rfl, trivial⟩⟩⟩ ?_
        exact S_Pr_mostUrgent_63 hE hK4 _ _ _ _ h
set_option maxRecDepth 100000 in
def B_Pr_mostUrgent_35 (Γ : GAM) (K4 : Nat → Int32 → Int32 → Int32 → GH → Prop) (K : Int32 → GH → Prop) (l0 : Nat) (l1 : Int32) (l2 : Int32) (l3 : Int32) (g : GH) : Prop :=
  B_Pr_mostUrgent_36 Γ K4 K l0 l1 l2 l3 (0 : Int32) g
set_option maxHeartbeats 4000000 in
set_option maxRecDepth 100000 in
theorem S_Pr_mostUrgent_35 {Γ : GAM} {E : EV} {K : Int32 → GH → Prop} (hE : GE Γ E cX5_mostUrgent 5 RX5 (some (.int)) 0 0 (fun r g' => ∃ x, r = some (.int x) ∧ K x g')) {K4 : Nat → Int32 → Int32 → Int32 → GH → Prop} (hK4 : ∀ (l0 : Nat) (l1 : Int32) (l2 : Int32) (l3 : Int32) (g : GH), K4 l0 l1 l2 l3 g → JW Γ E 4 [some (.ref l0), some (.int l1), some (.int l2), some (.int l3), none] [] g) (l0 : Nat) (l1 : Int32) (l2 : Int32) (l3 : Int32) (g : GH) (h : B_Pr_mostUrgent_35 Γ K4 K l0 l1 l2 l3 g) : JW Γ E 35 [some (.ref l0), some (.int l1), some (.int l2), some (.int l3), none] [] g := by
  unfold B_Pr_mostUrgent_35 at h
  refine j_iconst hE (by decide +kernel : decode cX5_mostUrgent 35 = .ok (.iconst 0, 1)) (v := (0 : Int32)) (by decide) ?_
  exact S_Pr_mostUrgent_36 hE hK4 _ _ _ _ _ _ h
set_option maxRecDepth 100000 in
def B_Pr_mostUrgent_4 (Γ : GAM) (K4 : Nat → Int32 → Int32 → Int32 → GH → Prop) (K : Int32 → GH → Prop) (l0 : Nat) (l1 : Int32) (l2 : Int32) (l3 : Int32) (g : GH) : Prop :=
  Kd g l0 = 7 ∧ (((Gi g 773 l0) ≤ l3 → K l2 g) ∧ (¬ ((Gi g 773 l0) ≤ l3) → Kd g l0 = 7 ∧ ∃ a1 : Nat, Gr g 771 l0 = some a1 ∧ Kd g a1 = 20 ∧ inB l3 (Ln g a1) ∧ (((Ia g (Co g a1) (Ow g a1) l3.toNatClampNeg) ≤ 0 → B_Pr_mostUrgent_35 Γ K4 K l0 l1 l2 l3 g) ∧ (¬ ((Ia g (Co g a1) (Ow g a1) l3.toNatClampNeg) ≤ 0) → Kd g l0 = 7 ∧ ∃ a2 : Nat, Gr g 769 l0 = some a2 ∧ Kd g a2 = 20 ∧ inB l3 (Ln g a2) ∧ ((l1 < (Ia g (Co g a2) (Ow g a2) l3.toNatClampNeg) → B_Pr_mostUrgent_35 Γ K4 K l0 l1 l2 l3 g) ∧ (¬ (l1 < (Ia g (Co g a2) (Ow g a2) l3.toNatClampNeg)) → B_Pr_mostUrgent_36 Γ K4 K l0 l1 l2 l3 (1 : Int32) g))))))
set_option maxHeartbeats 4000000 in
set_option maxRecDepth 100000 in
theorem S_Pr_mostUrgent_4 {Γ : GAM} {E : EV} {K : Int32 → GH → Prop} (hE : GE Γ E cX5_mostUrgent 5 RX5 (some (.int)) 0 0 (fun r g' => ∃ x, r = some (.int x) ∧ K x g')) {K4 : Nat → Int32 → Int32 → Int32 → GH → Prop} (hK4 : ∀ (l0 : Nat) (l1 : Int32) (l2 : Int32) (l3 : Int32) (g : GH), K4 l0 l1 l2 l3 g → JW Γ E 4 [some (.ref l0), some (.int l1), some (.int l2), some (.int l3), none] [] g) (l0 : Nat) (l1 : Int32) (l2 : Int32) (l3 : Int32) (g : GH) (h : B_Pr_mostUrgent_4 Γ K4 K l0 l1 l2 l3 g) : JW Γ E 4 [some (.ref l0), some (.int l1), some (.int l2), some (.int l3), none] [] g := by
  unfold B_Pr_mostUrgent_4 at h
  refine j_iload_n hE (by decide +kernel : decode cX5_mostUrgent 4 = .ok (.iload_n 3, 1)) rfl rfl ?_
  refine j_aload_n hE (by decide +kernel : decode cX5_mostUrgent 5 = .ok (.aload_n 0, 1)) rfl rfl ?_
  obtain ⟨hk, h⟩ := h
  refine j_getI hE fg_X5_31 hk (by decide +kernel : decode cX5_mostUrgent 6 = .ok (.getfield 31, 3)) ?_
  refine j_icmp_ge hE (by decide +kernel : decode cX5_mostUrgent 9 = .ok (.if_icmp .ge 62, 3)) (tgt := 71) (by decide) (fun q => ?_) (fun q => ?_)
  · have h := h.1 q
    refine j_iload_n hE (by decide +kernel : decode cX5_mostUrgent 71 = .ok (.iload_n 2, 1)) rfl rfl ?_
    exact j_iret hE (by decide +kernel : decode cX5_mostUrgent 72 = .ok (.ireturn, 1)) ⟨_, rfl, h⟩
  · have h := h.2 q
    refine j_aload_n hE (by decide +kernel : decode cX5_mostUrgent 12 = .ok (.aload_n 0, 1)) rfl rfl ?_
    obtain ⟨hk, h⟩ := h
    obtain ⟨a1, ha, h⟩ := h
    refine j_getRn hE fg_X5_21 hk ha (by decide +kernel : decode cX5_mostUrgent 13 = .ok (.getfield 21, 3)) ?_
    refine j_iload_n hE (by decide +kernel : decode cX5_mostUrgent 16 = .ok (.iload_n 3, 1)) rfl rfl ?_
    obtain ⟨hk, hb, h⟩ := h
    refine j_iald hE hk hb (by decide +kernel : decode cX5_mostUrgent 17 = .ok (.iaload, 1)) ?_
    refine j_if_le hE (by decide +kernel : decode cX5_mostUrgent 18 = .ok (.ifCond .le 17, 3)) (tgt := 35) (by decide) (fun q => ?_) (fun q => ?_)
    · have h := h.1 q
      exact S_Pr_mostUrgent_35 hE hK4 _ _ _ _ _ h
    · have h := h.2 q
      refine j_aload_n hE (by decide +kernel : decode cX5_mostUrgent 21 = .ok (.aload_n 0, 1)) rfl rfl ?_
      obtain ⟨hk, h⟩ := h
      obtain ⟨a2, ha, h⟩ := h
      refine j_getRn hE fg_X5_15 hk ha (by decide +kernel : decode cX5_mostUrgent 22 = .ok (.getfield 15, 3)) ?_
      refine j_iload_n hE (by decide +kernel : decode cX5_mostUrgent 25 = .ok (.iload_n 3, 1)) rfl rfl ?_
      obtain ⟨hk, hb, h⟩ := h
      refine j_iald hE hk hb (by decide +kernel : decode cX5_mostUrgent 26 = .ok (.iaload, 1)) ?_
      refine j_iload_n hE (by decide +kernel : decode cX5_mostUrgent 27 = .ok (.iload_n 1, 1)) rfl rfl ?_
      refine j_icmp_gt hE (by decide +kernel : decode cX5_mostUrgent 28 = .ok (.if_icmp .gt 7, 3)) (tgt := 35) (by decide) (fun q => ?_) (fun q => ?_)
      · have h := h.1 q
        exact S_Pr_mostUrgent_35 hE hK4 _ _ _ _ _ h
      · have h := h.2 q
        refine j_iconst hE (by decide +kernel : decode cX5_mostUrgent 31 = .ok (.iconst 1, 1)) (v := (1 : Int32)) (by decide) ?_
        refine j_goto hE (by decide +kernel : decode cX5_mostUrgent 32 = .ok (.goto 4, 3)) (tgt := 36) (by decide) ?_
        exact S_Pr_mostUrgent_36 hE hK4 _ _ _ _ _ _ h
set_option maxRecDepth 100000 in
def B_Pr_mostUrgent_0 (Γ : GAM) (K4 : Nat → Int32 → Int32 → Int32 → GH → Prop) (K : Int32 → GH → Prop) (th : Nat) (p0 : Int32) (g : GH) : Prop :=
  K4 th p0 (-1 : Int32) (0 : Int32) g
set_option maxHeartbeats 4000000 in
set_option maxRecDepth 100000 in
theorem S_Pr_mostUrgent_0 {Γ : GAM} {E : EV} {K : Int32 → GH → Prop} (hE : GE Γ E cX5_mostUrgent 5 RX5 (some (.int)) 0 0 (fun r g' => ∃ x, r = some (.int x) ∧ K x g')) {K4 : Nat → Int32 → Int32 → Int32 → GH → Prop} (hK4 : ∀ (l0 : Nat) (l1 : Int32) (l2 : Int32) (l3 : Int32) (g : GH), K4 l0 l1 l2 l3 g → JW Γ E 4 [some (.ref l0), some (.int l1), some (.int l2), some (.int l3), none] [] g) (th : Nat) (p0 : Int32) (g : GH) (h : B_Pr_mostUrgent_0 Γ K4 K th p0 g) : JW Γ E 0 [some (.ref th), some (.int p0), none, none, none] [] g := by
  unfold B_Pr_mostUrgent_0 at h
  refine j_iconst hE (by decide +kernel : decode cX5_mostUrgent 0 = .ok (.iconst (-1), 1)) (v := (-1 : Int32)) (by decide) ?_
  refine j_istore_n hE (by decide +kernel : decode cX5_mostUrgent 1 = .ok (.istore_n 2, 1)) rfl (Nat.le_of_ble_eq_true rfl) rfl ?_
  refine j_iconst hE (by decide +kernel : decode cX5_mostUrgent 2 = .ok (.iconst 0, 1)) (v := (0 : Int32)) (by decide) ?_
  refine j_istore_n hE (by decide +kernel : decode cX5_mostUrgent 3 = .ok (.istore_n 3, 1)) rfl (Nat.le_of_ble_eq_true rfl) rfl ?_
  exact hK4 _ _ _ _ _ h
set_option maxHeartbeats 4000000 in
set_option maxRecDepth 100000 in
theorem rl_Pr_mostUrgent {Γ : GAM} {l : Launch} {th : Nat} {p0 : Int32} {g : GH} {K : Int32 → GH → Prop} (I4 : Nat → Nat → Int32 → Int32 → Int32 → GH → Prop) (hh4 : ∀ n (l0 : Nat) (l1 : Int32) (l2 : Int32) (l3 : Int32) (g : GH), I4 n l0 l1 l2 l3 g → B_Pr_mostUrgent_4 Γ (fun l0 l1 l2 l3 g => ∃ m, m < n ∧ I4 m l0 l1 l2 l3 g) K l0 l1 l2 l3 g) (h0 : B_Pr_mostUrgent_0 Γ (fun l0 l1 l2 l3 g => ∃ m, I4 m l0 l1 l2 l3 g) K th p0 g) : MetA Γ l yX5_mostUrgent cX5_mostUrgent 5 (some (.int)) 0 0 [.ref th, .int p0] g (fun r g' => ∃ x, r = some (.int x) ∧ K x g') := by
  refine MetA.introL (Lx := [some (.ref th), some (.int p0), none, none, none]) (by decide) (Nat.le_of_ble_eq_true rfl) rfl rfl ?_
  intro E hEl hE hnm
  have hall : ∀ n, (∀ (l0 : Nat) (l1 : Int32) (l2 : Int32) (l3 : Int32) (g : GH), I4 n l0 l1 l2 l3 g → JW Γ E 4 [some (.ref l0), some (.int l1), some (.int l2), some (.int l3), none] [] g) := by
    intro n
    induction n using Nat.strongRecOn with
    | ind n ih =>
      exact fun l0 l1 l2 l3 g hi => S_Pr_mostUrgent_4 hE (fun l0 l1 l2 l3 g hm => by obtain ⟨m, hm, h⟩ := hm; exact (ih m hm) l0 l1 l2 l3 g h) l0 l1 l2 l3 g (hh4 n l0 l1 l2 l3 g hi)
  exact S_Pr_mostUrgent_0 hE (fun l0 l1 l2 l3 g hm => by obtain ⟨m, h⟩ := hm; exact (hall m) l0 l1 l2 l3 g h) th p0 g h0
-- the walk of Pr_nextReady
set_option maxRecDepth 100000 in
def B_Pr_nextReady_65 (Γ : GAM) (K4 : Nat → Int32 → Int32 → Int32 → GH → Prop) (K : Int32 → GH → Prop) (l0 : Nat) (l1 : Int32) (l2 : Int32) (l3 : Int32) (g : GH) : Prop :=
  K4 l0 l1 l2 (l3 + (1 : Int32)) g
set_option maxHeartbeats 4000000 in
set_option maxRecDepth 100000 in
theorem S_Pr_nextReady_65 {Γ : GAM} {E : EV} {K : Int32 → GH → Prop} (hE : GE Γ E cX5_nextReady 5 RX5 (some (.int)) 0 0 (fun r g' => ∃ x, r = some (.int x) ∧ K x g')) {K4 : Nat → Int32 → Int32 → Int32 → GH → Prop} (hK4 : ∀ (l0 : Nat) (l1 : Int32) (l2 : Int32) (l3 : Int32) (g : GH), K4 l0 l1 l2 l3 g → JW Γ E 4 [some (.ref l0), some (.int l1), some (.int l2), some (.int l3), none] [] g) (l0 : Nat) (l1 : Int32) (l2 : Int32) (l3 : Int32) (g : GH) (h : B_Pr_nextReady_65 Γ K4 K l0 l1 l2 l3 g) : JW Γ E 65 [some (.ref l0), some (.int l1), some (.int l2), some (.int l3), none] [] g := by
  unfold B_Pr_nextReady_65 at h
  refine j_iinc hE (by decide +kernel : decode cX5_nextReady 65 = .ok (.iinc 3 1, 3)) (v := (1 : Int32)) (by decide) rfl (Nat.le_of_ble_eq_true rfl) rfl ?_
  refine j_goto hE (by decide +kernel : decode cX5_nextReady 68 = .ok (.goto (-64), 3)) (tgt := 4) (by decide) ?_
  exact hK4 _ _ _ _ _ h
set_option maxRecDepth 100000 in
def B_Pr_nextReady_58 (Γ : GAM) (K4 : Nat → Int32 → Int32 → Int32 → GH → Prop) (K : Int32 → GH → Prop) (l0 : Nat) (l1 : Int32) (l3 : Int32) (g : GH) : Prop :=
  Kd g l0 = 7 ∧ ∃ a1 : Nat, Gr g 769 l0 = some a1 ∧ Kd g a1 = 20 ∧ inB l3 (Ln g a1) ∧ ∀ x2 : Int32, x2 = (Ia g (Co g a1) (Ow g a1) l3.toNatClampNeg) → B_Pr_nextReady_65 Γ K4 K l0 l1 x2 l3 g
set_option maxHeartbeats 4000000 in
set_option maxRecDepth 100000 in
theorem S_Pr_nextReady_58 {Γ : GAM} {E : EV} {K : Int32 → GH → Prop} (hE : GE Γ E cX5_nextReady 5 RX5 (some (.int)) 0 0 (fun r g' => ∃ x, r = some (.int x) ∧ K x g')) {K4 : Nat → Int32 → Int32 → Int32 → GH → Prop} (hK4 : ∀ (l0 : Nat) (l1 : Int32) (l2 : Int32) (l3 : Int32) (g : GH), K4 l0 l1 l2 l3 g → JW Γ E 4 [some (.ref l0), some (.int l1), some (.int l2), some (.int l3), none] [] g) (l0 : Nat) (l1 : Int32) (l3 : Int32) (g : GH) (h : B_Pr_nextReady_58 Γ K4 K l0 l1 l3 g) : JW Γ E 58 [some (.ref l0), some (.int l1), none, some (.int l3), none] [] g := by
  unfold B_Pr_nextReady_58 at h
  refine j_aload_n hE (by decide +kernel : decode cX5_nextReady 58 = .ok (.aload_n 0, 1)) rfl rfl ?_
  obtain ⟨hk, h⟩ := h
  obtain ⟨a1, ha, h⟩ := h
  refine j_getRn hE fg_X5_15 hk ha (by decide +kernel : decode cX5_nextReady 59 = .ok (.getfield 15, 3)) ?_
  refine j_iload_n hE (by decide +kernel : decode cX5_nextReady 62 = .ok (.iload_n 3, 1)) rfl rfl ?_
  obtain ⟨hk, hb, h⟩ := h
  refine j_iald hE hk hb (by decide +kernel : decode cX5_nextReady 63 = .ok (.iaload, 1)) ?_
  obtain ⟨x2, hx⟩ : ∃ z, z = (Ia g (Co g a1) (Ow g a1) l3.toNatClampNeg) := ⟨_, rfl⟩; have h := h x2 hx; rw [← hx]
  refine j_istore_n hE (by decide +kernel : decode cX5_nextReady 64 = .ok (.istore_n 2, 1)) rfl (Nat.le_of_ble_eq_true rfl) rfl ?_
  exact S_Pr_nextReady_65 hE hK4 _ _ _ _ _ h
set_option maxRecDepth 100000 in
def B_Pr_nextReady_36 (Γ : GAM) (K4 : Nat → Int32 → Int32 → Int32 → GH → Prop) (K : Int32 → GH → Prop) (l0 : Nat) (l1 : Int32) (l2 : Int32) (l3 : Int32) (s0 : Int32) (g : GH) : Prop :=
  ((s0 = 0 → B_Pr_nextReady_65 Γ K4 K l0 l1 l2 l3 g) ∧ (¬ (s0 = 0) → ((l2 = (-1 : Int32) → B_Pr_nextReady_58 Γ K4 K l0 l1 l3 g) ∧ (¬ (l2 = (-1 : Int32)) → Kd g l0 = 7 ∧ ∃ a1 : Nat, Gr g 769 l0 = some a1 ∧ Kd g a1 = 20 ∧ inB l3 (Ln g a1) ∧ ((l2 ≤ (Ia g (Co g a1) (Ow g a1) l3.toNatClampNeg) → B_Pr_nextReady_65 Γ K4 K l0 l1 l2 l3 g) ∧ (¬ (l2 ≤ (Ia g (Co g a1) (Ow g a1) l3.toNatClampNeg)) → B_Pr_nextReady_58 Γ K4 K l0 l1 l3 g))))))
set_option maxHeartbeats 4000000 in
set_option maxRecDepth 100000 in
theorem S_Pr_nextReady_36 {Γ : GAM} {E : EV} {K : Int32 → GH → Prop} (hE : GE Γ E cX5_nextReady 5 RX5 (some (.int)) 0 0 (fun r g' => ∃ x, r = some (.int x) ∧ K x g')) {K4 : Nat → Int32 → Int32 → Int32 → GH → Prop} (hK4 : ∀ (l0 : Nat) (l1 : Int32) (l2 : Int32) (l3 : Int32) (g : GH), K4 l0 l1 l2 l3 g → JW Γ E 4 [some (.ref l0), some (.int l1), some (.int l2), some (.int l3), none] [] g) (l0 : Nat) (l1 : Int32) (l2 : Int32) (l3 : Int32) (s0 : Int32) (g : GH) (h : B_Pr_nextReady_36 Γ K4 K l0 l1 l2 l3 s0 g) : JW Γ E 36 [some (.ref l0), some (.int l1), some (.int l2), some (.int l3), none] [.int s0] g := by
  unfold B_Pr_nextReady_36 at h
  refine j_istore hE (by decide +kernel : decode cX5_nextReady 36 = .ok (.istore 4, 2)) (Nat.le_of_ble_eq_true rfl) rfl ?_
  refine j_iload hE (by decide +kernel : decode cX5_nextReady 38 = .ok (.iload 4, 2)) rfl ?_
  refine j_if_eq hE (by decide +kernel : decode cX5_nextReady 40 = .ok (.ifCond .eq 25, 3)) (tgt := 65) (by decide) (fun q => ?_) (fun q => ?_)
  · have h := h.1 q
    refine j_weak [some (.ref l0), some (.int l1), some (.int l2), some (.int l3), none] ⟨rfl, ⟨rfl, ⟨rfl, ⟨rfl, trivial⟩⟩⟩⟩ ?_
    exact S_Pr_nextReady_65 hE hK4 _ _ _ _ _ h
  · have h := h.2 q
    refine j_iload_n hE (by decide +kernel : decode cX5_nextReady 43 = .ok (.iload_n 2, 1)) rfl rfl ?_
    refine j_iconst hE (by decide +kernel : decode cX5_nextReady 44 = .ok (.iconst (-1), 1)) (v := (-1 : Int32)) (by decide) ?_
    refine j_icmp_eq hE (by decide +kernel : decode cX5_nextReady 45 = .ok (.if_icmp .eq 13, 3)) (tgt := 58) (by decide) (fun q => ?_) (fun q => ?_)
    · have h := h.1 q
      refine j_weak [some (.ref l0), some (.int l1), none, some (.int l3), none] ⟨rfl, ⟨rfl, ⟨rfl, trivial⟩⟩⟩ ?_
      exact S_Pr_nextReady_58 hE hK4 _ _ _ _ h
    · have h := h.2 q
      refine j_aload_n hE (by decide +kernel : decode cX5_nextReady 48 = .ok (.aload_n 0, 1)) rfl rfl ?_
      obtain ⟨hk, h⟩ := h
      obtain ⟨a1, ha, h⟩ := h
      refine j_getRn hE fg_X5_15 hk ha (by decide +kernel : decode cX5_nextReady 49 = .ok (.getfield 15, 3)) ?_
      refine j_iload_n hE (by decide +kernel : decode cX5_nextReady 52 = .ok (.iload_n 3, 1)) rfl rfl ?_
      obtain ⟨hk, hb, h⟩ := h
      refine j_iald hE hk hb (by decide +kernel : decode cX5_nextReady 53 = .ok (.iaload, 1)) ?_
      refine j_iload_n hE (by decide +kernel : decode cX5_nextReady 54 = .ok (.iload_n 2, 1)) rfl rfl ?_
      refine j_icmp_ge hE (by decide +kernel : decode cX5_nextReady 55 = .ok (.if_icmp .ge 10, 3)) (tgt := 65) (by decide) (fun q => ?_) (fun q => ?_)
      · have h := h.1 q
        refine j_weak [some (.ref l0), some (.int l1), some (.int l2), some (.int l3), none] ⟨rfl, ⟨rfl, ⟨rfl, ⟨rfl, trivial⟩⟩⟩⟩ ?_
        exact S_Pr_nextReady_65 hE hK4 _ _ _ _ _ h
      · have h := h.2 q
        refine j_weak [some (.ref l0), some (.int l1), none, some (.int l3), none] ⟨rfl, ⟨rfl, ⟨rfl, trivial⟩⟩⟩ ?_
        exact S_Pr_nextReady_58 hE hK4 _ _ _ _ h
set_option maxRecDepth 100000 in
def B_Pr_nextReady_35 (Γ : GAM) (K4 : Nat → Int32 → Int32 → Int32 → GH → Prop) (K : Int32 → GH → Prop) (l0 : Nat) (l1 : Int32) (l2 : Int32) (l3 : Int32) (g : GH) : Prop :=
  B_Pr_nextReady_36 Γ K4 K l0 l1 l2 l3 (0 : Int32) g
set_option maxHeartbeats 4000000 in
set_option maxRecDepth 100000 in
theorem S_Pr_nextReady_35 {Γ : GAM} {E : EV} {K : Int32 → GH → Prop} (hE : GE Γ E cX5_nextReady 5 RX5 (some (.int)) 0 0 (fun r g' => ∃ x, r = some (.int x) ∧ K x g')) {K4 : Nat → Int32 → Int32 → Int32 → GH → Prop} (hK4 : ∀ (l0 : Nat) (l1 : Int32) (l2 : Int32) (l3 : Int32) (g : GH), K4 l0 l1 l2 l3 g → JW Γ E 4 [some (.ref l0), some (.int l1), some (.int l2), some (.int l3), none] [] g) (l0 : Nat) (l1 : Int32) (l2 : Int32) (l3 : Int32) (g : GH) (h : B_Pr_nextReady_35 Γ K4 K l0 l1 l2 l3 g) : JW Γ E 35 [some (.ref l0), some (.int l1), some (.int l2), some (.int l3), none] [] g := by
  unfold B_Pr_nextReady_35 at h
  refine j_iconst hE (by decide +kernel : decode cX5_nextReady 35 = .ok (.iconst 0, 1)) (v := (0 : Int32)) (by decide) ?_
  exact S_Pr_nextReady_36 hE hK4 _ _ _ _ _ _ h
set_option maxRecDepth 100000 in
def B_Pr_nextReady_4 (Γ : GAM) (K4 : Nat → Int32 → Int32 → Int32 → GH → Prop) (K : Int32 → GH → Prop) (l0 : Nat) (l1 : Int32) (l2 : Int32) (l3 : Int32) (g : GH) : Prop :=
  Kd g l0 = 7 ∧ (((Gi g 773 l0) ≤ l3 → K l2 g) ∧ (¬ ((Gi g 773 l0) ≤ l3) → Kd g l0 = 7 ∧ ∃ a1 : Nat, Gr g 771 l0 = some a1 ∧ Kd g a1 = 20 ∧ inB l3 (Ln g a1) ∧ (((Ia g (Co g a1) (Ow g a1) l3.toNatClampNeg) ≤ 0 → B_Pr_nextReady_35 Γ K4 K l0 l1 l2 l3 g) ∧ (¬ ((Ia g (Co g a1) (Ow g a1) l3.toNatClampNeg) ≤ 0) → Kd g l0 = 7 ∧ ∃ a2 : Nat, Gr g 769 l0 = some a2 ∧ Kd g a2 = 20 ∧ inB l3 (Ln g a2) ∧ (((Ia g (Co g a2) (Ow g a2) l3.toNatClampNeg) ≤ l1 → B_Pr_nextReady_35 Γ K4 K l0 l1 l2 l3 g) ∧ (¬ ((Ia g (Co g a2) (Ow g a2) l3.toNatClampNeg) ≤ l1) → B_Pr_nextReady_36 Γ K4 K l0 l1 l2 l3 (1 : Int32) g))))))
set_option maxHeartbeats 4000000 in
set_option maxRecDepth 100000 in
theorem S_Pr_nextReady_4 {Γ : GAM} {E : EV} {K : Int32 → GH → Prop} (hE : GE Γ E cX5_nextReady 5 RX5 (some (.int)) 0 0 (fun r g' => ∃ x, r = some (.int x) ∧ K x g')) {K4 : Nat → Int32 → Int32 → Int32 → GH → Prop} (hK4 : ∀ (l0 : Nat) (l1 : Int32) (l2 : Int32) (l3 : Int32) (g : GH), K4 l0 l1 l2 l3 g → JW Γ E 4 [some (.ref l0), some (.int l1), some (.int l2), some (.int l3), none] [] g) (l0 : Nat) (l1 : Int32) (l2 : Int32) (l3 : Int32) (g : GH) (h : B_Pr_nextReady_4 Γ K4 K l0 l1 l2 l3 g) : JW Γ E 4 [some (.ref l0), some (.int l1), some (.int l2), some (.int l3), none] [] g := by
  unfold B_Pr_nextReady_4 at h
  refine j_iload_n hE (by decide +kernel : decode cX5_nextReady 4 = .ok (.iload_n 3, 1)) rfl rfl ?_
  refine j_aload_n hE (by decide +kernel : decode cX5_nextReady 5 = .ok (.aload_n 0, 1)) rfl rfl ?_
  obtain ⟨hk, h⟩ := h
  refine j_getI hE fg_X5_31 hk (by decide +kernel : decode cX5_nextReady 6 = .ok (.getfield 31, 3)) ?_
  refine j_icmp_ge hE (by decide +kernel : decode cX5_nextReady 9 = .ok (.if_icmp .ge 62, 3)) (tgt := 71) (by decide) (fun q => ?_) (fun q => ?_)
  · have h := h.1 q
    refine j_iload_n hE (by decide +kernel : decode cX5_nextReady 71 = .ok (.iload_n 2, 1)) rfl rfl ?_
    exact j_iret hE (by decide +kernel : decode cX5_nextReady 72 = .ok (.ireturn, 1)) ⟨_, rfl, h⟩
  · have h := h.2 q
    refine j_aload_n hE (by decide +kernel : decode cX5_nextReady 12 = .ok (.aload_n 0, 1)) rfl rfl ?_
    obtain ⟨hk, h⟩ := h
    obtain ⟨a1, ha, h⟩ := h
    refine j_getRn hE fg_X5_21 hk ha (by decide +kernel : decode cX5_nextReady 13 = .ok (.getfield 21, 3)) ?_
    refine j_iload_n hE (by decide +kernel : decode cX5_nextReady 16 = .ok (.iload_n 3, 1)) rfl rfl ?_
    obtain ⟨hk, hb, h⟩ := h
    refine j_iald hE hk hb (by decide +kernel : decode cX5_nextReady 17 = .ok (.iaload, 1)) ?_
    refine j_if_le hE (by decide +kernel : decode cX5_nextReady 18 = .ok (.ifCond .le 17, 3)) (tgt := 35) (by decide) (fun q => ?_) (fun q => ?_)
    · have h := h.1 q
      exact S_Pr_nextReady_35 hE hK4 _ _ _ _ _ h
    · have h := h.2 q
      refine j_aload_n hE (by decide +kernel : decode cX5_nextReady 21 = .ok (.aload_n 0, 1)) rfl rfl ?_
      obtain ⟨hk, h⟩ := h
      obtain ⟨a2, ha, h⟩ := h
      refine j_getRn hE fg_X5_15 hk ha (by decide +kernel : decode cX5_nextReady 22 = .ok (.getfield 15, 3)) ?_
      refine j_iload_n hE (by decide +kernel : decode cX5_nextReady 25 = .ok (.iload_n 3, 1)) rfl rfl ?_
      obtain ⟨hk, hb, h⟩ := h
      refine j_iald hE hk hb (by decide +kernel : decode cX5_nextReady 26 = .ok (.iaload, 1)) ?_
      refine j_iload_n hE (by decide +kernel : decode cX5_nextReady 27 = .ok (.iload_n 1, 1)) rfl rfl ?_
      refine j_icmp_le hE (by decide +kernel : decode cX5_nextReady 28 = .ok (.if_icmp .le 7, 3)) (tgt := 35) (by decide) (fun q => ?_) (fun q => ?_)
      · have h := h.1 q
        exact S_Pr_nextReady_35 hE hK4 _ _ _ _ _ h
      · have h := h.2 q
        refine j_iconst hE (by decide +kernel : decode cX5_nextReady 31 = .ok (.iconst 1, 1)) (v := (1 : Int32)) (by decide) ?_
        refine j_goto hE (by decide +kernel : decode cX5_nextReady 32 = .ok (.goto 4, 3)) (tgt := 36) (by decide) ?_
        exact S_Pr_nextReady_36 hE hK4 _ _ _ _ _ _ h
set_option maxRecDepth 100000 in
def B_Pr_nextReady_0 (Γ : GAM) (K4 : Nat → Int32 → Int32 → Int32 → GH → Prop) (K : Int32 → GH → Prop) (th : Nat) (p0 : Int32) (g : GH) : Prop :=
  K4 th p0 (-1 : Int32) (0 : Int32) g
set_option maxHeartbeats 4000000 in
set_option maxRecDepth 100000 in
theorem S_Pr_nextReady_0 {Γ : GAM} {E : EV} {K : Int32 → GH → Prop} (hE : GE Γ E cX5_nextReady 5 RX5 (some (.int)) 0 0 (fun r g' => ∃ x, r = some (.int x) ∧ K x g')) {K4 : Nat → Int32 → Int32 → Int32 → GH → Prop} (hK4 : ∀ (l0 : Nat) (l1 : Int32) (l2 : Int32) (l3 : Int32) (g : GH), K4 l0 l1 l2 l3 g → JW Γ E 4 [some (.ref l0), some (.int l1), some (.int l2), some (.int l3), none] [] g) (th : Nat) (p0 : Int32) (g : GH) (h : B_Pr_nextReady_0 Γ K4 K th p0 g) : JW Γ E 0 [some (.ref th), some (.int p0), none, none, none] [] g := by
  unfold B_Pr_nextReady_0 at h
  refine j_iconst hE (by decide +kernel : decode cX5_nextReady 0 = .ok (.iconst (-1), 1)) (v := (-1 : Int32)) (by decide) ?_
  refine j_istore_n hE (by decide +kernel : decode cX5_nextReady 1 = .ok (.istore_n 2, 1)) rfl (Nat.le_of_ble_eq_true rfl) rfl ?_
  refine j_iconst hE (by decide +kernel : decode cX5_nextReady 2 = .ok (.iconst 0, 1)) (v := (0 : Int32)) (by decide) ?_
  refine j_istore_n hE (by decide +kernel : decode cX5_nextReady 3 = .ok (.istore_n 3, 1)) rfl (Nat.le_of_ble_eq_true rfl) rfl ?_
  exact hK4 _ _ _ _ _ h
set_option maxHeartbeats 4000000 in
set_option maxRecDepth 100000 in
theorem rl_Pr_nextReady {Γ : GAM} {l : Launch} {th : Nat} {p0 : Int32} {g : GH} {K : Int32 → GH → Prop} (I4 : Nat → Nat → Int32 → Int32 → Int32 → GH → Prop) (hh4 : ∀ n (l0 : Nat) (l1 : Int32) (l2 : Int32) (l3 : Int32) (g : GH), I4 n l0 l1 l2 l3 g → B_Pr_nextReady_4 Γ (fun l0 l1 l2 l3 g => ∃ m, m < n ∧ I4 m l0 l1 l2 l3 g) K l0 l1 l2 l3 g) (h0 : B_Pr_nextReady_0 Γ (fun l0 l1 l2 l3 g => ∃ m, I4 m l0 l1 l2 l3 g) K th p0 g) : MetA Γ l yX5_nextReady cX5_nextReady 5 (some (.int)) 0 0 [.ref th, .int p0] g (fun r g' => ∃ x, r = some (.int x) ∧ K x g') := by
  refine MetA.introL (Lx := [some (.ref th), some (.int p0), none, none, none]) (by decide) (Nat.le_of_ble_eq_true rfl) rfl rfl ?_
  intro E hEl hE hnm
  have hall : ∀ n, (∀ (l0 : Nat) (l1 : Int32) (l2 : Int32) (l3 : Int32) (g : GH), I4 n l0 l1 l2 l3 g → JW Γ E 4 [some (.ref l0), some (.int l1), some (.int l2), some (.int l3), none] [] g) := by
    intro n
    induction n using Nat.strongRecOn with
    | ind n ih =>
      exact fun l0 l1 l2 l3 g hi => S_Pr_nextReady_4 hE (fun l0 l1 l2 l3 g hm => by obtain ⟨m, hm, h⟩ := hm; exact (ih m hm) l0 l1 l2 l3 g h) l0 l1 l2 l3 g (hh4 n l0 l1 l2 l3 g hi)
  exact S_Pr_nextReady_0 hE (fun l0 l1 l2 l3 g hm => by obtain ⟨m, h⟩ := hm; exact (hall m) l0 l1 l2 l3 g h) th p0 g h0
-- the walk of Ta_init
set_option maxRecDepth 100000 in
def B_Ta_init_0 (Γ : GAM) (K : GH → Prop) (th : Nat) (g : GH) : Prop :=
  th < Hn g ∧ free g 896 th ∧ Hn g + 1 ≤ gB Γ + NCC ∧ Hu g + 200 ≤ NSS ∧ ∀ (a1 : Nat) (g2 : GH), a1 = Hn g → g2 = nA g 20 896 th (200) → Kd g2 th = 8 ∧ ∀ g3 : GH, g3 = sR g2 896 th (some a1) → th < Hn g3 ∧ free g3 898 th ∧ Hn g3 + 1 ≤ gB Γ + NCC ∧ Hu g3 + 200 ≤ NSS ∧ ∀ (a4 : Nat) (g5 : GH), a4 = Hn g3 → g5 = nA g3 20 898 th (200) → Kd g5 th = 8 ∧ ∀ g6 : GH, g6 = sR g5 898 th (some a4) → th < Hn g6 ∧ free g6 900 th ∧ Hn g6 + 1 ≤ gB Γ + NCC ∧ Hu g6 + 81 ≤ NSS ∧ ∀ (a7 : Nat) (g8 : GH), a7 = Hn g6 → g8 = nA g6 20 900 th (81) → Kd g8 th = 8 ∧ ∀ g9 : GH, g9 = sR g8 900 th (some a7) → th < Hn g9 ∧ free g9 901 th ∧ Hn g9 + 1 ≤ gB Γ + NCC ∧ Hu g9 + 40 ≤ NSS ∧ ∀ (a10 : Nat) (g11 : GH), a10 = Hn g9 → g11 = nA g9 20 901 th (40) → Kd g11 th = 8 ∧ ∀ g12 : GH, g12 = sR g11 901 th (some a10) → K g12
set_option maxHeartbeats 4000000 in
set_option maxRecDepth 100000 in
theorem S_Ta_init_0 {Γ : GAM} {E : EV} {K : GH → Prop} (hE : GE Γ E cX6_init 1 RX6 none 1 20 (fun r g' => r = none ∧ K g')) (hnm : E.2.2.2.2.2.2.2.2.1.name = "<init>") (th : Nat) (g : GH) (h : B_Ta_init_0 Γ K th g) : JW Γ E 0 [some (.ref th)] [] g := by
  unfold B_Ta_init_0 at h
  refine j_aload_n hE (by decide +kernel : decode cX6_init 0 = .ok (.aload_n 0, 1)) rfl rfl ?_
  refine j_objInit hE rfl ol_X6 oi_in oi_code (Nat.le_of_ble_eq_true rfl) (by omega) (by omega) (by decide +kernel : decode cX6_init 1 = .ok (.invokespecial 3, 3)) ?_
  refine j_aload_n hE (by decide +kernel : decode cX6_init 4 = .ok (.aload_n 0, 1)) rfl rfl ?_
  refine j_sipush hE (by decide +kernel : decode cX6_init 5 = .ok (.sipush 200, 3)) (v := (200 : Int32)) (by decide) ?_
  obtain ⟨ho1, hf1, hn1, hn2, h⟩ := h
  obtain ⟨a1, ha⟩ : ∃ z, z = Hn g := ⟨_, rfl⟩; obtain ⟨g2, hg⟩ : ∃ z, z = nA g 20 896 th (200) := ⟨_, rfl⟩; have h := h a1 g2 ha hg
  refine j_newarray (k := 20) (co := 896) (ow := th) (n := (200)) (atype := .int) hE ac_int (Or.inl ⟨rfl, rfl⟩) (by decide) (by decide) (by decide) ho1 hf1 (by decide +kernel : decode cX6_init 8 = .ok (.newarray .int, 2)) hn1 hn2 ?_
  rw [← hg, ← ha]
  obtain ⟨hk, h⟩ := h
  obtain ⟨g3, hg⟩ : ∃ z, z = sR g2 896 th (some a1) := ⟨_, rfl⟩; have h := h g3 hg
  refine j_putR (v := (some a1)) hE fa_X6_9 hk (fun _ => hnm) (by decide +kernel : decode cX6_init 10 = .ok (.putfield 9, 3)) ?_
  rw [← hg]
  refine j_aload_n hE (by decide +kernel : decode cX6_init 13 = .ok (.aload_n 0, 1)) rfl rfl ?_
  refine j_sipush hE (by decide +kernel : decode cX6_init 14 = .ok (.sipush 200, 3)) (v := (200 : Int32)) (by decide) ?_
  obtain ⟨ho1, hf1, hn1, hn2, h⟩ := h
  obtain ⟨a4, ha⟩ : ∃ z, z = Hn g3 := ⟨_, rfl⟩; obtain ⟨g5, hg⟩ : ∃ z, z = nA g3 20 898 th (200) := ⟨_, rfl⟩; have h := h a4 g5 ha hg
  refine j_newarray (k := 20) (co := 898) (ow := th) (n := (200)) (atype := .int) hE ac_int (Or.inl ⟨rfl, rfl⟩) (by decide) (by decide) (by decide) ho1 hf1 (by decide +kernel : decode cX6_init 17 = .ok (.newarray .int, 2)) hn1 hn2 ?_
  rw [← hg, ← ha]
  obtain ⟨hk, h⟩ := h
  obtain ⟨g6, hg⟩ : ∃ z, z = sR g5 898 th (some a4) := ⟨_, rfl⟩; have h := h g6 hg
  refine j_putR (v := (some a4)) hE fa_X6_15 hk (fun _ => hnm) (by decide +kernel : decode cX6_init 19 = .ok (.putfield 15, 3)) ?_
  rw [← hg]
  refine j_aload_n hE (by decide +kernel : decode cX6_init 22 = .ok (.aload_n 0, 1)) rfl rfl ?_
  refine j_bipush hE (by decide +kernel : decode cX6_init 23 = .ok (.bipush 81, 2)) (v := (81 : Int32)) (by decide) ?_
  obtain ⟨ho1, hf1, hn1, hn2, h⟩ := h
  obtain ⟨a7, ha⟩ : ∃ z, z = Hn g6 := ⟨_, rfl⟩; obtain ⟨g8, hg⟩ : ∃ z, z = nA g6 20 900 th (81) := ⟨_, rfl⟩; have h := h a7 g8 ha hg
  refine j_newarray (k := 20) (co := 900) (ow := th) (n := (81)) (atype := .int) hE ac_int (Or.inl ⟨rfl, rfl⟩) (by decide) (by decide) (by decide) ho1 hf1 (by decide +kernel : decode cX6_init 25 = .ok (.newarray .int, 2)) hn1 hn2 ?_
  rw [← hg, ← ha]
  obtain ⟨hk, h⟩ := h
  obtain ⟨g9, hg⟩ : ∃ z, z = sR g8 900 th (some a7) := ⟨_, rfl⟩; have h := h g9 hg
  refine j_putR (v := (some a7)) hE fa_X6_18 hk (fun _ => hnm) (by decide +kernel : decode cX6_init 27 = .ok (.putfield 18, 3)) ?_
  rw [← hg]
  refine j_aload_n hE (by decide +kernel : decode cX6_init 30 = .ok (.aload_n 0, 1)) rfl rfl ?_
  refine j_bipush hE (by decide +kernel : decode cX6_init 31 = .ok (.bipush 40, 2)) (v := (40 : Int32)) (by decide) ?_
  obtain ⟨ho1, hf1, hn1, hn2, h⟩ := h
  obtain ⟨a10, ha⟩ : ∃ z, z = Hn g9 := ⟨_, rfl⟩; obtain ⟨g11, hg⟩ : ∃ z, z = nA g9 20 901 th (40) := ⟨_, rfl⟩; have h := h a10 g11 ha hg
  refine j_newarray (k := 20) (co := 901) (ow := th) (n := (40)) (atype := .int) hE ac_int (Or.inl ⟨rfl, rfl⟩) (by decide) (by decide) (by decide) ho1 hf1 (by decide +kernel : decode cX6_init 33 = .ok (.newarray .int, 2)) hn1 hn2 ?_
  rw [← hg, ← ha]
  obtain ⟨hk, h⟩ := h
  obtain ⟨g12, hg⟩ : ∃ z, z = sR g11 901 th (some a10) := ⟨_, rfl⟩; have h := h g12 hg
  refine j_putR (v := (some a10)) hE fa_X6_21 hk (fun _ => hnm) (by decide +kernel : decode cX6_init 35 = .ok (.putfield 21, 3)) ?_
  rw [← hg]
  exact j_vret hE (by decide +kernel : decode cX6_init 38 = .ok (.return_, 1)) ⟨rfl, h⟩
set_option maxHeartbeats 4000000 in
set_option maxRecDepth 100000 in
theorem rl_Ta_init {Γ : GAM} {l : Launch} {th : Nat} {g : GH} {K : GH → Prop} (h0 : B_Ta_init_0 Γ K th g) : MetA Γ l yX6_init cX6_init 1 none 1 20 [.ref th] g (fun r g' => r = none ∧ K g') := by
  refine MetA.introL (Lx := [some (.ref th)]) (by decide) (Nat.le_of_ble_eq_true rfl) rfl rfl ?_
  intro E hEl hE hnm
  exact S_Ta_init_0 hE hnm th g h0
-- the walk of Ta_take4
set_option maxRecDepth 100000 in
def B_Ta_take4_51 (Γ : GAM) (K3 : Nat → Int32 → Int32 → GH → Prop) (K : GH → Prop) (l0 : Nat) (l1 : Int32) (l2 : Int32) (g : GH) : Prop :=
  K3 l0 l1 (l2 + (-8 : Int32)) g
set_option maxHeartbeats 4000000 in
set_option maxRecDepth 100000 in
theorem S_Ta_take4_51 {Γ : GAM} {E : EV} {K : GH → Prop} (hE : GE Γ E cX6_take4 4 RX6 none 0 0 (fun r g' => r = none ∧ K g')) {K3 : Nat → Int32 → Int32 → GH → Prop} (hK3 : ∀ (l0 : Nat) (l1 : Int32) (l2 : Int32) (g : GH), K3 l0 l1 l2 g → JW Γ E 3 [some (.ref l0), some (.int l1), some (.int l2), none] [] g) (l0 : Nat) (l1 : Int32) (l2 : Int32) (g : GH) (h : B_Ta_take4_51 Γ K3 K l0 l1 l2 g) : JW Γ E 51 [some (.ref l0), some (.int l1), some (.int l2), none] [] g := by
  unfold B_Ta_take4_51 at h
  refine j_iinc hE (by decide +kernel : decode cX6_take4 51 = .ok (.iinc 2 (-8), 3)) (v := (-8 : Int32)) (by decide) rfl (Nat.le_of_ble_eq_true rfl) rfl ?_
  refine j_goto hE (by decide +kernel : decode cX6_take4 54 = .ok (.goto (-51), 3)) (tgt := 3) (by decide) ?_
  exact hK3 _ _ _ _ h
set_option maxRecDepth 100000 in
def B_Ta_take4_3 (Γ : GAM) (K3 : Nat → Int32 → Int32 → GH → Prop) (K : GH → Prop) (l0 : Nat) (l1 : Int32) (l2 : Int32) (g : GH) : Prop :=
  ((l2 < 0 → K g) ∧ (¬ (l2 < 0) → ∀ x1 : Int32, x1 = (((l1.toUInt32 >>> (l2.toUInt32 &&& Int32.toUInt32 31)).toInt32) &&& (255 : Int32)) → ((x1 = 0 → B_Ta_take4_51 Γ K3 K l0 l1 l2 g) ∧ (¬ (x1 = 0) → Kd g l0 = 8 ∧ Kd g l0 = 8 ∧ ∃ a2 : Nat, Gr g 896 l0 = some a2 ∧ (20 ≤ Kd g a2 ∧ Kd g a2 < 24) ∧ (((Int32.ofNat (Ln g a2)) ≤ (Gi g 897 l0) → B_Ta_take4_51 Γ K3 K l0 l1 l2 g) ∧ (¬ ((Int32.ofNat (Ln g a2)) ≤ (Gi g 897 l0)) → Kd g l0 = 8 ∧ ∃ a3 : Nat, Gr g 896 l0 = some a3 ∧ Kd g l0 = 8 ∧ Kd g a3 = 20 ∧ inB (Gi g 897 l0) (Ln g a3) ∧ ∀ g4 : GH, g4 = sA g (Co g a3) (Ow g a3) (Gi g 897 l0).toNatClampNeg x1 → Kd g4 l0 = 8 ∧ Kd g4 l0 = 8 ∧ ∀ g5 : GH, g5 = sI g4 897 l0 ((Gi g4 897 l0) + (1 : Int32)) → B_Ta_take4_51 Γ K3 K l0 l1 l2 g5))))))
set_option maxHeartbeats 4000000 in
set_option maxRecDepth 100000 in
theorem S_Ta_take4_3 {Γ : GAM} {E : EV} {K : GH → Prop} (hE : GE Γ E cX6_take4 4 RX6 none 0 0 (fun r g' => r = none ∧ K g')) {K3 : Nat → Int32 → Int32 → GH → Prop} (hK3 : ∀ (l0 : Nat) (l1 : Int32) (l2 : Int32) (g : GH), K3 l0 l1 l2 g → JW Γ E 3 [some (.ref l0), some (.int l1), some (.int l2), none] [] g) (l0 : Nat) (l1 : Int32) (l2 : Int32) (g : GH) (h : B_Ta_take4_3 Γ K3 K l0 l1 l2 g) : JW Γ E 3 [some (.ref l0), some (.int l1), some (.int l2), none] [] g := by
  unfold B_Ta_take4_3 at h
  refine j_iload_n hE (by decide +kernel : decode cX6_take4 3 = .ok (.iload_n 2, 1)) rfl rfl ?_
  refine j_if_lt hE (by decide +kernel : decode cX6_take4 4 = .ok (.ifCond .lt 53, 3)) (tgt := 57) (by decide) (fun q => ?_) (fun q => ?_)
  · have h := h.1 q
    exact j_vret hE (by decide +kernel : decode cX6_take4 57 = .ok (.return_, 1)) ⟨rfl, h⟩
  · have h := h.2 q
    refine j_iload_n hE (by decide +kernel : decode cX6_take4 7 = .ok (.iload_n 1, 1)) rfl rfl ?_
    refine j_iload_n hE (by decide +kernel : decode cX6_take4 8 = .ok (.iload_n 2, 1)) rfl rfl ?_
    refine j_iushr hE (by decide +kernel : decode cX6_take4 9 = .ok (.iushr, 1)) ?_
    refine j_sipush hE (by decide +kernel : decode cX6_take4 10 = .ok (.sipush 255, 3)) (v := (255 : Int32)) (by decide) ?_
    refine j_iand hE (by decide +kernel : decode cX6_take4 13 = .ok (.iand, 1)) ?_
    obtain ⟨x1, hx⟩ : ∃ z, z = (((l1.toUInt32 >>> (l2.toUInt32 &&& Int32.toUInt32 31)).toInt32) &&& (255 : Int32)) := ⟨_, rfl⟩; have h := h x1 hx; rw [← hx]
    refine j_istore_n hE (by decide +kernel : decode cX6_take4 14 = .ok (.istore_n 3, 1)) rfl (Nat.le_of_ble_eq_true rfl) rfl ?_
    refine j_iload_n hE (by decide +kernel : decode cX6_take4 15 = .ok (.iload_n 3, 1)) rfl rfl ?_
    refine j_if_eq hE (by decide +kernel : decode cX6_take4 16 = .ok (.ifCond .eq 35, 3)) (tgt := 51) (by decide) (fun q => ?_) (fun q => ?_)
    · have h := h.1 q
      refine j_weak [some (.ref l0), some (.int l1), some (.int l2), none] ⟨rfl, ⟨rfl, ⟨rfl, trivial⟩⟩⟩ ?_
      exact S_Ta_take4_51 hE hK3 _ _ _ _ h
    · have h := h.2 q
      refine j_aload_n hE (by decide +kernel : decode cX6_take4 19 = .ok (.aload_n 0, 1)) rfl rfl ?_
      obtain ⟨hk, h⟩ := h
      refine j_getI hE fg_X6_24 hk (by decide +kernel : decode cX6_take4 20 = .ok (.getfield 24, 3)) ?_
      refine j_aload_n hE (by decide +kernel : decode cX6_take4 23 = .ok (.aload_n 0, 1)) rfl rfl ?_
      obtain ⟨hk, h⟩ := h
      obtain ⟨a2, ha, h⟩ := h
      refine j_getRn hE fg_X6_9 hk ha (by decide +kernel : decode cX6_take4 24 = .ok (.getfield 9, 3)) ?_
      obtain ⟨hk, h⟩ := h
      refine j_alen hE hk (by decide +kernel : decode cX6_take4 27 = .ok (.arraylength, 1)) ?_
      refine j_icmp_ge hE (by decide +kernel : decode cX6_take4 28 = .ok (.if_icmp .ge 23, 3)) (tgt := 51) (by decide) (fun q => ?_) (fun q => ?_)
      · have h := h.1 q
        refine j_weak [some (.ref l0), some (.int l1), some (.int l2), none] ⟨rfl, ⟨rfl, ⟨rfl, trivial⟩⟩⟩ ?_
        exact S_Ta_take4_51 hE hK3 _ _ _ _ h
      · have h := h.2 q
        refine j_aload_n hE (by decide +kernel : decode cX6_take4 31 = .ok (.aload_n 0, 1)) rfl rfl ?_
        obtain ⟨hk, h⟩ := h
        obtain ⟨a3, ha, h⟩ := h
        refine j_getRn hE fg_X6_9 hk ha (by decide +kernel : decode cX6_take4 32 = .ok (.getfield 9, 3)) ?_
        refine j_aload_n hE (by decide +kernel : decode cX6_take4 35 = .ok (.aload_n 0, 1)) rfl rfl ?_
        obtain ⟨hk, h⟩ := h
        refine j_getI hE fg_X6_24 hk (by decide +kernel : decode cX6_take4 36 = .ok (.getfield 24, 3)) ?_
        refine j_iload_n hE (by decide +kernel : decode cX6_take4 39 = .ok (.iload_n 3, 1)) rfl rfl ?_
        obtain ⟨hk, hb, h⟩ := h
        obtain ⟨g4, hg⟩ : ∃ z, z = sA g (Co g a3) (Ow g a3) (Gi g 897 l0).toNatClampNeg x1 := ⟨_, rfl⟩; have h := h g4 hg
        refine j_iast hE hk hb (by decide +kernel : decode cX6_take4 40 = .ok (.iastore, 1)) ?_
        rw [← hg]
        refine j_aload_n hE (by decide +kernel : decode cX6_take4 41 = .ok (.aload_n 0, 1)) rfl rfl ?_
        refine j_dup hE (by decide +kernel : decode cX6_take4 42 = .ok (.dup, 1)) rfl ?_
        obtain ⟨hk, h⟩ := h
        refine j_getI hE fg_X6_24 hk (by decide +kernel : decode cX6_take4 43 = .ok (.getfield 24, 3)) ?_
        refine j_iconst hE (by decide +kernel : decode cX6_take4 46 = .ok (.iconst 1, 1)) (v := (1 : Int32)) (by decide) ?_
        refine j_iadd hE (by decide +kernel : decode cX6_take4 47 = .ok (.iadd, 1)) ?_
        obtain ⟨hk, h⟩ := h
        obtain ⟨g5, hg⟩ : ∃ z, z = sI g4 897 l0 ((Gi g4 897 l0) + (1 : Int32)) := ⟨_, rfl⟩; have h := h g5 hg
        refine j_putI hE fa_X6_24 hk (fun q => by cases q) (by decide +kernel : decode cX6_take4 48 = .ok (.putfield 24, 3)) ?_
        rw [← hg]
        refine j_weak [some (.ref l0), some (.int l1), some (.int l2), none] ⟨rfl, ⟨rfl, ⟨rfl, trivial⟩⟩⟩ ?_
        exact S_Ta_take4_51 hE hK3 _ _ _ _ h
set_option maxRecDepth 100000 in
def B_Ta_take4_0 (Γ : GAM) (K3 : Nat → Int32 → Int32 → GH → Prop) (K : GH → Prop) (th : Nat) (p0 : Int32) (g : GH) : Prop :=
  K3 th p0 (24 : Int32) g
set_option maxHeartbeats 4000000 in
set_option maxRecDepth 100000 in
theorem S_Ta_take4_0 {Γ : GAM} {E : EV} {K : GH → Prop} (hE : GE Γ E cX6_take4 4 RX6 none 0 0 (fun r g' => r = none ∧ K g')) {K3 : Nat → Int32 → Int32 → GH → Prop} (hK3 : ∀ (l0 : Nat) (l1 : Int32) (l2 : Int32) (g : GH), K3 l0 l1 l2 g → JW Γ E 3 [some (.ref l0), some (.int l1), some (.int l2), none] [] g) (th : Nat) (p0 : Int32) (g : GH) (h : B_Ta_take4_0 Γ K3 K th p0 g) : JW Γ E 0 [some (.ref th), some (.int p0), none, none] [] g := by
  unfold B_Ta_take4_0 at h
  refine j_bipush hE (by decide +kernel : decode cX6_take4 0 = .ok (.bipush 24, 2)) (v := (24 : Int32)) (by decide) ?_
  refine j_istore_n hE (by decide +kernel : decode cX6_take4 2 = .ok (.istore_n 2, 1)) rfl (Nat.le_of_ble_eq_true rfl) rfl ?_
  exact hK3 _ _ _ _ h
set_option maxHeartbeats 4000000 in
set_option maxRecDepth 100000 in
theorem rl_Ta_take4 {Γ : GAM} {l : Launch} {th : Nat} {p0 : Int32} {g : GH} {K : GH → Prop} (I3 : Nat → Nat → Int32 → Int32 → GH → Prop) (hh3 : ∀ n (l0 : Nat) (l1 : Int32) (l2 : Int32) (g : GH), I3 n l0 l1 l2 g → B_Ta_take4_3 Γ (fun l0 l1 l2 g => ∃ m, m < n ∧ I3 m l0 l1 l2 g) K l0 l1 l2 g) (h0 : B_Ta_take4_0 Γ (fun l0 l1 l2 g => ∃ m, I3 m l0 l1 l2 g) K th p0 g) : MetA Γ l yX6_take4 cX6_take4 4 none 0 0 [.ref th, .int p0] g (fun r g' => r = none ∧ K g') := by
  refine MetA.introL (Lx := [some (.ref th), some (.int p0), none, none]) (by decide) (Nat.le_of_ble_eq_true rfl) rfl rfl ?_
  intro E hEl hE hnm
  have hall : ∀ n, (∀ (l0 : Nat) (l1 : Int32) (l2 : Int32) (g : GH), I3 n l0 l1 l2 g → JW Γ E 3 [some (.ref l0), some (.int l1), some (.int l2), none] [] g) := by
    intro n
    induction n using Nat.strongRecOn with
    | ind n ih =>
      exact fun l0 l1 l2 g hi => S_Ta_take4_3 hE (fun l0 l1 l2 g hm => by obtain ⟨m, hm, h⟩ := hm; exact (ih m hm) l0 l1 l2 g h) l0 l1 l2 g (hh3 n l0 l1 l2 g hi)
  exact S_Ta_take4_0 hE (fun l0 l1 l2 g hm => by obtain ⟨m, h⟩ := hm; exact (hall m) l0 l1 l2 g h) th p0 g h0
def Sp_Ta_readRule (Γ : GAM) (q0 : Nat) (g : GH) (K : Int32 → GH → Prop) : Prop := False
theorem mt_Ta_readRule {Γ : GAM} {l : Launch} (q0 : Nat) (g : GH) (K : Int32 → GH → Prop) (h : Sp_Ta_readRule Γ q0 g K) : MetA Γ l yX6_readRule cX6_readRule 1 (some (.boolean)) 0 0 [.ref q0] g (fun r g' => ∃ x, r = some (.int x) ∧ K x g') := h.elim
def Sp_Ta_takes (Γ : GAM) (q0 : Nat) (q1 : Int32) (g : GH) (K : Int32 → GH → Prop) : Prop := False
theorem mt_Ta_takes {Γ : GAM} {l : Launch} (q0 : Nat) (q1 : Int32) (g : GH) (K : Int32 → GH → Prop) (h : Sp_Ta_takes Γ q0 q1 g K) : MetA Γ l yX6_takes cX6_takes 3 (some (.boolean)) 0 0 [.ref q0, .int q1] g (fun r g' => ∃ x, r = some (.int x) ∧ K x g') := h.elim
def Sp_Ta_nextSign (Γ : GAM) (q0 : Nat) (g : GH) (K : Int32 → GH → Prop) : Prop := False
theorem mt_Ta_nextSign {Γ : GAM} {l : Launch} (q0 : Nat) (g : GH) (K : Int32 → GH → Prop) (h : Sp_Ta_nextSign Γ q0 g K) : MetA Γ l yX6_nextSign cX6_nextSign 1 (some (.int)) 0 0 [.ref q0] g (fun r g' => ∃ x, r = some (.int x) ∧ K x g') := h.elim
-- the walk of Ta_firstFault
set_option maxRecDepth 100000 in
def B_Ta_firstFault_73 (Γ : GAM) (K22 : Nat → Int32 → Int32 → GH → Prop) (K : Int32 → GH → Prop) (s0 : Int32) (g : GH) : Prop :=
  K s0 g
set_option maxHeartbeats 4000000 in
set_option maxRecDepth 100000 in
theorem S_Ta_firstFault_73 {Γ : GAM} {E : EV} {K : Int32 → GH → Prop} (hE : GE Γ E cX6_firstFault 3 RX6 (some (.int)) 1 22 (fun r g' => ∃ x, r = some (.int x) ∧ K x g')) {K22 : Nat → Int32 → Int32 → GH → Prop} (hK22 : ∀ (l0 : Nat) (l1 : Int32) (l2 : Int32) (g : GH), K22 l0 l1 l2 g → JW Γ E 22 [some (.ref l0), some (.int l1), some (.int l2)] [] g) (s0 : Int32) (g : GH) (h : B_Ta_firstFault_73 Γ K22 K s0 g) : JW Γ E 73 [none, none, none] [.int s0] g := by
  unfold B_Ta_firstFault_73 at h
  exact j_iret hE (by decide +kernel : decode cX6_firstFault 73 = .ok (.ireturn, 1)) ⟨_, rfl, h⟩
set_option maxRecDepth 100000 in
def B_Ta_firstFault_69 (Γ : GAM) (K22 : Nat → Int32 → Int32 → GH → Prop) (K : Int32 → GH → Prop) (l0 : Nat) (g : GH) : Prop :=
  Kd g l0 = 8 ∧ B_Ta_firstFault_73 Γ K22 K (Gi g 903 l0) g
set_option maxHeartbeats 4000000 in
set_option maxRecDepth 100000 in
theorem S_Ta_firstFault_69 {Γ : GAM} {E : EV} {K : Int32 → GH → Prop} (hE : GE Γ E cX6_firstFault 3 RX6 (some (.int)) 1 22 (fun r g' => ∃ x, r = some (.int x) ∧ K x g')) {K22 : Nat → Int32 → Int32 → GH → Prop} (hK22 : ∀ (l0 : Nat) (l1 : Int32) (l2 : Int32) (g : GH), K22 l0 l1 l2 g → JW Γ E 22 [some (.ref l0), some (.int l1), some (.int l2)] [] g) (l0 : Nat) (g : GH) (h : B_Ta_firstFault_69 Γ K22 K l0 g) : JW Γ E 69 [some (.ref l0), none, none] [] g := by
  unfold B_Ta_firstFault_69 at h
  refine j_aload_n hE (by decide +kernel : decode cX6_firstFault 69 = .ok (.aload_n 0, 1)) rfl rfl ?_
  obtain ⟨hk, h⟩ := h
  refine j_getI hE fg_X6_28 hk (by decide +kernel : decode cX6_firstFault 70 = .ok (.getfield 28, 3)) ?_
  refine j_weak [none, none, none] trivial ?_
  exact S_Ta_firstFault_73 hE hK22 _ _ h
set_option maxRecDepth 100000 in
def B_Ta_firstFault_54 (Γ : GAM) (K22 : Nat → Int32 → Int32 → GH → Prop) (K : Int32 → GH → Prop) (l0 : Nat) (l1 : Int32) (g : GH) : Prop :=
  ((l1 = 0 → B_Ta_firstFault_69 Γ K22 K l0 g) ∧ (¬ (l1 = 0) → Kd g l0 = 8 ∧ Sp_Ta_nextSign Γ l0 g (fun (x2 : Int32) (g1 : GH) => ((¬ (x2 = 0) → B_Ta_firstFault_69 Γ K22 K l0 g1) ∧ (x2 = 0 → B_Ta_firstFault_73 Γ K22 K (-1 : Int32) g1)))))
set_option maxHeartbeats 4000000 in
set_option maxRecDepth 100000 in
theorem S_Ta_firstFault_54 {Γ : GAM} {E : EV} {K : Int32 → GH → Prop} (hE : GE Γ E cX6_firstFault 3 RX6 (some (.int)) 1 22 (fun r g' => ∃ x, r = some (.int x) ∧ K x g')) {K22 : Nat → Int32 → Int32 → GH → Prop} (hK22 : ∀ (l0 : Nat) (l1 : Int32) (l2 : Int32) (g : GH), K22 l0 l1 l2 g → JW Γ E 22 [some (.ref l0), some (.int l1), some (.int l2)] [] g) (l0 : Nat) (l1 : Int32) (g : GH) (h : B_Ta_firstFault_54 Γ K22 K l0 l1 g) : JW Γ E 54 [some (.ref l0), some (.int l1), none] [] g := by
  unfold B_Ta_firstFault_54 at h
  refine j_iload_n hE (by decide +kernel : decode cX6_firstFault 54 = .ok (.iload_n 1, 1)) rfl rfl ?_
  refine j_if_eq hE (by decide +kernel : decode cX6_firstFault 55 = .ok (.ifCond .eq 14, 3)) (tgt := 69) (by decide) (fun q => ?_) (fun q => ?_)
  · have h := h.1 q
    refine j_weak [some (.ref l0), none, none] ⟨rfl, trivial⟩ ?_
    exact S_Ta_firstFault_69 hE hK22 _ _ h
  · have h := h.2 q
    refine j_aload_n hE (by decide +kernel : decode cX6_firstFault 58 = .ok (.aload_n 0, 1)) rfl rfl ?_
    obtain ⟨hk, h⟩ := h
    refine j_callV hE rfl cl_X6_45 cf_7 im_X6_nextSign se_X6_nextSign ⟨by omega, by omega⟩ (As := []) (rest := []) rfl rfl (Nat.le_of_ble_eq_true rfl) hk (by decide +kernel : decode cX6_firstFault 59 = .ok (.invokevirtual 45, 3)) (mt_Ta_nextSign _ _ _ h) ?_
    rintro _ g1 ⟨x2, rfl, h⟩
    refine j_if_ne hE (by decide +kernel : decode cX6_firstFault 62 = .ok (.ifCond .ne 7, 3)) (tgt := 69) (by decide) (fun q => ?_) (fun q => ?_)
    · have h := h.1 q
      refine j_weak [some (.ref l0), none, none] ⟨rfl, trivial⟩ ?_
      exact S_Ta_firstFault_69 hE hK22 _ _ h
    · have h := h.2 q
      refine j_iconst hE (by decide +kernel : decode cX6_firstFault 65 = .ok (.iconst (-1), 1)) (v := (-1 : Int32)) (by decide) ?_
      refine j_goto hE (by decide +kernel : decode cX6_firstFault 66 = .ok (.goto 7, 3)) (tgt := 73) (by decide) ?_
      refine j_weak [none, none, none] trivial ?_
      exact S_Ta_firstFault_73 hE hK22 _ _ h
set_option maxRecDepth 100000 in
def B_Ta_firstFault_22 (Γ : GAM) (K22 : Nat → Int32 → Int32 → GH → Prop) (K : Int32 → GH → Prop) (l0 : Nat) (l1 : Int32) (l2 : Int32) (g : GH) : Prop :=
  Kd g l0 = 8 ∧ (((Gi g 897 l0) ≤ l2 → B_Ta_firstFault_54 Γ K22 K l0 l1 g) ∧ (¬ ((Gi g 897 l0) ≤ l2) → ((l1 = 0 → B_Ta_firstFault_54 Γ K22 K l0 l1 g) ∧ (¬ (l1 = 0) → Kd g l0 = 8 ∧ Sp_Ta_takes Γ l0 (59 : Int32) g (fun (x2 : Int32) (g1 : GH) => ((x2 = 0 → B_Ta_firstFault_54 Γ K22 K l0 l1 g1) ∧ (¬ (x2 = 0) → Kd g1 l0 = 8 ∧ Sp_Ta_readRule Γ l0 g1 (fun (x4 : Int32) (g3 : GH) => K22 l0 x4 (l2 + (1 : Int32)) g3))))))))
set_option maxHeartbeats 4000000 in
set_option maxRecDepth 100000 in
theorem S_Ta_firstFault_22 {Γ : GAM} {E : EV} {K : Int32 → GH → Prop} (hE : GE Γ E cX6_firstFault 3 RX6 (some (.int)) 1 22 (fun r g' => ∃ x, r = some (.int x) ∧ K x g')) {K22 : Nat → Int32 → Int32 → GH → Prop} (hK22 : ∀ (l0 : Nat) (l1 : Int32) (l2 : Int32) (g : GH), K22 l0 l1 l2 g → JW Γ E 22 [some (.ref l0), some (.int l1), some (.int l2)] [] g) (l0 : Nat) (l1 : Int32) (l2 : Int32) (g : GH) (h : B_Ta_firstFault_22 Γ K22 K l0 l1 l2 g) : JW Γ E 22 [some (.ref l0), some (.int l1), some (.int l2)] [] g := by
  unfold B_Ta_firstFault_22 at h
  refine j_iload_n hE (by decide +kernel : decode cX6_firstFault 22 = .ok (.iload_n 2, 1)) rfl rfl ?_
  refine j_aload_n hE (by decide +kernel : decode cX6_firstFault 23 = .ok (.aload_n 0, 1)) rfl rfl ?_
  obtain ⟨hk, h⟩ := h
  refine j_getI hE fg_X6_24 hk (by decide +kernel : decode cX6_firstFault 24 = .ok (.getfield 24, 3)) ?_
  refine j_icmp_ge hE (by decide +kernel : decode cX6_firstFault 27 = .ok (.if_icmp .ge 27, 3)) (tgt := 54) (by decide) (fun q => ?_) (fun q => ?_)
  · have h := h.1 q
    refine j_weak [some (.ref l0), some (.int l1), none] ⟨rfl, ⟨rfl, trivial⟩⟩ ?_
    exact S_Ta_firstFault_54 hE hK22 _ _ _ h
  · have h := h.2 q
    refine j_iload_n hE (by decide +kernel : decode cX6_firstFault 30 = .ok (.iload_n 1, 1)) rfl rfl ?_
    refine j_if_eq hE (by decide +kernel : decode cX6_firstFault 31 = .ok (.ifCond .eq 23, 3)) (tgt := 54) (by decide) (fun q => ?_) (fun q => ?_)
    · have h := h.1 q
      refine j_weak [some (.ref l0), some (.int l1), none] ⟨rfl, ⟨rfl, trivial⟩⟩ ?_
      exact S_Ta_firstFault_54 hE hK22 _ _ _ h
    · have h := h.2 q
      refine j_aload_n hE (by decide +kernel : decode cX6_firstFault 34 = .ok (.aload_n 0, 1)) rfl rfl ?_
      refine j_bipush hE (by decide +kernel : decode cX6_firstFault 35 = .ok (.bipush 59, 2)) (v := (59 : Int32)) (by decide) ?_
      obtain ⟨hk, h⟩ := h
      refine j_callV hE rfl cl_X6_41 cf_7 im_X6_takes se_X6_takes ⟨by omega, by omega⟩ (As := [.int (59 : Int32)]) (rest := []) rfl rfl (Nat.le_of_ble_eq_true rfl) hk (by decide +kernel : decode cX6_firstFault 37 = .ok (.invokevirtual 41, 3)) (mt_Ta_takes _ _ _ _ h) ?_
      rintro _ g1 ⟨x2, rfl, h⟩
      refine j_if_eq hE (by decide +kernel : decode cX6_firstFault 40 = .ok (.ifCond .eq 14, 3)) (tgt := 54) (by decide) (fun q => ?_) (fun q => ?_)
      · have h := h.1 q
        refine j_weak [some (.ref l0), some (.int l1), none] ⟨rfl, ⟨rfl, trivial⟩⟩ ?_
        exact S_Ta_firstFault_54 hE hK22 _ _ _ h
      · have h := h.2 q
        refine j_aload_n hE (by decide +kernel : decode cX6_firstFault 43 = .ok (.aload_n 0, 1)) rfl rfl ?_
        obtain ⟨hk, h⟩ := h
        refine j_callV hE rfl cl_X6_37 cf_7 im_X6_readRule se_X6_readRule ⟨by omega, by omega⟩ (As := []) (rest := []) rfl rfl (Nat.le_of_ble_eq_true rfl) hk (by decide +kernel : decode cX6_firstFault 44 = .ok (.invokevirtual 37, 3)) (mt_Ta_readRule _ _ _ h) ?_
        rintro _ g3 ⟨x4, rfl, h⟩
        refine j_istore_n hE (by decide +kernel : decode cX6_firstFault 47 = .ok (.istore_n 1, 1)) rfl (Nat.le_of_ble_eq_true rfl) rfl ?_
        refine j_iinc hE (by decide +kernel : decode cX6_firstFault 48 = .ok (.iinc 2 1, 3)) (v := (1 : Int32)) (by decide) rfl (Nat.le_of_ble_eq_true rfl) rfl ?_
        refine j_goto hE (by decide +kernel : decode cX6_firstFault 51 = .ok (.goto (-29), 3)) (tgt := 22) (by decide) ?_
        exact hK22 _ _ _ _ h
set_option maxRecDepth 100000 in
def B_Ta_firstFault_0 (Γ : GAM) (K22 : Nat → Int32 → Int32 → GH → Prop) (K : Int32 → GH → Prop) (th : Nat) (g : GH) : Prop :=
  Kd g th = 8 ∧ ∀ g1 : GH, g1 = sI g 903 th (0 : Int32) → Kd g1 th = 8 ∧ ∀ g2 : GH, g2 = sI g1 899 th (0 : Int32) → Kd g2 th = 8 ∧ ∀ g3 : GH, g3 = sI g2 902 th (0 : Int32) → Kd g3 th = 8 ∧ Sp_Ta_readRule Γ th g3 (fun (x5 : Int32) (g4 : GH) => K22 th x5 (0 : Int32) g4)
set_option maxHeartbeats 4000000 in
set_option maxRecDepth 100000 in
theorem S_Ta_firstFault_0 {Γ : GAM} {E : EV} {K : Int32 → GH → Prop} (hE : GE Γ E cX6_firstFault 3 RX6 (some (.int)) 1 22 (fun r g' => ∃ x, r = some (.int x) ∧ K x g')) {K22 : Nat → Int32 → Int32 → GH → Prop} (hK22 : ∀ (l0 : Nat) (l1 : Int32) (l2 : Int32) (g : GH), K22 l0 l1 l2 g → JW Γ E 22 [some (.ref l0), some (.int l1), some (.int l2)] [] g) (th : Nat) (g : GH) (h : B_Ta_firstFault_0 Γ K22 K th g) : JW Γ E 0 [some (.ref th), none, none] [] g := by
  unfold B_Ta_firstFault_0 at h
  refine j_aload_n hE (by decide +kernel : decode cX6_firstFault 0 = .ok (.aload_n 0, 1)) rfl rfl ?_
  refine j_iconst hE (by decide +kernel : decode cX6_firstFault 1 = .ok (.iconst 0, 1)) (v := (0 : Int32)) (by decide) ?_
  obtain ⟨hk, h⟩ := h
  obtain ⟨g1, hg⟩ : ∃ z, z = sI g 903 th (0 : Int32) := ⟨_, rfl⟩; have h := h g1 hg
  refine j_putI hE fa_X6_28 hk (fun q => by cases q) (by decide +kernel : decode cX6_firstFault 2 = .ok (.putfield 28, 3)) ?_
  rw [← hg]
  refine j_aload_n hE (by decide +kernel : decode cX6_firstFault 5 = .ok (.aload_n 0, 1)) rfl rfl ?_
  refine j_iconst hE (by decide +kernel : decode cX6_firstFault 6 = .ok (.iconst 0, 1)) (v := (0 : Int32)) (by decide) ?_
  obtain ⟨hk, h⟩ := h
  obtain ⟨g2, hg⟩ : ∃ z, z = sI g1 899 th (0 : Int32) := ⟨_, rfl⟩; have h := h g2 hg
  refine j_putI hE fa_X6_31 hk (fun q => by cases q) (by decide +kernel : decode cX6_firstFault 7 = .ok (.putfield 31, 3)) ?_
  rw [← hg]
  refine j_aload_n hE (by decide +kernel : decode cX6_firstFault 10 = .ok (.aload_n 0, 1)) rfl rfl ?_
  refine j_iconst hE (by decide +kernel : decode cX6_firstFault 11 = .ok (.iconst 0, 1)) (v := (0 : Int32)) (by decide) ?_
  obtain ⟨hk, h⟩ := h
  obtain ⟨g3, hg⟩ : ∃ z, z = sI g2 902 th (0 : Int32) := ⟨_, rfl⟩; have h := h g3 hg
  refine j_putI hE fa_X6_34 hk (fun q => by cases q) (by decide +kernel : decode cX6_firstFault 12 = .ok (.putfield 34, 3)) ?_
  rw [← hg]
  refine j_aload_n hE (by decide +kernel : decode cX6_firstFault 15 = .ok (.aload_n 0, 1)) rfl rfl ?_
  obtain ⟨hk, h⟩ := h
  refine j_callV hE rfl cl_X6_37 cf_7 im_X6_readRule se_X6_readRule ⟨by omega, by omega⟩ (As := []) (rest := []) rfl rfl (Nat.le_of_ble_eq_true rfl) hk (by decide +kernel : decode cX6_firstFault 16 = .ok (.invokevirtual 37, 3)) (mt_Ta_readRule _ _ _ h) ?_
  rintro _ g4 ⟨x5, rfl, h⟩
  refine j_istore_n hE (by decide +kernel : decode cX6_firstFault 19 = .ok (.istore_n 1, 1)) rfl (Nat.le_of_ble_eq_true rfl) rfl ?_
  refine j_iconst hE (by decide +kernel : decode cX6_firstFault 20 = .ok (.iconst 0, 1)) (v := (0 : Int32)) (by decide) ?_
  refine j_istore_n hE (by decide +kernel : decode cX6_firstFault 21 = .ok (.istore_n 2, 1)) rfl (Nat.le_of_ble_eq_true rfl) rfl ?_
  exact hK22 _ _ _ _ h
set_option maxHeartbeats 4000000 in
set_option maxRecDepth 100000 in
theorem rl_Ta_firstFault {Γ : GAM} {l : Launch} {th : Nat} {g : GH} {K : Int32 → GH → Prop} (I22 : Nat → Nat → Int32 → Int32 → GH → Prop) (hh22 : ∀ n (l0 : Nat) (l1 : Int32) (l2 : Int32) (g : GH), I22 n l0 l1 l2 g → B_Ta_firstFault_22 Γ (fun l0 l1 l2 g => ∃ m, m < n ∧ I22 m l0 l1 l2 g) K l0 l1 l2 g) (h0 : B_Ta_firstFault_0 Γ (fun l0 l1 l2 g => ∃ m, I22 m l0 l1 l2 g) K th g) : MetA Γ l yX6_firstFault cX6_firstFault 3 (some (.int)) 1 22 [.ref th] g (fun r g' => ∃ x, r = some (.int x) ∧ K x g') := by
  refine MetA.introL (Lx := [some (.ref th), none, none]) (by decide) (Nat.le_of_ble_eq_true rfl) rfl rfl ?_
  intro E hEl hE hnm
  have hall : ∀ n, (∀ (l0 : Nat) (l1 : Int32) (l2 : Int32) (g : GH), I22 n l0 l1 l2 g → JW Γ E 22 [some (.ref l0), some (.int l1), some (.int l2)] [] g) := by
    intro n
    induction n using Nat.strongRecOn with
    | ind n ih =>
      exact fun l0 l1 l2 g hi => S_Ta_firstFault_22 hE (fun l0 l1 l2 g hm => by obtain ⟨m, hm, h⟩ := hm; exact (ih m hm) l0 l1 l2 g h) l0 l1 l2 g (hh22 n l0 l1 l2 g hi)
  exact S_Ta_firstFault_0 hE (fun l0 l1 l2 g hm => by obtain ⟨m, h⟩ := hm; exact (hall m) l0 l1 l2 g h) th g h0
def Sp_Ta_readVerdict (Γ : GAM) (q0 : Nat) (g : GH) (K : Int32 → GH → Prop) : Prop := False
theorem mt_Ta_readVerdict {Γ : GAM} {l : Launch} (q0 : Nat) (g : GH) (K : Int32 → GH → Prop) (h : Sp_Ta_readVerdict Γ q0 g K) : MetA Γ l yX6_readVerdict cX6_readVerdict 2 (some (.boolean)) 0 0 [.ref q0] g (fun r g' => ∃ x, r = some (.int x) ∧ K x g') := h.elim
-- the walk of Ta_readRule
set_option maxRecDepth 100000 in
def B_Ta_readRule_43 (Γ : GAM) (R_Ta_readCondition : Nat → Int32 → GH → (Int32 → GH → Prop) → Prop) (K : Int32 → GH → Prop)  (g : GH) : Prop :=
  K (0 : Int32) g
set_option maxHeartbeats 4000000 in
set_option maxRecDepth 100000 in
theorem S_Ta_readRule_43 {Γ : GAM} {E : EV} {fr lo : Nat} {K : Int32 → GH → Prop} (hE : GE Γ E cX6_readRule 1 RX6 (some (.boolean)) fr lo (fun r g' => ∃ x, r = some (.int x) ∧ K x g')) (hfr : 1 ≤ fr) (hlo : 22 ≤ lo) {R_Ta_readCondition : Nat → Int32 → GH → (Int32 → GH → Prop) → Prop} {f_Ta_readCondition l_Ta_readCondition : Nat} (hR_Ta_readCondition : (f_Ta_readCondition + 1 ≤ fr ∧ 8 + (4 + 11) + l_Ta_readCondition ≤ lo) ∧ ∀ (th : Nat) (p0 : Int32) g (K : Int32 → GH → Prop), R_Ta_readCondition th p0 g K → MetA Γ E.2.1 yX6_readCondition cX6_readCondition 4 (some (.boolean)) f_Ta_readCondition l_Ta_readCondition [.ref th, .int p0] g (fun r g' => ∃ x, r = some (.int x) ∧ K x g'))  (g : GH) (h : B_Ta_readRule_43 Γ R_Ta_readCondition K  g) : JW Γ E 43 [none] [] g := by
  unfold B_Ta_readRule_43 at h
  refine j_iconst hE (by decide +kernel : decode cX6_readRule 43 = .ok (.iconst 0, 1)) (v := (0 : Int32)) (by decide) ?_
  exact j_zret hE (Or.inl rfl) (by decide +kernel : decode cX6_readRule 44 = .ok (.ireturn, 1)) ⟨_, rfl, h⟩
set_option maxRecDepth 100000 in
def B_Ta_readRule_0 (Γ : GAM) (R_Ta_readCondition : Nat → Int32 → GH → (Int32 → GH → Prop) → Prop) (K : Int32 → GH → Prop) (th : Nat) (g : GH) : Prop :=
  Kd g th = 8 ∧ (((Gi g 902 th) < (40 : Int32) → Kd g th = 8 ∧ ∃ a1 : Nat, Gr g 900 th = some a1 ∧ Kd g th = 8 ∧ Kd g th = 8 ∧ Kd g a1 = 20 ∧ inB ((2 : Int32) * (Gi g 902 th)) (Ln g a1) ∧ ∀ g2 : GH, g2 = sA g (Co g a1) (Ow g a1) ((2 : Int32) * (Gi g 902 th)).toNatClampNeg (Gi g 899 th) → Kd g2 th = 8 ∧ R_Ta_readCondition th (0 : Int32) g2 (fun (x4 : Int32) (g3 : GH) => ((x4 = 0 → B_Ta_readRule_43 Γ R_Ta_readCondition K g3) ∧ (¬ (x4 = 0) → Kd g3 th = 8 ∧ Sp_Ta_takes Γ th (63 : Int32) g3 (fun (x6 : Int32) (g5 : GH) => ((¬ (x6 = 0) → Kd g5 th = 8 ∧ ∃ a7 : Nat, Gr g5 900 th = some a7 ∧ Kd g5 th = 8 ∧ Kd g5 th = 8 ∧ Kd g5 a7 = 20 ∧ inB (((2 : Int32) * (Gi g5 902 th)) + (1 : Int32)) (Ln g5 a7) ∧ ∀ g8 : GH, g8 = sA g5 (Co g5 a7) (Ow g5 a7) (((2 : Int32) * (Gi g5 902 th)) + (1 : Int32)).toNatClampNeg (Gi g5 899 th) → Kd g8 th = 8 ∧ Sp_Ta_readVerdict Γ th g8 (fun (x10 : Int32) (g9 : GH) => ((¬ (x10 = 0) → Kd g9 th = 8 ∧ Kd g9 th = 8 ∧ ∀ g11 : GH, g11 = sI g9 902 th ((Gi g9 902 th) + (1 : Int32)) → Kd g11 th = 8 ∧ ∃ a12 : Nat, Gr g11 900 th = some a12 ∧ Kd g11 th = 8 ∧ Kd g11 th = 8 ∧ Kd g11 a12 = 20 ∧ inB ((2 : Int32) * (Gi g11 902 th)) (Ln g11 a12) ∧ ∀ g13 : GH, g13 = sA g11 (Co g11 a12) (Ow g11 a12) ((2 : Int32) * (Gi g11 902 th)).toNatClampNeg (Gi g11 899 th) → K (1 : Int32) g13) ∧ (x10 = 0 → K (0 : Int32) g9)))) ∧ (x6 = 0 → B_Ta_readRule_43 Γ R_Ta_readCondition K g5))))))) ∧ (¬ ((Gi g 902 th) < (40 : Int32)) → K (0 : Int32) g))
set_option maxHeartbeats 4000000 in
set_option maxRecDepth 100000 in
theorem S_Ta_readRule_0 {Γ : GAM} {E : EV} {fr lo : Nat} {K : Int32 → GH → Prop} (hE : GE Γ E cX6_readRule 1 RX6 (some (.boolean)) fr lo (fun r g' => ∃ x, r = some (.int x) ∧ K x g')) (hfr : 1 ≤ fr) (hlo : 22 ≤ lo) {R_Ta_readCondition : Nat → Int32 → GH → (Int32 → GH → Prop) → Prop} {f_Ta_readCondition l_Ta_readCondition : Nat} (hR_Ta_readCondition : (f_Ta_readCondition + 1 ≤ fr ∧ 8 + (4 + 11) + l_Ta_readCondition ≤ lo) ∧ ∀ (th : Nat) (p0 : Int32) g (K : Int32 → GH → Prop), R_Ta_readCondition th p0 g K → MetA Γ E.2.1 yX6_readCondition cX6_readCondition 4 (some (.boolean)) f_Ta_readCondition l_Ta_readCondition [.ref th, .int p0] g (fun r g' => ∃ x, r = some (.int x) ∧ K x g')) (th : Nat) (g : GH) (h : B_Ta_readRule_0 Γ R_Ta_readCondition K th g) : JW Γ E 0 [some (.ref th)] [] g := by
  unfold B_Ta_readRule_0 at h
  refine j_aload_n hE (by decide +kernel : decode cX6_readRule 0 = .ok (.aload_n 0, 1)) rfl rfl ?_
  obtain ⟨hk, h⟩ := h
  refine j_getI hE fg_X6_34 hk (by decide +kernel : decode cX6_readRule 1 = .ok (.getfield 34, 3)) ?_
  refine j_bipush hE (by decide +kernel : decode cX6_readRule 4 = .ok (.bipush 40, 2)) (v := (40 : Int32)) (by decide) ?_
  refine j_icmp_lt hE (by decide +kernel : decode cX6_readRule 6 = .ok (.if_icmp .lt 5, 3)) (tgt := 11) (by decide) (fun q => ?_) (fun q => ?_)
  · have h := h.1 q
    refine j_aload_n hE (by decide +kernel : decode cX6_readRule 11 = .ok (.aload_n 0, 1)) rfl rfl ?_
    obtain ⟨hk, h⟩ := h
    obtain ⟨a1, ha, h⟩ := h
    refine j_getRn hE fg_X6_18 hk ha (by decide +kernel : decode cX6_readRule 12 = .ok (.getfield 18, 3)) ?_
    refine j_iconst hE (by decide +kernel : decode cX6_readRule 15 = .ok (.iconst 2, 1)) (v := (2 : Int32)) (by decide) ?_
    refine j_aload_n hE (by decide +kernel : decode cX6_readRule 16 = .ok (.aload_n 0, 1)) rfl rfl ?_
    obtain ⟨hk, h⟩ := h
    refine j_getI hE fg_X6_34 hk (by decide +kernel : decode cX6_readRule 17 = .ok (.getfield 34, 3)) ?_
    refine j_imul hE (by decide +kernel : decode cX6_readRule 20 = .ok (.imul, 1)) ?_
    refine j_aload_n hE (by decide +kernel : decode cX6_readRule 21 = .ok (.aload_n 0, 1)) rfl rfl ?_
    obtain ⟨hk, h⟩ := h
    refine j_getI hE fg_X6_31 hk (by decide +kernel : decode cX6_readRule 22 = .ok (.getfield 31, 3)) ?_
    obtain ⟨hk, hb, h⟩ := h
    obtain ⟨g2, hg⟩ : ∃ z, z = sA g (Co g a1) (Ow g a1) ((2 : Int32) * (Gi g 902 th)).toNatClampNeg (Gi g 899 th) := ⟨_, rfl⟩; have h := h g2 hg
    refine j_iast hE hk hb (by decide +kernel : decode cX6_readRule 25 = .ok (.iastore, 1)) ?_
    rw [← hg]
    refine j_aload_n hE (by decide +kernel : decode cX6_readRule 26 = .ok (.aload_n 0, 1)) rfl rfl ?_
    refine j_iconst hE (by decide +kernel : decode cX6_readRule 27 = .ok (.iconst 0, 1)) (v := (0 : Int32)) (by decide) ?_
    obtain ⟨hk, h⟩ := h
    refine j_callV hE rfl cl_X6_49 cf_7 im_X6_readCondition se_X6_readCondition hR_Ta_readCondition.1 (As := [.int (0 : Int32)]) (rest := []) rfl rfl (Nat.le_of_ble_eq_true rfl) hk (by decide +kernel : decode cX6_readRule 28 = .ok (.invokevirtual 49, 3)) (hR_Ta_readCondition.2 _ _ _ _ h) ?_
    rintro _ g3 ⟨x4, rfl, h⟩
    refine j_if_eq hE (by decide +kernel : decode cX6_readRule 31 = .ok (.ifCond .eq 12, 3)) (tgt := 43) (by decide) (fun q => ?_) (fun q => ?_)
    · have h := h.1 q
      refine j_weak [none] trivial ?_
      exact S_Ta_readRule_43 hE hfr hlo hR_Ta_readCondition _ h
    · have h := h.2 q
      refine j_aload_n hE (by decide +kernel : decode cX6_readRule 34 = .ok (.aload_n 0, 1)) rfl rfl ?_
      refine j_bipush hE (by decide +kernel : decode cX6_readRule 35 = .ok (.bipush 63, 2)) (v := (63 : Int32)) (by decide) ?_
      obtain ⟨hk, h⟩ := h
      refine j_callV hE rfl cl_X6_41 cf_7 im_X6_takes se_X6_takes ⟨by omega, by omega⟩ (As := [.int (63 : Int32)]) (rest := []) rfl rfl (Nat.le_of_ble_eq_true rfl) hk (by decide +kernel : decode cX6_readRule 37 = .ok (.invokevirtual 41, 3)) (mt_Ta_takes _ _ _ _ h) ?_
      rintro _ g5 ⟨x6, rfl, h⟩
      refine j_if_ne hE (by decide +kernel : decode cX6_readRule 40 = .ok (.ifCond .ne 5, 3)) (tgt := 45) (by decide) (fun q => ?_) (fun q => ?_)
      · have h := h.1 q
        refine j_aload_n hE (by decide +kernel : decode cX6_readRule 45 = .ok (.aload_n 0, 1)) rfl rfl ?_
        obtain ⟨hk, h⟩ := h
        obtain ⟨a7, ha, h⟩ := h
        refine j_getRn hE fg_X6_18 hk ha (by decide +kernel : decode cX6_readRule 46 = .ok (.getfield 18, 3)) ?_
        refine j_iconst hE (by decide +kernel : decode cX6_readRule 49 = .ok (.iconst 2, 1)) (v := (2 : Int32)) (by decide) ?_
        refine j_aload_n hE (by decide +kernel : decode cX6_readRule 50 = .ok (.aload_n 0, 1)) rfl rfl ?_
        obtain ⟨hk, h⟩ := h
        refine j_getI hE fg_X6_34 hk (by decide +kernel : decode cX6_readRule 51 = .ok (.getfield 34, 3)) ?_
        refine j_imul hE (by decide +kernel : decode cX6_readRule 54 = .ok (.imul, 1)) ?_
        refine j_iconst hE (by decide +kernel : decode cX6_readRule 55 = .ok (.iconst 1, 1)) (v := (1 : Int32)) (by decide) ?_
        refine j_iadd hE (by decide +kernel : decode cX6_readRule 56 = .ok (.iadd, 1)) ?_
        refine j_aload_n hE (by decide +kernel : decode cX6_readRule 57 = .ok (.aload_n 0, 1)) rfl rfl ?_
        obtain ⟨hk, h⟩ := h
        refine j_getI hE fg_X6_31 hk (by decide +kernel : decode cX6_readRule 58 = .ok (.getfield 31, 3)) ?_
        obtain ⟨hk, hb, h⟩ := h
        obtain ⟨g8, hg⟩ : ∃ z, z = sA g5 (Co g5 a7) (Ow g5 a7) (((2 : Int32) * (Gi g5 902 th)) + (1 : Int32)).toNatClampNeg (Gi g5 899 th) := ⟨_, rfl⟩; have h := h g8 hg
        refine j_iast hE hk hb (by decide +kernel : decode cX6_readRule 61 = .ok (.iastore, 1)) ?_
        rw [← hg]
        refine j_aload_n hE (by decide +kernel : decode cX6_readRule 62 = .ok (.aload_n 0, 1)) rfl rfl ?_
        obtain ⟨hk, h⟩ := h
        refine j_callV hE rfl cl_X6_52 cf_7 im_X6_readVerdict se_X6_readVerdict ⟨by omega, by omega⟩ (As := []) (rest := []) rfl rfl (Nat.le_of_ble_eq_true rfl) hk (by decide +kernel : decode cX6_readRule 63 = .ok (.invokevirtual 52, 3)) (mt_Ta_readVerdict _ _ _ h) ?_
        rintro _ g9 ⟨x10, rfl, h⟩
        refine j_if_ne hE (by decide +kernel : decode cX6_readRule 66 = .ok (.ifCond .ne 5, 3)) (tgt := 71) (by decide) (fun q => ?_) (fun q => ?_)
        · have h := h.1 q
          refine j_aload_n hE (by decide +kernel : decode cX6_readRule 71 = .ok (.aload_n 0, 1)) rfl rfl ?_
          refine j_dup hE (by decide +kernel : decode cX6_readRule 72 = .ok (.dup, 1)) rfl ?_
          obtain ⟨hk, h⟩ := h
          refine j_getI hE fg_X6_34 hk (by decide +kernel : decode cX6_readRule 73 = .ok (.getfield 34, 3)) ?_
          refine j_iconst hE (by decide +kernel : decode cX6_readRule 76 = .ok (.iconst 1, 1)) (v := (1 : Int32)) (by decide) ?_
          refine j_iadd hE (by decide +kernel : decode cX6_readRule 77 = .ok (.iadd, 1)) ?_
          obtain ⟨hk, h⟩ := h
          obtain ⟨g11, hg⟩ : ∃ z, z = sI g9 902 th ((Gi g9 902 th) + (1 : Int32)) := ⟨_, rfl⟩; have h := h g11 hg
          refine j_putI hE fa_X6_34 hk (fun q => by cases q) (by decide +kernel : decode cX6_readRule 78 = .ok (.putfield 34, 3)) ?_
          rw [← hg]
          refine j_aload_n hE (by decide +kernel : decode cX6_readRule 81 = .ok (.aload_n 0, 1)) rfl rfl ?_
          obtain ⟨hk, h⟩ := h
          obtain ⟨a12, ha, h⟩ := h
          refine j_getRn hE fg_X6_18 hk ha (by decide +kernel : decode cX6_readRule 82 = .ok (.getfield 18, 3)) ?_
          refine j_iconst hE (by decide +kernel : decode cX6_readRule 85 = .ok (.iconst 2, 1)) (v := (2 : Int32)) (by decide) ?_
          refine j_aload_n hE (by decide +kernel : decode cX6_readRule 86 = .ok (.aload_n 0, 1)) rfl rfl ?_
          obtain ⟨hk, h⟩ := h
          refine j_getI hE fg_X6_34 hk (by decide +kernel : decode cX6_readRule 87 = .ok (.getfield 34, 3)) ?_
          refine j_imul hE (by decide +kernel : decode cX6_readRule 90 = .ok (.imul, 1)) ?_
          refine j_aload_n hE (by decide +kernel : decode cX6_readRule 91 = .ok (.aload_n 0, 1)) rfl rfl ?_
          obtain ⟨hk, h⟩ := h
          refine j_getI hE fg_X6_31 hk (by decide +kernel : decode cX6_readRule 92 = .ok (.getfield 31, 3)) ?_
          obtain ⟨hk, hb, h⟩ := h
          obtain ⟨g13, hg⟩ : ∃ z, z = sA g11 (Co g11 a12) (Ow g11 a12) ((2 : Int32) * (Gi g11 902 th)).toNatClampNeg (Gi g11 899 th) := ⟨_, rfl⟩; have h := h g13 hg
          refine j_iast hE hk hb (by decide +kernel : decode cX6_readRule 95 = .ok (.iastore, 1)) ?_
          rw [← hg]
          refine j_iconst hE (by decide +kernel : decode cX6_readRule 96 = .ok (.iconst 1, 1)) (v := (1 : Int32)) (by decide) ?_
          exact j_zret hE (Or.inr rfl) (by decide +kernel : decode cX6_readRule 97 = .ok (.ireturn, 1)) ⟨_, rfl, h⟩
        · have h := h.2 q
          refine j_iconst hE (by decide +kernel : decode cX6_readRule 69 = .ok (.iconst 0, 1)) (v := (0 : Int32)) (by decide) ?_
          exact j_zret hE (Or.inl rfl) (by decide +kernel : decode cX6_readRule 70 = .ok (.ireturn, 1)) ⟨_, rfl, h⟩
      · have h := h.2 q
        refine j_weak [none] trivial ?_
        exact S_Ta_readRule_43 hE hfr hlo hR_Ta_readCondition _ h
  · have h := h.2 q
    refine j_iconst hE (by decide +kernel : decode cX6_readRule 9 = .ok (.iconst 0, 1)) (v := (0 : Int32)) (by decide) ?_
    exact j_zret hE (Or.inl rfl) (by decide +kernel : decode cX6_readRule 10 = .ok (.ireturn, 1)) ⟨_, rfl, h⟩
set_option maxHeartbeats 4000000 in
set_option maxRecDepth 100000 in
theorem rl_Ta_readRule {Γ : GAM} {l : Launch} {fr lo : Nat} (hfr : 1 ≤ fr) (hlo : 22 ≤ lo) {R_Ta_readCondition : Nat → Int32 → GH → (Int32 → GH → Prop) → Prop} {f_Ta_readCondition l_Ta_readCondition : Nat} (hR_Ta_readCondition : (f_Ta_readCondition + 1 ≤ fr ∧ 8 + (4 + 11) + l_Ta_readCondition ≤ lo) ∧ ∀ (th : Nat) (p0 : Int32) g (K : Int32 → GH → Prop), R_Ta_readCondition th p0 g K → MetA Γ l yX6_readCondition cX6_readCondition 4 (some (.boolean)) f_Ta_readCondition l_Ta_readCondition [.ref th, .int p0] g (fun r g' => ∃ x, r = some (.int x) ∧ K x g')) {th : Nat} {g : GH} {K : Int32 → GH → Prop} (h0 : B_Ta_readRule_0 Γ R_Ta_readCondition K th g) : MetA Γ l yX6_readRule cX6_readRule 1 (some (.boolean)) fr lo [.ref th] g (fun r g' => ∃ x, r = some (.int x) ∧ K x g') := by
  refine MetA.introL (Lx := [some (.ref th)]) (by decide) (Nat.le_of_ble_eq_true rfl) rfl rfl ?_
  intro E hEl hE hnm
  have hR_Ta_readCondition := hR_Ta_readCondition; rw [← hEl] at hR_Ta_readCondition
  exact S_Ta_readRule_0 hE hfr hlo hR_Ta_readCondition th g h0
def Sp_Ta_readNumber (Γ : GAM) (q0 : Nat) (g : GH) (K : Int32 → GH → Prop) : Prop := False
theorem mt_Ta_readNumber {Γ : GAM} {l : Launch} (q0 : Nat) (g : GH) (K : Int32 → GH → Prop) (h : Sp_Ta_readNumber Γ q0 g K) : MetA Γ l yX6_readNumber cX6_readNumber 3 (some (.boolean)) 0 0 [.ref q0] g (fun r g' => ∃ x, r = some (.int x) ∧ K x g') := h.elim
-- the walk of Ta_readVerdict
set_option maxRecDepth 100000 in
def B_Ta_readVerdict_90 (Γ : GAM) (R_Ta_readSum : Nat → Int32 → GH → (Int32 → GH → Prop) → Prop) (K : Int32 → GH → Prop) (s0 : Int32) (g : GH) : Prop :=
  ((s0 = 0 ∨ s0 = 1) ∧ K s0 g)
set_option maxHeartbeats 4000000 in
set_option maxRecDepth 100000 in
theorem S_Ta_readVerdict_90 {Γ : GAM} {E : EV} {fr lo : Nat} {K : Int32 → GH → Prop} (hE : GE Γ E cX6_readVerdict 2 RX6 (some (.boolean)) fr lo (fun r g' => ∃ x, r = some (.int x) ∧ K x g')) (hfr : 1 ≤ fr) (hlo : 22 ≤ lo) {R_Ta_readSum : Nat → Int32 → GH → (Int32 → GH → Prop) → Prop} {f_Ta_readSum l_Ta_readSum : Nat} (hR_Ta_readSum : (f_Ta_readSum + 1 ≤ fr ∧ 8 + (5 + 11) + l_Ta_readSum ≤ lo) ∧ ∀ (th : Nat) (p0 : Int32) g (K : Int32 → GH → Prop), R_Ta_readSum th p0 g K → MetA Γ E.2.1 yX6_readSum cX6_readSum 5 (some (.boolean)) f_Ta_readSum l_Ta_readSum [.ref th, .int p0] g (fun r g' => ∃ x, r = some (.int x) ∧ K x g')) (s0 : Int32) (g : GH) (h : B_Ta_readVerdict_90 Γ R_Ta_readSum K s0 g) : JW Γ E 90 [none, none] [.int s0] g := by
  unfold B_Ta_readVerdict_90 at h
  exact j_zret hE h.1 (by decide +kernel : decode cX6_readVerdict 90 = .ok (.ireturn, 1)) ⟨_, rfl, h.2⟩
set_option maxRecDepth 100000 in
def B_Ta_readVerdict_85 (Γ : GAM) (R_Ta_readSum : Nat → Int32 → GH → (Int32 → GH → Prop) → Prop) (K : Int32 → GH → Prop)  (g : GH) : Prop :=
  B_Ta_readVerdict_90 Γ R_Ta_readSum K (1 : Int32) g
set_option maxHeartbeats 4000000 in
set_option maxRecDepth 100000 in
theorem S_Ta_readVerdict_85 {Γ : GAM} {E : EV} {fr lo : Nat} {K : Int32 → GH → Prop} (hE : GE Γ E cX6_readVerdict 2 RX6 (some (.boolean)) fr lo (fun r g' => ∃ x, r = some (.int x) ∧ K x g')) (hfr : 1 ≤ fr) (hlo : 22 ≤ lo) {R_Ta_readSum : Nat → Int32 → GH → (Int32 → GH → Prop) → Prop} {f_Ta_readSum l_Ta_readSum : Nat} (hR_Ta_readSum : (f_Ta_readSum + 1 ≤ fr ∧ 8 + (5 + 11) + l_Ta_readSum ≤ lo) ∧ ∀ (th : Nat) (p0 : Int32) g (K : Int32 → GH → Prop), R_Ta_readSum th p0 g K → MetA Γ E.2.1 yX6_readSum cX6_readSum 5 (some (.boolean)) f_Ta_readSum l_Ta_readSum [.ref th, .int p0] g (fun r g' => ∃ x, r = some (.int x) ∧ K x g'))  (g : GH) (h : B_Ta_readVerdict_85 Γ R_Ta_readSum K  g) : JW Γ E 85 [none, none] [] g := by
  unfold B_Ta_readVerdict_85 at h
  refine j_iconst hE (by decide +kernel : decode cX6_readVerdict 85 = .ok (.iconst 1, 1)) (v := (1 : Int32)) (by decide) ?_
  refine j_goto hE (by decide +kernel : decode cX6_readVerdict 86 = .ok (.goto 4, 3)) (tgt := 90) (by decide) ?_
  exact S_Ta_readVerdict_90 hE hfr hlo hR_Ta_readSum _ _ h
set_option maxRecDepth 100000 in
def B_Ta_readVerdict_38 (Γ : GAM) (R_Ta_readSum : Nat → Int32 → GH → (Int32 → GH → Prop) → Prop) (K : Int32 → GH → Prop)  (g : GH) : Prop :=
  K (0 : Int32) g
set_option maxHeartbeats 4000000 in
set_option maxRecDepth 100000 in
theorem S_Ta_readVerdict_38 {Γ : GAM} {E : EV} {fr lo : Nat} {K : Int32 → GH → Prop} (hE : GE Γ E cX6_readVerdict 2 RX6 (some (.boolean)) fr lo (fun r g' => ∃ x, r = some (.int x) ∧ K x g')) (hfr : 1 ≤ fr) (hlo : 22 ≤ lo) {R_Ta_readSum : Nat → Int32 → GH → (Int32 → GH → Prop) → Prop} {f_Ta_readSum l_Ta_readSum : Nat} (hR_Ta_readSum : (f_Ta_readSum + 1 ≤ fr ∧ 8 + (5 + 11) + l_Ta_readSum ≤ lo) ∧ ∀ (th : Nat) (p0 : Int32) g (K : Int32 → GH → Prop), R_Ta_readSum th p0 g K → MetA Γ E.2.1 yX6_readSum cX6_readSum 5 (some (.boolean)) f_Ta_readSum l_Ta_readSum [.ref th, .int p0] g (fun r g' => ∃ x, r = some (.int x) ∧ K x g'))  (g : GH) (h : B_Ta_readVerdict_38 Γ R_Ta_readSum K  g) : JW Γ E 38 [none, none] [] g := by
  unfold B_Ta_readVerdict_38 at h
  refine j_iconst hE (by decide +kernel : decode cX6_readVerdict 38 = .ok (.iconst 0, 1)) (v := (0 : Int32)) (by decide) ?_
  exact j_zret hE (Or.inl rfl) (by decide +kernel : decode cX6_readVerdict 39 = .ok (.ireturn, 1)) ⟨_, rfl, h⟩
set_option maxRecDepth 100000 in
def B_Ta_readVerdict_29 (Γ : GAM) (R_Ta_readSum : Nat → Int32 → GH → (Int32 → GH → Prop) → Prop) (K : Int32 → GH → Prop) (l0 : Nat) (l1 : Int32) (g : GH) : Prop :=
  Kd g l0 = 8 ∧ (((Gi g 902 l0) < (40 : Int32) → Kd g l0 = 8 ∧ Kd g l0 = 8 ∧ ∀ g1 : GH, g1 = sI g 903 l0 ((Gi g 903 l0) + (1 : Int32)) → Kd g1 l0 = 8 ∧ ∃ a2 : Nat, Gr g1 901 l0 = some a2 ∧ Kd g1 l0 = 8 ∧ Kd g1 a2 = 20 ∧ inB (Gi g1 902 l0) (Ln g1 a2) ∧ ∀ g3 : GH, g3 = sA g1 (Co g1 a2) (Ow g1 a2) (Gi g1 902 l0).toNatClampNeg l1 → ((¬ (l1 = (118 : Int32)) → ((¬ (l1 = (99 : Int32)) → B_Ta_readVerdict_85 Γ R_Ta_readSum K g3) ∧ (l1 = (99 : Int32) → Kd g3 l0 = 8 ∧ R_Ta_readSum l0 (0 : Int32) g3 (fun (x5 : Int32) (g4 : GH) => ((x5 = 0 → B_Ta_readVerdict_90 Γ R_Ta_readSum K (0 : Int32) g4) ∧ (¬ (x5 = 0) → B_Ta_readVerdict_85 Γ R_Ta_readSum K g4)))))) ∧ (l1 = (118 : Int32) → Kd g3 l0 = 8 ∧ Sp_Ta_readNumber Γ l0 g3 (fun (x7 : Int32) (g6 : GH) => ((x7 = 0 ∨ x7 = 1) ∧ K x7 g6))))) ∧ (¬ ((Gi g 902 l0) < (40 : Int32)) → B_Ta_readVerdict_38 Γ R_Ta_readSum K g))
set_option maxHeartbeats 4000000 in
set_option maxRecDepth 100000 in
theorem S_Ta_readVerdict_29 {Γ : GAM} {E : EV} {fr lo : Nat} {K : Int32 → GH → Prop} (hE : GE Γ E cX6_readVerdict 2 RX6 (some (.boolean)) fr lo (fun r g' => ∃ x, r = some (.int x) ∧ K x g')) (hfr : 1 ≤ fr) (hlo : 22 ≤ lo) {R_Ta_readSum : Nat → Int32 → GH → (Int32 → GH → Prop) → Prop} {f_Ta_readSum l_Ta_readSum : Nat} (hR_Ta_readSum : (f_Ta_readSum + 1 ≤ fr ∧ 8 + (5 + 11) + l_Ta_readSum ≤ lo) ∧ ∀ (th : Nat) (p0 : Int32) g (K : Int32 → GH → Prop), R_Ta_readSum th p0 g K → MetA Γ E.2.1 yX6_readSum cX6_readSum 5 (some (.boolean)) f_Ta_readSum l_Ta_readSum [.ref th, .int p0] g (fun r g' => ∃ x, r = some (.int x) ∧ K x g')) (l0 : Nat) (l1 : Int32) (g : GH) (h : B_Ta_readVerdict_29 Γ R_Ta_readSum K l0 l1 g) : JW Γ E 29 [some (.ref l0), some (.int l1)] [] g := by
  unfold B_Ta_readVerdict_29 at h
  refine j_aload_n hE (by decide +kernel : decode cX6_readVerdict 29 = .ok (.aload_n 0, 1)) rfl rfl ?_
  obtain ⟨hk, h⟩ := h
  refine j_getI hE fg_X6_34 hk (by decide +kernel : decode cX6_readVerdict 30 = .ok (.getfield 34, 3)) ?_
  refine j_bipush hE (by decide +kernel : decode cX6_readVerdict 33 = .ok (.bipush 40, 2)) (v := (40 : Int32)) (by decide) ?_
  refine j_icmp_lt hE (by decide +kernel : decode cX6_readVerdict 35 = .ok (.if_icmp .lt 5, 3)) (tgt := 40) (by decide) (fun q => ?_) (fun q => ?_)
  · have h := h.1 q
    refine j_aload_n hE (by decide +kernel : decode cX6_readVerdict 40 = .ok (.aload_n 0, 1)) rfl rfl ?_
    refine j_dup hE (by decide +kernel : decode cX6_readVerdict 41 = .ok (.dup, 1)) rfl ?_
    obtain ⟨hk, h⟩ := h
    refine j_getI hE fg_X6_28 hk (by decide +kernel : decode cX6_readVerdict 42 = .ok (.getfield 28, 3)) ?_
    refine j_iconst hE (by decide +kernel : decode cX6_readVerdict 45 = .ok (.iconst 1, 1)) (v := (1 : Int32)) (by decide) ?_
    refine j_iadd hE (by decide +kernel : decode cX6_readVerdict 46 = .ok (.iadd, 1)) ?_
    obtain ⟨hk, h⟩ := h
    obtain ⟨g1, hg⟩ : ∃ z, z = sI g 903 l0 ((Gi g 903 l0) + (1 : Int32)) := ⟨_, rfl⟩; have h := h g1 hg
    refine j_putI hE fa_X6_28 hk (fun q => by cases q) (by decide +kernel : decode cX6_readVerdict 47 = .ok (.putfield 28, 3)) ?_
    rw [← hg]
    refine j_aload_n hE (by decide +kernel : decode cX6_readVerdict 50 = .ok (.aload_n 0, 1)) rfl rfl ?_
    obtain ⟨hk, h⟩ := h
    obtain ⟨a2, ha, h⟩ := h
    refine j_getRn hE fg_X6_21 hk ha (by decide +kernel : decode cX6_readVerdict 51 = .ok (.getfield 21, 3)) ?_
    refine j_aload_n hE (by decide +kernel : decode cX6_readVerdict 54 = .ok (.aload_n 0, 1)) rfl rfl ?_
    obtain ⟨hk, h⟩ := h
    refine j_getI hE fg_X6_34 hk (by decide +kernel : decode cX6_readVerdict 55 = .ok (.getfield 34, 3)) ?_
    refine j_iload_n hE (by decide +kernel : decode cX6_readVerdict 58 = .ok (.iload_n 1, 1)) rfl rfl ?_
    obtain ⟨hk, hb, h⟩ := h
    obtain ⟨g3, hg⟩ : ∃ z, z = sA g1 (Co g1 a2) (Ow g1 a2) (Gi g1 902 l0).toNatClampNeg l1 := ⟨_, rfl⟩; have h := h g3 hg
    refine j_iast hE hk hb (by decide +kernel : decode cX6_readVerdict 59 = .ok (.iastore, 1)) ?_
    rw [← hg]
    refine j_iload_n hE (by decide +kernel : decode cX6_readVerdict 60 = .ok (.iload_n 1, 1)) rfl rfl ?_
    refine j_bipush hE (by decide +kernel : decode cX6_readVerdict 61 = .ok (.bipush 118, 2)) (v := (118 : Int32)) (by decide) ?_
    refine j_icmp_ne hE (by decide +kernel : decode cX6_readVerdict 63 = .ok (.if_icmp .ne 8, 3)) (tgt := 71) (by decide) (fun q => ?_) (fun q => ?_)
    · have h := h.1 q
      refine j_iload_n hE (by decide +kernel : decode cX6_readVerdict 71 = .ok (.iload_n 1, 1)) rfl rfl ?_
      refine j_bipush hE (by decide +kernel : decode cX6_readVerdict 72 = .ok (.bipush 99, 2)) (v := (99 : Int32)) (by decide) ?_
      refine j_icmp_ne hE (by decide +kernel : decode cX6_readVerdict 74 = .ok (.if_icmp .ne 11, 3)) (tgt := 85) (by decide) (fun q => ?_) (fun q => ?_)
      · have h := h.1 q
        refine j_weak [none, none] trivial ?_
        exact S_Ta_readVerdict_85 hE hfr hlo hR_Ta_readSum _ h
      · have h := h.2 q
        refine j_aload_n hE (by decide +kernel : decode cX6_readVerdict 77 = .ok (.aload_n 0, 1)) rfl rfl ?_
        refine j_iconst hE (by decide +kernel : decode cX6_readVerdict 78 = .ok (.iconst 0, 1)) (v := (0 : Int32)) (by decide) ?_
        obtain ⟨hk, h⟩ := h
        refine j_callV hE rfl cl_X6_58 cf_7 im_X6_readSum se_X6_readSum hR_Ta_readSum.1 (As := [.int (0 : Int32)]) (rest := []) rfl rfl (Nat.le_of_ble_eq_true rfl) hk (by decide +kernel : decode cX6_readVerdict 79 = .ok (.invokevirtual 58, 3)) (hR_Ta_readSum.2 _ _ _ _ h) ?_
        rintro _ g4 ⟨x5, rfl, h⟩
        refine j_if_eq hE (by decide +kernel : decode cX6_readVerdict 82 = .ok (.ifCond .eq 7, 3)) (tgt := 89) (by decide) (fun q => ?_) (fun q => ?_)
        · have h := h.1 q
          refine j_iconst hE (by decide +kernel : decode cX6_readVerdict 89 = .ok (.iconst 0, 1)) (v := (0 : Int32)) (by decide) ?_
          refine j_weak [none, none] trivial ?_
          exact S_Ta_readVerdict_90 hE hfr hlo hR_Ta_readSum _ _ h
        · have h := h.2 q
          refine j_weak [none, none] trivial ?_
          exact S_Ta_readVerdict_85 hE hfr hlo hR_Ta_readSum _ h
    · have h := h.2 q
      refine j_aload_n hE (by decide +kernel : decode cX6_readVerdict 66 = .ok (.aload_n 0, 1)) rfl rfl ?_
      obtain ⟨hk, h⟩ := h
      refine j_callV hE rfl cl_X6_55 cf_7 im_X6_readNumber se_X6_readNumber ⟨by omega, by omega⟩ (As := []) (rest := []) rfl rfl (Nat.le_of_ble_eq_true rfl) hk (by decide +kernel : decode cX6_readVerdict 67 = .ok (.invokevirtual 55, 3)) (mt_Ta_readNumber _ _ _ h) ?_
      rintro _ g6 ⟨x7, rfl, h⟩
      exact j_zret hE h.1 (by decide +kernel : decode cX6_readVerdict 70 = .ok (.ireturn, 1)) ⟨_, rfl, h.2⟩
  · have h := h.2 q
    refine j_weak [none, none] trivial ?_
    exact S_Ta_readVerdict_38 hE hfr hlo hR_Ta_readSum _ h
set_option maxRecDepth 100000 in
def B_Ta_readVerdict_0 (Γ : GAM) (R_Ta_readSum : Nat → Int32 → GH → (Int32 → GH → Prop) → Prop) (K : Int32 → GH → Prop) (th : Nat) (g : GH) : Prop :=
  Kd g th = 8 ∧ Sp_Ta_nextSign Γ th g (fun (x2 : Int32) (g1 : GH) => ((x2 = (103 : Int32) → B_Ta_readVerdict_29 Γ R_Ta_readSum K th x2 g1) ∧ (¬ (x2 = (103 : Int32)) → ((x2 = (119 : Int32) → B_Ta_readVerdict_29 Γ R_Ta_readSum K th x2 g1) ∧ (¬ (x2 = (119 : Int32)) → ((x2 = (118 : Int32) → B_Ta_readVerdict_29 Γ R_Ta_readSum K th x2 g1) ∧ (¬ (x2 = (118 : Int32)) → ((¬ (x2 = (99 : Int32)) → B_Ta_readVerdict_38 Γ R_Ta_readSum K g1) ∧ (x2 = (99 : Int32) → B_Ta_readVerdict_29 Γ R_Ta_readSum K th x2 g1)))))))))
set_option maxHeartbeats 4000000 in
set_option maxRecDepth 100000 in
theorem S_Ta_readVerdict_0 {Γ : GAM} {E : EV} {fr lo : Nat} {K : Int32 → GH → Prop} (hE : GE Γ E cX6_readVerdict 2 RX6 (some (.boolean)) fr lo (fun r g' => ∃ x, r = some (.int x) ∧ K x g')) (hfr : 1 ≤ fr) (hlo : 22 ≤ lo) {R_Ta_readSum : Nat → Int32 → GH → (Int32 → GH → Prop) → Prop} {f_Ta_readSum l_Ta_readSum : Nat} (hR_Ta_readSum : (f_Ta_readSum + 1 ≤ fr ∧ 8 + (5 + 11) + l_Ta_readSum ≤ lo) ∧ ∀ (th : Nat) (p0 : Int32) g (K : Int32 → GH → Prop), R_Ta_readSum th p0 g K → MetA Γ E.2.1 yX6_readSum cX6_readSum 5 (some (.boolean)) f_Ta_readSum l_Ta_readSum [.ref th, .int p0] g (fun r g' => ∃ x, r = some (.int x) ∧ K x g')) (th : Nat) (g : GH) (h : B_Ta_readVerdict_0 Γ R_Ta_readSum K th g) : JW Γ E 0 [some (.ref th), none] [] g := by
  unfold B_Ta_readVerdict_0 at h
  refine j_aload_n hE (by decide +kernel : decode cX6_readVerdict 0 = .ok (.aload_n 0, 1)) rfl rfl ?_
  obtain ⟨hk, h⟩ := h
  refine j_callV hE rfl cl_X6_45 cf_7 im_X6_nextSign se_X6_nextSign ⟨by omega, by omega⟩ (As := []) (rest := []) rfl rfl (Nat.le_of_ble_eq_true rfl) hk (by decide +kernel : decode cX6_readVerdict 1 = .ok (.invokevirtual 45, 3)) (mt_Ta_nextSign _ _ _ h) ?_
  rintro _ g1 ⟨x2, rfl, h⟩
  refine j_istore_n hE (by decide +kernel : decode cX6_readVerdict 4 = .ok (.istore_n 1, 1)) rfl (Nat.le_of_ble_eq_true rfl) rfl ?_
  refine j_iload_n hE (by decide +kernel : decode cX6_readVerdict 5 = .ok (.iload_n 1, 1)) rfl rfl ?_
  refine j_bipush hE (by decide +kernel : decode cX6_readVerdict 6 = .ok (.bipush 103, 2)) (v := (103 : Int32)) (by decide) ?_
  refine j_icmp_eq hE (by decide +kernel : decode cX6_readVerdict 8 = .ok (.if_icmp .eq 21, 3)) (tgt := 29) (by decide) (fun q => ?_) (fun q => ?_)
  · have h := h.1 q
    exact S_Ta_readVerdict_29 hE hfr hlo hR_Ta_readSum _ _ _ h
  · have h := h.2 q
    refine j_iload_n hE (by decide +kernel : decode cX6_readVerdict 11 = .ok (.iload_n 1, 1)) rfl rfl ?_
    refine j_bipush hE (by decide +kernel : decode cX6_readVerdict 12 = .ok (.bipush 119, 2)) (v := (119 : Int32)) (by decide) ?_
    refine j_icmp_eq hE (by decide +kernel : decode cX6_readVerdict 14 = .ok (.if_icmp .eq 15, 3)) (tgt := 29) (by decide) (fun q => ?_) (fun q => ?_)
    · have h := h.1 q
      exact S_Ta_readVerdict_29 hE hfr hlo hR_Ta_readSum _ _ _ h
    · have h := h.2 q
      refine j_iload_n hE (by decide +kernel : decode cX6_readVerdict 17 = .ok (.iload_n 1, 1)) rfl rfl ?_
      refine j_bipush hE (by decide +kernel : decode cX6_readVerdict 18 = .ok (.bipush 118, 2)) (v := (118 : Int32)) (by decide) ?_
      refine j_icmp_eq hE (by decide +kernel : decode cX6_readVerdict 20 = .ok (.if_icmp .eq 9, 3)) (tgt := 29) (by decide) (fun q => ?_) (fun q => ?_)
      · have h := h.1 q
        exact S_Ta_readVerdict_29 hE hfr hlo hR_Ta_readSum _ _ _ h
      · have h := h.2 q
        refine j_iload_n hE (by decide +kernel : decode cX6_readVerdict 23 = .ok (.iload_n 1, 1)) rfl rfl ?_
        refine j_bipush hE (by decide +kernel : decode cX6_readVerdict 24 = .ok (.bipush 99, 2)) (v := (99 : Int32)) (by decide) ?_
        refine j_icmp_ne hE (by decide +kernel : decode cX6_readVerdict 26 = .ok (.if_icmp .ne 12, 3)) (tgt := 38) (by decide) (fun q => ?_) (fun q => ?_)
        · have h := h.1 q
          refine j_weak [none, none] trivial ?_
          exact S_Ta_readVerdict_38 hE hfr hlo hR_Ta_readSum _ h
        · have h := h.2 q
          exact S_Ta_readVerdict_29 hE hfr hlo hR_Ta_readSum _ _ _ h
set_option maxHeartbeats 4000000 in
set_option maxRecDepth 100000 in
theorem rl_Ta_readVerdict {Γ : GAM} {l : Launch} {fr lo : Nat} (hfr : 1 ≤ fr) (hlo : 22 ≤ lo) {R_Ta_readSum : Nat → Int32 → GH → (Int32 → GH → Prop) → Prop} {f_Ta_readSum l_Ta_readSum : Nat} (hR_Ta_readSum : (f_Ta_readSum + 1 ≤ fr ∧ 8 + (5 + 11) + l_Ta_readSum ≤ lo) ∧ ∀ (th : Nat) (p0 : Int32) g (K : Int32 → GH → Prop), R_Ta_readSum th p0 g K → MetA Γ l yX6_readSum cX6_readSum 5 (some (.boolean)) f_Ta_readSum l_Ta_readSum [.ref th, .int p0] g (fun r g' => ∃ x, r = some (.int x) ∧ K x g')) {th : Nat} {g : GH} {K : Int32 → GH → Prop} (h0 : B_Ta_readVerdict_0 Γ R_Ta_readSum K th g) : MetA Γ l yX6_readVerdict cX6_readVerdict 2 (some (.boolean)) fr lo [.ref th] g (fun r g' => ∃ x, r = some (.int x) ∧ K x g') := by
  refine MetA.introL (Lx := [some (.ref th), none]) (by decide) (Nat.le_of_ble_eq_true rfl) rfl rfl ?_
  intro E hEl hE hnm
  have hR_Ta_readSum := hR_Ta_readSum; rw [← hEl] at hR_Ta_readSum
  exact S_Ta_readVerdict_0 hE hfr hlo hR_Ta_readSum th g h0
def Sp_Ta_write (Γ : GAM) (q0 : Nat) (q1 : Int32) (g : GH) (K : GH → Prop) : Prop := False
theorem mt_Ta_write {Γ : GAM} {l : Launch} (q0 : Nat) (q1 : Int32) (g : GH) (K : GH → Prop) (h : Sp_Ta_write Γ q0 q1 g K) : MetA Γ l yX6_write cX6_write 2 none 0 0 [.ref q0, .int q1] g (fun r g' => r = none ∧ K g') := h.elim
-- the walk of Ta_readCondition
set_option maxRecDepth 100000 in
def B_Ta_readCondition_47 (Γ : GAM) (R_Ta_readPart : Nat → Int32 → GH → (Int32 → GH → Prop) → Prop) (K8 : Nat → Int32 → Int32 → Int32 → GH → Prop) (K : Int32 → GH → Prop) (l2 : Int32) (g : GH) : Prop :=
  ((l2 = 0 ∨ l2 = 1) ∧ K l2 g)
set_option maxHeartbeats 4000000 in
set_option maxRecDepth 100000 in
theorem S_Ta_readCondition_47 {Γ : GAM} {E : EV} {fr lo : Nat} {K : Int32 → GH → Prop} (hE : GE Γ E cX6_readCondition 4 RX6 (some (.boolean)) fr lo (fun r g' => ∃ x, r = some (.int x) ∧ K x g')) (hfr : 1 ≤ fr) (hlo : 22 ≤ lo) {R_Ta_readPart : Nat → Int32 → GH → (Int32 → GH → Prop) → Prop} {f_Ta_readPart l_Ta_readPart : Nat} (hR_Ta_readPart : (f_Ta_readPart + 1 ≤ fr ∧ 8 + (4 + 11) + l_Ta_readPart ≤ lo) ∧ ∀ (th : Nat) (p0 : Int32) g (K : Int32 → GH → Prop), R_Ta_readPart th p0 g K → MetA Γ E.2.1 yX6_readPart cX6_readPart 4 (some (.boolean)) f_Ta_readPart l_Ta_readPart [.ref th, .int p0] g (fun r g' => ∃ x, r = some (.int x) ∧ K x g')) {K8 : Nat → Int32 → Int32 → Int32 → GH → Prop} (hK8 : ∀ (l0 : Nat) (l1 : Int32) (l2 : Int32) (l3 : Int32) (g : GH), K8 l0 l1 l2 l3 g → JW Γ E 8 [some (.ref l0), some (.int l1), some (.int l2), some (.int l3)] [] g) (l2 : Int32) (g : GH) (h : B_Ta_readCondition_47 Γ R_Ta_readPart K8 K l2 g) : JW Γ E 47 [none, none, some (.int l2), none] [] g := by
  unfold B_Ta_readCondition_47 at h
  refine j_iload_n hE (by decide +kernel : decode cX6_readCondition 47 = .ok (.iload_n 2, 1)) rfl rfl ?_
  exact j_zret hE h.1 (by decide +kernel : decode cX6_readCondition 48 = .ok (.ireturn, 1)) ⟨_, rfl, h.2⟩
set_option maxRecDepth 100000 in
def B_Ta_readCondition_8 (Γ : GAM) (R_Ta_readPart : Nat → Int32 → GH → (Int32 → GH → Prop) → Prop) (K8 : Nat → Int32 → Int32 → Int32 → GH → Prop) (K : Int32 → GH → Prop) (l0 : Nat) (l1 : Int32) (l2 : Int32) (l3 : Int32) (g : GH) : Prop :=
  Kd g l0 = 8 ∧ (((Gi g 897 l0) ≤ l3 → B_Ta_readCondition_47 Γ R_Ta_readPart K8 K l2 g) ∧ (¬ ((Gi g 897 l0) ≤ l3) → ((l2 = 0 → B_Ta_readCondition_47 Γ R_Ta_readPart K8 K l2 g) ∧ (¬ (l2 = 0) → Kd g l0 = 8 ∧ Sp_Ta_takes Γ l0 (124 : Int32) g (fun (x2 : Int32) (g1 : GH) => ((x2 = 0 → B_Ta_readCondition_47 Γ R_Ta_readPart K8 K l2 g1) ∧ (¬ (x2 = 0) → Kd g1 l0 = 8 ∧ R_Ta_readPart l0 l1 g1 (fun (x4 : Int32) (g3 : GH) => Kd g3 l0 = 8 ∧ Sp_Ta_write Γ l0 (-124 : Int32) g3 (fun (g5 : GH) => K8 l0 l1 x4 (l3 + (1 : Int32)) g5)))))))))
set_option maxHeartbeats 4000000 in
set_option maxRecDepth 100000 in
theorem S_Ta_readCondition_8 {Γ : GAM} {E : EV} {fr lo : Nat} {K : Int32 → GH → Prop} (hE : GE Γ E cX6_readCondition 4 RX6 (some (.boolean)) fr lo (fun r g' => ∃ x, r = some (.int x) ∧ K x g')) (hfr : 1 ≤ fr) (hlo : 22 ≤ lo) {R_Ta_readPart : Nat → Int32 → GH → (Int32 → GH → Prop) → Prop} {f_Ta_readPart l_Ta_readPart : Nat} (hR_Ta_readPart : (f_Ta_readPart + 1 ≤ fr ∧ 8 + (4 + 11) + l_Ta_readPart ≤ lo) ∧ ∀ (th : Nat) (p0 : Int32) g (K : Int32 → GH → Prop), R_Ta_readPart th p0 g K → MetA Γ E.2.1 yX6_readPart cX6_readPart 4 (some (.boolean)) f_Ta_readPart l_Ta_readPart [.ref th, .int p0] g (fun r g' => ∃ x, r = some (.int x) ∧ K x g')) {K8 : Nat → Int32 → Int32 → Int32 → GH → Prop} (hK8 : ∀ (l0 : Nat) (l1 : Int32) (l2 : Int32) (l3 : Int32) (g : GH), K8 l0 l1 l2 l3 g → JW Γ E 8 [some (.ref l0), some (.int l1), some (.int l2), some (.int l3)] [] g) (l0 : Nat) (l1 : Int32) (l2 : Int32) (l3 : Int32) (g : GH) (h : B_Ta_readCondition_8 Γ R_Ta_readPart K8 K l0 l1 l2 l3 g) : JW Γ E 8 [some (.ref l0), some (.int l1), some (.int l2), some (.int l3)] [] g := by
  unfold B_Ta_readCondition_8 at h
  refine j_iload_n hE (by decide +kernel : decode cX6_readCondition 8 = .ok (.iload_n 3, 1)) rfl rfl ?_
  refine j_aload_n hE (by decide +kernel : decode cX6_readCondition 9 = .ok (.aload_n 0, 1)) rfl rfl ?_
  obtain ⟨hk, h⟩ := h
  refine j_getI hE fg_X6_24 hk (by decide +kernel : decode cX6_readCondition 10 = .ok (.getfield 24, 3)) ?_
  refine j_icmp_ge hE (by decide +kernel : decode cX6_readCondition 13 = .ok (.if_icmp .ge 34, 3)) (tgt := 47) (by decide) (fun q => ?_) (fun q => ?_)
  · have h := h.1 q
    refine j_weak [none, none, some (.int l2), none] ⟨rfl, trivial⟩ ?_
    exact S_Ta_readCondition_47 hE hfr hlo hR_Ta_readPart hK8 _ _ h
  · have h := h.2 q
    refine j_iload_n hE (by decide +kernel : decode cX6_readCondition 16 = .ok (.iload_n 2, 1)) rfl rfl ?_
    refine j_if_eq hE (by decide +kernel : decode cX6_readCondition 17 = .ok (.ifCond .eq 30, 3)) (tgt := 47) (by decide) (fun q => ?_) (fun q => ?_)
    · have h := h.1 q
      refine j_weak [none, none, some (.int l2), none] ⟨rfl, trivial⟩ ?_
      exact S_Ta_readCondition_47 hE hfr hlo hR_Ta_readPart hK8 _ _ h
    · have h := h.2 q
      refine j_aload_n hE (by decide +kernel : decode cX6_readCondition 20 = .ok (.aload_n 0, 1)) rfl rfl ?_
      refine j_bipush hE (by decide +kernel : decode cX6_readCondition 21 = .ok (.bipush 124, 2)) (v := (124 : Int32)) (by decide) ?_
      obtain ⟨hk, h⟩ := h
      refine j_callV hE rfl cl_X6_41 cf_7 im_X6_takes se_X6_takes ⟨by omega, by omega⟩ (As := [.int (124 : Int32)]) (rest := []) rfl rfl (Nat.le_of_ble_eq_true rfl) hk (by decide +kernel : decode cX6_readCondition 23 = .ok (.invokevirtual 41, 3)) (mt_Ta_takes _ _ _ _ h) ?_
      rintro _ g1 ⟨x2, rfl, h⟩
      refine j_if_eq hE (by decide +kernel : decode cX6_readCondition 26 = .ok (.ifCond .eq 21, 3)) (tgt := 47) (by decide) (fun q => ?_) (fun q => ?_)
      · have h := h.1 q
        refine j_weak [none, none, some (.int l2), none] ⟨rfl, trivial⟩ ?_
        exact S_Ta_readCondition_47 hE hfr hlo hR_Ta_readPart hK8 _ _ h
      · have h := h.2 q
        refine j_aload_n hE (by decide +kernel : decode cX6_readCondition 29 = .ok (.aload_n 0, 1)) rfl rfl ?_
        refine j_iload_n hE (by decide +kernel : decode cX6_readCondition 30 = .ok (.iload_n 1, 1)) rfl rfl ?_
        obtain ⟨hk, h⟩ := h
        refine j_callV hE rfl cl_X6_61 cf_7 im_X6_readPart se_X6_readPart hR_Ta_readPart.1 (As := [.int l1]) (rest := []) rfl rfl (Nat.le_of_ble_eq_true rfl) hk (by decide +kernel : decode cX6_readCondition 31 = .ok (.invokevirtual 61, 3)) (hR_Ta_readPart.2 _ _ _ _ h) ?_
        rintro _ g3 ⟨x4, rfl, h⟩
        refine j_istore_n hE (by decide +kernel : decode cX6_readCondition 34 = .ok (.istore_n 2, 1)) rfl (Nat.le_of_ble_eq_true rfl) rfl ?_
        refine j_aload_n hE (by decide +kernel : decode cX6_readCondition 35 = .ok (.aload_n 0, 1)) rfl rfl ?_
        refine j_bipush hE (by decide +kernel : decode cX6_readCondition 36 = .ok (.bipush (-124), 2)) (v := (-124 : Int32)) (by decide) ?_
        obtain ⟨hk, h⟩ := h
        refine j_callV hE rfl cl_X6_64 cf_7 im_X6_write se_X6_write ⟨by omega, by omega⟩ (As := [.int (-124 : Int32)]) (rest := []) rfl rfl (Nat.le_of_ble_eq_true rfl) hk (by decide +kernel : decode cX6_readCondition 38 = .ok (.invokevirtual 64, 3)) (mt_Ta_write _ _ _ _ h) ?_
        rintro _ g5 ⟨rfl, h⟩
        refine j_iinc hE (by decide +kernel : decode cX6_readCondition 41 = .ok (.iinc 3 1, 3)) (v := (1 : Int32)) (by decide) rfl (Nat.le_of_ble_eq_true rfl) rfl ?_
        refine j_goto hE (by decide +kernel : decode cX6_readCondition 44 = .ok (.goto (-36), 3)) (tgt := 8) (by decide) ?_
        exact hK8 _ _ _ _ _ h
set_option maxRecDepth 100000 in
def B_Ta_readCondition_0 (Γ : GAM) (R_Ta_readPart : Nat → Int32 → GH → (Int32 → GH → Prop) → Prop) (K8 : Nat → Int32 → Int32 → Int32 → GH → Prop) (K : Int32 → GH → Prop) (th : Nat) (p0 : Int32) (g : GH) : Prop :=
  Kd g th = 8 ∧ R_Ta_readPart th p0 g (fun (x2 : Int32) (g1 : GH) => K8 th p0 x2 (0 : Int32) g1)
set_option maxHeartbeats 4000000 in
set_option maxRecDepth 100000 in
theorem S_Ta_readCondition_0 {Γ : GAM} {E : EV} {fr lo : Nat} {K : Int32 → GH → Prop} (hE : GE Γ E cX6_readCondition 4 RX6 (some (.boolean)) fr lo (fun r g' => ∃ x, r = some (.int x) ∧ K x g')) (hfr : 1 ≤ fr) (hlo : 22 ≤ lo) {R_Ta_readPart : Nat → Int32 → GH → (Int32 → GH → Prop) → Prop} {f_Ta_readPart l_Ta_readPart : Nat} (hR_Ta_readPart : (f_Ta_readPart + 1 ≤ fr ∧ 8 + (4 + 11) + l_Ta_readPart ≤ lo) ∧ ∀ (th : Nat) (p0 : Int32) g (K : Int32 → GH → Prop), R_Ta_readPart th p0 g K → MetA Γ E.2.1 yX6_readPart cX6_readPart 4 (some (.boolean)) f_Ta_readPart l_Ta_readPart [.ref th, .int p0] g (fun r g' => ∃ x, r = some (.int x) ∧ K x g')) {K8 : Nat → Int32 → Int32 → Int32 → GH → Prop} (hK8 : ∀ (l0 : Nat) (l1 : Int32) (l2 : Int32) (l3 : Int32) (g : GH), K8 l0 l1 l2 l3 g → JW Γ E 8 [some (.ref l0), some (.int l1), some (.int l2), some (.int l3)] [] g) (th : Nat) (p0 : Int32) (g : GH) (h : B_Ta_readCondition_0 Γ R_Ta_readPart K8 K th p0 g) : JW Γ E 0 [some (.ref th), some (.int p0), none, none] [] g := by
  unfold B_Ta_readCondition_0 at h
  refine j_aload_n hE (by decide +kernel : decode cX6_readCondition 0 = .ok (.aload_n 0, 1)) rfl rfl ?_
  refine j_iload_n hE (by decide +kernel : decode cX6_readCondition 1 = .ok (.iload_n 1, 1)) rfl rfl ?_
  obtain ⟨hk, h⟩ := h
  refine j_callV hE rfl cl_X6_61 cf_7 im_X6_readPart se_X6_readPart hR_Ta_readPart.1 (As := [.int p0]) (rest := []) rfl rfl (Nat.le_of_ble_eq_true rfl) hk (by decide +kernel : decode cX6_readCondition 2 = .ok (.invokevirtual 61, 3)) (hR_Ta_readPart.2 _ _ _ _ h) ?_
  rintro _ g1 ⟨x2, rfl, h⟩
  refine j_istore_n hE (by decide +kernel : decode cX6_readCondition 5 = .ok (.istore_n 2, 1)) rfl (Nat.le_of_ble_eq_true rfl) rfl ?_
  refine j_iconst hE (by decide +kernel : decode cX6_readCondition 6 = .ok (.iconst 0, 1)) (v := (0 : Int32)) (by decide) ?_
  refine j_istore_n hE (by decide +kernel : decode cX6_readCondition 7 = .ok (.istore_n 3, 1)) rfl (Nat.le_of_ble_eq_true rfl) rfl ?_
  exact hK8 _ _ _ _ _ h
set_option maxHeartbeats 4000000 in
set_option maxRecDepth 100000 in
theorem rl_Ta_readCondition {Γ : GAM} {l : Launch} {fr lo : Nat} (hfr : 1 ≤ fr) (hlo : 22 ≤ lo) {R_Ta_readPart : Nat → Int32 → GH → (Int32 → GH → Prop) → Prop} {f_Ta_readPart l_Ta_readPart : Nat} (hR_Ta_readPart : (f_Ta_readPart + 1 ≤ fr ∧ 8 + (4 + 11) + l_Ta_readPart ≤ lo) ∧ ∀ (th : Nat) (p0 : Int32) g (K : Int32 → GH → Prop), R_Ta_readPart th p0 g K → MetA Γ l yX6_readPart cX6_readPart 4 (some (.boolean)) f_Ta_readPart l_Ta_readPart [.ref th, .int p0] g (fun r g' => ∃ x, r = some (.int x) ∧ K x g')) {th : Nat} {p0 : Int32} {g : GH} {K : Int32 → GH → Prop} (I8 : Nat → Nat → Int32 → Int32 → Int32 → GH → Prop) (hh8 : ∀ n (l0 : Nat) (l1 : Int32) (l2 : Int32) (l3 : Int32) (g : GH), I8 n l0 l1 l2 l3 g → B_Ta_readCondition_8 Γ R_Ta_readPart (fun l0 l1 l2 l3 g => ∃ m, m < n ∧ I8 m l0 l1 l2 l3 g) K l0 l1 l2 l3 g) (h0 : B_Ta_readCondition_0 Γ R_Ta_readPart (fun l0 l1 l2 l3 g => ∃ m, I8 m l0 l1 l2 l3 g) K th p0 g) : MetA Γ l yX6_readCondition cX6_readCondition 4 (some (.boolean)) fr lo [.ref th, .int p0] g (fun r g' => ∃ x, r = some (.int x) ∧ K x g') := by
  refine MetA.introL (Lx := [some (.ref th), some (.int p0), none, none]) (by decide) (Nat.le_of_ble_eq_true rfl) rfl rfl ?_
  intro E hEl hE hnm
  have hR_Ta_readPart := hR_Ta_readPart; rw [← hEl] at hR_Ta_readPart
  have hall : ∀ n, (∀ (l0 : Nat) (l1 : Int32) (l2 : Int32) (l3 : Int32) (g : GH), I8 n l0 l1 l2 l3 g → JW Γ E 8 [some (.ref l0), some (.int l1), some (.int l2), some (.int l3)] [] g) := by
    intro n
    induction n using Nat.strongRecOn with
    | ind n ih =>
      exact fun l0 l1 l2 l3 g hi => S_Ta_readCondition_8 hE hfr hlo hR_Ta_readPart (fun l0 l1 l2 l3 g hm => by obtain ⟨m, hm, h⟩ := hm; exact (ih m hm) l0 l1 l2 l3 g h) l0 l1 l2 l3 g (hh8 n l0 l1 l2 l3 g hi)
  exact S_Ta_readCondition_0 hE hfr hlo hR_Ta_readPart (fun l0 l1 l2 l3 g hm => by obtain ⟨m, h⟩ := hm; exact (hall m) l0 l1 l2 l3 g h) th p0 g h0
-- the walk of Ta_readPart
set_option maxRecDepth 100000 in
def B_Ta_readPart_47 (Γ : GAM) (R_Ta_readUnit : Nat → Int32 → GH → (Int32 → GH → Prop) → Prop) (K8 : Nat → Int32 → Int32 → Int32 → GH → Prop) (K : Int32 → GH → Prop) (l2 : Int32) (g : GH) : Prop :=
  ((l2 = 0 ∨ l2 = 1) ∧ K l2 g)
set_option maxHeartbeats 4000000 in
set_option maxRecDepth 100000 in
theorem S_Ta_readPart_47 {Γ : GAM} {E : EV} {fr lo : Nat} {K : Int32 → GH → Prop} (hE : GE Γ E cX6_readPart 4 RX6 (some (.boolean)) fr lo (fun r g' => ∃ x, r = some (.int x) ∧ K x g')) (hfr : 1 ≤ fr) (hlo : 22 ≤ lo) {R_Ta_readUnit : Nat → Int32 → GH → (Int32 → GH → Prop) → Prop} {f_Ta_readUnit l_Ta_readUnit : Nat} (hR_Ta_readUnit : (f_Ta_readUnit + 1 ≤ fr ∧ 8 + (4 + 11) + l_Ta_readUnit ≤ lo) ∧ ∀ (th : Nat) (p0 : Int32) g (K : Int32 → GH → Prop), R_Ta_readUnit th p0 g K → MetA Γ E.2.1 yX6_readUnit cX6_readUnit 4 (some (.boolean)) f_Ta_readUnit l_Ta_readUnit [.ref th, .int p0] g (fun r g' => ∃ x, r = some (.int x) ∧ K x g')) {K8 : Nat → Int32 → Int32 → Int32 → GH → Prop} (hK8 : ∀ (l0 : Nat) (l1 : Int32) (l2 : Int32) (l3 : Int32) (g : GH), K8 l0 l1 l2 l3 g → JW Γ E 8 [some (.ref l0), some (.int l1), some (.int l2), some (.int l3)] [] g) (l2 : Int32) (g : GH) (h : B_Ta_readPart_47 Γ R_Ta_readUnit K8 K l2 g) : JW Γ E 47 [none, none, some (.int l2), none] [] g := by
  unfold B_Ta_readPart_47 at h
  refine j_iload_n hE (by decide +kernel : decode cX6_readPart 47 = .ok (.iload_n 2, 1)) rfl rfl ?_
  exact j_zret hE h.1 (by decide +kernel : decode cX6_readPart 48 = .ok (.ireturn, 1)) ⟨_, rfl, h.2⟩
set_option maxRecDepth 100000 in
def B_Ta_readPart_8 (Γ : GAM) (R_Ta_readUnit : Nat → Int32 → GH → (Int32 → GH → Prop) → Prop) (K8 : Nat → Int32 → Int32 → Int32 → GH → Prop) (K : Int32 → GH → Prop) (l0 : Nat) (l1 : Int32) (l2 : Int32) (l3 : Int32) (g : GH) : Prop :=
  Kd g l0 = 8 ∧ (((Gi g 897 l0) ≤ l3 → B_Ta_readPart_47 Γ R_Ta_readUnit K8 K l2 g) ∧ (¬ ((Gi g 897 l0) ≤ l3) → ((l2 = 0 → B_Ta_readPart_47 Γ R_Ta_readUnit K8 K l2 g) ∧ (¬ (l2 = 0) → Kd g l0 = 8 ∧ Sp_Ta_takes Γ l0 (38 : Int32) g (fun (x2 : Int32) (g1 : GH) => ((x2 = 0 → B_Ta_readPart_47 Γ R_Ta_readUnit K8 K l2 g1) ∧ (¬ (x2 = 0) → Kd g1 l0 = 8 ∧ R_Ta_readUnit l0 l1 g1 (fun (x4 : Int32) (g3 : GH) => Kd g3 l0 = 8 ∧ Sp_Ta_write Γ l0 (-38 : Int32) g3 (fun (g5 : GH) => K8 l0 l1 x4 (l3 + (1 : Int32)) g5)))))))))
set_option maxHeartbeats 4000000 in
set_option maxRecDepth 100000 in
theorem S_Ta_readPart_8 {Γ : GAM} {E : EV} {fr lo : Nat} {K : Int32 → GH → Prop} (hE : GE Γ E cX6_readPart 4 RX6 (some (.boolean)) fr lo (fun r g' => ∃ x, r = some (.int x) ∧ K x g')) (hfr : 1 ≤ fr) (hlo : 22 ≤ lo) {R_Ta_readUnit : Nat → Int32 → GH → (Int32 → GH → Prop) → Prop} {f_Ta_readUnit l_Ta_readUnit : Nat} (hR_Ta_readUnit : (f_Ta_readUnit + 1 ≤ fr ∧ 8 + (4 + 11) + l_Ta_readUnit ≤ lo) ∧ ∀ (th : Nat) (p0 : Int32) g (K : Int32 → GH → Prop), R_Ta_readUnit th p0 g K → MetA Γ E.2.1 yX6_readUnit cX6_readUnit 4 (some (.boolean)) f_Ta_readUnit l_Ta_readUnit [.ref th, .int p0] g (fun r g' => ∃ x, r = some (.int x) ∧ K x g')) {K8 : Nat → Int32 → Int32 → Int32 → GH → Prop} (hK8 : ∀ (l0 : Nat) (l1 : Int32) (l2 : Int32) (l3 : Int32) (g : GH), K8 l0 l1 l2 l3 g → JW Γ E 8 [some (.ref l0), some (.int l1), some (.int l2), some (.int l3)] [] g) (l0 : Nat) (l1 : Int32) (l2 : Int32) (l3 : Int32) (g : GH) (h : B_Ta_readPart_8 Γ R_Ta_readUnit K8 K l0 l1 l2 l3 g) : JW Γ E 8 [some (.ref l0), some (.int l1), some (.int l2), some (.int l3)] [] g := by
  unfold B_Ta_readPart_8 at h
  refine j_iload_n hE (by decide +kernel : decode cX6_readPart 8 = .ok (.iload_n 3, 1)) rfl rfl ?_
  refine j_aload_n hE (by decide +kernel : decode cX6_readPart 9 = .ok (.aload_n 0, 1)) rfl rfl ?_
  obtain ⟨hk, h⟩ := h
  refine j_getI hE fg_X6_24 hk (by decide +kernel : decode cX6_readPart 10 = .ok (.getfield 24, 3)) ?_
  refine j_icmp_ge hE (by decide +kernel : decode cX6_readPart 13 = .ok (.if_icmp .ge 34, 3)) (tgt := 47) (by decide) (fun q => ?_) (fun q => ?_)
  · have h := h.1 q
    refine j_weak [none, none, some (.int l2), none] ⟨rfl, trivial⟩ ?_
    exact S_Ta_readPart_47 hE hfr hlo hR_Ta_readUnit hK8 _ _ h
  · have h := h.2 q
    refine j_iload_n hE (by decide +kernel : decode cX6_readPart 16 = .ok (.iload_n 2, 1)) rfl rfl ?_
    refine j_if_eq hE (by decide +kernel : decode cX6_readPart 17 = .ok (.ifCond .eq 30, 3)) (tgt := 47) (by decide) (fun q => ?_) (fun q => ?_)
    · have h := h.1 q
      refine j_weak [none, none, some (.int l2), none] ⟨rfl, trivial⟩ ?_
      exact S_Ta_readPart_47 hE hfr hlo hR_Ta_readUnit hK8 _ _ h
    · have h := h.2 q
      refine j_aload_n hE (by decide +kernel : decode cX6_readPart 20 = .ok (.aload_n 0, 1)) rfl rfl ?_
      refine j_bipush hE (by decide +kernel : decode cX6_readPart 21 = .ok (.bipush 38, 2)) (v := (38 : Int32)) (by decide) ?_
      obtain ⟨hk, h⟩ := h
      refine j_callV hE rfl cl_X6_41 cf_7 im_X6_takes se_X6_takes ⟨by omega, by omega⟩ (As := [.int (38 : Int32)]) (rest := []) rfl rfl (Nat.le_of_ble_eq_true rfl) hk (by decide +kernel : decode cX6_readPart 23 = .ok (.invokevirtual 41, 3)) (mt_Ta_takes _ _ _ _ h) ?_
      rintro _ g1 ⟨x2, rfl, h⟩
      refine j_if_eq hE (by decide +kernel : decode cX6_readPart 26 = .ok (.ifCond .eq 21, 3)) (tgt := 47) (by decide) (fun q => ?_) (fun q => ?_)
      · have h := h.1 q
        refine j_weak [none, none, some (.int l2), none] ⟨rfl, trivial⟩ ?_
        exact S_Ta_readPart_47 hE hfr hlo hR_Ta_readUnit hK8 _ _ h
      · have h := h.2 q
        refine j_aload_n hE (by decide +kernel : decode cX6_readPart 29 = .ok (.aload_n 0, 1)) rfl rfl ?_
        refine j_iload_n hE (by decide +kernel : decode cX6_readPart 30 = .ok (.iload_n 1, 1)) rfl rfl ?_
        obtain ⟨hk, h⟩ := h
        refine j_callV hE rfl cl_X6_68 cf_7 im_X6_readUnit se_X6_readUnit hR_Ta_readUnit.1 (As := [.int l1]) (rest := []) rfl rfl (Nat.le_of_ble_eq_true rfl) hk (by decide +kernel : decode cX6_readPart 31 = .ok (.invokevirtual 68, 3)) (hR_Ta_readUnit.2 _ _ _ _ h) ?_
        rintro _ g3 ⟨x4, rfl, h⟩
        refine j_istore_n hE (by decide +kernel : decode cX6_readPart 34 = .ok (.istore_n 2, 1)) rfl (Nat.le_of_ble_eq_true rfl) rfl ?_
        refine j_aload_n hE (by decide +kernel : decode cX6_readPart 35 = .ok (.aload_n 0, 1)) rfl rfl ?_
        refine j_bipush hE (by decide +kernel : decode cX6_readPart 36 = .ok (.bipush (-38), 2)) (v := (-38 : Int32)) (by decide) ?_
        obtain ⟨hk, h⟩ := h
        refine j_callV hE rfl cl_X6_64 cf_7 im_X6_write se_X6_write ⟨by omega, by omega⟩ (As := [.int (-38 : Int32)]) (rest := []) rfl rfl (Nat.le_of_ble_eq_true rfl) hk (by decide +kernel : decode cX6_readPart 38 = .ok (.invokevirtual 64, 3)) (mt_Ta_write _ _ _ _ h) ?_
        rintro _ g5 ⟨rfl, h⟩
        refine j_iinc hE (by decide +kernel : decode cX6_readPart 41 = .ok (.iinc 3 1, 3)) (v := (1 : Int32)) (by decide) rfl (Nat.le_of_ble_eq_true rfl) rfl ?_
        refine j_goto hE (by decide +kernel : decode cX6_readPart 44 = .ok (.goto (-36), 3)) (tgt := 8) (by decide) ?_
        exact hK8 _ _ _ _ _ h
set_option maxRecDepth 100000 in
def B_Ta_readPart_0 (Γ : GAM) (R_Ta_readUnit : Nat → Int32 → GH → (Int32 → GH → Prop) → Prop) (K8 : Nat → Int32 → Int32 → Int32 → GH → Prop) (K : Int32 → GH → Prop) (th : Nat) (p0 : Int32) (g : GH) : Prop :=
  Kd g th = 8 ∧ R_Ta_readUnit th p0 g (fun (x2 : Int32) (g1 : GH) => K8 th p0 x2 (0 : Int32) g1)
set_option maxHeartbeats 4000000 in
set_option maxRecDepth 100000 in
theorem S_Ta_readPart_0 {Γ : GAM} {E : EV} {fr lo : Nat} {K : Int32 → GH → Prop} (hE : GE Γ E cX6_readPart 4 RX6 (some (.boolean)) fr lo (fun r g' => ∃ x, r = some (.int x) ∧ K x g')) (hfr : 1 ≤ fr) (hlo : 22 ≤ lo) {R_Ta_readUnit : Nat → Int32 → GH → (Int32 → GH → Prop) → Prop} {f_Ta_readUnit l_Ta_readUnit : Nat} (hR_Ta_readUnit : (f_Ta_readUnit + 1 ≤ fr ∧ 8 + (4 + 11) + l_Ta_readUnit ≤ lo) ∧ ∀ (th : Nat) (p0 : Int32) g (K : Int32 → GH → Prop), R_Ta_readUnit th p0 g K → MetA Γ E.2.1 yX6_readUnit cX6_readUnit 4 (some (.boolean)) f_Ta_readUnit l_Ta_readUnit [.ref th, .int p0] g (fun r g' => ∃ x, r = some (.int x) ∧ K x g')) {K8 : Nat → Int32 → Int32 → Int32 → GH → Prop} (hK8 : ∀ (l0 : Nat) (l1 : Int32) (l2 : Int32) (l3 : Int32) (g : GH), K8 l0 l1 l2 l3 g → JW Γ E 8 [some (.ref l0), some (.int l1), some (.int l2), some (.int l3)] [] g) (th : Nat) (p0 : Int32) (g : GH) (h : B_Ta_readPart_0 Γ R_Ta_readUnit K8 K th p0 g) : JW Γ E 0 [some (.ref th), some (.int p0), none, none] [] g := by
  unfold B_Ta_readPart_0 at h
  refine j_aload_n hE (by decide +kernel : decode cX6_readPart 0 = .ok (.aload_n 0, 1)) rfl rfl ?_
  refine j_iload_n hE (by decide +kernel : decode cX6_readPart 1 = .ok (.iload_n 1, 1)) rfl rfl ?_
  obtain ⟨hk, h⟩ := h
  refine j_callV hE rfl cl_X6_68 cf_7 im_X6_readUnit se_X6_readUnit hR_Ta_readUnit.1 (As := [.int p0]) (rest := []) rfl rfl (Nat.le_of_ble_eq_true rfl) hk (by decide +kernel : decode cX6_readPart 2 = .ok (.invokevirtual 68, 3)) (hR_Ta_readUnit.2 _ _ _ _ h) ?_
  rintro _ g1 ⟨x2, rfl, h⟩
  refine j_istore_n hE (by decide +kernel : decode cX6_readPart 5 = .ok (.istore_n 2, 1)) rfl (Nat.le_of_ble_eq_true rfl) rfl ?_
  refine j_iconst hE (by decide +kernel : decode cX6_readPart 6 = .ok (.iconst 0, 1)) (v := (0 : Int32)) (by decide) ?_
  refine j_istore_n hE (by decide +kernel : decode cX6_readPart 7 = .ok (.istore_n 3, 1)) rfl (Nat.le_of_ble_eq_true rfl) rfl ?_
  exact hK8 _ _ _ _ _ h
set_option maxHeartbeats 4000000 in
set_option maxRecDepth 100000 in
theorem rl_Ta_readPart {Γ : GAM} {l : Launch} {fr lo : Nat} (hfr : 1 ≤ fr) (hlo : 22 ≤ lo) {R_Ta_readUnit : Nat → Int32 → GH → (Int32 → GH → Prop) → Prop} {f_Ta_readUnit l_Ta_readUnit : Nat} (hR_Ta_readUnit : (f_Ta_readUnit + 1 ≤ fr ∧ 8 + (4 + 11) + l_Ta_readUnit ≤ lo) ∧ ∀ (th : Nat) (p0 : Int32) g (K : Int32 → GH → Prop), R_Ta_readUnit th p0 g K → MetA Γ l yX6_readUnit cX6_readUnit 4 (some (.boolean)) f_Ta_readUnit l_Ta_readUnit [.ref th, .int p0] g (fun r g' => ∃ x, r = some (.int x) ∧ K x g')) {th : Nat} {p0 : Int32} {g : GH} {K : Int32 → GH → Prop} (I8 : Nat → Nat → Int32 → Int32 → Int32 → GH → Prop) (hh8 : ∀ n (l0 : Nat) (l1 : Int32) (l2 : Int32) (l3 : Int32) (g : GH), I8 n l0 l1 l2 l3 g → B_Ta_readPart_8 Γ R_Ta_readUnit (fun l0 l1 l2 l3 g => ∃ m, m < n ∧ I8 m l0 l1 l2 l3 g) K l0 l1 l2 l3 g) (h0 : B_Ta_readPart_0 Γ R_Ta_readUnit (fun l0 l1 l2 l3 g => ∃ m, I8 m l0 l1 l2 l3 g) K th p0 g) : MetA Γ l yX6_readPart cX6_readPart 4 (some (.boolean)) fr lo [.ref th, .int p0] g (fun r g' => ∃ x, r = some (.int x) ∧ K x g') := by
  refine MetA.introL (Lx := [some (.ref th), some (.int p0), none, none]) (by decide) (Nat.le_of_ble_eq_true rfl) rfl rfl ?_
  intro E hEl hE hnm
  have hR_Ta_readUnit := hR_Ta_readUnit; rw [← hEl] at hR_Ta_readUnit
  have hall : ∀ n, (∀ (l0 : Nat) (l1 : Int32) (l2 : Int32) (l3 : Int32) (g : GH), I8 n l0 l1 l2 l3 g → JW Γ E 8 [some (.ref l0), some (.int l1), some (.int l2), some (.int l3)] [] g) := by
    intro n
    induction n using Nat.strongRecOn with
    | ind n ih =>
      exact fun l0 l1 l2 l3 g hi => S_Ta_readPart_8 hE hfr hlo hR_Ta_readUnit (fun l0 l1 l2 l3 g hm => by obtain ⟨m, hm, h⟩ := hm; exact (ih m hm) l0 l1 l2 l3 g h) l0 l1 l2 l3 g (hh8 n l0 l1 l2 l3 g hi)
  exact S_Ta_readPart_0 hE hfr hlo hR_Ta_readUnit (fun l0 l1 l2 l3 g hm => by obtain ⟨m, h⟩ := hm; exact (hall m) l0 l1 l2 l3 g h) th p0 g h0
-- the walk of Ta_readUnit
set_option maxRecDepth 100000 in
def B_Ta_readUnit_71 (Γ : GAM) (R_Ta_readComparison : Nat → Int32 → GH → (Int32 → GH → Prop) → Prop) (R_Ta_readCondition : Nat → Int32 → GH → (Int32 → GH → Prop) → Prop) (R_Ta_readUnit : Nat → Int32 → GH → (Int32 → GH → Prop) → Prop) (K : Int32 → GH → Prop) (s0 : Int32) (g : GH) : Prop :=
  ((s0 = 0 ∨ s0 = 1) ∧ K s0 g)
set_option maxHeartbeats 4000000 in
set_option maxRecDepth 100000 in
theorem S_Ta_readUnit_71 {Γ : GAM} {E : EV} {fr lo : Nat} {K : Int32 → GH → Prop} (hE : GE Γ E cX6_readUnit 4 RX6 (some (.boolean)) fr lo (fun r g' => ∃ x, r = some (.int x) ∧ K x g')) (hfr : 1 ≤ fr) (hlo : 22 ≤ lo) {R_Ta_readComparison : Nat → Int32 → GH → (Int32 → GH → Prop) → Prop} {R_Ta_readCondition : Nat → Int32 → GH → (Int32 → GH → Prop) → Prop} {R_Ta_readUnit : Nat → Int32 → GH → (Int32 → GH → Prop) → Prop} {f_Ta_readComparison l_Ta_readComparison : Nat} (hR_Ta_readComparison : (f_Ta_readComparison + 1 ≤ fr ∧ 8 + (4 + 11) + l_Ta_readComparison ≤ lo) ∧ ∀ (th : Nat) (p0 : Int32) g (K : Int32 → GH → Prop), R_Ta_readComparison th p0 g K → MetA Γ E.2.1 yX6_readComparison cX6_readComparison 4 (some (.boolean)) f_Ta_readComparison l_Ta_readComparison [.ref th, .int p0] g (fun r g' => ∃ x, r = some (.int x) ∧ K x g')) {f_Ta_readCondition l_Ta_readCondition : Nat} (hR_Ta_readCondition : (f_Ta_readCondition + 1 ≤ fr ∧ 8 + (4 + 11) + l_Ta_readCondition ≤ lo) ∧ ∀ (th : Nat) (p0 : Int32) g (K : Int32 → GH → Prop), R_Ta_readCondition th p0 g K → MetA Γ E.2.1 yX6_readCondition cX6_readCondition 4 (some (.boolean)) f_Ta_readCondition l_Ta_readCondition [.ref th, .int p0] g (fun r g' => ∃ x, r = some (.int x) ∧ K x g')) {f_Ta_readUnit l_Ta_readUnit : Nat} (hR_Ta_readUnit : (f_Ta_readUnit + 1 ≤ fr ∧ 8 + (4 + 11) + l_Ta_readUnit ≤ lo) ∧ ∀ (th : Nat) (p0 : Int32) g (K : Int32 → GH → Prop), R_Ta_readUnit th p0 g K → MetA Γ E.2.1 yX6_readUnit cX6_readUnit 4 (some (.boolean)) f_Ta_readUnit l_Ta_readUnit [.ref th, .int p0] g (fun r g' => ∃ x, r = some (.int x) ∧ K x g')) (s0 : Int32) (g : GH) (h : B_Ta_readUnit_71 Γ R_Ta_readComparison R_Ta_readCondition R_Ta_readUnit K s0 g) : JW Γ E 71 [none, none, none, none] [.int s0] g := by
  unfold B_Ta_readUnit_71 at h
  exact j_zret hE h.1 (by decide +kernel : decode cX6_readUnit 71 = .ok (.ireturn, 1)) ⟨_, rfl, h.2⟩
set_option maxRecDepth 100000 in
def B_Ta_readUnit_70 (Γ : GAM) (R_Ta_readComparison : Nat → Int32 → GH → (Int32 → GH → Prop) → Prop) (R_Ta_readCondition : Nat → Int32 → GH → (Int32 → GH → Prop) → Prop) (R_Ta_readUnit : Nat → Int32 → GH → (Int32 → GH → Prop) → Prop) (K : Int32 → GH → Prop)  (g : GH) : Prop :=
  B_Ta_readUnit_71 Γ R_Ta_readComparison R_Ta_readCondition R_Ta_readUnit K (0 : Int32) g
set_option maxHeartbeats 4000000 in
set_option maxRecDepth 100000 in
theorem S_Ta_readUnit_70 {Γ : GAM} {E : EV} {fr lo : Nat} {K : Int32 → GH → Prop} (hE : GE Γ E cX6_readUnit 4 RX6 (some (.boolean)) fr lo (fun r g' => ∃ x, r = some (.int x) ∧ K x g')) (hfr : 1 ≤ fr) (hlo : 22 ≤ lo) {R_Ta_readComparison : Nat → Int32 → GH → (Int32 → GH → Prop) → Prop} {R_Ta_readCondition : Nat → Int32 → GH → (Int32 → GH → Prop) → Prop} {R_Ta_readUnit : Nat → Int32 → GH → (Int32 → GH → Prop) → Prop} {f_Ta_readComparison l_Ta_readComparison : Nat} (hR_Ta_readComparison : (f_Ta_readComparison + 1 ≤ fr ∧ 8 + (4 + 11) + l_Ta_readComparison ≤ lo) ∧ ∀ (th : Nat) (p0 : Int32) g (K : Int32 → GH → Prop), R_Ta_readComparison th p0 g K → MetA Γ E.2.1 yX6_readComparison cX6_readComparison 4 (some (.boolean)) f_Ta_readComparison l_Ta_readComparison [.ref th, .int p0] g (fun r g' => ∃ x, r = some (.int x) ∧ K x g')) {f_Ta_readCondition l_Ta_readCondition : Nat} (hR_Ta_readCondition : (f_Ta_readCondition + 1 ≤ fr ∧ 8 + (4 + 11) + l_Ta_readCondition ≤ lo) ∧ ∀ (th : Nat) (p0 : Int32) g (K : Int32 → GH → Prop), R_Ta_readCondition th p0 g K → MetA Γ E.2.1 yX6_readCondition cX6_readCondition 4 (some (.boolean)) f_Ta_readCondition l_Ta_readCondition [.ref th, .int p0] g (fun r g' => ∃ x, r = some (.int x) ∧ K x g')) {f_Ta_readUnit l_Ta_readUnit : Nat} (hR_Ta_readUnit : (f_Ta_readUnit + 1 ≤ fr ∧ 8 + (4 + 11) + l_Ta_readUnit ≤ lo) ∧ ∀ (th : Nat) (p0 : Int32) g (K : Int32 → GH → Prop), R_Ta_readUnit th p0 g K → MetA Γ E.2.1 yX6_readUnit cX6_readUnit 4 (some (.boolean)) f_Ta_readUnit l_Ta_readUnit [.ref th, .int p0] g (fun r g' => ∃ x, r = some (.int x) ∧ K x g'))  (g : GH) (h : B_Ta_readUnit_70 Γ R_Ta_readComparison R_Ta_readCondition R_Ta_readUnit K  g) : JW Γ E 70 [none, none, none, none] [] g := by
  unfold B_Ta_readUnit_70 at h
  refine j_iconst hE (by decide +kernel : decode cX6_readUnit 70 = .ok (.iconst 0, 1)) (v := (0 : Int32)) (by decide) ?_
  exact S_Ta_readUnit_71 hE hfr hlo hR_Ta_readComparison hR_Ta_readCondition hR_Ta_readUnit _ _ h
set_option maxRecDepth 100000 in
def B_Ta_readUnit_23 (Γ : GAM) (R_Ta_readComparison : Nat → Int32 → GH → (Int32 → GH → Prop) → Prop) (R_Ta_readCondition : Nat → Int32 → GH → (Int32 → GH → Prop) → Prop) (R_Ta_readUnit : Nat → Int32 → GH → (Int32 → GH → Prop) → Prop) (K : Int32 → GH → Prop) (l0 : Nat) (l1 : Int32) (l2 : Int32) (g : GH) : Prop :=
  ((l1 < (8 : Int32) → Kd g l0 = 8 ∧ Kd g l0 = 8 ∧ ∀ g1 : GH, g1 = sI g 903 l0 ((Gi g 903 l0) + (1 : Int32)) → ((¬ (l2 = (40 : Int32)) → Kd g1 l0 = 8 ∧ R_Ta_readUnit l0 (l1 + (1 : Int32)) g1 (fun (x3 : Int32) (g2 : GH) => Kd g2 l0 = 8 ∧ Sp_Ta_write Γ l0 (-33 : Int32) g2 (fun (g4 : GH) => ((x3 = 0 ∨ x3 = 1) ∧ K x3 g4)))) ∧ (l2 = (40 : Int32) → Kd g1 l0 = 8 ∧ R_Ta_readCondition l0 (l1 + (1 : Int32)) g1 (fun (x6 : Int32) (g5 : GH) => ((x6 = 0 → B_Ta_readUnit_70 Γ R_Ta_readComparison R_Ta_readCondition R_Ta_readUnit K g5) ∧ (¬ (x6 = 0) → Kd g5 l0 = 8 ∧ Sp_Ta_takes Γ l0 (41 : Int32) g5 (fun (x8 : Int32) (g7 : GH) => ((x8 = 0 → B_Ta_readUnit_70 Γ R_Ta_readComparison R_Ta_readCondition R_Ta_readUnit K g7) ∧ (¬ (x8 = 0) → B_Ta_readUnit_71 Γ R_Ta_readComparison R_Ta_readCondition R_Ta_readUnit K (1 : Int32) g7))))))))) ∧ (¬ (l1 < (8 : Int32)) → K (0 : Int32) g))
set_option maxHeartbeats 4000000 in
set_option maxRecDepth 100000 in
theorem S_Ta_readUnit_23 {Γ : GAM} {E : EV} {fr lo : Nat} {K : Int32 → GH → Prop} (hE : GE Γ E cX6_readUnit 4 RX6 (some (.boolean)) fr lo (fun r g' => ∃ x, r = some (.int x) ∧ K x g')) (hfr : 1 ≤ fr) (hlo : 22 ≤ lo) {R_Ta_readComparison : Nat → Int32 → GH → (Int32 → GH → Prop) → Prop} {R_Ta_readCondition : Nat → Int32 → GH → (Int32 → GH → Prop) → Prop} {R_Ta_readUnit : Nat → Int32 → GH → (Int32 → GH → Prop) → Prop} {f_Ta_readComparison l_Ta_readComparison : Nat} (hR_Ta_readComparison : (f_Ta_readComparison + 1 ≤ fr ∧ 8 + (4 + 11) + l_Ta_readComparison ≤ lo) ∧ ∀ (th : Nat) (p0 : Int32) g (K : Int32 → GH → Prop), R_Ta_readComparison th p0 g K → MetA Γ E.2.1 yX6_readComparison cX6_readComparison 4 (some (.boolean)) f_Ta_readComparison l_Ta_readComparison [.ref th, .int p0] g (fun r g' => ∃ x, r = some (.int x) ∧ K x g')) {f_Ta_readCondition l_Ta_readCondition : Nat} (hR_Ta_readCondition : (f_Ta_readCondition + 1 ≤ fr ∧ 8 + (4 + 11) + l_Ta_readCondition ≤ lo) ∧ ∀ (th : Nat) (p0 : Int32) g (K : Int32 → GH → Prop), R_Ta_readCondition th p0 g K → MetA Γ E.2.1 yX6_readCondition cX6_readCondition 4 (some (.boolean)) f_Ta_readCondition l_Ta_readCondition [.ref th, .int p0] g (fun r g' => ∃ x, r = some (.int x) ∧ K x g')) {f_Ta_readUnit l_Ta_readUnit : Nat} (hR_Ta_readUnit : (f_Ta_readUnit + 1 ≤ fr ∧ 8 + (4 + 11) + l_Ta_readUnit ≤ lo) ∧ ∀ (th : Nat) (p0 : Int32) g (K : Int32 → GH → Prop), R_Ta_readUnit th p0 g K → MetA Γ E.2.1 yX6_readUnit cX6_readUnit 4 (some (.boolean)) f_Ta_readUnit l_Ta_readUnit [.ref th, .int p0] g (fun r g' => ∃ x, r = some (.int x) ∧ K x g')) (l0 : Nat) (l1 : Int32) (l2 : Int32) (g : GH) (h : B_Ta_readUnit_23 Γ R_Ta_readComparison R_Ta_readCondition R_Ta_readUnit K l0 l1 l2 g) : JW Γ E 23 [some (.ref l0), some (.int l1), some (.int l2), none] [] g := by
  unfold B_Ta_readUnit_23 at h
  refine j_iload_n hE (by decide +kernel : decode cX6_readUnit 23 = .ok (.iload_n 1, 1)) rfl rfl ?_
  refine j_bipush hE (by decide +kernel : decode cX6_readUnit 24 = .ok (.bipush 8, 2)) (v := (8 : Int32)) (by decide) ?_
  refine j_icmp_lt hE (by decide +kernel : decode cX6_readUnit 26 = .ok (.if_icmp .lt 5, 3)) (tgt := 31) (by decide) (fun q => ?_) (fun q => ?_)
  · have h := h.1 q
    refine j_aload_n hE (by decide +kernel : decode cX6_readUnit 31 = .ok (.aload_n 0, 1)) rfl rfl ?_
    refine j_dup hE (by decide +kernel : decode cX6_readUnit 32 = .ok (.dup, 1)) rfl ?_
    obtain ⟨hk, h⟩ := h
    refine j_getI hE fg_X6_28 hk (by decide +kernel : decode cX6_readUnit 33 = .ok (.getfield 28, 3)) ?_
    refine j_iconst hE (by decide +kernel : decode cX6_readUnit 36 = .ok (.iconst 1, 1)) (v := (1 : Int32)) (by decide) ?_
    refine j_iadd hE (by decide +kernel : decode cX6_readUnit 37 = .ok (.iadd, 1)) ?_
    obtain ⟨hk, h⟩ := h
    obtain ⟨g1, hg⟩ : ∃ z, z = sI g 903 l0 ((Gi g 903 l0) + (1 : Int32)) := ⟨_, rfl⟩; have h := h g1 hg
    refine j_putI hE fa_X6_28 hk (fun q => by cases q) (by decide +kernel : decode cX6_readUnit 38 = .ok (.putfield 28, 3)) ?_
    rw [← hg]
    refine j_iload_n hE (by decide +kernel : decode cX6_readUnit 41 = .ok (.iload_n 2, 1)) rfl rfl ?_
    refine j_bipush hE (by decide +kernel : decode cX6_readUnit 42 = .ok (.bipush 40, 2)) (v := (40 : Int32)) (by decide) ?_
    refine j_icmp_ne hE (by decide +kernel : decode cX6_readUnit 44 = .ok (.if_icmp .ne 28, 3)) (tgt := 72) (by decide) (fun q => ?_) (fun q => ?_)
    · have h := h.1 q
      refine j_aload_n hE (by decide +kernel : decode cX6_readUnit 72 = .ok (.aload_n 0, 1)) rfl rfl ?_
      refine j_iload_n hE (by decide +kernel : decode cX6_readUnit 73 = .ok (.iload_n 1, 1)) rfl rfl ?_
      refine j_iconst hE (by decide +kernel : decode cX6_readUnit 74 = .ok (.iconst 1, 1)) (v := (1 : Int32)) (by decide) ?_
      refine j_iadd hE (by decide +kernel : decode cX6_readUnit 75 = .ok (.iadd, 1)) ?_
      obtain ⟨hk, h⟩ := h
      refine j_callV hE rfl cl_X6_68 cf_7 im_X6_readUnit se_X6_readUnit hR_Ta_readUnit.1 (As := [.int (l1 + (1 : Int32))]) (rest := []) rfl rfl (Nat.le_of_ble_eq_true rfl) hk (by decide +kernel : decode cX6_readUnit 76 = .ok (.invokevirtual 68, 3)) (hR_Ta_readUnit.2 _ _ _ _ h) ?_
      rintro _ g2 ⟨x3, rfl, h⟩
      refine j_istore_n hE (by decide +kernel : decode cX6_readUnit 79 = .ok (.istore_n 3, 1)) rfl (Nat.le_of_ble_eq_true rfl) rfl ?_
      refine j_aload_n hE (by decide +kernel : decode cX6_readUnit 80 = .ok (.aload_n 0, 1)) rfl rfl ?_
      refine j_bipush hE (by decide +kernel : decode cX6_readUnit 81 = .ok (.bipush (-33), 2)) (v := (-33 : Int32)) (by decide) ?_
      obtain ⟨hk, h⟩ := h
      refine j_callV hE rfl cl_X6_64 cf_7 im_X6_write se_X6_write ⟨by omega, by omega⟩ (As := [.int (-33 : Int32)]) (rest := []) rfl rfl (Nat.le_of_ble_eq_true rfl) hk (by decide +kernel : decode cX6_readUnit 83 = .ok (.invokevirtual 64, 3)) (mt_Ta_write _ _ _ _ h) ?_
      rintro _ g4 ⟨rfl, h⟩
      refine j_iload_n hE (by decide +kernel : decode cX6_readUnit 86 = .ok (.iload_n 3, 1)) rfl rfl ?_
      exact j_zret hE h.1 (by decide +kernel : decode cX6_readUnit 87 = .ok (.ireturn, 1)) ⟨_, rfl, h.2⟩
    · have h := h.2 q
      refine j_aload_n hE (by decide +kernel : decode cX6_readUnit 47 = .ok (.aload_n 0, 1)) rfl rfl ?_
      refine j_iload_n hE (by decide +kernel : decode cX6_readUnit 48 = .ok (.iload_n 1, 1)) rfl rfl ?_
      refine j_iconst hE (by decide +kernel : decode cX6_readUnit 49 = .ok (.iconst 1, 1)) (v := (1 : Int32)) (by decide) ?_
      refine j_iadd hE (by decide +kernel : decode cX6_readUnit 50 = .ok (.iadd, 1)) ?_
      obtain ⟨hk, h⟩ := h
      refine j_callV hE rfl cl_X6_49 cf_7 im_X6_readCondition se_X6_readCondition hR_Ta_readCondition.1 (As := [.int (l1 + (1 : Int32))]) (rest := []) rfl rfl (Nat.le_of_ble_eq_true rfl) hk (by decide +kernel : decode cX6_readUnit 51 = .ok (.invokevirtual 49, 3)) (hR_Ta_readCondition.2 _ _ _ _ h) ?_
      rintro _ g5 ⟨x6, rfl, h⟩
      refine j_if_eq hE (by decide +kernel : decode cX6_readUnit 54 = .ok (.ifCond .eq 16, 3)) (tgt := 70) (by decide) (fun q => ?_) (fun q => ?_)
      · have h := h.1 q
        refine j_weak [none, none, none, none] trivial ?_
        exact S_Ta_readUnit_70 hE hfr hlo hR_Ta_readComparison hR_Ta_readCondition hR_Ta_readUnit _ h
      · have h := h.2 q
        refine j_aload_n hE (by decide +kernel : decode cX6_readUnit 57 = .ok (.aload_n 0, 1)) rfl rfl ?_
        refine j_bipush hE (by decide +kernel : decode cX6_readUnit 58 = .ok (.bipush 41, 2)) (v := (41 : Int32)) (by decide) ?_
        obtain ⟨hk, h⟩ := h
        refine j_callV hE rfl cl_X6_41 cf_7 im_X6_takes se_X6_takes ⟨by omega, by omega⟩ (As := [.int (41 : Int32)]) (rest := []) rfl rfl (Nat.le_of_ble_eq_true rfl) hk (by decide +kernel : decode cX6_readUnit 60 = .ok (.invokevirtual 41, 3)) (mt_Ta_takes _ _ _ _ h) ?_
        rintro _ g7 ⟨x8, rfl, h⟩
        refine j_if_eq hE (by decide +kernel : decode cX6_readUnit 63 = .ok (.ifCond .eq 7, 3)) (tgt := 70) (by decide) (fun q => ?_) (fun q => ?_)
        · have h := h.1 q
          refine j_weak [none, none, none, none] trivial ?_
          exact S_Ta_readUnit_70 hE hfr hlo hR_Ta_readComparison hR_Ta_readCondition hR_Ta_readUnit _ h
        · have h := h.2 q
          refine j_iconst hE (by decide +kernel : decode cX6_readUnit 66 = .ok (.iconst 1, 1)) (v := (1 : Int32)) (by decide) ?_
          refine j_goto hE (by decide +kernel : decode cX6_readUnit 67 = .ok (.goto 4, 3)) (tgt := 71) (by decide) ?_
          refine j_weak [none, none, none, none] trivial ?_
          exact S_Ta_readUnit_71 hE hfr hlo hR_Ta_readComparison hR_Ta_readCondition hR_Ta_readUnit _ _ h
  · have h := h.2 q
    refine j_iconst hE (by decide +kernel : decode cX6_readUnit 29 = .ok (.iconst 0, 1)) (v := (0 : Int32)) (by decide) ?_
    exact j_zret hE (Or.inl rfl) (by decide +kernel : decode cX6_readUnit 30 = .ok (.ireturn, 1)) ⟨_, rfl, h⟩
set_option maxRecDepth 100000 in
def B_Ta_readUnit_0 (Γ : GAM) (R_Ta_readComparison : Nat → Int32 → GH → (Int32 → GH → Prop) → Prop) (R_Ta_readCondition : Nat → Int32 → GH → (Int32 → GH → Prop) → Prop) (R_Ta_readUnit : Nat → Int32 → GH → (Int32 → GH → Prop) → Prop) (K : Int32 → GH → Prop) (th : Nat) (p0 : Int32) (g : GH) : Prop :=
  Kd g th = 8 ∧ Sp_Ta_nextSign Γ th g (fun (x2 : Int32) (g1 : GH) => ((x2 = (33 : Int32) → B_Ta_readUnit_23 Γ R_Ta_readComparison R_Ta_readCondition R_Ta_readUnit K th p0 x2 g1) ∧ (¬ (x2 = (33 : Int32)) → ((x2 = (40 : Int32) → B_Ta_readUnit_23 Γ R_Ta_readComparison R_Ta_readCondition R_Ta_readUnit K th p0 x2 g1) ∧ (¬ (x2 = (40 : Int32)) → Kd g1 th = 8 ∧ R_Ta_readComparison th p0 g1 (fun (x4 : Int32) (g3 : GH) => ((x4 = 0 ∨ x4 = 1) ∧ K x4 g3)))))))
set_option maxHeartbeats 4000000 in
set_option maxRecDepth 100000 in
theorem S_Ta_readUnit_0 {Γ : GAM} {E : EV} {fr lo : Nat} {K : Int32 → GH → Prop} (hE : GE Γ E cX6_readUnit 4 RX6 (some (.boolean)) fr lo (fun r g' => ∃ x, r = some (.int x) ∧ K x g')) (hfr : 1 ≤ fr) (hlo : 22 ≤ lo) {R_Ta_readComparison : Nat → Int32 → GH → (Int32 → GH → Prop) → Prop} {R_Ta_readCondition : Nat → Int32 → GH → (Int32 → GH → Prop) → Prop} {R_Ta_readUnit : Nat → Int32 → GH → (Int32 → GH → Prop) → Prop} {f_Ta_readComparison l_Ta_readComparison : Nat} (hR_Ta_readComparison : (f_Ta_readComparison + 1 ≤ fr ∧ 8 + (4 + 11) + l_Ta_readComparison ≤ lo) ∧ ∀ (th : Nat) (p0 : Int32) g (K : Int32 → GH → Prop), R_Ta_readComparison th p0 g K → MetA Γ E.2.1 yX6_readComparison cX6_readComparison 4 (some (.boolean)) f_Ta_readComparison l_Ta_readComparison [.ref th, .int p0] g (fun r g' => ∃ x, r = some (.int x) ∧ K x g')) {f_Ta_readCondition l_Ta_readCondition : Nat} (hR_Ta_readCondition : (f_Ta_readCondition + 1 ≤ fr ∧ 8 + (4 + 11) + l_Ta_readCondition ≤ lo) ∧ ∀ (th : Nat) (p0 : Int32) g (K : Int32 → GH → Prop), R_Ta_readCondition th p0 g K → MetA Γ E.2.1 yX6_readCondition cX6_readCondition 4 (some (.boolean)) f_Ta_readCondition l_Ta_readCondition [.ref th, .int p0] g (fun r g' => ∃ x, r = some (.int x) ∧ K x g')) {f_Ta_readUnit l_Ta_readUnit : Nat} (hR_Ta_readUnit : (f_Ta_readUnit + 1 ≤ fr ∧ 8 + (4 + 11) + l_Ta_readUnit ≤ lo) ∧ ∀ (th : Nat) (p0 : Int32) g (K : Int32 → GH → Prop), R_Ta_readUnit th p0 g K → MetA Γ E.2.1 yX6_readUnit cX6_readUnit 4 (some (.boolean)) f_Ta_readUnit l_Ta_readUnit [.ref th, .int p0] g (fun r g' => ∃ x, r = some (.int x) ∧ K x g')) (th : Nat) (p0 : Int32) (g : GH) (h : B_Ta_readUnit_0 Γ R_Ta_readComparison R_Ta_readCondition R_Ta_readUnit K th p0 g) : JW Γ E 0 [some (.ref th), some (.int p0), none, none] [] g := by
  unfold B_Ta_readUnit_0 at h
  refine j_aload_n hE (by decide +kernel : decode cX6_readUnit 0 = .ok (.aload_n 0, 1)) rfl rfl ?_
  obtain ⟨hk, h⟩ := h
  refine j_callV hE rfl cl_X6_45 cf_7 im_X6_nextSign se_X6_nextSign ⟨by omega, by omega⟩ (As := []) (rest := []) rfl rfl (Nat.le_of_ble_eq_true rfl) hk (by decide +kernel : decode cX6_readUnit 1 = .ok (.invokevirtual 45, 3)) (mt_Ta_nextSign _ _ _ h) ?_
  rintro _ g1 ⟨x2, rfl, h⟩
  refine j_istore_n hE (by decide +kernel : decode cX6_readUnit 4 = .ok (.istore_n 2, 1)) rfl (Nat.le_of_ble_eq_true rfl) rfl ?_
  refine j_iload_n hE (by decide +kernel : decode cX6_readUnit 5 = .ok (.iload_n 2, 1)) rfl rfl ?_
  refine j_bipush hE (by decide +kernel : decode cX6_readUnit 6 = .ok (.bipush 33, 2)) (v := (33 : Int32)) (by decide) ?_
  refine j_icmp_eq hE (by decide +kernel : decode cX6_readUnit 8 = .ok (.if_icmp .eq 15, 3)) (tgt := 23) (by decide) (fun q => ?_) (fun q => ?_)
  · have h := h.1 q
    exact S_Ta_readUnit_23 hE hfr hlo hR_Ta_readComparison hR_Ta_readCondition hR_Ta_readUnit _ _ _ _ h
  · have h := h.2 q
    refine j_iload_n hE (by decide +kernel : decode cX6_readUnit 11 = .ok (.iload_n 2, 1)) rfl rfl ?_
    refine j_bipush hE (by decide +kernel : decode cX6_readUnit 12 = .ok (.bipush 40, 2)) (v := (40 : Int32)) (by decide) ?_
    refine j_icmp_eq hE (by decide +kernel : decode cX6_readUnit 14 = .ok (.if_icmp .eq 9, 3)) (tgt := 23) (by decide) (fun q => ?_) (fun q => ?_)
    · have h := h.1 q
      exact S_Ta_readUnit_23 hE hfr hlo hR_Ta_readComparison hR_Ta_readCondition hR_Ta_readUnit _ _ _ _ h
    · have h := h.2 q
      refine j_aload_n hE (by decide +kernel : decode cX6_readUnit 17 = .ok (.aload_n 0, 1)) rfl rfl ?_
      refine j_iload_n hE (by decide +kernel : decode cX6_readUnit 18 = .ok (.iload_n 1, 1)) rfl rfl ?_
      obtain ⟨hk, h⟩ := h
      refine j_callV hE rfl cl_X6_71 cf_7 im_X6_readComparison se_X6_readComparison hR_Ta_readComparison.1 (As := [.int p0]) (rest := []) rfl rfl (Nat.le_of_ble_eq_true rfl) hk (by decide +kernel : decode cX6_readUnit 19 = .ok (.invokevirtual 71, 3)) (hR_Ta_readComparison.2 _ _ _ _ h) ?_
      rintro _ g3 ⟨x4, rfl, h⟩
      exact j_zret hE h.1 (by decide +kernel : decode cX6_readUnit 22 = .ok (.ireturn, 1)) ⟨_, rfl, h.2⟩
set_option maxHeartbeats 4000000 in
set_option maxRecDepth 100000 in
theorem rl_Ta_readUnit {Γ : GAM} {l : Launch} {fr lo : Nat} (hfr : 1 ≤ fr) (hlo : 22 ≤ lo) {R_Ta_readComparison : Nat → Int32 → GH → (Int32 → GH → Prop) → Prop} {R_Ta_readCondition : Nat → Int32 → GH → (Int32 → GH → Prop) → Prop} {R_Ta_readUnit : Nat → Int32 → GH → (Int32 → GH → Prop) → Prop} {f_Ta_readComparison l_Ta_readComparison : Nat} (hR_Ta_readComparison : (f_Ta_readComparison + 1 ≤ fr ∧ 8 + (4 + 11) + l_Ta_readComparison ≤ lo) ∧ ∀ (th : Nat) (p0 : Int32) g (K : Int32 → GH → Prop), R_Ta_readComparison th p0 g K → MetA Γ l yX6_readComparison cX6_readComparison 4 (some (.boolean)) f_Ta_readComparison l_Ta_readComparison [.ref th, .int p0] g (fun r g' => ∃ x, r = some (.int x) ∧ K x g')) {f_Ta_readCondition l_Ta_readCondition : Nat} (hR_Ta_readCondition : (f_Ta_readCondition + 1 ≤ fr ∧ 8 + (4 + 11) + l_Ta_readCondition ≤ lo) ∧ ∀ (th : Nat) (p0 : Int32) g (K : Int32 → GH → Prop), R_Ta_readCondition th p0 g K → MetA Γ l yX6_readCondition cX6_readCondition 4 (some (.boolean)) f_Ta_readCondition l_Ta_readCondition [.ref th, .int p0] g (fun r g' => ∃ x, r = some (.int x) ∧ K x g')) {f_Ta_readUnit l_Ta_readUnit : Nat} (hR_Ta_readUnit : (f_Ta_readUnit + 1 ≤ fr ∧ 8 + (4 + 11) + l_Ta_readUnit ≤ lo) ∧ ∀ (th : Nat) (p0 : Int32) g (K : Int32 → GH → Prop), R_Ta_readUnit th p0 g K → MetA Γ l yX6_readUnit cX6_readUnit 4 (some (.boolean)) f_Ta_readUnit l_Ta_readUnit [.ref th, .int p0] g (fun r g' => ∃ x, r = some (.int x) ∧ K x g')) {th : Nat} {p0 : Int32} {g : GH} {K : Int32 → GH → Prop} (h0 : B_Ta_readUnit_0 Γ R_Ta_readComparison R_Ta_readCondition R_Ta_readUnit K th p0 g) : MetA Γ l yX6_readUnit cX6_readUnit 4 (some (.boolean)) fr lo [.ref th, .int p0] g (fun r g' => ∃ x, r = some (.int x) ∧ K x g') := by
  refine MetA.introL (Lx := [some (.ref th), some (.int p0), none, none]) (by decide) (Nat.le_of_ble_eq_true rfl) rfl rfl ?_
  intro E hEl hE hnm
  have hR_Ta_readComparison := hR_Ta_readComparison; rw [← hEl] at hR_Ta_readComparison
  have hR_Ta_readCondition := hR_Ta_readCondition; rw [← hEl] at hR_Ta_readCondition
  have hR_Ta_readUnit := hR_Ta_readUnit; rw [← hEl] at hR_Ta_readUnit
  exact S_Ta_readUnit_0 hE hfr hlo hR_Ta_readComparison hR_Ta_readCondition hR_Ta_readUnit th p0 g h0
-- the walk of Ta_readComparison
set_option maxRecDepth 100000 in
def B_Ta_readComparison_41 (Γ : GAM) (R_Ta_readSum : Nat → Int32 → GH → (Int32 → GH → Prop) → Prop) (K : Int32 → GH → Prop) (l0 : Nat) (l1 : Int32) (l2 : Int32) (g : GH) : Prop :=
  Kd g l0 = 8 ∧ Kd g l0 = 8 ∧ ∀ g1 : GH, g1 = sI g 903 l0 ((Gi g 903 l0) + (1 : Int32)) → Kd g1 l0 = 8 ∧ R_Ta_readSum l0 l1 g1 (fun (x3 : Int32) (g2 : GH) => Kd g2 l0 = 8 ∧ Sp_Ta_write Γ l0 (-l2) g2 (fun (g4 : GH) => ((x3 = 0 ∨ x3 = 1) ∧ K x3 g4)))
set_option maxHeartbeats 4000000 in
set_option maxRecDepth 100000 in
theorem S_Ta_readComparison_41 {Γ : GAM} {E : EV} {fr lo : Nat} {K : Int32 → GH → Prop} (hE : GE Γ E cX6_readComparison 4 RX6 (some (.boolean)) fr lo (fun r g' => ∃ x, r = some (.int x) ∧ K x g')) (hfr : 1 ≤ fr) (hlo : 21 ≤ lo) {R_Ta_readSum : Nat → Int32 → GH → (Int32 → GH → Prop) → Prop} {f_Ta_readSum l_Ta_readSum : Nat} (hR_Ta_readSum : (f_Ta_readSum + 1 ≤ fr ∧ 8 + (5 + 11) + l_Ta_readSum ≤ lo) ∧ ∀ (th : Nat) (p0 : Int32) g (K : Int32 → GH → Prop), R_Ta_readSum th p0 g K → MetA Γ E.2.1 yX6_readSum cX6_readSum 5 (some (.boolean)) f_Ta_readSum l_Ta_readSum [.ref th, .int p0] g (fun r g' => ∃ x, r = some (.int x) ∧ K x g')) (l0 : Nat) (l1 : Int32) (l2 : Int32) (g : GH) (h : B_Ta_readComparison_41 Γ R_Ta_readSum K l0 l1 l2 g) : JW Γ E 41 [some (.ref l0), some (.int l1), some (.int l2), none] [] g := by
  unfold B_Ta_readComparison_41 at h
  refine j_aload_n hE (by decide +kernel : decode cX6_readComparison 41 = .ok (.aload_n 0, 1)) rfl rfl ?_
  refine j_dup hE (by decide +kernel : decode cX6_readComparison 42 = .ok (.dup, 1)) rfl ?_
  obtain ⟨hk, h⟩ := h
  refine j_getI hE fg_X6_28 hk (by decide +kernel : decode cX6_readComparison 43 = .ok (.getfield 28, 3)) ?_
  refine j_iconst hE (by decide +kernel : decode cX6_readComparison 46 = .ok (.iconst 1, 1)) (v := (1 : Int32)) (by decide) ?_
  refine j_iadd hE (by decide +kernel : decode cX6_readComparison 47 = .ok (.iadd, 1)) ?_
  obtain ⟨hk, h⟩ := h
  obtain ⟨g1, hg⟩ : ∃ z, z = sI g 903 l0 ((Gi g 903 l0) + (1 : Int32)) := ⟨_, rfl⟩; have h := h g1 hg
  refine j_putI hE fa_X6_28 hk (fun q => by cases q) (by decide +kernel : decode cX6_readComparison 48 = .ok (.putfield 28, 3)) ?_
  rw [← hg]
  refine j_aload_n hE (by decide +kernel : decode cX6_readComparison 51 = .ok (.aload_n 0, 1)) rfl rfl ?_
  refine j_iload_n hE (by decide +kernel : decode cX6_readComparison 52 = .ok (.iload_n 1, 1)) rfl rfl ?_
  obtain ⟨hk, h⟩ := h
  refine j_callV hE rfl cl_X6_58 cf_7 im_X6_readSum se_X6_readSum hR_Ta_readSum.1 (As := [.int l1]) (rest := []) rfl rfl (Nat.le_of_ble_eq_true rfl) hk (by decide +kernel : decode cX6_readComparison 53 = .ok (.invokevirtual 58, 3)) (hR_Ta_readSum.2 _ _ _ _ h) ?_
  rintro _ g2 ⟨x3, rfl, h⟩
  refine j_istore_n hE (by decide +kernel : decode cX6_readComparison 56 = .ok (.istore_n 3, 1)) rfl (Nat.le_of_ble_eq_true rfl) rfl ?_
  refine j_aload_n hE (by decide +kernel : decode cX6_readComparison 57 = .ok (.aload_n 0, 1)) rfl rfl ?_
  refine j_iload_n hE (by decide +kernel : decode cX6_readComparison 58 = .ok (.iload_n 2, 1)) rfl rfl ?_
  refine j_ineg hE (by decide +kernel : decode cX6_readComparison 59 = .ok (.ineg, 1)) ?_
  obtain ⟨hk, h⟩ := h
  refine j_callV hE rfl cl_X6_64 cf_7 im_X6_write se_X6_write ⟨by omega, by omega⟩ (As := [.int (-l2)]) (rest := []) rfl rfl (Nat.le_of_ble_eq_true rfl) hk (by decide +kernel : decode cX6_readComparison 60 = .ok (.invokevirtual 64, 3)) (mt_Ta_write _ _ _ _ h) ?_
  rintro _ g4 ⟨rfl, h⟩
  refine j_iload_n hE (by decide +kernel : decode cX6_readComparison 63 = .ok (.iload_n 3, 1)) rfl rfl ?_
  exact j_zret hE h.1 (by decide +kernel : decode cX6_readComparison 64 = .ok (.ireturn, 1)) ⟨_, rfl, h.2⟩
set_option maxRecDepth 100000 in
def B_Ta_readComparison_0 (Γ : GAM) (R_Ta_readSum : Nat → Int32 → GH → (Int32 → GH → Prop) → Prop) (K : Int32 → GH → Prop) (th : Nat) (p0 : Int32) (g : GH) : Prop :=
  Kd g th = 8 ∧ R_Ta_readSum th p0 g (fun (x2 : Int32) (g1 : GH) => ((¬ (x2 = 0) → Kd g1 th = 8 ∧ Sp_Ta_nextSign Γ th g1 (fun (x4 : Int32) (g3 : GH) => ((x4 = (61 : Int32) → B_Ta_readComparison_41 Γ R_Ta_readSum K th p0 x4 g3) ∧ (¬ (x4 = (61 : Int32)) → ((x4 = (60 : Int32) → B_Ta_readComparison_41 Γ R_Ta_readSum K th p0 x4 g3) ∧ (¬ (x4 = (60 : Int32)) → ((x4 = (62 : Int32) → B_Ta_readComparison_41 Γ R_Ta_readSum K th p0 x4 g3) ∧ (¬ (x4 = (62 : Int32)) → ((x4 = (35 : Int32) → B_Ta_readComparison_41 Γ R_Ta_readSum K th p0 x4 g3) ∧ (¬ (x4 = (35 : Int32)) → K (0 : Int32) g3)))))))))) ∧ (x2 = 0 → K (0 : Int32) g1)))
set_option maxHeartbeats 4000000 in
set_option maxRecDepth 100000 in
theorem S_Ta_readComparison_0 {Γ : GAM} {E : EV} {fr lo : Nat} {K : Int32 → GH → Prop} (hE : GE Γ E cX6_readComparison 4 RX6 (some (.boolean)) fr lo (fun r g' => ∃ x, r = some (.int x) ∧ K x g')) (hfr : 1 ≤ fr) (hlo : 21 ≤ lo) {R_Ta_readSum : Nat → Int32 → GH → (Int32 → GH → Prop) → Prop} {f_Ta_readSum l_Ta_readSum : Nat} (hR_Ta_readSum : (f_Ta_readSum + 1 ≤ fr ∧ 8 + (5 + 11) + l_Ta_readSum ≤ lo) ∧ ∀ (th : Nat) (p0 : Int32) g (K : Int32 → GH → Prop), R_Ta_readSum th p0 g K → MetA Γ E.2.1 yX6_readSum cX6_readSum 5 (some (.boolean)) f_Ta_readSum l_Ta_readSum [.ref th, .int p0] g (fun r g' => ∃ x, r = some (.int x) ∧ K x g')) (th : Nat) (p0 : Int32) (g : GH) (h : B_Ta_readComparison_0 Γ R_Ta_readSum K th p0 g) : JW Γ E 0 [some (.ref th), some (.int p0), none, none] [] g := by
  unfold B_Ta_readComparison_0 at h
  refine j_aload_n hE (by decide +kernel : decode cX6_readComparison 0 = .ok (.aload_n 0, 1)) rfl rfl ?_
  refine j_iload_n hE (by decide +kernel : decode cX6_readComparison 1 = .ok (.iload_n 1, 1)) rfl rfl ?_
  obtain ⟨hk, h⟩ := h
  refine j_callV hE rfl cl_X6_58 cf_7 im_X6_readSum se_X6_readSum hR_Ta_readSum.1 (As := [.int p0]) (rest := []) rfl rfl (Nat.le_of_ble_eq_true rfl) hk (by decide +kernel : decode cX6_readComparison 2 = .ok (.invokevirtual 58, 3)) (hR_Ta_readSum.2 _ _ _ _ h) ?_
  rintro _ g1 ⟨x2, rfl, h⟩
  refine j_if_ne hE (by decide +kernel : decode cX6_readComparison 5 = .ok (.ifCond .ne 5, 3)) (tgt := 10) (by decide) (fun q => ?_) (fun q => ?_)
  · have h := h.1 q
    refine j_aload_n hE (by decide +kernel : decode cX6_readComparison 10 = .ok (.aload_n 0, 1)) rfl rfl ?_
    obtain ⟨hk, h⟩ := h
    refine j_callV hE rfl cl_X6_45 cf_7 im_X6_nextSign se_X6_nextSign ⟨by omega, by omega⟩ (As := []) (rest := []) rfl rfl (Nat.le_of_ble_eq_true rfl) hk (by decide +kernel : decode cX6_readComparison 11 = .ok (.invokevirtual 45, 3)) (mt_Ta_nextSign _ _ _ h) ?_
    rintro _ g3 ⟨x4, rfl, h⟩
    refine j_istore_n hE (by decide +kernel : decode cX6_readComparison 14 = .ok (.istore_n 2, 1)) rfl (Nat.le_of_ble_eq_true rfl) rfl ?_
    refine j_iload_n hE (by decide +kernel : decode cX6_readComparison 15 = .ok (.iload_n 2, 1)) rfl rfl ?_
    refine j_bipush hE (by decide +kernel : decode cX6_readComparison 16 = .ok (.bipush 61, 2)) (v := (61 : Int32)) (by decide) ?_
    refine j_icmp_eq hE (by decide +kernel : decode cX6_readComparison 18 = .ok (.if_icmp .eq 23, 3)) (tgt := 41) (by decide) (fun q => ?_) (fun q => ?_)
    · have h := h.1 q
      exact S_Ta_readComparison_41 hE hfr hlo hR_Ta_readSum _ _ _ _ h
    · have h := h.2 q
      refine j_iload_n hE (by decide +kernel : decode cX6_readComparison 21 = .ok (.iload_n 2, 1)) rfl rfl ?_
      refine j_bipush hE (by decide +kernel : decode cX6_readComparison 22 = .ok (.bipush 60, 2)) (v := (60 : Int32)) (by decide) ?_
      refine j_icmp_eq hE (by decide +kernel : decode cX6_readComparison 24 = .ok (.if_icmp .eq 17, 3)) (tgt := 41) (by decide) (fun q => ?_) (fun q => ?_)
      · have h := h.1 q
        exact S_Ta_readComparison_41 hE hfr hlo hR_Ta_readSum _ _ _ _ h
      · have h := h.2 q
        refine j_iload_n hE (by decide +kernel : decode cX6_readComparison 27 = .ok (.iload_n 2, 1)) rfl rfl ?_
        refine j_bipush hE (by decide +kernel : decode cX6_readComparison 28 = .ok (.bipush 62, 2)) (v := (62 : Int32)) (by decide) ?_
        refine j_icmp_eq hE (by decide +kernel : decode cX6_readComparison 30 = .ok (.if_icmp .eq 11, 3)) (tgt := 41) (by decide) (fun q => ?_) (fun q => ?_)
        · have h := h.1 q
          exact S_Ta_readComparison_41 hE hfr hlo hR_Ta_readSum _ _ _ _ h
        · have h := h.2 q
          refine j_iload_n hE (by decide +kernel : decode cX6_readComparison 33 = .ok (.iload_n 2, 1)) rfl rfl ?_
          refine j_bipush hE (by decide +kernel : decode cX6_readComparison 34 = .ok (.bipush 35, 2)) (v := (35 : Int32)) (by decide) ?_
          refine j_icmp_eq hE (by decide +kernel : decode cX6_readComparison 36 = .ok (.if_icmp .eq 5, 3)) (tgt := 41) (by decide) (fun q => ?_) (fun q => ?_)
          · have h := h.1 q
            exact S_Ta_readComparison_41 hE hfr hlo hR_Ta_readSum _ _ _ _ h
          · have h := h.2 q
            refine j_iconst hE (by decide +kernel : decode cX6_readComparison 39 = .ok (.iconst 0, 1)) (v := (0 : Int32)) (by decide) ?_
            exact j_zret hE (Or.inl rfl) (by decide +kernel : decode cX6_readComparison 40 = .ok (.ireturn, 1)) ⟨_, rfl, h⟩
  · have h := h.2 q
    refine j_iconst hE (by decide +kernel : decode cX6_readComparison 8 = .ok (.iconst 0, 1)) (v := (0 : Int32)) (by decide) ?_
    exact j_zret hE (Or.inl rfl) (by decide +kernel : decode cX6_readComparison 9 = .ok (.ireturn, 1)) ⟨_, rfl, h⟩
set_option maxHeartbeats 4000000 in
set_option maxRecDepth 100000 in
theorem rl_Ta_readComparison {Γ : GAM} {l : Launch} {fr lo : Nat} (hfr : 1 ≤ fr) (hlo : 21 ≤ lo) {R_Ta_readSum : Nat → Int32 → GH → (Int32 → GH → Prop) → Prop} {f_Ta_readSum l_Ta_readSum : Nat} (hR_Ta_readSum : (f_Ta_readSum + 1 ≤ fr ∧ 8 + (5 + 11) + l_Ta_readSum ≤ lo) ∧ ∀ (th : Nat) (p0 : Int32) g (K : Int32 → GH → Prop), R_Ta_readSum th p0 g K → MetA Γ l yX6_readSum cX6_readSum 5 (some (.boolean)) f_Ta_readSum l_Ta_readSum [.ref th, .int p0] g (fun r g' => ∃ x, r = some (.int x) ∧ K x g')) {th : Nat} {p0 : Int32} {g : GH} {K : Int32 → GH → Prop} (h0 : B_Ta_readComparison_0 Γ R_Ta_readSum K th p0 g) : MetA Γ l yX6_readComparison cX6_readComparison 4 (some (.boolean)) fr lo [.ref th, .int p0] g (fun r g' => ∃ x, r = some (.int x) ∧ K x g') := by
  refine MetA.introL (Lx := [some (.ref th), some (.int p0), none, none]) (by decide) (Nat.le_of_ble_eq_true rfl) rfl rfl ?_
  intro E hEl hE hnm
  have hR_Ta_readSum := hR_Ta_readSum; rw [← hEl] at hR_Ta_readSum
  exact S_Ta_readComparison_0 hE hfr hlo hR_Ta_readSum th p0 g h0
-- the walk of Ta_readSum
set_option maxRecDepth 100000 in
def B_Ta_readSum_71 (Γ : GAM) (R_Ta_readTerm : Nat → Int32 → GH → (Int32 → GH → Prop) → Prop) (K8 : Nat → Int32 → Int32 → Int32 → GH → Prop) (K : Int32 → GH → Prop) (l2 : Int32) (g : GH) : Prop :=
  ((l2 = 0 ∨ l2 = 1) ∧ K l2 g)
set_option maxHeartbeats 4000000 in
set_option maxRecDepth 100000 in
theorem S_Ta_readSum_71 {Γ : GAM} {E : EV} {fr lo : Nat} {K : Int32 → GH → Prop} (hE : GE Γ E cX6_readSum 5 RX6 (some (.boolean)) fr lo (fun r g' => ∃ x, r = some (.int x) ∧ K x g')) (hfr : 1 ≤ fr) (hlo : 21 ≤ lo) {R_Ta_readTerm : Nat → Int32 → GH → (Int32 → GH → Prop) → Prop} {f_Ta_readTerm l_Ta_readTerm : Nat} (hR_Ta_readTerm : (f_Ta_readTerm + 1 ≤ fr ∧ 8 + (4 + 11) + l_Ta_readTerm ≤ lo) ∧ ∀ (th : Nat) (p0 : Int32) g (K : Int32 → GH → Prop), R_Ta_readTerm th p0 g K → MetA Γ E.2.1 yX6_readTerm cX6_readTerm 4 (some (.boolean)) f_Ta_readTerm l_Ta_readTerm [.ref th, .int p0] g (fun r g' => ∃ x, r = some (.int x) ∧ K x g')) {K8 : Nat → Int32 → Int32 → Int32 → GH → Prop} (hK8 : ∀ (l0 : Nat) (l1 : Int32) (l2 : Int32) (l3 : Int32) (g : GH), K8 l0 l1 l2 l3 g → JW Γ E 8 [some (.ref l0), some (.int l1), some (.int l2), some (.int l3), none] [] g) (l2 : Int32) (g : GH) (h : B_Ta_readSum_71 Γ R_Ta_readTerm K8 K l2 g) : JW Γ E 71 [none, none, some (.int l2), none, none] [] g := by
  unfold B_Ta_readSum_71 at h
  refine j_iload_n hE (by decide +kernel : decode cX6_readSum 71 = .ok (.iload_n 2, 1)) rfl rfl ?_
  exact j_zret hE h.1 (by decide +kernel : decode cX6_readSum 72 = .ok (.ireturn, 1)) ⟨_, rfl, h.2⟩
set_option maxRecDepth 100000 in
def B_Ta_readSum_42 (Γ : GAM) (R_Ta_readTerm : Nat → Int32 → GH → (Int32 → GH → Prop) → Prop) (K8 : Nat → Int32 → Int32 → Int32 → GH → Prop) (K : Int32 → GH → Prop) (l0 : Nat) (l1 : Int32) (l3 : Int32) (l4 : Int32) (g : GH) : Prop :=
  Kd g l0 = 8 ∧ Kd g l0 = 8 ∧ ∀ g1 : GH, g1 = sI g 903 l0 ((Gi g 903 l0) + (1 : Int32)) → Kd g1 l0 = 8 ∧ R_Ta_readTerm l0 l1 g1 (fun (x3 : Int32) (g2 : GH) => Kd g2 l0 = 8 ∧ Sp_Ta_write Γ l0 (-l4) g2 (fun (g4 : GH) => K8 l0 l1 x3 (l3 + (1 : Int32)) g4))
set_option maxHeartbeats 4000000 in
set_option maxRecDepth 100000 in
theorem S_Ta_readSum_42 {Γ : GAM} {E : EV} {fr lo : Nat} {K : Int32 → GH → Prop} (hE : GE Γ E cX6_readSum 5 RX6 (some (.boolean)) fr lo (fun r g' => ∃ x, r = some (.int x) ∧ K x g')) (hfr : 1 ≤ fr) (hlo : 21 ≤ lo) {R_Ta_readTerm : Nat → Int32 → GH → (Int32 → GH → Prop) → Prop} {f_Ta_readTerm l_Ta_readTerm : Nat} (hR_Ta_readTerm : (f_Ta_readTerm + 1 ≤ fr ∧ 8 + (4 + 11) + l_Ta_readTerm ≤ lo) ∧ ∀ (th : Nat) (p0 : Int32) g (K : Int32 → GH → Prop), R_Ta_readTerm th p0 g K → MetA Γ E.2.1 yX6_readTerm cX6_readTerm 4 (some (.boolean)) f_Ta_readTerm l_Ta_readTerm [.ref th, .int p0] g (fun r g' => ∃ x, r = some (.int x) ∧ K x g')) {K8 : Nat → Int32 → Int32 → Int32 → GH → Prop} (hK8 : ∀ (l0 : Nat) (l1 : Int32) (l2 : Int32) (l3 : Int32) (g : GH), K8 l0 l1 l2 l3 g → JW Γ E 8 [some (.ref l0), some (.int l1), some (.int l2), some (.int l3), none] [] g) (l0 : Nat) (l1 : Int32) (l3 : Int32) (l4 : Int32) (g : GH) (h : B_Ta_readSum_42 Γ R_Ta_readTerm K8 K l0 l1 l3 l4 g) : JW Γ E 42 [some (.ref l0), some (.int l1), none, some (.int l3), some (.int l4)] [] g := by
  unfold B_Ta_readSum_42 at h
  refine j_aload_n hE (by decide +kernel : decode cX6_readSum 42 = .ok (.aload_n 0, 1)) rfl rfl ?_
  refine j_dup hE (by decide +kernel : decode cX6_readSum 43 = .ok (.dup, 1)) rfl ?_
  obtain ⟨hk, h⟩ := h
  refine j_getI hE fg_X6_28 hk (by decide +kernel : decode cX6_readSum 44 = .ok (.getfield 28, 3)) ?_
  refine j_iconst hE (by decide +kernel : decode cX6_readSum 47 = .ok (.iconst 1, 1)) (v := (1 : Int32)) (by decide) ?_
  refine j_iadd hE (by decide +kernel : decode cX6_readSum 48 = .ok (.iadd, 1)) ?_
  obtain ⟨hk, h⟩ := h
  obtain ⟨g1, hg⟩ : ∃ z, z = sI g 903 l0 ((Gi g 903 l0) + (1 : Int32)) := ⟨_, rfl⟩; have h := h g1 hg
  refine j_putI hE fa_X6_28 hk (fun q => by cases q) (by decide +kernel : decode cX6_readSum 49 = .ok (.putfield 28, 3)) ?_
  rw [← hg]
  refine j_aload_n hE (by decide +kernel : decode cX6_readSum 52 = .ok (.aload_n 0, 1)) rfl rfl ?_
  refine j_iload_n hE (by decide +kernel : decode cX6_readSum 53 = .ok (.iload_n 1, 1)) rfl rfl ?_
  obtain ⟨hk, h⟩ := h
  refine j_callV hE rfl cl_X6_74 cf_7 im_X6_readTerm se_X6_readTerm hR_Ta_readTerm.1 (As := [.int l1]) (rest := []) rfl rfl (Nat.le_of_ble_eq_true rfl) hk (by decide +kernel : decode cX6_readSum 54 = .ok (.invokevirtual 74, 3)) (hR_Ta_readTerm.2 _ _ _ _ h) ?_
  rintro _ g2 ⟨x3, rfl, h⟩
  refine j_istore_n hE (by decide +kernel : decode cX6_readSum 57 = .ok (.istore_n 2, 1)) rfl (Nat.le_of_ble_eq_true rfl) rfl ?_
  refine j_aload_n hE (by decide +kernel : decode cX6_readSum 58 = .ok (.aload_n 0, 1)) rfl rfl ?_
  refine j_iload hE (by decide +kernel : decode cX6_readSum 59 = .ok (.iload 4, 2)) rfl ?_
  refine j_ineg hE (by decide +kernel : decode cX6_readSum 61 = .ok (.ineg, 1)) ?_
  obtain ⟨hk, h⟩ := h
  refine j_callV hE rfl cl_X6_64 cf_7 im_X6_write se_X6_write ⟨by omega, by omega⟩ (As := [.int (-l4)]) (rest := []) rfl rfl (Nat.le_of_ble_eq_true rfl) hk (by decide +kernel : decode cX6_readSum 62 = .ok (.invokevirtual 64, 3)) (mt_Ta_write _ _ _ _ h) ?_
  rintro _ g4 ⟨rfl, h⟩
  refine j_iinc hE (by decide +kernel : decode cX6_readSum 65 = .ok (.iinc 3 1, 3)) (v := (1 : Int32)) (by decide) rfl (Nat.le_of_ble_eq_true rfl) rfl ?_
  refine j_goto hE (by decide +kernel : decode cX6_readSum 68 = .ok (.goto (-60), 3)) (tgt := 8) (by decide) ?_
  refine j_weak [some (.ref l0), some (.int l1), some (.int x3), some (.int (l3 + (1 : Int32))), none] ⟨rfl, ⟨rfl, ⟨rfl, ⟨rfl, trivial⟩⟩⟩⟩ ?_
  exact hK8 _ _ _ _ _ h
set_option maxRecDepth 100000 in
def B_Ta_readSum_8 (Γ : GAM) (R_Ta_readTerm : Nat → Int32 → GH → (Int32 → GH → Prop) → Prop) (K8 : Nat → Int32 → Int32 → Int32 → GH → Prop) (K : Int32 → GH → Prop) (l0 : Nat) (l1 : Int32) (l2 : Int32) (l3 : Int32) (g : GH) : Prop :=
  Kd g l0 = 8 ∧ (((Gi g 897 l0) ≤ l3 → B_Ta_readSum_71 Γ R_Ta_readTerm K8 K l2 g) ∧ (¬ ((Gi g 897 l0) ≤ l3) → ((l2 = 0 → B_Ta_readSum_71 Γ R_Ta_readTerm K8 K l2 g) ∧ (¬ (l2 = 0) → Kd g l0 = 8 ∧ Sp_Ta_nextSign Γ l0 g (fun (x2 : Int32) (g1 : GH) => ((x2 = (43 : Int32) → B_Ta_readSum_42 Γ R_Ta_readTerm K8 K l0 l1 l3 x2 g1) ∧ (¬ (x2 = (43 : Int32)) → ((x2 = (45 : Int32) → B_Ta_readSum_42 Γ R_Ta_readTerm K8 K l0 l1 l3 x2 g1) ∧ (¬ (x2 = (45 : Int32)) → K (1 : Int32) g1)))))))))
set_option maxHeartbeats 4000000 in
set_option maxRecDepth 100000 in
theorem S_Ta_readSum_8 {Γ : GAM} {E : EV} {fr lo : Nat} {K : Int32 → GH → Prop} (hE : GE Γ E cX6_readSum 5 RX6 (some (.boolean)) fr lo (fun r g' => ∃ x, r = some (.int x) ∧ K x g')) (hfr : 1 ≤ fr) (hlo : 21 ≤ lo) {R_Ta_readTerm : Nat → Int32 → GH → (Int32 → GH → Prop) → Prop} {f_Ta_readTerm l_Ta_readTerm : Nat} (hR_Ta_readTerm : (f_Ta_readTerm + 1 ≤ fr ∧ 8 + (4 + 11) + l_Ta_readTerm ≤ lo) ∧ ∀ (th : Nat) (p0 : Int32) g (K : Int32 → GH → Prop), R_Ta_readTerm th p0 g K → MetA Γ E.2.1 yX6_readTerm cX6_readTerm 4 (some (.boolean)) f_Ta_readTerm l_Ta_readTerm [.ref th, .int p0] g (fun r g' => ∃ x, r = some (.int x) ∧ K x g')) {K8 : Nat → Int32 → Int32 → Int32 → GH → Prop} (hK8 : ∀ (l0 : Nat) (l1 : Int32) (l2 : Int32) (l3 : Int32) (g : GH), K8 l0 l1 l2 l3 g → JW Γ E 8 [some (.ref l0), some (.int l1), some (.int l2), some (.int l3), none] [] g) (l0 : Nat) (l1 : Int32) (l2 : Int32) (l3 : Int32) (g : GH) (h : B_Ta_readSum_8 Γ R_Ta_readTerm K8 K l0 l1 l2 l3 g) : JW Γ E 8 [some (.ref l0), some (.int l1), some (.int l2), some (.int l3), none] [] g := by
  unfold B_Ta_readSum_8 at h
  refine j_iload_n hE (by decide +kernel : decode cX6_readSum 8 = .ok (.iload_n 3, 1)) rfl rfl ?_
  refine j_aload_n hE (by decide +kernel : decode cX6_readSum 9 = .ok (.aload_n 0, 1)) rfl rfl ?_
  obtain ⟨hk, h⟩ := h
  refine j_getI hE fg_X6_24 hk (by decide +kernel : decode cX6_readSum 10 = .ok (.getfield 24, 3)) ?_
  refine j_icmp_ge hE (by decide +kernel : decode cX6_readSum 13 = .ok (.if_icmp .ge 58, 3)) (tgt := 71) (by decide) (fun q => ?_) (fun q => ?_)
  · have h := h.1 q
    refine j_weak [none, none, some (.int l2), none, none] ⟨rfl, trivial⟩ ?_
    exact S_Ta_readSum_71 hE hfr hlo hR_Ta_readTerm hK8 _ _ h
  · have h := h.2 q
    refine j_iload_n hE (by decide +kernel : decode cX6_readSum 16 = .ok (.iload_n 2, 1)) rfl rfl ?_
    refine j_if_eq hE (by decide +kernel : decode cX6_readSum 17 = .ok (.ifCond .eq 54, 3)) (tgt := 71) (by decide) (fun q => ?_) (fun q => ?_)
    · have h := h.1 q
      refine j_weak [none, none, some (.int l2), none, none] ⟨rfl, trivial⟩ ?_
      exact S_Ta_readSum_71 hE hfr hlo hR_Ta_readTerm hK8 _ _ h
    · have h := h.2 q
      refine j_aload_n hE (by decide +kernel : decode cX6_readSum 20 = .ok (.aload_n 0, 1)) rfl rfl ?_
      obtain ⟨hk, h⟩ := h
      refine j_callV hE rfl cl_X6_45 cf_7 im_X6_nextSign se_X6_nextSign ⟨by omega, by omega⟩ (As := []) (rest := []) rfl rfl (Nat.le_of_ble_eq_true rfl) hk (by decide +kernel : decode cX6_readSum 21 = .ok (.invokevirtual 45, 3)) (mt_Ta_nextSign _ _ _ h) ?_
      rintro _ g1 ⟨x2, rfl, h⟩
      refine j_istore hE (by decide +kernel : decode cX6_readSum 24 = .ok (.istore 4, 2)) (Nat.le_of_ble_eq_true rfl) rfl ?_
      refine j_iload hE (by decide +kernel : decode cX6_readSum 26 = .ok (.iload 4, 2)) rfl ?_
      refine j_bipush hE (by decide +kernel : decode cX6_readSum 28 = .ok (.bipush 43, 2)) (v := (43 : Int32)) (by decide) ?_
      refine j_icmp_eq hE (by decide +kernel : decode cX6_readSum 30 = .ok (.if_icmp .eq 12, 3)) (tgt := 42) (by decide) (fun q => ?_) (fun q => ?_)
      · have h := h.1 q
        refine j_weak [some (.ref l0), some (.int l1), none, some (.int l3), some (.int x2)] ⟨rfl, ⟨rfl, ⟨rfl, ⟨rfl, trivial⟩⟩⟩⟩ ?_
        exact S_Ta_readSum_42 hE hfr hlo hR_Ta_readTerm hK8 _ _ _ _ _ h
      · have h := h.2 q
        refine j_iload hE (by decide +kernel : decode cX6_readSum 33 = .ok (.iload 4, 2)) rfl ?_
        refine j_bipush hE (by decide +kernel : decode cX6_readSum 35 = .ok (.bipush 45, 2)) (v := (45 : Int32)) (by decide) ?_
        refine j_icmp_eq hE (by decide +kernel : decode cX6_readSum 37 = .ok (.if_icmp .eq 5, 3)) (tgt := 42) (by decide) (fun q => ?_) (fun q => ?_)
        · have h := h.1 q
          refine j_weak [some (.ref l0), some (.int l1), none, some (.int l3), some (.int x2)] ⟨rfl, ⟨rfl, ⟨rfl, ⟨rfl, trivial⟩⟩⟩⟩ ?_
          exact S_Ta_readSum_42 hE hfr hlo hR_Ta_readTerm hK8 _ _ _ _ _ h
        · have h := h.2 q
          refine j_iconst hE (by decide +kernel : decode cX6_readSum 40 = .ok (.iconst 1, 1)) (v := (1 : Int32)) (by decide) ?_
          exact j_zret hE (Or.inr rfl) (by decide +kernel : decode cX6_readSum 41 = .ok (.ireturn, 1)) ⟨_, rfl, h⟩
set_option maxRecDepth 100000 in
def B_Ta_readSum_0 (Γ : GAM) (R_Ta_readTerm : Nat → Int32 → GH → (Int32 → GH → Prop) → Prop) (K8 : Nat → Int32 → Int32 → Int32 → GH → Prop) (K : Int32 → GH → Prop) (th : Nat) (p0 : Int32) (g : GH) : Prop :=
  Kd g th = 8 ∧ R_Ta_readTerm th p0 g (fun (x2 : Int32) (g1 : GH) => K8 th p0 x2 (0 : Int32) g1)
set_option maxHeartbeats 4000000 in
set_option maxRecDepth 100000 in
theorem S_Ta_readSum_0 {Γ : GAM} {E : EV} {fr lo : Nat} {K : Int32 → GH → Prop} (hE : GE Γ E cX6_readSum 5 RX6 (some (.boolean)) fr lo (fun r g' => ∃ x, r = some (.int x) ∧ K x g')) (hfr : 1 ≤ fr) (hlo : 21 ≤ lo) {R_Ta_readTerm : Nat → Int32 → GH → (Int32 → GH → Prop) → Prop} {f_Ta_readTerm l_Ta_readTerm : Nat} (hR_Ta_readTerm : (f_Ta_readTerm + 1 ≤ fr ∧ 8 + (4 + 11) + l_Ta_readTerm ≤ lo) ∧ ∀ (th : Nat) (p0 : Int32) g (K : Int32 → GH → Prop), R_Ta_readTerm th p0 g K → MetA Γ E.2.1 yX6_readTerm cX6_readTerm 4 (some (.boolean)) f_Ta_readTerm l_Ta_readTerm [.ref th, .int p0] g (fun r g' => ∃ x, r = some (.int x) ∧ K x g')) {K8 : Nat → Int32 → Int32 → Int32 → GH → Prop} (hK8 : ∀ (l0 : Nat) (l1 : Int32) (l2 : Int32) (l3 : Int32) (g : GH), K8 l0 l1 l2 l3 g → JW Γ E 8 [some (.ref l0), some (.int l1), some (.int l2), some (.int l3), none] [] g) (th : Nat) (p0 : Int32) (g : GH) (h : B_Ta_readSum_0 Γ R_Ta_readTerm K8 K th p0 g) : JW Γ E 0 [some (.ref th), some (.int p0), none, none, none] [] g := by
  unfold B_Ta_readSum_0 at h
  refine j_aload_n hE (by decide +kernel : decode cX6_readSum 0 = .ok (.aload_n 0, 1)) rfl rfl ?_
  refine j_iload_n hE (by decide +kernel : decode cX6_readSum 1 = .ok (.iload_n 1, 1)) rfl rfl ?_
  obtain ⟨hk, h⟩ := h
  refine j_callV hE rfl cl_X6_74 cf_7 im_X6_readTerm se_X6_readTerm hR_Ta_readTerm.1 (As := [.int p0]) (rest := []) rfl rfl (Nat.le_of_ble_eq_true rfl) hk (by decide +kernel : decode cX6_readSum 2 = .ok (.invokevirtual 74, 3)) (hR_Ta_readTerm.2 _ _ _ _ h) ?_
  rintro _ g1 ⟨x2, rfl, h⟩
  refine j_istore_n hE (by decide +kernel : decode cX6_readSum 5 = .ok (.istore_n 2, 1)) rfl (Nat.le_of_ble_eq_true rfl) rfl ?_
  refine j_iconst hE (by decide +kernel : decode cX6_readSum 6 = .ok (.iconst 0, 1)) (v := (0 : Int32)) (by decide) ?_
  refine j_istore_n hE (by decide +kernel : decode cX6_readSum 7 = .ok (.istore_n 3, 1)) rfl (Nat.le_of_ble_eq_true rfl) rfl ?_
  exact hK8 _ _ _ _ _ h
set_option maxHeartbeats 4000000 in
set_option maxRecDepth 100000 in
theorem rl_Ta_readSum {Γ : GAM} {l : Launch} {fr lo : Nat} (hfr : 1 ≤ fr) (hlo : 21 ≤ lo) {R_Ta_readTerm : Nat → Int32 → GH → (Int32 → GH → Prop) → Prop} {f_Ta_readTerm l_Ta_readTerm : Nat} (hR_Ta_readTerm : (f_Ta_readTerm + 1 ≤ fr ∧ 8 + (4 + 11) + l_Ta_readTerm ≤ lo) ∧ ∀ (th : Nat) (p0 : Int32) g (K : Int32 → GH → Prop), R_Ta_readTerm th p0 g K → MetA Γ l yX6_readTerm cX6_readTerm 4 (some (.boolean)) f_Ta_readTerm l_Ta_readTerm [.ref th, .int p0] g (fun r g' => ∃ x, r = some (.int x) ∧ K x g')) {th : Nat} {p0 : Int32} {g : GH} {K : Int32 → GH → Prop} (I8 : Nat → Nat → Int32 → Int32 → Int32 → GH → Prop) (hh8 : ∀ n (l0 : Nat) (l1 : Int32) (l2 : Int32) (l3 : Int32) (g : GH), I8 n l0 l1 l2 l3 g → B_Ta_readSum_8 Γ R_Ta_readTerm (fun l0 l1 l2 l3 g => ∃ m, m < n ∧ I8 m l0 l1 l2 l3 g) K l0 l1 l2 l3 g) (h0 : B_Ta_readSum_0 Γ R_Ta_readTerm (fun l0 l1 l2 l3 g => ∃ m, I8 m l0 l1 l2 l3 g) K th p0 g) : MetA Γ l yX6_readSum cX6_readSum 5 (some (.boolean)) fr lo [.ref th, .int p0] g (fun r g' => ∃ x, r = some (.int x) ∧ K x g') := by
  refine MetA.introL (Lx := [some (.ref th), some (.int p0), none, none, none]) (by decide) (Nat.le_of_ble_eq_true rfl) rfl rfl ?_
  intro E hEl hE hnm
  have hR_Ta_readTerm := hR_Ta_readTerm; rw [← hEl] at hR_Ta_readTerm
  have hall : ∀ n, (∀ (l0 : Nat) (l1 : Int32) (l2 : Int32) (l3 : Int32) (g : GH), I8 n l0 l1 l2 l3 g → JW Γ E 8 [some (.ref l0), some (.int l1), some (.int l2), some (.int l3), none] [] g) := by
    intro n
    induction n using Nat.strongRecOn with
    | ind n ih =>
      exact fun l0 l1 l2 l3 g hi => S_Ta_readSum_8 hE hfr hlo hR_Ta_readTerm (fun l0 l1 l2 l3 g hm => by obtain ⟨m, hm, h⟩ := hm; exact (ih m hm) l0 l1 l2 l3 g h) l0 l1 l2 l3 g (hh8 n l0 l1 l2 l3 g hi)
  exact S_Ta_readSum_0 hE hfr hlo hR_Ta_readTerm (fun l0 l1 l2 l3 g hm => by obtain ⟨m, h⟩ := hm; exact (hall m) l0 l1 l2 l3 g h) th p0 g h0
-- the walk of Ta_readTerm
set_option maxRecDepth 100000 in
def B_Ta_readTerm_47 (Γ : GAM) (R_Ta_readAtom : Nat → Int32 → GH → (Int32 → GH → Prop) → Prop) (K8 : Nat → Int32 → Int32 → Int32 → GH → Prop) (K : Int32 → GH → Prop) (l2 : Int32) (g : GH) : Prop :=
  ((l2 = 0 ∨ l2 = 1) ∧ K l2 g)
set_option maxHeartbeats 4000000 in
set_option maxRecDepth 100000 in
theorem S_Ta_readTerm_47 {Γ : GAM} {E : EV} {fr lo : Nat} {K : Int32 → GH → Prop} (hE : GE Γ E cX6_readTerm 4 RX6 (some (.boolean)) fr lo (fun r g' => ∃ x, r = some (.int x) ∧ K x g')) (hfr : 1 ≤ fr) (hlo : 22 ≤ lo) {R_Ta_readAtom : Nat → Int32 → GH → (Int32 → GH → Prop) → Prop} {f_Ta_readAtom l_Ta_readAtom : Nat} (hR_Ta_readAtom : (f_Ta_readAtom + 1 ≤ fr ∧ 8 + (4 + 11) + l_Ta_readAtom ≤ lo) ∧ ∀ (th : Nat) (p0 : Int32) g (K : Int32 → GH → Prop), R_Ta_readAtom th p0 g K → MetA Γ E.2.1 yX6_readAtom cX6_readAtom 4 (some (.boolean)) f_Ta_readAtom l_Ta_readAtom [.ref th, .int p0] g (fun r g' => ∃ x, r = some (.int x) ∧ K x g')) {K8 : Nat → Int32 → Int32 → Int32 → GH → Prop} (hK8 : ∀ (l0 : Nat) (l1 : Int32) (l2 : Int32) (l3 : Int32) (g : GH), K8 l0 l1 l2 l3 g → JW Γ E 8 [some (.ref l0), some (.int l1), some (.int l2), some (.int l3)] [] g) (l2 : Int32) (g : GH) (h : B_Ta_readTerm_47 Γ R_Ta_readAtom K8 K l2 g) : JW Γ E 47 [none, none, some (.int l2), none] [] g := by
  unfold B_Ta_readTerm_47 at h
  refine j_iload_n hE (by decide +kernel : decode cX6_readTerm 47 = .ok (.iload_n 2, 1)) rfl rfl ?_
  exact j_zret hE h.1 (by decide +kernel : decode cX6_readTerm 48 = .ok (.ireturn, 1)) ⟨_, rfl, h.2⟩
set_option maxRecDepth 100000 in
def B_Ta_readTerm_8 (Γ : GAM) (R_Ta_readAtom : Nat → Int32 → GH → (Int32 → GH → Prop) → Prop) (K8 : Nat → Int32 → Int32 → Int32 → GH → Prop) (K : Int32 → GH → Prop) (l0 : Nat) (l1 : Int32) (l2 : Int32) (l3 : Int32) (g : GH) : Prop :=
  Kd g l0 = 8 ∧ (((Gi g 897 l0) ≤ l3 → B_Ta_readTerm_47 Γ R_Ta_readAtom K8 K l2 g) ∧ (¬ ((Gi g 897 l0) ≤ l3) → ((l2 = 0 → B_Ta_readTerm_47 Γ R_Ta_readAtom K8 K l2 g) ∧ (¬ (l2 = 0) → Kd g l0 = 8 ∧ Sp_Ta_takes Γ l0 (42 : Int32) g (fun (x2 : Int32) (g1 : GH) => ((x2 = 0 → B_Ta_readTerm_47 Γ R_Ta_readAtom K8 K l2 g1) ∧ (¬ (x2 = 0) → Kd g1 l0 = 8 ∧ R_Ta_readAtom l0 l1 g1 (fun (x4 : Int32) (g3 : GH) => Kd g3 l0 = 8 ∧ Sp_Ta_write Γ l0 (-42 : Int32) g3 (fun (g5 : GH) => K8 l0 l1 x4 (l3 + (1 : Int32)) g5)))))))))
set_option maxHeartbeats 4000000 in
set_option maxRecDepth 100000 in
theorem S_Ta_readTerm_8 {Γ : GAM} {E : EV} {fr lo : Nat} {K : Int32 → GH → Prop} (hE : GE Γ E cX6_readTerm 4 RX6 (some (.boolean)) fr lo (fun r g' => ∃ x, r = some (.int x) ∧ K x g')) (hfr : 1 ≤ fr) (hlo : 22 ≤ lo) {R_Ta_readAtom : Nat → Int32 → GH → (Int32 → GH → Prop) → Prop} {f_Ta_readAtom l_Ta_readAtom : Nat} (hR_Ta_readAtom : (f_Ta_readAtom + 1 ≤ fr ∧ 8 + (4 + 11) + l_Ta_readAtom ≤ lo) ∧ ∀ (th : Nat) (p0 : Int32) g (K : Int32 → GH → Prop), R_Ta_readAtom th p0 g K → MetA Γ E.2.1 yX6_readAtom cX6_readAtom 4 (some (.boolean)) f_Ta_readAtom l_Ta_readAtom [.ref th, .int p0] g (fun r g' => ∃ x, r = some (.int x) ∧ K x g')) {K8 : Nat → Int32 → Int32 → Int32 → GH → Prop} (hK8 : ∀ (l0 : Nat) (l1 : Int32) (l2 : Int32) (l3 : Int32) (g : GH), K8 l0 l1 l2 l3 g → JW Γ E 8 [some (.ref l0), some (.int l1), some (.int l2), some (.int l3)] [] g) (l0 : Nat) (l1 : Int32) (l2 : Int32) (l3 : Int32) (g : GH) (h : B_Ta_readTerm_8 Γ R_Ta_readAtom K8 K l0 l1 l2 l3 g) : JW Γ E 8 [some (.ref l0), some (.int l1), some (.int l2), some (.int l3)] [] g := by
  unfold B_Ta_readTerm_8 at h
  refine j_iload_n hE (by decide +kernel : decode cX6_readTerm 8 = .ok (.iload_n 3, 1)) rfl rfl ?_
  refine j_aload_n hE (by decide +kernel : decode cX6_readTerm 9 = .ok (.aload_n 0, 1)) rfl rfl ?_
  obtain ⟨hk, h⟩ := h
  refine j_getI hE fg_X6_24 hk (by decide +kernel : decode cX6_readTerm 10 = .ok (.getfield 24, 3)) ?_
  refine j_icmp_ge hE (by decide +kernel : decode cX6_readTerm 13 = .ok (.if_icmp .ge 34, 3)) (tgt := 47) (by decide) (fun q => ?_) (fun q => ?_)
  · have h := h.1 q
    refine j_weak [none, none, some (.int l2), none] ⟨rfl, trivial⟩ ?_
    exact S_Ta_readTerm_47 hE hfr hlo hR_Ta_readAtom hK8 _ _ h
  · have h := h.2 q
    refine j_iload_n hE (by decide +kernel : decode cX6_readTerm 16 = .ok (.iload_n 2, 1)) rfl rfl ?_
    refine j_if_eq hE (by decide +kernel : decode cX6_readTerm 17 = .ok (.ifCond .eq 30, 3)) (tgt := 47) (by decide) (fun q => ?_) (fun q => ?_)
    · have h := h.1 q
      refine j_weak [none, none, some (.int l2), none] ⟨rfl, trivial⟩ ?_
      exact S_Ta_readTerm_47 hE hfr hlo hR_Ta_readAtom hK8 _ _ h
    · have h := h.2 q
      refine j_aload_n hE (by decide +kernel : decode cX6_readTerm 20 = .ok (.aload_n 0, 1)) rfl rfl ?_
      refine j_bipush hE (by decide +kernel : decode cX6_readTerm 21 = .ok (.bipush 42, 2)) (v := (42 : Int32)) (by decide) ?_
      obtain ⟨hk, h⟩ := h
      refine j_callV hE rfl cl_X6_41 cf_7 im_X6_takes se_X6_takes ⟨by omega, by omega⟩ (As := [.int (42 : Int32)]) (rest := []) rfl rfl (Nat.le_of_ble_eq_true rfl) hk (by decide +kernel : decode cX6_readTerm 23 = .ok (.invokevirtual 41, 3)) (mt_Ta_takes _ _ _ _ h) ?_
      rintro _ g1 ⟨x2, rfl, h⟩
      refine j_if_eq hE (by decide +kernel : decode cX6_readTerm 26 = .ok (.ifCond .eq 21, 3)) (tgt := 47) (by decide) (fun q => ?_) (fun q => ?_)
      · have h := h.1 q
        refine j_weak [none, none, some (.int l2), none] ⟨rfl, trivial⟩ ?_
        exact S_Ta_readTerm_47 hE hfr hlo hR_Ta_readAtom hK8 _ _ h
      · have h := h.2 q
        refine j_aload_n hE (by decide +kernel : decode cX6_readTerm 29 = .ok (.aload_n 0, 1)) rfl rfl ?_
        refine j_iload_n hE (by decide +kernel : decode cX6_readTerm 30 = .ok (.iload_n 1, 1)) rfl rfl ?_
        obtain ⟨hk, h⟩ := h
        refine j_callV hE rfl cl_X6_77 cf_7 im_X6_readAtom se_X6_readAtom hR_Ta_readAtom.1 (As := [.int l1]) (rest := []) rfl rfl (Nat.le_of_ble_eq_true rfl) hk (by decide +kernel : decode cX6_readTerm 31 = .ok (.invokevirtual 77, 3)) (hR_Ta_readAtom.2 _ _ _ _ h) ?_
        rintro _ g3 ⟨x4, rfl, h⟩
        refine j_istore_n hE (by decide +kernel : decode cX6_readTerm 34 = .ok (.istore_n 2, 1)) rfl (Nat.le_of_ble_eq_true rfl) rfl ?_
        refine j_aload_n hE (by decide +kernel : decode cX6_readTerm 35 = .ok (.aload_n 0, 1)) rfl rfl ?_
        refine j_bipush hE (by decide +kernel : decode cX6_readTerm 36 = .ok (.bipush (-42), 2)) (v := (-42 : Int32)) (by decide) ?_
        obtain ⟨hk, h⟩ := h
        refine j_callV hE rfl cl_X6_64 cf_7 im_X6_write se_X6_write ⟨by omega, by omega⟩ (As := [.int (-42 : Int32)]) (rest := []) rfl rfl (Nat.le_of_ble_eq_true rfl) hk (by decide +kernel : decode cX6_readTerm 38 = .ok (.invokevirtual 64, 3)) (mt_Ta_write _ _ _ _ h) ?_
        rintro _ g5 ⟨rfl, h⟩
        refine j_iinc hE (by decide +kernel : decode cX6_readTerm 41 = .ok (.iinc 3 1, 3)) (v := (1 : Int32)) (by decide) rfl (Nat.le_of_ble_eq_true rfl) rfl ?_
        refine j_goto hE (by decide +kernel : decode cX6_readTerm 44 = .ok (.goto (-36), 3)) (tgt := 8) (by decide) ?_
        exact hK8 _ _ _ _ _ h
set_option maxRecDepth 100000 in
def B_Ta_readTerm_0 (Γ : GAM) (R_Ta_readAtom : Nat → Int32 → GH → (Int32 → GH → Prop) → Prop) (K8 : Nat → Int32 → Int32 → Int32 → GH → Prop) (K : Int32 → GH → Prop) (th : Nat) (p0 : Int32) (g : GH) : Prop :=
  Kd g th = 8 ∧ R_Ta_readAtom th p0 g (fun (x2 : Int32) (g1 : GH) => K8 th p0 x2 (0 : Int32) g1)
set_option maxHeartbeats 4000000 in
set_option maxRecDepth 100000 in
theorem S_Ta_readTerm_0 {Γ : GAM} {E : EV} {fr lo : Nat} {K : Int32 → GH → Prop} (hE : GE Γ E cX6_readTerm 4 RX6 (some (.boolean)) fr lo (fun r g' => ∃ x, r = some (.int x) ∧ K x g')) (hfr : 1 ≤ fr) (hlo : 22 ≤ lo) {R_Ta_readAtom : Nat → Int32 → GH → (Int32 → GH → Prop) → Prop} {f_Ta_readAtom l_Ta_readAtom : Nat} (hR_Ta_readAtom : (f_Ta_readAtom + 1 ≤ fr ∧ 8 + (4 + 11) + l_Ta_readAtom ≤ lo) ∧ ∀ (th : Nat) (p0 : Int32) g (K : Int32 → GH → Prop), R_Ta_readAtom th p0 g K → MetA Γ E.2.1 yX6_readAtom cX6_readAtom 4 (some (.boolean)) f_Ta_readAtom l_Ta_readAtom [.ref th, .int p0] g (fun r g' => ∃ x, r = some (.int x) ∧ K x g')) {K8 : Nat → Int32 → Int32 → Int32 → GH → Prop} (hK8 : ∀ (l0 : Nat) (l1 : Int32) (l2 : Int32) (l3 : Int32) (g : GH), K8 l0 l1 l2 l3 g → JW Γ E 8 [some (.ref l0), some (.int l1), some (.int l2), some (.int l3)] [] g) (th : Nat) (p0 : Int32) (g : GH) (h : B_Ta_readTerm_0 Γ R_Ta_readAtom K8 K th p0 g) : JW Γ E 0 [some (.ref th), some (.int p0), none, none] [] g := by
  unfold B_Ta_readTerm_0 at h
  refine j_aload_n hE (by decide +kernel : decode cX6_readTerm 0 = .ok (.aload_n 0, 1)) rfl rfl ?_
  refine j_iload_n hE (by decide +kernel : decode cX6_readTerm 1 = .ok (.iload_n 1, 1)) rfl rfl ?_
  obtain ⟨hk, h⟩ := h
  refine j_callV hE rfl cl_X6_77 cf_7 im_X6_readAtom se_X6_readAtom hR_Ta_readAtom.1 (As := [.int p0]) (rest := []) rfl rfl (Nat.le_of_ble_eq_true rfl) hk (by decide +kernel : decode cX6_readTerm 2 = .ok (.invokevirtual 77, 3)) (hR_Ta_readAtom.2 _ _ _ _ h) ?_
  rintro _ g1 ⟨x2, rfl, h⟩
  refine j_istore_n hE (by decide +kernel : decode cX6_readTerm 5 = .ok (.istore_n 2, 1)) rfl (Nat.le_of_ble_eq_true rfl) rfl ?_
  refine j_iconst hE (by decide +kernel : decode cX6_readTerm 6 = .ok (.iconst 0, 1)) (v := (0 : Int32)) (by decide) ?_
  refine j_istore_n hE (by decide +kernel : decode cX6_readTerm 7 = .ok (.istore_n 3, 1)) rfl (Nat.le_of_ble_eq_true rfl) rfl ?_
  exact hK8 _ _ _ _ _ h
set_option maxHeartbeats 4000000 in
set_option maxRecDepth 100000 in
theorem rl_Ta_readTerm {Γ : GAM} {l : Launch} {fr lo : Nat} (hfr : 1 ≤ fr) (hlo : 22 ≤ lo) {R_Ta_readAtom : Nat → Int32 → GH → (Int32 → GH → Prop) → Prop} {f_Ta_readAtom l_Ta_readAtom : Nat} (hR_Ta_readAtom : (f_Ta_readAtom + 1 ≤ fr ∧ 8 + (4 + 11) + l_Ta_readAtom ≤ lo) ∧ ∀ (th : Nat) (p0 : Int32) g (K : Int32 → GH → Prop), R_Ta_readAtom th p0 g K → MetA Γ l yX6_readAtom cX6_readAtom 4 (some (.boolean)) f_Ta_readAtom l_Ta_readAtom [.ref th, .int p0] g (fun r g' => ∃ x, r = some (.int x) ∧ K x g')) {th : Nat} {p0 : Int32} {g : GH} {K : Int32 → GH → Prop} (I8 : Nat → Nat → Int32 → Int32 → Int32 → GH → Prop) (hh8 : ∀ n (l0 : Nat) (l1 : Int32) (l2 : Int32) (l3 : Int32) (g : GH), I8 n l0 l1 l2 l3 g → B_Ta_readTerm_8 Γ R_Ta_readAtom (fun l0 l1 l2 l3 g => ∃ m, m < n ∧ I8 m l0 l1 l2 l3 g) K l0 l1 l2 l3 g) (h0 : B_Ta_readTerm_0 Γ R_Ta_readAtom (fun l0 l1 l2 l3 g => ∃ m, I8 m l0 l1 l2 l3 g) K th p0 g) : MetA Γ l yX6_readTerm cX6_readTerm 4 (some (.boolean)) fr lo [.ref th, .int p0] g (fun r g' => ∃ x, r = some (.int x) ∧ K x g') := by
  refine MetA.introL (Lx := [some (.ref th), some (.int p0), none, none]) (by decide) (Nat.le_of_ble_eq_true rfl) rfl rfl ?_
  intro E hEl hE hnm
  have hR_Ta_readAtom := hR_Ta_readAtom; rw [← hEl] at hR_Ta_readAtom
  have hall : ∀ n, (∀ (l0 : Nat) (l1 : Int32) (l2 : Int32) (l3 : Int32) (g : GH), I8 n l0 l1 l2 l3 g → JW Γ E 8 [some (.ref l0), some (.int l1), some (.int l2), some (.int l3)] [] g) := by
    intro n
    induction n using Nat.strongRecOn with
    | ind n ih =>
      exact fun l0 l1 l2 l3 g hi => S_Ta_readTerm_8 hE hfr hlo hR_Ta_readAtom (fun l0 l1 l2 l3 g hm => by obtain ⟨m, hm, h⟩ := hm; exact (ih m hm) l0 l1 l2 l3 g h) l0 l1 l2 l3 g (hh8 n l0 l1 l2 l3 g hi)
  exact S_Ta_readTerm_0 hE hfr hlo hR_Ta_readAtom (fun l0 l1 l2 l3 g hm => by obtain ⟨m, h⟩ := hm; exact (hall m) l0 l1 l2 l3 g h) th p0 g h0
-- the walk of Ta_readAtom
set_option maxRecDepth 100000 in
def B_Ta_readAtom_95 (Γ : GAM) (R_Ta_readAtom : Nat → Int32 → GH → (Int32 → GH → Prop) → Prop) (R_Ta_readSum : Nat → Int32 → GH → (Int32 → GH → Prop) → Prop) (K : Int32 → GH → Prop) (s0 : Int32) (g : GH) : Prop :=
  ((s0 = 0 ∨ s0 = 1) ∧ K s0 g)
set_option maxHeartbeats 4000000 in
set_option maxRecDepth 100000 in
theorem S_Ta_readAtom_95 {Γ : GAM} {E : EV} {fr lo : Nat} {K : Int32 → GH → Prop} (hE : GE Γ E cX6_readAtom 4 RX6 (some (.boolean)) fr lo (fun r g' => ∃ x, r = some (.int x) ∧ K x g')) (hfr : 1 ≤ fr) (hlo : 22 ≤ lo) {R_Ta_readAtom : Nat → Int32 → GH → (Int32 → GH → Prop) → Prop} {R_Ta_readSum : Nat → Int32 → GH → (Int32 → GH → Prop) → Prop} {f_Ta_readAtom l_Ta_readAtom : Nat} (hR_Ta_readAtom : (f_Ta_readAtom + 1 ≤ fr ∧ 8 + (4 + 11) + l_Ta_readAtom ≤ lo) ∧ ∀ (th : Nat) (p0 : Int32) g (K : Int32 → GH → Prop), R_Ta_readAtom th p0 g K → MetA Γ E.2.1 yX6_readAtom cX6_readAtom 4 (some (.boolean)) f_Ta_readAtom l_Ta_readAtom [.ref th, .int p0] g (fun r g' => ∃ x, r = some (.int x) ∧ K x g')) {f_Ta_readSum l_Ta_readSum : Nat} (hR_Ta_readSum : (f_Ta_readSum + 1 ≤ fr ∧ 8 + (5 + 11) + l_Ta_readSum ≤ lo) ∧ ∀ (th : Nat) (p0 : Int32) g (K : Int32 → GH → Prop), R_Ta_readSum th p0 g K → MetA Γ E.2.1 yX6_readSum cX6_readSum 5 (some (.boolean)) f_Ta_readSum l_Ta_readSum [.ref th, .int p0] g (fun r g' => ∃ x, r = some (.int x) ∧ K x g')) (s0 : Int32) (g : GH) (h : B_Ta_readAtom_95 Γ R_Ta_readAtom R_Ta_readSum K s0 g) : JW Γ E 95 [none, none, none, none] [.int s0] g := by
  unfold B_Ta_readAtom_95 at h
  exact j_zret hE h.1 (by decide +kernel : decode cX6_readAtom 95 = .ok (.ireturn, 1)) ⟨_, rfl, h.2⟩
set_option maxRecDepth 100000 in
def B_Ta_readAtom_94 (Γ : GAM) (R_Ta_readAtom : Nat → Int32 → GH → (Int32 → GH → Prop) → Prop) (R_Ta_readSum : Nat → Int32 → GH → (Int32 → GH → Prop) → Prop) (K : Int32 → GH → Prop)  (g : GH) : Prop :=
  B_Ta_readAtom_95 Γ R_Ta_readAtom R_Ta_readSum K (0 : Int32) g
set_option maxHeartbeats 4000000 in
set_option maxRecDepth 100000 in
theorem S_Ta_readAtom_94 {Γ : GAM} {E : EV} {fr lo : Nat} {K : Int32 → GH → Prop} (hE : GE Γ E cX6_readAtom 4 RX6 (some (.boolean)) fr lo (fun r g' => ∃ x, r = some (.int x) ∧ K x g')) (hfr : 1 ≤ fr) (hlo : 22 ≤ lo) {R_Ta_readAtom : Nat → Int32 → GH → (Int32 → GH → Prop) → Prop} {R_Ta_readSum : Nat → Int32 → GH → (Int32 → GH → Prop) → Prop} {f_Ta_readAtom l_Ta_readAtom : Nat} (hR_Ta_readAtom : (f_Ta_readAtom + 1 ≤ fr ∧ 8 + (4 + 11) + l_Ta_readAtom ≤ lo) ∧ ∀ (th : Nat) (p0 : Int32) g (K : Int32 → GH → Prop), R_Ta_readAtom th p0 g K → MetA Γ E.2.1 yX6_readAtom cX6_readAtom 4 (some (.boolean)) f_Ta_readAtom l_Ta_readAtom [.ref th, .int p0] g (fun r g' => ∃ x, r = some (.int x) ∧ K x g')) {f_Ta_readSum l_Ta_readSum : Nat} (hR_Ta_readSum : (f_Ta_readSum + 1 ≤ fr ∧ 8 + (5 + 11) + l_Ta_readSum ≤ lo) ∧ ∀ (th : Nat) (p0 : Int32) g (K : Int32 → GH → Prop), R_Ta_readSum th p0 g K → MetA Γ E.2.1 yX6_readSum cX6_readSum 5 (some (.boolean)) f_Ta_readSum l_Ta_readSum [.ref th, .int p0] g (fun r g' => ∃ x, r = some (.int x) ∧ K x g'))  (g : GH) (h : B_Ta_readAtom_94 Γ R_Ta_readAtom R_Ta_readSum K  g) : JW Γ E 94 [none, none, none, none] [] g := by
  unfold B_Ta_readAtom_94 at h
  refine j_iconst hE (by decide +kernel : decode cX6_readAtom 94 = .ok (.iconst 0, 1)) (v := (0 : Int32)) (by decide) ?_
  exact S_Ta_readAtom_95 hE hfr hlo hR_Ta_readAtom hR_Ta_readSum _ _ h
set_option maxRecDepth 100000 in
def B_Ta_readAtom_47 (Γ : GAM) (R_Ta_readAtom : Nat → Int32 → GH → (Int32 → GH → Prop) → Prop) (R_Ta_readSum : Nat → Int32 → GH → (Int32 → GH → Prop) → Prop) (K : Int32 → GH → Prop) (l0 : Nat) (l1 : Int32) (l2 : Int32) (g : GH) : Prop :=
  ((l1 < (8 : Int32) → Kd g l0 = 8 ∧ Kd g l0 = 8 ∧ ∀ g1 : GH, g1 = sI g 903 l0 ((Gi g 903 l0) + (1 : Int32)) → ((¬ (l2 = (91 : Int32)) → Kd g1 l0 = 8 ∧ R_Ta_readAtom l0 (l1 + (1 : Int32)) g1 (fun (x3 : Int32) (g2 : GH) => Kd g2 l0 = 8 ∧ Sp_Ta_write Γ l0 (-126 : Int32) g2 (fun (g4 : GH) => ((x3 = 0 ∨ x3 = 1) ∧ K x3 g4)))) ∧ (l2 = (91 : Int32) → Kd g1 l0 = 8 ∧ R_Ta_readSum l0 (l1 + (1 : Int32)) g1 (fun (x6 : Int32) (g5 : GH) => ((x6 = 0 → B_Ta_readAtom_94 Γ R_Ta_readAtom R_Ta_readSum K g5) ∧ (¬ (x6 = 0) → Kd g5 l0 = 8 ∧ Sp_Ta_takes Γ l0 (93 : Int32) g5 (fun (x8 : Int32) (g7 : GH) => ((x8 = 0 → B_Ta_readAtom_94 Γ R_Ta_readAtom R_Ta_readSum K g7) ∧ (¬ (x8 = 0) → B_Ta_readAtom_95 Γ R_Ta_readAtom R_Ta_readSum K (1 : Int32) g7))))))))) ∧ (¬ (l1 < (8 : Int32)) → K (0 : Int32) g))
set_option maxHeartbeats 4000000 in
set_option maxRecDepth 100000 in
theorem S_Ta_readAtom_47 {Γ : GAM} {E : EV} {fr lo : Nat} {K : Int32 → GH → Prop} (hE : GE Γ E cX6_readAtom 4 RX6 (some (.boolean)) fr lo (fun r g' => ∃ x, r = some (.int x) ∧ K x g')) (hfr : 1 ≤ fr) (hlo : 22 ≤ lo) {R_Ta_readAtom : Nat → Int32 → GH → (Int32 → GH → Prop) → Prop} {R_Ta_readSum : Nat → Int32 → GH → (Int32 → GH → Prop) → Prop} {f_Ta_readAtom l_Ta_readAtom : Nat} (hR_Ta_readAtom : (f_Ta_readAtom + 1 ≤ fr ∧ 8 + (4 + 11) + l_Ta_readAtom ≤ lo) ∧ ∀ (th : Nat) (p0 : Int32) g (K : Int32 → GH → Prop), R_Ta_readAtom th p0 g K → MetA Γ E.2.1 yX6_readAtom cX6_readAtom 4 (some (.boolean)) f_Ta_readAtom l_Ta_readAtom [.ref th, .int p0] g (fun r g' => ∃ x, r = some (.int x) ∧ K x g')) {f_Ta_readSum l_Ta_readSum : Nat} (hR_Ta_readSum : (f_Ta_readSum + 1 ≤ fr ∧ 8 + (5 + 11) + l_Ta_readSum ≤ lo) ∧ ∀ (th : Nat) (p0 : Int32) g (K : Int32 → GH → Prop), R_Ta_readSum th p0 g K → MetA Γ E.2.1 yX6_readSum cX6_readSum 5 (some (.boolean)) f_Ta_readSum l_Ta_readSum [.ref th, .int p0] g (fun r g' => ∃ x, r = some (.int x) ∧ K x g')) (l0 : Nat) (l1 : Int32) (l2 : Int32) (g : GH) (h : B_Ta_readAtom_47 Γ R_Ta_readAtom R_Ta_readSum K l0 l1 l2 g) : JW Γ E 47 [some (.ref l0), some (.int l1), some (.int l2), none] [] g := by
  unfold B_Ta_readAtom_47 at h
  refine j_iload_n hE (by decide +kernel : decode cX6_readAtom 47 = .ok (.iload_n 1, 1)) rfl rfl ?_
  refine j_bipush hE (by decide +kernel : decode cX6_readAtom 48 = .ok (.bipush 8, 2)) (v := (8 : Int32)) (by decide) ?_
  refine j_icmp_lt hE (by decide +kernel : decode cX6_readAtom 50 = .ok (.if_icmp .lt 5, 3)) (tgt := 55) (by decide) (fun q => ?_) (fun q => ?_)
  · have h := h.1 q
    refine j_aload_n hE (by decide +kernel : decode cX6_readAtom 55 = .ok (.aload_n 0, 1)) rfl rfl ?_
    refine j_dup hE (by decide +kernel : decode cX6_readAtom 56 = .ok (.dup, 1)) rfl ?_
    obtain ⟨hk, h⟩ := h
    refine j_getI hE fg_X6_28 hk (by decide +kernel : decode cX6_readAtom 57 = .ok (.getfield 28, 3)) ?_
    refine j_iconst hE (by decide +kernel : decode cX6_readAtom 60 = .ok (.iconst 1, 1)) (v := (1 : Int32)) (by decide) ?_
    refine j_iadd hE (by decide +kernel : decode cX6_readAtom 61 = .ok (.iadd, 1)) ?_
    obtain ⟨hk, h⟩ := h
    obtain ⟨g1, hg⟩ : ∃ z, z = sI g 903 l0 ((Gi g 903 l0) + (1 : Int32)) := ⟨_, rfl⟩; have h := h g1 hg
    refine j_putI hE fa_X6_28 hk (fun q => by cases q) (by decide +kernel : decode cX6_readAtom 62 = .ok (.putfield 28, 3)) ?_
    rw [← hg]
    refine j_iload_n hE (by decide +kernel : decode cX6_readAtom 65 = .ok (.iload_n 2, 1)) rfl rfl ?_
    refine j_bipush hE (by decide +kernel : decode cX6_readAtom 66 = .ok (.bipush 91, 2)) (v := (91 : Int32)) (by decide) ?_
    refine j_icmp_ne hE (by decide +kernel : decode cX6_readAtom 68 = .ok (.if_icmp .ne 28, 3)) (tgt := 96) (by decide) (fun q => ?_) (fun q => ?_)
    · have h := h.1 q
      refine j_aload_n hE (by decide +kernel : decode cX6_readAtom 96 = .ok (.aload_n 0, 1)) rfl rfl ?_
      refine j_iload_n hE (by decide +kernel : decode cX6_readAtom 97 = .ok (.iload_n 1, 1)) rfl rfl ?_
      refine j_iconst hE (by decide +kernel : decode cX6_readAtom 98 = .ok (.iconst 1, 1)) (v := (1 : Int32)) (by decide) ?_
      refine j_iadd hE (by decide +kernel : decode cX6_readAtom 99 = .ok (.iadd, 1)) ?_
      obtain ⟨hk, h⟩ := h
      refine j_callV hE rfl cl_X6_77 cf_7 im_X6_readAtom se_X6_readAtom hR_Ta_readAtom.1 (As := [.int (l1 + (1 : Int32))]) (rest := []) rfl rfl (Nat.le_of_ble_eq_true rfl) hk (by decide +kernel : decode cX6_readAtom 100 = .ok (.invokevirtual 77, 3)) (hR_Ta_readAtom.2 _ _ _ _ h) ?_
      rintro _ g2 ⟨x3, rfl, h⟩
      refine j_istore_n hE (by decide +kernel : decode cX6_readAtom 103 = .ok (.istore_n 3, 1)) rfl (Nat.le_of_ble_eq_true rfl) rfl ?_
      refine j_aload_n hE (by decide +kernel : decode cX6_readAtom 104 = .ok (.aload_n 0, 1)) rfl rfl ?_
      refine j_bipush hE (by decide +kernel : decode cX6_readAtom 105 = .ok (.bipush (-126), 2)) (v := (-126 : Int32)) (by decide) ?_
      obtain ⟨hk, h⟩ := h
      refine j_callV hE rfl cl_X6_64 cf_7 im_X6_write se_X6_write ⟨by omega, by omega⟩ (As := [.int (-126 : Int32)]) (rest := []) rfl rfl (Nat.le_of_ble_eq_true rfl) hk (by decide +kernel : decode cX6_readAtom 107 = .ok (.invokevirtual 64, 3)) (mt_Ta_write _ _ _ _ h) ?_
      rintro _ g4 ⟨rfl, h⟩
      refine j_iload_n hE (by decide +kernel : decode cX6_readAtom 110 = .ok (.iload_n 3, 1)) rfl rfl ?_
      exact j_zret hE h.1 (by decide +kernel : decode cX6_readAtom 111 = .ok (.ireturn, 1)) ⟨_, rfl, h.2⟩
    · have h := h.2 q
      refine j_aload_n hE (by decide +kernel : decode cX6_readAtom 71 = .ok (.aload_n 0, 1)) rfl rfl ?_
      refine j_iload_n hE (by decide +kernel : decode cX6_readAtom 72 = .ok (.iload_n 1, 1)) rfl rfl ?_
      refine j_iconst hE (by decide +kernel : decode cX6_readAtom 73 = .ok (.iconst 1, 1)) (v := (1 : Int32)) (by decide) ?_
      refine j_iadd hE (by decide +kernel : decode cX6_readAtom 74 = .ok (.iadd, 1)) ?_
      obtain ⟨hk, h⟩ := h
      refine j_callV hE rfl cl_X6_58 cf_7 im_X6_readSum se_X6_readSum hR_Ta_readSum.1 (As := [.int (l1 + (1 : Int32))]) (rest := []) rfl rfl (Nat.le_of_ble_eq_true rfl) hk (by decide +kernel : decode cX6_readAtom 75 = .ok (.invokevirtual 58, 3)) (hR_Ta_readSum.2 _ _ _ _ h) ?_
      rintro _ g5 ⟨x6, rfl, h⟩
      refine j_if_eq hE (by decide +kernel : decode cX6_readAtom 78 = .ok (.ifCond .eq 16, 3)) (tgt := 94) (by decide) (fun q => ?_) (fun q => ?_)
      · have h := h.1 q
        refine j_weak [none, none, none, none] trivial ?_
        exact S_Ta_readAtom_94 hE hfr hlo hR_Ta_readAtom hR_Ta_readSum _ h
      · have h := h.2 q
        refine j_aload_n hE (by decide +kernel : decode cX6_readAtom 81 = .ok (.aload_n 0, 1)) rfl rfl ?_
        refine j_bipush hE (by decide +kernel : decode cX6_readAtom 82 = .ok (.bipush 93, 2)) (v := (93 : Int32)) (by decide) ?_
        obtain ⟨hk, h⟩ := h
        refine j_callV hE rfl cl_X6_41 cf_7 im_X6_takes se_X6_takes ⟨by omega, by omega⟩ (As := [.int (93 : Int32)]) (rest := []) rfl rfl (Nat.le_of_ble_eq_true rfl) hk (by decide +kernel : decode cX6_readAtom 84 = .ok (.invokevirtual 41, 3)) (mt_Ta_takes _ _ _ _ h) ?_
        rintro _ g7 ⟨x8, rfl, h⟩
        refine j_if_eq hE (by decide +kernel : decode cX6_readAtom 87 = .ok (.ifCond .eq 7, 3)) (tgt := 94) (by decide) (fun q => ?_) (fun q => ?_)
        · have h := h.1 q
          refine j_weak [none, none, none, none] trivial ?_
          exact S_Ta_readAtom_94 hE hfr hlo hR_Ta_readAtom hR_Ta_readSum _ h
        · have h := h.2 q
          refine j_iconst hE (by decide +kernel : decode cX6_readAtom 90 = .ok (.iconst 1, 1)) (v := (1 : Int32)) (by decide) ?_
          refine j_goto hE (by decide +kernel : decode cX6_readAtom 91 = .ok (.goto 4, 3)) (tgt := 95) (by decide) ?_
          refine j_weak [none, none, none, none] trivial ?_
          exact S_Ta_readAtom_95 hE hfr hlo hR_Ta_readAtom hR_Ta_readSum _ _ h
  · have h := h.2 q
    refine j_iconst hE (by decide +kernel : decode cX6_readAtom 53 = .ok (.iconst 0, 1)) (v := (0 : Int32)) (by decide) ?_
    exact j_zret hE (Or.inl rfl) (by decide +kernel : decode cX6_readAtom 54 = .ok (.ireturn, 1)) ⟨_, rfl, h⟩
set_option maxRecDepth 100000 in
def B_Ta_readAtom_0 (Γ : GAM) (R_Ta_readAtom : Nat → Int32 → GH → (Int32 → GH → Prop) → Prop) (R_Ta_readSum : Nat → Int32 → GH → (Int32 → GH → Prop) → Prop) (K : Int32 → GH → Prop) (th : Nat) (p0 : Int32) (g : GH) : Prop :=
  Kd g th = 8 ∧ Sp_Ta_nextSign Γ th g (fun (x2 : Int32) (g1 : GH) => Sp_PV_isLetter Γ x2 g1 (fun (x4 : Int32) (g3 : GH) => ((x4 = 0 → ((x2 = (91 : Int32) → B_Ta_readAtom_47 Γ R_Ta_readAtom R_Ta_readSum K th p0 x2 g3) ∧ (¬ (x2 = (91 : Int32)) → ((x2 = (45 : Int32) → B_Ta_readAtom_47 Γ R_Ta_readAtom R_Ta_readSum K th p0 x2 g3) ∧ (¬ (x2 = (45 : Int32)) → Kd g3 th = 8 ∧ Sp_Ta_readNumber Γ th g3 (fun (x6 : Int32) (g5 : GH) => ((x6 = 0 ∨ x6 = 1) ∧ K x6 g5))))))) ∧ (¬ (x4 = 0) → Kd g3 th = 8 ∧ Kd g3 th = 8 ∧ ∀ g7 : GH, g7 = sI g3 903 th ((Gi g3 903 th) + (1 : Int32)) → Kd g7 th = 8 ∧ Sp_Ta_write Γ th (-x2) g7 (fun (g8 : GH) => K (1 : Int32) g8)))))
set_option maxHeartbeats 4000000 in
set_option maxRecDepth 100000 in
theorem S_Ta_readAtom_0 {Γ : GAM} {E : EV} {fr lo : Nat} {K : Int32 → GH → Prop} (hE : GE Γ E cX6_readAtom 4 RX6 (some (.boolean)) fr lo (fun r g' => ∃ x, r = some (.int x) ∧ K x g')) (hfr : 1 ≤ fr) (hlo : 22 ≤ lo) {R_Ta_readAtom : Nat → Int32 → GH → (Int32 → GH → Prop) → Prop} {R_Ta_readSum : Nat → Int32 → GH → (Int32 → GH → Prop) → Prop} {f_Ta_readAtom l_Ta_readAtom : Nat} (hR_Ta_readAtom : (f_Ta_readAtom + 1 ≤ fr ∧ 8 + (4 + 11) + l_Ta_readAtom ≤ lo) ∧ ∀ (th : Nat) (p0 : Int32) g (K : Int32 → GH → Prop), R_Ta_readAtom th p0 g K → MetA Γ E.2.1 yX6_readAtom cX6_readAtom 4 (some (.boolean)) f_Ta_readAtom l_Ta_readAtom [.ref th, .int p0] g (fun r g' => ∃ x, r = some (.int x) ∧ K x g')) {f_Ta_readSum l_Ta_readSum : Nat} (hR_Ta_readSum : (f_Ta_readSum + 1 ≤ fr ∧ 8 + (5 + 11) + l_Ta_readSum ≤ lo) ∧ ∀ (th : Nat) (p0 : Int32) g (K : Int32 → GH → Prop), R_Ta_readSum th p0 g K → MetA Γ E.2.1 yX6_readSum cX6_readSum 5 (some (.boolean)) f_Ta_readSum l_Ta_readSum [.ref th, .int p0] g (fun r g' => ∃ x, r = some (.int x) ∧ K x g')) (th : Nat) (p0 : Int32) (g : GH) (h : B_Ta_readAtom_0 Γ R_Ta_readAtom R_Ta_readSum K th p0 g) : JW Γ E 0 [some (.ref th), some (.int p0), none, none] [] g := by
  unfold B_Ta_readAtom_0 at h
  refine j_aload_n hE (by decide +kernel : decode cX6_readAtom 0 = .ok (.aload_n 0, 1)) rfl rfl ?_
  obtain ⟨hk, h⟩ := h
  refine j_callV hE rfl cl_X6_45 cf_7 im_X6_nextSign se_X6_nextSign ⟨by omega, by omega⟩ (As := []) (rest := []) rfl rfl (Nat.le_of_ble_eq_true rfl) hk (by decide +kernel : decode cX6_readAtom 1 = .ok (.invokevirtual 45, 3)) (mt_Ta_nextSign _ _ _ h) ?_
  rintro _ g1 ⟨x2, rfl, h⟩
  refine j_istore_n hE (by decide +kernel : decode cX6_readAtom 4 = .ok (.istore_n 2, 1)) rfl (Nat.le_of_ble_eq_true rfl) rfl ?_
  refine j_iload_n hE (by decide +kernel : decode cX6_readAtom 5 = .ok (.iload_n 2, 1)) rfl rfl ?_
  refine j_callSN hE rfl cl_X6_80 st_X10_isLetter ⟨by omega, by omega⟩ (As := [.int x2]) (rest := []) rfl rfl (Nat.le_of_ble_eq_true rfl) (by decide +kernel : decode cX6_readAtom 6 = .ok (.invokestatic 80, 3)) (mt_PV_isLetter _ _ _ h) ?_
  rintro _ g3 ⟨x4, rfl, h⟩
  refine j_if_eq hE (by decide +kernel : decode cX6_readAtom 9 = .ok (.ifCond .eq 21, 3)) (tgt := 30) (by decide) (fun q => ?_) (fun q => ?_)
  · have h := h.1 q
    refine j_iload_n hE (by decide +kernel : decode cX6_readAtom 30 = .ok (.iload_n 2, 1)) rfl rfl ?_
    refine j_bipush hE (by decide +kernel : decode cX6_readAtom 31 = .ok (.bipush 91, 2)) (v := (91 : Int32)) (by decide) ?_
    refine j_icmp_eq hE (by decide +kernel : decode cX6_readAtom 33 = .ok (.if_icmp .eq 14, 3)) (tgt := 47) (by decide) (fun q => ?_) (fun q => ?_)
    · have h := h.1 q
      exact S_Ta_readAtom_47 hE hfr hlo hR_Ta_readAtom hR_Ta_readSum _ _ _ _ h
    · have h := h.2 q
      refine j_iload_n hE (by decide +kernel : decode cX6_readAtom 36 = .ok (.iload_n 2, 1)) rfl rfl ?_
      refine j_bipush hE (by decide +kernel : decode cX6_readAtom 37 = .ok (.bipush 45, 2)) (v := (45 : Int32)) (by decide) ?_
      refine j_icmp_eq hE (by decide +kernel : decode cX6_readAtom 39 = .ok (.if_icmp .eq 8, 3)) (tgt := 47) (by decide) (fun q => ?_) (fun q => ?_)
      · have h := h.1 q
        exact S_Ta_readAtom_47 hE hfr hlo hR_Ta_readAtom hR_Ta_readSum _ _ _ _ h
      · have h := h.2 q
        refine j_aload_n hE (by decide +kernel : decode cX6_readAtom 42 = .ok (.aload_n 0, 1)) rfl rfl ?_
        obtain ⟨hk, h⟩ := h
        refine j_callV hE rfl cl_X6_55 cf_7 im_X6_readNumber se_X6_readNumber ⟨by omega, by omega⟩ (As := []) (rest := []) rfl rfl (Nat.le_of_ble_eq_true rfl) hk (by decide +kernel : decode cX6_readAtom 43 = .ok (.invokevirtual 55, 3)) (mt_Ta_readNumber _ _ _ h) ?_
        rintro _ g5 ⟨x6, rfl, h⟩
        exact j_zret hE h.1 (by decide +kernel : decode cX6_readAtom 46 = .ok (.ireturn, 1)) ⟨_, rfl, h.2⟩
  · have h := h.2 q
    refine j_aload_n hE (by decide +kernel : decode cX6_readAtom 12 = .ok (.aload_n 0, 1)) rfl rfl ?_
    refine j_dup hE (by decide +kernel : decode cX6_readAtom 13 = .ok (.dup, 1)) rfl ?_
    obtain ⟨hk, h⟩ := h
    refine j_getI hE fg_X6_28 hk (by decide +kernel : decode cX6_readAtom 14 = .ok (.getfield 28, 3)) ?_
    refine j_iconst hE (by decide +kernel : decode cX6_readAtom 17 = .ok (.iconst 1, 1)) (v := (1 : Int32)) (by decide) ?_
    refine j_iadd hE (by decide +kernel : decode cX6_readAtom 18 = .ok (.iadd, 1)) ?_
    obtain ⟨hk, h⟩ := h
    obtain ⟨g7, hg⟩ : ∃ z, z = sI g3 903 th ((Gi g3 903 th) + (1 : Int32)) := ⟨_, rfl⟩; have h := h g7 hg
    refine j_putI hE fa_X6_28 hk (fun q => by cases q) (by decide +kernel : decode cX6_readAtom 19 = .ok (.putfield 28, 3)) ?_
    rw [← hg]
    refine j_aload_n hE (by decide +kernel : decode cX6_readAtom 22 = .ok (.aload_n 0, 1)) rfl rfl ?_
    refine j_iload_n hE (by decide +kernel : decode cX6_readAtom 23 = .ok (.iload_n 2, 1)) rfl rfl ?_
    refine j_ineg hE (by decide +kernel : decode cX6_readAtom 24 = .ok (.ineg, 1)) ?_
    obtain ⟨hk, h⟩ := h
    refine j_callV hE rfl cl_X6_64 cf_7 im_X6_write se_X6_write ⟨by omega, by omega⟩ (As := [.int (-x2)]) (rest := []) rfl rfl (Nat.le_of_ble_eq_true rfl) hk (by decide +kernel : decode cX6_readAtom 25 = .ok (.invokevirtual 64, 3)) (mt_Ta_write _ _ _ _ h) ?_
    rintro _ g8 ⟨rfl, h⟩
    refine j_iconst hE (by decide +kernel : decode cX6_readAtom 28 = .ok (.iconst 1, 1)) (v := (1 : Int32)) (by decide) ?_
    exact j_zret hE (Or.inr rfl) (by decide +kernel : decode cX6_readAtom 29 = .ok (.ireturn, 1)) ⟨_, rfl, h⟩
set_option maxHeartbeats 4000000 in
set_option maxRecDepth 100000 in
theorem rl_Ta_readAtom {Γ : GAM} {l : Launch} {fr lo : Nat} (hfr : 1 ≤ fr) (hlo : 22 ≤ lo) {R_Ta_readAtom : Nat → Int32 → GH → (Int32 → GH → Prop) → Prop} {R_Ta_readSum : Nat → Int32 → GH → (Int32 → GH → Prop) → Prop} {f_Ta_readAtom l_Ta_readAtom : Nat} (hR_Ta_readAtom : (f_Ta_readAtom + 1 ≤ fr ∧ 8 + (4 + 11) + l_Ta_readAtom ≤ lo) ∧ ∀ (th : Nat) (p0 : Int32) g (K : Int32 → GH → Prop), R_Ta_readAtom th p0 g K → MetA Γ l yX6_readAtom cX6_readAtom 4 (some (.boolean)) f_Ta_readAtom l_Ta_readAtom [.ref th, .int p0] g (fun r g' => ∃ x, r = some (.int x) ∧ K x g')) {f_Ta_readSum l_Ta_readSum : Nat} (hR_Ta_readSum : (f_Ta_readSum + 1 ≤ fr ∧ 8 + (5 + 11) + l_Ta_readSum ≤ lo) ∧ ∀ (th : Nat) (p0 : Int32) g (K : Int32 → GH → Prop), R_Ta_readSum th p0 g K → MetA Γ l yX6_readSum cX6_readSum 5 (some (.boolean)) f_Ta_readSum l_Ta_readSum [.ref th, .int p0] g (fun r g' => ∃ x, r = some (.int x) ∧ K x g')) {th : Nat} {p0 : Int32} {g : GH} {K : Int32 → GH → Prop} (h0 : B_Ta_readAtom_0 Γ R_Ta_readAtom R_Ta_readSum K th p0 g) : MetA Γ l yX6_readAtom cX6_readAtom 4 (some (.boolean)) fr lo [.ref th, .int p0] g (fun r g' => ∃ x, r = some (.int x) ∧ K x g') := by
  refine MetA.introL (Lx := [some (.ref th), some (.int p0), none, none]) (by decide) (Nat.le_of_ble_eq_true rfl) rfl rfl ?_
  intro E hEl hE hnm
  have hR_Ta_readAtom := hR_Ta_readAtom; rw [← hEl] at hR_Ta_readAtom
  have hR_Ta_readSum := hR_Ta_readSum; rw [← hEl] at hR_Ta_readSum
  exact S_Ta_readAtom_0 hE hfr hlo hR_Ta_readAtom hR_Ta_readSum th p0 g h0
-- the walk of Ta_readNumber
set_option maxRecDepth 100000 in
def B_Ta_readNumber_89 (Γ : GAM) (K20 : Nat → Int32 → Int32 → GH → Prop) (K : Int32 → GH → Prop) (l0 : Nat) (l1 : Int32) (g : GH) : Prop :=
  Kd g l0 = 8 ∧ Sp_Ta_write Γ l0 l1 g (fun (g1 : GH) => K (1 : Int32) g1)
set_option maxHeartbeats 4000000 in
set_option maxRecDepth 100000 in
theorem S_Ta_readNumber_89 {Γ : GAM} {E : EV} {K : Int32 → GH → Prop} (hE : GE Γ E cX6_readNumber 3 RX6 (some (.boolean)) 1 22 (fun r g' => ∃ x, r = some (.int x) ∧ K x g')) {K20 : Nat → Int32 → Int32 → GH → Prop} (hK20 : ∀ (l0 : Nat) (l1 : Int32) (l2 : Int32) (g : GH), K20 l0 l1 l2 g → JW Γ E 20 [some (.ref l0), some (.int l1), some (.int l2)] [] g) (l0 : Nat) (l1 : Int32) (g : GH) (h : B_Ta_readNumber_89 Γ K20 K l0 l1 g) : JW Γ E 89 [some (.ref l0), some (.int l1), none] [] g := by
  unfold B_Ta_readNumber_89 at h
  refine j_aload_n hE (by decide +kernel : decode cX6_readNumber 89 = .ok (.aload_n 0, 1)) rfl rfl ?_
  refine j_iload_n hE (by decide +kernel : decode cX6_readNumber 90 = .ok (.iload_n 1, 1)) rfl rfl ?_
  obtain ⟨hk, h⟩ := h
  refine j_callV hE rfl cl_X6_64 cf_7 im_X6_write se_X6_write ⟨by omega, by omega⟩ (As := [.int l1]) (rest := []) rfl rfl (Nat.le_of_ble_eq_true rfl) hk (by decide +kernel : decode cX6_readNumber 91 = .ok (.invokevirtual 64, 3)) (mt_Ta_write _ _ _ _ h) ?_
  rintro _ g1 ⟨rfl, h⟩
  refine j_iconst hE (by decide +kernel : decode cX6_readNumber 94 = .ok (.iconst 1, 1)) (v := (1 : Int32)) (by decide) ?_
  exact j_zret hE (Or.inr rfl) (by decide +kernel : decode cX6_readNumber 95 = .ok (.ireturn, 1)) ⟨_, rfl, h⟩
set_option maxRecDepth 100000 in
def B_Ta_readNumber_20 (Γ : GAM) (K20 : Nat → Int32 → Int32 → GH → Prop) (K : Int32 → GH → Prop) (l0 : Nat) (l1 : Int32) (l2 : Int32) (g : GH) : Prop :=
  (((4 : Int32) ≤ l2 → B_Ta_readNumber_89 Γ K20 K l0 l1 g) ∧ (¬ ((4 : Int32) ≤ l2) → Kd g l0 = 8 ∧ Kd g l0 = 8 ∧ (((Gi g 897 l0) ≤ (Gi g 903 l0) → B_Ta_readNumber_89 Γ K20 K l0 l1 g) ∧ (¬ ((Gi g 897 l0) ≤ (Gi g 903 l0)) → Kd g l0 = 8 ∧ ∃ a1 : Nat, Gr g 896 l0 = some a1 ∧ Kd g l0 = 8 ∧ Kd g a1 = 20 ∧ inB (Gi g 903 l0) (Ln g a1) ∧ Sp_PV_isWithin Γ (Ia g (Co g a1) (Ow g a1) (Gi g 903 l0).toNatClampNeg) (48 : Int32) (57 : Int32) g (fun (x3 : Int32) (g2 : GH) => ((x3 = 0 → B_Ta_readNumber_89 Γ K20 K l0 l1 g2) ∧ (¬ (x3 = 0) → Kd g2 l0 = 8 ∧ ∃ a4 : Nat, Gr g2 896 l0 = some a4 ∧ Kd g2 l0 = 8 ∧ Kd g2 a4 = 20 ∧ inB (Gi g2 903 l0) (Ln g2 a4) ∧ ∀ x5 : Int32, x5 = (((l1 * (10 : Int32)) + (Ia g2 (Co g2 a4) (Ow g2 a4) (Gi g2 903 l0).toNatClampNeg)) - (48 : Int32)) → Kd g2 l0 = 8 ∧ Kd g2 l0 = 8 ∧ ∀ g6 : GH, g6 = sI g2 903 l0 ((Gi g2 903 l0) + (1 : Int32)) → K20 l0 x5 (l2 + (1 : Int32)) g6)))))))
set_option maxHeartbeats 4000000 in
set_option maxRecDepth 100000 in
theorem S_Ta_readNumber_20 {Γ : GAM} {E : EV} {K : Int32 → GH → Prop} (hE : GE Γ E cX6_readNumber 3 RX6 (some (.boolean)) 1 22 (fun r g' => ∃ x, r = some (.int x) ∧ K x g')) {K20 : Nat → Int32 → Int32 → GH → Prop} (hK20 : ∀ (l0 : Nat) (l1 : Int32) (l2 : Int32) (g : GH), K20 l0 l1 l2 g → JW Γ E 20 [some (.ref l0), some (.int l1), some (.int l2)] [] g) (l0 : Nat) (l1 : Int32) (l2 : Int32) (g : GH) (h : B_Ta_readNumber_20 Γ K20 K l0 l1 l2 g) : JW Γ E 20 [some (.ref l0), some (.int l1), some (.int l2)] [] g := by
  unfold B_Ta_readNumber_20 at h
  refine j_iload_n hE (by decide +kernel : decode cX6_readNumber 20 = .ok (.iload_n 2, 1)) rfl rfl ?_
  refine j_iconst hE (by decide +kernel : decode cX6_readNumber 21 = .ok (.iconst 4, 1)) (v := (4 : Int32)) (by decide) ?_
  refine j_icmp_ge hE (by decide +kernel : decode cX6_readNumber 22 = .ok (.if_icmp .ge 67, 3)) (tgt := 89) (by decide) (fun q => ?_) (fun q => ?_)
  · have h := h.1 q
    refine j_weak [some (.ref l0), some (.int l1), none] ⟨rfl, ⟨rfl, trivial⟩⟩ ?_
    exact S_Ta_readNumber_89 hE hK20 _ _ _ h
  · have h := h.2 q
    refine j_aload_n hE (by decide +kernel : decode cX6_readNumber 25 = .ok (.aload_n 0, 1)) rfl rfl ?_
    obtain ⟨hk, h⟩ := h
    refine j_getI hE fg_X6_28 hk (by decide +kernel : decode cX6_readNumber 26 = .ok (.getfield 28, 3)) ?_
    refine j_aload_n hE (by decide +kernel : decode cX6_readNumber 29 = .ok (.aload_n 0, 1)) rfl rfl ?_
    obtain ⟨hk, h⟩ := h
    refine j_getI hE fg_X6_24 hk (by decide +kernel : decode cX6_readNumber 30 = .ok (.getfield 24, 3)) ?_
    refine j_icmp_ge hE (by decide +kernel : decode cX6_readNumber 33 = .ok (.if_icmp .ge 56, 3)) (tgt := 89) (by decide) (fun q => ?_) (fun q => ?_)
    · have h := h.1 q
      refine j_weak [some (.ref l0), some (.int l1), none] ⟨rfl, ⟨rfl, trivial⟩⟩ ?_
      exact S_Ta_readNumber_89 hE hK20 _ _ _ h
    · have h := h.2 q
      refine j_aload_n hE (by decide +kernel : decode cX6_readNumber 36 = .ok (.aload_n 0, 1)) rfl rfl ?_
      obtain ⟨hk, h⟩ := h
      obtain ⟨a1, ha, h⟩ := h
      refine j_getRn hE fg_X6_9 hk ha (by decide +kernel : decode cX6_readNumber 37 = .ok (.getfield 9, 3)) ?_
      refine j_aload_n hE (by decide +kernel : decode cX6_readNumber 40 = .ok (.aload_n 0, 1)) rfl rfl ?_
      obtain ⟨hk, h⟩ := h
      refine j_getI hE fg_X6_28 hk (by decide +kernel : decode cX6_readNumber 41 = .ok (.getfield 28, 3)) ?_
      obtain ⟨hk, hb, h⟩ := h
      refine j_iald hE hk hb (by decide +kernel : decode cX6_readNumber 44 = .ok (.iaload, 1)) ?_
      refine j_bipush hE (by decide +kernel : decode cX6_readNumber 45 = .ok (.bipush 48, 2)) (v := (48 : Int32)) (by decide) ?_
      refine j_bipush hE (by decide +kernel : decode cX6_readNumber 47 = .ok (.bipush 57, 2)) (v := (57 : Int32)) (by decide) ?_
      refine j_callSN hE rfl cl_X6_83 st_X10_isWithin ⟨by omega, by omega⟩ (As := [.int (Ia g (Co g a1) (Ow g a1) (Gi g 903 l0).toNatClampNeg), .int (48 : Int32), .int (57 : Int32)]) (rest := []) rfl rfl (Nat.le_of_ble_eq_true rfl) (by decide +kernel : decode cX6_readNumber 49 = .ok (.invokestatic 83, 3)) (mt_PV_isWithin _ _ _ _ _ h) ?_
      rintro _ g2 ⟨x3, rfl, h⟩
      refine j_if_eq hE (by decide +kernel : decode cX6_readNumber 52 = .ok (.ifCond .eq 37, 3)) (tgt := 89) (by decide) (fun q => ?_) (fun q => ?_)
      · have h := h.1 q
        refine j_weak [some (.ref l0), some (.int l1), none] ⟨rfl, ⟨rfl, trivial⟩⟩ ?_
        exact S_Ta_readNumber_89 hE hK20 _ _ _ h
      · have h := h.2 q
        refine j_iload_n hE (by decide +kernel : decode cX6_readNumber 55 = .ok (.iload_n 1, 1)) rfl rfl ?_
        refine j_bipush hE (by decide +kernel : decode cX6_readNumber 56 = .ok (.bipush 10, 2)) (v := (10 : Int32)) (by decide) ?_
        refine j_imul hE (by decide +kernel : decode cX6_readNumber 58 = .ok (.imul, 1)) ?_
        refine j_aload_n hE (by decide +kernel : decode cX6_readNumber 59 = .ok (.aload_n 0, 1)) rfl rfl ?_
        obtain ⟨hk, h⟩ := h
        obtain ⟨a4, ha, h⟩ := h
        refine j_getRn hE fg_X6_9 hk ha (by decide +kernel : decode cX6_readNumber 60 = .ok (.getfield 9, 3)) ?_
        refine j_aload_n hE (by decide +kernel : decode cX6_readNumber 63 = .ok (.aload_n 0, 1)) rfl rfl ?_
        obtain ⟨hk, h⟩ := h
        refine j_getI hE fg_X6_28 hk (by decide +kernel : decode cX6_readNumber 64 = .ok (.getfield 28, 3)) ?_
        obtain ⟨hk, hb, h⟩ := h
        refine j_iald hE hk hb (by decide +kernel : decode cX6_readNumber 67 = .ok (.iaload, 1)) ?_
        refine j_iadd hE (by decide +kernel : decode cX6_readNumber 68 = .ok (.iadd, 1)) ?_
        refine j_bipush hE (by decide +kernel : decode cX6_readNumber 69 = .ok (.bipush 48, 2)) (v := (48 : Int32)) (by decide) ?_
        refine j_isub hE (by decide +kernel : decode cX6_readNumber 71 = .ok (.isub, 1)) ?_
        obtain ⟨x5, hx⟩ : ∃ z, z = (((l1 * (10 : Int32)) + (Ia g2 (Co g2 a4) (Ow g2 a4) (Gi g2 903 l0).toNatClampNeg)) - (48 : Int32)) := ⟨_, rfl⟩; have h := h x5 hx; rw [← hx]
        refine j_istore_n hE (by decide +kernel : decode cX6_readNumber 72 = .ok (.istore_n 1, 1)) rfl (Nat.le_of_ble_eq_true rfl) rfl ?_
        refine j_aload_n hE (by decide +kernel : decode cX6_readNumber 73 = .ok (.aload_n 0, 1)) rfl rfl ?_
        refine j_dup hE (by decide +kernel : decode cX6_readNumber 74 = .ok (.dup, 1)) rfl ?_
        obtain ⟨hk, h⟩ := h
        refine j_getI hE fg_X6_28 hk (by decide +kernel : decode cX6_readNumber 75 = .ok (.getfield 28, 3)) ?_
        refine j_iconst hE (by decide +kernel : decode cX6_readNumber 78 = .ok (.iconst 1, 1)) (v := (1 : Int32)) (by decide) ?_
        refine j_iadd hE (by decide +kernel : decode cX6_readNumber 79 = .ok (.iadd, 1)) ?_
        obtain ⟨hk, h⟩ := h
        obtain ⟨g6, hg⟩ : ∃ z, z = sI g2 903 l0 ((Gi g2 903 l0) + (1 : Int32)) := ⟨_, rfl⟩; have h := h g6 hg
        refine j_putI hE fa_X6_28 hk (fun q => by cases q) (by decide +kernel : decode cX6_readNumber 80 = .ok (.putfield 28, 3)) ?_
        rw [← hg]
        refine j_iinc hE (by decide +kernel : decode cX6_readNumber 83 = .ok (.iinc 2 1, 3)) (v := (1 : Int32)) (by decide) rfl (Nat.le_of_ble_eq_true rfl) rfl ?_
        refine j_goto hE (by decide +kernel : decode cX6_readNumber 86 = .ok (.goto (-66), 3)) (tgt := 20) (by decide) ?_
        exact hK20 _ _ _ _ h
set_option maxRecDepth 100000 in
def B_Ta_readNumber_0 (Γ : GAM) (K20 : Nat → Int32 → Int32 → GH → Prop) (K : Int32 → GH → Prop) (th : Nat) (g : GH) : Prop :=
  Kd g th = 8 ∧ Sp_Ta_nextSign Γ th g (fun (x2 : Int32) (g1 : GH) => Sp_PV_isWithin Γ x2 (48 : Int32) (57 : Int32) g1 (fun (x4 : Int32) (g3 : GH) => ((¬ (x4 = 0) → K20 th (0 : Int32) (0 : Int32) g3) ∧ (x4 = 0 → K (0 : Int32) g3))))
set_option maxHeartbeats 4000000 in
set_option maxRecDepth 100000 in
theorem S_Ta_readNumber_0 {Γ : GAM} {E : EV} {K : Int32 → GH → Prop} (hE : GE Γ E cX6_readNumber 3 RX6 (some (.boolean)) 1 22 (fun r g' => ∃ x, r = some (.int x) ∧ K x g')) {K20 : Nat → Int32 → Int32 → GH → Prop} (hK20 : ∀ (l0 : Nat) (l1 : Int32) (l2 : Int32) (g : GH), K20 l0 l1 l2 g → JW Γ E 20 [some (.ref l0), some (.int l1), some (.int l2)] [] g) (th : Nat) (g : GH) (h : B_Ta_readNumber_0 Γ K20 K th g) : JW Γ E 0 [some (.ref th), none, none] [] g := by
  unfold B_Ta_readNumber_0 at h
  refine j_aload_n hE (by decide +kernel : decode cX6_readNumber 0 = .ok (.aload_n 0, 1)) rfl rfl ?_
  obtain ⟨hk, h⟩ := h
  refine j_callV hE rfl cl_X6_45 cf_7 im_X6_nextSign se_X6_nextSign ⟨by omega, by omega⟩ (As := []) (rest := []) rfl rfl (Nat.le_of_ble_eq_true rfl) hk (by decide +kernel : decode cX6_readNumber 1 = .ok (.invokevirtual 45, 3)) (mt_Ta_nextSign _ _ _ h) ?_
  rintro _ g1 ⟨x2, rfl, h⟩
  refine j_bipush hE (by decide +kernel : decode cX6_readNumber 4 = .ok (.bipush 48, 2)) (v := (48 : Int32)) (by decide) ?_
  refine j_bipush hE (by decide +kernel : decode cX6_readNumber 6 = .ok (.bipush 57, 2)) (v := (57 : Int32)) (by decide) ?_
  refine j_callSN hE rfl cl_X6_83 st_X10_isWithin ⟨by omega, by omega⟩ (As := [.int x2, .int (48 : Int32), .int (57 : Int32)]) (rest := []) rfl rfl (Nat.le_of_ble_eq_true rfl) (by decide +kernel : decode cX6_readNumber 8 = .ok (.invokestatic 83, 3)) (mt_PV_isWithin _ _ _ _ _ h) ?_
  rintro _ g3 ⟨x4, rfl, h⟩
  refine j_if_ne hE (by decide +kernel : decode cX6_readNumber 11 = .ok (.ifCond .ne 5, 3)) (tgt := 16) (by decide) (fun q => ?_) (fun q => ?_)
  · have h := h.1 q
    refine j_iconst hE (by decide +kernel : decode cX6_readNumber 16 = .ok (.iconst 0, 1)) (v := (0 : Int32)) (by decide) ?_
    refine j_istore_n hE (by decide +kernel : decode cX6_readNumber 17 = .ok (.istore_n 1, 1)) rfl (Nat.le_of_ble_eq_true rfl) rfl ?_
    refine j_iconst hE (by decide +kernel : decode cX6_readNumber 18 = .ok (.iconst 0, 1)) (v := (0 : Int32)) (by decide) ?_
    refine j_istore_n hE (by decide +kernel : decode cX6_readNumber 19 = .ok (.istore_n 2, 1)) rfl (Nat.le_of_ble_eq_true rfl) rfl ?_
    exact hK20 _ _ _ _ h
  · have h := h.2 q
    refine j_iconst hE (by decide +kernel : decode cX6_readNumber 14 = .ok (.iconst 0, 1)) (v := (0 : Int32)) (by decide) ?_
    exact j_zret hE (Or.inl rfl) (by decide +kernel : decode cX6_readNumber 15 = .ok (.ireturn, 1)) ⟨_, rfl, h⟩
set_option maxHeartbeats 4000000 in
set_option maxRecDepth 100000 in
theorem rl_Ta_readNumber {Γ : GAM} {l : Launch} {th : Nat} {g : GH} {K : Int32 → GH → Prop} (I20 : Nat → Nat → Int32 → Int32 → GH → Prop) (hh20 : ∀ n (l0 : Nat) (l1 : Int32) (l2 : Int32) (g : GH), I20 n l0 l1 l2 g → B_Ta_readNumber_20 Γ (fun l0 l1 l2 g => ∃ m, m < n ∧ I20 m l0 l1 l2 g) K l0 l1 l2 g) (h0 : B_Ta_readNumber_0 Γ (fun l0 l1 l2 g => ∃ m, I20 m l0 l1 l2 g) K th g) : MetA Γ l yX6_readNumber cX6_readNumber 3 (some (.boolean)) 1 22 [.ref th] g (fun r g' => ∃ x, r = some (.int x) ∧ K x g') := by
  refine MetA.introL (Lx := [some (.ref th), none, none]) (by decide) (Nat.le_of_ble_eq_true rfl) rfl rfl ?_
  intro E hEl hE hnm
  have hall : ∀ n, (∀ (l0 : Nat) (l1 : Int32) (l2 : Int32) (g : GH), I20 n l0 l1 l2 g → JW Γ E 20 [some (.ref l0), some (.int l1), some (.int l2)] [] g) := by
    intro n
    induction n using Nat.strongRecOn with
    | ind n ih =>
      exact fun l0 l1 l2 g hi => S_Ta_readNumber_20 hE (fun l0 l1 l2 g hm => by obtain ⟨m, hm, h⟩ := hm; exact (ih m hm) l0 l1 l2 g h) l0 l1 l2 g (hh20 n l0 l1 l2 g hi)
  exact S_Ta_readNumber_0 hE (fun l0 l1 l2 g hm => by obtain ⟨m, h⟩ := hm; exact (hall m) l0 l1 l2 g h) th g h0
-- the walk of Ta_nextSign
set_option maxRecDepth 100000 in
def B_Ta_nextSign_62 (Γ : GAM) (K0 : Nat → GH → Prop) (K : Int32 → GH → Prop) (s0 : Int32) (g : GH) : Prop :=
  K s0 g
set_option maxHeartbeats 4000000 in
set_option maxRecDepth 100000 in
theorem S_Ta_nextSign_62 {Γ : GAM} {E : EV} {K : Int32 → GH → Prop} (hE : GE Γ E cX6_nextSign 1 RX6 (some (.int)) 0 0 (fun r g' => ∃ x, r = some (.int x) ∧ K x g')) {K0 : Nat → GH → Prop} (hK0 : ∀ (l0 : Nat) (g : GH), K0 l0 g → JW Γ E 0 [some (.ref l0)] [] g) (s0 : Int32) (g : GH) (h : B_Ta_nextSign_62 Γ K0 K s0 g) : JW Γ E 62 [none] [.int s0] g := by
  unfold B_Ta_nextSign_62 at h
  exact j_iret hE (by decide +kernel : decode cX6_nextSign 62 = .ok (.ireturn, 1)) ⟨_, rfl, h⟩
set_option maxRecDepth 100000 in
def B_Ta_nextSign_38 (Γ : GAM) (K0 : Nat → GH → Prop) (K : Int32 → GH → Prop) (l0 : Nat) (g : GH) : Prop :=
  Kd g l0 = 8 ∧ Kd g l0 = 8 ∧ (((Gi g 897 l0) ≤ (Gi g 903 l0) → B_Ta_nextSign_62 Γ K0 K (0 : Int32) g) ∧ (¬ ((Gi g 897 l0) ≤ (Gi g 903 l0)) → Kd g l0 = 8 ∧ ∃ a1 : Nat, Gr g 896 l0 = some a1 ∧ Kd g l0 = 8 ∧ Kd g a1 = 20 ∧ inB (Gi g 903 l0) (Ln g a1) ∧ B_Ta_nextSign_62 Γ K0 K (Ia g (Co g a1) (Ow g a1) (Gi g 903 l0).toNatClampNeg) g))
set_option maxHeartbeats 4000000 in
set_option maxRecDepth 100000 in
theorem S_Ta_nextSign_38 {Γ : GAM} {E : EV} {K : Int32 → GH → Prop} (hE : GE Γ E cX6_nextSign 1 RX6 (some (.int)) 0 0 (fun r g' => ∃ x, r = some (.int x) ∧ K x g')) {K0 : Nat → GH → Prop} (hK0 : ∀ (l0 : Nat) (g : GH), K0 l0 g → JW Γ E 0 [some (.ref l0)] [] g) (l0 : Nat) (g : GH) (h : B_Ta_nextSign_38 Γ K0 K l0 g) : JW Γ E 38 [some (.ref l0)] [] g := by
  unfold B_Ta_nextSign_38 at h
  refine j_aload_n hE (by decide +kernel : decode cX6_nextSign 38 = .ok (.aload_n 0, 1)) rfl rfl ?_
  obtain ⟨hk, h⟩ := h
  refine j_getI hE fg_X6_28 hk (by decide +kernel : decode cX6_nextSign 39 = .ok (.getfield 28, 3)) ?_
  refine j_aload_n hE (by decide +kernel : decode cX6_nextSign 42 = .ok (.aload_n 0, 1)) rfl rfl ?_
  obtain ⟨hk, h⟩ := h
  refine j_getI hE fg_X6_24 hk (by decide +kernel : decode cX6_nextSign 43 = .ok (.getfield 24, 3)) ?_
  refine j_icmp_ge hE (by decide +kernel : decode cX6_nextSign 46 = .ok (.if_icmp .ge 15, 3)) (tgt := 61) (by decide) (fun q => ?_) (fun q => ?_)
  · have h := h.1 q
    refine j_iconst hE (by decide +kernel : decode cX6_nextSign 61 = .ok (.iconst 0, 1)) (v := (0 : Int32)) (by decide) ?_
    refine j_weak [none] trivial ?_
    exact S_Ta_nextSign_62 hE hK0 _ _ h
  · have h := h.2 q
    refine j_aload_n hE (by decide +kernel : decode cX6_nextSign 49 = .ok (.aload_n 0, 1)) rfl rfl ?_
    obtain ⟨hk, h⟩ := h
    obtain ⟨a1, ha, h⟩ := h
    refine j_getRn hE fg_X6_9 hk ha (by decide +kernel : decode cX6_nextSign 50 = .ok (.getfield 9, 3)) ?_
    refine j_aload_n hE (by decide +kernel : decode cX6_nextSign 53 = .ok (.aload_n 0, 1)) rfl rfl ?_
    obtain ⟨hk, h⟩ := h
    refine j_getI hE fg_X6_28 hk (by decide +kernel : decode cX6_nextSign 54 = .ok (.getfield 28, 3)) ?_
    obtain ⟨hk, hb, h⟩ := h
    refine j_iald hE hk hb (by decide +kernel : decode cX6_nextSign 57 = .ok (.iaload, 1)) ?_
    refine j_goto hE (by decide +kernel : decode cX6_nextSign 58 = .ok (.goto 4, 3)) (tgt := 62) (by decide) ?_
    refine j_weak [none] trivial ?_
    exact S_Ta_nextSign_62 hE hK0 _ _ h
set_option maxRecDepth 100000 in
def B_Ta_nextSign_0 (Γ : GAM) (K0 : Nat → GH → Prop) (K : Int32 → GH → Prop) (l0 : Nat) (g : GH) : Prop :=
  Kd g l0 = 8 ∧ Kd g l0 = 8 ∧ (((Gi g 897 l0) ≤ (Gi g 903 l0) → B_Ta_nextSign_38 Γ K0 K l0 g) ∧ (¬ ((Gi g 897 l0) ≤ (Gi g 903 l0)) → Kd g l0 = 8 ∧ ∃ a1 : Nat, Gr g 896 l0 = some a1 ∧ Kd g l0 = 8 ∧ Kd g a1 = 20 ∧ inB (Gi g 903 l0) (Ln g a1) ∧ ((¬ ((Ia g (Co g a1) (Ow g a1) (Gi g 903 l0).toNatClampNeg) = (32 : Int32)) → B_Ta_nextSign_38 Γ K0 K l0 g) ∧ ((Ia g (Co g a1) (Ow g a1) (Gi g 903 l0).toNatClampNeg) = (32 : Int32) → Kd g l0 = 8 ∧ Kd g l0 = 8 ∧ ∀ g2 : GH, g2 = sI g 903 l0 ((Gi g 903 l0) + (1 : Int32)) → K0 l0 g2))))
set_option maxHeartbeats 4000000 in
set_option maxRecDepth 100000 in
theorem S_Ta_nextSign_0 {Γ : GAM} {E : EV} {K : Int32 → GH → Prop} (hE : GE Γ E cX6_nextSign 1 RX6 (some (.int)) 0 0 (fun r g' => ∃ x, r = some (.int x) ∧ K x g')) {K0 : Nat → GH → Prop} (hK0 : ∀ (l0 : Nat) (g : GH), K0 l0 g → JW Γ E 0 [some (.ref l0)] [] g) (l0 : Nat) (g : GH) (h : B_Ta_nextSign_0 Γ K0 K l0 g) : JW Γ E 0 [some (.ref l0)] [] g := by
  unfold B_Ta_nextSign_0 at h
  refine j_aload_n hE (by decide +kernel : decode cX6_nextSign 0 = .ok (.aload_n 0, 1)) rfl rfl ?_
  obtain ⟨hk, h⟩ := h
  refine j_getI hE fg_X6_28 hk (by decide +kernel : decode cX6_nextSign 1 = .ok (.getfield 28, 3)) ?_
  refine j_aload_n hE (by decide +kernel : decode cX6_nextSign 4 = .ok (.aload_n 0, 1)) rfl rfl ?_
  obtain ⟨hk, h⟩ := h
  refine j_getI hE fg_X6_24 hk (by decide +kernel : decode cX6_nextSign 5 = .ok (.getfield 24, 3)) ?_
  refine j_icmp_ge hE (by decide +kernel : decode cX6_nextSign 8 = .ok (.if_icmp .ge 30, 3)) (tgt := 38) (by decide) (fun q => ?_) (fun q => ?_)
  · have h := h.1 q
    exact S_Ta_nextSign_38 hE hK0 _ _ h
  · have h := h.2 q
    refine j_aload_n hE (by decide +kernel : decode cX6_nextSign 11 = .ok (.aload_n 0, 1)) rfl rfl ?_
    obtain ⟨hk, h⟩ := h
    obtain ⟨a1, ha, h⟩ := h
    refine j_getRn hE fg_X6_9 hk ha (by decide +kernel : decode cX6_nextSign 12 = .ok (.getfield 9, 3)) ?_
    refine j_aload_n hE (by decide +kernel : decode cX6_nextSign 15 = .ok (.aload_n 0, 1)) rfl rfl ?_
    obtain ⟨hk, h⟩ := h
    refine j_getI hE fg_X6_28 hk (by decide +kernel : decode cX6_nextSign 16 = .ok (.getfield 28, 3)) ?_
    obtain ⟨hk, hb, h⟩ := h
    refine j_iald hE hk hb (by decide +kernel : decode cX6_nextSign 19 = .ok (.iaload, 1)) ?_
    refine j_bipush hE (by decide +kernel : decode cX6_nextSign 20 = .ok (.bipush 32, 2)) (v := (32 : Int32)) (by decide) ?_
    refine j_icmp_ne hE (by decide +kernel : decode cX6_nextSign 22 = .ok (.if_icmp .ne 16, 3)) (tgt := 38) (by decide) (fun q => ?_) (fun q => ?_)
    · have h := h.1 q
      exact S_Ta_nextSign_38 hE hK0 _ _ h
    · have h := h.2 q
      refine j_aload_n hE (by decide +kernel : decode cX6_nextSign 25 = .ok (.aload_n 0, 1)) rfl rfl ?_
      refine j_dup hE (by decide +kernel : decode cX6_nextSign 26 = .ok (.dup, 1)) rfl ?_
      obtain ⟨hk, h⟩ := h
      refine j_getI hE fg_X6_28 hk (by decide +kernel : decode cX6_nextSign 27 = .ok (.getfield 28, 3)) ?_
      refine j_iconst hE (by decide +kernel : decode cX6_nextSign 30 = .ok (.iconst 1, 1)) (v := (1 : Int32)) (by decide) ?_
      refine j_iadd hE (by decide +kernel : decode cX6_nextSign 31 = .ok (.iadd, 1)) ?_
      obtain ⟨hk, h⟩ := h
      obtain ⟨g2, hg⟩ : ∃ z, z = sI g 903 l0 ((Gi g 903 l0) + (1 : Int32)) := ⟨_, rfl⟩; have h := h g2 hg
      refine j_putI hE fa_X6_28 hk (fun q => by cases q) (by decide +kernel : decode cX6_nextSign 32 = .ok (.putfield 28, 3)) ?_
      rw [← hg]
      refine j_goto hE (by decide +kernel : decode cX6_nextSign 35 = .ok (.goto (-35), 3)) (tgt := 0) (by decide) ?_
      exact hK0 _ _ h
set_option maxHeartbeats 4000000 in
set_option maxRecDepth 100000 in
theorem rl_Ta_nextSign {Γ : GAM} {l : Launch} {th : Nat} {g : GH} {K : Int32 → GH → Prop} (I0 : Nat → Nat → GH → Prop) (hh0 : ∀ n (l0 : Nat) (g : GH), I0 n l0 g → B_Ta_nextSign_0 Γ (fun l0 g => ∃ m, m < n ∧ I0 m l0 g) K l0 g) (h0 : ∃ m, I0 m th g) : MetA Γ l yX6_nextSign cX6_nextSign 1 (some (.int)) 0 0 [.ref th] g (fun r g' => ∃ x, r = some (.int x) ∧ K x g') := by
  refine MetA.introL (Lx := [some (.ref th)]) (by decide) (Nat.le_of_ble_eq_true rfl) rfl rfl ?_
  intro E hEl hE hnm
  have hall : ∀ n, (∀ (l0 : Nat) (g : GH), I0 n l0 g → JW Γ E 0 [some (.ref l0)] [] g) := by
    intro n
    induction n using Nat.strongRecOn with
    | ind n ih =>
      exact fun l0 g hi => S_Ta_nextSign_0 hE (fun l0 g hm => by obtain ⟨m, hm, h⟩ := hm; exact (ih m hm) l0 g h) l0 g (hh0 n l0 g hi)
  obtain ⟨m0, h0⟩ := h0
  exact (hall m0) th g h0
-- the walk of Ta_takes
set_option maxRecDepth 100000 in
def B_Ta_takes_28 (Γ : GAM) (K : Int32 → GH → Prop) (l2 : Int32) (s0 : Int32) (s1 : Int32) (s2 : Nat) (g : GH) : Prop :=
  Kd g s2 = 8 ∧ ∀ g1 : GH, g1 = sI g 903 s2 (s1 + s0) → ((l2 = 0 ∨ l2 = 1) ∧ K l2 g1)
set_option maxHeartbeats 4000000 in
set_option maxRecDepth 100000 in
theorem S_Ta_takes_28 {Γ : GAM} {E : EV} {K : Int32 → GH → Prop} (hE : GE Γ E cX6_takes 3 RX6 (some (.boolean)) 1 20 (fun r g' => ∃ x, r = some (.int x) ∧ K x g')) (l2 : Int32) (s0 : Int32) (s1 : Int32) (s2 : Nat) (g : GH) (h : B_Ta_takes_28 Γ K l2 s0 s1 s2 g) : JW Γ E 28 [none, none, some (.int l2)] [.int s0, .int s1, .ref s2] g := by
  unfold B_Ta_takes_28 at h
  refine j_iadd hE (by decide +kernel : decode cX6_takes 28 = .ok (.iadd, 1)) ?_
  obtain ⟨hk, h⟩ := h
  obtain ⟨g1, hg⟩ : ∃ z, z = sI g 903 s2 (s1 + s0) := ⟨_, rfl⟩; have h := h g1 hg
  refine j_putI hE fa_X6_28 hk (fun q => by cases q) (by decide +kernel : decode cX6_takes 29 = .ok (.putfield 28, 3)) ?_
  rw [← hg]
  refine j_iload_n hE (by decide +kernel : decode cX6_takes 32 = .ok (.iload_n 2, 1)) rfl rfl ?_
  exact j_zret hE h.1 (by decide +kernel : decode cX6_takes 33 = .ok (.ireturn, 1)) ⟨_, rfl, h.2⟩
set_option maxRecDepth 100000 in
def B_Ta_takes_13 (Γ : GAM) (K : Int32 → GH → Prop) (l0 : Nat) (s0 : Int32) (g : GH) : Prop :=
  Kd g l0 = 8 ∧ ((s0 = 0 → B_Ta_takes_28 Γ K s0 (0 : Int32) (Gi g 903 l0) l0 g) ∧ (¬ (s0 = 0) → B_Ta_takes_28 Γ K s0 (1 : Int32) (Gi g 903 l0) l0 g))
set_option maxHeartbeats 4000000 in
set_option maxRecDepth 100000 in
theorem S_Ta_takes_13 {Γ : GAM} {E : EV} {K : Int32 → GH → Prop} (hE : GE Γ E cX6_takes 3 RX6 (some (.boolean)) 1 20 (fun r g' => ∃ x, r = some (.int x) ∧ K x g')) (l0 : Nat) (s0 : Int32) (g : GH) (h : B_Ta_takes_13 Γ K l0 s0 g) : JW Γ E 13 [some (.ref l0), none, none] [.int s0] g := by
  unfold B_Ta_takes_13 at h
  refine j_istore_n hE (by decide +kernel : decode cX6_takes 13 = .ok (.istore_n 2, 1)) rfl (Nat.le_of_ble_eq_true rfl) rfl ?_
  refine j_aload_n hE (by decide +kernel : decode cX6_takes 14 = .ok (.aload_n 0, 1)) rfl rfl ?_
  refine j_dup hE (by decide +kernel : decode cX6_takes 15 = .ok (.dup, 1)) rfl ?_
  obtain ⟨hk, h⟩ := h
  refine j_getI hE fg_X6_28 hk (by decide +kernel : decode cX6_takes 16 = .ok (.getfield 28, 3)) ?_
  refine j_iload_n hE (by decide +kernel : decode cX6_takes 19 = .ok (.iload_n 2, 1)) rfl rfl ?_
  refine j_if_eq hE (by decide +kernel : decode cX6_takes 20 = .ok (.ifCond .eq 7, 3)) (tgt := 27) (by decide) (fun q => ?_) (fun q => ?_)
  · have h := h.1 q
    refine j_iconst hE (by decide +kernel : decode cX6_takes 27 = .ok (.iconst 0, 1)) (v := (0 : Int32)) (by decide) ?_
    refine j_weak [none, none, some (.int s0)] ⟨rfl, trivial⟩ ?_
    exact S_Ta_takes_28 hE _ _ _ _ _ h
  · have h := h.2 q
    refine j_iconst hE (by decide +kernel : decode cX6_takes 23 = .ok (.iconst 1, 1)) (v := (1 : Int32)) (by decide) ?_
    refine j_goto hE (by decide +kernel : decode cX6_takes 24 = .ok (.goto 4, 3)) (tgt := 28) (by decide) ?_
    refine j_weak [none, none, some (.int s0)] ⟨rfl, trivial⟩ ?_
    exact S_Ta_takes_28 hE _ _ _ _ _ h
set_option maxRecDepth 100000 in
def B_Ta_takes_0 (Γ : GAM) (K : Int32 → GH → Prop) (th : Nat) (p0 : Int32) (g : GH) : Prop :=
  Kd g th = 8 ∧ Sp_Ta_nextSign Γ th g (fun (x2 : Int32) (g1 : GH) => ((¬ (x2 = p0) → B_Ta_takes_13 Γ K th (0 : Int32) g1) ∧ (x2 = p0 → B_Ta_takes_13 Γ K th (1 : Int32) g1)))
set_option maxHeartbeats 4000000 in
set_option maxRecDepth 100000 in
theorem S_Ta_takes_0 {Γ : GAM} {E : EV} {K : Int32 → GH → Prop} (hE : GE Γ E cX6_takes 3 RX6 (some (.boolean)) 1 20 (fun r g' => ∃ x, r = some (.int x) ∧ K x g')) (th : Nat) (p0 : Int32) (g : GH) (h : B_Ta_takes_0 Γ K th p0 g) : JW Γ E 0 [some (.ref th), some (.int p0), none] [] g := by
  unfold B_Ta_takes_0 at h
  refine j_aload_n hE (by decide +kernel : decode cX6_takes 0 = .ok (.aload_n 0, 1)) rfl rfl ?_
  obtain ⟨hk, h⟩ := h
  refine j_callV hE rfl cl_X6_45 cf_7 im_X6_nextSign se_X6_nextSign ⟨by omega, by omega⟩ (As := []) (rest := []) rfl rfl (Nat.le_of_ble_eq_true rfl) hk (by decide +kernel : decode cX6_takes 1 = .ok (.invokevirtual 45, 3)) (mt_Ta_nextSign _ _ _ h) ?_
  rintro _ g1 ⟨x2, rfl, h⟩
  refine j_iload_n hE (by decide +kernel : decode cX6_takes 4 = .ok (.iload_n 1, 1)) rfl rfl ?_
  refine j_icmp_ne hE (by decide +kernel : decode cX6_takes 5 = .ok (.if_icmp .ne 7, 3)) (tgt := 12) (by decide) (fun q => ?_) (fun q => ?_)
  · have h := h.1 q
    refine j_iconst hE (by decide +kernel : decode cX6_takes 12 = .ok (.iconst 0, 1)) (v := (0 : Int32)) (by decide) ?_
    refine j_weak [some (.ref th), none, none] ⟨rfl, trivial⟩ ?_
    exact S_Ta_takes_13 hE _ _ _ h
  · have h := h.2 q
    refine j_iconst hE (by decide +kernel : decode cX6_takes 8 = .ok (.iconst 1, 1)) (v := (1 : Int32)) (by decide) ?_
    refine j_goto hE (by decide +kernel : decode cX6_takes 9 = .ok (.goto 4, 3)) (tgt := 13) (by decide) ?_
    refine j_weak [some (.ref th), none, none] ⟨rfl, trivial⟩ ?_
    exact S_Ta_takes_13 hE _ _ _ h
set_option maxHeartbeats 4000000 in
set_option maxRecDepth 100000 in
theorem rl_Ta_takes {Γ : GAM} {l : Launch} {th : Nat} {p0 : Int32} {g : GH} {K : Int32 → GH → Prop} (h0 : B_Ta_takes_0 Γ K th p0 g) : MetA Γ l yX6_takes cX6_takes 3 (some (.boolean)) 1 20 [.ref th, .int p0] g (fun r g' => ∃ x, r = some (.int x) ∧ K x g') := by
  refine MetA.introL (Lx := [some (.ref th), some (.int p0), none]) (by decide) (Nat.le_of_ble_eq_true rfl) rfl rfl ?_
  intro E hEl hE hnm
  exact S_Ta_takes_0 hE th p0 g h0
-- the walk of Ta_write
set_option maxRecDepth 100000 in
def B_Ta_write_32 (Γ : GAM) (K : GH → Prop)  (g : GH) : Prop :=
  K g
set_option maxHeartbeats 4000000 in
set_option maxRecDepth 100000 in
theorem S_Ta_write_32 {Γ : GAM} {E : EV} {K : GH → Prop} (hE : GE Γ E cX6_write 2 RX6 none 0 0 (fun r g' => r = none ∧ K g'))  (g : GH) (h : B_Ta_write_32 Γ K  g) : JW Γ E 32 [none, none] [] g := by
  unfold B_Ta_write_32 at h
  exact j_vret hE (by decide +kernel : decode cX6_write 32 = .ok (.return_, 1)) ⟨rfl, h⟩
set_option maxRecDepth 100000 in
def B_Ta_write_0 (Γ : GAM) (K : GH → Prop) (th : Nat) (p0 : Int32) (g : GH) : Prop :=
  Kd g th = 8 ∧ Kd g th = 8 ∧ ∃ a1 : Nat, Gr g 898 th = some a1 ∧ (20 ≤ Kd g a1 ∧ Kd g a1 < 24) ∧ (((Int32.ofNat (Ln g a1)) ≤ (Gi g 899 th) → B_Ta_write_32 Γ K g) ∧ (¬ ((Int32.ofNat (Ln g a1)) ≤ (Gi g 899 th)) → Kd g th = 8 ∧ ∃ a2 : Nat, Gr g 898 th = some a2 ∧ Kd g th = 8 ∧ Kd g a2 = 20 ∧ inB (Gi g 899 th) (Ln g a2) ∧ ∀ g3 : GH, g3 = sA g (Co g a2) (Ow g a2) (Gi g 899 th).toNatClampNeg p0 → Kd g3 th = 8 ∧ Kd g3 th = 8 ∧ ∀ g4 : GH, g4 = sI g3 899 th ((Gi g3 899 th) + (1 : Int32)) → B_Ta_write_32 Γ K g4))
set_option maxHeartbeats 4000000 in
set_option maxRecDepth 100000 in
theorem S_Ta_write_0 {Γ : GAM} {E : EV} {K : GH → Prop} (hE : GE Γ E cX6_write 2 RX6 none 0 0 (fun r g' => r = none ∧ K g')) (th : Nat) (p0 : Int32) (g : GH) (h : B_Ta_write_0 Γ K th p0 g) : JW Γ E 0 [some (.ref th), some (.int p0)] [] g := by
  unfold B_Ta_write_0 at h
  refine j_aload_n hE (by decide +kernel : decode cX6_write 0 = .ok (.aload_n 0, 1)) rfl rfl ?_
  obtain ⟨hk, h⟩ := h
  refine j_getI hE fg_X6_31 hk (by decide +kernel : decode cX6_write 1 = .ok (.getfield 31, 3)) ?_
  refine j_aload_n hE (by decide +kernel : decode cX6_write 4 = .ok (.aload_n 0, 1)) rfl rfl ?_
  obtain ⟨hk, h⟩ := h
  obtain ⟨a1, ha, h⟩ := h
  refine j_getRn hE fg_X6_15 hk ha (by decide +kernel : decode cX6_write 5 = .ok (.getfield 15, 3)) ?_
  obtain ⟨hk, h⟩ := h
  refine j_alen hE hk (by decide +kernel : decode cX6_write 8 = .ok (.arraylength, 1)) ?_
  refine j_icmp_ge hE (by decide +kernel : decode cX6_write 9 = .ok (.if_icmp .ge 23, 3)) (tgt := 32) (by decide) (fun q => ?_) (fun q => ?_)
  · have h := h.1 q
    refine j_weak [none, none] trivial ?_
    exact S_Ta_write_32 hE _ h
  · have h := h.2 q
    refine j_aload_n hE (by decide +kernel : decode cX6_write 12 = .ok (.aload_n 0, 1)) rfl rfl ?_
    obtain ⟨hk, h⟩ := h
    obtain ⟨a2, ha, h⟩ := h
    refine j_getRn hE fg_X6_15 hk ha (by decide +kernel : decode cX6_write 13 = .ok (.getfield 15, 3)) ?_
    refine j_aload_n hE (by decide +kernel : decode cX6_write 16 = .ok (.aload_n 0, 1)) rfl rfl ?_
    obtain ⟨hk, h⟩ := h
    refine j_getI hE fg_X6_31 hk (by decide +kernel : decode cX6_write 17 = .ok (.getfield 31, 3)) ?_
    refine j_iload_n hE (by decide +kernel : decode cX6_write 20 = .ok (.iload_n 1, 1)) rfl rfl ?_
    obtain ⟨hk, hb, h⟩ := h
    obtain ⟨g3, hg⟩ : ∃ z, z = sA g (Co g a2) (Ow g a2) (Gi g 899 th).toNatClampNeg p0 := ⟨_, rfl⟩; have h := h g3 hg
    refine j_iast hE hk hb (by decide +kernel : decode cX6_write 21 = .ok (.iastore, 1)) ?_
    rw [← hg]
    refine j_aload_n hE (by decide +kernel : decode cX6_write 22 = .ok (.aload_n 0, 1)) rfl rfl ?_
    refine j_dup hE (by decide +kernel : decode cX6_write 23 = .ok (.dup, 1)) rfl ?_
    obtain ⟨hk, h⟩ := h
    refine j_getI hE fg_X6_31 hk (by decide +kernel : decode cX6_write 24 = .ok (.getfield 31, 3)) ?_
    refine j_iconst hE (by decide +kernel : decode cX6_write 27 = .ok (.iconst 1, 1)) (v := (1 : Int32)) (by decide) ?_
    refine j_iadd hE (by decide +kernel : decode cX6_write 28 = .ok (.iadd, 1)) ?_
    obtain ⟨hk, h⟩ := h
    obtain ⟨g4, hg⟩ : ∃ z, z = sI g3 899 th ((Gi g3 899 th) + (1 : Int32)) := ⟨_, rfl⟩; have h := h g4 hg
    refine j_putI hE fa_X6_31 hk (fun q => by cases q) (by decide +kernel : decode cX6_write 29 = .ok (.putfield 31, 3)) ?_
    rw [← hg]
    refine j_weak [none, none] trivial ?_
    exact S_Ta_write_32 hE _ h
set_option maxHeartbeats 4000000 in
set_option maxRecDepth 100000 in
theorem rl_Ta_write {Γ : GAM} {l : Launch} {th : Nat} {p0 : Int32} {g : GH} {K : GH → Prop} (h0 : B_Ta_write_0 Γ K th p0 g) : MetA Γ l yX6_write cX6_write 2 none 0 0 [.ref th, .int p0] g (fun r g' => r = none ∧ K g') := by
  refine MetA.introL (Lx := [some (.ref th), some (.int p0)]) (by decide) (Nat.le_of_ble_eq_true rfl) rfl rfl ?_
  intro E hEl hE hnm
  exact S_Ta_write_0 hE th p0 g h0
-- the walk of To_init
set_option maxRecDepth 100000 in
def B_To_init_0 (Γ : GAM) (K : GH → Prop) (th : Nat) (p0 : Int32) (p1 : Int32) (p2 : Int32) (p3 : Int32) (g : GH) : Prop :=
  Kd g th = 9 ∧ ∀ g1 : GH, g1 = sI g 1024 th p0 → Kd g1 th = 9 ∧ ∀ g2 : GH, g2 = sI g1 1025 th p1 → Kd g2 th = 9 ∧ ∀ g3 : GH, g3 = sI g2 1026 th p2 → Kd g3 th = 9 ∧ ∀ g4 : GH, g4 = sI g3 1027 th p3 → K g4
set_option maxHeartbeats 4000000 in
set_option maxRecDepth 100000 in
theorem S_To_init_0 {Γ : GAM} {E : EV} {K : GH → Prop} (hE : GE Γ E cX7_init 5 RX7 none 1 20 (fun r g' => r = none ∧ K g')) (hnm : E.2.2.2.2.2.2.2.2.1.name = "<init>") (th : Nat) (p0 : Int32) (p1 : Int32) (p2 : Int32) (p3 : Int32) (g : GH) (h : B_To_init_0 Γ K th p0 p1 p2 p3 g) : JW Γ E 0 [some (.ref th), some (.int p0), some (.int p1), some (.int p2), some (.int p3)] [] g := by
  unfold B_To_init_0 at h
  refine j_aload_n hE (by decide +kernel : decode cX7_init 0 = .ok (.aload_n 0, 1)) rfl rfl ?_
  refine j_objInit hE rfl ol_X7 oi_in oi_code (Nat.le_of_ble_eq_true rfl) (by omega) (by omega) (by decide +kernel : decode cX7_init 1 = .ok (.invokespecial 1, 3)) ?_
  refine j_aload_n hE (by decide +kernel : decode cX7_init 4 = .ok (.aload_n 0, 1)) rfl rfl ?_
  refine j_iload_n hE (by decide +kernel : decode cX7_init 5 = .ok (.iload_n 1, 1)) rfl rfl ?_
  obtain ⟨hk, h⟩ := h
  obtain ⟨g1, hg⟩ : ∃ z, z = sI g 1024 th p0 := ⟨_, rfl⟩; have h := h g1 hg
  refine j_putI hE fa_X7_7 hk (fun _ => hnm) (by decide +kernel : decode cX7_init 6 = .ok (.putfield 7, 3)) ?_
  rw [← hg]
  refine j_aload_n hE (by decide +kernel : decode cX7_init 9 = .ok (.aload_n 0, 1)) rfl rfl ?_
  refine j_iload_n hE (by decide +kernel : decode cX7_init 10 = .ok (.iload_n 2, 1)) rfl rfl ?_
  obtain ⟨hk, h⟩ := h
  obtain ⟨g2, hg⟩ : ∃ z, z = sI g1 1025 th p1 := ⟨_, rfl⟩; have h := h g2 hg
  refine j_putI hE fa_X7_13 hk (fun _ => hnm) (by decide +kernel : decode cX7_init 11 = .ok (.putfield 13, 3)) ?_
  rw [← hg]
  refine j_aload_n hE (by decide +kernel : decode cX7_init 14 = .ok (.aload_n 0, 1)) rfl rfl ?_
  refine j_iload_n hE (by decide +kernel : decode cX7_init 15 = .ok (.iload_n 3, 1)) rfl rfl ?_
  obtain ⟨hk, h⟩ := h
  obtain ⟨g3, hg⟩ : ∃ z, z = sI g2 1026 th p2 := ⟨_, rfl⟩; have h := h g3 hg
  refine j_putI hE fa_X7_16 hk (fun _ => hnm) (by decide +kernel : decode cX7_init 16 = .ok (.putfield 16, 3)) ?_
  rw [← hg]
  refine j_aload_n hE (by decide +kernel : decode cX7_init 19 = .ok (.aload_n 0, 1)) rfl rfl ?_
  refine j_iload hE (by decide +kernel : decode cX7_init 20 = .ok (.iload 4, 2)) rfl ?_
  obtain ⟨hk, h⟩ := h
  obtain ⟨g4, hg⟩ : ∃ z, z = sI g3 1027 th p3 := ⟨_, rfl⟩; have h := h g4 hg
  refine j_putI hE fa_X7_19 hk (fun _ => hnm) (by decide +kernel : decode cX7_init 22 = .ok (.putfield 19, 3)) ?_
  rw [← hg]
  exact j_vret hE (by decide +kernel : decode cX7_init 25 = .ok (.return_, 1)) ⟨rfl, h⟩
set_option maxHeartbeats 4000000 in
set_option maxRecDepth 100000 in
theorem rl_To_init {Γ : GAM} {l : Launch} {th : Nat} {p0 : Int32} {p1 : Int32} {p2 : Int32} {p3 : Int32} {g : GH} {K : GH → Prop} (h0 : B_To_init_0 Γ K th p0 p1 p2 p3 g) : MetA Γ l yX7_init cX7_init 5 none 1 20 [.ref th, .int p0, .int p1, .int p2, .int p3] g (fun r g' => r = none ∧ K g') := by
  refine MetA.introL (Lx := [some (.ref th), some (.int p0), some (.int p1), some (.int p2), some (.int p3)]) (by decide) (Nat.le_of_ble_eq_true rfl) rfl rfl ?_
  intro E hEl hE hnm
  exact S_To_init_0 hE hnm th p0 p1 p2 p3 g h0
-- the walk of Vn_init
set_option maxRecDepth 100000 in
def B_Vn_init_0 (Γ : GAM) (K : GH → Prop) (th : Nat) (g : GH) : Prop :=
  th < Hn g ∧ free g 1152 th ∧ Hn g + 1 ≤ gB Γ + NCC ∧ Hu g + 8 ≤ NSS ∧ ∀ (a1 : Nat) (g2 : GH), a1 = Hn g → g2 = nA g 20 1152 th (8) → Kd g2 th = 10 ∧ ∀ g3 : GH, g3 = sR g2 1152 th (some a1) → th < Hn g3 ∧ free g3 1153 th ∧ Hn g3 + 1 ≤ gB Γ + NCC ∧ Hu g3 + 8 ≤ NSS ∧ ∀ (a4 : Nat) (g5 : GH), a4 = Hn g3 → g5 = nA g3 20 1153 th (8) → Kd g5 th = 10 ∧ ∀ g6 : GH, g6 = sR g5 1153 th (some a4) → th < Hn g6 ∧ free g6 1154 th ∧ Hn g6 + 1 ≤ gB Γ + NCC ∧ Hu g6 + 81 ≤ NSS ∧ ∀ (a7 : Nat) (g8 : GH), a7 = Hn g6 → g8 = nA g6 20 1154 th (81) → Kd g8 th = 10 ∧ ∀ g9 : GH, g9 = sR g8 1154 th (some a7) → th < Hn g9 ∧ free g9 1155 th ∧ Hn g9 + 1 ≤ gB Γ + NCC ∧ Hu g9 + 2048 ≤ NSS ∧ ∀ (a10 : Nat) (g11 : GH), a10 = Hn g9 → g11 = nA g9 20 1155 th (2048) → Kd g11 th = 10 ∧ ∀ g12 : GH, g12 = sR g11 1155 th (some a10) → th < Hn g12 ∧ free g12 1156 th ∧ Hn g12 + 1 ≤ gB Γ + NCC ∧ Hu g12 + 8 ≤ NSS ∧ ∀ (a13 : Nat) (g14 : GH), a13 = Hn g12 → g14 = nA g12 20 1156 th (8) → Kd g14 th = 10 ∧ ∀ g15 : GH, g15 = sR g14 1156 th (some a13) → th < Hn g15 ∧ free g15 1157 th ∧ Hn g15 + 1 ≤ gB Γ + NCC ∧ Hu g15 + 8 ≤ NSS ∧ ∀ (a16 : Nat) (g17 : GH), a16 = Hn g15 → g17 = nA g15 20 1157 th (8) → Kd g17 th = 10 ∧ ∀ g18 : GH, g18 = sR g17 1157 th (some a16) → Kd g18 th = 10 ∧ ∀ g19 : GH, g19 = sI g18 1158 th (5 : Int32) → Kd g19 th = 10 ∧ ∀ g20 : GH, g20 = sI g19 1161 th (-1 : Int32) → Kd g20 th = 10 ∧ ∀ g21 : GH, g21 = sI g20 1162 th (-1 : Int32) → Kd g21 th = 10 ∧ ∃ a22 : Nat, Gr g21 1154 th = some a22 ∧ Sp_Arrays_fill Γ a22 (30 : Int32) g21 (fun (g23 : GH) => K g23)
set_option maxHeartbeats 4000000 in
set_option maxRecDepth 100000 in
theorem S_Vn_init_0 {Γ : GAM} {E : EV} {K : GH → Prop} (hE : GE Γ E cX8_init 1 RX8 none 1 23 (fun r g' => r = none ∧ K g')) (hnm : E.2.2.2.2.2.2.2.2.1.name = "<init>") (th : Nat) (g : GH) (h : B_Vn_init_0 Γ K th g) : JW Γ E 0 [some (.ref th)] [] g := by
  unfold B_Vn_init_0 at h
  refine j_aload_n hE (by decide +kernel : decode cX8_init 0 = .ok (.aload_n 0, 1)) rfl rfl ?_
  refine j_objInit hE rfl ol_X8 oi_in oi_code (Nat.le_of_ble_eq_true rfl) (by omega) (by omega) (by decide +kernel : decode cX8_init 1 = .ok (.invokespecial 3, 3)) ?_
  refine j_aload_n hE (by decide +kernel : decode cX8_init 4 = .ok (.aload_n 0, 1)) rfl rfl ?_
  refine j_bipush hE (by decide +kernel : decode cX8_init 5 = .ok (.bipush 8, 2)) (v := (8 : Int32)) (by decide) ?_
  obtain ⟨ho1, hf1, hn1, hn2, h⟩ := h
  obtain ⟨a1, ha⟩ : ∃ z, z = Hn g := ⟨_, rfl⟩; obtain ⟨g2, hg⟩ : ∃ z, z = nA g 20 1152 th (8) := ⟨_, rfl⟩; have h := h a1 g2 ha hg
  refine j_newarray (k := 20) (co := 1152) (ow := th) (n := (8)) (atype := .int) hE ac_int (Or.inl ⟨rfl, rfl⟩) (by decide) (by decide) (by decide) ho1 hf1 (by decide +kernel : decode cX8_init 7 = .ok (.newarray .int, 2)) hn1 hn2 ?_
  rw [← hg, ← ha]
  obtain ⟨hk, h⟩ := h
  obtain ⟨g3, hg⟩ : ∃ z, z = sR g2 1152 th (some a1) := ⟨_, rfl⟩; have h := h g3 hg
  refine j_putR (v := (some a1)) hE fa_X8_9 hk (fun _ => hnm) (by decide +kernel : decode cX8_init 9 = .ok (.putfield 9, 3)) ?_
  rw [← hg]
  refine j_aload_n hE (by decide +kernel : decode cX8_init 12 = .ok (.aload_n 0, 1)) rfl rfl ?_
  refine j_bipush hE (by decide +kernel : decode cX8_init 13 = .ok (.bipush 8, 2)) (v := (8 : Int32)) (by decide) ?_
  obtain ⟨ho1, hf1, hn1, hn2, h⟩ := h
  obtain ⟨a4, ha⟩ : ∃ z, z = Hn g3 := ⟨_, rfl⟩; obtain ⟨g5, hg⟩ : ∃ z, z = nA g3 20 1153 th (8) := ⟨_, rfl⟩; have h := h a4 g5 ha hg
  refine j_newarray (k := 20) (co := 1153) (ow := th) (n := (8)) (atype := .int) hE ac_int (Or.inl ⟨rfl, rfl⟩) (by decide) (by decide) (by decide) ho1 hf1 (by decide +kernel : decode cX8_init 15 = .ok (.newarray .int, 2)) hn1 hn2 ?_
  rw [← hg, ← ha]
  obtain ⟨hk, h⟩ := h
  obtain ⟨g6, hg⟩ : ∃ z, z = sR g5 1153 th (some a4) := ⟨_, rfl⟩; have h := h g6 hg
  refine j_putR (v := (some a4)) hE fa_X8_15 hk (fun _ => hnm) (by decide +kernel : decode cX8_init 17 = .ok (.putfield 15, 3)) ?_
  rw [← hg]
  refine j_aload_n hE (by decide +kernel : decode cX8_init 20 = .ok (.aload_n 0, 1)) rfl rfl ?_
  refine j_bipush hE (by decide +kernel : decode cX8_init 21 = .ok (.bipush 81, 2)) (v := (81 : Int32)) (by decide) ?_
  obtain ⟨ho1, hf1, hn1, hn2, h⟩ := h
  obtain ⟨a7, ha⟩ : ∃ z, z = Hn g6 := ⟨_, rfl⟩; obtain ⟨g8, hg⟩ : ∃ z, z = nA g6 20 1154 th (81) := ⟨_, rfl⟩; have h := h a7 g8 ha hg
  refine j_newarray (k := 20) (co := 1154) (ow := th) (n := (81)) (atype := .int) hE ac_int (Or.inl ⟨rfl, rfl⟩) (by decide) (by decide) (by decide) ho1 hf1 (by decide +kernel : decode cX8_init 23 = .ok (.newarray .int, 2)) hn1 hn2 ?_
  rw [← hg, ← ha]
  obtain ⟨hk, h⟩ := h
  obtain ⟨g9, hg⟩ : ∃ z, z = sR g8 1154 th (some a7) := ⟨_, rfl⟩; have h := h g9 hg
  refine j_putR (v := (some a7)) hE fa_X8_18 hk (fun _ => hnm) (by decide +kernel : decode cX8_init 25 = .ok (.putfield 18, 3)) ?_
  rw [← hg]
  refine j_aload_n hE (by decide +kernel : decode cX8_init 28 = .ok (.aload_n 0, 1)) rfl rfl ?_
  refine j_sipush hE (by decide +kernel : decode cX8_init 29 = .ok (.sipush 2048, 3)) (v := (2048 : Int32)) (by decide) ?_
  obtain ⟨ho1, hf1, hn1, hn2, h⟩ := h
  obtain ⟨a10, ha⟩ : ∃ z, z = Hn g9 := ⟨_, rfl⟩; obtain ⟨g11, hg⟩ : ∃ z, z = nA g9 20 1155 th (2048) := ⟨_, rfl⟩; have h := h a10 g11 ha hg
  refine j_newarray (k := 20) (co := 1155) (ow := th) (n := (2048)) (atype := .int) hE ac_int (Or.inl ⟨rfl, rfl⟩) (by decide) (by decide) (by decide) ho1 hf1 (by decide +kernel : decode cX8_init 32 = .ok (.newarray .int, 2)) hn1 hn2 ?_
  rw [← hg, ← ha]
  obtain ⟨hk, h⟩ := h
  obtain ⟨g12, hg⟩ : ∃ z, z = sR g11 1155 th (some a10) := ⟨_, rfl⟩; have h := h g12 hg
  refine j_putR (v := (some a10)) hE fa_X8_21 hk (fun _ => hnm) (by decide +kernel : decode cX8_init 34 = .ok (.putfield 21, 3)) ?_
  rw [← hg]
  refine j_aload_n hE (by decide +kernel : decode cX8_init 37 = .ok (.aload_n 0, 1)) rfl rfl ?_
  refine j_bipush hE (by decide +kernel : decode cX8_init 38 = .ok (.bipush 8, 2)) (v := (8 : Int32)) (by decide) ?_
  obtain ⟨ho1, hf1, hn1, hn2, h⟩ := h
  obtain ⟨a13, ha⟩ : ∃ z, z = Hn g12 := ⟨_, rfl⟩; obtain ⟨g14, hg⟩ : ∃ z, z = nA g12 20 1156 th (8) := ⟨_, rfl⟩; have h := h a13 g14 ha hg
  refine j_newarray (k := 20) (co := 1156) (ow := th) (n := (8)) (atype := .int) hE ac_int (Or.inl ⟨rfl, rfl⟩) (by decide) (by decide) (by decide) ho1 hf1 (by decide +kernel : decode cX8_init 40 = .ok (.newarray .int, 2)) hn1 hn2 ?_
  rw [← hg, ← ha]
  obtain ⟨hk, h⟩ := h
  obtain ⟨g15, hg⟩ : ∃ z, z = sR g14 1156 th (some a13) := ⟨_, rfl⟩; have h := h g15 hg
  refine j_putR (v := (some a13)) hE fa_X8_24 hk (fun _ => hnm) (by decide +kernel : decode cX8_init 42 = .ok (.putfield 24, 3)) ?_
  rw [← hg]
  refine j_aload_n hE (by decide +kernel : decode cX8_init 45 = .ok (.aload_n 0, 1)) rfl rfl ?_
  refine j_bipush hE (by decide +kernel : decode cX8_init 46 = .ok (.bipush 8, 2)) (v := (8 : Int32)) (by decide) ?_
  obtain ⟨ho1, hf1, hn1, hn2, h⟩ := h
  obtain ⟨a16, ha⟩ : ∃ z, z = Hn g15 := ⟨_, rfl⟩; obtain ⟨g17, hg⟩ : ∃ z, z = nA g15 20 1157 th (8) := ⟨_, rfl⟩; have h := h a16 g17 ha hg
  refine j_newarray (k := 20) (co := 1157) (ow := th) (n := (8)) (atype := .int) hE ac_int (Or.inl ⟨rfl, rfl⟩) (by decide) (by decide) (by decide) ho1 hf1 (by decide +kernel : decode cX8_init 48 = .ok (.newarray .int, 2)) hn1 hn2 ?_
  rw [← hg, ← ha]
  obtain ⟨hk, h⟩ := h
  obtain ⟨g18, hg⟩ : ∃ z, z = sR g17 1157 th (some a16) := ⟨_, rfl⟩; have h := h g18 hg
  refine j_putR (v := (some a16)) hE fa_X8_27 hk (fun _ => hnm) (by decide +kernel : decode cX8_init 50 = .ok (.putfield 27, 3)) ?_
  rw [← hg]
  refine j_aload_n hE (by decide +kernel : decode cX8_init 53 = .ok (.aload_n 0, 1)) rfl rfl ?_
  refine j_iconst hE (by decide +kernel : decode cX8_init 54 = .ok (.iconst 5, 1)) (v := (5 : Int32)) (by decide) ?_
  obtain ⟨hk, h⟩ := h
  obtain ⟨g19, hg⟩ : ∃ z, z = sI g18 1158 th (5 : Int32) := ⟨_, rfl⟩; have h := h g19 hg
  refine j_putI hE fa_X8_30 hk (fun q => by cases q) (by decide +kernel : decode cX8_init 55 = .ok (.putfield 30, 3)) ?_
  rw [← hg]
  refine j_aload_n hE (by decide +kernel : decode cX8_init 58 = .ok (.aload_n 0, 1)) rfl rfl ?_
  refine j_iconst hE (by decide +kernel : decode cX8_init 59 = .ok (.iconst (-1), 1)) (v := (-1 : Int32)) (by decide) ?_
  obtain ⟨hk, h⟩ := h
  obtain ⟨g20, hg⟩ : ∃ z, z = sI g19 1161 th (-1 : Int32) := ⟨_, rfl⟩; have h := h g20 hg
  refine j_putI hE fa_X8_34 hk (fun q => by cases q) (by decide +kernel : decode cX8_init 60 = .ok (.putfield 34, 3)) ?_
  rw [← hg]
  refine j_aload_n hE (by decide +kernel : decode cX8_init 63 = .ok (.aload_n 0, 1)) rfl rfl ?_
  refine j_iconst hE (by decide +kernel : decode cX8_init 64 = .ok (.iconst (-1), 1)) (v := (-1 : Int32)) (by decide) ?_
  obtain ⟨hk, h⟩ := h
  obtain ⟨g21, hg⟩ : ∃ z, z = sI g20 1162 th (-1 : Int32) := ⟨_, rfl⟩; have h := h g21 hg
  refine j_putI hE fa_X8_37 hk (fun q => by cases q) (by decide +kernel : decode cX8_init 65 = .ok (.putfield 37, 3)) ?_
  rw [← hg]
  refine j_aload_n hE (by decide +kernel : decode cX8_init 68 = .ok (.aload_n 0, 1)) rfl rfl ?_
  obtain ⟨hk, h⟩ := h
  obtain ⟨a22, ha, h⟩ := h
  refine j_getRn hE fg_X8_18 hk ha (by decide +kernel : decode cX8_init 69 = .ok (.getfield 18, 3)) ?_
  refine j_bipush hE (by decide +kernel : decode cX8_init 72 = .ok (.bipush 30, 2)) (v := (30 : Int32)) (by decide) ?_
  refine j_callS hE rfl cl_X8_40 st_J7_fill_53178 ⟨by omega, by omega⟩ (As := [.ref a22, .int (30 : Int32)]) (rest := []) rfl rfl (Nat.le_of_ble_eq_true rfl) (by decide +kernel : decode cX8_init 74 = .ok (.invokestatic 40, 3)) (mt_Arrays_fill _ _ _ _ h) ?_
  rintro _ g23 ⟨rfl, h⟩
  exact j_vret hE (by decide +kernel : decode cX8_init 77 = .ok (.return_, 1)) ⟨rfl, h⟩
set_option maxHeartbeats 4000000 in
set_option maxRecDepth 100000 in
theorem rl_Vn_init {Γ : GAM} {l : Launch} {th : Nat} {g : GH} {K : GH → Prop} (h0 : B_Vn_init_0 Γ K th g) : MetA Γ l yX8_init cX8_init 1 none 1 23 [.ref th] g (fun r g' => r = none ∧ K g') := by
  refine MetA.introL (Lx := [some (.ref th)]) (by decide) (Nat.le_of_ble_eq_true rfl) rfl rfl ?_
  intro E hEl hE hnm
  exact S_Vn_init_0 hE hnm th g h0
def Sp_PV_isBox (Γ : GAM) (q0 : Int32) (g : GH) (K : Int32 → GH → Prop) : Prop := False
theorem mt_PV_isBox {Γ : GAM} {l : Launch} (q0 : Int32) (g : GH) (K : Int32 → GH → Prop) (h : Sp_PV_isBox Γ q0 g K) : MetA Γ l yX10_isBox cX10_isBox 1 (some (.boolean)) 0 0 [.int q0] g (fun r g' => ∃ x, r = some (.int x) ∧ K x g') := h.elim
-- the walk of Vn_setBox
set_option maxRecDepth 100000 in
def B_Vn_setBox_63 (Γ : GAM) (K : GH → Prop)  (g : GH) : Prop :=
  K g
set_option maxHeartbeats 4000000 in
set_option maxRecDepth 100000 in
theorem S_Vn_setBox_63 {Γ : GAM} {E : EV} {K : GH → Prop} (hE : GE Γ E cX8_setBox 4 RX8 none 1 20 (fun r g' => r = none ∧ K g'))  (g : GH) (h : B_Vn_setBox_63 Γ K  g) : JW Γ E 63 [none, none, none, none] [] g := by
  unfold B_Vn_setBox_63 at h
  exact j_vret hE (by decide +kernel : decode cX8_setBox 63 = .ok (.return_, 1)) ⟨rfl, h⟩
set_option maxRecDepth 100000 in
def B_Vn_setBox_28 (Γ : GAM) (K : GH → Prop) (l0 : Nat) (l1 : Int32) (l2 : Int32) (l3 : Int32) (s0 : Int32) (s1 : Int32) (s2 : Nat) (g : GH) : Prop :=
  Kd g s2 = 10 ∧ ∀ g1 : GH, g1 = sI g 1160 s2 (s1 + s0) → Kd g1 l0 = 10 ∧ Kd g1 l0 = 10 ∧ ∀ g2 : GH, g2 = sI g1 1159 l0 ((Gi g1 1159 l0) ||| ((1 : Int32) <<< (l1 &&& 31))) → Kd g2 l0 = 10 ∧ ∃ a3 : Nat, Gr g2 1152 l0 = some a3 ∧ Kd g2 a3 = 20 ∧ inB l1 (Ln g2 a3) ∧ ∀ g4 : GH, g4 = sA g2 (Co g2 a3) (Ow g2 a3) l1.toNatClampNeg l2 → Kd g4 l0 = 10 ∧ ∃ a5 : Nat, Gr g4 1153 l0 = some a5 ∧ Kd g4 a5 = 20 ∧ inB l1 (Ln g4 a5) ∧ ∀ g6 : GH, g6 = sA g4 (Co g4 a5) (Ow g4 a5) l1.toNatClampNeg l3 → Kd g6 l0 = 10 ∧ ∀ g7 : GH, g7 = sI g6 1162 l0 (-1 : Int32) → B_Vn_setBox_63 Γ K g7
set_option maxHeartbeats 4000000 in
set_option maxRecDepth 100000 in
theorem S_Vn_setBox_28 {Γ : GAM} {E : EV} {K : GH → Prop} (hE : GE Γ E cX8_setBox 4 RX8 none 1 20 (fun r g' => r = none ∧ K g')) (l0 : Nat) (l1 : Int32) (l2 : Int32) (l3 : Int32) (s0 : Int32) (s1 : Int32) (s2 : Nat) (g : GH) (h : B_Vn_setBox_28 Γ K l0 l1 l2 l3 s0 s1 s2 g) : JW Γ E 28 [some (.ref l0), some (.int l1), some (.int l2), some (.int l3)] [.int s0, .int s1, .ref s2] g := by
  unfold B_Vn_setBox_28 at h
  refine j_iadd hE (by decide +kernel : decode cX8_setBox 28 = .ok (.iadd, 1)) ?_
  obtain ⟨hk, h⟩ := h
  obtain ⟨g1, hg⟩ : ∃ z, z = sI g 1160 s2 (s1 + s0) := ⟨_, rfl⟩; have h := h g1 hg
  refine j_putI hE fa_X8_50 hk (fun q => by cases q) (by decide +kernel : decode cX8_setBox 29 = .ok (.putfield 50, 3)) ?_
  rw [← hg]
  refine j_aload_n hE (by decide +kernel : decode cX8_setBox 32 = .ok (.aload_n 0, 1)) rfl rfl ?_
  refine j_dup hE (by decide +kernel : decode cX8_setBox 33 = .ok (.dup, 1)) rfl ?_
  obtain ⟨hk, h⟩ := h
  refine j_getI hE fg_X8_53 hk (by decide +kernel : decode cX8_setBox 34 = .ok (.getfield 53, 3)) ?_
  refine j_iconst hE (by decide +kernel : decode cX8_setBox 37 = .ok (.iconst 1, 1)) (v := (1 : Int32)) (by decide) ?_
  refine j_iload_n hE (by decide +kernel : decode cX8_setBox 38 = .ok (.iload_n 1, 1)) rfl rfl ?_
  refine j_ishl hE (by decide +kernel : decode cX8_setBox 39 = .ok (.ishl, 1)) ?_
  refine j_ior hE (by decide +kernel : decode cX8_setBox 40 = .ok (.ior, 1)) ?_
  obtain ⟨hk, h⟩ := h
  obtain ⟨g2, hg⟩ : ∃ z, z = sI g1 1159 l0 ((Gi g1 1159 l0) ||| ((1 : Int32) <<< (l1 &&& 31))) := ⟨_, rfl⟩; have h := h g2 hg
  refine j_putI hE fa_X8_53 hk (fun q => by cases q) (by decide +kernel : decode cX8_setBox 41 = .ok (.putfield 53, 3)) ?_
  rw [← hg]
  refine j_aload_n hE (by decide +kernel : decode cX8_setBox 44 = .ok (.aload_n 0, 1)) rfl rfl ?_
  obtain ⟨hk, h⟩ := h
  obtain ⟨a3, ha, h⟩ := h
  refine j_getRn hE fg_X8_9 hk ha (by decide +kernel : decode cX8_setBox 45 = .ok (.getfield 9, 3)) ?_
  refine j_iload_n hE (by decide +kernel : decode cX8_setBox 48 = .ok (.iload_n 1, 1)) rfl rfl ?_
  refine j_iload_n hE (by decide +kernel : decode cX8_setBox 49 = .ok (.iload_n 2, 1)) rfl rfl ?_
  obtain ⟨hk, hb, h⟩ := h
  obtain ⟨g4, hg⟩ : ∃ z, z = sA g2 (Co g2 a3) (Ow g2 a3) l1.toNatClampNeg l2 := ⟨_, rfl⟩; have h := h g4 hg
  refine j_iast hE hk hb (by decide +kernel : decode cX8_setBox 50 = .ok (.iastore, 1)) ?_
  rw [← hg]
  refine j_aload_n hE (by decide +kernel : decode cX8_setBox 51 = .ok (.aload_n 0, 1)) rfl rfl ?_
  obtain ⟨hk, h⟩ := h
  obtain ⟨a5, ha, h⟩ := h
  refine j_getRn hE fg_X8_15 hk ha (by decide +kernel : decode cX8_setBox 52 = .ok (.getfield 15, 3)) ?_
  refine j_iload_n hE (by decide +kernel : decode cX8_setBox 55 = .ok (.iload_n 1, 1)) rfl rfl ?_
  refine j_iload_n hE (by decide +kernel : decode cX8_setBox 56 = .ok (.iload_n 3, 1)) rfl rfl ?_
  obtain ⟨hk, hb, h⟩ := h
  obtain ⟨g6, hg⟩ : ∃ z, z = sA g4 (Co g4 a5) (Ow g4 a5) l1.toNatClampNeg l3 := ⟨_, rfl⟩; have h := h g6 hg
  refine j_iast hE hk hb (by decide +kernel : decode cX8_setBox 57 = .ok (.iastore, 1)) ?_
  rw [← hg]
  refine j_aload_n hE (by decide +kernel : decode cX8_setBox 58 = .ok (.aload_n 0, 1)) rfl rfl ?_
  refine j_iconst hE (by decide +kernel : decode cX8_setBox 59 = .ok (.iconst (-1), 1)) (v := (-1 : Int32)) (by decide) ?_
  obtain ⟨hk, h⟩ := h
  obtain ⟨g7, hg⟩ : ∃ z, z = sI g6 1162 l0 (-1 : Int32) := ⟨_, rfl⟩; have h := h g7 hg
  refine j_putI hE fa_X8_37 hk (fun q => by cases q) (by decide +kernel : decode cX8_setBox 60 = .ok (.putfield 37, 3)) ?_
  rw [← hg]
  refine j_weak [none, none, none, none] trivial ?_
  exact S_Vn_setBox_63 hE _ h
set_option maxRecDepth 100000 in
def B_Vn_setBox_0 (Γ : GAM) (K : GH → Prop) (th : Nat) (p0 : Int32) (p1 : Int32) (p2 : Int32) (g : GH) : Prop :=
  Sp_PV_isBox Γ p0 g (fun (x2 : Int32) (g1 : GH) => ((x2 = 0 → B_Vn_setBox_63 Γ K g1) ∧ (¬ (x2 = 0) → Kd g1 th = 10 ∧ Kd g1 th = 10 ∧ ((¬ ((((Gi g1 1159 th) >>> (p0 &&& 31)) &&& (1 : Int32)) = 0) → B_Vn_setBox_28 Γ K th p0 p1 p2 (0 : Int32) (Gi g1 1160 th) th g1) ∧ ((((Gi g1 1159 th) >>> (p0 &&& 31)) &&& (1 : Int32)) = 0 → B_Vn_setBox_28 Γ K th p0 p1 p2 (1 : Int32) (Gi g1 1160 th) th g1)))))
set_option maxHeartbeats 4000000 in
set_option maxRecDepth 100000 in
theorem S_Vn_setBox_0 {Γ : GAM} {E : EV} {K : GH → Prop} (hE : GE Γ E cX8_setBox 4 RX8 none 1 20 (fun r g' => r = none ∧ K g')) (th : Nat) (p0 : Int32) (p1 : Int32) (p2 : Int32) (g : GH) (h : B_Vn_setBox_0 Γ K th p0 p1 p2 g) : JW Γ E 0 [some (.ref th), some (.int p0), some (.int p1), some (.int p2)] [] g := by
  unfold B_Vn_setBox_0 at h
  refine j_iload_n hE (by decide +kernel : decode cX8_setBox 0 = .ok (.iload_n 1, 1)) rfl rfl ?_
  refine j_callSN hE rfl cl_X8_46 st_X10_isBox ⟨by omega, by omega⟩ (As := [.int p0]) (rest := []) rfl rfl (Nat.le_of_ble_eq_true rfl) (by decide +kernel : decode cX8_setBox 1 = .ok (.invokestatic 46, 3)) (mt_PV_isBox _ _ _ h) ?_
  rintro _ g1 ⟨x2, rfl, h⟩
  refine j_if_eq hE (by decide +kernel : decode cX8_setBox 4 = .ok (.ifCond .eq 59, 3)) (tgt := 63) (by decide) (fun q => ?_) (fun q => ?_)
  · have h := h.1 q
    refine j_weak [none, none, none, none] trivial ?_
    exact S_Vn_setBox_63 hE _ h
  · have h := h.2 q
    refine j_aload_n hE (by decide +kernel : decode cX8_setBox 7 = .ok (.aload_n 0, 1)) rfl rfl ?_
    refine j_dup hE (by decide +kernel : decode cX8_setBox 8 = .ok (.dup, 1)) rfl ?_
    obtain ⟨hk, h⟩ := h
    refine j_getI hE fg_X8_50 hk (by decide +kernel : decode cX8_setBox 9 = .ok (.getfield 50, 3)) ?_
    refine j_aload_n hE (by decide +kernel : decode cX8_setBox 12 = .ok (.aload_n 0, 1)) rfl rfl ?_
    obtain ⟨hk, h⟩ := h
    refine j_getI hE fg_X8_53 hk (by decide +kernel : decode cX8_setBox 13 = .ok (.getfield 53, 3)) ?_
    refine j_iload_n hE (by decide +kernel : decode cX8_setBox 16 = .ok (.iload_n 1, 1)) rfl rfl ?_
    refine j_ishr hE (by decide +kernel : decode cX8_setBox 17 = .ok (.ishr, 1)) ?_
    refine j_iconst hE (by decide +kernel : decode cX8_setBox 18 = .ok (.iconst 1, 1)) (v := (1 : Int32)) (by decide) ?_
    refine j_iand hE (by decide +kernel : decode cX8_setBox 19 = .ok (.iand, 1)) ?_
    refine j_if_ne hE (by decide +kernel : decode cX8_setBox 20 = .ok (.ifCond .ne 7, 3)) (tgt := 27) (by decide) (fun q => ?_) (fun q => ?_)
    · have h := h.1 q
      refine j_iconst hE (by decide +kernel : decode cX8_setBox 27 = .ok (.iconst 0, 1)) (v := (0 : Int32)) (by decide) ?_
      exact S_Vn_setBox_28 hE _ _ _ _ _ _ _ _ h
    · have h := h.2 q
      refine j_iconst hE (by decide +kernel : decode cX8_setBox 23 = .ok (.iconst 1, 1)) (v := (1 : Int32)) (by decide) ?_
      refine j_goto hE (by decide +kernel : decode cX8_setBox 24 = .ok (.goto 4, 3)) (tgt := 28) (by decide) ?_
      exact S_Vn_setBox_28 hE _ _ _ _ _ _ _ _ h
set_option maxHeartbeats 4000000 in
set_option maxRecDepth 100000 in
theorem rl_Vn_setBox {Γ : GAM} {l : Launch} {th : Nat} {p0 : Int32} {p1 : Int32} {p2 : Int32} {g : GH} {K : GH → Prop} (h0 : B_Vn_setBox_0 Γ K th p0 p1 p2 g) : MetA Γ l yX8_setBox cX8_setBox 4 none 1 20 [.ref th, .int p0, .int p1, .int p2] g (fun r g' => r = none ∧ K g') := by
  refine MetA.introL (Lx := [some (.ref th), some (.int p0), some (.int p1), some (.int p2)]) (by decide) (Nat.le_of_ble_eq_true rfl) rfl rfl ?_
  intro E hEl hE hnm
  exact S_Vn_setBox_0 hE th p0 p1 p2 g h0
-- the walk of Vn_setRoad
set_option maxRecDepth 100000 in
def B_Vn_setRoad_49 (Γ : GAM) (K : GH → Prop)  (g : GH) : Prop :=
  K g
set_option maxHeartbeats 4000000 in
set_option maxRecDepth 100000 in
theorem S_Vn_setRoad_49 {Γ : GAM} {E : EV} {K : GH → Prop} (hE : GE Γ E cX8_setRoad 4 RX8 none 1 22 (fun r g' => r = none ∧ K g'))  (g : GH) (h : B_Vn_setRoad_49 Γ K  g) : JW Γ E 49 [none, none, none, none] [] g := by
  unfold B_Vn_setRoad_49 at h
  exact j_vret hE (by decide +kernel : decode cX8_setRoad 49 = .ok (.return_, 1)) ⟨rfl, h⟩
set_option maxRecDepth 100000 in
def B_Vn_setRoad_0 (Γ : GAM) (K : GH → Prop) (th : Nat) (p0 : Int32) (p1 : Int32) (p2 : Int32) (g : GH) : Prop :=
  Sp_PV_isWithin Γ p0 (0 : Int32) (8 : Int32) g (fun (x2 : Int32) (g1 : GH) => ((x2 = 0 → B_Vn_setRoad_49 Γ K g1) ∧ (¬ (x2 = 0) → Sp_PV_isWithin Γ p1 (0 : Int32) (8 : Int32) g1 (fun (x4 : Int32) (g3 : GH) => ((x4 = 0 → B_Vn_setRoad_49 Γ K g3) ∧ (¬ (x4 = 0) → Kd g3 th = 10 ∧ ∃ a5 : Nat, Gr g3 1154 th = some a5 ∧ Kd g3 a5 = 20 ∧ inB ((p0 * (9 : Int32)) + p1) (Ln g3 a5) ∧ ∀ g6 : GH, g6 = sA g3 (Co g3 a5) (Ow g3 a5) ((p0 * (9 : Int32)) + p1).toNatClampNeg p2 → Kd g6 th = 10 ∧ ∃ a7 : Nat, Gr g6 1154 th = some a7 ∧ Kd g6 a7 = 20 ∧ inB ((p1 * (9 : Int32)) + p0) (Ln g6 a7) ∧ ∀ g8 : GH, g8 = sA g6 (Co g6 a7) (Ow g6 a7) ((p1 * (9 : Int32)) + p0).toNatClampNeg p2 → Kd g8 th = 10 ∧ ∀ g9 : GH, g9 = sI g8 1162 th (-1 : Int32) → B_Vn_setRoad_49 Γ K g9))))))
set_option maxHeartbeats 4000000 in
set_option maxRecDepth 100000 in
theorem S_Vn_setRoad_0 {Γ : GAM} {E : EV} {K : GH → Prop} (hE : GE Γ E cX8_setRoad 4 RX8 none 1 22 (fun r g' => r = none ∧ K g')) (th : Nat) (p0 : Int32) (p1 : Int32) (p2 : Int32) (g : GH) (h : B_Vn_setRoad_0 Γ K th p0 p1 p2 g) : JW Γ E 0 [some (.ref th), some (.int p0), some (.int p1), some (.int p2)] [] g := by
  unfold B_Vn_setRoad_0 at h
  refine j_iload_n hE (by decide +kernel : decode cX8_setRoad 0 = .ok (.iload_n 1, 1)) rfl rfl ?_
  refine j_iconst hE (by decide +kernel : decode cX8_setRoad 1 = .ok (.iconst 0, 1)) (v := (0 : Int32)) (by decide) ?_
  refine j_bipush hE (by decide +kernel : decode cX8_setRoad 2 = .ok (.bipush 8, 2)) (v := (8 : Int32)) (by decide) ?_
  refine j_callSN hE rfl cl_X8_56 st_X10_isWithin ⟨by omega, by omega⟩ (As := [.int p0, .int (0 : Int32), .int (8 : Int32)]) (rest := []) rfl rfl (Nat.le_of_ble_eq_true rfl) (by decide +kernel : decode cX8_setRoad 4 = .ok (.invokestatic 56, 3)) (mt_PV_isWithin _ _ _ _ _ h) ?_
  rintro _ g1 ⟨x2, rfl, h⟩
  refine j_if_eq hE (by decide +kernel : decode cX8_setRoad 7 = .ok (.ifCond .eq 42, 3)) (tgt := 49) (by decide) (fun q => ?_) (fun q => ?_)
  · have h := h.1 q
    refine j_weak [none, none, none, none] trivial ?_
    exact S_Vn_setRoad_49 hE _ h
  · have h := h.2 q
    refine j_iload_n hE (by decide +kernel : decode cX8_setRoad 10 = .ok (.iload_n 2, 1)) rfl rfl ?_
    refine j_iconst hE (by decide +kernel : decode cX8_setRoad 11 = .ok (.iconst 0, 1)) (v := (0 : Int32)) (by decide) ?_
    refine j_bipush hE (by decide +kernel : decode cX8_setRoad 12 = .ok (.bipush 8, 2)) (v := (8 : Int32)) (by decide) ?_
    refine j_callSN hE rfl cl_X8_56 st_X10_isWithin ⟨by omega, by omega⟩ (As := [.int p1, .int (0 : Int32), .int (8 : Int32)]) (rest := []) rfl rfl (Nat.le_of_ble_eq_true rfl) (by decide +kernel : decode cX8_setRoad 14 = .ok (.invokestatic 56, 3)) (mt_PV_isWithin _ _ _ _ _ h) ?_
    rintro _ g3 ⟨x4, rfl, h⟩
    refine j_if_eq hE (by decide +kernel : decode cX8_setRoad 17 = .ok (.ifCond .eq 32, 3)) (tgt := 49) (by decide) (fun q => ?_) (fun q => ?_)
    · have h := h.1 q
      refine j_weak [none, none, none, none] trivial ?_
      exact S_Vn_setRoad_49 hE _ h
    · have h := h.2 q
      refine j_aload_n hE (by decide +kernel : decode cX8_setRoad 20 = .ok (.aload_n 0, 1)) rfl rfl ?_
      obtain ⟨hk, h⟩ := h
      obtain ⟨a5, ha, h⟩ := h
      refine j_getRn hE fg_X8_18 hk ha (by decide +kernel : decode cX8_setRoad 21 = .ok (.getfield 18, 3)) ?_
      refine j_iload_n hE (by decide +kernel : decode cX8_setRoad 24 = .ok (.iload_n 1, 1)) rfl rfl ?_
      refine j_bipush hE (by decide +kernel : decode cX8_setRoad 25 = .ok (.bipush 9, 2)) (v := (9 : Int32)) (by decide) ?_
      refine j_imul hE (by decide +kernel : decode cX8_setRoad 27 = .ok (.imul, 1)) ?_
      refine j_iload_n hE (by decide +kernel : decode cX8_setRoad 28 = .ok (.iload_n 2, 1)) rfl rfl ?_
      refine j_iadd hE (by decide +kernel : decode cX8_setRoad 29 = .ok (.iadd, 1)) ?_
      refine j_iload_n hE (by decide +kernel : decode cX8_setRoad 30 = .ok (.iload_n 3, 1)) rfl rfl ?_
      obtain ⟨hk, hb, h⟩ := h
      obtain ⟨g6, hg⟩ : ∃ z, z = sA g3 (Co g3 a5) (Ow g3 a5) ((p0 * (9 : Int32)) + p1).toNatClampNeg p2 := ⟨_, rfl⟩; have h := h g6 hg
      refine j_iast hE hk hb (by decide +kernel : decode cX8_setRoad 31 = .ok (.iastore, 1)) ?_
      rw [← hg]
      refine j_aload_n hE (by decide +kernel : decode cX8_setRoad 32 = .ok (.aload_n 0, 1)) rfl rfl ?_
      obtain ⟨hk, h⟩ := h
      obtain ⟨a7, ha, h⟩ := h
      refine j_getRn hE fg_X8_18 hk ha (by decide +kernel : decode cX8_setRoad 33 = .ok (.getfield 18, 3)) ?_
      refine j_iload_n hE (by decide +kernel : decode cX8_setRoad 36 = .ok (.iload_n 2, 1)) rfl rfl ?_
      refine j_bipush hE (by decide +kernel : decode cX8_setRoad 37 = .ok (.bipush 9, 2)) (v := (9 : Int32)) (by decide) ?_
      refine j_imul hE (by decide +kernel : decode cX8_setRoad 39 = .ok (.imul, 1)) ?_
      refine j_iload_n hE (by decide +kernel : decode cX8_setRoad 40 = .ok (.iload_n 1, 1)) rfl rfl ?_
      refine j_iadd hE (by decide +kernel : decode cX8_setRoad 41 = .ok (.iadd, 1)) ?_
      refine j_iload_n hE (by decide +kernel : decode cX8_setRoad 42 = .ok (.iload_n 3, 1)) rfl rfl ?_
      obtain ⟨hk, hb, h⟩ := h
      obtain ⟨g8, hg⟩ : ∃ z, z = sA g6 (Co g6 a7) (Ow g6 a7) ((p1 * (9 : Int32)) + p0).toNatClampNeg p2 := ⟨_, rfl⟩; have h := h g8 hg
      refine j_iast hE hk hb (by decide +kernel : decode cX8_setRoad 43 = .ok (.iastore, 1)) ?_
      rw [← hg]
      refine j_aload_n hE (by decide +kernel : decode cX8_setRoad 44 = .ok (.aload_n 0, 1)) rfl rfl ?_
      refine j_iconst hE (by decide +kernel : decode cX8_setRoad 45 = .ok (.iconst (-1), 1)) (v := (-1 : Int32)) (by decide) ?_
      obtain ⟨hk, h⟩ := h
      obtain ⟨g9, hg⟩ : ∃ z, z = sI g8 1162 th (-1 : Int32) := ⟨_, rfl⟩; have h := h g9 hg
      refine j_putI hE fa_X8_37 hk (fun q => by cases q) (by decide +kernel : decode cX8_setRoad 46 = .ok (.putfield 37, 3)) ?_
      rw [← hg]
      refine j_weak [none, none, none, none] trivial ?_
      exact S_Vn_setRoad_49 hE _ h
set_option maxHeartbeats 4000000 in
set_option maxRecDepth 100000 in
theorem rl_Vn_setRoad {Γ : GAM} {l : Launch} {th : Nat} {p0 : Int32} {p1 : Int32} {p2 : Int32} {g : GH} {K : GH → Prop} (h0 : B_Vn_setRoad_0 Γ K th p0 p1 p2 g) : MetA Γ l yX8_setRoad cX8_setRoad 4 none 1 22 [.ref th, .int p0, .int p1, .int p2] g (fun r g' => r = none ∧ K g') := by
  refine MetA.introL (Lx := [some (.ref th), some (.int p0), some (.int p1), some (.int p2)]) (by decide) (Nat.le_of_ble_eq_true rfl) rfl rfl ?_
  intro E hEl hE hnm
  exact S_Vn_setRoad_0 hE th p0 p1 p2 g h0
-- the walk of Vn_setStop
set_option maxRecDepth 100000 in
def B_Vn_setStop_0 (Γ : GAM) (K : GH → Prop) (th : Nat) (p0 : Int32) (g : GH) : Prop :=
  Kd g th = 10 ∧ ∀ g1 : GH, g1 = sI g 1158 th p0 → Kd g1 th = 10 ∧ ∀ g2 : GH, g2 = sI g1 1162 th (-1 : Int32) → K g2
set_option maxHeartbeats 4000000 in
set_option maxRecDepth 100000 in
theorem S_Vn_setStop_0 {Γ : GAM} {E : EV} {K : GH → Prop} (hE : GE Γ E cX8_setStop 2 RX8 none 0 0 (fun r g' => r = none ∧ K g')) (th : Nat) (p0 : Int32) (g : GH) (h : B_Vn_setStop_0 Γ K th p0 g) : JW Γ E 0 [some (.ref th), some (.int p0)] [] g := by
  unfold B_Vn_setStop_0 at h
  refine j_aload_n hE (by decide +kernel : decode cX8_setStop 0 = .ok (.aload_n 0, 1)) rfl rfl ?_
  refine j_iload_n hE (by decide +kernel : decode cX8_setStop 1 = .ok (.iload_n 1, 1)) rfl rfl ?_
  obtain ⟨hk, h⟩ := h
  obtain ⟨g1, hg⟩ : ∃ z, z = sI g 1158 th p0 := ⟨_, rfl⟩; have h := h g1 hg
  refine j_putI hE fa_X8_30 hk (fun q => by cases q) (by decide +kernel : decode cX8_setStop 2 = .ok (.putfield 30, 3)) ?_
  rw [← hg]
  refine j_aload_n hE (by decide +kernel : decode cX8_setStop 5 = .ok (.aload_n 0, 1)) rfl rfl ?_
  refine j_iconst hE (by decide +kernel : decode cX8_setStop 6 = .ok (.iconst (-1), 1)) (v := (-1 : Int32)) (by decide) ?_
  obtain ⟨hk, h⟩ := h
  obtain ⟨g2, hg⟩ : ∃ z, z = sI g1 1162 th (-1 : Int32) := ⟨_, rfl⟩; have h := h g2 hg
  refine j_putI hE fa_X8_37 hk (fun q => by cases q) (by decide +kernel : decode cX8_setStop 7 = .ok (.putfield 37, 3)) ?_
  rw [← hg]
  exact j_vret hE (by decide +kernel : decode cX8_setStop 10 = .ok (.return_, 1)) ⟨rfl, h⟩
set_option maxHeartbeats 4000000 in
set_option maxRecDepth 100000 in
theorem rl_Vn_setStop {Γ : GAM} {l : Launch} {th : Nat} {p0 : Int32} {g : GH} {K : GH → Prop} (h0 : B_Vn_setStop_0 Γ K th p0 g) : MetA Γ l yX8_setStop cX8_setStop 2 none 0 0 [.ref th, .int p0] g (fun r g' => r = none ∧ K g') := by
  refine MetA.introL (Lx := [some (.ref th), some (.int p0)]) (by decide) (Nat.le_of_ble_eq_true rfl) rfl rfl ?_
  intro E hEl hE hnm
  exact S_Vn_setStop_0 hE th p0 g h0
-- the walk of Vn_plan
set_option maxRecDepth 100000 in
def B_Vn_plan_55 (Γ : GAM) (R_Vn_goOn : Nat → Int32 → Int32 → Int32 → Int32 → GH → (GH → Prop) → Prop) (K : GH → Prop)  (g : GH) : Prop :=
  K g
set_option maxHeartbeats 4000000 in
set_option maxRecDepth 100000 in
theorem S_Vn_plan_55 {Γ : GAM} {E : EV} {fr lo : Nat} {K : GH → Prop} (hE : GE Γ E cX8_plan 2 RX8 none fr lo (fun r g' => r = none ∧ K g')) (hfr : 1 ≤ fr) (hlo : 23 ≤ lo) {R_Vn_goOn : Nat → Int32 → Int32 → Int32 → Int32 → GH → (GH → Prop) → Prop} {f_Vn_goOn l_Vn_goOn : Nat} (hR_Vn_goOn : (f_Vn_goOn + 1 ≤ fr ∧ 8 + (9 + 11) + l_Vn_goOn ≤ lo) ∧ ∀ (th : Nat) (p0 : Int32) (p1 : Int32) (p2 : Int32) (p3 : Int32) g (K : GH → Prop), R_Vn_goOn th p0 p1 p2 p3 g K → MetA Γ E.2.1 yX8_goOn cX8_goOn 9 none f_Vn_goOn l_Vn_goOn [.ref th, .int p0, .int p1, .int p2, .int p3] g (fun r g' => r = none ∧ K g'))  (g : GH) (h : B_Vn_plan_55 Γ R_Vn_goOn K  g) : JW Γ E 55 [none, none] [] g := by
  unfold B_Vn_plan_55 at h
  exact j_vret hE (by decide +kernel : decode cX8_plan 55 = .ok (.return_, 1)) ⟨rfl, h⟩
set_option maxRecDepth 100000 in
def B_Vn_plan_27 (Γ : GAM) (R_Vn_goOn : Nat → Int32 → Int32 → Int32 → Int32 → GH → (GH → Prop) → Prop) (K : GH → Prop) (l0 : Nat) (l1 : Int32) (s0 : Int32) (s1 : Nat) (g : GH) : Prop :=
  Kd g s1 = 10 ∧ ∀ g1 : GH, g1 = sI g 1161 s1 s0 → Kd g1 l0 = 10 ∧ ∃ a2 : Nat, Gr g1 1155 l0 = some a2 ∧ Sp_Arrays_fill Γ a2 (1000000 : Int32) g1 (fun (g3 : GH) => Kd g3 l0 = 10 ∧ (((Gi g3 1159 l0) = 0 → B_Vn_plan_55 Γ R_Vn_goOn K g3) ∧ (¬ ((Gi g3 1159 l0) = 0) → Kd g3 l0 = 10 ∧ R_Vn_goOn l0 (8 : Int32) l1 (0 : Int32) (0 : Int32) g3 (fun (g4 : GH) => B_Vn_plan_55 Γ R_Vn_goOn K g4))))
set_option maxHeartbeats 4000000 in
set_option maxRecDepth 100000 in
theorem S_Vn_plan_27 {Γ : GAM} {E : EV} {fr lo : Nat} {K : GH → Prop} (hE : GE Γ E cX8_plan 2 RX8 none fr lo (fun r g' => r = none ∧ K g')) (hfr : 1 ≤ fr) (hlo : 23 ≤ lo) {R_Vn_goOn : Nat → Int32 → Int32 → Int32 → Int32 → GH → (GH → Prop) → Prop} {f_Vn_goOn l_Vn_goOn : Nat} (hR_Vn_goOn : (f_Vn_goOn + 1 ≤ fr ∧ 8 + (9 + 11) + l_Vn_goOn ≤ lo) ∧ ∀ (th : Nat) (p0 : Int32) (p1 : Int32) (p2 : Int32) (p3 : Int32) g (K : GH → Prop), R_Vn_goOn th p0 p1 p2 p3 g K → MetA Γ E.2.1 yX8_goOn cX8_goOn 9 none f_Vn_goOn l_Vn_goOn [.ref th, .int p0, .int p1, .int p2, .int p3] g (fun r g' => r = none ∧ K g')) (l0 : Nat) (l1 : Int32) (s0 : Int32) (s1 : Nat) (g : GH) (h : B_Vn_plan_27 Γ R_Vn_goOn K l0 l1 s0 s1 g) : JW Γ E 27 [some (.ref l0), some (.int l1)] [.int s0, .ref s1] g := by
  unfold B_Vn_plan_27 at h
  obtain ⟨hk, h⟩ := h
  obtain ⟨g1, hg⟩ : ∃ z, z = sI g 1161 s1 s0 := ⟨_, rfl⟩; have h := h g1 hg
  refine j_putI hE fa_X8_34 hk (fun q => by cases q) (by decide +kernel : decode cX8_plan 27 = .ok (.putfield 34, 3)) ?_
  rw [← hg]
  refine j_aload_n hE (by decide +kernel : decode cX8_plan 30 = .ok (.aload_n 0, 1)) rfl rfl ?_
  obtain ⟨hk, h⟩ := h
  obtain ⟨a2, ha, h⟩ := h
  refine j_getRn hE fg_X8_21 hk ha (by decide +kernel : decode cX8_plan 31 = .ok (.getfield 21, 3)) ?_
  refine j_ldc hE ct_X8_60 (by decide +kernel : decode cX8_plan 34 = .ok (.ldc 60, 2)) ?_
  refine j_callS hE rfl cl_X8_40 st_J7_fill_53178 ⟨by omega, by omega⟩ (As := [.ref a2, .int (1000000 : Int32)]) (rest := []) rfl rfl (Nat.le_of_ble_eq_true rfl) (by decide +kernel : decode cX8_plan 36 = .ok (.invokestatic 40, 3)) (mt_Arrays_fill _ _ _ _ h) ?_
  rintro _ g3 ⟨rfl, h⟩
  refine j_aload_n hE (by decide +kernel : decode cX8_plan 39 = .ok (.aload_n 0, 1)) rfl rfl ?_
  obtain ⟨hk, h⟩ := h
  refine j_getI hE fg_X8_53 hk (by decide +kernel : decode cX8_plan 40 = .ok (.getfield 53, 3)) ?_
  refine j_if_eq hE (by decide +kernel : decode cX8_plan 43 = .ok (.ifCond .eq 12, 3)) (tgt := 55) (by decide) (fun q => ?_) (fun q => ?_)
  · have h := h.1 q
    refine j_weak [none, none] trivial ?_
    exact S_Vn_plan_55 hE hfr hlo hR_Vn_goOn _ h
  · have h := h.2 q
    refine j_aload_n hE (by decide +kernel : decode cX8_plan 46 = .ok (.aload_n 0, 1)) rfl rfl ?_
    refine j_bipush hE (by decide +kernel : decode cX8_plan 47 = .ok (.bipush 8, 2)) (v := (8 : Int32)) (by decide) ?_
    refine j_iload_n hE (by decide +kernel : decode cX8_plan 49 = .ok (.iload_n 1, 1)) rfl rfl ?_
    refine j_iconst hE (by decide +kernel : decode cX8_plan 50 = .ok (.iconst 0, 1)) (v := (0 : Int32)) (by decide) ?_
    refine j_iconst hE (by decide +kernel : decode cX8_plan 51 = .ok (.iconst 0, 1)) (v := (0 : Int32)) (by decide) ?_
    obtain ⟨hk, h⟩ := h
    refine j_callV hE rfl cl_X8_61 cf_9 im_X8_goOn se_X8_goOn hR_Vn_goOn.1 (As := [.int (8 : Int32), .int l1, .int (0 : Int32), .int (0 : Int32)]) (rest := []) rfl rfl (Nat.le_of_ble_eq_true rfl) hk (by decide +kernel : decode cX8_plan 52 = .ok (.invokevirtual 61, 3)) (hR_Vn_goOn.2 _ _ _ _ _ _ _ h) ?_
    rintro _ g4 ⟨rfl, h⟩
    refine j_weak [none, none] trivial ?_
    exact S_Vn_plan_55 hE hfr hlo hR_Vn_goOn _ h
set_option maxRecDepth 100000 in
def B_Vn_plan_0 (Γ : GAM) (R_Vn_goOn : Nat → Int32 → Int32 → Int32 → Int32 → GH → (GH → Prop) → Prop) (K : GH → Prop) (th : Nat) (p0 : Int32) (g : GH) : Prop :=
  Kd g th = 10 ∧ ((¬ ((Gi g 1162 th) = p0) → Kd g th = 10 ∧ ∀ g1 : GH, g1 = sI g 1162 th p0 → Kd g1 th = 10 ∧ ((¬ ((Gi g1 1159 th) = 0) → B_Vn_plan_27 Γ R_Vn_goOn K th p0 (-1 : Int32) th g1) ∧ ((Gi g1 1159 th) = 0 → B_Vn_plan_27 Γ R_Vn_goOn K th p0 p0 th g1))) ∧ ((Gi g 1162 th) = p0 → K g))
set_option maxHeartbeats 4000000 in
set_option maxRecDepth 100000 in
theorem S_Vn_plan_0 {Γ : GAM} {E : EV} {fr lo : Nat} {K : GH → Prop} (hE : GE Γ E cX8_plan 2 RX8 none fr lo (fun r g' => r = none ∧ K g')) (hfr : 1 ≤ fr) (hlo : 23 ≤ lo) {R_Vn_goOn : Nat → Int32 → Int32 → Int32 → Int32 → GH → (GH → Prop) → Prop} {f_Vn_goOn l_Vn_goOn : Nat} (hR_Vn_goOn : (f_Vn_goOn + 1 ≤ fr ∧ 8 + (9 + 11) + l_Vn_goOn ≤ lo) ∧ ∀ (th : Nat) (p0 : Int32) (p1 : Int32) (p2 : Int32) (p3 : Int32) g (K : GH → Prop), R_Vn_goOn th p0 p1 p2 p3 g K → MetA Γ E.2.1 yX8_goOn cX8_goOn 9 none f_Vn_goOn l_Vn_goOn [.ref th, .int p0, .int p1, .int p2, .int p3] g (fun r g' => r = none ∧ K g')) (th : Nat) (p0 : Int32) (g : GH) (h : B_Vn_plan_0 Γ R_Vn_goOn K th p0 g) : JW Γ E 0 [some (.ref th), some (.int p0)] [] g := by
  unfold B_Vn_plan_0 at h
  refine j_aload_n hE (by decide +kernel : decode cX8_plan 0 = .ok (.aload_n 0, 1)) rfl rfl ?_
  obtain ⟨hk, h⟩ := h
  refine j_getI hE fg_X8_37 hk (by decide +kernel : decode cX8_plan 1 = .ok (.getfield 37, 3)) ?_
  refine j_iload_n hE (by decide +kernel : decode cX8_plan 4 = .ok (.iload_n 1, 1)) rfl rfl ?_
  refine j_icmp_ne hE (by decide +kernel : decode cX8_plan 5 = .ok (.if_icmp .ne 4, 3)) (tgt := 9) (by decide) (fun q => ?_) (fun q => ?_)
  · have h := h.1 q
    refine j_aload_n hE (by decide +kernel : decode cX8_plan 9 = .ok (.aload_n 0, 1)) rfl rfl ?_
    refine j_iload_n hE (by decide +kernel : decode cX8_plan 10 = .ok (.iload_n 1, 1)) rfl rfl ?_
    obtain ⟨hk, h⟩ := h
    obtain ⟨g1, hg⟩ : ∃ z, z = sI g 1162 th p0 := ⟨_, rfl⟩; have h := h g1 hg
    refine j_putI hE fa_X8_37 hk (fun q => by cases q) (by decide +kernel : decode cX8_plan 11 = .ok (.putfield 37, 3)) ?_
    rw [← hg]
    refine j_aload_n hE (by decide +kernel : decode cX8_plan 14 = .ok (.aload_n 0, 1)) rfl rfl ?_
    refine j_aload_n hE (by decide +kernel : decode cX8_plan 15 = .ok (.aload_n 0, 1)) rfl rfl ?_
    obtain ⟨hk, h⟩ := h
    refine j_getI hE fg_X8_53 hk (by decide +kernel : decode cX8_plan 16 = .ok (.getfield 53, 3)) ?_
    refine j_if_ne hE (by decide +kernel : decode cX8_plan 19 = .ok (.ifCond .ne 7, 3)) (tgt := 26) (by decide) (fun q => ?_) (fun q => ?_)
    · have h := h.1 q
      refine j_iconst hE (by decide +kernel : decode cX8_plan 26 = .ok (.iconst (-1), 1)) (v := (-1 : Int32)) (by decide) ?_
      exact S_Vn_plan_27 hE hfr hlo hR_Vn_goOn _ _ _ _ _ h
    · have h := h.2 q
      refine j_iload_n hE (by decide +kernel : decode cX8_plan 22 = .ok (.iload_n 1, 1)) rfl rfl ?_
      refine j_goto hE (by decide +kernel : decode cX8_plan 23 = .ok (.goto 4, 3)) (tgt := 27) (by decide) ?_
      exact S_Vn_plan_27 hE hfr hlo hR_Vn_goOn _ _ _ _ _ h
  · have h := h.2 q
    exact j_vret hE (by decide +kernel : decode cX8_plan 8 = .ok (.return_, 1)) ⟨rfl, h⟩
set_option maxHeartbeats 4000000 in
set_option maxRecDepth 100000 in
theorem rl_Vn_plan {Γ : GAM} {l : Launch} {fr lo : Nat} (hfr : 1 ≤ fr) (hlo : 23 ≤ lo) {R_Vn_goOn : Nat → Int32 → Int32 → Int32 → Int32 → GH → (GH → Prop) → Prop} {f_Vn_goOn l_Vn_goOn : Nat} (hR_Vn_goOn : (f_Vn_goOn + 1 ≤ fr ∧ 8 + (9 + 11) + l_Vn_goOn ≤ lo) ∧ ∀ (th : Nat) (p0 : Int32) (p1 : Int32) (p2 : Int32) (p3 : Int32) g (K : GH → Prop), R_Vn_goOn th p0 p1 p2 p3 g K → MetA Γ l yX8_goOn cX8_goOn 9 none f_Vn_goOn l_Vn_goOn [.ref th, .int p0, .int p1, .int p2, .int p3] g (fun r g' => r = none ∧ K g')) {th : Nat} {p0 : Int32} {g : GH} {K : GH → Prop} (h0 : B_Vn_plan_0 Γ R_Vn_goOn K th p0 g) : MetA Γ l yX8_plan cX8_plan 2 none fr lo [.ref th, .int p0] g (fun r g' => r = none ∧ K g') := by
  refine MetA.introL (Lx := [some (.ref th), some (.int p0)]) (by decide) (Nat.le_of_ble_eq_true rfl) rfl rfl ?_
  intro E hEl hE hnm
  have hR_Vn_goOn := hR_Vn_goOn; rw [← hEl] at hR_Vn_goOn
  exact S_Vn_plan_0 hE hfr hlo hR_Vn_goOn th p0 g h0
def Sp_Vn_comeHome (Γ : GAM) (q0 : Nat) (q1 : Int32) (g : GH) (K : GH → Prop) : Prop := False
theorem mt_Vn_comeHome {Γ : GAM} {l : Launch} (q0 : Nat) (q1 : Int32) (g : GH) (K : GH → Prop) (h : Sp_Vn_comeHome Γ q0 q1 g K) : MetA Γ l yX8_comeHome cX8_comeHome 2 none 0 0 [.ref q0, .int q1] g (fun r g' => r = none ∧ K g') := h.elim
-- the walk of Vn_goOn
set_option maxRecDepth 100000 in
def B_Vn_goOn_179 (Γ : GAM) (R_Vn_goOn : Nat → Int32 → Int32 → Int32 → Int32 → GH → (GH → Prop) → Prop) (K37 : Nat → Int32 → Int32 → Int32 → Int32 → Int32 → GH → Prop) (K : GH → Prop) (l0 : Nat) (l1 : Int32) (l2 : Int32) (l3 : Int32) (l4 : Int32) (l5 : Int32) (g : GH) : Prop :=
  K37 l0 l1 l2 l3 l4 (l5 + (1 : Int32)) g
set_option maxHeartbeats 4000000 in
set_option maxRecDepth 100000 in
theorem S_Vn_goOn_179 {Γ : GAM} {E : EV} {fr lo : Nat} {K : GH → Prop} (hE : GE Γ E cX8_goOn 9 RX8 none fr lo (fun r g' => r = none ∧ K g')) (hfr : 1 ≤ fr) (hlo : 21 ≤ lo) {R_Vn_goOn : Nat → Int32 → Int32 → Int32 → Int32 → GH → (GH → Prop) → Prop} {f_Vn_goOn l_Vn_goOn : Nat} (hR_Vn_goOn : (f_Vn_goOn + 1 ≤ fr ∧ 8 + (9 + 11) + l_Vn_goOn ≤ lo) ∧ ∀ (th : Nat) (p0 : Int32) (p1 : Int32) (p2 : Int32) (p3 : Int32) g (K : GH → Prop), R_Vn_goOn th p0 p1 p2 p3 g K → MetA Γ E.2.1 yX8_goOn cX8_goOn 9 none f_Vn_goOn l_Vn_goOn [.ref th, .int p0, .int p1, .int p2, .int p3] g (fun r g' => r = none ∧ K g')) {K37 : Nat → Int32 → Int32 → Int32 → Int32 → Int32 → GH → Prop} (hK37 : ∀ (l0 : Nat) (l1 : Int32) (l2 : Int32) (l3 : Int32) (l4 : Int32) (l5 : Int32) (g : GH), K37 l0 l1 l2 l3 l4 l5 g → JW Γ E 37 [some (.ref l0), some (.int l1), some (.int l2), some (.int l3), some (.int l4), some (.int l5), none, none, none] [] g) (l0 : Nat) (l1 : Int32) (l2 : Int32) (l3 : Int32) (l4 : Int32) (l5 : Int32) (g : GH) (h : B_Vn_goOn_179 Γ R_Vn_goOn K37 K l0 l1 l2 l3 l4 l5 g) : JW Γ E 179 [some (.ref l0), some (.int l1), some (.int l2), some (.int l3), some (.int l4), some (.int l5), none, none, none] [] g := by
  unfold B_Vn_goOn_179 at h
  refine j_iinc hE (by decide +kernel : decode cX8_goOn 179 = .ok (.iinc 5 1, 3)) (v := (1 : Int32)) (by decide) rfl (Nat.le_of_ble_eq_true rfl) rfl ?_
  refine j_goto hE (by decide +kernel : decode cX8_goOn 182 = .ok (.goto (-145), 3)) (tgt := 37) (by decide) ?_
  exact hK37 _ _ _ _ _ _ _ h
set_option maxRecDepth 100000 in
def B_Vn_goOn_89 (Γ : GAM) (R_Vn_goOn : Nat → Int32 → Int32 → Int32 → Int32 → GH → (GH → Prop) → Prop) (K37 : Nat → Int32 → Int32 → Int32 → Int32 → Int32 → GH → Prop) (K : GH → Prop) (l0 : Nat) (l1 : Int32) (l2 : Int32) (l3 : Int32) (l4 : Int32) (l5 : Int32) (l6 : Int32) (l7 : Int32) (s0 : Int32) (g : GH) : Prop :=
  ((s0 = 0 → B_Vn_goOn_179 Γ R_Vn_goOn K37 K l0 l1 l2 l3 l4 l5 g) ∧ (¬ (s0 = 0) → Kd g l0 = 10 ∧ ∃ a1 : Nat, Gr g 1153 l0 = some a1 ∧ Kd g a1 = 20 ∧ inB l5 (Ln g a1) ∧ (((Ia g (Co g a1) (Ow g a1) l5.toNatClampNeg) < l7 → B_Vn_goOn_179 Γ R_Vn_goOn K37 K l0 l1 l2 l3 l4 l5 g) ∧ (¬ ((Ia g (Co g a1) (Ow g a1) l5.toNatClampNeg) < l7) → Kd g l0 = 10 ∧ ∃ a2 : Nat, Gr g 1155 l0 = some a2 ∧ Kd g a2 = 20 ∧ inB ((l6 * (8 : Int32)) + l5) (Ln g a2) ∧ (((Ia g (Co g a2) (Ow g a2) ((l6 * (8 : Int32)) + l5).toNatClampNeg) ≤ l7 → B_Vn_goOn_179 Γ R_Vn_goOn K37 K l0 l1 l2 l3 l4 l5 g) ∧ (¬ ((Ia g (Co g a2) (Ow g a2) ((l6 * (8 : Int32)) + l5).toNatClampNeg) ≤ l7) → Kd g l0 = 10 ∧ ∃ a3 : Nat, Gr g 1155 l0 = some a3 ∧ Kd g a3 = 20 ∧ inB ((l6 * (8 : Int32)) + l5) (Ln g a3) ∧ ∀ g4 : GH, g4 = sA g (Co g a3) (Ow g a3) ((l6 * (8 : Int32)) + l5).toNatClampNeg l7 → Kd g4 l0 = 10 ∧ ∃ a5 : Nat, Gr g4 1156 l0 = some a5 ∧ Kd g4 a5 = 20 ∧ inB l4 (Ln g4 a5) ∧ ∀ g6 : GH, g6 = sA g4 (Co g4 a5) (Ow g4 a5) l4.toNatClampNeg l5 → Kd g6 l0 = 10 ∧ ∃ a7 : Nat, Gr g6 1152 l0 = some a7 ∧ Kd g6 a7 = 20 ∧ inB l5 (Ln g6 a7) ∧ Sp_Math_max_i0 Γ l7 (Ia g6 (Co g6 a7) (Ow g6 a7) l5.toNatClampNeg) g6 (fun (x9 : Int32) (g8 : GH) => Kd g8 l0 = 10 ∧ Kd g8 l0 = 10 ∧ R_Vn_goOn l0 l5 (x9 + (Gi g8 1158 l0)) l6 (l4 + (1 : Int32)) g8 (fun (g10 : GH) => B_Vn_goOn_179 Γ R_Vn_goOn K37 K l0 l1 l2 l3 l4 l5 g10))))))))
set_option maxHeartbeats 4000000 in
set_option maxRecDepth 100000 in
theorem S_Vn_goOn_89 {Γ : GAM} {E : EV} {fr lo : Nat} {K : GH → Prop} (hE : GE Γ E cX8_goOn 9 RX8 none fr lo (fun r g' => r = none ∧ K g')) (hfr : 1 ≤ fr) (hlo : 21 ≤ lo) {R_Vn_goOn : Nat → Int32 → Int32 → Int32 → Int32 → GH → (GH → Prop) → Prop} {f_Vn_goOn l_Vn_goOn : Nat} (hR_Vn_goOn : (f_Vn_goOn + 1 ≤ fr ∧ 8 + (9 + 11) + l_Vn_goOn ≤ lo) ∧ ∀ (th : Nat) (p0 : Int32) (p1 : Int32) (p2 : Int32) (p3 : Int32) g (K : GH → Prop), R_Vn_goOn th p0 p1 p2 p3 g K → MetA Γ E.2.1 yX8_goOn cX8_goOn 9 none f_Vn_goOn l_Vn_goOn [.ref th, .int p0, .int p1, .int p2, .int p3] g (fun r g' => r = none ∧ K g')) {K37 : Nat → Int32 → Int32 → Int32 → Int32 → Int32 → GH → Prop} (hK37 : ∀ (l0 : Nat) (l1 : Int32) (l2 : Int32) (l3 : Int32) (l4 : Int32) (l5 : Int32) (g : GH), K37 l0 l1 l2 l3 l4 l5 g → JW Γ E 37 [some (.ref l0), some (.int l1), some (.int l2), some (.int l3), some (.int l4), some (.int l5), none, none, none] [] g) (l0 : Nat) (l1 : Int32) (l2 : Int32) (l3 : Int32) (l4 : Int32) (l5 : Int32) (l6 : Int32) (l7 : Int32) (s0 : Int32) (g : GH) (h : B_Vn_goOn_89 Γ R_Vn_goOn K37 K l0 l1 l2 l3 l4 l5 l6 l7 s0 g) : JW Γ E 89 [some (.ref l0), some (.int l1), some (.int l2), some (.int l3), some (.int l4), some (.int l5), some (.int l6), some (.int l7), none] [.int s0] g := by
  unfold B_Vn_goOn_89 at h
  refine j_istore hE (by decide +kernel : decode cX8_goOn 89 = .ok (.istore 8, 2)) (Nat.le_of_ble_eq_true rfl) rfl ?_
  refine j_iload hE (by decide +kernel : decode cX8_goOn 91 = .ok (.iload 8, 2)) rfl ?_
  refine j_if_eq hE (by decide +kernel : decode cX8_goOn 93 = .ok (.ifCond .eq 86, 3)) (tgt := 179) (by decide) (fun q => ?_) (fun q => ?_)
  · have h := h.1 q
    refine j_weak [some (.ref l0), some (.int l1), some (.int l2), some (.int l3), some (.int l4), some (.int l5), none, none, none] ⟨rfl, ⟨rfl, ⟨rfl, ⟨rfl, ⟨rfl, ⟨rfl, trivial⟩⟩⟩⟩⟩⟩ ?_
    exact S_Vn_goOn_179 hE hfr hlo hR_Vn_goOn hK37 _ _ _ _ _ _ _ h
  · have h := h.2 q
    refine j_iload hE (by decide +kernel : decode cX8_goOn 96 = .ok (.iload 7, 2)) rfl ?_
    refine j_aload_n hE (by decide +kernel : decode cX8_goOn 98 = .ok (.aload_n 0, 1)) rfl rfl ?_
    obtain ⟨hk, h⟩ := h
    obtain ⟨a1, ha, h⟩ := h
    refine j_getRn hE fg_X8_15 hk ha (by decide +kernel : decode cX8_goOn 99 = .ok (.getfield 15, 3)) ?_
    refine j_iload hE (by decide +kernel : decode cX8_goOn 102 = .ok (.iload 5, 2)) rfl ?_
    obtain ⟨hk, hb, h⟩ := h
    refine j_iald hE hk hb (by decide +kernel : decode cX8_goOn 104 = .ok (.iaload, 1)) ?_
    refine j_icmp_gt hE (by decide +kernel : decode cX8_goOn 105 = .ok (.if_icmp .gt 74, 3)) (tgt := 179) (by decide) (fun q => ?_) (fun q => ?_)
    · have h := h.1 q
      refine j_weak [some (.ref l0), some (.int l1), some (.int l2), some (.int l3), some (.int l4), some (.int l5), none, none, none] ⟨rfl, ⟨rfl, ⟨rfl, ⟨rfl, ⟨rfl, ⟨rfl, trivial⟩⟩⟩⟩⟩⟩ ?_
      exact S_Vn_goOn_179 hE hfr hlo hR_Vn_goOn hK37 _ _ _ _ _ _ _ h
    · have h := h.2 q
      refine j_iload hE (by decide +kernel : decode cX8_goOn 108 = .ok (.iload 7, 2)) rfl ?_
      refine j_aload_n hE (by decide +kernel : decode cX8_goOn 110 = .ok (.aload_n 0, 1)) rfl rfl ?_
      obtain ⟨hk, h⟩ := h
      obtain ⟨a2, ha, h⟩ := h
      refine j_getRn hE fg_X8_21 hk ha (by decide +kernel : decode cX8_goOn 111 = .ok (.getfield 21, 3)) ?_
      refine j_iload hE (by decide +kernel : decode cX8_goOn 114 = .ok (.iload 6, 2)) rfl ?_
      refine j_bipush hE (by decide +kernel : decode cX8_goOn 116 = .ok (.bipush 8, 2)) (v := (8 : Int32)) (by decide) ?_
      refine j_imul hE (by decide +kernel : decode cX8_goOn 118 = .ok (.imul, 1)) ?_
      refine j_iload hE (by decide +kernel : decode cX8_goOn 119 = .ok (.iload 5, 2)) rfl ?_
      refine j_iadd hE (by decide +kernel : decode cX8_goOn 121 = .ok (.iadd, 1)) ?_
      obtain ⟨hk, hb, h⟩ := h
      refine j_iald hE hk hb (by decide +kernel : decode cX8_goOn 122 = .ok (.iaload, 1)) ?_
      refine j_icmp_ge hE (by decide +kernel : decode cX8_goOn 123 = .ok (.if_icmp .ge 56, 3)) (tgt := 179) (by decide) (fun q => ?_) (fun q => ?_)
      · have h := h.1 q
        refine j_weak [some (.ref l0), some (.int l1), some (.int l2), some (.int l3), some (.int l4), some (.int l5), none, none, none] ⟨rfl, ⟨rfl, ⟨rfl, ⟨rfl, ⟨rfl, ⟨rfl, trivial⟩⟩⟩⟩⟩⟩ ?_
        exact S_Vn_goOn_179 hE hfr hlo hR_Vn_goOn hK37 _ _ _ _ _ _ _ h
      · have h := h.2 q
        refine j_aload_n hE (by decide +kernel : decode cX8_goOn 126 = .ok (.aload_n 0, 1)) rfl rfl ?_
        obtain ⟨hk, h⟩ := h
        obtain ⟨a3, ha, h⟩ := h
        refine j_getRn hE fg_X8_21 hk ha (by decide +kernel : decode cX8_goOn 127 = .ok (.getfield 21, 3)) ?_
        refine j_iload hE (by decide +kernel : decode cX8_goOn 130 = .ok (.iload 6, 2)) rfl ?_
        refine j_bipush hE (by decide +kernel : decode cX8_goOn 132 = .ok (.bipush 8, 2)) (v := (8 : Int32)) (by decide) ?_
        refine j_imul hE (by decide +kernel : decode cX8_goOn 134 = .ok (.imul, 1)) ?_
        refine j_iload hE (by decide +kernel : decode cX8_goOn 135 = .ok (.iload 5, 2)) rfl ?_
        refine j_iadd hE (by decide +kernel : decode cX8_goOn 137 = .ok (.iadd, 1)) ?_
        refine j_iload hE (by decide +kernel : decode cX8_goOn 138 = .ok (.iload 7, 2)) rfl ?_
        obtain ⟨hk, hb, h⟩ := h
        obtain ⟨g4, hg⟩ : ∃ z, z = sA g (Co g a3) (Ow g a3) ((l6 * (8 : Int32)) + l5).toNatClampNeg l7 := ⟨_, rfl⟩; have h := h g4 hg
        refine j_iast hE hk hb (by decide +kernel : decode cX8_goOn 140 = .ok (.iastore, 1)) ?_
        rw [← hg]
        refine j_aload_n hE (by decide +kernel : decode cX8_goOn 141 = .ok (.aload_n 0, 1)) rfl rfl ?_
        obtain ⟨hk, h⟩ := h
        obtain ⟨a5, ha, h⟩ := h
        refine j_getRn hE fg_X8_24 hk ha (by decide +kernel : decode cX8_goOn 142 = .ok (.getfield 24, 3)) ?_
        refine j_iload hE (by decide +kernel : decode cX8_goOn 145 = .ok (.iload 4, 2)) rfl ?_
        refine j_iload hE (by decide +kernel : decode cX8_goOn 147 = .ok (.iload 5, 2)) rfl ?_
        obtain ⟨hk, hb, h⟩ := h
        obtain ⟨g6, hg⟩ : ∃ z, z = sA g4 (Co g4 a5) (Ow g4 a5) l4.toNatClampNeg l5 := ⟨_, rfl⟩; have h := h g6 hg
        refine j_iast hE hk hb (by decide +kernel : decode cX8_goOn 149 = .ok (.iastore, 1)) ?_
        rw [← hg]
        refine j_aload_n hE (by decide +kernel : decode cX8_goOn 150 = .ok (.aload_n 0, 1)) rfl rfl ?_
        refine j_iload hE (by decide +kernel : decode cX8_goOn 151 = .ok (.iload 5, 2)) rfl ?_
        refine j_iload hE (by decide +kernel : decode cX8_goOn 153 = .ok (.iload 7, 2)) rfl ?_
        refine j_aload_n hE (by decide +kernel : decode cX8_goOn 155 = .ok (.aload_n 0, 1)) rfl rfl ?_
        obtain ⟨hk, h⟩ := h
        obtain ⟨a7, ha, h⟩ := h
        refine j_getRn hE fg_X8_9 hk ha (by decide +kernel : decode cX8_goOn 156 = .ok (.getfield 9, 3)) ?_
        refine j_iload hE (by decide +kernel : decode cX8_goOn 159 = .ok (.iload 5, 2)) rfl ?_
        obtain ⟨hk, hb, h⟩ := h
        refine j_iald hE hk hb (by decide +kernel : decode cX8_goOn 161 = .ok (.iaload, 1)) ?_
        refine j_callS hE rfl cl_X8_69 st_J9_max_7cf53 ⟨by omega, by omega⟩ (As := [.int l7, .int (Ia g6 (Co g6 a7) (Ow g6 a7) l5.toNatClampNeg)]) (rest := [.int l5, .ref l0]) rfl rfl (Nat.le_of_ble_eq_true rfl) (by decide +kernel : decode cX8_goOn 162 = .ok (.invokestatic 69, 3)) (mt_Math_max_i0 _ _ _ _ h) ?_
        rintro _ g8 ⟨x9, rfl, h⟩
        refine j_aload_n hE (by decide +kernel : decode cX8_goOn 165 = .ok (.aload_n 0, 1)) rfl rfl ?_
        obtain ⟨hk, h⟩ := h
        refine j_getI hE fg_X8_30 hk (by decide +kernel : decode cX8_goOn 166 = .ok (.getfield 30, 3)) ?_
        refine j_iadd hE (by decide +kernel : decode cX8_goOn 169 = .ok (.iadd, 1)) ?_
        refine j_iload hE (by decide +kernel : decode cX8_goOn 170 = .ok (.iload 6, 2)) rfl ?_
        refine j_iload hE (by decide +kernel : decode cX8_goOn 172 = .ok (.iload 4, 2)) rfl ?_
        refine j_iconst hE (by decide +kernel : decode cX8_goOn 174 = .ok (.iconst 1, 1)) (v := (1 : Int32)) (by decide) ?_
        refine j_iadd hE (by decide +kernel : decode cX8_goOn 175 = .ok (.iadd, 1)) ?_
        obtain ⟨hk, h⟩ := h
        refine j_callV hE rfl cl_X8_61 cf_9 im_X8_goOn se_X8_goOn hR_Vn_goOn.1 (As := [.int l5, .int (x9 + (Gi g8 1158 l0)), .int l6, .int (l4 + (1 : Int32))]) (rest := []) rfl rfl (Nat.le_of_ble_eq_true rfl) hk (by decide +kernel : decode cX8_goOn 176 = .ok (.invokevirtual 61, 3)) (hR_Vn_goOn.2 _ _ _ _ _ _ _ h) ?_
        rintro _ g10 ⟨rfl, h⟩
        refine j_weak [some (.ref l0), some (.int l1), some (.int l2), some (.int l3), some (.int l4), some (.int l5), none, none, none] ⟨rfl, ⟨rfl, ⟨rfl, ⟨rfl, ⟨rfl, ⟨rfl, trivial⟩⟩⟩⟩⟩⟩ ?_
        exact S_Vn_goOn_179 hE hfr hlo hR_Vn_goOn hK37 _ _ _ _ _ _ _ h
set_option maxRecDepth 100000 in
def B_Vn_goOn_37 (Γ : GAM) (R_Vn_goOn : Nat → Int32 → Int32 → Int32 → Int32 → GH → (GH → Prop) → Prop) (K37 : Nat → Int32 → Int32 → Int32 → Int32 → Int32 → GH → Prop) (K : GH → Prop) (l0 : Nat) (l1 : Int32) (l2 : Int32) (l3 : Int32) (l4 : Int32) (l5 : Int32) (g : GH) : Prop :=
  (((8 : Int32) ≤ l5 → K g) ∧ (¬ ((8 : Int32) ≤ l5) → ∀ x1 : Int32, x1 = (l3 ||| ((1 : Int32) <<< (l5 &&& 31))) → Kd g l0 = 10 ∧ ∃ a2 : Nat, Gr g 1154 l0 = some a2 ∧ Kd g a2 = 20 ∧ inB ((l1 * (9 : Int32)) + l5) (Ln g a2) ∧ ∀ x3 : Int32, x3 = (l2 + (Ia g (Co g a2) (Ow g a2) ((l1 * (9 : Int32)) + l5).toNatClampNeg)) → Kd g l0 = 10 ∧ (((((Gi g 1159 l0) &&& (l3 ^^^ (-1 : Int32))) &&& ((1 : Int32) <<< (l5 &&& 31))) = 0 → B_Vn_goOn_89 Γ R_Vn_goOn K37 K l0 l1 l2 l3 l4 l5 x1 x3 (0 : Int32) g) ∧ (¬ ((((Gi g 1159 l0) &&& (l3 ^^^ (-1 : Int32))) &&& ((1 : Int32) <<< (l5 &&& 31))) = 0) → B_Vn_goOn_89 Γ R_Vn_goOn K37 K l0 l1 l2 l3 l4 l5 x1 x3 (1 : Int32) g))))
set_option maxHeartbeats 4000000 in
set_option maxRecDepth 100000 in
theorem S_Vn_goOn_37 {Γ : GAM} {E : EV} {fr lo : Nat} {K : GH → Prop} (hE : GE Γ E cX8_goOn 9 RX8 none fr lo (fun r g' => r = none ∧ K g')) (hfr : 1 ≤ fr) (hlo : 21 ≤ lo) {R_Vn_goOn : Nat → Int32 → Int32 → Int32 → Int32 → GH → (GH → Prop) → Prop} {f_Vn_goOn l_Vn_goOn : Nat} (hR_Vn_goOn : (f_Vn_goOn + 1 ≤ fr ∧ 8 + (9 + 11) + l_Vn_goOn ≤ lo) ∧ ∀ (th : Nat) (p0 : Int32) (p1 : Int32) (p2 : Int32) (p3 : Int32) g (K : GH → Prop), R_Vn_goOn th p0 p1 p2 p3 g K → MetA Γ E.2.1 yX8_goOn cX8_goOn 9 none f_Vn_goOn l_Vn_goOn [.ref th, .int p0, .int p1, .int p2, .int p3] g (fun r g' => r = none ∧ K g')) {K37 : Nat → Int32 → Int32 → Int32 → Int32 → Int32 → GH → Prop} (hK37 : ∀ (l0 : Nat) (l1 : Int32) (l2 : Int32) (l3 : Int32) (l4 : Int32) (l5 : Int32) (g : GH), K37 l0 l1 l2 l3 l4 l5 g → JW Γ E 37 [some (.ref l0), some (.int l1), some (.int l2), some (.int l3), some (.int l4), some (.int l5), none, none, none] [] g) (l0 : Nat) (l1 : Int32) (l2 : Int32) (l3 : Int32) (l4 : Int32) (l5 : Int32) (g : GH) (h : B_Vn_goOn_37 Γ R_Vn_goOn K37 K l0 l1 l2 l3 l4 l5 g) : JW Γ E 37 [some (.ref l0), some (.int l1), some (.int l2), some (.int l3), some (.int l4), some (.int l5), none, none, none] [] g := by
  unfold B_Vn_goOn_37 at h
  refine j_iload hE (by decide +kernel : decode cX8_goOn 37 = .ok (.iload 5, 2)) rfl ?_
  refine j_bipush hE (by decide +kernel : decode cX8_goOn 39 = .ok (.bipush 8, 2)) (v := (8 : Int32)) (by decide) ?_
  refine j_icmp_ge hE (by decide +kernel : decode cX8_goOn 41 = .ok (.if_icmp .ge 144, 3)) (tgt := 185) (by decide) (fun q => ?_) (fun q => ?_)
  · have h := h.1 q
    exact j_vret hE (by decide +kernel : decode cX8_goOn 185 = .ok (.return_, 1)) ⟨rfl, h⟩
  · have h := h.2 q
    refine j_iload_n hE (by decide +kernel : decode cX8_goOn 44 = .ok (.iload_n 3, 1)) rfl rfl ?_
    refine j_iconst hE (by decide +kernel : decode cX8_goOn 45 = .ok (.iconst 1, 1)) (v := (1 : Int32)) (by decide) ?_
    refine j_iload hE (by decide +kernel : decode cX8_goOn 46 = .ok (.iload 5, 2)) rfl ?_
    refine j_ishl hE (by decide +kernel : decode cX8_goOn 48 = .ok (.ishl, 1)) ?_
    refine j_ior hE (by decide +kernel : decode cX8_goOn 49 = .ok (.ior, 1)) ?_
    obtain ⟨x1, hx⟩ : ∃ z, z = (l3 ||| ((1 : Int32) <<< (l5 &&& 31))) := ⟨_, rfl⟩; have h := h x1 hx; rw [← hx]
    refine j_istore hE (by decide +kernel : decode cX8_goOn 50 = .ok (.istore 6, 2)) (Nat.le_of_ble_eq_true rfl) rfl ?_
    refine j_iload_n hE (by decide +kernel : decode cX8_goOn 52 = .ok (.iload_n 2, 1)) rfl rfl ?_
    refine j_aload_n hE (by decide +kernel : decode cX8_goOn 53 = .ok (.aload_n 0, 1)) rfl rfl ?_
    obtain ⟨hk, h⟩ := h
    obtain ⟨a2, ha, h⟩ := h
    refine j_getRn hE fg_X8_18 hk ha (by decide +kernel : decode cX8_goOn 54 = .ok (.getfield 18, 3)) ?_
    refine j_iload_n hE (by decide +kernel : decode cX8_goOn 57 = .ok (.iload_n 1, 1)) rfl rfl ?_
    refine j_bipush hE (by decide +kernel : decode cX8_goOn 58 = .ok (.bipush 9, 2)) (v := (9 : Int32)) (by decide) ?_
    refine j_imul hE (by decide +kernel : decode cX8_goOn 60 = .ok (.imul, 1)) ?_
    refine j_iload hE (by decide +kernel : decode cX8_goOn 61 = .ok (.iload 5, 2)) rfl ?_
    refine j_iadd hE (by decide +kernel : decode cX8_goOn 63 = .ok (.iadd, 1)) ?_
    obtain ⟨hk, hb, h⟩ := h
    refine j_iald hE hk hb (by decide +kernel : decode cX8_goOn 64 = .ok (.iaload, 1)) ?_
    refine j_iadd hE (by decide +kernel : decode cX8_goOn 65 = .ok (.iadd, 1)) ?_
    obtain ⟨x3, hx⟩ : ∃ z, z = (l2 + (Ia g (Co g a2) (Ow g a2) ((l1 * (9 : Int32)) + l5).toNatClampNeg)) := ⟨_, rfl⟩; have h := h x3 hx; rw [← hx]
    refine j_istore hE (by decide +kernel : decode cX8_goOn 66 = .ok (.istore 7, 2)) (Nat.le_of_ble_eq_true rfl) rfl ?_
    refine j_aload_n hE (by decide +kernel : decode cX8_goOn 68 = .ok (.aload_n 0, 1)) rfl rfl ?_
    obtain ⟨hk, h⟩ := h
    refine j_getI hE fg_X8_53 hk (by decide +kernel : decode cX8_goOn 69 = .ok (.getfield 53, 3)) ?_
    refine j_iload_n hE (by decide +kernel : decode cX8_goOn 72 = .ok (.iload_n 3, 1)) rfl rfl ?_
    refine j_iconst hE (by decide +kernel : decode cX8_goOn 73 = .ok (.iconst (-1), 1)) (v := (-1 : Int32)) (by decide) ?_
    refine j_ixor hE (by decide +kernel : decode cX8_goOn 74 = .ok (.ixor, 1)) ?_
    refine j_iand hE (by decide +kernel : decode cX8_goOn 75 = .ok (.iand, 1)) ?_
    refine j_iconst hE (by decide +kernel : decode cX8_goOn 76 = .ok (.iconst 1, 1)) (v := (1 : Int32)) (by decide) ?_
    refine j_iload hE (by decide +kernel : decode cX8_goOn 77 = .ok (.iload 5, 2)) rfl ?_
    refine j_ishl hE (by decide +kernel : decode cX8_goOn 79 = .ok (.ishl, 1)) ?_
    refine j_iand hE (by decide +kernel : decode cX8_goOn 80 = .ok (.iand, 1)) ?_
    refine j_if_eq hE (by decide +kernel : decode cX8_goOn 81 = .ok (.ifCond .eq 7, 3)) (tgt := 88) (by decide) (fun q => ?_) (fun q => ?_)
    · have h := h.1 q
      refine j_iconst hE (by decide +kernel : decode cX8_goOn 88 = .ok (.iconst 0, 1)) (v := (0 : Int32)) (by decide) ?_
      exact S_Vn_goOn_89 hE hfr hlo hR_Vn_goOn hK37 _ _ _ _ _ _ _ _ _ _ h
    · have h := h.2 q
      refine j_iconst hE (by decide +kernel : decode cX8_goOn 84 = .ok (.iconst 1, 1)) (v := (1 : Int32)) (by decide) ?_
      refine j_goto hE (by decide +kernel : decode cX8_goOn 85 = .ok (.goto 4, 3)) (tgt := 89) (by decide) ?_
      exact S_Vn_goOn_89 hE hfr hlo hR_Vn_goOn hK37 _ _ _ _ _ _ _ _ _ _ h
set_option maxRecDepth 100000 in
def B_Vn_goOn_15 (Γ : GAM) (R_Vn_goOn : Nat → Int32 → Int32 → Int32 → Int32 → GH → (GH → Prop) → Prop) (K37 : Nat → Int32 → Int32 → Int32 → Int32 → Int32 → GH → Prop) (K : GH → Prop) (l0 : Nat) (l1 : Int32) (l2 : Int32) (g : GH) : Prop :=
  Kd g l0 = 10 ∧ ∃ a1 : Nat, Gr g 1154 l0 = some a1 ∧ Kd g a1 = 20 ∧ inB ((l1 * (9 : Int32)) + (8 : Int32)) (Ln g a1) ∧ Kd g l0 = 10 ∧ Sp_Vn_comeHome Γ l0 (l2 + (Ia g (Co g a1) (Ow g a1) ((l1 * (9 : Int32)) + (8 : Int32)).toNatClampNeg)) g (fun (g2 : GH) => K g2)
set_option maxHeartbeats 4000000 in
set_option maxRecDepth 100000 in
theorem S_Vn_goOn_15 {Γ : GAM} {E : EV} {fr lo : Nat} {K : GH → Prop} (hE : GE Γ E cX8_goOn 9 RX8 none fr lo (fun r g' => r = none ∧ K g')) (hfr : 1 ≤ fr) (hlo : 21 ≤ lo) {R_Vn_goOn : Nat → Int32 → Int32 → Int32 → Int32 → GH → (GH → Prop) → Prop} {f_Vn_goOn l_Vn_goOn : Nat} (hR_Vn_goOn : (f_Vn_goOn + 1 ≤ fr ∧ 8 + (9 + 11) + l_Vn_goOn ≤ lo) ∧ ∀ (th : Nat) (p0 : Int32) (p1 : Int32) (p2 : Int32) (p3 : Int32) g (K : GH → Prop), R_Vn_goOn th p0 p1 p2 p3 g K → MetA Γ E.2.1 yX8_goOn cX8_goOn 9 none f_Vn_goOn l_Vn_goOn [.ref th, .int p0, .int p1, .int p2, .int p3] g (fun r g' => r = none ∧ K g')) {K37 : Nat → Int32 → Int32 → Int32 → Int32 → Int32 → GH → Prop} (hK37 : ∀ (l0 : Nat) (l1 : Int32) (l2 : Int32) (l3 : Int32) (l4 : Int32) (l5 : Int32) (g : GH), K37 l0 l1 l2 l3 l4 l5 g → JW Γ E 37 [some (.ref l0), some (.int l1), some (.int l2), some (.int l3), some (.int l4), some (.int l5), none, none, none] [] g) (l0 : Nat) (l1 : Int32) (l2 : Int32) (g : GH) (h : B_Vn_goOn_15 Γ R_Vn_goOn K37 K l0 l1 l2 g) : JW Γ E 15 [some (.ref l0), some (.int l1), some (.int l2), none, none, none, none, none, none] [] g := by
  unfold B_Vn_goOn_15 at h
  refine j_aload_n hE (by decide +kernel : decode cX8_goOn 15 = .ok (.aload_n 0, 1)) rfl rfl ?_
  refine j_iload_n hE (by decide +kernel : decode cX8_goOn 16 = .ok (.iload_n 2, 1)) rfl rfl ?_
  refine j_aload_n hE (by decide +kernel : decode cX8_goOn 17 = .ok (.aload_n 0, 1)) rfl rfl ?_
  obtain ⟨hk, h⟩ := h
  obtain ⟨a1, ha, h⟩ := h
  refine j_getRn hE fg_X8_18 hk ha (by decide +kernel : decode cX8_goOn 18 = .ok (.getfield 18, 3)) ?_
  refine j_iload_n hE (by decide +kernel : decode cX8_goOn 21 = .ok (.iload_n 1, 1)) rfl rfl ?_
  refine j_bipush hE (by decide +kernel : decode cX8_goOn 22 = .ok (.bipush 9, 2)) (v := (9 : Int32)) (by decide) ?_
  refine j_imul hE (by decide +kernel : decode cX8_goOn 24 = .ok (.imul, 1)) ?_
  refine j_bipush hE (by decide +kernel : decode cX8_goOn 25 = .ok (.bipush 8, 2)) (v := (8 : Int32)) (by decide) ?_
  refine j_iadd hE (by decide +kernel : decode cX8_goOn 27 = .ok (.iadd, 1)) ?_
  obtain ⟨hk, hb, h⟩ := h
  refine j_iald hE hk hb (by decide +kernel : decode cX8_goOn 28 = .ok (.iaload, 1)) ?_
  refine j_iadd hE (by decide +kernel : decode cX8_goOn 29 = .ok (.iadd, 1)) ?_
  obtain ⟨hk, h⟩ := h
  refine j_callV hE rfl cl_X8_65 cf_9 im_X8_comeHome se_X8_comeHome ⟨by omega, by omega⟩ (As := [.int (l2 + (Ia g (Co g a1) (Ow g a1) ((l1 * (9 : Int32)) + (8 : Int32)).toNatClampNeg))]) (rest := []) rfl rfl (Nat.le_of_ble_eq_true rfl) hk (by decide +kernel : decode cX8_goOn 30 = .ok (.invokevirtual 65, 3)) (mt_Vn_comeHome _ _ _ _ h) ?_
  rintro _ g2 ⟨rfl, h⟩
  exact j_vret hE (by decide +kernel : decode cX8_goOn 33 = .ok (.return_, 1)) ⟨rfl, h⟩
set_option maxRecDepth 100000 in
def B_Vn_goOn_0 (Γ : GAM) (R_Vn_goOn : Nat → Int32 → Int32 → Int32 → Int32 → GH → (GH → Prop) → Prop) (K37 : Nat → Int32 → Int32 → Int32 → Int32 → Int32 → GH → Prop) (K : GH → Prop) (th : Nat) (p0 : Int32) (p1 : Int32) (p2 : Int32) (p3 : Int32) (g : GH) : Prop :=
  (((8 : Int32) ≤ p3 → B_Vn_goOn_15 Γ R_Vn_goOn K37 K th p0 p1 g) ∧ (¬ ((8 : Int32) ≤ p3) → Kd g th = 10 ∧ ((¬ (p2 = (Gi g 1159 th)) → K37 th p0 p1 p2 p3 (0 : Int32) g) ∧ (p2 = (Gi g 1159 th) → B_Vn_goOn_15 Γ R_Vn_goOn K37 K th p0 p1 g))))
set_option maxHeartbeats 4000000 in
set_option maxRecDepth 100000 in
theorem S_Vn_goOn_0 {Γ : GAM} {E : EV} {fr lo : Nat} {K : GH → Prop} (hE : GE Γ E cX8_goOn 9 RX8 none fr lo (fun r g' => r = none ∧ K g')) (hfr : 1 ≤ fr) (hlo : 21 ≤ lo) {R_Vn_goOn : Nat → Int32 → Int32 → Int32 → Int32 → GH → (GH → Prop) → Prop} {f_Vn_goOn l_Vn_goOn : Nat} (hR_Vn_goOn : (f_Vn_goOn + 1 ≤ fr ∧ 8 + (9 + 11) + l_Vn_goOn ≤ lo) ∧ ∀ (th : Nat) (p0 : Int32) (p1 : Int32) (p2 : Int32) (p3 : Int32) g (K : GH → Prop), R_Vn_goOn th p0 p1 p2 p3 g K → MetA Γ E.2.1 yX8_goOn cX8_goOn 9 none f_Vn_goOn l_Vn_goOn [.ref th, .int p0, .int p1, .int p2, .int p3] g (fun r g' => r = none ∧ K g')) {K37 : Nat → Int32 → Int32 → Int32 → Int32 → Int32 → GH → Prop} (hK37 : ∀ (l0 : Nat) (l1 : Int32) (l2 : Int32) (l3 : Int32) (l4 : Int32) (l5 : Int32) (g : GH), K37 l0 l1 l2 l3 l4 l5 g → JW Γ E 37 [some (.ref l0), some (.int l1), some (.int l2), some (.int l3), some (.int l4), some (.int l5), none, none, none] [] g) (th : Nat) (p0 : Int32) (p1 : Int32) (p2 : Int32) (p3 : Int32) (g : GH) (h : B_Vn_goOn_0 Γ R_Vn_goOn K37 K th p0 p1 p2 p3 g) : JW Γ E 0 [some (.ref th), some (.int p0), some (.int p1), some (.int p2), some (.int p3), none, none, none, none] [] g := by
  unfold B_Vn_goOn_0 at h
  refine j_iload hE (by decide +kernel : decode cX8_goOn 0 = .ok (.iload 4, 2)) rfl ?_
  refine j_bipush hE (by decide +kernel : decode cX8_goOn 2 = .ok (.bipush 8, 2)) (v := (8 : Int32)) (by decide) ?_
  refine j_icmp_ge hE (by decide +kernel : decode cX8_goOn 4 = .ok (.if_icmp .ge 11, 3)) (tgt := 15) (by decide) (fun q => ?_) (fun q => ?_)
  · have h := h.1 q
    refine j_weak [some (.ref th), some (.int p0), some (.int p1), none, none, none, none, none, none] ⟨rfl, ⟨rfl, ⟨rfl, trivial⟩⟩⟩ ?_
    exact S_Vn_goOn_15 hE hfr hlo hR_Vn_goOn hK37 _ _ _ _ h
  · have h := h.2 q
    refine j_iload_n hE (by decide +kernel : decode cX8_goOn 7 = .ok (.iload_n 3, 1)) rfl rfl ?_
    refine j_aload_n hE (by decide +kernel : decode cX8_goOn 8 = .ok (.aload_n 0, 1)) rfl rfl ?_
    obtain ⟨hk, h⟩ := h
    refine j_getI hE fg_X8_53 hk (by decide +kernel : decode cX8_goOn 9 = .ok (.getfield 53, 3)) ?_
    refine j_icmp_ne hE (by decide +kernel : decode cX8_goOn 12 = .ok (.if_icmp .ne 22, 3)) (tgt := 34) (by decide) (fun q => ?_) (fun q => ?_)
    · have h := h.1 q
      refine j_iconst hE (by decide +kernel : decode cX8_goOn 34 = .ok (.iconst 0, 1)) (v := (0 : Int32)) (by decide) ?_
      refine j_istore hE (by decide +kernel : decode cX8_goOn 35 = .ok (.istore 5, 2)) (Nat.le_of_ble_eq_true rfl) rfl ?_
      exact hK37 _ _ _ _ _ _ _ h
    · have h := h.2 q
      refine j_weak [some (.ref th), some (.int p0), some (.int p1), none, none, none, none, none, none] ⟨rfl, ⟨rfl, ⟨rfl, trivial⟩⟩⟩ ?_
      exact S_Vn_goOn_15 hE hfr hlo hR_Vn_goOn hK37 _ _ _ _ h
set_option maxHeartbeats 4000000 in
set_option maxRecDepth 100000 in
theorem rl_Vn_goOn {Γ : GAM} {l : Launch} {fr lo : Nat} (hfr : 1 ≤ fr) (hlo : 21 ≤ lo) {R_Vn_goOn : Nat → Int32 → Int32 → Int32 → Int32 → GH → (GH → Prop) → Prop} {f_Vn_goOn l_Vn_goOn : Nat} (hR_Vn_goOn : (f_Vn_goOn + 1 ≤ fr ∧ 8 + (9 + 11) + l_Vn_goOn ≤ lo) ∧ ∀ (th : Nat) (p0 : Int32) (p1 : Int32) (p2 : Int32) (p3 : Int32) g (K : GH → Prop), R_Vn_goOn th p0 p1 p2 p3 g K → MetA Γ l yX8_goOn cX8_goOn 9 none f_Vn_goOn l_Vn_goOn [.ref th, .int p0, .int p1, .int p2, .int p3] g (fun r g' => r = none ∧ K g')) {th : Nat} {p0 : Int32} {p1 : Int32} {p2 : Int32} {p3 : Int32} {g : GH} {K : GH → Prop} (I37 : Nat → Nat → Int32 → Int32 → Int32 → Int32 → Int32 → GH → Prop) (hh37 : ∀ n (l0 : Nat) (l1 : Int32) (l2 : Int32) (l3 : Int32) (l4 : Int32) (l5 : Int32) (g : GH), I37 n l0 l1 l2 l3 l4 l5 g → B_Vn_goOn_37 Γ R_Vn_goOn (fun l0 l1 l2 l3 l4 l5 g => ∃ m, m < n ∧ I37 m l0 l1 l2 l3 l4 l5 g) K l0 l1 l2 l3 l4 l5 g) (h0 : B_Vn_goOn_0 Γ R_Vn_goOn (fun l0 l1 l2 l3 l4 l5 g => ∃ m, I37 m l0 l1 l2 l3 l4 l5 g) K th p0 p1 p2 p3 g) : MetA Γ l yX8_goOn cX8_goOn 9 none fr lo [.ref th, .int p0, .int p1, .int p2, .int p3] g (fun r g' => r = none ∧ K g') := by
  refine MetA.introL (Lx := [some (.ref th), some (.int p0), some (.int p1), some (.int p2), some (.int p3), none, none, none, none]) (by decide) (Nat.le_of_ble_eq_true rfl) rfl rfl ?_
  intro E hEl hE hnm
  have hR_Vn_goOn := hR_Vn_goOn; rw [← hEl] at hR_Vn_goOn
  have hall : ∀ n, (∀ (l0 : Nat) (l1 : Int32) (l2 : Int32) (l3 : Int32) (l4 : Int32) (l5 : Int32) (g : GH), I37 n l0 l1 l2 l3 l4 l5 g → JW Γ E 37 [some (.ref l0), some (.int l1), some (.int l2), some (.int l3), some (.int l4), some (.int l5), none, none, none] [] g) := by
    intro n
    induction n using Nat.strongRecOn with
    | ind n ih =>
      exact fun l0 l1 l2 l3 l4 l5 g hi => S_Vn_goOn_37 hE hfr hlo hR_Vn_goOn (fun l0 l1 l2 l3 l4 l5 g hm => by obtain ⟨m, hm, h⟩ := hm; exact (ih m hm) l0 l1 l2 l3 l4 l5 g h) l0 l1 l2 l3 l4 l5 g (hh37 n l0 l1 l2 l3 l4 l5 g hi)
  exact S_Vn_goOn_0 hE hfr hlo hR_Vn_goOn (fun l0 l1 l2 l3 l4 l5 g hm => by obtain ⟨m, h⟩ := hm; exact (hall m) l0 l1 l2 l3 l4 l5 g h) th p0 p1 p2 p3 g h0
-- the walk of Vn_boxAt
set_option maxRecDepth 100000 in
def B_Vn_boxAt_46 (Γ : GAM) (K : Int32 → GH → Prop) (s0 : Int32) (g : GH) : Prop :=
  K s0 g
set_option maxHeartbeats 4000000 in
set_option maxRecDepth 100000 in
theorem S_Vn_boxAt_46 {Γ : GAM} {E : EV} {K : Int32 → GH → Prop} (hE : GE Γ E cX8_boxAt 3 RX8 (some (.int)) 1 22 (fun r g' => ∃ x, r = some (.int x) ∧ K x g')) (s0 : Int32) (g : GH) (h : B_Vn_boxAt_46 Γ K s0 g) : JW Γ E 46 [none, none, none] [.int s0] g := by
  unfold B_Vn_boxAt_46 at h
  exact j_iret hE (by decide +kernel : decode cX8_boxAt 46 = .ok (.ireturn, 1)) ⟨_, rfl, h⟩
set_option maxRecDepth 100000 in
def B_Vn_boxAt_24 (Γ : GAM) (K : Int32 → GH → Prop) (l0 : Nat) (l1 : Int32) (s0 : Int32) (g : GH) : Prop :=
  Sp_PV_isWithin Γ l1 (0 : Int32) (s0 - (1 : Int32)) g (fun (x2 : Int32) (g1 : GH) => ((x2 = 0 → B_Vn_boxAt_46 Γ K (-1 : Int32) g1) ∧ (¬ (x2 = 0) → Kd g1 l0 = 10 ∧ ∃ a3 : Nat, Gr g1 1157 l0 = some a3 ∧ Kd g1 a3 = 20 ∧ inB l1 (Ln g1 a3) ∧ B_Vn_boxAt_46 Γ K (Ia g1 (Co g1 a3) (Ow g1 a3) l1.toNatClampNeg) g1)))
set_option maxHeartbeats 4000000 in
set_option maxRecDepth 100000 in
theorem S_Vn_boxAt_24 {Γ : GAM} {E : EV} {K : Int32 → GH → Prop} (hE : GE Γ E cX8_boxAt 3 RX8 (some (.int)) 1 22 (fun r g' => ∃ x, r = some (.int x) ∧ K x g')) (l0 : Nat) (l1 : Int32) (s0 : Int32) (g : GH) (h : B_Vn_boxAt_24 Γ K l0 l1 s0 g) : JW Γ E 24 [some (.ref l0), some (.int l1), none] [.int s0] g := by
  unfold B_Vn_boxAt_24 at h
  refine j_istore_n hE (by decide +kernel : decode cX8_boxAt 24 = .ok (.istore_n 2, 1)) rfl (Nat.le_of_ble_eq_true rfl) rfl ?_
  refine j_iload_n hE (by decide +kernel : decode cX8_boxAt 25 = .ok (.iload_n 1, 1)) rfl rfl ?_
  refine j_iconst hE (by decide +kernel : decode cX8_boxAt 26 = .ok (.iconst 0, 1)) (v := (0 : Int32)) (by decide) ?_
  refine j_iload_n hE (by decide +kernel : decode cX8_boxAt 27 = .ok (.iload_n 2, 1)) rfl rfl ?_
  refine j_iconst hE (by decide +kernel : decode cX8_boxAt 28 = .ok (.iconst 1, 1)) (v := (1 : Int32)) (by decide) ?_
  refine j_isub hE (by decide +kernel : decode cX8_boxAt 29 = .ok (.isub, 1)) ?_
  refine j_callSN hE rfl cl_X8_56 st_X10_isWithin ⟨by omega, by omega⟩ (As := [.int l1, .int (0 : Int32), .int (s0 - (1 : Int32))]) (rest := []) rfl rfl (Nat.le_of_ble_eq_true rfl) (by decide +kernel : decode cX8_boxAt 30 = .ok (.invokestatic 56, 3)) (mt_PV_isWithin _ _ _ _ _ h) ?_
  rintro _ g1 ⟨x2, rfl, h⟩
  refine j_if_eq hE (by decide +kernel : decode cX8_boxAt 33 = .ok (.ifCond .eq 12, 3)) (tgt := 45) (by decide) (fun q => ?_) (fun q => ?_)
  · have h := h.1 q
    refine j_iconst hE (by decide +kernel : decode cX8_boxAt 45 = .ok (.iconst (-1), 1)) (v := (-1 : Int32)) (by decide) ?_
    refine j_weak [none, none, none] trivial ?_
    exact S_Vn_boxAt_46 hE _ _ h
  · have h := h.2 q
    refine j_aload_n hE (by decide +kernel : decode cX8_boxAt 36 = .ok (.aload_n 0, 1)) rfl rfl ?_
    obtain ⟨hk, h⟩ := h
    obtain ⟨a3, ha, h⟩ := h
    refine j_getRn hE fg_X8_27 hk ha (by decide +kernel : decode cX8_boxAt 37 = .ok (.getfield 27, 3)) ?_
    refine j_iload_n hE (by decide +kernel : decode cX8_boxAt 40 = .ok (.iload_n 1, 1)) rfl rfl ?_
    obtain ⟨hk, hb, h⟩ := h
    refine j_iald hE hk hb (by decide +kernel : decode cX8_boxAt 41 = .ok (.iaload, 1)) ?_
    refine j_goto hE (by decide +kernel : decode cX8_boxAt 42 = .ok (.goto 4, 3)) (tgt := 46) (by decide) ?_
    refine j_weak [none, none, none] trivial ?_
    exact S_Vn_boxAt_46 hE _ _ h
set_option maxRecDepth 100000 in
def B_Vn_boxAt_0 (Γ : GAM) (K : Int32 → GH → Prop) (th : Nat) (p0 : Int32) (g : GH) : Prop :=
  Kd g th = 10 ∧ ((¬ ((Gi g 1161 th) = (-1 : Int32)) → Kd g th = 10 ∧ Kd g th = 10 ∧ ∃ a1 : Nat, Gr g 1157 th = some a1 ∧ (20 ≤ Kd g a1 ∧ Kd g a1 < 24) ∧ Sp_Math_min_i0 Γ (Gi g 1160 th) (Int32.ofNat (Ln g a1)) g (fun (x3 : Int32) (g2 : GH) => B_Vn_boxAt_24 Γ K th p0 x3 g2)) ∧ ((Gi g 1161 th) = (-1 : Int32) → B_Vn_boxAt_24 Γ K th p0 (0 : Int32) g))
set_option maxHeartbeats 4000000 in
set_option maxRecDepth 100000 in
theorem S_Vn_boxAt_0 {Γ : GAM} {E : EV} {K : Int32 → GH → Prop} (hE : GE Γ E cX8_boxAt 3 RX8 (some (.int)) 1 22 (fun r g' => ∃ x, r = some (.int x) ∧ K x g')) (th : Nat) (p0 : Int32) (g : GH) (h : B_Vn_boxAt_0 Γ K th p0 g) : JW Γ E 0 [some (.ref th), some (.int p0), none] [] g := by
  unfold B_Vn_boxAt_0 at h
  refine j_aload_n hE (by decide +kernel : decode cX8_boxAt 0 = .ok (.aload_n 0, 1)) rfl rfl ?_
  obtain ⟨hk, h⟩ := h
  refine j_getI hE fg_X8_34 hk (by decide +kernel : decode cX8_boxAt 1 = .ok (.getfield 34, 3)) ?_
  refine j_iconst hE (by decide +kernel : decode cX8_boxAt 4 = .ok (.iconst (-1), 1)) (v := (-1 : Int32)) (by decide) ?_
  refine j_icmp_ne hE (by decide +kernel : decode cX8_boxAt 5 = .ok (.if_icmp .ne 7, 3)) (tgt := 12) (by decide) (fun q => ?_) (fun q => ?_)
  · have h := h.1 q
    refine j_aload_n hE (by decide +kernel : decode cX8_boxAt 12 = .ok (.aload_n 0, 1)) rfl rfl ?_
    obtain ⟨hk, h⟩ := h
    refine j_getI hE fg_X8_50 hk (by decide +kernel : decode cX8_boxAt 13 = .ok (.getfield 50, 3)) ?_
    refine j_aload_n hE (by decide +kernel : decode cX8_boxAt 16 = .ok (.aload_n 0, 1)) rfl rfl ?_
    obtain ⟨hk, h⟩ := h
    obtain ⟨a1, ha, h⟩ := h
    refine j_getRn hE fg_X8_27 hk ha (by decide +kernel : decode cX8_boxAt 17 = .ok (.getfield 27, 3)) ?_
    obtain ⟨hk, h⟩ := h
    refine j_alen hE hk (by decide +kernel : decode cX8_boxAt 20 = .ok (.arraylength, 1)) ?_
    refine j_callS hE rfl cl_X8_75 st_J9_min_7cf53 ⟨by omega, by omega⟩ (As := [.int (Gi g 1160 th), .int (Int32.ofNat (Ln g a1))]) (rest := []) rfl rfl (Nat.le_of_ble_eq_true rfl) (by decide +kernel : decode cX8_boxAt 21 = .ok (.invokestatic 75, 3)) (mt_Math_min_i0 _ _ _ _ h) ?_
    rintro _ g2 ⟨x3, rfl, h⟩
    exact S_Vn_boxAt_24 hE _ _ _ _ h
  · have h := h.2 q
    refine j_iconst hE (by decide +kernel : decode cX8_boxAt 8 = .ok (.iconst 0, 1)) (v := (0 : Int32)) (by decide) ?_
    refine j_goto hE (by decide +kernel : decode cX8_boxAt 9 = .ok (.goto 15, 3)) (tgt := 24) (by decide) ?_
    exact S_Vn_boxAt_24 hE _ _ _ _ h
set_option maxHeartbeats 4000000 in
set_option maxRecDepth 100000 in
theorem rl_Vn_boxAt {Γ : GAM} {l : Launch} {th : Nat} {p0 : Int32} {g : GH} {K : Int32 → GH → Prop} (h0 : B_Vn_boxAt_0 Γ K th p0 g) : MetA Γ l yX8_boxAt cX8_boxAt 3 (some (.int)) 1 22 [.ref th, .int p0] g (fun r g' => ∃ x, r = some (.int x) ∧ K x g') := by
  refine MetA.introL (Lx := [some (.ref th), some (.int p0), none]) (by decide) (Nat.le_of_ble_eq_true rfl) rfl rfl ?_
  intro E hEl hE hnm
  exact S_Vn_boxAt_0 hE th p0 g h0
-- the walk of Vn_comeHome
set_option maxRecDepth 100000 in
def B_Vn_comeHome_36 (Γ : GAM) (K : GH → Prop)  (g : GH) : Prop :=
  K g
set_option maxHeartbeats 4000000 in
set_option maxRecDepth 100000 in
theorem S_Vn_comeHome_36 {Γ : GAM} {E : EV} {K : GH → Prop} (hE : GE Γ E cX8_comeHome 2 RX8 none 1 40 (fun r g' => r = none ∧ K g'))  (g : GH) (h : B_Vn_comeHome_36 Γ K  g) : JW Γ E 36 [none, none] [] g := by
  unfold B_Vn_comeHome_36 at h
  exact j_vret hE (by decide +kernel : decode cX8_comeHome 36 = .ok (.return_, 1)) ⟨rfl, h⟩
set_option maxRecDepth 100000 in
def B_Vn_comeHome_16 (Γ : GAM) (K : GH → Prop) (l0 : Nat) (l1 : Int32) (g : GH) : Prop :=
  Kd g l0 = 10 ∧ ∀ g1 : GH, g1 = sI g 1161 l0 l1 → Kd g1 l0 = 10 ∧ ∃ a2 : Nat, Gr g1 1156 l0 = some a2 ∧ Kd g1 l0 = 10 ∧ ∃ a3 : Nat, Gr g1 1157 l0 = some a3 ∧ Kd g1 a2 = 20 ∧ Kd g1 a3 = 20 ∧ 0 ≤ (0 : Int32) ∧ 0 ≤ (0 : Int32) ∧ 0 ≤ (8 : Int32) ∧ (0 : Int32).toNatClampNeg + (8 : Int32).toNatClampNeg ≤ Ln g1 a2 ∧ (0 : Int32).toNatClampNeg + (8 : Int32).toNatClampNeg ≤ Ln g1 a3 ∧ 0 < Ln g1 a3 ∧ ∀ g4 : GH, g4 = sAf g1 (Co g1 a3) (Ow g1 a3) (va_cpy (Ia g1 (Co g1 a2) (Ow g1 a2)) (Ia g1 (Co g1 a3) (Ow g1 a3)) (0 : Int32).toNatClampNeg (0 : Int32).toNatClampNeg (8 : Int32).toNatClampNeg) → B_Vn_comeHome_36 Γ K g4
set_option maxHeartbeats 4000000 in
set_option maxRecDepth 100000 in
theorem S_Vn_comeHome_16 {Γ : GAM} {E : EV} {K : GH → Prop} (hE : GE Γ E cX8_comeHome 2 RX8 none 1 40 (fun r g' => r = none ∧ K g')) (l0 : Nat) (l1 : Int32) (g : GH) (h : B_Vn_comeHome_16 Γ K l0 l1 g) : JW Γ E 16 [some (.ref l0), some (.int l1)] [] g := by
  unfold B_Vn_comeHome_16 at h
  refine j_aload_n hE (by decide +kernel : decode cX8_comeHome 16 = .ok (.aload_n 0, 1)) rfl rfl ?_
  refine j_iload_n hE (by decide +kernel : decode cX8_comeHome 17 = .ok (.iload_n 1, 1)) rfl rfl ?_
  obtain ⟨hk, h⟩ := h
  obtain ⟨g1, hg⟩ : ∃ z, z = sI g 1161 l0 l1 := ⟨_, rfl⟩; have h := h g1 hg
  refine j_putI hE fa_X8_34 hk (fun q => by cases q) (by decide +kernel : decode cX8_comeHome 18 = .ok (.putfield 34, 3)) ?_
  rw [← hg]
  refine j_aload_n hE (by decide +kernel : decode cX8_comeHome 21 = .ok (.aload_n 0, 1)) rfl rfl ?_
  obtain ⟨hk, h⟩ := h
  obtain ⟨a2, ha, h⟩ := h
  refine j_getRn hE fg_X8_24 hk ha (by decide +kernel : decode cX8_comeHome 22 = .ok (.getfield 24, 3)) ?_
  refine j_iconst hE (by decide +kernel : decode cX8_comeHome 25 = .ok (.iconst 0, 1)) (v := (0 : Int32)) (by decide) ?_
  refine j_aload_n hE (by decide +kernel : decode cX8_comeHome 26 = .ok (.aload_n 0, 1)) rfl rfl ?_
  obtain ⟨hk, h⟩ := h
  obtain ⟨a3, ha, h⟩ := h
  refine j_getRn hE fg_X8_27 hk ha (by decide +kernel : decode cX8_comeHome 27 = .ok (.getfield 27, 3)) ?_
  refine j_iconst hE (by decide +kernel : decode cX8_comeHome 30 = .ok (.iconst 0, 1)) (v := (0 : Int32)) (by decide) ?_
  refine j_bipush hE (by decide +kernel : decode cX8_comeHome 31 = .ok (.bipush 8, 2)) (v := (8 : Int32)) (by decide) ?_
  obtain ⟨hk0, hk, c1, c2, c3, c4, c5, c6, h⟩ := h
  obtain ⟨g4, hg⟩ : ∃ z, z = sAf g1 (Co g1 a3) (Ow g1 a3) (va_cpy (Ia g1 (Co g1 a2) (Ow g1 a2)) (Ia g1 (Co g1 a3) (Ow g1 a3)) (0 : Int32).toNatClampNeg (0 : Int32).toNatClampNeg (8 : Int32).toNatClampNeg) := ⟨_, rfl⟩; have h := h g4 hg
  refine j_copyi hE rfl cp_X8_78 hk0 hk c1 c2 c3 c4 c5 c6 (Nat.le_of_ble_eq_true rfl) (by omega) (by omega) (by decide +kernel : decode cX8_comeHome 33 = .ok (.invokestatic 78, 3)) ?_
  rw [← hg]
  refine j_weak [none, none] trivial ?_
  exact S_Vn_comeHome_36 hE _ h
set_option maxRecDepth 100000 in
def B_Vn_comeHome_0 (Γ : GAM) (K : GH → Prop) (th : Nat) (p0 : Int32) (g : GH) : Prop :=
  Kd g th = 10 ∧ (((Gi g 1161 th) = (-1 : Int32) → B_Vn_comeHome_16 Γ K th p0 g) ∧ (¬ ((Gi g 1161 th) = (-1 : Int32)) → Kd g th = 10 ∧ (((Gi g 1161 th) ≤ p0 → B_Vn_comeHome_36 Γ K g) ∧ (¬ ((Gi g 1161 th) ≤ p0) → B_Vn_comeHome_16 Γ K th p0 g))))
set_option maxHeartbeats 4000000 in
set_option maxRecDepth 100000 in
theorem S_Vn_comeHome_0 {Γ : GAM} {E : EV} {K : GH → Prop} (hE : GE Γ E cX8_comeHome 2 RX8 none 1 40 (fun r g' => r = none ∧ K g')) (th : Nat) (p0 : Int32) (g : GH) (h : B_Vn_comeHome_0 Γ K th p0 g) : JW Γ E 0 [some (.ref th), some (.int p0)] [] g := by
  unfold B_Vn_comeHome_0 at h
  refine j_aload_n hE (by decide +kernel : decode cX8_comeHome 0 = .ok (.aload_n 0, 1)) rfl rfl ?_
  obtain ⟨hk, h⟩ := h
  refine j_getI hE fg_X8_34 hk (by decide +kernel : decode cX8_comeHome 1 = .ok (.getfield 34, 3)) ?_
  refine j_iconst hE (by decide +kernel : decode cX8_comeHome 4 = .ok (.iconst (-1), 1)) (v := (-1 : Int32)) (by decide) ?_
  refine j_icmp_eq hE (by decide +kernel : decode cX8_comeHome 5 = .ok (.if_icmp .eq 11, 3)) (tgt := 16) (by decide) (fun q => ?_) (fun q => ?_)
  · have h := h.1 q
    exact S_Vn_comeHome_16 hE _ _ _ h
  · have h := h.2 q
    refine j_iload_n hE (by decide +kernel : decode cX8_comeHome 8 = .ok (.iload_n 1, 1)) rfl rfl ?_
    refine j_aload_n hE (by decide +kernel : decode cX8_comeHome 9 = .ok (.aload_n 0, 1)) rfl rfl ?_
    obtain ⟨hk, h⟩ := h
    refine j_getI hE fg_X8_34 hk (by decide +kernel : decode cX8_comeHome 10 = .ok (.getfield 34, 3)) ?_
    refine j_icmp_ge hE (by decide +kernel : decode cX8_comeHome 13 = .ok (.if_icmp .ge 23, 3)) (tgt := 36) (by decide) (fun q => ?_) (fun q => ?_)
    · have h := h.1 q
      refine j_weak [none, none] trivial ?_
      exact S_Vn_comeHome_36 hE _ h
    · have h := h.2 q
      exact S_Vn_comeHome_16 hE _ _ _ h
set_option maxHeartbeats 4000000 in
set_option maxRecDepth 100000 in
theorem rl_Vn_comeHome {Γ : GAM} {l : Launch} {th : Nat} {p0 : Int32} {g : GH} {K : GH → Prop} (h0 : B_Vn_comeHome_0 Γ K th p0 g) : MetA Γ l yX8_comeHome cX8_comeHome 2 none 1 40 [.ref th, .int p0] g (fun r g' => r = none ∧ K g') := by
  refine MetA.introL (Lx := [some (.ref th), some (.int p0)]) (by decide) (Nat.le_of_ble_eq_true rfl) rfl rfl ?_
  intro E hEl hE hnm
  exact S_Vn_comeHome_0 hE th p0 g h0
-- the walk of Vo_init
set_option maxRecDepth 100000 in
def B_Vo_init_0 (Γ : GAM) (K : GH → Prop) (th : Nat) (p0 : Int32) (p1 : Int32) (p2 : Int32) (g : GH) : Prop :=
  Hn g + 1 ≤ gB Γ + NCC ∧ Hu g + 3 ≤ NSS ∧ ∀ (a1 : Nat) (g2 : GH), a1 = Hn g → g2 = nO g 0 3 → (∀ f, Gi g f (Hn g) = 0) → (∀ f, Gr g f (Hn g) = none) → (∀ c, free g c (Hn g)) → (∀ a, Hn g ≤ a → Kd g a = 0) → Sp_AL_init Γ a1 g2 (fun (g3 : GH) => Kd g3 th = 11 ∧ ∀ g4 : GH, g4 = sR g3 1283 th (some a1) → Hn g4 + 1 ≤ gB Γ + NCC ∧ Hu g4 + 3 ≤ NSS ∧ ∀ (a5 : Nat) (g6 : GH), a5 = Hn g4 → g6 = nO g4 0 3 → (∀ f, Gi g4 f (Hn g4) = 0) → (∀ f, Gr g4 f (Hn g4) = none) → (∀ c, free g4 c (Hn g4)) → (∀ a, Hn g4 ≤ a → Kd g4 a = 0) → Sp_AL_init Γ a5 g6 (fun (g7 : GH) => Kd g7 th = 11 ∧ ∀ g8 : GH, g8 = sR g7 1284 th (some a5) → Kd g8 th = 11 ∧ ∀ g9 : GH, g9 = sI g8 1287 th (-1 : Int32) → Kd g9 th = 11 ∧ ∀ g10 : GH, g10 = sI g9 1288 th (-1 : Int32) → Kd g10 th = 11 ∧ ∀ g11 : GH, g11 = sI g10 1280 th p0 → Kd g11 th = 11 ∧ ∀ g12 : GH, g12 = sI g11 1281 th p1 → Kd g12 th = 11 ∧ ∀ g13 : GH, g13 = sI g12 1282 th p2 → K g13))
set_option maxHeartbeats 4000000 in
set_option maxRecDepth 100000 in
theorem S_Vo_init_0 {Γ : GAM} {E : EV} {K : GH → Prop} (hE : GE Γ E cX9_init 4 RX9 none 1 20 (fun r g' => r = none ∧ K g')) (hnm : E.2.2.2.2.2.2.2.2.1.name = "<init>") (th : Nat) (p0 : Int32) (p1 : Int32) (p2 : Int32) (g : GH) (h : B_Vo_init_0 Γ K th p0 p1 p2 g) : JW Γ E 0 [some (.ref th), some (.int p0), some (.int p1), some (.int p2)] [] g := by
  unfold B_Vo_init_0 at h
  refine j_aload_n hE (by decide +kernel : decode cX9_init 0 = .ok (.aload_n 0, 1)) rfl rfl ?_
  refine j_objInit hE rfl ol_X9 oi_in oi_code (Nat.le_of_ble_eq_true rfl) (by omega) (by omega) (by decide +kernel : decode cX9_init 1 = .ok (.invokespecial 3, 3)) ?_
  refine j_aload_n hE (by decide +kernel : decode cX9_init 4 = .ok (.aload_n 0, 1)) rfl rfl ?_
  obtain ⟨hn1, hn2, h⟩ := h
  refine j_new hE cf_0 ck_X9_9 in_Jx4a65c (by decide +kernel : decode cX9_init 5 = .ok (.new 9, 3)) hn1 hn2 (fun f1 f2 f3 f4 => ?_)
  obtain ⟨a1, ha⟩ : ∃ z, z = Hn g := ⟨_, rfl⟩; obtain ⟨g2, hg⟩ : ∃ z, z = nO g 0 3 := ⟨_, rfl⟩; have h := h a1 g2 ha hg f1 f2 f3 f4; rw [← hg, ← ha]
  refine j_dup hE (by decide +kernel : decode cX9_init 8 = .ok (.dup, 1)) rfl ?_
  refine j_callI hE rfl cl_X9_11 im_Jx4a65c_init_da8c8 rfl ⟨by omega, by omega⟩ (As := []) (rest := [.ref a1, .ref th]) (b := a1) rfl rfl (Nat.le_of_ble_eq_true rfl) (by decide +kernel : decode cX9_init 9 = .ok (.invokespecial 11, 3)) (mt_AL_init _ _ _ h) ?_
  rintro _ g3 ⟨rfl, h⟩
  obtain ⟨hk, h⟩ := h
  obtain ⟨g4, hg⟩ : ∃ z, z = sR g3 1283 th (some a1) := ⟨_, rfl⟩; have h := h g4 hg
  refine j_putR (v := (some a1)) hE fa_X9_12 hk (fun _ => hnm) (by decide +kernel : decode cX9_init 12 = .ok (.putfield 12, 3)) ?_
  rw [← hg]
  refine j_aload_n hE (by decide +kernel : decode cX9_init 15 = .ok (.aload_n 0, 1)) rfl rfl ?_
  obtain ⟨hn1, hn2, h⟩ := h
  refine j_new hE cf_0 ck_X9_9 in_Jx4a65c (by decide +kernel : decode cX9_init 16 = .ok (.new 9, 3)) hn1 hn2 (fun f1 f2 f3 f4 => ?_)
  obtain ⟨a5, ha⟩ : ∃ z, z = Hn g4 := ⟨_, rfl⟩; obtain ⟨g6, hg⟩ : ∃ z, z = nO g4 0 3 := ⟨_, rfl⟩; have h := h a5 g6 ha hg f1 f2 f3 f4; rw [← hg, ← ha]
  refine j_dup hE (by decide +kernel : decode cX9_init 19 = .ok (.dup, 1)) rfl ?_
  refine j_callI hE rfl cl_X9_11 im_Jx4a65c_init_da8c8 rfl ⟨by omega, by omega⟩ (As := []) (rest := [.ref a5, .ref th]) (b := a5) rfl rfl (Nat.le_of_ble_eq_true rfl) (by decide +kernel : decode cX9_init 20 = .ok (.invokespecial 11, 3)) (mt_AL_init _ _ _ h) ?_
  rintro _ g7 ⟨rfl, h⟩
  obtain ⟨hk, h⟩ := h
  obtain ⟨g8, hg⟩ : ∃ z, z = sR g7 1284 th (some a5) := ⟨_, rfl⟩; have h := h g8 hg
  refine j_putR (v := (some a5)) hE fa_X9_18 hk (fun _ => hnm) (by decide +kernel : decode cX9_init 23 = .ok (.putfield 18, 3)) ?_
  rw [← hg]
  refine j_aload_n hE (by decide +kernel : decode cX9_init 26 = .ok (.aload_n 0, 1)) rfl rfl ?_
  refine j_iconst hE (by decide +kernel : decode cX9_init 27 = .ok (.iconst (-1), 1)) (v := (-1 : Int32)) (by decide) ?_
  obtain ⟨hk, h⟩ := h
  obtain ⟨g9, hg⟩ : ∃ z, z = sI g8 1287 th (-1 : Int32) := ⟨_, rfl⟩; have h := h g9 hg
  refine j_putI hE fa_X9_21 hk (fun q => by cases q) (by decide +kernel : decode cX9_init 28 = .ok (.putfield 21, 3)) ?_
  rw [← hg]
  refine j_aload_n hE (by decide +kernel : decode cX9_init 31 = .ok (.aload_n 0, 1)) rfl rfl ?_
  refine j_iconst hE (by decide +kernel : decode cX9_init 32 = .ok (.iconst (-1), 1)) (v := (-1 : Int32)) (by decide) ?_
  obtain ⟨hk, h⟩ := h
  obtain ⟨g10, hg⟩ : ∃ z, z = sI g9 1288 th (-1 : Int32) := ⟨_, rfl⟩; have h := h g10 hg
  refine j_putI hE fa_X9_25 hk (fun q => by cases q) (by decide +kernel : decode cX9_init 33 = .ok (.putfield 25, 3)) ?_
  rw [← hg]
  refine j_aload_n hE (by decide +kernel : decode cX9_init 36 = .ok (.aload_n 0, 1)) rfl rfl ?_
  refine j_iload_n hE (by decide +kernel : decode cX9_init 37 = .ok (.iload_n 1, 1)) rfl rfl ?_
  obtain ⟨hk, h⟩ := h
  obtain ⟨g11, hg⟩ : ∃ z, z = sI g10 1280 th p0 := ⟨_, rfl⟩; have h := h g11 hg
  refine j_putI hE fa_X9_28 hk (fun _ => hnm) (by decide +kernel : decode cX9_init 38 = .ok (.putfield 28, 3)) ?_
  rw [← hg]
  refine j_aload_n hE (by decide +kernel : decode cX9_init 41 = .ok (.aload_n 0, 1)) rfl rfl ?_
  refine j_iload_n hE (by decide +kernel : decode cX9_init 42 = .ok (.iload_n 2, 1)) rfl rfl ?_
  obtain ⟨hk, h⟩ := h
  obtain ⟨g12, hg⟩ : ∃ z, z = sI g11 1281 th p1 := ⟨_, rfl⟩; have h := h g12 hg
  refine j_putI hE fa_X9_31 hk (fun _ => hnm) (by decide +kernel : decode cX9_init 43 = .ok (.putfield 31, 3)) ?_
  rw [← hg]
  refine j_aload_n hE (by decide +kernel : decode cX9_init 46 = .ok (.aload_n 0, 1)) rfl rfl ?_
  refine j_iload_n hE (by decide +kernel : decode cX9_init 47 = .ok (.iload_n 3, 1)) rfl rfl ?_
  obtain ⟨hk, h⟩ := h
  obtain ⟨g13, hg⟩ : ∃ z, z = sI g12 1282 th p2 := ⟨_, rfl⟩; have h := h g13 hg
  refine j_putI hE fa_X9_34 hk (fun _ => hnm) (by decide +kernel : decode cX9_init 48 = .ok (.putfield 34, 3)) ?_
  rw [← hg]
  exact j_vret hE (by decide +kernel : decode cX9_init 51 = .ok (.return_, 1)) ⟨rfl, h⟩
set_option maxHeartbeats 4000000 in
set_option maxRecDepth 100000 in
theorem rl_Vo_init {Γ : GAM} {l : Launch} {th : Nat} {p0 : Int32} {p1 : Int32} {p2 : Int32} {g : GH} {K : GH → Prop} (h0 : B_Vo_init_0 Γ K th p0 p1 p2 g) : MetA Γ l yX9_init cX9_init 4 none 1 20 [.ref th, .int p0, .int p1, .int p2] g (fun r g' => r = none ∧ K g') := by
  refine MetA.introL (Lx := [some (.ref th), some (.int p0), some (.int p1), some (.int p2)]) (by decide) (Nat.le_of_ble_eq_true rfl) rfl rfl ?_
  intro E hEl hE hnm
  exact S_Vo_init_0 hE hnm th p0 p1 p2 g h0
-- the walk of Vo_shireOn
set_option maxRecDepth 100000 in
def B_Vo_shireOn_87 (Γ : GAM) (K11 : Nat → Int32 → Int32 → Int32 → Int32 → Int32 → GH → Prop) (K : Int32 → GH → Prop) (l0 : Nat) (l1 : Int32) (l2 : Int32) (l3 : Int32) (l4 : Int32) (l5 : Int32) (g : GH) : Prop :=
  K11 l0 l1 l2 l3 l4 (l5 + (1 : Int32)) g
set_option maxHeartbeats 4000000 in
set_option maxRecDepth 100000 in
theorem S_Vo_shireOn_87 {Γ : GAM} {E : EV} {K : Int32 → GH → Prop} (hE : GE Γ E cX9_shireOn 7 RX9 (some (.int)) 1 21 (fun r g' => ∃ x, r = some (.int x) ∧ K x g')) {K11 : Nat → Int32 → Int32 → Int32 → Int32 → Int32 → GH → Prop} (hK11 : ∀ (l0 : Nat) (l1 : Int32) (l2 : Int32) (l3 : Int32) (l4 : Int32) (l5 : Int32) (g : GH), K11 l0 l1 l2 l3 l4 l5 g → JW Γ E 11 [some (.ref l0), some (.int l1), some (.int l2), some (.int l3), some (.int l4), some (.int l5), none] [] g) (l0 : Nat) (l1 : Int32) (l2 : Int32) (l3 : Int32) (l4 : Int32) (l5 : Int32) (g : GH) (h : B_Vo_shireOn_87 Γ K11 K l0 l1 l2 l3 l4 l5 g) : JW Γ E 87 [some (.ref l0), some (.int l1), some (.int l2), some (.int l3), some (.int l4), some (.int l5), none] [] g := by
  unfold B_Vo_shireOn_87 at h
  refine j_iinc hE (by decide +kernel : decode cX9_shireOn 87 = .ok (.iinc 5 1, 3)) (v := (1 : Int32)) (by decide) rfl (Nat.le_of_ble_eq_true rfl) rfl ?_
  refine j_goto hE (by decide +kernel : decode cX9_shireOn 90 = .ok (.goto (-79), 3)) (tgt := 11) (by decide) ?_
  exact hK11 _ _ _ _ _ _ _ h
set_option maxRecDepth 100000 in
def B_Vo_shireOn_11 (Γ : GAM) (K11 : Nat → Int32 → Int32 → Int32 → Int32 → Int32 → GH → Prop) (K : Int32 → GH → Prop) (l0 : Nat) (l1 : Int32) (l2 : Int32) (l3 : Int32) (l4 : Int32) (l5 : Int32) (g : GH) : Prop :=
  Kd g l0 = 11 ∧ ∃ a1 : Nat, Gr g 1283 l0 = some a1 ∧ Kd g a1 = 1 ∧ Sp_AL_size Γ a1 g (fun (x3 : Int32) (g2 : GH) => ((x3 ≤ l5 → K l3 g2) ∧ (¬ (x3 ≤ l5) → Kd g2 l0 = 11 ∧ ∃ a4 : Nat, Gr g2 1283 l0 = some a4 ∧ Kd g2 a4 = 1 ∧ Sp_AL_get Γ a4 l5 g2 (fun (a6 : Nat) (g5 : GH) => Kd g5 a6 = 9 ∧ Kd g5 a6 = 9 ∧ ((¬ ((Gi g5 1024 a6) = (1 : Int32)) → B_Vo_shireOn_87 Γ K11 K l0 l1 l2 l3 l4 l5 g5) ∧ ((Gi g5 1024 a6) = (1 : Int32) → Kd g5 a6 = 9 ∧ ((l2 < (Gi g5 1027 a6) → B_Vo_shireOn_87 Γ K11 K l0 l1 l2 l3 l4 l5 g5) ∧ (¬ (l2 < (Gi g5 1027 a6)) → Kd g5 a6 = 9 ∧ ((l1 < (Gi g5 1025 a6) → B_Vo_shireOn_87 Γ K11 K l0 l1 l2 l3 l4 l5 g5) ∧ (¬ (l1 < (Gi g5 1025 a6)) → Kd g5 a6 = 9 ∧ (((Gi g5 1025 a6) < l4 → B_Vo_shireOn_87 Γ K11 K l0 l1 l2 l3 l4 l5 g5) ∧ (¬ ((Gi g5 1025 a6) < l4) → Kd g5 a6 = 9 ∧ ∀ x7 : Int32, x7 = (Gi g5 1026 a6) → Kd g5 a6 = 9 ∧ ∀ x8 : Int32, x8 = (Gi g5 1025 a6) → B_Vo_shireOn_87 Γ K11 K l0 l1 l2 x7 x8 l5 g5))))))))))))
set_option maxHeartbeats 4000000 in
set_option maxRecDepth 100000 in
theorem S_Vo_shireOn_11 {Γ : GAM} {E : EV} {K : Int32 → GH → Prop} (hE : GE Γ E cX9_shireOn 7 RX9 (some (.int)) 1 21 (fun r g' => ∃ x, r = some (.int x) ∧ K x g')) {K11 : Nat → Int32 → Int32 → Int32 → Int32 → Int32 → GH → Prop} (hK11 : ∀ (l0 : Nat) (l1 : Int32) (l2 : Int32) (l3 : Int32) (l4 : Int32) (l5 : Int32) (g : GH), K11 l0 l1 l2 l3 l4 l5 g → JW Γ E 11 [some (.ref l0), some (.int l1), some (.int l2), some (.int l3), some (.int l4), some (.int l5), none] [] g) (l0 : Nat) (l1 : Int32) (l2 : Int32) (l3 : Int32) (l4 : Int32) (l5 : Int32) (g : GH) (h : B_Vo_shireOn_11 Γ K11 K l0 l1 l2 l3 l4 l5 g) : JW Γ E 11 [some (.ref l0), some (.int l1), some (.int l2), some (.int l3), some (.int l4), some (.int l5), none] [] g := by
  unfold B_Vo_shireOn_11 at h
  refine j_iload hE (by decide +kernel : decode cX9_shireOn 11 = .ok (.iload 5, 2)) rfl ?_
  refine j_aload_n hE (by decide +kernel : decode cX9_shireOn 13 = .ok (.aload_n 0, 1)) rfl rfl ?_
  obtain ⟨hk, h⟩ := h
  obtain ⟨a1, ha, h⟩ := h
  refine j_getRn hE fg_X9_12 hk ha (by decide +kernel : decode cX9_shireOn 14 = .ok (.getfield 12, 3)) ?_
  obtain ⟨hk, h⟩ := h
  refine j_callV hE rfl cl_X9_37 cf_0 im_Jx4a65c_size_8abf5 se_Jx4a65c_size_8abf5 ⟨by omega, by omega⟩ (As := []) (rest := [.int l5]) rfl rfl (Nat.le_of_ble_eq_true rfl) hk (by decide +kernel : decode cX9_shireOn 17 = .ok (.invokevirtual 37, 3)) (mt_AL_size _ _ _ h) ?_
  rintro _ g2 ⟨x3, rfl, h⟩
  refine j_icmp_ge hE (by decide +kernel : decode cX9_shireOn 20 = .ok (.if_icmp .ge 73, 3)) (tgt := 93) (by decide) (fun q => ?_) (fun q => ?_)
  · have h := h.1 q
    refine j_iload_n hE (by decide +kernel : decode cX9_shireOn 93 = .ok (.iload_n 3, 1)) rfl rfl ?_
    exact j_iret hE (by decide +kernel : decode cX9_shireOn 94 = .ok (.ireturn, 1)) ⟨_, rfl, h⟩
  · have h := h.2 q
    refine j_aload_n hE (by decide +kernel : decode cX9_shireOn 23 = .ok (.aload_n 0, 1)) rfl rfl ?_
    obtain ⟨hk, h⟩ := h
    obtain ⟨a4, ha, h⟩ := h
    refine j_getRn hE fg_X9_12 hk ha (by decide +kernel : decode cX9_shireOn 24 = .ok (.getfield 12, 3)) ?_
    refine j_iload hE (by decide +kernel : decode cX9_shireOn 27 = .ok (.iload 5, 2)) rfl ?_
    obtain ⟨hk, h⟩ := h
    refine j_callV hE rfl cl_X9_41 cf_0 im_Jx4a65c_get_915e3 se_Jx4a65c_get_915e3 ⟨by omega, by omega⟩ (As := [.int l5]) (rest := []) rfl rfl (Nat.le_of_ble_eq_true rfl) hk (by decide +kernel : decode cX9_shireOn 29 = .ok (.invokevirtual 41, 3)) (mt_AL_get _ _ _ _ h) ?_
    rintro _ g5 ⟨a6, rfl, h⟩
    obtain ⟨hk, h⟩ := h
    refine j_cast hE cf_8 ck_X9_45 hk (by decide +kernel : decode cX9_shireOn 32 = .ok (.checkcast 45, 3)) ?_
    refine j_astore hE (by decide +kernel : decode cX9_shireOn 35 = .ok (.astore 6, 2)) (Nat.le_of_ble_eq_true rfl) rfl ?_
    refine j_aload hE (by decide +kernel : decode cX9_shireOn 37 = .ok (.aload 6, 2)) rfl ?_
    obtain ⟨hk, h⟩ := h
    refine j_getI hE fg_X9_47 hk (by decide +kernel : decode cX9_shireOn 39 = .ok (.getfield 47, 3)) ?_
    refine j_iconst hE (by decide +kernel : decode cX9_shireOn 42 = .ok (.iconst 1, 1)) (v := (1 : Int32)) (by decide) ?_
    refine j_icmp_ne hE (by decide +kernel : decode cX9_shireOn 43 = .ok (.if_icmp .ne 44, 3)) (tgt := 87) (by decide) (fun q => ?_) (fun q => ?_)
    · have h := h.1 q
      refine j_weak [some (.ref l0), some (.int l1), some (.int l2), some (.int l3), some (.int l4), some (.int l5), none] ⟨rfl, ⟨rfl, ⟨rfl, ⟨rfl, ⟨rfl, ⟨rfl, trivial⟩⟩⟩⟩⟩⟩ ?_
      exact S_Vo_shireOn_87 hE hK11 _ _ _ _ _ _ _ h
    · have h := h.2 q
      refine j_aload hE (by decide +kernel : decode cX9_shireOn 46 = .ok (.aload 6, 2)) rfl ?_
      obtain ⟨hk, h⟩ := h
      refine j_getI hE fg_X9_50 hk (by decide +kernel : decode cX9_shireOn 48 = .ok (.getfield 50, 3)) ?_
      refine j_iload_n hE (by decide +kernel : decode cX9_shireOn 51 = .ok (.iload_n 2, 1)) rfl rfl ?_
      refine j_icmp_gt hE (by decide +kernel : decode cX9_shireOn 52 = .ok (.if_icmp .gt 35, 3)) (tgt := 87) (by decide) (fun q => ?_) (fun q => ?_)
      · have h := h.1 q
        refine j_weak [some (.ref l0), some (.int l1), some (.int l2), some (.int l3), some (.int l4), some (.int l5), none] ⟨rfl, ⟨rfl, ⟨rfl, ⟨rfl, ⟨rfl, ⟨rfl, trivial⟩⟩⟩⟩⟩⟩ ?_
        exact S_Vo_shireOn_87 hE hK11 _ _ _ _ _ _ _ h
      · have h := h.2 q
        refine j_aload hE (by decide +kernel : decode cX9_shireOn 55 = .ok (.aload 6, 2)) rfl ?_
        obtain ⟨hk, h⟩ := h
        refine j_getI hE fg_X9_53 hk (by decide +kernel : decode cX9_shireOn 57 = .ok (.getfield 53, 3)) ?_
        refine j_iload_n hE (by decide +kernel : decode cX9_shireOn 60 = .ok (.iload_n 1, 1)) rfl rfl ?_
        refine j_icmp_gt hE (by decide +kernel : decode cX9_shireOn 61 = .ok (.if_icmp .gt 26, 3)) (tgt := 87) (by decide) (fun q => ?_) (fun q => ?_)
        · have h := h.1 q
          refine j_weak [some (.ref l0), some (.int l1), some (.int l2), some (.int l3), some (.int l4), some (.int l5), none] ⟨rfl, ⟨rfl, ⟨rfl, ⟨rfl, ⟨rfl, ⟨rfl, trivial⟩⟩⟩⟩⟩⟩ ?_
          exact S_Vo_shireOn_87 hE hK11 _ _ _ _ _ _ _ h
        · have h := h.2 q
          refine j_aload hE (by decide +kernel : decode cX9_shireOn 64 = .ok (.aload 6, 2)) rfl ?_
          obtain ⟨hk, h⟩ := h
          refine j_getI hE fg_X9_53 hk (by decide +kernel : decode cX9_shireOn 66 = .ok (.getfield 53, 3)) ?_
          refine j_iload hE (by decide +kernel : decode cX9_shireOn 69 = .ok (.iload 4, 2)) rfl ?_
          refine j_icmp_lt hE (by decide +kernel : decode cX9_shireOn 71 = .ok (.if_icmp .lt 16, 3)) (tgt := 87) (by decide) (fun q => ?_) (fun q => ?_)
          · have h := h.1 q
            refine j_weak [some (.ref l0), some (.int l1), some (.int l2), some (.int l3), some (.int l4), some (.int l5), none] ⟨rfl, ⟨rfl, ⟨rfl, ⟨rfl, ⟨rfl, ⟨rfl, trivial⟩⟩⟩⟩⟩⟩ ?_
            exact S_Vo_shireOn_87 hE hK11 _ _ _ _ _ _ _ h
          · have h := h.2 q
            refine j_aload hE (by decide +kernel : decode cX9_shireOn 74 = .ok (.aload 6, 2)) rfl ?_
            obtain ⟨hk, h⟩ := h
            refine j_getI hE fg_X9_56 hk (by decide +kernel : decode cX9_shireOn 76 = .ok (.getfield 56, 3)) ?_
            obtain ⟨x7, hx⟩ : ∃ z, z = (Gi g5 1026 a6) := ⟨_, rfl⟩; have h := h x7 hx; rw [← hx]
            refine j_istore_n hE (by decide +kernel : decode cX9_shireOn 79 = .ok (.istore_n 3, 1)) rfl (Nat.le_of_ble_eq_true rfl) rfl ?_
            refine j_aload hE (by decide +kernel : decode cX9_shireOn 80 = .ok (.aload 6, 2)) rfl ?_
            obtain ⟨hk, h⟩ := h
            refine j_getI hE fg_X9_53 hk (by decide +kernel : decode cX9_shireOn 82 = .ok (.getfield 53, 3)) ?_
            obtain ⟨x8, hx⟩ : ∃ z, z = (Gi g5 1025 a6) := ⟨_, rfl⟩; have h := h x8 hx; rw [← hx]
            refine j_istore hE (by decide +kernel : decode cX9_shireOn 85 = .ok (.istore 4, 2)) (Nat.le_of_ble_eq_true rfl) rfl ?_
            refine j_weak [some (.ref l0), some (.int l1), some (.int l2), some (.int x7), some (.int x8), some (.int l5), none] ⟨rfl, ⟨rfl, ⟨rfl, ⟨rfl, ⟨rfl, ⟨rfl, trivial⟩⟩⟩⟩⟩⟩ ?_
            exact S_Vo_shireOn_87 hE hK11 _ _ _ _ _ _ _ h
set_option maxRecDepth 100000 in
def B_Vo_shireOn_0 (Γ : GAM) (K11 : Nat → Int32 → Int32 → Int32 → Int32 → Int32 → GH → Prop) (K : Int32 → GH → Prop) (th : Nat) (p0 : Int32) (p1 : Int32) (g : GH) : Prop :=
  Kd g th = 11 ∧ ∀ x1 : Int32, x1 = (Gi g 1280 th) → K11 th p0 p1 x1 (-1 : Int32) (0 : Int32) g
set_option maxHeartbeats 4000000 in
set_option maxRecDepth 100000 in
theorem S_Vo_shireOn_0 {Γ : GAM} {E : EV} {K : Int32 → GH → Prop} (hE : GE Γ E cX9_shireOn 7 RX9 (some (.int)) 1 21 (fun r g' => ∃ x, r = some (.int x) ∧ K x g')) {K11 : Nat → Int32 → Int32 → Int32 → Int32 → Int32 → GH → Prop} (hK11 : ∀ (l0 : Nat) (l1 : Int32) (l2 : Int32) (l3 : Int32) (l4 : Int32) (l5 : Int32) (g : GH), K11 l0 l1 l2 l3 l4 l5 g → JW Γ E 11 [some (.ref l0), some (.int l1), some (.int l2), some (.int l3), some (.int l4), some (.int l5), none] [] g) (th : Nat) (p0 : Int32) (p1 : Int32) (g : GH) (h : B_Vo_shireOn_0 Γ K11 K th p0 p1 g) : JW Γ E 0 [some (.ref th), some (.int p0), some (.int p1), none, none, none, none] [] g := by
  unfold B_Vo_shireOn_0 at h
  refine j_aload_n hE (by decide +kernel : decode cX9_shireOn 0 = .ok (.aload_n 0, 1)) rfl rfl ?_
  obtain ⟨hk, h⟩ := h
  refine j_getI hE fg_X9_28 hk (by decide +kernel : decode cX9_shireOn 1 = .ok (.getfield 28, 3)) ?_
  obtain ⟨x1, hx⟩ : ∃ z, z = (Gi g 1280 th) := ⟨_, rfl⟩; have h := h x1 hx; rw [← hx]
  refine j_istore_n hE (by decide +kernel : decode cX9_shireOn 4 = .ok (.istore_n 3, 1)) rfl (Nat.le_of_ble_eq_true rfl) rfl ?_
  refine j_iconst hE (by decide +kernel : decode cX9_shireOn 5 = .ok (.iconst (-1), 1)) (v := (-1 : Int32)) (by decide) ?_
  refine j_istore hE (by decide +kernel : decode cX9_shireOn 6 = .ok (.istore 4, 2)) (Nat.le_of_ble_eq_true rfl) rfl ?_
  refine j_iconst hE (by decide +kernel : decode cX9_shireOn 8 = .ok (.iconst 0, 1)) (v := (0 : Int32)) (by decide) ?_
  refine j_istore hE (by decide +kernel : decode cX9_shireOn 9 = .ok (.istore 5, 2)) (Nat.le_of_ble_eq_true rfl) rfl ?_
  exact hK11 _ _ _ _ _ _ _ h
set_option maxHeartbeats 4000000 in
set_option maxRecDepth 100000 in
theorem rl_Vo_shireOn {Γ : GAM} {l : Launch} {th : Nat} {p0 : Int32} {p1 : Int32} {g : GH} {K : Int32 → GH → Prop} (I11 : Nat → Nat → Int32 → Int32 → Int32 → Int32 → Int32 → GH → Prop) (hh11 : ∀ n (l0 : Nat) (l1 : Int32) (l2 : Int32) (l3 : Int32) (l4 : Int32) (l5 : Int32) (g : GH), I11 n l0 l1 l2 l3 l4 l5 g → B_Vo_shireOn_11 Γ (fun l0 l1 l2 l3 l4 l5 g => ∃ m, m < n ∧ I11 m l0 l1 l2 l3 l4 l5 g) K l0 l1 l2 l3 l4 l5 g) (h0 : B_Vo_shireOn_0 Γ (fun l0 l1 l2 l3 l4 l5 g => ∃ m, I11 m l0 l1 l2 l3 l4 l5 g) K th p0 p1 g) : MetA Γ l yX9_shireOn cX9_shireOn 7 (some (.int)) 1 21 [.ref th, .int p0, .int p1] g (fun r g' => ∃ x, r = some (.int x) ∧ K x g') := by
  refine MetA.introL (Lx := [some (.ref th), some (.int p0), some (.int p1), none, none, none, none]) (by decide) (Nat.le_of_ble_eq_true rfl) rfl rfl ?_
  intro E hEl hE hnm
  have hall : ∀ n, (∀ (l0 : Nat) (l1 : Int32) (l2 : Int32) (l3 : Int32) (l4 : Int32) (l5 : Int32) (g : GH), I11 n l0 l1 l2 l3 l4 l5 g → JW Γ E 11 [some (.ref l0), some (.int l1), some (.int l2), some (.int l3), some (.int l4), some (.int l5), none] [] g) := by
    intro n
    induction n using Nat.strongRecOn with
    | ind n ih =>
      exact fun l0 l1 l2 l3 l4 l5 g hi => S_Vo_shireOn_11 hE (fun l0 l1 l2 l3 l4 l5 g hm => by obtain ⟨m, hm, h⟩ := hm; exact (ih m hm) l0 l1 l2 l3 l4 l5 g h) l0 l1 l2 l3 l4 l5 g (hh11 n l0 l1 l2 l3 l4 l5 g hi)
  exact S_Vo_shireOn_0 hE (fun l0 l1 l2 l3 l4 l5 g hm => by obtain ⟨m, h⟩ := hm; exact (hall m) l0 l1 l2 l3 l4 l5 g h) th p0 p1 g h0
-- the walk of Vo_learn
set_option maxRecDepth 100000 in
def B_Vo_learn_69 (Γ : GAM) (K22 : Nat → Int32 → Int32 → GH → Prop) (K : GH → Prop) (l0 : Nat) (l1 : Int32) (l2 : Int32) (g : GH) : Prop :=
  K22 l0 l1 (l2 + (1 : Int32)) g
set_option maxHeartbeats 4000000 in
set_option maxRecDepth 100000 in
theorem S_Vo_learn_69 {Γ : GAM} {E : EV} {K : GH → Prop} (hE : GE Γ E cX9_learn 4 RX9 none 1 21 (fun r g' => r = none ∧ K g')) {K22 : Nat → Int32 → Int32 → GH → Prop} (hK22 : ∀ (l0 : Nat) (l1 : Int32) (l2 : Int32) (g : GH), K22 l0 l1 l2 g → JW Γ E 22 [some (.ref l0), some (.int l1), some (.int l2), none] [] g) (l0 : Nat) (l1 : Int32) (l2 : Int32) (g : GH) (h : B_Vo_learn_69 Γ K22 K l0 l1 l2 g) : JW Γ E 69 [some (.ref l0), some (.int l1), some (.int l2), none] [] g := by
  unfold B_Vo_learn_69 at h
  refine j_iinc hE (by decide +kernel : decode cX9_learn 69 = .ok (.iinc 2 1, 3)) (v := (1 : Int32)) (by decide) rfl (Nat.le_of_ble_eq_true rfl) rfl ?_
  refine j_goto hE (by decide +kernel : decode cX9_learn 72 = .ok (.goto (-50), 3)) (tgt := 22) (by decide) ?_
  exact hK22 _ _ _ _ h
set_option maxRecDepth 100000 in
def B_Vo_learn_22 (Γ : GAM) (K22 : Nat → Int32 → Int32 → GH → Prop) (K : GH → Prop) (l0 : Nat) (l1 : Int32) (l2 : Int32) (g : GH) : Prop :=
  Kd g l0 = 11 ∧ ∃ a1 : Nat, Gr g 1283 l0 = some a1 ∧ Kd g a1 = 1 ∧ Sp_AL_size Γ a1 g (fun (x3 : Int32) (g2 : GH) => ((x3 ≤ l2 → K g2) ∧ (¬ (x3 ≤ l2) → Kd g2 l0 = 11 ∧ ∃ a4 : Nat, Gr g2 1283 l0 = some a4 ∧ Kd g2 a4 = 1 ∧ Sp_AL_get Γ a4 l2 g2 (fun (a6 : Nat) (g5 : GH) => Kd g5 a6 = 9 ∧ Kd g5 a6 = 9 ∧ ((¬ ((Gi g5 1024 a6) = (2 : Int32)) → B_Vo_learn_69 Γ K22 K l0 l1 l2 g5) ∧ ((Gi g5 1024 a6) = (2 : Int32) → Kd g5 a6 = 9 ∧ ((l1 < (Gi g5 1027 a6) → B_Vo_learn_69 Γ K22 K l0 l1 l2 g5) ∧ (¬ (l1 < (Gi g5 1027 a6)) → Kd g5 a6 = 9 ∧ Kd g5 l0 = 11 ∧ ∀ g7 : GH, g7 = sI g5 1288 l0 (Gi g5 1025 a6) → B_Vo_learn_69 Γ K22 K l0 l1 l2 g7))))))))
set_option maxHeartbeats 4000000 in
set_option maxRecDepth 100000 in
theorem S_Vo_learn_22 {Γ : GAM} {E : EV} {K : GH → Prop} (hE : GE Γ E cX9_learn 4 RX9 none 1 21 (fun r g' => r = none ∧ K g')) {K22 : Nat → Int32 → Int32 → GH → Prop} (hK22 : ∀ (l0 : Nat) (l1 : Int32) (l2 : Int32) (g : GH), K22 l0 l1 l2 g → JW Γ E 22 [some (.ref l0), some (.int l1), some (.int l2), none] [] g) (l0 : Nat) (l1 : Int32) (l2 : Int32) (g : GH) (h : B_Vo_learn_22 Γ K22 K l0 l1 l2 g) : JW Γ E 22 [some (.ref l0), some (.int l1), some (.int l2), none] [] g := by
  unfold B_Vo_learn_22 at h
  refine j_iload_n hE (by decide +kernel : decode cX9_learn 22 = .ok (.iload_n 2, 1)) rfl rfl ?_
  refine j_aload_n hE (by decide +kernel : decode cX9_learn 23 = .ok (.aload_n 0, 1)) rfl rfl ?_
  obtain ⟨hk, h⟩ := h
  obtain ⟨a1, ha, h⟩ := h
  refine j_getRn hE fg_X9_12 hk ha (by decide +kernel : decode cX9_learn 24 = .ok (.getfield 12, 3)) ?_
  obtain ⟨hk, h⟩ := h
  refine j_callV hE rfl cl_X9_37 cf_0 im_Jx4a65c_size_8abf5 se_Jx4a65c_size_8abf5 ⟨by omega, by omega⟩ (As := []) (rest := [.int l2]) rfl rfl (Nat.le_of_ble_eq_true rfl) hk (by decide +kernel : decode cX9_learn 27 = .ok (.invokevirtual 37, 3)) (mt_AL_size _ _ _ h) ?_
  rintro _ g2 ⟨x3, rfl, h⟩
  refine j_icmp_ge hE (by decide +kernel : decode cX9_learn 30 = .ok (.if_icmp .ge 45, 3)) (tgt := 75) (by decide) (fun q => ?_) (fun q => ?_)
  · have h := h.1 q
    exact j_vret hE (by decide +kernel : decode cX9_learn 75 = .ok (.return_, 1)) ⟨rfl, h⟩
  · have h := h.2 q
    refine j_aload_n hE (by decide +kernel : decode cX9_learn 33 = .ok (.aload_n 0, 1)) rfl rfl ?_
    obtain ⟨hk, h⟩ := h
    obtain ⟨a4, ha, h⟩ := h
    refine j_getRn hE fg_X9_12 hk ha (by decide +kernel : decode cX9_learn 34 = .ok (.getfield 12, 3)) ?_
    refine j_iload_n hE (by decide +kernel : decode cX9_learn 37 = .ok (.iload_n 2, 1)) rfl rfl ?_
    obtain ⟨hk, h⟩ := h
    refine j_callV hE rfl cl_X9_41 cf_0 im_Jx4a65c_get_915e3 se_Jx4a65c_get_915e3 ⟨by omega, by omega⟩ (As := [.int l2]) (rest := []) rfl rfl (Nat.le_of_ble_eq_true rfl) hk (by decide +kernel : decode cX9_learn 38 = .ok (.invokevirtual 41, 3)) (mt_AL_get _ _ _ _ h) ?_
    rintro _ g5 ⟨a6, rfl, h⟩
    obtain ⟨hk, h⟩ := h
    refine j_cast hE cf_8 ck_X9_45 hk (by decide +kernel : decode cX9_learn 41 = .ok (.checkcast 45, 3)) ?_
    refine j_astore_n hE (by decide +kernel : decode cX9_learn 44 = .ok (.astore_n 3, 1)) rfl (Nat.le_of_ble_eq_true rfl) rfl ?_
    refine j_aload_n hE (by decide +kernel : decode cX9_learn 45 = .ok (.aload_n 3, 1)) rfl rfl ?_
    obtain ⟨hk, h⟩ := h
    refine j_getI hE fg_X9_47 hk (by decide +kernel : decode cX9_learn 46 = .ok (.getfield 47, 3)) ?_
    refine j_iconst hE (by decide +kernel : decode cX9_learn 49 = .ok (.iconst 2, 1)) (v := (2 : Int32)) (by decide) ?_
    refine j_icmp_ne hE (by decide +kernel : decode cX9_learn 50 = .ok (.if_icmp .ne 19, 3)) (tgt := 69) (by decide) (fun q => ?_) (fun q => ?_)
    · have h := h.1 q
      refine j_weak [some (.ref l0), some (.int l1), some (.int l2), none] ⟨rfl, ⟨rfl, ⟨rfl, trivial⟩⟩⟩ ?_
      exact S_Vo_learn_69 hE hK22 _ _ _ _ h
    · have h := h.2 q
      refine j_aload_n hE (by decide +kernel : decode cX9_learn 53 = .ok (.aload_n 3, 1)) rfl rfl ?_
      obtain ⟨hk, h⟩ := h
      refine j_getI hE fg_X9_50 hk (by decide +kernel : decode cX9_learn 54 = .ok (.getfield 50, 3)) ?_
      refine j_iload_n hE (by decide +kernel : decode cX9_learn 57 = .ok (.iload_n 1, 1)) rfl rfl ?_
      refine j_icmp_gt hE (by decide +kernel : decode cX9_learn 58 = .ok (.if_icmp .gt 11, 3)) (tgt := 69) (by decide) (fun q => ?_) (fun q => ?_)
      · have h := h.1 q
        refine j_weak [some (.ref l0), some (.int l1), some (.int l2), none] ⟨rfl, ⟨rfl, ⟨rfl, trivial⟩⟩⟩ ?_
        exact S_Vo_learn_69 hE hK22 _ _ _ _ h
      · have h := h.2 q
        refine j_aload_n hE (by decide +kernel : decode cX9_learn 61 = .ok (.aload_n 0, 1)) rfl rfl ?_
        refine j_aload_n hE (by decide +kernel : decode cX9_learn 62 = .ok (.aload_n 3, 1)) rfl rfl ?_
        obtain ⟨hk, h⟩ := h
        refine j_getI hE fg_X9_53 hk (by decide +kernel : decode cX9_learn 63 = .ok (.getfield 53, 3)) ?_
        obtain ⟨hk, h⟩ := h
        obtain ⟨g7, hg⟩ : ∃ z, z = sI g5 1288 l0 (Gi g5 1025 a6) := ⟨_, rfl⟩; have h := h g7 hg
        refine j_putI hE fa_X9_25 hk (fun q => by cases q) (by decide +kernel : decode cX9_learn 66 = .ok (.putfield 25, 3)) ?_
        rw [← hg]
        refine j_weak [some (.ref l0), some (.int l1), some (.int l2), none] ⟨rfl, ⟨rfl, ⟨rfl, trivial⟩⟩⟩ ?_
        exact S_Vo_learn_69 hE hK22 _ _ _ _ h
set_option maxRecDepth 100000 in
def B_Vo_learn_0 (Γ : GAM) (K22 : Nat → Int32 → Int32 → GH → Prop) (K : GH → Prop) (th : Nat) (p0 : Int32) (g : GH) : Prop :=
  Kd g th = 11 ∧ ∀ g1 : GH, g1 = sI g 1285 th (0 : Int32) → Kd g1 th = 11 ∧ ∀ g2 : GH, g2 = sI g1 1286 th (0 : Int32) → Kd g2 th = 11 ∧ ∀ g3 : GH, g3 = sI g2 1287 th (-1 : Int32) → Kd g3 th = 11 ∧ ∀ g4 : GH, g4 = sI g3 1288 th (-1 : Int32) → K22 th p0 (0 : Int32) g4
set_option maxHeartbeats 4000000 in
set_option maxRecDepth 100000 in
theorem S_Vo_learn_0 {Γ : GAM} {E : EV} {K : GH → Prop} (hE : GE Γ E cX9_learn 4 RX9 none 1 21 (fun r g' => r = none ∧ K g')) {K22 : Nat → Int32 → Int32 → GH → Prop} (hK22 : ∀ (l0 : Nat) (l1 : Int32) (l2 : Int32) (g : GH), K22 l0 l1 l2 g → JW Γ E 22 [some (.ref l0), some (.int l1), some (.int l2), none] [] g) (th : Nat) (p0 : Int32) (g : GH) (h : B_Vo_learn_0 Γ K22 K th p0 g) : JW Γ E 0 [some (.ref th), some (.int p0), none, none] [] g := by
  unfold B_Vo_learn_0 at h
  refine j_aload_n hE (by decide +kernel : decode cX9_learn 0 = .ok (.aload_n 0, 1)) rfl rfl ?_
  refine j_iconst hE (by decide +kernel : decode cX9_learn 1 = .ok (.iconst 0, 1)) (v := (0 : Int32)) (by decide) ?_
  obtain ⟨hk, h⟩ := h
  obtain ⟨g1, hg⟩ : ∃ z, z = sI g 1285 th (0 : Int32) := ⟨_, rfl⟩; have h := h g1 hg
  refine j_putI hE fa_X9_59 hk (fun q => by cases q) (by decide +kernel : decode cX9_learn 2 = .ok (.putfield 59, 3)) ?_
  rw [← hg]
  refine j_aload_n hE (by decide +kernel : decode cX9_learn 5 = .ok (.aload_n 0, 1)) rfl rfl ?_
  refine j_iconst hE (by decide +kernel : decode cX9_learn 6 = .ok (.iconst 0, 1)) (v := (0 : Int32)) (by decide) ?_
  obtain ⟨hk, h⟩ := h
  obtain ⟨g2, hg⟩ : ∃ z, z = sI g1 1286 th (0 : Int32) := ⟨_, rfl⟩; have h := h g2 hg
  refine j_putI hE fa_X9_62 hk (fun q => by cases q) (by decide +kernel : decode cX9_learn 7 = .ok (.putfield 62, 3)) ?_
  rw [← hg]
  refine j_aload_n hE (by decide +kernel : decode cX9_learn 10 = .ok (.aload_n 0, 1)) rfl rfl ?_
  refine j_iconst hE (by decide +kernel : decode cX9_learn 11 = .ok (.iconst (-1), 1)) (v := (-1 : Int32)) (by decide) ?_
  obtain ⟨hk, h⟩ := h
  obtain ⟨g3, hg⟩ : ∃ z, z = sI g2 1287 th (-1 : Int32) := ⟨_, rfl⟩; have h := h g3 hg
  refine j_putI hE fa_X9_21 hk (fun q => by cases q) (by decide +kernel : decode cX9_learn 12 = .ok (.putfield 21, 3)) ?_
  rw [← hg]
  refine j_aload_n hE (by decide +kernel : decode cX9_learn 15 = .ok (.aload_n 0, 1)) rfl rfl ?_
  refine j_iconst hE (by decide +kernel : decode cX9_learn 16 = .ok (.iconst (-1), 1)) (v := (-1 : Int32)) (by decide) ?_
  obtain ⟨hk, h⟩ := h
  obtain ⟨g4, hg⟩ : ∃ z, z = sI g3 1288 th (-1 : Int32) := ⟨_, rfl⟩; have h := h g4 hg
  refine j_putI hE fa_X9_25 hk (fun q => by cases q) (by decide +kernel : decode cX9_learn 17 = .ok (.putfield 25, 3)) ?_
  rw [← hg]
  refine j_iconst hE (by decide +kernel : decode cX9_learn 20 = .ok (.iconst 0, 1)) (v := (0 : Int32)) (by decide) ?_
  refine j_istore_n hE (by decide +kernel : decode cX9_learn 21 = .ok (.istore_n 2, 1)) rfl (Nat.le_of_ble_eq_true rfl) rfl ?_
  exact hK22 _ _ _ _ h
set_option maxHeartbeats 4000000 in
set_option maxRecDepth 100000 in
theorem rl_Vo_learn {Γ : GAM} {l : Launch} {th : Nat} {p0 : Int32} {g : GH} {K : GH → Prop} (I22 : Nat → Nat → Int32 → Int32 → GH → Prop) (hh22 : ∀ n (l0 : Nat) (l1 : Int32) (l2 : Int32) (g : GH), I22 n l0 l1 l2 g → B_Vo_learn_22 Γ (fun l0 l1 l2 g => ∃ m, m < n ∧ I22 m l0 l1 l2 g) K l0 l1 l2 g) (h0 : B_Vo_learn_0 Γ (fun l0 l1 l2 g => ∃ m, I22 m l0 l1 l2 g) K th p0 g) : MetA Γ l yX9_learn cX9_learn 4 none 1 21 [.ref th, .int p0] g (fun r g' => r = none ∧ K g') := by
  refine MetA.introL (Lx := [some (.ref th), some (.int p0), none, none]) (by decide) (Nat.le_of_ble_eq_true rfl) rfl rfl ?_
  intro E hEl hE hnm
  have hall : ∀ n, (∀ (l0 : Nat) (l1 : Int32) (l2 : Int32) (g : GH), I22 n l0 l1 l2 g → JW Γ E 22 [some (.ref l0), some (.int l1), some (.int l2), none] [] g) := by
    intro n
    induction n using Nat.strongRecOn with
    | ind n ih =>
      exact fun l0 l1 l2 g hi => S_Vo_learn_22 hE (fun l0 l1 l2 g hm => by obtain ⟨m, hm, h⟩ := hm; exact (ih m hm) l0 l1 l2 g h) l0 l1 l2 g (hh22 n l0 l1 l2 g hi)
  exact S_Vo_learn_0 hE (fun l0 l1 l2 g hm => by obtain ⟨m, h⟩ := hm; exact (hall m) l0 l1 l2 g h) th p0 g h0
