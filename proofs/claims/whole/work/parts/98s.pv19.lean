/-! the class: its post made -/
def Sp_Po_init (Γ : GAM) (th : Nat) (g : GH) (K : GH → Prop) : Prop := NEWL Γ 6 th g 7 218 ∧ NT g ∧ (∀ f, 128 ≤ f → Gi g f th = 0) ∧ ∀ D g', CNw th g g' → d_p D = th → (d_vs D = [] ∧ d_es D = []) → PoI Γ D g' st0 → COM Γ D g' → (Hn g' = Hn g + 7 ∧ Hu g' = Hu g + 218) → K g'
-- the walk of Po_init
set_option maxRecDepth 100000 in
def B_Po_init_0 (Γ : GAM) (K : GH → Prop) (th : Nat) (g : GH) : Prop :=
  Hn g + 1 ≤ gB Γ + NCC ∧ Hu g + 3 ≤ NSS ∧ ∀ (a1 : Nat) (g2 : GH), a1 = Hn g → g2 = nO g 0 3 → (∀ f, Gi g f (Hn g) = 0) → (∀ f, Gr g f (Hn g) = none) → (∀ c, free g c (Hn g)) → (∀ a, Hn g ≤ a → Kd g a = 0) → Sp_AL_init Γ a1 g2 (fun (g3 : GH) => Kd g3 th = 6 ∧ ∀ g4 : GH, g4 = sR g3 640 th (some a1) → Hn g4 + 1 ≤ gB Γ + NCC ∧ Hu g4 + 3 ≤ NSS ∧ ∀ (a5 : Nat) (g6 : GH), a5 = Hn g4 → g6 = nO g4 0 3 → (∀ f, Gi g4 f (Hn g4) = 0) → (∀ f, Gr g4 f (Hn g4) = none) → (∀ c, free g4 c (Hn g4)) → (∀ a, Hn g4 ≤ a → Kd g4 a = 0) → Sp_AL_init Γ a5 g6 (fun (g7 : GH) => Kd g7 th = 6 ∧ ∀ g8 : GH, g8 = sR g7 641 th (some a5) → Hn g8 + 1 ≤ gB Γ + NCC ∧ Hu g8 + 3 ≤ NSS ∧ ∀ (a9 : Nat) (g10 : GH), a9 = Hn g8 → g10 = nO g8 0 3 → (∀ f, Gi g8 f (Hn g8) = 0) → (∀ f, Gr g8 f (Hn g8) = none) → (∀ c, free g8 c (Hn g8)) → (∀ a, Hn g8 ≤ a → Kd g8 a = 0) → Sp_AL_init Γ a9 g10 (fun (g11 : GH) => Kd g11 th = 6 ∧ ∀ g12 : GH, g12 = sR g11 642 th (some a9) → Hn g12 + 1 ≤ gB Γ + NCC ∧ Hu g12 + 3 ≤ NSS ∧ ∀ (a13 : Nat) (g14 : GH), a13 = Hn g12 → g14 = nO g12 3 3 → (∀ f, Gi g12 f (Hn g12) = 0) → (∀ f, Gr g12 f (Hn g12) = none) → (∀ c, free g12 c (Hn g12)) → (∀ a, Hn g12 ≤ a → Kd g12 a = 0) → Sp_Ju_init Γ a13 g14 (fun (g15 : GH) => Kd g15 th = 6 ∧ ∀ g16 : GH, g16 = sR g15 643 th (some a13) → Hn g16 + 1 ≤ gB Γ + NCC ∧ Hu g16 + 3 ≤ NSS ∧ ∀ (a17 : Nat) (g18 : GH), a17 = Hn g16 → g18 = nO g16 0 3 → (∀ f, Gi g16 f (Hn g16) = 0) → (∀ f, Gr g16 f (Hn g16) = none) → (∀ c, free g16 c (Hn g16)) → (∀ a, Hn g16 ≤ a → Kd g16 a = 0) → Sp_AL_init Γ a17 g18 (fun (g19 : GH) => Kd g19 th = 6 ∧ ∀ g20 : GH, g20 = sR g19 644 th (some a17) → K g20)))))
set_option maxHeartbeats 4000000 in
set_option maxRecDepth 100000 in
theorem S_Po_init_0 {Γ : GAM} {E : EV} {K : GH → Prop} (hE : GE Γ E cX4_init 1 RX4 none 5 100 (fun r g' => r = none ∧ K g')) (hnm : E.2.2.2.2.2.2.2.2.1.name = "<init>") (th : Nat) (g : GH) (h : B_Po_init_0 Γ K th g) : JW Γ E 0 [some (.ref th)] [] g := by
  unfold B_Po_init_0 at h
  refine j_aload_n hE (by decide +kernel : decode cX4_init 0 = .ok (.aload_n 0, 1)) rfl rfl ?_
  refine j_objInit hE rfl ol_X4 oi_in oi_code (Nat.le_of_ble_eq_true rfl) (by omega) (by omega) (by decide +kernel : decode cX4_init 1 = .ok (.invokespecial 3, 3)) ?_
  refine j_aload_n hE (by decide +kernel : decode cX4_init 4 = .ok (.aload_n 0, 1)) rfl rfl ?_
  obtain ⟨hn1, hn2, h⟩ := h
  refine j_new hE cf_0 ck_X4_9 in_Jx4a65c (by decide +kernel : decode cX4_init 5 = .ok (.new 9, 3)) hn1 hn2 (fun f1 f2 f3 f4 => ?_)
  obtain ⟨a1, ha⟩ : ∃ z, z = Hn g := ⟨_, rfl⟩; obtain ⟨g2, hg⟩ : ∃ z, z = nO g 0 3 := ⟨_, rfl⟩; replace h := h a1 g2 ha hg f1 f2 f3 f4; rw [← hg, ← ha]
  refine j_dup hE (by decide +kernel : decode cX4_init 8 = .ok (.dup, 1)) rfl ?_
  refine j_callI hE rfl cl_X4_11 im_Jx4a65c_init_da8c8 rfl ⟨by omega, by omega⟩ (As := []) (rest := [.ref a1, .ref th]) (b := a1) rfl rfl (Nat.le_of_ble_eq_true rfl) (by decide +kernel : decode cX4_init 9 = .ok (.invokespecial 11, 3)) (mt_AL_init _ _ _ h) ?_
  rintro _ g3 ⟨rfl, h⟩
  obtain ⟨hk, h⟩ := h
  obtain ⟨g4, hg⟩ : ∃ z, z = sR g3 640 th (some a1) := ⟨_, rfl⟩; replace h := h g4 hg
  refine j_putR (v := (some a1)) hE fa_X4_12 hk (fun _ => hnm) (by decide +kernel : decode cX4_init 12 = .ok (.putfield 12, 3)) ?_
  rw [← hg]
  refine j_aload_n hE (by decide +kernel : decode cX4_init 15 = .ok (.aload_n 0, 1)) rfl rfl ?_
  obtain ⟨hn1, hn2, h⟩ := h
  refine j_new hE cf_0 ck_X4_9 in_Jx4a65c (by decide +kernel : decode cX4_init 16 = .ok (.new 9, 3)) hn1 hn2 (fun f1 f2 f3 f4 => ?_)
  obtain ⟨a5, ha⟩ : ∃ z, z = Hn g4 := ⟨_, rfl⟩; obtain ⟨g6, hg⟩ : ∃ z, z = nO g4 0 3 := ⟨_, rfl⟩; replace h := h a5 g6 ha hg f1 f2 f3 f4; rw [← hg, ← ha]
  refine j_dup hE (by decide +kernel : decode cX4_init 19 = .ok (.dup, 1)) rfl ?_
  refine j_callI hE rfl cl_X4_11 im_Jx4a65c_init_da8c8 rfl ⟨by omega, by omega⟩ (As := []) (rest := [.ref a5, .ref th]) (b := a5) rfl rfl (Nat.le_of_ble_eq_true rfl) (by decide +kernel : decode cX4_init 20 = .ok (.invokespecial 11, 3)) (mt_AL_init _ _ _ h) ?_
  rintro _ g7 ⟨rfl, h⟩
  obtain ⟨hk, h⟩ := h
  obtain ⟨g8, hg⟩ : ∃ z, z = sR g7 641 th (some a5) := ⟨_, rfl⟩; replace h := h g8 hg
  refine j_putR (v := (some a5)) hE fa_X4_18 hk (fun _ => hnm) (by decide +kernel : decode cX4_init 23 = .ok (.putfield 18, 3)) ?_
  rw [← hg]
  refine j_aload_n hE (by decide +kernel : decode cX4_init 26 = .ok (.aload_n 0, 1)) rfl rfl ?_
  obtain ⟨hn1, hn2, h⟩ := h
  refine j_new hE cf_0 ck_X4_9 in_Jx4a65c (by decide +kernel : decode cX4_init 27 = .ok (.new 9, 3)) hn1 hn2 (fun f1 f2 f3 f4 => ?_)
  obtain ⟨a9, ha⟩ : ∃ z, z = Hn g8 := ⟨_, rfl⟩; obtain ⟨g10, hg⟩ : ∃ z, z = nO g8 0 3 := ⟨_, rfl⟩; replace h := h a9 g10 ha hg f1 f2 f3 f4; rw [← hg, ← ha]
  refine j_dup hE (by decide +kernel : decode cX4_init 30 = .ok (.dup, 1)) rfl ?_
  refine j_callI hE rfl cl_X4_11 im_Jx4a65c_init_da8c8 rfl ⟨by omega, by omega⟩ (As := []) (rest := [.ref a9, .ref th]) (b := a9) rfl rfl (Nat.le_of_ble_eq_true rfl) (by decide +kernel : decode cX4_init 31 = .ok (.invokespecial 11, 3)) (mt_AL_init _ _ _ h) ?_
  rintro _ g11 ⟨rfl, h⟩
  obtain ⟨hk, h⟩ := h
  obtain ⟨g12, hg⟩ : ∃ z, z = sR g11 642 th (some a9) := ⟨_, rfl⟩; replace h := h g12 hg
  refine j_putR (v := (some a9)) hE fa_X4_21 hk (fun _ => hnm) (by decide +kernel : decode cX4_init 34 = .ok (.putfield 21, 3)) ?_
  rw [← hg]
  refine j_aload_n hE (by decide +kernel : decode cX4_init 37 = .ok (.aload_n 0, 1)) rfl rfl ?_
  obtain ⟨hn1, hn2, h⟩ := h
  refine j_new hE cf_3 ck_X4_24 in_X2 (by decide +kernel : decode cX4_init 38 = .ok (.new 24, 3)) hn1 hn2 (fun f1 f2 f3 f4 => ?_)
  obtain ⟨a13, ha⟩ : ∃ z, z = Hn g12 := ⟨_, rfl⟩; obtain ⟨g14, hg⟩ : ∃ z, z = nO g12 3 3 := ⟨_, rfl⟩; replace h := h a13 g14 ha hg f1 f2 f3 f4; rw [← hg, ← ha]
  refine j_dup hE (by decide +kernel : decode cX4_init 41 = .ok (.dup, 1)) rfl ?_
  refine j_callIN hE rfl cl_X4_26 im_X2_init rfl ⟨by omega, by omega⟩ (As := []) (rest := [.ref a13, .ref th]) (b := a13) rfl rfl (Nat.le_of_ble_eq_true rfl) (by decide +kernel : decode cX4_init 42 = .ok (.invokespecial 26, 3)) (mt_Ju_init _ _ _ h) ?_
  rintro _ g15 ⟨rfl, h⟩
  obtain ⟨hk, h⟩ := h
  obtain ⟨g16, hg⟩ : ∃ z, z = sR g15 643 th (some a13) := ⟨_, rfl⟩; replace h := h g16 hg
  refine j_putR (v := (some a13)) hE fa_X4_27 hk (fun _ => hnm) (by decide +kernel : decode cX4_init 45 = .ok (.putfield 27, 3)) ?_
  rw [← hg]
  refine j_aload_n hE (by decide +kernel : decode cX4_init 48 = .ok (.aload_n 0, 1)) rfl rfl ?_
  obtain ⟨hn1, hn2, h⟩ := h
  refine j_new hE cf_0 ck_X4_9 in_Jx4a65c (by decide +kernel : decode cX4_init 49 = .ok (.new 9, 3)) hn1 hn2 (fun f1 f2 f3 f4 => ?_)
  obtain ⟨a17, ha⟩ : ∃ z, z = Hn g16 := ⟨_, rfl⟩; obtain ⟨g18, hg⟩ : ∃ z, z = nO g16 0 3 := ⟨_, rfl⟩; replace h := h a17 g18 ha hg f1 f2 f3 f4; rw [← hg, ← ha]
  refine j_dup hE (by decide +kernel : decode cX4_init 52 = .ok (.dup, 1)) rfl ?_
  refine j_callI hE rfl cl_X4_11 im_Jx4a65c_init_da8c8 rfl ⟨by omega, by omega⟩ (As := []) (rest := [.ref a17, .ref th]) (b := a17) rfl rfl (Nat.le_of_ble_eq_true rfl) (by decide +kernel : decode cX4_init 53 = .ok (.invokespecial 11, 3)) (mt_AL_init _ _ _ h) ?_
  rintro _ g19 ⟨rfl, h⟩
  obtain ⟨hk, h⟩ := h
  obtain ⟨g20, hg⟩ : ∃ z, z = sR g19 644 th (some a17) := ⟨_, rfl⟩; replace h := h g20 hg
  refine j_putR (v := (some a17)) hE fa_X4_31 hk (fun _ => hnm) (by decide +kernel : decode cX4_init 56 = .ok (.putfield 31, 3)) ?_
  rw [← hg]
  exact j_vret hE (by decide +kernel : decode cX4_init 59 = .ok (.return_, 1)) ⟨rfl, h⟩
set_option maxHeartbeats 4000000 in
set_option maxRecDepth 100000 in
theorem rl_Po_init {Γ : GAM} {l : Launch} {th : Nat} {g : GH} {K : GH → Prop} (h0 : B_Po_init_0 Γ K th g) : MetA Γ l yX4_init cX4_init 1 none 5 100 [.ref th] g (fun r g' => r = none ∧ K g') := by
  refine MetA.introL (Lx := [some (.ref th)]) (by decide) (Nat.le_of_ble_eq_true rfl) rfl rfl ?_
  intro E hEl hE hnm
  exact S_Po_init_0 hE hnm th g h0
theorem mt_Po_init {Γ : GAM} {l : Launch} (th : Nat) (g : GH) (K : GH → Prop) (h : Sp_Po_init Γ th g K) : MetA Γ l yX4_init cX4_init 1 none 5 100 [.ref th] g (fun r g' => r = none ∧ K g') := by
  obtain ⟨⟨⟨n1, n2⟩, n3, n4, n5, n6⟩, hnt, hG0, hK⟩ := h
  refine MetA.rep (fun hR => MetA.ghV (rl_Po_init ?_))
  have S0 := SL.ini n1 n2 (by decide) n3 n4 hR
  unfold B_Po_init_0
  refine S0.list (F := 640) (by decide) (by simp) (by simp) (by omega) (by omega) (fun g4 S1 e1 => ?_)
  refine S1.list (F := 641) (by decide) (by simp) (by simp) (by omega) (by omega) (fun g8 S2 e2 => ?_)
  refine S2.list (F := 642) (by decide) (by simp) (by simp) (by omega) (by omega) (fun g12 S3 e3 => ?_)
  refine ⟨by omega, by omega, ?_⟩
  rintro _ g14 rfl hg14 z1 z2 z3 z4
  have hfr : ∀ F, free g14 F (Hn g12) := fun F b hb hc ho => by
    rw [hg14] at hb hc ho
    by_cases zb : b = Hn g12
    · rw [Kd_nO, if_pos zb] at hb; omega
    · rw [Kd_nO, if_neg zb] at hb
      exact z3 F b hb hc ho
  have h14 : Hn g14 = Hn g12 + 1 ∧ Hu g14 = Hu g12 + 3 := by rw [hg14]; exact ⟨rfl, rfl⟩
  have hs12 : SE Γ g12 := by
    obtain ⟨s1, s2, s3, s4⟩ := n4
    obtain ⟨y1, y2, y3, y4, y5⟩ := S3.2.2.2.2.2.2.1 _ s1
    exact ⟨by omega, y1.trans s2, y4.trans s3, y2.trans s4⟩
  have hs14 : SE Γ g14 := by
    obtain ⟨s1, s2, s3, s4⟩ := hs12
    rw [hg14]
    exact ⟨by rw [Hn_nO]; omega, by rw [Kd_nO, if_neg (by omega)]; exact s2, s3, s4⟩
  refine ⟨⟨⟨by omega, by rw [hg14, Kd_nO, if_pos rfl]⟩, hfr, hs14, by omega, by omega⟩, fun g15 hcn hJ ⟨al, hal0, hal⟩ hh => ?_⟩
  rw [hg14] at hcn
  have S4 := (S3.inner hcn (by decide)).setR (F := 643) (v := some (Hn g12)) (by decide) (by simp) (by simp)
  refine ⟨(S3.inner hcn (by decide)).kd, ?_⟩
  rintro g16 hg16
  rw [← hg16] at S4
  have hE15 := hcn.2.2.2.2.2.2
  have c16 : CNw th g15 g16 := by rw [hg16]; exact CNw.sR hE15
  have h16 : Hn g16 = Hn g15 ∧ Hu g16 = Hu g15 := by rw [hg16]; exact ⟨rfl, rfl⟩
  refine S4.listP (F := 644) (by decide) (by simp) (by simp) (by omega) (by omega) (fun g20 S5 e5 c5 r5 => ?_)
  have hnd : (([(644, Hn g16), (642, Hn g8), (641, Hn g4), (640, Hn g)] : List (Nat × Nat)).map (·.2)).Nodup := by
    simp; omega
  obtain ⟨f1, f2, f3, f4, f5⟩ := S5.fin hnd
  refine ⟨_, f1, ?_⟩
  obtain ⟨gf, hgf⟩ : ∃ gf, gf = lbs g20 th [(644, Hn g16), (642, Hn g8), (641, Hn g4), (640, Hn g)] := ⟨_, rfl⟩
  rw [← hgf] at f1 f2 f3 f4 f5 ⊢
  have A1 := f4 (640, Hn g) (by simp)
  have A2 := f4 (641, Hn g4) (by simp)
  have A3 := f4 (642, Hn g8) (by simp)
  have A4 := f4 (644, Hn g16) (by simp)
  simp only at A1 A2 A3 A4
  have hkd := S5.kd
  have h8 := f3.2.2.2.2.2.2.2.1
  have h9 := f3.2.2.2.2.2.2.2.2
  have hk6 : Kd g15 th = 6 := (S3.inner hcn (by decide)).kd
  have hJ20 := hJ.cn (c16.tr c5) (by omega) (by omega)
  have hjr : Gr g20 643 th = some (Hn g12) := by
    rw [r5 _ (by decide), hg16, Gr_sR, if_pos ⟨rfl, rfl⟩]
  have hju : Hn g12 < Hn g15 := by omega
  have hal15 : al < Hn g15 := by
    obtain ⟨_, _, al', _, ⟨l1, _⟩, hA, _⟩ := hJ
    rw [hal] at l1; cases l1
    exact hA.1.1
  have hal20 : Gr g20 384 (Hn g12) = some al := by
    rw [((c16.tr c5).1 _ _ hju (by omega)).2]; exact hal
  have hJf : JuI Γ gf (Hn g12) [] := hJ20.sm hal20 f3 (fun b hb => by
    rw [hgf]
    refine lbs_co g20 th b _ (fun x hx e => ?_)
    obtain ⟨y1, y2, _⟩ := S5.2.2.2.2.2.2.2.2.1 x hx
    rcases hb with hb | hb
    · have : x.2 = Hn g16 ∨ x.2 = Hn g8 ∨ x.2 = Hn g4 ∨ x.2 = Hn g := by
        simp only [List.mem_cons, List.not_mem_nil, or_false] at hx
        rcases hx with rfl | rfl | rfl | rfl <;> simp
      omega
    · rw [e] at y2; omega)
  have V := S5.2.2.2.2.2.2.2.2.2.2
  have hG : ∀ f, 128 ≤ f → Gi gf f th = 0 := fun f hf => by
    rw [f3.1, V f hf]; exact hG0 f hf
  obtain ⟨a1, a2, a3, a4⟩ := A1
  obtain ⟨b1, b2, b3, b4⟩ := A2
  obtain ⟨c1, c2, c3, c4⟩ := A3
  obtain ⟨d1, d2, d3, d4⟩ := A4
  refine hK ((th, Hn g, Hn g4, Hn g8, Hn g12, Hn g16), [], []) gf f2 rfl ⟨rfl, rfl⟩ ⟨⟨f2.2.2.2.2.2.2, hnt.cn f2, n4.cn f2⟩, ⟨⟨by show th < Hn gf; omega, by show Kd gf th = 6; rw [f3.2.2.2.2.2.1]; exact hkd⟩, ⟨a2, a3, a4⟩, ⟨b2, b3, b4⟩, ⟨c2, c3, c4⟩, ⟨d2, d3, d4⟩, ?_, ⟨a1.1.2, b1.1.2, c1.1.2, d1.1.2⟩, ⟨a1.1.1, b1.1.1, c1.1.1, d1.1.1⟩⟩, ⟨hG _ (by decide), hG _ (by decide), hG _ (by decide), hG _ (by decide), hG _ (by decide)⟩, ⟨a1, rfl, (fun v x hx => (by cases hx)), (fun i j x hx => (by cases hx))⟩, ⟨b1, rfl, (fun v x hx => (by cases hx))⟩, (fun e x hx => (by cases hx)), ⟨[], c1, rfl, (fun i x y hx => (by cases hx))⟩, hJf⟩ ⟨[], d1, (fun x hx => (by cases hx))⟩ ⟨by omega, by omega⟩
  show Gr gf 643 th = some (Hn g12)
  rw [f3.2.1]; exact hjr
/-- the post, when another's object is written -/
theorem PoI.cn {Γ : GAM} {D : DIR} {g g' : GH} {th : Nat} (h : PoI Γ D g st0) (hv : d_vs D = [] ∧ d_es D = []) (k : CNw th g g') (hk : Kd g th = 12) : PoI Γ D g' st0 := by
  obtain ⟨⟨he, ht, hs⟩, ⟨⟨p1, p2⟩, ⟨v1, v2, v3⟩, ⟨e1, e2, e3⟩, ⟨m1, m2, m3⟩, ⟨c1, c2, c3⟩, j1, ⟨k1, k2, k3, k4⟩, ⟨b1, b2, b3, b4⟩⟩, ⟨t1, t2, t3, t4, t5⟩, ⟨q1, -⟩, ⟨r1, -⟩, -, ⟨xs, w1, w2, -⟩, hj⟩ := h
  have hne : ∀ a, Kd g a ≠ 12 → a ≠ th := fun a ha z => ha (by rw [z]; exact hk)
  have hx : xs = [] := List.eq_nil_of_length_eq_zero w2
  subst hx
  rw [hv.1] at q1
  rw [hv.2] at r1
  have np := hne _ (show Kd g (d_p D) ≠ 12 by omega)
  obtain ⟨x1, x2, x3, x4, x5, x6, x7⟩ := k
  have kp := x3 _ p1
  have kv := x3 _ b1
  have ke := x3 _ b2
  have km := x3 _ b3
  have kc := x3 _ b4
  have G := fun f => x1 f _ p1 np
  have k : CNw th g g' := ⟨x1, x2, x3, x4, x5, x6, x7⟩
  refine ⟨⟨x7, ht.cn k, hs.cn k⟩, ⟨⟨by omega, kp.1.trans p2⟩, ⟨by rw [(G _).2]; exact v1, kv.2.1.trans v2, kv.2.2.1.trans v3⟩, ⟨by rw [(G _).2]; exact e1, ke.2.1.trans e2, ke.2.2.1.trans e3⟩, ⟨by rw [(G _).2]; exact m1, km.2.1.trans m2, km.2.2.1.trans m3⟩, ⟨by rw [(G _).2]; exact c1, kc.2.1.trans c2, kc.2.2.1.trans c3⟩, by rw [(G _).2]; exact j1, ⟨kv.1.trans k1, ke.1.trans k2, km.1.trans k3, kc.1.trans k4⟩, ⟨by omega, by omega, by omega, by omega⟩⟩, ⟨by rw [(G _).1]; exact t1, by rw [(G _).1]; exact t2, by rw [(G _).1]; exact t3, by rw [(G _).1]; exact t4, by rw [(G _).1]; exact t5⟩, ⟨by rw [hv.1]; exact q1.cn k (hne _ (by omega)), by rw [hv.1]; rfl, (fun v x hx => (by rw [hv.1] at hx; cases hx)), (fun i j x hx => (by rw [hv.1] at hx; cases hx))⟩, ⟨by rw [hv.2]; exact r1.cn k (hne _ (by omega)), by rw [hv.2]; rfl, (fun v x hx => (by rw [hv.2] at hx; cases hx))⟩, (fun e x hx => (by rw [hv.2] at hx; cases hx)), ⟨[], w1.cn k (hne _ (by omega)), rfl, (fun i x y hx => (by cases hx))⟩, hj.cn k (hne _ (by have := hj.1.2; omega)) (by omega)⟩
theorem COM.cn {Γ : GAM} {D : DIR} {g g' : GH} {th : Nat} (h : COM Γ D g) (k : CNw th g g') (hk : Kd g th = 12) : COM Γ D g' := by
  obtain ⟨cs, h1, h2⟩ := h
  refine ⟨cs, h1.cn k (fun z => by have := h1.1.2; rw [z] at this; omega), fun x hx => ?_⟩
  obtain ⟨q1, q2⟩ := h2 x hx
  exact ⟨Nat.lt_of_lt_of_le q1 k.2.2.2.2.1, (k.2.2.1 x q1).1.trans q2⟩
theorem CNw.ar {th : Nat} {g g' : GH} (k : CNw th g g') (he : EN g) {m F a c o n : Nat} (hm : m < Hn g) (hne : m ≠ th) (h : Gr g F m = some a ∧ Kd g a = 20 ∧ Co g a = c ∧ Ow g a = o ∧ Ln g a = n) : Gr g' F m = some a ∧ Kd g' a = 20 ∧ Co g' a = c ∧ Ow g' a = o ∧ Ln g' a = n := by
  obtain ⟨h1, h2, h3, h4, h5⟩ := h
  obtain ⟨k1, k2, k3, k4, k5⟩ := k.2.2.1 a (he.lt (by omega))
  exact ⟨by rw [(k.1 F m hm hne).2]; exact h1, k1.trans h2, k2.trans h3, k3.trans h4, k4.trans h5⟩
theorem TT.cn {th m : Nat} {g g' : GH} {t : List Int32} (h : TT m g t) (k : CNw th g g') (he : EN g) (hne : m ≠ th) : TT m g' t := by
  obtain ⟨⟨h0, a, b, c, d, h1, h2, h3, h4⟩, q1, q2, q3, q4⟩ := h
  have hm : m < Hn g := he.lt (by omega)
  refine ⟨⟨(k.2.2.1 m hm).1.trans h0, a, b, c, d, k.ar he hm hne h1, k.ar he hm hne h2, k.ar he hm hne h3, k.ar he hm hne h4⟩, by rw [(k.1 _ m hm hne).1]; exact q1, q2, fun i x hx => ?_, q4⟩
  rw [(k.2.1 _ m hm hne).1]; exact q3 i x hx
theorem PrI.cn {th m : Nat} {g g' : GH} {s : ST} (h : PrI m g s) (k : CNw th g g') (he : EN g) (hne : m ≠ th) : PrI m g' s := by
  obtain ⟨⟨h0, a, b, c, d, e, h1, h2, h3, h4, h5⟩, q1, q2, q3⟩ := h
  have hm : m < Hn g := he.lt (by omega)
  refine ⟨⟨(k.2.2.1 m hm).1.trans h0, a, b, c, d, e, k.ar he hm hne h1, k.ar he hm hne h2, k.ar he hm hne h3, k.ar he hm hne h4, k.ar he hm hne h5⟩, by rw [(k.1 _ m hm hne).1]; exact q1, by rw [(k.1 _ m hm hne).1]; exact q2, fun i x hx => ?_⟩
  rw [(k.2.1 _ m hm hne).1, (k.2.1 _ m hm hne).1, (k.2.1 _ m hm hne).1]
  exact q3 i x hx
theorem VnI.cn {th m : Nat} {g g' : GH} {s : ST} (h : VnI m g s) (k : CNw th g g') (he : EN g) (hne : m ≠ th) : VnI m g' s := by
  obtain ⟨⟨⟨h0, a1, a2, a3, a4, a5, a6, h1, h2, h3, h4, h5, h6⟩, b, c, d, e, f⟩, h⟩ := h
  have hm : m < Hn g := he.lt (by omega)
  have gi : ∀ f, Gi g' f m = Gi g f m := fun f => (k.1 f m hm hne).1
  have ia : ∀ c, Ia g' c m = Ia g c m := fun c => (k.2.1 c m hm hne).1
  unfold VnI VnB VD
  simp only [gi, ia]
  exact ⟨⟨⟨(k.2.2.1 m hm).1.trans h0, a1, a2, a3, a4, a5, a6, k.ar he hm hne h1, k.ar he hm hne h2, k.ar he hm hne h3, k.ar he hm hne h4, k.ar he hm hne h5, k.ar he hm hne h6⟩, b, c, d, e, f⟩, h⟩
