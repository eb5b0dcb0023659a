/-! Arrays.copyOf of ints, to a shorter length -/
def Sp_Arrays_copyOf_0 (Γ : GAM) (p0 : Nat) (p1 : Int32) (g : GH) (K : Nat → GH → Prop) : Prop := (p0 < Hn g ∧ Kd g p0 = 20) ∧ ∃ n, p1 = nI n ∧ 1 ≤ n ∧ n < Ln g p0 ∧ Ln g p0 ≤ 60000 ∧ NT g ∧ Hn g + 1 ≤ gB Γ + NCC ∧ Hu g + n ≤ NSS ∧ ∃ c o, o < Hn g ∧ free g c o ∧ ∀ g', g' = rl2 (sAf (nA g 20 999 0 n) 999 0 (va_cpy (Ia g (Co g p0) (Ow g p0)) (fun _ => 0) 0 0 n)) (Hn g) c o → K (Hn g) g'
-- the walk of Arrays_copyOf_0
set_option maxRecDepth 100000 in
def B_Arrays_copyOf_0_0 (Γ : GAM) (K : Nat → GH → Prop) (p0 : Nat) (p1 : Int32) (g : GH) : Prop :=
  (20 ≤ Kd g p0 ∧ Kd g p0 < 24) ∧ ((¬ (p1 = (Int32.ofNat (Ln g p0))) → 0 ≤ p1 ∧ p1.toNatClampNeg ≤ 60000000 ∧ 0 < Hn g ∧ free g 999 0 ∧ Hn g + 1 ≤ gB Γ + NCC ∧ Hu g + p1.toNatClampNeg ≤ NSS ∧ ∀ (a1 : Nat) (g2 : GH), a1 = Hn g → g2 = nA g 20 999 0 (p1.toNatClampNeg) → (20 ≤ Kd g2 p0 ∧ Kd g2 p0 < 24) ∧ Kd g2 p0 = 20 ∧ Kd g2 a1 = 20 ∧ 0 ≤ (0 : Int32) ∧ 0 ≤ (0 : Int32) ∧ 0 ≤ (if p1 < (Int32.ofNat (Ln g2 p0)) then p1 else (Int32.ofNat (Ln g2 p0))) ∧ (0 : Int32).toNatClampNeg + (if p1 < (Int32.ofNat (Ln g2 p0)) then p1 else (Int32.ofNat (Ln g2 p0))).toNatClampNeg ≤ Ln g2 p0 ∧ (0 : Int32).toNatClampNeg + (if p1 < (Int32.ofNat (Ln g2 p0)) then p1 else (Int32.ofNat (Ln g2 p0))).toNatClampNeg ≤ Ln g2 a1 ∧ 0 < Ln g2 a1 ∧ ∀ g3 : GH, g3 = sAf g2 (Co g2 a1) (Ow g2 a1) (va_cpy (Ia g2 (Co g2 p0) (Ow g2 p0)) (Ia g2 (Co g2 a1) (Ow g2 a1)) (0 : Int32).toNatClampNeg (0 : Int32).toNatClampNeg (if p1 < (Int32.ofNat (Ln g2 p0)) then p1 else (Int32.ofNat (Ln g2 p0))).toNatClampNeg) → K a1 g3) ∧ (p1 = (Int32.ofNat (Ln g p0)) → False))
set_option maxHeartbeats 4000000 in
set_option maxRecDepth 100000 in
theorem S_Arrays_copyOf_0_0 {Γ : GAM} {E : EV} {K : Nat → GH → Prop} (hE : GE Γ E cJ7_copyOf_59c91 3 RJ7 (some (.array .int)) 1 40 (fun r g' => ∃ x, r = some (.ref x) ∧ K x g')) (p0 : Nat) (p1 : Int32) (g : GH) (h : B_Arrays_copyOf_0_0 Γ K p0 p1 g) : JW Γ E 0 [some (.ref p0), some (.int p1), none] [] g := by
  unfold B_Arrays_copyOf_0_0 at h
  refine j_iload_n hE (by decide +kernel : decode cJ7_copyOf_59c91 0 = .ok (.iload_n 1, 1)) rfl rfl ?_
  refine j_aload_n hE (by decide +kernel : decode cJ7_copyOf_59c91 1 = .ok (.aload_n 0, 1)) rfl rfl ?_
  obtain ⟨hk, h⟩ := h
  refine j_alen hE hk (by decide +kernel : decode cJ7_copyOf_59c91 2 = .ok (.arraylength, 1)) ?_
  refine j_icmp_ne hE (by decide +kernel : decode cJ7_copyOf_59c91 3 = .ok (.if_icmp .ne 11, 3)) (tgt := 14) (by decide) (fun q => ?_) (fun q => ?_)
  · replace h := h.1 q
    refine j_iload_n hE (by decide +kernel : decode cJ7_copyOf_59c91 14 = .ok (.iload_n 1, 1)) rfl rfl ?_
    obtain ⟨hp, hm, h⟩ := h
    obtain ⟨ho1, hf1, hn1, hn2, h⟩ := h
    obtain ⟨a1, ha⟩ : ∃ z, z = Hn g := ⟨_, rfl⟩; obtain ⟨g2, hg⟩ : ∃ z, z = nA g 20 999 0 (p1.toNatClampNeg) := ⟨_, rfl⟩; replace h := h a1 g2 ha hg
    refine j_newarray (k := 20) (co := 999) (ow := 0) (n := (p1.toNatClampNeg)) (atype := .int) hE ac_int (Or.inl ⟨rfl, rfl⟩) hp rfl hm ho1 hf1 (by decide +kernel : decode cJ7_copyOf_59c91 15 = .ok (.newarray .int, 2)) hn1 hn2 ?_
    rw [← hg, ← ha]
    refine j_astore_n hE (by decide +kernel : decode cJ7_copyOf_59c91 17 = .ok (.astore_n 2, 1)) rfl (Nat.le_of_ble_eq_true rfl) rfl ?_
    refine j_aload_n hE (by decide +kernel : decode cJ7_copyOf_59c91 18 = .ok (.aload_n 0, 1)) rfl rfl ?_
    refine j_iconst hE (by decide +kernel : decode cJ7_copyOf_59c91 19 = .ok (.iconst 0, 1)) (v := (0 : Int32)) (by decide) ?_
    refine j_aload_n hE (by decide +kernel : decode cJ7_copyOf_59c91 20 = .ok (.aload_n 2, 1)) rfl rfl ?_
    refine j_iconst hE (by decide +kernel : decode cJ7_copyOf_59c91 21 = .ok (.iconst 0, 1)) (v := (0 : Int32)) (by decide) ?_
    refine j_aload_n hE (by decide +kernel : decode cJ7_copyOf_59c91 22 = .ok (.aload_n 0, 1)) rfl rfl ?_
    obtain ⟨hk, h⟩ := h
    refine j_alen hE hk (by decide +kernel : decode cJ7_copyOf_59c91 23 = .ok (.arraylength, 1)) ?_
    refine j_iload_n hE (by decide +kernel : decode cJ7_copyOf_59c91 24 = .ok (.iload_n 1, 1)) rfl rfl ?_
    refine j_mmin hE rfl ml_J7_304 st_J9_min_7cf53 in_Math co_J9_min_7cf53 (Nat.le_of_ble_eq_true rfl) (by omega) (by omega) (by decide +kernel : decode cJ7_copyOf_59c91 25 = .ok (.invokestatic 304, 3)) ?_
    obtain ⟨hk0, hk, c1, c2, c3, c4, c5, c6, h⟩ := h
    obtain ⟨g3, hg⟩ : ∃ z, z = sAf g2 (Co g2 a1) (Ow g2 a1) (va_cpy (Ia g2 (Co g2 p0) (Ow g2 p0)) (Ia g2 (Co g2 a1) (Ow g2 a1)) (0 : Int32).toNatClampNeg (0 : Int32).toNatClampNeg (if p1 < (Int32.ofNat (Ln g2 p0)) then p1 else (Int32.ofNat (Ln g2 p0))).toNatClampNeg) := ⟨_, rfl⟩; replace h := h g3 hg
    refine j_copyi hE rfl cp_J7_150 hk0 hk c1 c2 c3 c4 c5 c6 (Nat.le_of_ble_eq_true rfl) (by omega) (by omega) (by decide +kernel : decode cJ7_copyOf_59c91 28 = .ok (.invokestatic 150, 3)) ?_
    rw [← hg]
    refine j_aload_n hE (by decide +kernel : decode cJ7_copyOf_59c91 31 = .ok (.aload_n 2, 1)) rfl rfl ?_
    exact j_aret (v := some a1) hE (Or.inr ⟨_, rfl⟩) (by decide +kernel : decode cJ7_copyOf_59c91 32 = .ok (.areturn, 1)) ⟨_, rfl, h⟩
  · replace h := h.2 q
    refine j_aload_n hE (by decide +kernel : decode cJ7_copyOf_59c91 6 = .ok (.aload_n 0, 1)) rfl rfl ?_
    exact h.elim
set_option maxHeartbeats 4000000 in
set_option maxRecDepth 100000 in
theorem rl_Arrays_copyOf_0 {Γ : GAM} {l : Launch} {p0 : Nat} {p1 : Int32} {g : GH} {K : Nat → GH → Prop} (h0 : B_Arrays_copyOf_0_0 Γ K p0 p1 g) : MetA Γ l yJ7_copyOf_59c91 cJ7_copyOf_59c91 3 (some (.array .int)) 1 40 [.ref p0, .int p1] g (fun r g' => ∃ x, r = some (.ref x) ∧ K x g') := by
  refine MetA.introL (Lx := [some (.ref p0), some (.int p1), none]) (by decide) (Nat.le_of_ble_eq_true rfl) rfl rfl ?_
  intro E hEl hE hnm
  exact S_Arrays_copyOf_0_0 hE p0 p1 g h0
theorem mt_Arrays_copyOf_0 {Γ : GAM} {l : Launch} (p0 : Nat) (p1 : Int32) (g : GH) (K : Nat → GH → Prop) (h : Sp_Arrays_copyOf_0 Γ p0 p1 g K) : MetA Γ l yJ7_copyOf_59c91 cJ7_copyOf_59c91 3 (some (.array .int)) 1 40 [.ref p0, .int p1] g (fun r g' => ∃ x, r = some (.ref x) ∧ K x g') := by
  obtain ⟨⟨h1, h2⟩, n, rfl, hn1, hn2, hl, hnt, r1, r2, c, o, ho, hf, hK⟩ := h
  have hne : p0 ≠ Hn g := by omega
  have hlab : ¬ (Co g p0 = 999 ∧ Ow g p0 = 0) := fun q => (hnt p0 (by omega)).2 q.1
  refine MetA.ghR (rl_Arrays_copyOf_0 (K := fun x g' => ∃ g2, (∀ H, Rep Γ g' H → Rep Γ g2 H) ∧ K x g2) ?_)
  unfold B_Arrays_copyOf_0_0
  refine ⟨⟨by omega, by omega⟩, fun _ => ⟨nj_nneg (by omega), by rw [nj_cl (by omega)]; omega, by omega, fun b q1 q2 => absurd q2 (hnt b q1).2, r1, by rw [nj_cl (by omega)]; exact r2, ?_⟩, fun u => ?_⟩
  · rintro a1 g2 rfl hg2
    rw [nj_cl (by omega)] at hg2
    have k0 : Kd g2 p0 = 20 := by rw [hg2, Kd_nA, if_neg hne]; exact h2
    have c0 : Co g2 p0 = Co g p0 := by rw [hg2, Co_nA, if_neg hne]
    have o0 : Ow g2 p0 = Ow g p0 := by rw [hg2, Ow_nA, if_neg hne]
    have l0 : Ln g2 p0 = Ln g p0 := by rw [hg2, Ln_nA, if_neg hne]
    have k1 : Kd g2 (Hn g) = 20 := by rw [hg2, Kd_nA, if_pos rfl]
    have c1 : Co g2 (Hn g) = 999 := by rw [hg2, Co_nA, if_pos rfl]
    have o1 : Ow g2 (Hn g) = 0 := by rw [hg2, Ow_nA, if_pos rfl]
    have l1 : Ln g2 (Hn g) = n := by rw [hg2, Ln_nA, if_pos rfl]
    have ra0 : Ia g2 (Co g p0) (Ow g p0) = Ia g (Co g p0) (Ow g p0) := by rw [hg2, Ia_nA, if_neg hlab]
    have ra1 : Ia g2 999 0 = fun _ => 0 := by rw [hg2, Ia_nA, if_pos ⟨rfl, rfl⟩]
    have hmin : (if nI n < Int32.ofNat (Ln g2 p0) then nI n else Int32.ofNat (Ln g2 p0)) = nI n := by
      rw [l0]
      show (if nI n < nI (Ln g p0) then _ else nI (Ln g p0)) = _
      rw [if_pos ((nj_lt (by omega) (by omega)).mpr hn2)]
    have h00 : (0 : Int32).toNatClampNeg = 0 := by decide
    rw [hmin, k0, k1, c0, o0, c1, o1, l0, l1, ra0, ra1, h00, nj_cl (show n < 2147483648 by omega)]
    refine ⟨⟨by omega, by omega⟩, rfl, rfl, by decide, by decide, nj_nneg (by omega), by omega, by omega, by omega, fun g3 hg3 => ⟨rl2 g3 (Hn g) c o, fun H hR => Rep_rl2 ?_ ?_ H hR, hK _ (by rw [hg3, hg2])⟩⟩
    · rw [hg3, hg2, Hn_sAf, Hn_nA]; omega
    · intro b hb q1 q2 q3
      rw [hg3, hg2, Kd_sAf, Kd_nA, if_neg hb] at q1
      rw [hg3, hg2, Co_sAf, Co_nA, if_neg hb] at q2
      rw [hg3, hg2, Ow_sAf, Ow_nA, if_neg hb] at q3
      exact hf b q1 q2 q3
  · have : n = Ln g p0 := (nj_eq (by omega) (by omega)).mp u
    omega
