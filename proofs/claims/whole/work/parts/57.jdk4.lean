/-! ArrayList: growing, adding -/
theorem MetA.ghR {Γ : GAM} {l : Launch} {y : MethodName} {cc : ByteArray} {nL : Nat} {ret : Option FieldType} {fr lo : Nat} {av : List Value} {g : GH} {K : Nat → GH → Prop} (h : MetA Γ l y cc nL ret fr lo av g (fun r g' => ∃ x, r = some (.ref x) ∧ ∃ g2, (∀ H, Rep Γ g' H → Rep Γ g2 H) ∧ K x g2)) : MetA Γ l y cc nL ret fr lo av g (fun r g' => ∃ x, r = some (.ref x) ∧ K x g') := by
  refine MetA.gh ?_
  unfold MetA Met MetFree at h ⊢
  intro p e ha hc hk s m args below h1 h2 h3 h4
  obtain ⟨n, o, k1, k2, k3, ⟨r, g1, e1, ⟨x, ex, g2, hr, hK⟩, hR⟩, hL⟩ := h p e ha hc hk s m args below h1 h2 h3 h4
  exact ⟨n, o, k1, k2, k3, ⟨r, g1, e1, ⟨g2, hr, x, ex, hK⟩, hR⟩, hL⟩
def Sp_AL_grow_i1 (Γ : GAM) (th : Nat) (p0 : Int32) (g : GH) (K : Nat → GH → Prop) : Prop := ∃ xs d, AC Γ g th xs ∧ SE Γ g ∧ NT g ∧ (∀ x ∈ xs, isO g x) ∧ Gr g 1 th = some d ∧ Ln g d = xs.length ∧ xs.length < 1000 ∧ p0 = nI (xs.length + 1) ∧ (Hn g + 1 ≤ gB Γ + NCC ∧ Hu g + 2000 ≤ NSS) ∧ ∀ a g', Fr [] [] [th] g g' → AC Γ g' th xs → (Gr g' 1 th = some a ∧ xs.length < Ln g' a ∧ Co g' a = 1 ∧ Ow g' a = th ∧ Kd g' a = 22) → (Gi g' = Gi g ∧ Hn g' ≤ Hn g + 1 ∧ Hu g' ≤ Hu g + 2000) → K a g'
-- the walk of AL_grow_i1
set_option maxRecDepth 100000 in
def B_AL_grow_i1_20 (Γ : GAM) (K : Nat → GH → Prop) (l0 : Nat) (l1 : Int32) (l2 : Int32) (g : GH) : Prop :=
  Sp_ArrSup_newLength Γ l2 (l1 - l2) (l2 >>> ((1 : Int32) &&& 31)) g (fun (x2 : Int32) (g1 : GH) => Kd g1 l0 = 1 ∧ ∃ a3 : Nat, Gr g1 1 l0 = some a3 ∧ Sp_Arrays_copyOf_1 Γ a3 x2 g1 (fun (a5 : Nat) (g4 : GH) => Kd g4 l0 = 1 ∧ ∀ g6 : GH, g6 = sR g4 1 l0 (some a5) → K a5 g6))
set_option maxHeartbeats 4000000 in
set_option maxRecDepth 100000 in
theorem S_AL_grow_i1_20 {Γ : GAM} {E : EV} {K : Nat → GH → Prop} (hE : GE Γ E cJx4a65c_grow_92f84 4 RJx4a65c (some (.array (.object "java/lang/Object"))) 3 84 (fun r g' => ∃ x, r = some (.ref x) ∧ K x g')) (l0 : Nat) (l1 : Int32) (l2 : Int32) (g : GH) (h : B_AL_grow_i1_20 Γ K l0 l1 l2 g) : JW Γ E 20 [some (.ref l0), some (.int l1), some (.int l2), none] [] g := by
  unfold B_AL_grow_i1_20 at h
  refine j_iload_n hE (by decide +kernel : decode cJx4a65c_grow_92f84 20 = .ok (.iload_n 2, 1)) rfl rfl ?_
  refine j_iload_n hE (by decide +kernel : decode cJx4a65c_grow_92f84 21 = .ok (.iload_n 1, 1)) rfl rfl ?_
  refine j_iload_n hE (by decide +kernel : decode cJx4a65c_grow_92f84 22 = .ok (.iload_n 2, 1)) rfl rfl ?_
  refine j_isub hE (by decide +kernel : decode cJx4a65c_grow_92f84 23 = .ok (.isub, 1)) ?_
  refine j_iload_n hE (by decide +kernel : decode cJx4a65c_grow_92f84 24 = .ok (.iload_n 2, 1)) rfl rfl ?_
  refine j_iconst hE (by decide +kernel : decode cJx4a65c_grow_92f84 25 = .ok (.iconst 1, 1)) (v := (1 : Int32)) (by decide) ?_
  refine j_ishr hE (by decide +kernel : decode cJx4a65c_grow_92f84 26 = .ok (.ishr, 1)) ?_
  refine j_callS hE rfl cl_Jx4a65c_73 st_J8_newLength_cabcc ⟨by omega, by omega⟩ (As := [.int l2, .int (l1 - l2), .int (l2 >>> ((1 : Int32) &&& 31))]) (rest := []) rfl rfl (Nat.le_of_ble_eq_true rfl) (by decide +kernel : decode cJx4a65c_grow_92f84 27 = .ok (.invokestatic 73, 3)) (mt_ArrSup_newLength _ _ _ _ _ h) ?_
  rintro _ g1 ⟨x2, rfl, h⟩
  refine j_istore_n hE (by decide +kernel : decode cJx4a65c_grow_92f84 30 = .ok (.istore_n 3, 1)) rfl (Nat.le_of_ble_eq_true rfl) rfl ?_
  refine j_aload_n hE (by decide +kernel : decode cJx4a65c_grow_92f84 31 = .ok (.aload_n 0, 1)) rfl rfl ?_
  refine j_aload_n hE (by decide +kernel : decode cJx4a65c_grow_92f84 32 = .ok (.aload_n 0, 1)) rfl rfl ?_
  obtain ⟨hk, h⟩ := h
  obtain ⟨a3, ha, h⟩ := h
  refine j_getRn hE fg_Jx4a65c_9 hk ha (by decide +kernel : decode cJx4a65c_grow_92f84 33 = .ok (.getfield 9, 3)) ?_
  refine j_iload_n hE (by decide +kernel : decode cJx4a65c_grow_92f84 36 = .ok (.iload_n 3, 1)) rfl rfl ?_
  refine j_callS hE rfl cl_Jx4a65c_66 st_J7_copyOf_1904c ⟨by omega, by omega⟩ (As := [.ref a3, .int x2]) (rest := [.ref l0]) rfl rfl (Nat.le_of_ble_eq_true rfl) (by decide +kernel : decode cJx4a65c_grow_92f84 37 = .ok (.invokestatic 66, 3)) (mt_Arrays_copyOf_1 _ _ _ _ h) ?_
  rintro _ g4 ⟨a5, rfl, h⟩
  refine j_dup_x1 hE (by decide +kernel : decode cJx4a65c_grow_92f84 40 = .ok (.dup_x1, 1)) rfl rfl ?_
  obtain ⟨hk, h⟩ := h
  obtain ⟨g6, hg⟩ : ∃ z, z = sR g4 1 l0 (some a5) := ⟨_, rfl⟩; replace h := h g6 hg
  refine j_putR (v := (some a5)) hE fa_Jx4a65c_9 hk (fun q => by cases q) (by decide +kernel : decode cJx4a65c_grow_92f84 41 = .ok (.putfield 9, 3)) ?_
  rw [← hg]
  exact j_aret (v := some a5) hE (Or.inr ⟨_, rfl⟩) (by decide +kernel : decode cJx4a65c_grow_92f84 44 = .ok (.areturn, 1)) ⟨_, rfl, h⟩
set_option maxRecDepth 100000 in
def B_AL_grow_i1_0 (Γ : GAM) (K : Nat → GH → Prop) (th : Nat) (p0 : Int32) (g : GH) : Prop :=
  Kd g th = 1 ∧ ∃ a1 : Nat, Gr g 1 th = some a1 ∧ (20 ≤ Kd g a1 ∧ Kd g a1 < 24) ∧ ∀ x2 : Int32, x2 = (Int32.ofNat (Ln g a1)) → ((0 < x2 → B_AL_grow_i1_20 Γ K th p0 x2 g) ∧ (¬ (0 < x2) → Kd g th = 1 ∧ ∃ a3 : Nat, Gr g 1 th = some a3 ∧ (((some a3) = (some (Γ.2.2.2)) → 0 ≤ (if (10 : Int32) < p0 then p0 else (10 : Int32)) ∧ (if (10 : Int32) < p0 then p0 else (10 : Int32)).toNatClampNeg ≤ 60000000 ∧ 0 < Hn g ∧ free g 1000 0 ∧ Hn g + 1 ≤ gB Γ + NCC ∧ Hu g + (if (10 : Int32) < p0 then p0 else (10 : Int32)).toNatClampNeg ≤ NSS ∧ ∀ (a4 : Nat) (g5 : GH), a4 = Hn g → g5 = nA g 22 1000 0 ((if (10 : Int32) < p0 then p0 else (10 : Int32)).toNatClampNeg) → Kd g5 th = 1 ∧ ∀ g6 : GH, g6 = sR g5 1 th (some a4) → K a4 g6) ∧ (¬ ((some a3) = (some (Γ.2.2.2))) → B_AL_grow_i1_20 Γ K th p0 x2 g))))
set_option maxHeartbeats 4000000 in
set_option maxRecDepth 100000 in
theorem S_AL_grow_i1_0 {Γ : GAM} {E : EV} {K : Nat → GH → Prop} (hE : GE Γ E cJx4a65c_grow_92f84 4 RJx4a65c (some (.array (.object "java/lang/Object"))) 3 84 (fun r g' => ∃ x, r = some (.ref x) ∧ K x g')) (th : Nat) (p0 : Int32) (g : GH) (h : B_AL_grow_i1_0 Γ K th p0 g) : JW Γ E 0 [some (.ref th), some (.int p0), none, none] [] g := by
  unfold B_AL_grow_i1_0 at h
  refine j_aload_n hE (by decide +kernel : decode cJx4a65c_grow_92f84 0 = .ok (.aload_n 0, 1)) rfl rfl ?_
  obtain ⟨hk, h⟩ := h
  obtain ⟨a1, ha, h⟩ := h
  refine j_getRn hE fg_Jx4a65c_9 hk ha (by decide +kernel : decode cJx4a65c_grow_92f84 1 = .ok (.getfield 9, 3)) ?_
  obtain ⟨hk, h⟩ := h
  refine j_alen hE hk (by decide +kernel : decode cJx4a65c_grow_92f84 4 = .ok (.arraylength, 1)) ?_
  obtain ⟨x2, hx⟩ : ∃ z, z = (Int32.ofNat (Ln g a1)) := ⟨_, rfl⟩; replace h := h x2 hx; rw [← hx]
  refine j_istore_n hE (by decide +kernel : decode cJx4a65c_grow_92f84 5 = .ok (.istore_n 2, 1)) rfl (Nat.le_of_ble_eq_true rfl) rfl ?_
  refine j_iload_n hE (by decide +kernel : decode cJx4a65c_grow_92f84 6 = .ok (.iload_n 2, 1)) rfl rfl ?_
  refine j_if_gt hE (by decide +kernel : decode cJx4a65c_grow_92f84 7 = .ok (.ifCond .gt 13, 3)) (tgt := 20) (by decide) (fun q => ?_) (fun q => ?_)
  · replace h := h.1 q
    exact S_AL_grow_i1_20 hE _ _ _ _ h
  · replace h := h.2 q
    refine j_aload_n hE (by decide +kernel : decode cJx4a65c_grow_92f84 10 = .ok (.aload_n 0, 1)) rfl rfl ?_
    obtain ⟨hk, h⟩ := h
    obtain ⟨a3, ha, h⟩ := h
    refine j_getRn hE fg_Jx4a65c_9 hk ha (by decide +kernel : decode cJx4a65c_grow_92f84 11 = .ok (.getfield 9, 3)) ?_
    refine j_getE hE (gw_of ge_fieldLink gg_fl (List.mem_of_getElem? (i := 0) rfl)) (by decide +kernel : decode cJx4a65c_grow_92f84 14 = .ok (.getstatic 39, 3)) ?_
    show JW _ _ _ _ (va_rf (some (Γ.2.2.2)) :: va_rf (some a3) :: []) _
    refine j_acmp_eq hE (by decide +kernel : decode cJx4a65c_grow_92f84 17 = .ok (.if_acmp .eq 28, 3)) (tgt := 45) (by decide) (fun q => ?_) (fun q => ?_)
    · replace h := h.1 q
      refine j_aload_n hE (by decide +kernel : decode cJx4a65c_grow_92f84 45 = .ok (.aload_n 0, 1)) rfl rfl ?_
      refine j_bipush hE (by decide +kernel : decode cJx4a65c_grow_92f84 46 = .ok (.bipush 10, 2)) (v := (10 : Int32)) (by decide) ?_
      refine j_iload_n hE (by decide +kernel : decode cJx4a65c_grow_92f84 48 = .ok (.iload_n 1, 1)) rfl rfl ?_
      refine j_mmax hE rfl ml_Jx4a65c_79 st_J9_max_7cf53 in_Math co_J9_max_7cf53 (Nat.le_of_ble_eq_true rfl) (by omega) (by omega) (by decide +kernel : decode cJx4a65c_grow_92f84 49 = .ok (.invokestatic 79, 3)) ?_
      obtain ⟨hp, hm, ho1, hf1, hn1, hn2, h⟩ := h
      obtain ⟨a4, ha⟩ : ∃ z, z = Hn g := ⟨_, rfl⟩; obtain ⟨g5, hg⟩ : ∃ z, z = nA g 22 1000 0 ((if (10 : Int32) < p0 then p0 else (10 : Int32)).toNatClampNeg) := ⟨_, rfl⟩; replace h := h a4 g5 ha hg
      refine j_anew (co := 1000) (ow := 0) (n := ((if (10 : Int32) < p0 then p0 else (10 : Int32)).toNatClampNeg)) hE ck_Jx4a65c_7 hp rfl hm ho1 hf1 (by decide +kernel : decode cJx4a65c_grow_92f84 52 = .ok (.anewarray 7, 3)) hn1 hn2 ?_
      rw [← hg, ← ha]
      refine j_dup_x1 hE (by decide +kernel : decode cJx4a65c_grow_92f84 55 = .ok (.dup_x1, 1)) rfl rfl ?_
      obtain ⟨hk, h⟩ := h
      obtain ⟨g6, hg⟩ : ∃ z, z = sR g5 1 th (some a4) := ⟨_, rfl⟩; replace h := h g6 hg
      refine j_putR (v := (some a4)) hE fa_Jx4a65c_9 hk (fun q => by cases q) (by decide +kernel : decode cJx4a65c_grow_92f84 56 = .ok (.putfield 9, 3)) ?_
      rw [← hg]
      exact j_aret (v := some a4) hE (Or.inr ⟨_, rfl⟩) (by decide +kernel : decode cJx4a65c_grow_92f84 59 = .ok (.areturn, 1)) ⟨_, rfl, h⟩
    · replace h := h.2 q
      exact S_AL_grow_i1_20 hE _ _ _ _ h
set_option maxHeartbeats 4000000 in
set_option maxRecDepth 100000 in
theorem rl_AL_grow_i1 {Γ : GAM} {l : Launch} {th : Nat} {p0 : Int32} {g : GH} {K : Nat → GH → Prop} (h0 : B_AL_grow_i1_0 Γ K th p0 g) : MetA Γ l yJx4a65c_grow_92f84 cJx4a65c_grow_92f84 4 (some (.array (.object "java/lang/Object"))) 3 84 [.ref th, .int p0] g (fun r g' => ∃ x, r = some (.ref x) ∧ K x g') := by
  refine MetA.introL (Lx := [some (.ref th), some (.int p0), none, none]) (by decide) (Nat.le_of_ble_eq_true rfl) rfl rfl ?_
  intro E hEl hE hnm
  exact S_AL_grow_i1_0 hE th p0 g h0
theorem mt_AL_grow_i1 {Γ : GAM} {l : Launch} (th : Nat) (p0 : Int32) (g : GH) (K : Nat → GH → Prop) (h : Sp_AL_grow_i1 Γ th p0 g K) : MetA Γ l yJx4a65c_grow_92f84 cJx4a65c_grow_92f84 4 (some (.array (.object "java/lang/Object"))) 3 84 [.ref th, .int p0] g (fun r g' => ∃ x, r = some (.ref x) ∧ K x g') := by
  refine MetA.rep (fun hR => ?_)
  obtain ⟨xs, d, hA, hse, hnt, hel, hd, hln, hl, rfl, ⟨r1, r2⟩, hK⟩ := h
  obtain ⟨⟨h1, h2⟩, h3, h4, d', ⟨h5, h6, h7⟩, h8, h9, h10, h11⟩ := id hA
  rw [hd] at h5; cases h5
  have hfin : ∀ g3 x m f, ((x = d ∧ 1 ≤ Ln g d) ∨ (x = Hn g + 1 ∧ Ln g d = 0)) → xs.length < m → m ≤ 2000 → (∀ i y, xs[i]? = some y → f i = some y) → Gi g3 = Gi g → (∀ f a, Gr g3 f a = if f = 1 ∧ a = th then some (Hn g) else Gr g f a) → (∀ c o, (c < 998 ∨ 1000 < c) → Ia g3 c o = Ia g c o ∧ Ra g3 c o = Ra g c o) → Ra g3 1000 0 = f → (∀ a, Kd g3 a = if a = Hn g then 22 else Kd g a) → (∀ a, Co g3 a = if a = Hn g then 1000 else Co g a) → (∀ a, Ow g3 a = if a = Hn g then 0 else Ow g a) → (∀ a, Ln g3 a = if a = Hn g then m else Ln g a) → (∀ a, a < Hn g → La g3 a = La g a) → Hn g3 = Hn g + 1 → Hu g3 = Hu g + m → ∃ g2, (∀ H, Rep Γ g3 H → Rep Γ g2 H) ∧ K (Hn g) g2 := by
    intro g3 x m f hx hm hm2 hf e1 e2 e3 e4 e5 e6 e7 e8 e9 e10 e11
    obtain ⟨f1, f2, f3, f4, f5⟩ := grow_fin hR hA hd hx hm hm2 hf e1 e2 e3 e4 e5 e6 e7 e8 e9 e10 e11
    exact ⟨_, f1, hK _ _ f2 f3 f4 f5⟩
  refine MetA.ghR (rl_AL_grow_i1 ?_)
  have hx2 : Int32.ofNat (Ln g d) = nI xs.length := by rw [hln]; rfl
  have hthn : th ≠ Hn g := by omega
  have h20 : 0 < xs.length → B_AL_grow_i1_20 Γ (fun x g' => ∃ g2, (∀ H, Rep Γ g' H → Rep Γ g2 H) ∧ K x g2) th (nI (xs.length + 1)) (nI xs.length) g := by
    intro hpos
    unfold B_AL_grow_i1_20
    have hsh : nI xs.length >>> ((1 : Int32) &&& 31) = nI (xs.length / 2) := by
      have := pk_shrN (n := xs.length) (by omega) ((1 : Int32) &&& 31) 1 (by decide)
      rw [Nat.pow_one] at this
      exact this
    have hsb : nI (xs.length + 1) - nI xs.length = nI 1 := by rw [nj_sub (by omega), Nat.add_sub_cancel_left]
    have hnl : nI xs.length + (if nI 1 < nI (xs.length / 2) then nI (xs.length / 2) else nI 1) = nI (xs.length + max 1 (xs.length / 2)) := by
      rw [mx_nI (by omega) (by omega), nI_add]
    rw [hsh, hsb]
    have hm2 : xs.length + max 1 (xs.length / 2) ≤ 2000 := by omega
    have hm1 : xs.length < xs.length + max 1 (xs.length / 2) := by omega
    unfold Sp_ArrSup_newLength
    rw [hnl]
    generalize xs.length + max 1 (xs.length / 2) = m at hm1 hm2
    refine ⟨(nj_lt (a := 0) (by omega) (by omega)).mpr (by omega), (nj_le (b := 2147483639) (by omega) (by omega)).mpr (by omega), h2, d, hd, rfl, ⟨h6, h7, by omega⟩, m, rfl, by omega, by omega, by omega, hnt, fun i hi y hy => ?_, r1, by omega, ?_⟩
    · have h10' : Co g d = 1 ∧ Ow g d = th := by
        rcases h10 with ⟨_, z, _⟩ | ⟨_, z⟩
        · omega
        · exact z
      rw [h10'.1, h10'.2] at hy
      obtain ⟨x, hx⟩ := get_lt (show i < xs.length by omega)
      rw [h11 i x hx] at hy
      cases hy
      exact hel _ (List.mem_of_getElem? hx)
    · rintro g4 rfl
      refine ⟨?_, ?_⟩
      · rw [Kd_sRAf, Kd_nA, if_neg hthn]; exact h2
      · rintro g6 rfl
        have h10' : Co g d = 1 ∧ Ow g d = th := by
          rcases h10 with ⟨_, z, _⟩ | ⟨_, z⟩
          · omega
          · exact z
        refine hfin _ d m (va_cpy (Ra g (Co g d) (Ow g d)) (fun _ => none) 0 0 (Ln g d)) (.inl ⟨rfl, by omega⟩) hm1 hm2 (fun i y hy => ?_) rfl (fun f a => by rw [Gr_sR]; rfl) (fun c o hc => ⟨?_, ?_⟩) ?_ (fun a => by rw [Kd_sR, Kd_sRAf, Kd_nA]) (fun a => by rw [Co_sR, Co_sRAf, Co_nA]) (fun a => by rw [Ow_sR, Ow_sRAf, Ow_nA]) (fun a => by rw [Ln_sR, Ln_sRAf, Ln_nA]) (fun a ha => by rw [La_sR, La_sRAf, La_nA, if_neg (by omega)]) rfl rfl
        · have hi := (List.getElem?_eq_some_iff.mp hy).1
          unfold va_cpy
          rw [if_pos ⟨Nat.zero_le _, by omega⟩, h10'.1, h10'.2, Nat.zero_add, Nat.sub_zero]
          exact h11 i y hy
        · rw [Ia_sR, Ia_sRAf, Ia_nA, if_neg (fun q => by omega)]
        · rw [Ra_sR, Ra_sRAf, if_neg (fun q => by omega), Ra_nA, if_neg (fun q => by omega)]
        · rw [Ra_sR, Ra_sRAf, if_pos ⟨rfl, rfl⟩]
  unfold B_AL_grow_i1_0
  refine ⟨h2, d, hd, ⟨by omega, by omega⟩, ?_⟩
  rintro x2 rfl
  rw [hx2]
  refine ⟨fun q => h20 ((nj_lt (a := 0) (by omega) (by omega)).mp q), fun q => ⟨h2, d, hd, fun q2 => ?_, fun q2 => ?_⟩⟩
  · have h0 : xs.length = 0 := Classical.byContradiction (fun z => q ((nj_lt (a := 0) (by omega) (by omega)).mpr (by omega)))
    have h10' : (if (10 : Int32) < nI (xs.length + 1) then nI (xs.length + 1) else 10) = 10 := by rw [h0]; decide
    have t10 : (10 : Int32).toNatClampNeg = 10 := by decide
    rw [h10', t10]
    refine ⟨by decide, by omega, by omega, fun b q1 q2 => absurd q2 (hnt b q1).1, r1, by omega, ?_⟩
    rintro a4 g5 rfl rfl
    refine ⟨by rw [Kd_nA, if_neg hthn]; exact h2, ?_⟩
    rintro g6 rfl
    refine hfin _ (Hn g + 1) 10 (fun _ => none) (.inr ⟨rfl, by omega⟩) (by omega) (by omega) (fun i y hy => ?_) rfl (fun f a => by rw [Gr_sR]; rfl) (fun c o hc => ⟨?_, ?_⟩) ?_ (fun a => by rw [Kd_sR, Kd_nA]) (fun a => by rw [Co_sR, Co_nA]) (fun a => by rw [Ow_sR, Ow_nA]) (fun a => by rw [Ln_sR, Ln_nA]) (fun a ha => by rw [La_sR, La_nA, if_neg (by omega)]) rfl rfl
    · have := (List.getElem?_eq_some_iff.mp hy).1; omega
    · rw [Ia_sR, Ia_nA, if_neg (fun q => by omega)]
    · rw [Ra_sR, Ra_nA, if_neg (fun q => by omega)]
    · rw [Ra_sR, Ra_nA, if_pos ⟨rfl, rfl⟩]
  · exfalso
    have h0 : xs.length = 0 := Classical.byContradiction (fun z => q ((nj_lt (a := 0) (by omega) (by omega)).mpr (by omega)))
    rcases h10 with ⟨z, _⟩ | ⟨z, _⟩
    · exact q2 (by rw [z])
    · omega
def Sp_AL_grow_0 (Γ : GAM) (th : Nat) (g : GH) (K : Nat → GH → Prop) : Prop := ∃ xs d, AC Γ g th xs ∧ SE Γ g ∧ NT g ∧ (∀ x ∈ xs, isO g x) ∧ Gr g 1 th = some d ∧ Ln g d = xs.length ∧ xs.length < 1000 ∧ (Hn g + 1 ≤ gB Γ + NCC ∧ Hu g + 2000 ≤ NSS) ∧ ∀ a g', Fr [] [] [th] g g' → AC Γ g' th xs → (Gr g' 1 th = some a ∧ xs.length < Ln g' a ∧ Co g' a = 1 ∧ Ow g' a = th ∧ Kd g' a = 22) → (Gi g' = Gi g ∧ Hn g' ≤ Hn g + 1 ∧ Hu g' ≤ Hu g + 2000) → K a g'
-- the walk of AL_grow_0
set_option maxRecDepth 100000 in
def B_AL_grow_0_0 (Γ : GAM) (K : Nat → GH → Prop) (th : Nat) (g : GH) : Prop :=
  Kd g th = 1 ∧ Kd g th = 1 ∧ Sp_AL_grow_i1 Γ th ((Gi g 2 th) + (1 : Int32)) g (fun (a2 : Nat) (g1 : GH) => K a2 g1)
set_option maxHeartbeats 4000000 in
set_option maxRecDepth 100000 in
theorem S_AL_grow_0_0 {Γ : GAM} {E : EV} {K : Nat → GH → Prop} (hE : GE Γ E cJx4a65c_grow_d5877 1 RJx4a65c (some (.array (.object "java/lang/Object"))) 4 107 (fun r g' => ∃ x, r = some (.ref x) ∧ K x g')) (th : Nat) (g : GH) (h : B_AL_grow_0_0 Γ K th g) : JW Γ E 0 [some (.ref th)] [] g := by
  unfold B_AL_grow_0_0 at h
  refine j_aload_n hE (by decide +kernel : decode cJx4a65c_grow_d5877 0 = .ok (.aload_n 0, 1)) rfl rfl ?_
  refine j_aload_n hE (by decide +kernel : decode cJx4a65c_grow_d5877 1 = .ok (.aload_n 0, 1)) rfl rfl ?_
  obtain ⟨hk, h⟩ := h
  refine j_getI hE fg_Jx4a65c_48 hk (by decide +kernel : decode cJx4a65c_grow_d5877 2 = .ok (.getfield 48, 3)) ?_
  refine j_iconst hE (by decide +kernel : decode cJx4a65c_grow_d5877 5 = .ok (.iconst 1, 1)) (v := (1 : Int32)) (by decide) ?_
  refine j_iadd hE (by decide +kernel : decode cJx4a65c_grow_d5877 6 = .ok (.iadd, 1)) ?_
  obtain ⟨hk, h⟩ := h
  refine j_callV hE rfl cl_Jx4a65c_69 cf_0 im_Jx4a65c_grow_92f84 se_Jx4a65c_grow_92f84 ⟨by omega, by omega⟩ (As := [.int ((Gi g 2 th) + (1 : Int32))]) (rest := []) rfl rfl (Nat.le_of_ble_eq_true rfl) hk (by decide +kernel : decode cJx4a65c_grow_d5877 7 = .ok (.invokevirtual 69, 3)) (mt_AL_grow_i1 _ _ _ _ h) ?_
  rintro _ g1 ⟨a2, rfl, h⟩
  exact j_aret (v := some a2) hE (Or.inr ⟨_, rfl⟩) (by decide +kernel : decode cJx4a65c_grow_d5877 10 = .ok (.areturn, 1)) ⟨_, rfl, h⟩
set_option maxHeartbeats 4000000 in
set_option maxRecDepth 100000 in
theorem rl_AL_grow_0 {Γ : GAM} {l : Launch} {th : Nat} {g : GH} {K : Nat → GH → Prop} (h0 : B_AL_grow_0_0 Γ K th g) : MetA Γ l yJx4a65c_grow_d5877 cJx4a65c_grow_d5877 1 (some (.array (.object "java/lang/Object"))) 4 107 [.ref th] g (fun r g' => ∃ x, r = some (.ref x) ∧ K x g') := by
  refine MetA.introL (Lx := [some (.ref th)]) (by decide) (Nat.le_of_ble_eq_true rfl) rfl rfl ?_
  intro E hEl hE hnm
  exact S_AL_grow_0_0 hE th g h0
theorem mt_AL_grow_0 {Γ : GAM} {l : Launch} (th : Nat) (g : GH) (K : Nat → GH → Prop) (h : Sp_AL_grow_0 Γ th g K) : MetA Γ l yJx4a65c_grow_d5877 cJx4a65c_grow_d5877 1 (some (.array (.object "java/lang/Object"))) 4 107 [.ref th] g (fun r g' => ∃ x, r = some (.ref x) ∧ K x g') := by
  obtain ⟨xs, d, hA, hse, hnt, hel, hd, hln, hl, hr, hK⟩ := h
  refine rl_AL_grow_0 ⟨hA.1.2, hA.1.2, xs, d, hA, hse, hnt, hel, hd, hln, hl, by rw [hA.2.1, nj_s], hr, hK⟩
/-- a word more at a list's end -/
theorem AC.push {Γ : GAM} {g : GH} {al a e : Nat} {xs : List Nat} (h : AC Γ g al xs) (hr : Gr g 1 al = some a) (hl : xs.length < Ln g a) (hc : Co g a = 1) (ho : Ow g a = al) (hx : xs.length < 1000) : AC Γ (sI (sRA g 1 al xs.length (some e)) 2 al (nI (xs.length + 1))) al (xs ++ [e]) := by
  obtain ⟨⟨h1, h2⟩, h3, h4, d, ⟨h5, h6, h7⟩, h8, h9, h10, h11⟩ := h
  rw [hr] at h5; cases h5
  refine ⟨⟨h1, h2⟩, by rw [Gi_sI, if_pos ⟨rfl, rfl⟩, List.length_append]; rfl, by rw [List.length_append]; simp only [List.length_cons, List.length_nil]; omega, a, ⟨hr, h6, h7⟩, by rw [List.length_append]; exact hl, h9, .inr ⟨by show 1 ≤ Ln g a; omega, hc, ho⟩, fun i x hi => ?_⟩
  rw [Ra_sI, Ra_sRA]
  rw [List.getElem?_append] at hi
  split at hi
  · rw [if_neg (fun q => by omega)]; exact h11 i x hi
  · have hj := (List.getElem?_eq_some_iff.mp hi).1
    simp only [List.length_cons, List.length_nil] at hj
    have : i = xs.length := by omega
    subst this
    simp at hi
    rw [if_pos ⟨rfl, rfl, rfl⟩, hi]
abbrev RmA (Γ : GAM) (g : GH) : Prop := Hn g + 1 ≤ gB Γ + NCC ∧ Hu g + 2000 ≤ NSS
/-- what a list's array can hold; how a list may have grown -/
def cpA (g : GH) (al : Nat) : Nat := match Gr g 1 al with
  | some d => Ln g d
  | none => 0
def GRW (g g' : GH) (al n : Nat) : Prop := (Hn g' = Hn g ∧ Hu g' = Hu g ∧ cpA g' al = cpA g al) ∨ (cpA g al = n ∧ n < cpA g' al ∧ Hn g' ≤ Hn g + 1 ∧ Hu g' ≤ Hu g + 2000)
theorem GRW.g {g g' : GH} {al n d a : Nat} (hd : Gr g 1 al = some d) (hl : Ln g d = n) (ha : Gr g' 1 al = some a) (hl' : n < Ln g' a) (h1 : Hn g' ≤ Hn g + 1) (h2 : Hu g' ≤ Hu g + 2000) : GRW g g' al n := .inr ⟨by unfold cpA; rw [hd]; exact hl, by unfold cpA; rw [ha]; exact hl', h1, h2⟩
theorem GRW.hn {g g' : GH} {al n : Nat} (h : GRW g g' al n) : Hn g' ≤ Hn g + 1 ∧ Hu g' ≤ Hu g + 2000 := by
  rcases h with h | h <;> omega
def Sp_AL_add_2 (Γ : GAM) (th p0 p1 : Nat) (p2 : Int32) (g : GH) (K : GH → Prop) : Prop := ∃ xs, AC Γ g th xs ∧ SE Γ g ∧ NT g ∧ (∀ x ∈ xs, isO g x) ∧ isO g p0 ∧ Gr g 1 th = some p1 ∧ p2 = nI xs.length ∧ xs.length < 1000 ∧ RmA Γ g ∧ ∀ g', Fr [] [] [th] g g' → AC Γ g' th (xs ++ [p0]) → GRW g g' th xs.length → K g'
-- the walk of AL_add_2
set_option maxRecDepth 100000 in
def B_AL_add_2_11 (Γ : GAM) (K : GH → Prop) (l0 : Nat) (l1 : Nat) (l2 : Nat) (l3 : Int32) (g : GH) : Prop :=
  Kd g l2 = 22 ∧ inB l3 (Ln g l2) ∧ (∃ ci, Kd g l1 = ci + 1 ∧ ci < 13) ∧ ∀ g1 : GH, g1 = sRA g (Co g l2) (Ow g l2) l3.toNatClampNeg (some l1) → Kd g1 l0 = 1 ∧ ∀ g2 : GH, g2 = sI g1 2 l0 (l3 + (1 : Int32)) → K g2
set_option maxHeartbeats 4000000 in
set_option maxRecDepth 100000 in
theorem S_AL_add_2_11 {Γ : GAM} {E : EV} {K : GH → Prop} (hE : GE Γ E cJx4a65c_add_72be8 4 RJx4a65c none 5 127 (fun r g' => r = none ∧ K g')) (l0 : Nat) (l1 : Nat) (l2 : Nat) (l3 : Int32) (g : GH) (h : B_AL_add_2_11 Γ K l0 l1 l2 l3 g) : JW Γ E 11 [some (.ref l0), some (.ref l1), some (.ref l2), some (.int l3)] [] g := by
  unfold B_AL_add_2_11 at h
  refine j_aload_n hE (by decide +kernel : decode cJx4a65c_add_72be8 11 = .ok (.aload_n 2, 1)) rfl rfl ?_
  refine j_iload_n hE (by decide +kernel : decode cJx4a65c_add_72be8 12 = .ok (.iload_n 3, 1)) rfl rfl ?_
  refine j_aload_n hE (by decide +kernel : decode cJx4a65c_add_72be8 13 = .ok (.aload_n 1, 1)) rfl rfl ?_
  obtain ⟨hk, hb, ⟨ci, hv1, hv2⟩, h⟩ := h
  obtain ⟨g1, hg⟩ : ∃ z, z = sRA g (Co g l2) (Ow g l2) l3.toNatClampNeg (some l1) := ⟨_, rfl⟩; replace h := h g1 hg
  refine j_aast hE hk hb hv1 hv2 (by decide +kernel : decode cJx4a65c_add_72be8 14 = .ok (.aastore, 1)) ?_
  rw [← hg]
  refine j_aload_n hE (by decide +kernel : decode cJx4a65c_add_72be8 15 = .ok (.aload_n 0, 1)) rfl rfl ?_
  refine j_iload_n hE (by decide +kernel : decode cJx4a65c_add_72be8 16 = .ok (.iload_n 3, 1)) rfl rfl ?_
  refine j_iconst hE (by decide +kernel : decode cJx4a65c_add_72be8 17 = .ok (.iconst 1, 1)) (v := (1 : Int32)) (by decide) ?_
  refine j_iadd hE (by decide +kernel : decode cJx4a65c_add_72be8 18 = .ok (.iadd, 1)) ?_
  obtain ⟨hk, h⟩ := h
  obtain ⟨g2, hg⟩ : ∃ z, z = sI g1 2 l0 (l3 + (1 : Int32)) := ⟨_, rfl⟩; replace h := h g2 hg
  refine j_putI hE fa_Jx4a65c_48 hk (fun q => by cases q) (by decide +kernel : decode cJx4a65c_add_72be8 19 = .ok (.putfield 48, 3)) ?_
  rw [← hg]
  exact j_vret hE (by decide +kernel : decode cJx4a65c_add_72be8 22 = .ok (.return_, 1)) ⟨rfl, h⟩
set_option maxRecDepth 100000 in
def B_AL_add_2_0 (Γ : GAM) (K : GH → Prop) (th : Nat) (p0 : Nat) (p1 : Nat) (p2 : Int32) (g : GH) : Prop :=
  (20 ≤ Kd g p1 ∧ Kd g p1 < 24) ∧ ((¬ (p2 = (Int32.ofNat (Ln g p1))) → B_AL_add_2_11 Γ K th p0 p1 p2 g) ∧ (p2 = (Int32.ofNat (Ln g p1)) → Kd g th = 1 ∧ Sp_AL_grow_0 Γ th g (fun (a2 : Nat) (g1 : GH) => B_AL_add_2_11 Γ K th p0 a2 p2 g1)))
set_option maxHeartbeats 4000000 in
set_option maxRecDepth 100000 in
theorem S_AL_add_2_0 {Γ : GAM} {E : EV} {K : GH → Prop} (hE : GE Γ E cJx4a65c_add_72be8 4 RJx4a65c none 5 127 (fun r g' => r = none ∧ K g')) (th : Nat) (p0 : Nat) (p1 : Nat) (p2 : Int32) (g : GH) (h : B_AL_add_2_0 Γ K th p0 p1 p2 g) : JW Γ E 0 [some (.ref th), some (.ref p0), some (.ref p1), some (.int p2)] [] g := by
  unfold B_AL_add_2_0 at h
  refine j_iload_n hE (by decide +kernel : decode cJx4a65c_add_72be8 0 = .ok (.iload_n 3, 1)) rfl rfl ?_
  refine j_aload_n hE (by decide +kernel : decode cJx4a65c_add_72be8 1 = .ok (.aload_n 2, 1)) rfl rfl ?_
  obtain ⟨hk, h⟩ := h
  refine j_alen hE hk (by decide +kernel : decode cJx4a65c_add_72be8 2 = .ok (.arraylength, 1)) ?_
  refine j_icmp_ne hE (by decide +kernel : decode cJx4a65c_add_72be8 3 = .ok (.if_icmp .ne 8, 3)) (tgt := 11) (by decide) (fun q => ?_) (fun q => ?_)
  · replace h := h.1 q
    exact S_AL_add_2_11 hE _ _ _ _ _ h
  · replace h := h.2 q
    refine j_aload_n hE (by decide +kernel : decode cJx4a65c_add_72be8 6 = .ok (.aload_n 0, 1)) rfl rfl ?_
    obtain ⟨hk, h⟩ := h
    refine j_callV hE rfl cl_Jx4a65c_129 cf_0 im_Jx4a65c_grow_d5877 se_Jx4a65c_grow_d5877 ⟨by omega, by omega⟩ (As := []) (rest := []) rfl rfl (Nat.le_of_ble_eq_true rfl) hk (by decide +kernel : decode cJx4a65c_add_72be8 7 = .ok (.invokevirtual 129, 3)) (mt_AL_grow_0 _ _ _ h) ?_
    rintro _ g1 ⟨a2, rfl, h⟩
    refine j_astore_n hE (by decide +kernel : decode cJx4a65c_add_72be8 10 = .ok (.astore_n 2, 1)) rfl (Nat.le_of_ble_eq_true rfl) rfl ?_
    exact S_AL_add_2_11 hE _ _ _ _ _ h
set_option maxHeartbeats 4000000 in
set_option maxRecDepth 100000 in
theorem rl_AL_add_2 {Γ : GAM} {l : Launch} {th : Nat} {p0 : Nat} {p1 : Nat} {p2 : Int32} {g : GH} {K : GH → Prop} (h0 : B_AL_add_2_0 Γ K th p0 p1 p2 g) : MetA Γ l yJx4a65c_add_72be8 cJx4a65c_add_72be8 4 none 5 127 [.ref th, .ref p0, .ref p1, .int p2] g (fun r g' => r = none ∧ K g') := by
  refine MetA.introL (Lx := [some (.ref th), some (.ref p0), some (.ref p1), some (.int p2)]) (by decide) (Nat.le_of_ble_eq_true rfl) rfl rfl ?_
  intro E hEl hE hnm
  exact S_AL_add_2_0 hE th p0 p1 p2 g h0
theorem mt_AL_add_2 {Γ : GAM} {l : Launch} (th : Nat) (p0 : Nat) (p1 : Nat) (p2 : Int32) (g : GH) (K : GH → Prop) (h : Sp_AL_add_2 Γ th p0 p1 p2 g K) : MetA Γ l yJx4a65c_add_72be8 cJx4a65c_add_72be8 4 none 5 127 [.ref th, .ref p0, .ref p1, .int p2] g (fun r g' => r = none ∧ K g') := by
  refine MetA.rep (fun hR => ?_)
  have hen := EN.of hR
  obtain ⟨xs, hA, hse, hnt, hel, he, hd, rfl, hl, hr, hK⟩ := h
  obtain ⟨⟨h1, h2⟩, h3, h4, d, ⟨h5, h6, h7⟩, h8, h9, h10, h11⟩ := id hA
  rw [hd] at h5; cases h5
  have h11' : ∀ a g', EN g' → Fr [] [] [th] g g' → AC Γ g' th xs → (Gr g' 1 th = some a ∧ xs.length < Ln g' a ∧ Co g' a = 1 ∧ Ow g' a = th ∧ Kd g' a = 22) → GRW g g' th xs.length → B_AL_add_2_11 Γ K th p0 a (nI xs.length) g' := by
    intro a g' hen' hfr hA' ⟨q1, q2, q3, q4, q5⟩ hh
    unfold B_AL_add_2_11
    have hln : Ln g' a ≤ 2000 := by
      obtain ⟨_, _, _, d', ⟨w1, _⟩, _, w2, _⟩ := hA'
      rw [q1] at w1; cases w1; exact w2
    obtain ⟨_, ci, e1, e2⟩ := he.fr hfr
    refine ⟨q5, inB_nI q2 (by omega), ⟨ci, e1, e2⟩, ?_⟩
    rw [q3, q4, nj_cl (by omega), nj_s]
    rintro g1 rfl
    refine ⟨hA'.1.2, ?_⟩
    rintro g2 rfl
    have f1 : Fr [] [] [th] g' (sRA g' 1 th xs.length (some p0)) := Fr.sRA hen' ⟨by omega, by simp⟩
    have f2 : Fr [] [] [th] (sRA g' 1 th xs.length (some p0)) (sI (sRA g' 1 th xs.length (some p0)) 2 th (nI (xs.length + 1))) := Fr.sI (show EN (sRA g' 1 th xs.length (some p0)) from hen') (.inr ⟨by simp, by omega⟩)
    exact hK _ (hfr.tr (f1.tr f2)) (hA'.push q1 q2 q3 q4 hl) hh
  refine rl_AL_add_2 ?_
  unfold B_AL_add_2_0
  have hof : Int32.ofNat (Ln g p1) = nI (Ln g p1) := rfl
  rw [hof, nj_eq (by omega) (by omega)]
  refine ⟨⟨by omega, by omega⟩, fun q => ?_, fun q => ⟨h2, xs, p1, hA, hse, hnt, hel, hd, q.symm, hl, hr, fun a g' hfr hA' ha hh => ?_⟩⟩
  · rcases h10 with ⟨z1, z2, _⟩ | ⟨z1, z2, z3⟩
    · omega
    · exact h11' p1 g hen (Fr.rf hen) hA ⟨hd, by omega, z2, z3, h7⟩ (.inl ⟨rfl, rfl, rfl⟩)
  · exact h11' a g' (hfr.2.2.2.2.2.2.1.2 hen) hfr hA' ha (GRW.g hd q.symm ha.1 ha.2.1 hh.2.1 hh.2.2)
def Sp_AL_add_1 (Γ : GAM) (th p0 : Nat) (g : GH) (K : Int32 → GH → Prop) : Prop := ∃ xs, AC Γ g th xs ∧ SE Γ g ∧ NT g ∧ (∀ x ∈ xs, isO g x) ∧ isO g p0 ∧ xs.length < 1000 ∧ RmA Γ g ∧ ∀ g', Fr [] [] [th] g g' → AC Γ g' th (xs ++ [p0]) → GRW g g' th xs.length → K 1 g'
-- the walk of AL_add_1
set_option maxRecDepth 100000 in
def B_AL_add_1_0 (Γ : GAM) (K : Int32 → GH → Prop) (th : Nat) (p0 : Nat) (g : GH) : Prop :=
  Kd g th = 1 ∧ Kd g th = 1 ∧ ∀ g1 : GH, g1 = sI g 0 th ((Gi g 0 th) + (1 : Int32)) → Kd g1 th = 1 ∧ ∃ a2 : Nat, Gr g1 1 th = some a2 ∧ Kd g1 th = 1 ∧ Kd g1 th = 1 ∧ Sp_AL_add_2 Γ th p0 a2 (Gi g1 2 th) g1 (fun (g3 : GH) => K (1 : Int32) g3)
set_option maxHeartbeats 4000000 in
set_option maxRecDepth 100000 in
theorem S_AL_add_1_0 {Γ : GAM} {E : EV} {K : Int32 → GH → Prop} (hE : GE Γ E cJx4a65c_add_9ea2d 2 RJx4a65c (some (.boolean)) 6 150 (fun r g' => ∃ x, r = some (.int x) ∧ K x g')) (th : Nat) (p0 : Nat) (g : GH) (h : B_AL_add_1_0 Γ K th p0 g) : JW Γ E 0 [some (.ref th), some (.ref p0)] [] g := by
  unfold B_AL_add_1_0 at h
  refine j_aload_n hE (by decide +kernel : decode cJx4a65c_add_9ea2d 0 = .ok (.aload_n 0, 1)) rfl rfl ?_
  refine j_dup hE (by decide +kernel : decode cJx4a65c_add_9ea2d 1 = .ok (.dup, 1)) rfl ?_
  obtain ⟨hk, h⟩ := h
  refine j_getI hE fg_Jx4a65c_63 hk (by decide +kernel : decode cJx4a65c_add_9ea2d 2 = .ok (.getfield 63, 3)) ?_
  refine j_iconst hE (by decide +kernel : decode cJx4a65c_add_9ea2d 5 = .ok (.iconst 1, 1)) (v := (1 : Int32)) (by decide) ?_
  refine j_iadd hE (by decide +kernel : decode cJx4a65c_add_9ea2d 6 = .ok (.iadd, 1)) ?_
  obtain ⟨hk, h⟩ := h
  obtain ⟨g1, hg⟩ : ∃ z, z = sI g 0 th ((Gi g 0 th) + (1 : Int32)) := ⟨_, rfl⟩; replace h := h g1 hg
  refine j_putI hE fa_Jx4a65c_63 hk (fun q => by cases q) (by decide +kernel : decode cJx4a65c_add_9ea2d 7 = .ok (.putfield 63, 3)) ?_
  rw [← hg]
  refine j_aload_n hE (by decide +kernel : decode cJx4a65c_add_9ea2d 10 = .ok (.aload_n 0, 1)) rfl rfl ?_
  refine j_aload_n hE (by decide +kernel : decode cJx4a65c_add_9ea2d 11 = .ok (.aload_n 1, 1)) rfl rfl ?_
  refine j_aload_n hE (by decide +kernel : decode cJx4a65c_add_9ea2d 12 = .ok (.aload_n 0, 1)) rfl rfl ?_
  obtain ⟨hk, h⟩ := h
  obtain ⟨a2, ha, h⟩ := h
  refine j_getRn hE fg_Jx4a65c_9 hk ha (by decide +kernel : decode cJx4a65c_add_9ea2d 13 = .ok (.getfield 9, 3)) ?_
  refine j_aload_n hE (by decide +kernel : decode cJx4a65c_add_9ea2d 16 = .ok (.aload_n 0, 1)) rfl rfl ?_
  obtain ⟨hk, h⟩ := h
  refine j_getI hE fg_Jx4a65c_48 hk (by decide +kernel : decode cJx4a65c_add_9ea2d 17 = .ok (.getfield 48, 3)) ?_
  obtain ⟨hk, h⟩ := h
  refine j_callV hE rfl cl_Jx4a65c_131 cf_0 im_Jx4a65c_add_72be8 se_Jx4a65c_add_72be8 ⟨by omega, by omega⟩ (As := [.ref p0, .ref a2, .int (Gi g1 2 th)]) (rest := []) rfl rfl (Nat.le_of_ble_eq_true rfl) hk (by decide +kernel : decode cJx4a65c_add_9ea2d 20 = .ok (.invokevirtual 131, 3)) (mt_AL_add_2 _ _ _ _ _ _ h) ?_
  rintro _ g3 ⟨rfl, h⟩
  refine j_iconst hE (by decide +kernel : decode cJx4a65c_add_9ea2d 23 = .ok (.iconst 1, 1)) (v := (1 : Int32)) (by decide) ?_
  exact j_zret hE (Or.inr rfl) (by decide +kernel : decode cJx4a65c_add_9ea2d 24 = .ok (.ireturn, 1)) ⟨_, rfl, h⟩
set_option maxHeartbeats 4000000 in
set_option maxRecDepth 100000 in
theorem rl_AL_add_1 {Γ : GAM} {l : Launch} {th : Nat} {p0 : Nat} {g : GH} {K : Int32 → GH → Prop} (h0 : B_AL_add_1_0 Γ K th p0 g) : MetA Γ l yJx4a65c_add_9ea2d cJx4a65c_add_9ea2d 2 (some (.boolean)) 6 150 [.ref th, .ref p0] g (fun r g' => ∃ x, r = some (.int x) ∧ K x g') := by
  refine MetA.introL (Lx := [some (.ref th), some (.ref p0)]) (by decide) (Nat.le_of_ble_eq_true rfl) rfl rfl ?_
  intro E hEl hE hnm
  exact S_AL_add_1_0 hE th p0 g h0
theorem mt_AL_add_1 {Γ : GAM} {l : Launch} (th : Nat) (p0 : Nat) (g : GH) (K : Int32 → GH → Prop) (h : Sp_AL_add_1 Γ th p0 g K) : MetA Γ l yJx4a65c_add_9ea2d cJx4a65c_add_9ea2d 2 (some (.boolean)) 6 150 [.ref th, .ref p0] g (fun r g' => ∃ x, r = some (.int x) ∧ K x g') := by
  refine MetA.rep (fun hR => ?_)
  have hen := EN.of hR
  obtain ⟨xs, hA, hse, hnt, hel, he, hl, hr, hK⟩ := h
  obtain ⟨⟨h1, h2⟩, h3, h4, d, ⟨h5, h6, h7⟩, h8, h9, h10, h11⟩ := id hA
  have f1 : Fr [] [] [th] g (sI g 0 th (Gi g 0 th + 1)) := Fr.sI hen (.inr ⟨by simp, by omega⟩)
  refine rl_AL_add_1 ?_
  unfold B_AL_add_1_0
  refine ⟨h2, h2, ?_⟩
  rintro g1 rfl
  refine ⟨h2, d, h5, h2, h2, xs, ⟨⟨h1, h2⟩, by rw [Gi_sI, if_neg (fun q => absurd q.1 (by decide))]; exact h3, h4, d, ⟨h5, h6, h7⟩, h8, h9, h10, h11⟩, hse.fr f1, f1.2.2.2.2.2.2.1.1 hnt, fun x hx => (hel x hx).fr f1, he.fr f1, h5, by rw [Gi_sI, if_neg (fun q => absurd q.1 (by decide))]; exact h3, hl, hr, fun g3 hf3 hA3 hh3 => ?_⟩
  exact hK g3 (f1.tr hf3) hA3 hh3
/-- a word more among a list's -/
theorem AC.ins {Γ : GAM} {g : GH} {al a e k : Nat} {xs : List Nat} (h : AC Γ g al xs) (hr : Gr g 1 al = some a) (hl : xs.length < Ln g a) (hc : Co g a = 1) (ho : Ow g a = al) (hx : xs.length < 1000) (hk : k ≤ xs.length) : AC Γ (sI (sRA (sRAf g 1 al (va_cpy (Ra g 1 al) (Ra g 1 al) k (k + 1) (xs.length - k))) 1 al k (some e)) 2 al (nI (xs.length + 1))) al (xs.take k ++ e :: xs.drop k) := by
  obtain ⟨⟨h1, h2⟩, h3, h4, d, ⟨h5, h6, h7⟩, h8, h9, h10, h11⟩ := h
  rw [hr] at h5; cases h5
  have hlen : (xs.take k ++ e :: xs.drop k).length = xs.length + 1 := by
    rw [List.length_append, List.length_cons, List.length_take, List.length_drop]; omega
  refine ⟨⟨h1, h2⟩, by rw [Gi_sI, if_pos ⟨rfl, rfl⟩, hlen], by rw [hlen]; omega, a, ⟨hr, h6, h7⟩, by rw [hlen]; exact hl, h9, .inr ⟨by show 1 ≤ Ln g a; omega, hc, ho⟩, fun i x hi => ?_⟩
  have hb : Ra (sRAf g 1 al (va_cpy (Ra g 1 al) (Ra g 1 al) k (k + 1) (xs.length - k))) 1 al = va_cpy (Ra g 1 al) (Ra g 1 al) k (k + 1) (xs.length - k) := by rw [Ra_sRAf, if_pos ⟨rfl, rfl⟩]
  rw [Ra_sI, Ra_sRA, hb]
  rw [List.getElem?_append] at hi
  have htl : (xs.take k).length = k := by rw [List.length_take]; omega
  rw [htl] at hi
  have hcp : ∀ j, va_cpy (Ra g 1 al) (Ra g 1 al) k (k + 1) (xs.length - k) j = if k + 1 ≤ j ∧ j < k + 1 + (xs.length - k) then Ra g 1 al (k + (j - (k + 1))) else Ra g 1 al j := fun _ => rfl
  rw [hcp]
  split at hi
  · rename_i hik
    rw [List.getElem?_take_of_lt hik] at hi
    rw [if_neg (fun q => by omega), if_neg (fun q => by omega)]
    exact h11 i x hi
  · rename_i hik
    by_cases hie : i = k
    · subst hie
      simp at hi
      rw [if_pos ⟨rfl, rfl, rfl⟩, hi]
    · rw [show i - k = (i - k - 1) + 1 by omega, List.getElem?_cons_succ, List.getElem?_drop] at hi
      have hlt := (List.getElem?_eq_some_iff.mp hi).1
      rw [if_neg (fun q => hie q.2.2), if_pos ⟨by omega, by omega⟩, show k + (i - (k + 1)) = k + (i - k - 1) by omega]
      exact h11 _ x hi
def Sp_AL_add_i0 (Γ : GAM) (th : Nat) (p0 : Int32) (p1 : Nat) (g : GH) (K : GH → Prop) : Prop := ∃ xs k, AC Γ g th xs ∧ SE Γ g ∧ NT g ∧ (∀ x ∈ xs, isO g x) ∧ isO g p1 ∧ p0 = nI k ∧ k ≤ xs.length ∧ xs.length < 1000 ∧ RmA Γ g ∧ ∀ g', Fr [] [] [th] g g' → AC Γ g' th (xs.take k ++ p1 :: xs.drop k) → GRW g g' th xs.length → K g'
-- the walk of AL_add_i0
set_option maxRecDepth 100000 in
def B_AL_add_i0_38 (Γ : GAM) (K : GH → Prop) (l0 : Nat) (l1 : Int32) (l2 : Nat) (l3 : Int32) (l4 : Nat) (g : GH) : Prop :=
  Kd g l4 = 22 ∧ Kd g l4 = 22 ∧ 0 ≤ l1 ∧ 0 ≤ (l1 + (1 : Int32)) ∧ 0 ≤ (l3 - l1) ∧ l1.toNatClampNeg + (l3 - l1).toNatClampNeg ≤ Ln g l4 ∧ (l1 + (1 : Int32)).toNatClampNeg + (l3 - l1).toNatClampNeg ≤ Ln g l4 ∧ (0 < Ln g l4 ∧ 0 < Ln g l4) ∧ (∀ i, i < (l3 - l1).toNatClampNeg → ∀ y, Ra g (Co g l4) (Ow g l4) (l1.toNatClampNeg + i) = some y → ∃ ci, Kd g y = ci + 1 ∧ ci < 13) ∧ ∀ g1 : GH, g1 = sRAf g (Co g l4) (Ow g l4) (va_cpy (Ra g (Co g l4) (Ow g l4)) (Ra g (Co g l4) (Ow g l4)) l1.toNatClampNeg (l1 + (1 : Int32)).toNatClampNeg (l3 - l1).toNatClampNeg) → Kd g1 l4 = 22 ∧ inB l1 (Ln g1 l4) ∧ (∃ ci, Kd g1 l2 = ci + 1 ∧ ci < 13) ∧ ∀ g2 : GH, g2 = sRA g1 (Co g1 l4) (Ow g1 l4) l1.toNatClampNeg (some l2) → Kd g2 l0 = 1 ∧ ∀ g3 : GH, g3 = sI g2 2 l0 (l3 + (1 : Int32)) → K g3
set_option maxHeartbeats 4000000 in
set_option maxRecDepth 100000 in
theorem S_AL_add_i0_38 {Γ : GAM} {E : EV} {K : GH → Prop} (hE : GE Γ E cJx4a65c_add_7a177 5 RJx4a65c none 5 127 (fun r g' => r = none ∧ K g')) (l0 : Nat) (l1 : Int32) (l2 : Nat) (l3 : Int32) (l4 : Nat) (g : GH) (h : B_AL_add_i0_38 Γ K l0 l1 l2 l3 l4 g) : JW Γ E 38 [some (.ref l0), some (.int l1), some (.ref l2), some (.int l3), some (.ref l4)] [] g := by
  unfold B_AL_add_i0_38 at h
  refine j_aload hE (by decide +kernel : decode cJx4a65c_add_7a177 38 = .ok (.aload 4, 2)) rfl ?_
  refine j_iload_n hE (by decide +kernel : decode cJx4a65c_add_7a177 40 = .ok (.iload_n 1, 1)) rfl rfl ?_
  refine j_aload hE (by decide +kernel : decode cJx4a65c_add_7a177 41 = .ok (.aload 4, 2)) rfl ?_
  refine j_iload_n hE (by decide +kernel : decode cJx4a65c_add_7a177 43 = .ok (.iload_n 1, 1)) rfl rfl ?_
  refine j_iconst hE (by decide +kernel : decode cJx4a65c_add_7a177 44 = .ok (.iconst 1, 1)) (v := (1 : Int32)) (by decide) ?_
  refine j_iadd hE (by decide +kernel : decode cJx4a65c_add_7a177 45 = .ok (.iadd, 1)) ?_
  refine j_iload_n hE (by decide +kernel : decode cJx4a65c_add_7a177 46 = .ok (.iload_n 3, 1)) rfl rfl ?_
  refine j_iload_n hE (by decide +kernel : decode cJx4a65c_add_7a177 47 = .ok (.iload_n 1, 1)) rfl rfl ?_
  refine j_isub hE (by decide +kernel : decode cJx4a65c_add_7a177 48 = .ok (.isub, 1)) ?_
  obtain ⟨hk0, hk, c1, c2, c3, c4, c5, c6, c7, h⟩ := h
  obtain ⟨g1, hg⟩ : ∃ z, z = sRAf g (Co g l4) (Ow g l4) (va_cpy (Ra g (Co g l4) (Ow g l4)) (Ra g (Co g l4) (Ow g l4)) l1.toNatClampNeg (l1 + (1 : Int32)).toNatClampNeg (l3 - l1).toNatClampNeg) := ⟨_, rfl⟩; replace h := h g1 hg
  refine j_copyq hE rfl cp_Jx4a65c_112 hk0 hk c1 c2 c3 c4 c5 c6 c7 (Nat.le_of_ble_eq_true rfl) (by omega) (by omega) (by decide +kernel : decode cJx4a65c_add_7a177 49 = .ok (.invokestatic 112, 3)) ?_
  rw [← hg]
  refine j_aload hE (by decide +kernel : decode cJx4a65c_add_7a177 52 = .ok (.aload 4, 2)) rfl ?_
  refine j_iload_n hE (by decide +kernel : decode cJx4a65c_add_7a177 54 = .ok (.iload_n 1, 1)) rfl rfl ?_
  refine j_aload_n hE (by decide +kernel : decode cJx4a65c_add_7a177 55 = .ok (.aload_n 2, 1)) rfl rfl ?_
  obtain ⟨hk, hb, ⟨ci, hv1, hv2⟩, h⟩ := h
  obtain ⟨g2, hg⟩ : ∃ z, z = sRA g1 (Co g1 l4) (Ow g1 l4) l1.toNatClampNeg (some l2) := ⟨_, rfl⟩; replace h := h g2 hg
  refine j_aast hE hk hb hv1 hv2 (by decide +kernel : decode cJx4a65c_add_7a177 56 = .ok (.aastore, 1)) ?_
  rw [← hg]
  refine j_aload_n hE (by decide +kernel : decode cJx4a65c_add_7a177 57 = .ok (.aload_n 0, 1)) rfl rfl ?_
  refine j_iload_n hE (by decide +kernel : decode cJx4a65c_add_7a177 58 = .ok (.iload_n 3, 1)) rfl rfl ?_
  refine j_iconst hE (by decide +kernel : decode cJx4a65c_add_7a177 59 = .ok (.iconst 1, 1)) (v := (1 : Int32)) (by decide) ?_
  refine j_iadd hE (by decide +kernel : decode cJx4a65c_add_7a177 60 = .ok (.iadd, 1)) ?_
  obtain ⟨hk, h⟩ := h
  obtain ⟨g3, hg⟩ : ∃ z, z = sI g2 2 l0 (l3 + (1 : Int32)) := ⟨_, rfl⟩; replace h := h g3 hg
  refine j_putI hE fa_Jx4a65c_48 hk (fun q => by cases q) (by decide +kernel : decode cJx4a65c_add_7a177 61 = .ok (.putfield 48, 3)) ?_
  rw [← hg]
  exact j_vret hE (by decide +kernel : decode cJx4a65c_add_7a177 64 = .ok (.return_, 1)) ⟨rfl, h⟩
set_option maxRecDepth 100000 in
def B_AL_add_i0_0 (Γ : GAM) (K : GH → Prop) (th : Nat) (p0 : Int32) (p1 : Nat) (g : GH) : Prop :=
  Kd g th = 1 ∧ Sp_AL_rangeCheckForAdd Γ th p0 g (fun (g1 : GH) => Kd g1 th = 1 ∧ Kd g1 th = 1 ∧ ∀ g2 : GH, g2 = sI g1 0 th ((Gi g1 0 th) + (1 : Int32)) → Kd g2 th = 1 ∧ ∀ x3 : Int32, x3 = (Gi g2 2 th) → Kd g2 th = 1 ∧ ∃ a4 : Nat, Gr g2 1 th = some a4 ∧ (20 ≤ Kd g2 a4 ∧ Kd g2 a4 < 24) ∧ ((¬ (x3 = (Int32.ofNat (Ln g2 a4))) → B_AL_add_i0_38 Γ K th p0 p1 x3 a4 g2) ∧ (x3 = (Int32.ofNat (Ln g2 a4)) → Kd g2 th = 1 ∧ Sp_AL_grow_0 Γ th g2 (fun (a6 : Nat) (g5 : GH) => B_AL_add_i0_38 Γ K th p0 p1 x3 a6 g5))))
set_option maxHeartbeats 4000000 in
set_option maxRecDepth 100000 in
theorem S_AL_add_i0_0 {Γ : GAM} {E : EV} {K : GH → Prop} (hE : GE Γ E cJx4a65c_add_7a177 5 RJx4a65c none 5 127 (fun r g' => r = none ∧ K g')) (th : Nat) (p0 : Int32) (p1 : Nat) (g : GH) (h : B_AL_add_i0_0 Γ K th p0 p1 g) : JW Γ E 0 [some (.ref th), some (.int p0), some (.ref p1), none, none] [] g := by
  unfold B_AL_add_i0_0 at h
  refine j_aload_n hE (by decide +kernel : decode cJx4a65c_add_7a177 0 = .ok (.aload_n 0, 1)) rfl rfl ?_
  refine j_iload_n hE (by decide +kernel : decode cJx4a65c_add_7a177 1 = .ok (.iload_n 1, 1)) rfl rfl ?_
  obtain ⟨hk, h⟩ := h
  refine j_callV hE rfl cl_Jx4a65c_135 cf_0 im_Jx4a65c_rangeCheckForAdd_d00df se_Jx4a65c_rangeCheckForAdd_d00df ⟨by omega, by omega⟩ (As := [.int p0]) (rest := []) rfl rfl (Nat.le_of_ble_eq_true rfl) hk (by decide +kernel : decode cJx4a65c_add_7a177 2 = .ok (.invokevirtual 135, 3)) (mt_AL_rangeCheckForAdd _ _ _ _ h) ?_
  rintro _ g1 ⟨rfl, h⟩
  refine j_aload_n hE (by decide +kernel : decode cJx4a65c_add_7a177 5 = .ok (.aload_n 0, 1)) rfl rfl ?_
  refine j_dup hE (by decide +kernel : decode cJx4a65c_add_7a177 6 = .ok (.dup, 1)) rfl ?_
  obtain ⟨hk, h⟩ := h
  refine j_getI hE fg_Jx4a65c_63 hk (by decide +kernel : decode cJx4a65c_add_7a177 7 = .ok (.getfield 63, 3)) ?_
  refine j_iconst hE (by decide +kernel : decode cJx4a65c_add_7a177 10 = .ok (.iconst 1, 1)) (v := (1 : Int32)) (by decide) ?_
  refine j_iadd hE (by decide +kernel : decode cJx4a65c_add_7a177 11 = .ok (.iadd, 1)) ?_
  obtain ⟨hk, h⟩ := h
  obtain ⟨g2, hg⟩ : ∃ z, z = sI g1 0 th ((Gi g1 0 th) + (1 : Int32)) := ⟨_, rfl⟩; replace h := h g2 hg
  refine j_putI hE fa_Jx4a65c_63 hk (fun q => by cases q) (by decide +kernel : decode cJx4a65c_add_7a177 12 = .ok (.putfield 63, 3)) ?_
  rw [← hg]
  refine j_aload_n hE (by decide +kernel : decode cJx4a65c_add_7a177 15 = .ok (.aload_n 0, 1)) rfl rfl ?_
  obtain ⟨hk, h⟩ := h
  refine j_getI hE fg_Jx4a65c_48 hk (by decide +kernel : decode cJx4a65c_add_7a177 16 = .ok (.getfield 48, 3)) ?_
  obtain ⟨x3, hx⟩ : ∃ z, z = (Gi g2 2 th) := ⟨_, rfl⟩; replace h := h x3 hx; rw [← hx]
  refine j_dup hE (by decide +kernel : decode cJx4a65c_add_7a177 19 = .ok (.dup, 1)) rfl ?_
  refine j_istore_n hE (by decide +kernel : decode cJx4a65c_add_7a177 20 = .ok (.istore_n 3, 1)) rfl (Nat.le_of_ble_eq_true rfl) rfl ?_
  refine j_aload_n hE (by decide +kernel : decode cJx4a65c_add_7a177 21 = .ok (.aload_n 0, 1)) rfl rfl ?_
  obtain ⟨hk, h⟩ := h
  obtain ⟨a4, ha, h⟩ := h
  refine j_getRn hE fg_Jx4a65c_9 hk ha (by decide +kernel : decode cJx4a65c_add_7a177 22 = .ok (.getfield 9, 3)) ?_
  refine j_dup hE (by decide +kernel : decode cJx4a65c_add_7a177 25 = .ok (.dup, 1)) rfl ?_
  refine j_astore hE (by decide +kernel : decode cJx4a65c_add_7a177 26 = .ok (.astore 4, 2)) (Nat.le_of_ble_eq_true rfl) rfl ?_
  obtain ⟨hk, h⟩ := h
  refine j_alen hE hk (by decide +kernel : decode cJx4a65c_add_7a177 28 = .ok (.arraylength, 1)) ?_
  refine j_icmp_ne hE (by decide +kernel : decode cJx4a65c_add_7a177 29 = .ok (.if_icmp .ne 9, 3)) (tgt := 38) (by decide) (fun q => ?_) (fun q => ?_)
  · replace h := h.1 q
    exact S_AL_add_i0_38 hE _ _ _ _ _ _ h
  · replace h := h.2 q
    refine j_aload_n hE (by decide +kernel : decode cJx4a65c_add_7a177 32 = .ok (.aload_n 0, 1)) rfl rfl ?_
    obtain ⟨hk, h⟩ := h
    refine j_callV hE rfl cl_Jx4a65c_129 cf_0 im_Jx4a65c_grow_d5877 se_Jx4a65c_grow_d5877 ⟨by omega, by omega⟩ (As := []) (rest := []) rfl rfl (Nat.le_of_ble_eq_true rfl) hk (by decide +kernel : decode cJx4a65c_add_7a177 33 = .ok (.invokevirtual 129, 3)) (mt_AL_grow_0 _ _ _ h) ?_
    rintro _ g5 ⟨a6, rfl, h⟩
    refine j_astore hE (by decide +kernel : decode cJx4a65c_add_7a177 36 = .ok (.astore 4, 2)) (Nat.le_of_ble_eq_true rfl) rfl ?_
    exact S_AL_add_i0_38 hE _ _ _ _ _ _ h
set_option maxHeartbeats 4000000 in
set_option maxRecDepth 100000 in
theorem rl_AL_add_i0 {Γ : GAM} {l : Launch} {th : Nat} {p0 : Int32} {p1 : Nat} {g : GH} {K : GH → Prop} (h0 : B_AL_add_i0_0 Γ K th p0 p1 g) : MetA Γ l yJx4a65c_add_7a177 cJx4a65c_add_7a177 5 none 5 127 [.ref th, .int p0, .ref p1] g (fun r g' => r = none ∧ K g') := by
  refine MetA.introL (Lx := [some (.ref th), some (.int p0), some (.ref p1), none, none]) (by decide) (Nat.le_of_ble_eq_true rfl) rfl rfl ?_
  intro E hEl hE hnm
  exact S_AL_add_i0_0 hE th p0 p1 g h0
theorem mt_AL_add_i0 {Γ : GAM} {l : Launch} (th : Nat) (p0 : Int32) (p1 : Nat) (g : GH) (K : GH → Prop) (h : Sp_AL_add_i0 Γ th p0 p1 g K) : MetA Γ l yJx4a65c_add_7a177 cJx4a65c_add_7a177 5 none 5 127 [.ref th, .int p0, .ref p1] g (fun r g' => r = none ∧ K g') := by
  refine MetA.rep (fun hR => ?_)
  have hen := EN.of hR
  obtain ⟨xs, k, hA, hse, hnt, hel, he, rfl, hk, hl, hr, hK⟩ := h
  obtain ⟨⟨h1, h2⟩, h3, h4, d, ⟨h5, h6, h7⟩, h8, h9, h10, h11⟩ := id hA
  have h38 : ∀ a g', EN g' → Fr [] [] [th] g g' → AC Γ g' th xs → (Gr g' 1 th = some a ∧ xs.length < Ln g' a ∧ Co g' a = 1 ∧ Ow g' a = th ∧ Kd g' a = 22) → GRW g g' th xs.length → B_AL_add_i0_38 Γ K th (nI k) p1 (nI xs.length) a g' := by
    intro a g' hen' hfr hA' ⟨q1, q2, q3, q4, q5⟩ hh
    unfold B_AL_add_i0_38
    have hln : Ln g' a ≤ 2000 := by
      obtain ⟨_, _, _, d', ⟨w1, _⟩, _, w2, _⟩ := hA'
      rw [q1] at w1; cases w1; exact w2
    have hra : ∀ i x, xs[i]? = some x → Ra g' 1 th i = some x := by
      obtain ⟨_, _, _, d', _, _, _, _, w⟩ := hA'
      exact w
    obtain ⟨_, ci, e1, e2⟩ := he.fr hfr
    rw [nj_s, nj_s, nj_sub hk, q3, q4, nj_cl (show k < 2147483648 by omega), nj_cl (show k + 1 < 2147483648 by omega), nj_cl (show xs.length - k < 2147483648 by omega)]
    refine ⟨q5, q5, nj_nneg (by omega), nj_nneg (by omega), nj_nneg (by omega), by omega, by omega, by omega, fun i hi y hy => ?_, ?_⟩
    · obtain ⟨x, hx⟩ := get_lt (show k + i < xs.length by omega)
      rw [hra _ x hx] at hy
      cases hy
      obtain ⟨_, cj, e3, e4⟩ := (hel _ (List.mem_of_getElem? hx)).fr hfr
      exact ⟨cj, e3, e4⟩
    · rintro g1 rfl
      refine ⟨q5, inB_nI (by show k < Ln g' a; omega) (by show Ln g' a < _; omega), ⟨ci, e1, e2⟩, ?_⟩
      rintro g2 rfl
      refine ⟨hA'.1.2, ?_⟩
      rintro g3 hg3
      have f1 : Fr [] [] [th] g' (sRAf g' 1 th (va_cpy (Ra g' 1 th) (Ra g' 1 th) k (k + 1) (xs.length - k))) := Fr.sRAf hen' ⟨by omega, by simp⟩
      have f2 : Fr [] [] [th] (sRAf g' 1 th (va_cpy (Ra g' 1 th) (Ra g' 1 th) k (k + 1) (xs.length - k))) (sRA (sRAf g' 1 th (va_cpy (Ra g' 1 th) (Ra g' 1 th) k (k + 1) (xs.length - k))) 1 th k (some p1)) := Fr.sRA (show EN (sRAf g' 1 th (va_cpy (Ra g' 1 th) (Ra g' 1 th) k (k + 1) (xs.length - k))) from hen') ⟨by omega, by simp⟩
      have f3 : Fr [] [] [th] (sRA (sRAf g' 1 th (va_cpy (Ra g' 1 th) (Ra g' 1 th) k (k + 1) (xs.length - k))) 1 th k (some p1)) g3 := by
        rw [hg3]
        have hc : Co (sRAf g' 1 th (va_cpy (Ra g' 1 th) (Ra g' 1 th) k (k + 1) (xs.length - k))) a = 1 := q3
        have ho : Ow (sRAf g' 1 th (va_cpy (Ra g' 1 th) (Ra g' 1 th) k (k + 1) (xs.length - k))) a = th := q4
        rw [hc, ho]
        exact Fr.sI (show EN (sRA (sRAf g' 1 th (va_cpy (Ra g' 1 th) (Ra g' 1 th) k (k + 1) (xs.length - k))) 1 th k (some p1)) from hen') (.inr ⟨by simp, by omega⟩)
      have hA3 := hA'.ins (e := p1) q1 q2 q3 q4 hl hk
      have hg3' : g3 = sI (sRA (sRAf g' 1 th (va_cpy (Ra g' 1 th) (Ra g' 1 th) k (k + 1) (xs.length - k))) 1 th k (some p1)) 2 th (nI (xs.length + 1)) := by
        rw [hg3]
        have hc : Co (sRAf g' 1 th (va_cpy (Ra g' 1 th) (Ra g' 1 th) k (k + 1) (xs.length - k))) a = 1 := q3
        have ho : Ow (sRAf g' 1 th (va_cpy (Ra g' 1 th) (Ra g' 1 th) k (k + 1) (xs.length - k))) a = th := q4
        rw [hc, ho]
      rw [← hg3'] at hA3
      exact hK g3 (hfr.tr (f1.tr (f2.tr f3))) hA3 (by rw [hg3']; exact hh)
  have f1 : Fr [] [] [th] g (sI g 0 th (Gi g 0 th + 1)) := Fr.sI hen (.inr ⟨by simp, by omega⟩)
  have hA1 : AC Γ (sI g 0 th (Gi g 0 th + 1)) th xs := ⟨⟨h1, h2⟩, by rw [Gi_sI, if_neg (fun q => absurd q.1 (by decide))]; exact h3, h4, d, ⟨h5, h6, h7⟩, h8, h9, h10, h11⟩
  refine rl_AL_add_i0 ?_
  unfold B_AL_add_i0_0
  refine ⟨h2, h2, nj_nneg (by omega), by rw [h3]; exact (nj_le (by omega) (by omega)).mpr hk, h2, h2, ?_⟩
  rintro g2 rfl
  refine ⟨h2, ?_⟩
  have hsz : Gi (sI g 0 th (Gi g 0 th + 1)) 2 th = nI xs.length := by rw [Gi_sI, if_neg (fun q => absurd q.1 (by decide))]; exact h3
  rw [hsz]
  rintro x3 rfl
  have hof : Int32.ofNat (Ln (sI g 0 th (Gi g 0 th + 1)) d) = nI (Ln g d) := rfl
  refine ⟨h2, d, h5, ⟨by show 20 ≤ Kd g d; omega, by show Kd g d < 24; omega⟩, ?_⟩
  rw [hof, nj_eq (by omega) (by omega)]
  refine ⟨fun q => ?_, fun q => ⟨h2, xs, d, hA1, hse.fr f1, f1.2.2.2.2.2.2.1.1 hnt, fun x hx => (hel x hx).fr f1, h5, q.symm, hl, hr, fun a g' hfr hA' ha hh => ?_⟩⟩
  · rcases h10 with ⟨z1, z2, _⟩ | ⟨z1, z2, z3⟩
    · omega
    · exact h38 d _ (show EN (sI g 0 th (Gi g 0 th + 1)) from hen) f1 hA1 ⟨h5, by show _ < Ln g d; omega, z2, z3, h7⟩ (.inl ⟨rfl, rfl, rfl⟩)
  · exact h38 a g' (hfr.2.2.2.2.2.2.1.2 hen) (f1.tr hfr) hA' ha (GRW.g h5 q.symm ha.1 ha.2.1 hh.2.1 hh.2.2)
