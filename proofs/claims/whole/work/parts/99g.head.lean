/-! by program and hand: the law's hand, its letter, its loop, its start -/
theorem cs_633 {Γ : GAM} {Z : SCRT} {n k l1 l2 l3 : Nat} {g : GH} {C : CDR} {ma : Nat → Nat} {s : ST} (S : HD Γ Z n k l1 l2 l3 g C ma s) : B_LAW_law_633 Γ Z (KN Γ Z n) KE (z_b Z) l1 l2 l3 (nI (6 * k)) g := by
  unfold B_LAW_law_633 B_LAW_law_660 B_LAW_law_690 B_LAW_law_1934
  exact ⟨rfl, S.i1, rfl, S.i2, rfl, S.i3, fun c => ⟨S.k1, S.pv (fun C2 g1 M => ⟨rfl, S.i1, rfl, S.i2, rfl, S.i3, fun _ => ⟨M.k2, .inl rfl, ma, s, M.ref, fun g2 hf hr => ⟨fun _ => M.nx (S.wf.hand _ _ _ (.inl rfl)) hf hr, fun z => absurd rfl z⟩⟩, fun z => absurd c z⟩)⟩,
    fun c => ⟨S.k1, S.pv (fun C2 g1 M => ⟨rfl, S.i1, rfl, S.i2, rfl, S.i3, fun z => absurd z c, fun _ => ⟨M.k2, .inr rfl, ma, s, M.ref, fun g2 hf hr => ⟨fun _ => M.nx (S.wf.hand _ _ _ (.inr rfl)) hf hr, fun z => absurd rfl z⟩⟩⟩)⟩⟩
theorem lg_cmp_rf (x : Int64) : lg_cmp x x = 0 := by
  unfold lg_cmp
  rw [if_neg (show ¬ x > x from Int64.lt_irrefl), if_pos rfl]
theorem cs_932 {Γ : GAM} {Z : SCRT} {n k l1 l2 l3 : Nat} {g : GH} {C : CDR} {ma : Nat → Nat} {s : ST} (S : HD Γ Z n k l1 l2 l3 g C ma s) : B_LAW_law_932 Γ Z (KN Γ Z n) KE (z_b Z) l1 l2 l3 (nI (6 * k)) g := by
  unfold B_LAW_law_932 B_LAW_law_1009 B_LAW_law_1934
  obtain ⟨hx, hI, hW, hR, hM, ho, hb⟩ := id S
  refine ⟨rfl, S.i1, rfl, S.i2, rfl, S.i3, C, s, n, hx, hI, hW, hR, ⟨ho.1, by omega⟩, fun g' hF hI' hR' => ⟨fun ok => ?_, fun ok => ?_⟩⟩
  · have ho' := hF.kd (hI.en.lt (a := l3) (by omega)) (by omega)
    have M : HM Γ Z n k l1 l2 l3 (sLA g' l3 0 (p_letter s (z_x Z (nI (6 * k) + (1 : Int32)).toNatClampNeg) (z_x Z (nI (6 * k) + (2 : Int32)).toNatClampNeg) (z_x Z (nI (6 * k) + (3 : Int32)).toNatClampNeg)).toInt64) C ma s s := ⟨hx, hI'.la, hR'.la, (hM.frc hF hI.en).la, ⟨ho'.1.trans ho.1, ho'.2.2.2.trans ho.2⟩, hb⟩
    refine ⟨rfl, S.i1, rfl, S.i2, rfl, S.i3, M.k2, ma, s, M.ref, hW, fun g2 hx2 ht => ?_⟩
    rw [if_pos ok] at ht
    have hr := M.ref.x hx2 (by decide +kernel)
    have hf := hx2.l (by decide) (by decide)
    obtain ⟨x1, x2, x3, x4, x5, x6, x7, x8, x9, x10, x11, x12⟩ := id hf
    refine ⟨hr.1.1, hr.1.1, fun _ => ⟨fun z => absurd rfl z, fun _ => ⟨by rw [x6]; exact M.2.2.2.2.1.1, ⟨Int32.le_refl _, by rw [x9, M.2.2.2.2.1.2]; decide⟩, fun _ => M.nx hW hf hr, fun z => ?_⟩⟩, fun z => absurd ht z⟩
    refine absurd ?_ z
    rw [x5, show (0 : Int32).toNatClampNeg = 0 from by decide, La_sLA, if_pos ⟨rfl, rfl⟩]
    exact lg_cmp_rf _
  · have ho' := hF.kd (hI.en.lt (a := l3) (by omega)) (by omega)
    have M : HM Γ Z n k l1 l2 l3 g' C ma s s := ⟨hx, hI', hR', hM.frc hF hI.en, ⟨ho'.1.trans ho.1, ho'.2.2.2.trans ho.2⟩, hb⟩
    refine ⟨rfl, S.i1, rfl, S.i2, rfl, S.i3, M.k2, ma, s, M.ref, hW, fun g2 hx2 ht => ?_⟩
    rw [if_neg ok] at ht
    have hr := M.ref.x hx2 (by decide +kernel)
    exact ⟨hr.1.1, hr.1.1, fun _ => ⟨fun _ => M.nx hW (hx2.l (by decide) (by decide)) hr, fun z => absurd z (by decide)⟩, fun z => absurd ht z⟩
theorem scr_end {n k : Nat} (hn : n ≤ 3072) (hk : k ≤ 512) (h : ¬ (Int32.ofNat n - (6 : Int32) < nI (6 * k))) : 6 * k + 6 ≤ n := by
  refine Classical.byContradiction (fun z => h ?_)
  rw [Int32.lt_iff_toInt_lt, nj_toInt (by omega)]
  by_cases h6 : 6 ≤ n
  · have e : Int32.ofNat n - (6 : Int32) = nI (n - 6) := nj_sub (b := 6) h6
    rw [e, nj_toInt (by omega)]
    omega
  · have e : ∀ m, m < 6 → (Int32.ofNat m - (6 : Int32)).toInt < 0 := by decide
    have := e n (by omega)
    omega
theorem law_head {Γ : GAM} {Z : SCRT} {n l0 l1 l2 l3 : Nat} {l4 : Int32} {g : GH} (h : LI Γ Z n l0 l1 l2 l3 l4 g) : B_LAW_law_23 Γ Z (fun l0 l1 l2 l3 l4 g => ∃ m, m < n ∧ LI Γ Z m l0 l1 l2 l3 l4 g) KE l0 l1 l2 l3 l4 g := by
  obtain ⟨rfl, C, ma, s, k, ⟨k1, rfl, rfl⟩, hx, hI, hW, hR, hM, ho, hz⟩ := h
  unfold B_LAW_law_23
  refine ⟨rfl, fun _ => rfl, fun u => ?_⟩
  have h6 := scr_end hz k1 u
  obtain ⟨n, hn⟩ : ∃ n, 512 - k = n + 1 := ⟨511 - k, by omega⟩
  rw [hn] at hR ⊢
  have S : HD Γ Z n k l1 l2 l3 g C ma s := ⟨hx, hI, hW, hR, hM, ho, by omega, h6, hz⟩
  refine ⟨rfl, inB_nI (by omega) (by omega), ?_⟩
  unfold B_LAW_law_1934
  have hd : KN Γ Z n (z_b Z) l1 l2 l3 (nI (6 * k) + (6 : Int32)) g := HM.nx (C := C) (ma := ma) (s := s) (s' := s) ⟨hx, hI, hR.dn, hM, ho, by omega, h6, hz⟩ hW FrL.rf hM
  exact ⟨fun _ => cs_228 S, fun _ => ⟨fun _ => cs_253 S, fun _ => ⟨fun _ => cs_302 S, fun _ => ⟨fun _ => cs_351 S, fun _ => ⟨fun _ => cs_400 S, fun _ => ⟨fun _ => cs_449 S, fun _ => ⟨fun _ => cs_510 S, fun _ => ⟨fun _ => cs_559 S, fun _ => ⟨fun _ => cs_596 S, fun _ => ⟨fun _ => cs_633 S, fun _ => ⟨fun _ => cs_698 S, fun _ => ⟨fun _ => cs_735 S, fun _ => ⟨fun _ => cs_808 S, fun _ => ⟨fun _ => cs_833 S, fun _ => ⟨fun _ => cs_846 S, fun _ => ⟨fun _ => cs_883 S, fun _ => ⟨fun _ => cs_932 S, fun _ => ⟨fun _ => cs_1012 S, fun _ => ⟨fun _ => cs_1049 S, fun _ => ⟨fun _ => cs_1086 S, fun _ => ⟨fun _ => cs_1123 S, fun _ => ⟨fun _ => cs_1160 S, fun _ => ⟨fun _ => cs_1185 S, fun _ => ⟨fun _ => cs_1234 S, fun _ => ⟨fun _ => cs_1283 S, fun _ => ⟨fun _ => cs_1296 S, fun _ => ⟨fun _ => cs_1321 S, fun _ => ⟨fun _ => cs_1402 S, fun _ => ⟨fun _ => cs_1451 S, fun _ => ⟨fun _ => cs_1476 S, fun _ => ⟨fun _ => cs_1501 S, fun _ => ⟨fun _ => cs_1514 S, fun _ => ⟨fun _ => cs_1563 S, fun _ => ⟨fun _ => cs_1612 S, fun _ => ⟨fun _ => cs_1637 S, fun _ => ⟨fun _ => cs_1662 S, fun _ => ⟨fun _ => cs_1699 S, fun _ => ⟨fun _ => cs_1736 S, fun _ => ⟨fun _ => cs_1773 S, fun _ => ⟨fun _ => cs_1798 S, fun _ => ⟨fun _ => cs_1823 S, fun _ => ⟨fun _ => cs_1860 S, fun _ => ⟨fun _ => cs_1909 S, fun _ => hd⟩⟩⟩⟩⟩⟩⟩⟩⟩⟩⟩⟩⟩⟩⟩⟩⟩⟩⟩⟩⟩⟩⟩⟩⟩⟩⟩⟩⟩⟩⟩⟩⟩⟩⟩⟩⟩⟩⟩⟩⟩⟩⟩
