/-! by program: the law's calls, one by one -/
theorem cs_228 {Γ : GAM} {Z : SCRT} {n k l1 l2 l3 : Nat} {g : GH} {C : CDR} {ma : Nat → Nat} {s : ST} (S : HD Γ Z n k l1 l2 l3 g C ma s) : B_LAW_law_228 Γ Z (KN Γ Z n) KE (z_b Z) l1 l2 l3 (nI (6 * k)) g := by
  unfold B_LAW_law_228 B_LAW_law_1934
  exact ⟨rfl, S.i1, S.k1, S.pv (fun C2 g1 M => ⟨rfl, S.i1, M.k2, ma, s, M.ref, fun g2 hf hr => ⟨fun _ => M.nx (S.wf.days _) hf hr, fun z => absurd rfl z⟩⟩)⟩
theorem cs_253 {Γ : GAM} {Z : SCRT} {n k l1 l2 l3 : Nat} {g : GH} {C : CDR} {ma : Nat → Nat} {s : ST} (S : HD Γ Z n k l1 l2 l3 g C ma s) : B_LAW_law_253 Γ Z (KN Γ Z n) KE (z_b Z) l1 l2 l3 (nI (6 * k)) g := by
  unfold B_LAW_law_253 B_LAW_law_1934
  exact ⟨rfl, S.i1, rfl, S.i2, rfl, S.i3, S.k1, S.pv (fun C2 g1 M => ⟨rfl, S.i1, rfl, S.i2, rfl, S.i3, M.k2, ma, s, M.ref, fun g2 hf hr => ⟨fun _ => M.nx (S.wf.voter _ _ _) hf hr, fun z => absurd rfl z⟩⟩)⟩
theorem cs_302 {Γ : GAM} {Z : SCRT} {n k l1 l2 l3 : Nat} {g : GH} {C : CDR} {ma : Nat → Nat} {s : ST} (S : HD Γ Z n k l1 l2 l3 g C ma s) : B_LAW_law_302 Γ Z (KN Γ Z n) KE (z_b Z) l1 l2 l3 (nI (6 * k)) g := by
  unfold B_LAW_law_302 B_LAW_law_1934
  exact ⟨rfl, S.i1, rfl, S.i2, rfl, S.i3, S.k1, S.pv (fun C2 g1 M => ⟨rfl, S.i1, rfl, S.i2, rfl, S.i3, M.k2, ma, s, M.ref, fun g2 hf hr => ⟨fun _ => M.nx (S.wf.move _ _ _) hf hr, fun z => absurd rfl z⟩⟩)⟩
theorem cs_351 {Γ : GAM} {Z : SCRT} {n k l1 l2 l3 : Nat} {g : GH} {C : CDR} {ma : Nat → Nat} {s : ST} (S : HD Γ Z n k l1 l2 l3 g C ma s) : B_LAW_law_351 Γ Z (KN Γ Z n) KE (z_b Z) l1 l2 l3 (nI (6 * k)) g := by
  unfold B_LAW_law_351 B_LAW_law_1934
  exact ⟨rfl, S.i1, rfl, S.i2, rfl, S.i3, S.k1, S.pv (fun C2 g1 M => ⟨rfl, S.i1, rfl, S.i2, rfl, S.i3, M.k2, ma, s, M.ref, ⟨fun _ => M.nx S.wf FrL.rf M.ref, fun z => absurd rfl z⟩⟩)⟩
theorem cs_400 {Γ : GAM} {Z : SCRT} {n k l1 l2 l3 : Nat} {g : GH} {C : CDR} {ma : Nat → Nat} {s : ST} (S : HD Γ Z n k l1 l2 l3 g C ma s) : B_LAW_law_400 Γ Z (KN Γ Z n) KE (z_b Z) l1 l2 l3 (nI (6 * k)) g := by
  unfold B_LAW_law_400 B_LAW_law_1934
  exact ⟨rfl, S.i1, rfl, S.i2, rfl, S.i3, S.k1, S.pv (fun C2 g1 M => ⟨rfl, S.i1, rfl, S.i2, rfl, S.i3, M.k2, ma, s, M.ref, fun g2 hf hr => ⟨fun _ => M.nx (S.wf.send _ _ _) hf hr, fun z => absurd rfl z⟩⟩)⟩
theorem cs_449 {Γ : GAM} {Z : SCRT} {n k l1 l2 l3 : Nat} {g : GH} {C : CDR} {ma : Nat → Nat} {s : ST} (S : HD Γ Z n k l1 l2 l3 g C ma s) : B_LAW_law_449 Γ Z (KN Γ Z n) KE (z_b Z) l1 l2 l3 (nI (6 * k)) g := by
  unfold B_LAW_law_449 B_LAW_law_1934
  exact ⟨rfl, S.i1, rfl, S.i2, rfl, S.i3, rfl, S.i4, S.k1, S.pv (fun C2 g1 M => ⟨rfl, S.i1, rfl, S.i2, rfl, S.i3, rfl, S.i4, M.k2, ma, s, M.ref, fun g2 hf hr => ⟨fun _ => M.nx (S.wf.event _ _ _ _) hf hr, fun z => absurd rfl z⟩⟩)⟩
theorem cs_510 {Γ : GAM} {Z : SCRT} {n k l1 l2 l3 : Nat} {g : GH} {C : CDR} {ma : Nat → Nat} {s : ST} (S : HD Γ Z n k l1 l2 l3 g C ma s) : B_LAW_law_510 Γ Z (KN Γ Z n) KE (z_b Z) l1 l2 l3 (nI (6 * k)) g := by
  unfold B_LAW_law_510 B_LAW_law_1934
  exact ⟨rfl, S.i1, rfl, S.i2, rfl, S.i3, S.k1, S.pv (fun C2 g1 M => ⟨rfl, S.i1, rfl, S.i2, rfl, S.i3, M.k2, ma, s, M.ref, fun g2 hf hr => ⟨fun _ => M.nx (S.wf.empty _ _ _) hf hr, fun z => absurd rfl z⟩⟩)⟩
theorem cs_559 {Γ : GAM} {Z : SCRT} {n k l1 l2 l3 : Nat} {g : GH} {C : CDR} {ma : Nat → Nat} {s : ST} (S : HD Γ Z n k l1 l2 l3 g C ma s) : B_LAW_law_559 Γ Z (KN Γ Z n) KE (z_b Z) l1 l2 l3 (nI (6 * k)) g := by
  unfold B_LAW_law_559 B_LAW_law_1934
  exact ⟨rfl, S.i1, rfl, S.i2, S.k1, S.pv (fun C2 g1 M => ⟨rfl, S.i1, rfl, S.i2, M.k2, ma, s, M.ref, fun g2 hx => ⟨fun _ => M.nx S.wf (hx.l (by decide) (by decide)) (M.ref.x hx (by decide +kernel)), fun z => absurd rfl z⟩⟩)⟩
theorem cs_596 {Γ : GAM} {Z : SCRT} {n k l1 l2 l3 : Nat} {g : GH} {C : CDR} {ma : Nat → Nat} {s : ST} (S : HD Γ Z n k l1 l2 l3 g C ma s) : B_LAW_law_596 Γ Z (KN Γ Z n) KE (z_b Z) l1 l2 l3 (nI (6 * k)) g := by
  unfold B_LAW_law_596 B_LAW_law_1934
  exact ⟨rfl, S.i1, rfl, S.i2, S.k1, S.pv (fun C2 g1 M => ⟨rfl, S.i1, rfl, S.i2, M.k2, ma, s, M.ref, fun g2 hf hr => ⟨fun _ => M.nx (S.wf.read _ _) hf hr, fun z => absurd rfl z⟩⟩)⟩
theorem cs_698 {Γ : GAM} {Z : SCRT} {n k l1 l2 l3 : Nat} {g : GH} {C : CDR} {ma : Nat → Nat} {s : ST} (S : HD Γ Z n k l1 l2 l3 g C ma s) : B_LAW_law_698 Γ Z (KN Γ Z n) KE (z_b Z) l1 l2 l3 (nI (6 * k)) g := by
  unfold B_LAW_law_698 B_LAW_law_1934
  exact ⟨rfl, S.i1, rfl, S.i2, S.k1, S.pv (fun C2 g1 M => ⟨rfl, S.i1, rfl, S.i2, M.k2, ma, s, M.ref, fun g2 hf hr => ⟨fun _ => M.nx (S.wf.booth _ _) hf hr, fun z => absurd rfl z⟩⟩)⟩
theorem cs_735 {Γ : GAM} {Z : SCRT} {n k l1 l2 l3 : Nat} {g : GH} {C : CDR} {ma : Nat → Nat} {s : ST} (S : HD Γ Z n k l1 l2 l3 g C ma s) : B_LAW_law_735 Γ Z (KN Γ Z n) KE (z_b Z) l1 l2 l3 (nI (6 * k)) g := by
  unfold B_LAW_law_735 B_LAW_law_1934
  exact ⟨rfl, S.i1, rfl, S.i2, rfl, S.i3, rfl, S.i4, rfl, S.i5, S.k1, S.pv (fun C2 g1 M => ⟨rfl, S.i1, rfl, S.i2, rfl, S.i3, rfl, S.i4, rfl, S.i5, M.k2, ma, s, M.ref, S.wf, fun g2 hf hr => ⟨fun _ => M.nx (S.wf.feed _ _ _ _ _) hf hr, fun z => absurd rfl z⟩⟩)⟩
theorem cs_808 {Γ : GAM} {Z : SCRT} {n k l1 l2 l3 : Nat} {g : GH} {C : CDR} {ma : Nat → Nat} {s : ST} (S : HD Γ Z n k l1 l2 l3 g C ma s) : B_LAW_law_808 Γ Z (KN Γ Z n) KE (z_b Z) l1 l2 l3 (nI (6 * k)) g := by
  unfold B_LAW_law_808 B_LAW_law_1934
  exact ⟨rfl, S.i1, S.k1, S.pv (fun C2 g1 M => ⟨rfl, S.i1, M.k2, ma, s, M.ref, fun g2 hf hr => ⟨fun _ => M.nx (S.wf.endd _) hf hr, fun z => absurd rfl z⟩⟩)⟩
theorem cs_833 {Γ : GAM} {Z : SCRT} {n k l1 l2 l3 : Nat} {g : GH} {C : CDR} {ma : Nat → Nat} {s : ST} (S : HD Γ Z n k l1 l2 l3 g C ma s) : B_LAW_law_833 Γ Z (KN Γ Z n) KE (z_b Z) l1 l2 l3 (nI (6 * k)) g := by
  unfold B_LAW_law_833 B_LAW_law_1934
  exact ⟨S.k1, S.pv (fun C2 g1 M => ⟨M.k2, ma, s, M.ref, S.wf, fun g2 hx _ => ⟨fun _ => M.nx S.wf (hx.l (by decide) (by decide)) (M.ref.x hx (by decide +kernel)), fun z => absurd rfl z⟩⟩)⟩
theorem cs_846 {Γ : GAM} {Z : SCRT} {n k l1 l2 l3 : Nat} {g : GH} {C : CDR} {ma : Nat → Nat} {s : ST} (S : HD Γ Z n k l1 l2 l3 g C ma s) : B_LAW_law_846 Γ Z (KN Γ Z n) KE (z_b Z) l1 l2 l3 (nI (6 * k)) g := by
  unfold B_LAW_law_846 B_LAW_law_1934
  exact ⟨rfl, S.i1, rfl, S.i2, S.k1, S.pv (fun C2 g1 M => ⟨rfl, S.i1, rfl, S.i2, M.k2, ma, s, M.ref, S.wf, fun g2 hf hr => ⟨fun _ => M.nx (S.wf.law' _ _) hf hr, fun z => absurd rfl z⟩⟩)⟩
theorem cs_883 {Γ : GAM} {Z : SCRT} {n k l1 l2 l3 : Nat} {g : GH} {C : CDR} {ma : Nat → Nat} {s : ST} (S : HD Γ Z n k l1 l2 l3 g C ma s) : B_LAW_law_883 Γ Z (KN Γ Z n) KE (z_b Z) l1 l2 l3 (nI (6 * k)) g := by
  unfold B_LAW_law_883 B_LAW_law_1934
  exact ⟨rfl, S.i1, rfl, S.i2, rfl, S.i3, S.k1, S.pv (fun C2 g1 M => ⟨rfl, S.i1, rfl, S.i2, rfl, S.i3, M.k2, ma, s, M.ref, ⟨fun _ => M.nx S.wf FrL.rf M.ref, fun z => absurd rfl z⟩⟩)⟩
theorem cs_1012 {Γ : GAM} {Z : SCRT} {n k l1 l2 l3 : Nat} {g : GH} {C : CDR} {ma : Nat → Nat} {s : ST} (S : HD Γ Z n k l1 l2 l3 g C ma s) : B_LAW_law_1012 Γ Z (KN Γ Z n) KE (z_b Z) l1 l2 l3 (nI (6 * k)) g := by
  unfold B_LAW_law_1012 B_LAW_law_1934
  exact ⟨rfl, S.i1, rfl, S.i2, S.k1, S.pv (fun C2 g1 M => ⟨rfl, S.i1, rfl, S.i2, M.k2, ma, s, M.ref, S.wf, fun g2 hx => ⟨fun _ => M.nx S.wf (hx.l (by decide) (by decide)) (M.ref.x hx (by decide +kernel)), fun z => absurd rfl z⟩⟩)⟩
theorem cs_1049 {Γ : GAM} {Z : SCRT} {n k l1 l2 l3 : Nat} {g : GH} {C : CDR} {ma : Nat → Nat} {s : ST} (S : HD Γ Z n k l1 l2 l3 g C ma s) : B_LAW_law_1049 Γ Z (KN Γ Z n) KE (z_b Z) l1 l2 l3 (nI (6 * k)) g := by
  unfold B_LAW_law_1049 B_LAW_law_1934
  exact ⟨rfl, S.i1, rfl, S.i2, S.k1, S.pv (fun C2 g1 M => ⟨rfl, S.i1, rfl, S.i2, M.k2, ma, s, M.ref, S.wf, fun g2 hx => ⟨fun _ => M.nx S.wf (hx.l (by decide) (by decide)) (M.ref.x hx (by decide +kernel)), fun z => absurd rfl z⟩⟩)⟩
theorem cs_1086 {Γ : GAM} {Z : SCRT} {n k l1 l2 l3 : Nat} {g : GH} {C : CDR} {ma : Nat → Nat} {s : ST} (S : HD Γ Z n k l1 l2 l3 g C ma s) : B_LAW_law_1086 Γ Z (KN Γ Z n) KE (z_b Z) l1 l2 l3 (nI (6 * k)) g := by
  unfold B_LAW_law_1086 B_LAW_law_1934
  exact ⟨rfl, S.i1, rfl, S.i2, S.k1, S.pv (fun C2 g1 M => ⟨rfl, S.i1, rfl, S.i2, M.k2, ma, s, M.ref, S.wf, fun g2 hx => ⟨fun _ => M.nx S.wf (hx.l (by decide) (by decide)) (M.ref.x hx (by decide +kernel)), fun z => absurd rfl z⟩⟩)⟩
theorem cs_1123 {Γ : GAM} {Z : SCRT} {n k l1 l2 l3 : Nat} {g : GH} {C : CDR} {ma : Nat → Nat} {s : ST} (S : HD Γ Z n k l1 l2 l3 g C ma s) : B_LAW_law_1123 Γ Z (KN Γ Z n) KE (z_b Z) l1 l2 l3 (nI (6 * k)) g := by
  unfold B_LAW_law_1123 B_LAW_law_1934
  exact ⟨rfl, S.i1, rfl, S.i2, S.k1, S.pv (fun C2 g1 M => ⟨rfl, S.i1, rfl, S.i2, M.k2, ma, s, M.ref, S.wf, fun g2 hx => ⟨fun _ => M.nx S.wf (hx.l (by decide) (by decide)) (M.ref.x hx (by decide +kernel)), fun z => absurd rfl z⟩⟩)⟩
theorem cs_1160 {Γ : GAM} {Z : SCRT} {n k l1 l2 l3 : Nat} {g : GH} {C : CDR} {ma : Nat → Nat} {s : ST} (S : HD Γ Z n k l1 l2 l3 g C ma s) : B_LAW_law_1160 Γ Z (KN Γ Z n) KE (z_b Z) l1 l2 l3 (nI (6 * k)) g := by
  unfold B_LAW_law_1160 B_LAW_law_1934
  exact ⟨rfl, S.i1, S.k1, S.pv (fun C2 g1 M => ⟨rfl, S.i1, M.k2, ma, s, M.ref, S.wf, fun g2 hx => ⟨fun _ => M.nx S.wf (hx.l (by decide) (by decide)) (M.ref.x hx (by decide +kernel)), fun z => absurd rfl z⟩⟩)⟩
theorem cs_1185 {Γ : GAM} {Z : SCRT} {n k l1 l2 l3 : Nat} {g : GH} {C : CDR} {ma : Nat → Nat} {s : ST} (S : HD Γ Z n k l1 l2 l3 g C ma s) : B_LAW_law_1185 Γ Z (KN Γ Z n) KE (z_b Z) l1 l2 l3 (nI (6 * k)) g := by
  unfold B_LAW_law_1185 B_LAW_law_1934
  exact ⟨rfl, S.i1, rfl, S.i2, rfl, S.i3, S.k1, S.pv (fun C2 g1 M => ⟨rfl, S.i1, rfl, S.i2, rfl, S.i3, M.k2, ma, s, M.ref, S.wf, fun g2 hx => ⟨fun _ => M.nx S.wf (hx.l (by decide) (by decide)) (M.ref.x hx (by decide +kernel)), fun z => absurd rfl z⟩⟩)⟩
theorem cs_1234 {Γ : GAM} {Z : SCRT} {n k l1 l2 l3 : Nat} {g : GH} {C : CDR} {ma : Nat → Nat} {s : ST} (S : HD Γ Z n k l1 l2 l3 g C ma s) : B_LAW_law_1234 Γ Z (KN Γ Z n) KE (z_b Z) l1 l2 l3 (nI (6 * k)) g := by
  unfold B_LAW_law_1234 B_LAW_law_1934
  exact ⟨rfl, S.i1, rfl, S.i2, rfl, S.i3, S.k1, S.pv (fun C2 g1 M => ⟨rfl, S.i1, rfl, S.i2, rfl, S.i3, M.k2, ma, s, M.ref, S.wf, fun g2 hx => ⟨fun _ => M.nx S.wf (hx.l (by decide) (by decide)) (M.ref.x hx (by decide +kernel)), fun z => absurd rfl z⟩⟩)⟩
theorem cs_1283 {Γ : GAM} {Z : SCRT} {n k l1 l2 l3 : Nat} {g : GH} {C : CDR} {ma : Nat → Nat} {s : ST} (S : HD Γ Z n k l1 l2 l3 g C ma s) : B_LAW_law_1283 Γ Z (KN Γ Z n) KE (z_b Z) l1 l2 l3 (nI (6 * k)) g := by
  unfold B_LAW_law_1283 B_LAW_law_1934
  exact ⟨S.k1, S.pv (fun C2 g1 M => ⟨M.k2, ma, s, M.ref, S.wf, fun g2 hx => ⟨fun _ => M.nx S.wf (hx.l (by decide) (by decide)) (M.ref.x hx (by decide +kernel)), fun z => absurd rfl z⟩⟩)⟩
theorem cs_1296 {Γ : GAM} {Z : SCRT} {n k l1 l2 l3 : Nat} {g : GH} {C : CDR} {ma : Nat → Nat} {s : ST} (S : HD Γ Z n k l1 l2 l3 g C ma s) : B_LAW_law_1296 Γ Z (KN Γ Z n) KE (z_b Z) l1 l2 l3 (nI (6 * k)) g := by
  unfold B_LAW_law_1296 B_LAW_law_1934
  exact ⟨rfl, S.i1, S.k1, S.pv (fun C2 g1 M => ⟨rfl, S.i1, M.k2, ma, s, M.ref, fun g2 hf hr => ⟨fun _ => M.nx (S.wf.size _) hf hr, fun z => absurd rfl z⟩⟩)⟩
theorem cs_1321 {Γ : GAM} {Z : SCRT} {n k l1 l2 l3 : Nat} {g : GH} {C : CDR} {ma : Nat → Nat} {s : ST} (S : HD Γ Z n k l1 l2 l3 g C ma s) : B_LAW_law_1321 Γ Z (KN Γ Z n) KE (z_b Z) l1 l2 l3 (nI (6 * k)) g := by
  unfold B_LAW_law_1321 B_LAW_law_1934
  exact ⟨rfl, S.i1, rfl, S.i2, rfl, S.i3, rfl, S.i4, S.k1, S.pv (fun C2 g1 M => ⟨rfl, S.i1, rfl, S.i2, rfl, S.i3, rfl, S.i4, M.k2, ma, s, M.ref, S.wf, fun g2 hx => ⟨fun _ => M.nx S.wf (hx.l (by decide) (by decide)) (M.ref.x hx (by decide +kernel)), fun z => absurd rfl z⟩⟩)⟩
theorem cs_1402 {Γ : GAM} {Z : SCRT} {n k l1 l2 l3 : Nat} {g : GH} {C : CDR} {ma : Nat → Nat} {s : ST} (S : HD Γ Z n k l1 l2 l3 g C ma s) : B_LAW_law_1402 Γ Z (KN Γ Z n) KE (z_b Z) l1 l2 l3 (nI (6 * k)) g := by
  unfold B_LAW_law_1402 B_LAW_law_1934
  exact ⟨rfl, S.i1, rfl, S.i2, rfl, S.i3, S.k1, S.pv (fun C2 g1 M => ⟨rfl, S.i1, rfl, S.i2, rfl, S.i3, M.k2, ma, s, M.ref, fun g2 hf hr => ⟨fun _ => M.nx (S.wf.wave _ _ _) hf hr, fun z => absurd rfl z⟩⟩)⟩
theorem cs_1451 {Γ : GAM} {Z : SCRT} {n k l1 l2 l3 : Nat} {g : GH} {C : CDR} {ma : Nat → Nat} {s : ST} (S : HD Γ Z n k l1 l2 l3 g C ma s) : B_LAW_law_1451 Γ Z (KN Γ Z n) KE (z_b Z) l1 l2 l3 (nI (6 * k)) g := by
  unfold B_LAW_law_1451 B_LAW_law_1934
  exact ⟨rfl, S.i1, S.k1, S.pv (fun C2 g1 M => ⟨rfl, S.i1, M.k2, ma, s, M.ref, fun g2 hf hr => ⟨fun _ => M.nx (S.wf.press _) hf hr, fun z => absurd rfl z⟩⟩)⟩
theorem cs_1476 {Γ : GAM} {Z : SCRT} {n k l1 l2 l3 : Nat} {g : GH} {C : CDR} {ma : Nat → Nat} {s : ST} (S : HD Γ Z n k l1 l2 l3 g C ma s) : B_LAW_law_1476 Γ Z (KN Γ Z n) KE (z_b Z) l1 l2 l3 (nI (6 * k)) g := by
  unfold B_LAW_law_1476 B_LAW_law_1934
  exact ⟨rfl, S.i1, S.k1, S.pv (fun C2 g1 M => ⟨rfl, S.i1, M.k2, ma, s, M.ref, S.wf, fun g2 hx => ⟨fun _ => M.nx S.wf (hx.l (by decide) (by decide)) (M.ref.x hx (by decide +kernel)), fun z => absurd rfl z⟩⟩)⟩
theorem cs_1501 {Γ : GAM} {Z : SCRT} {n k l1 l2 l3 : Nat} {g : GH} {C : CDR} {ma : Nat → Nat} {s : ST} (S : HD Γ Z n k l1 l2 l3 g C ma s) : B_LAW_law_1501 Γ Z (KN Γ Z n) KE (z_b Z) l1 l2 l3 (nI (6 * k)) g := by
  unfold B_LAW_law_1501 B_LAW_law_1934
  exact ⟨S.k1, S.pv (fun C2 g1 M => ⟨M.k2, ma, s, M.ref, S.wf, fun g2 hx => ⟨fun _ => M.nx S.wf (hx.l (by decide) (by decide)) (M.ref.x hx (by decide +kernel)), fun z => absurd rfl z⟩⟩)⟩
theorem cs_1514 {Γ : GAM} {Z : SCRT} {n k l1 l2 l3 : Nat} {g : GH} {C : CDR} {ma : Nat → Nat} {s : ST} (S : HD Γ Z n k l1 l2 l3 g C ma s) : B_LAW_law_1514 Γ Z (KN Γ Z n) KE (z_b Z) l1 l2 l3 (nI (6 * k)) g := by
  unfold B_LAW_law_1514 B_LAW_law_1934
  exact ⟨rfl, S.i1, rfl, S.i2, rfl, S.i3, S.k1, S.pv (fun C2 g1 M => ⟨rfl, S.i1, rfl, S.i2, rfl, S.i3, M.k2, ma, s, M.ref, fun g2 hf hr => ⟨fun _ => M.nx (S.wf.stand _ _ _) hf hr, fun z => absurd rfl z⟩⟩)⟩
theorem cs_1563 {Γ : GAM} {Z : SCRT} {n k l1 l2 l3 : Nat} {g : GH} {C : CDR} {ma : Nat → Nat} {s : ST} (S : HD Γ Z n k l1 l2 l3 g C ma s) : B_LAW_law_1563 Γ Z (KN Γ Z n) KE (z_b Z) l1 l2 l3 (nI (6 * k)) g := by
  unfold B_LAW_law_1563 B_LAW_law_1934
  exact ⟨rfl, S.i1, rfl, S.i2, rfl, S.i3, S.k1, S.pv (fun C2 g1 M => ⟨rfl, S.i1, rfl, S.i2, rfl, S.i3, M.k2, ma, s, M.ref, fun g2 hf hr => ⟨fun _ => M.nx (S.wf.road _ _ _) hf hr, fun z => absurd rfl z⟩⟩)⟩
theorem cs_1612 {Γ : GAM} {Z : SCRT} {n k l1 l2 l3 : Nat} {g : GH} {C : CDR} {ma : Nat → Nat} {s : ST} (S : HD Γ Z n k l1 l2 l3 g C ma s) : B_LAW_law_1612 Γ Z (KN Γ Z n) KE (z_b Z) l1 l2 l3 (nI (6 * k)) g := by
  unfold B_LAW_law_1612 B_LAW_law_1934
  exact ⟨rfl, S.i1, S.k1, S.pv (fun C2 g1 M => ⟨rfl, S.i1, M.k2, ma, s, M.ref, fun g2 hf hr => ⟨fun _ => M.nx (S.wf.stops _) hf hr, fun z => absurd rfl z⟩⟩)⟩
theorem cs_1637 {Γ : GAM} {Z : SCRT} {n k l1 l2 l3 : Nat} {g : GH} {C : CDR} {ma : Nat → Nat} {s : ST} (S : HD Γ Z n k l1 l2 l3 g C ma s) : B_LAW_law_1637 Γ Z (KN Γ Z n) KE (z_b Z) l1 l2 l3 (nI (6 * k)) g := by
  unfold B_LAW_law_1637 B_LAW_law_1934
  exact ⟨rfl, S.i1, S.k1, S.pv (fun C2 g1 M => ⟨rfl, S.i1, M.k2, ma, s, M.ref, S.wf, fun g2 hx => ⟨fun _ => M.nx S.wf (hx.l (by decide) (by decide)) (M.ref.x hx (by decide +kernel)), fun z => absurd rfl z⟩⟩)⟩
theorem cs_1662 {Γ : GAM} {Z : SCRT} {n k l1 l2 l3 : Nat} {g : GH} {C : CDR} {ma : Nat → Nat} {s : ST} (S : HD Γ Z n k l1 l2 l3 g C ma s) : B_LAW_law_1662 Γ Z (KN Γ Z n) KE (z_b Z) l1 l2 l3 (nI (6 * k)) g := by
  unfold B_LAW_law_1662 B_LAW_law_1934
  exact ⟨rfl, S.i1, rfl, S.i2, S.k1, S.pv (fun C2 g1 M => ⟨rfl, S.i1, rfl, S.i2, M.k2, ma, s, M.ref, S.wf, fun g2 hx => ⟨fun _ => M.nx S.wf (hx.l (by decide) (by decide)) (M.ref.x hx (by decide +kernel)), fun z => absurd rfl z⟩⟩)⟩
theorem cs_1699 {Γ : GAM} {Z : SCRT} {n k l1 l2 l3 : Nat} {g : GH} {C : CDR} {ma : Nat → Nat} {s : ST} (S : HD Γ Z n k l1 l2 l3 g C ma s) : B_LAW_law_1699 Γ Z (KN Γ Z n) KE (z_b Z) l1 l2 l3 (nI (6 * k)) g := by
  unfold B_LAW_law_1699 B_LAW_law_1934
  exact ⟨rfl, S.i1, rfl, S.i2, S.k1, S.pv (fun C2 g1 M => ⟨rfl, S.i1, rfl, S.i2, M.k2, ma, s, M.ref, S.wf, fun g2 hx => ⟨fun _ => M.nx S.wf (hx.l (by decide) (by decide)) (M.ref.x hx (by decide +kernel)), fun z => absurd rfl z⟩⟩)⟩
theorem cs_1736 {Γ : GAM} {Z : SCRT} {n k l1 l2 l3 : Nat} {g : GH} {C : CDR} {ma : Nat → Nat} {s : ST} (S : HD Γ Z n k l1 l2 l3 g C ma s) : B_LAW_law_1736 Γ Z (KN Γ Z n) KE (z_b Z) l1 l2 l3 (nI (6 * k)) g := by
  unfold B_LAW_law_1736 B_LAW_law_1934
  exact ⟨rfl, S.i1, rfl, S.i2, S.k1, S.pv (fun C2 g1 M => ⟨rfl, S.i1, rfl, S.i2, M.k2, ma, s, M.ref, fun g2 hf hr => ⟨fun _ => M.nx (S.wf.ends _ _) hf hr, fun z => absurd rfl z⟩⟩)⟩
theorem cs_1773 {Γ : GAM} {Z : SCRT} {n k l1 l2 l3 : Nat} {g : GH} {C : CDR} {ma : Nat → Nat} {s : ST} (S : HD Γ Z n k l1 l2 l3 g C ma s) : B_LAW_law_1773 Γ Z (KN Γ Z n) KE (z_b Z) l1 l2 l3 (nI (6 * k)) g := by
  unfold B_LAW_law_1773 B_LAW_law_1934
  exact ⟨rfl, S.i1, S.k1, S.pv (fun C2 g1 M => ⟨rfl, S.i1, M.k2, ma, s, M.ref, S.wf, fun g2 hx => ⟨fun _ => M.nx S.wf (hx.l (by decide) (by decide)) (M.ref.x hx (by decide +kernel)), fun z => absurd rfl z⟩⟩)⟩
theorem cs_1798 {Γ : GAM} {Z : SCRT} {n k l1 l2 l3 : Nat} {g : GH} {C : CDR} {ma : Nat → Nat} {s : ST} (S : HD Γ Z n k l1 l2 l3 g C ma s) : B_LAW_law_1798 Γ Z (KN Γ Z n) KE (z_b Z) l1 l2 l3 (nI (6 * k)) g := by
  unfold B_LAW_law_1798 B_LAW_law_1934
  exact ⟨rfl, S.i1, S.k1, S.pv (fun C2 g1 M => ⟨rfl, S.i1, M.k2, ma, s, M.ref, S.wf, fun g2 hf hr => ⟨fun _ => M.nx (S.wf.opn _) hf hr, fun z => absurd rfl z⟩⟩)⟩
theorem cs_1823 {Γ : GAM} {Z : SCRT} {n k l1 l2 l3 : Nat} {g : GH} {C : CDR} {ma : Nat → Nat} {s : ST} (S : HD Γ Z n k l1 l2 l3 g C ma s) : B_LAW_law_1823 Γ Z (KN Γ Z n) KE (z_b Z) l1 l2 l3 (nI (6 * k)) g := by
  unfold B_LAW_law_1823 B_LAW_law_1934
  exact ⟨rfl, S.i1, rfl, S.i2, S.k1, S.pv (fun C2 g1 M => ⟨rfl, S.i1, rfl, S.i2, M.k2, ma, s, M.ref, S.wf, ⟨fun _ => M.nx S.wf FrL.rf M.ref, fun z => absurd rfl z⟩⟩)⟩
theorem cs_1860 {Γ : GAM} {Z : SCRT} {n k l1 l2 l3 : Nat} {g : GH} {C : CDR} {ma : Nat → Nat} {s : ST} (S : HD Γ Z n k l1 l2 l3 g C ma s) : B_LAW_law_1860 Γ Z (KN Γ Z n) KE (z_b Z) l1 l2 l3 (nI (6 * k)) g := by
  unfold B_LAW_law_1860 B_LAW_law_1934
  exact ⟨rfl, S.i1, rfl, S.i2, rfl, S.i3, S.k1, S.pv (fun C2 g1 M => ⟨rfl, S.i1, rfl, S.i2, rfl, S.i3, M.k2, ma, s, M.ref, S.wf, ⟨fun _ => M.nx S.wf FrL.rf M.ref, fun z => absurd rfl z⟩⟩)⟩
theorem cs_1909 {Γ : GAM} {Z : SCRT} {n k l1 l2 l3 : Nat} {g : GH} {C : CDR} {ma : Nat → Nat} {s : ST} (S : HD Γ Z n k l1 l2 l3 g C ma s) : B_LAW_law_1909 Γ Z (KN Γ Z n) KE (z_b Z) l1 l2 l3 (nI (6 * k)) g := by
  unfold B_LAW_law_1909 B_LAW_law_1934
  exact ⟨rfl, S.i1, S.k1, S.pv (fun C2 g1 M => ⟨rfl, S.i1, M.k2, ma, s, M.ref, S.wf, fun g2 hx => ⟨fun _ => M.nx S.wf (hx.l (by decide) (by decide)) (M.ref.x hx (by decide +kernel)), fun z => absurd rfl z⟩⟩)⟩
