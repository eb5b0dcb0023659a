/-! the class: a law made -/
theorem flR_t {rs : List Rl} {k : Nat} {r : Rl} (h : rs[k]? = some r) : (flR (rs.take (k + 1))).length = (flR (rs.take k)).length + r.1.length + r.2.2.length := by
  rw [List.take_succ, h]
  show (flR (rs.take k ++ [r])).length = _
  rw [flR_app, List.length_append, List.length_append]; omega
theorem LWX.of {h g : GH} {tm th p : Nat} {t : List Int32} {rs : List Rl} {a b c : Int32} {V : Nat → Int32} (hT : TQ tm h t p rs) (hl : 1 ≤ rs.length ∧ rs.length ≤ 33) (hw : (flR rs).length ≤ 199)
    (S : LWS h g th V [(516, (flR rs).length, va_cpy (Ia h 898 tm) (fun _ => 0) 0 0 (flR rs).length), (517, 2 * rs.length + 1, va_cpy (Ia h 900 tm) (fun _ => 0) 0 0 (2 * rs.length + 1)), (518, rs.length, va_cpy (Ia h 901 tm) (fun _ => 0) 0 0 rs.length)])
    (hV : V 512 = a ∧ V 513 = b ∧ V 514 = c ∧ V 515 = nI rs.length) : LWX g th (a, b, c, rs) := by
  obtain ⟨⟨a1, a2, a3, a4⟩, ⟨b1, b2⟩, c1, d, e, k⟩ := S
  have hth : th < Hn g := a2.lt (by omega)
  obtain ⟨w, w1, w2, w3, w4, w5, w6, w7⟩ := e _ (List.mem_cons_self)
  obtain ⟨x, x1, x2, x3, x4, x5, x6, x7⟩ := e _ (List.mem_cons_of_mem _ (List.mem_cons_self))
  obtain ⟨v, v1, v2, v3, v4, v5, v6, v7⟩ := e _ (List.mem_cons_of_mem _ (List.mem_cons_of_mem _ (List.mem_cons_self)))
  obtain ⟨hN, hR, hB⟩ := hT
  have hcp : ∀ (f : Nat → Int32) n i, i < n → va_cpy f (fun _ => 0) 0 0 n i = f i := fun f n i hi => by
    unfold va_cpy
    rw [if_pos ⟨Nat.zero_le _, by omega⟩, Nat.sub_zero, Nat.zero_add]
  have eW : ∀ i y, (flR rs)[i]? = some y → Ia g 516 th i = y := fun i y hy => by
    have hi := (List.getElem?_eq_some_iff.mp hy).1
    exact (congrFun w7 i).trans ((hcp _ _ _ hi).trans (hN.2.2.2.2.2 i y hy))
  have eB : ∀ i, i < 2 * rs.length + 1 → Ia g 517 th i = Ia h 900 tm i := fun i hi => by
    exact (congrFun x7 i).trans (hcp _ _ _ hi)
  have eD : ∀ i, i < rs.length → Ia g 518 th i = Ia h 901 tm i := fun i hi => by
    exact (congrFun v7 i).trans (hcp _ _ _ hi)
  refine ⟨⟨⟨hth, c1⟩, by rw [d]; exact hV.1, by rw [d]; exact hV.2.1, by rw [d]; exact hV.2.2.1⟩, by rw [d]; exact hV.2.2.2, ⟨rs.length, Nat.le_refl _, by omega, hth, v, v1, v6, v2, v3, v4, v5⟩, ⟨_, hw, hth, w, w1, w6, w2, w3, w4, w5⟩, fun i r hr => ?_⟩
  have hi : i < rs.length := (List.getElem?_eq_some_iff.mp hr).1
  obtain ⟨q1, q2, q3, q4⟩ := hB i r hr
  have hf := flR_at hr
  have hfl : (flR rs).length = (flR (rs.take i)).length + (r.1.length + r.2.2.length) + (flR (rs.drop (i + 1))).length := by
    conv => lhs; rw [hf]
    rw [List.length_append, List.length_append, List.length_append]
  refine ⟨by rw [eD i hi]; exact q4, ⟨c1, (flR (rs.take i)).length, _, _, w, x, ⟨w1, w2, w3, w4, w5⟩, ⟨x1, x2, x3, x4, x5⟩, ?_, ?_, ?_, ?_, ?_, ?_, fun j y hy => eW _ y ?_⟩, ⟨c1, (flR (rs.take i)).length + r.1.length, _, _, w, x, ⟨w1, w2, w3, w4, w5⟩, ⟨x1, x2, x3, x4, x5⟩, ?_, ?_, ?_, ?_, ?_, ?_, fun j y hy => eW _ y ?_⟩⟩
  · show 2 * i + 2 ≤ 2 * rs.length + 1; omega
  · show 2 * rs.length + 1 ≤ 1000; omega
  · show (flR rs).length ≤ 1000; omega
  · show _ ≤ (flR rs).length; omega
  · rw [eB _ (by omega)]; exact q1
  · rw [eB _ (by omega)]; exact q2
  · have hj := (List.getElem?_eq_some_iff.mp hy).1
    rw [hf, List.append_assoc, List.getElem?_append_right (Nat.le_add_right _ _), Nat.add_sub_cancel_left, List.append_assoc, List.getElem?_append_left hj]; exact hy
  · show 2 * i + 1 + 2 ≤ 2 * rs.length + 1; omega
  · show 2 * rs.length + 1 ≤ 1000; omega
  · show (flR rs).length ≤ 1000; omega
  · show _ ≤ (flR rs).length; omega
  · rw [eB _ (by omega)]; exact q2
  · rw [eB _ (by omega)]
    show Ia h 900 tm (2 * i + 2) = _
    rw [q3, flR_t hr]
  · have hj := (List.getElem?_eq_some_iff.mp hy).1
    rw [hf, List.append_assoc, Nat.add_assoc, List.getElem?_append_right (Nat.le_add_right _ _), Nat.add_sub_cancel_left, List.append_assoc, List.getElem?_append_right (Nat.le_add_right _ _), Nat.add_sub_cancel_left, List.getElem?_append_left hj]; exact hy
def Sp_Lw_init (Γ : GAM) (th : Nat) (a b c : Int32) (tm : Nat) (g : GH) (K : GH → Prop) : Prop := ∃ h t p rs, g = nO h 4 7 ∧ th = Hn h ∧ EN h ∧ NT h ∧ (∀ F, free h F (Hn h)) ∧ tm < Hn h ∧ TQ tm h t p rs ∧ ((1 ≤ (flR rs).length ∧ (flR rs).length ≤ 198) ∧ 1 ≤ rs.length ∧ rs.length ≤ 33) ∧ (Hn h + 4 ≤ gB Γ + NCC ∧ Hu h + 400 ≤ NSS) ∧ ∀ g', Fr [] [] [] h g' → LWX g' th (a, b, c, rs) → Hn g' = Hn h + 4 → Hu g' ≤ Hu h + 400 → K g'
-- the walk of Lw_init
set_option maxRecDepth 100000 in
def B_Lw_init_0 (Γ : GAM) (K : GH → Prop) (th : Nat) (p0 : Int32) (p1 : Int32) (p2 : Int32) (p3 : Nat) (g : GH) : Prop :=
  Kd g th = 5 ∧ ∀ g1 : GH, g1 = sI g 512 th p0 → Kd g1 th = 5 ∧ ∀ g2 : GH, g2 = sI g1 513 th p1 → Kd g2 th = 5 ∧ ∀ g3 : GH, g3 = sI g2 514 th p2 → Kd g3 p3 = 8 ∧ Kd g3 th = 5 ∧ ∀ g4 : GH, g4 = sI g3 515 th (Gi g3 902 p3) → Kd g4 p3 = 8 ∧ ∃ a5 : Nat, Gr g4 898 p3 = some a5 ∧ Kd g4 p3 = 8 ∧ Sp_Arrays_copyOf_0 Γ a5 (Gi g4 899 p3) g4 (fun (a7 : Nat) (g6 : GH) => Kd g6 th = 5 ∧ ∀ g8 : GH, g8 = sR g6 516 th (some a7) → Kd g8 p3 = 8 ∧ ∃ a9 : Nat, Gr g8 900 p3 = some a9 ∧ Kd g8 p3 = 8 ∧ Sp_Arrays_copyOf_0 Γ a9 (((2 : Int32) * (Gi g8 902 p3)) + (1 : Int32)) g8 (fun (a11 : Nat) (g10 : GH) => Kd g10 th = 5 ∧ ∀ g12 : GH, g12 = sR g10 517 th (some a11) → Kd g12 p3 = 8 ∧ ∃ a13 : Nat, Gr g12 901 p3 = some a13 ∧ Kd g12 p3 = 8 ∧ Sp_Arrays_copyOf_0 Γ a13 (Gi g12 902 p3) g12 (fun (a15 : Nat) (g14 : GH) => Kd g14 th = 5 ∧ ∀ g16 : GH, g16 = sR g14 518 th (some a15) → K g16)))
set_option maxHeartbeats 4000000 in
set_option maxRecDepth 100000 in
theorem S_Lw_init_0 {Γ : GAM} {E : EV} {K : GH → Prop} (hE : GE Γ E cX3_init 5 RX3 none 2 62 (fun r g' => r = none ∧ K g')) (hnm : E.2.2.2.2.2.2.2.2.1.name = "<init>") (th : Nat) (p0 : Int32) (p1 : Int32) (p2 : Int32) (p3 : Nat) (g : GH) (h : B_Lw_init_0 Γ K th p0 p1 p2 p3 g) : JW Γ E 0 [some (.ref th), some (.int p0), some (.int p1), some (.int p2), some (.ref p3)] [] g := by
  unfold B_Lw_init_0 at h
  refine j_aload_n hE (by decide +kernel : decode cX3_init 0 = .ok (.aload_n 0, 1)) rfl rfl ?_
  refine j_objInit hE rfl ol_X3 oi_in oi_code (Nat.le_of_ble_eq_true rfl) (by omega) (by omega) (by decide +kernel : decode cX3_init 1 = .ok (.invokespecial 1, 3)) ?_
  refine j_aload_n hE (by decide +kernel : decode cX3_init 4 = .ok (.aload_n 0, 1)) rfl rfl ?_
  refine j_iload_n hE (by decide +kernel : decode cX3_init 5 = .ok (.iload_n 1, 1)) rfl rfl ?_
  obtain ⟨hk, h⟩ := h
  obtain ⟨g1, hg⟩ : ∃ z, z = sI g 512 th p0 := ⟨_, rfl⟩; replace h := h g1 hg
  refine j_putI hE fa_X3_7 hk (fun _ => hnm) (by decide +kernel : decode cX3_init 6 = .ok (.putfield 7, 3)) ?_
  rw [← hg]
  refine j_aload_n hE (by decide +kernel : decode cX3_init 9 = .ok (.aload_n 0, 1)) rfl rfl ?_
  refine j_iload_n hE (by decide +kernel : decode cX3_init 10 = .ok (.iload_n 2, 1)) rfl rfl ?_
  obtain ⟨hk, h⟩ := h
  obtain ⟨g2, hg⟩ : ∃ z, z = sI g1 513 th p1 := ⟨_, rfl⟩; replace h := h g2 hg
  refine j_putI hE fa_X3_13 hk (fun _ => hnm) (by decide +kernel : decode cX3_init 11 = .ok (.putfield 13, 3)) ?_
  rw [← hg]
  refine j_aload_n hE (by decide +kernel : decode cX3_init 14 = .ok (.aload_n 0, 1)) rfl rfl ?_
  refine j_iload_n hE (by decide +kernel : decode cX3_init 15 = .ok (.iload_n 3, 1)) rfl rfl ?_
  obtain ⟨hk, h⟩ := h
  obtain ⟨g3, hg⟩ : ∃ z, z = sI g2 514 th p2 := ⟨_, rfl⟩; replace h := h g3 hg
  refine j_putI hE fa_X3_16 hk (fun _ => hnm) (by decide +kernel : decode cX3_init 16 = .ok (.putfield 16, 3)) ?_
  rw [← hg]
  refine j_aload_n hE (by decide +kernel : decode cX3_init 19 = .ok (.aload_n 0, 1)) rfl rfl ?_
  refine j_aload hE (by decide +kernel : decode cX3_init 20 = .ok (.aload 4, 2)) rfl ?_
  obtain ⟨hk, h⟩ := h
  refine j_getI hE fg_X3_19 hk (by decide +kernel : decode cX3_init 22 = .ok (.getfield 19, 3)) ?_
  obtain ⟨hk, h⟩ := h
  obtain ⟨g4, hg⟩ : ∃ z, z = sI g3 515 th (Gi g3 902 p3) := ⟨_, rfl⟩; replace h := h g4 hg
  refine j_putI hE fa_X3_24 hk (fun _ => hnm) (by decide +kernel : decode cX3_init 25 = .ok (.putfield 24, 3)) ?_
  rw [← hg]
  refine j_aload_n hE (by decide +kernel : decode cX3_init 28 = .ok (.aload_n 0, 1)) rfl rfl ?_
  refine j_aload hE (by decide +kernel : decode cX3_init 29 = .ok (.aload 4, 2)) rfl ?_
  obtain ⟨hk, h⟩ := h
  obtain ⟨a5, ha, h⟩ := h
  refine j_getRn hE fg_X3_25 hk ha (by decide +kernel : decode cX3_init 31 = .ok (.getfield 25, 3)) ?_
  refine j_aload hE (by decide +kernel : decode cX3_init 34 = .ok (.aload 4, 2)) rfl ?_
  obtain ⟨hk, h⟩ := h
  refine j_getI hE fg_X3_29 hk (by decide +kernel : decode cX3_init 36 = .ok (.getfield 29, 3)) ?_
  refine j_callS hE rfl cl_X3_32 st_J7_copyOf_59c91 ⟨by omega, by omega⟩ (As := [.ref a5, .int (Gi g4 899 p3)]) (rest := [.ref th]) rfl rfl (Nat.le_of_ble_eq_true rfl) (by decide +kernel : decode cX3_init 39 = .ok (.invokestatic 32, 3)) (mt_Arrays_copyOf_0 _ _ _ _ h) ?_
  rintro _ g6 ⟨a7, rfl, h⟩
  obtain ⟨hk, h⟩ := h
  obtain ⟨g8, hg⟩ : ∃ z, z = sR g6 516 th (some a7) := ⟨_, rfl⟩; replace h := h g8 hg
  refine j_putR (v := (some a7)) hE fa_X3_38 hk (fun _ => hnm) (by decide +kernel : decode cX3_init 42 = .ok (.putfield 38, 3)) ?_
  rw [← hg]
  refine j_aload_n hE (by decide +kernel : decode cX3_init 45 = .ok (.aload_n 0, 1)) rfl rfl ?_
  refine j_aload hE (by decide +kernel : decode cX3_init 46 = .ok (.aload 4, 2)) rfl ?_
  obtain ⟨hk, h⟩ := h
  obtain ⟨a9, ha, h⟩ := h
  refine j_getRn hE fg_X3_39 hk ha (by decide +kernel : decode cX3_init 48 = .ok (.getfield 39, 3)) ?_
  refine j_iconst hE (by decide +kernel : decode cX3_init 51 = .ok (.iconst 2, 1)) (v := (2 : Int32)) (by decide) ?_
  refine j_aload hE (by decide +kernel : decode cX3_init 52 = .ok (.aload 4, 2)) rfl ?_
  obtain ⟨hk, h⟩ := h
  refine j_getI hE fg_X3_19 hk (by decide +kernel : decode cX3_init 54 = .ok (.getfield 19, 3)) ?_
  refine j_imul hE (by decide +kernel : decode cX3_init 57 = .ok (.imul, 1)) ?_
  refine j_iconst hE (by decide +kernel : decode cX3_init 58 = .ok (.iconst 1, 1)) (v := (1 : Int32)) (by decide) ?_
  refine j_iadd hE (by decide +kernel : decode cX3_init 59 = .ok (.iadd, 1)) ?_
  refine j_callS hE rfl cl_X3_32 st_J7_copyOf_59c91 ⟨by omega, by omega⟩ (As := [.ref a9, .int (((2 : Int32) * (Gi g8 902 p3)) + (1 : Int32))]) (rest := [.ref th]) rfl rfl (Nat.le_of_ble_eq_true rfl) (by decide +kernel : decode cX3_init 60 = .ok (.invokestatic 32, 3)) (mt_Arrays_copyOf_0 _ _ _ _ h) ?_
  rintro _ g10 ⟨a11, rfl, h⟩
  obtain ⟨hk, h⟩ := h
  obtain ⟨g12, hg⟩ : ∃ z, z = sR g10 517 th (some a11) := ⟨_, rfl⟩; replace h := h g12 hg
  refine j_putR (v := (some a11)) hE fa_X3_42 hk (fun _ => hnm) (by decide +kernel : decode cX3_init 63 = .ok (.putfield 42, 3)) ?_
  rw [← hg]
  refine j_aload_n hE (by decide +kernel : decode cX3_init 66 = .ok (.aload_n 0, 1)) rfl rfl ?_
  refine j_aload hE (by decide +kernel : decode cX3_init 67 = .ok (.aload 4, 2)) rfl ?_
  obtain ⟨hk, h⟩ := h
  obtain ⟨a13, ha, h⟩ := h
  refine j_getRn hE fg_X3_43 hk ha (by decide +kernel : decode cX3_init 69 = .ok (.getfield 43, 3)) ?_
  refine j_aload hE (by decide +kernel : decode cX3_init 72 = .ok (.aload 4, 2)) rfl ?_
  obtain ⟨hk, h⟩ := h
  refine j_getI hE fg_X3_19 hk (by decide +kernel : decode cX3_init 74 = .ok (.getfield 19, 3)) ?_
  refine j_callS hE rfl cl_X3_32 st_J7_copyOf_59c91 ⟨by omega, by omega⟩ (As := [.ref a13, .int (Gi g12 902 p3)]) (rest := [.ref th]) rfl rfl (Nat.le_of_ble_eq_true rfl) (by decide +kernel : decode cX3_init 77 = .ok (.invokestatic 32, 3)) (mt_Arrays_copyOf_0 _ _ _ _ h) ?_
  rintro _ g14 ⟨a15, rfl, h⟩
  obtain ⟨hk, h⟩ := h
  obtain ⟨g16, hg⟩ : ∃ z, z = sR g14 518 th (some a15) := ⟨_, rfl⟩; replace h := h g16 hg
  refine j_putR (v := (some a15)) hE fa_X3_46 hk (fun _ => hnm) (by decide +kernel : decode cX3_init 80 = .ok (.putfield 46, 3)) ?_
  rw [← hg]
  exact j_vret hE (by decide +kernel : decode cX3_init 83 = .ok (.return_, 1)) ⟨rfl, h⟩
set_option maxHeartbeats 4000000 in
set_option maxRecDepth 100000 in
theorem rl_Lw_init {Γ : GAM} {l : Launch} {th : Nat} {p0 : Int32} {p1 : Int32} {p2 : Int32} {p3 : Nat} {g : GH} {K : GH → Prop} (h0 : B_Lw_init_0 Γ K th p0 p1 p2 p3 g) : MetA Γ l yX3_init cX3_init 5 none 2 62 [.ref th, .int p0, .int p1, .int p2, .ref p3] g (fun r g' => r = none ∧ K g') := by
  refine MetA.introL (Lx := [some (.ref th), some (.int p0), some (.int p1), some (.int p2), some (.ref p3)]) (by decide) (Nat.le_of_ble_eq_true rfl) rfl rfl ?_
  intro E hEl hE hnm
  exact S_Lw_init_0 hE hnm th p0 p1 p2 p3 g h0
theorem mt_Lw_init {Γ : GAM} {l : Launch} (th : Nat) (p0 : Int32) (p1 : Int32) (p2 : Int32) (p3 : Nat) (g : GH) (K : GH → Prop) (h : Sp_Lw_init Γ th p0 p1 p2 p3 g K) : MetA Γ l yX3_init cX3_init 5 none 2 62 [.ref th, .int p0, .int p1, .int p2, .ref p3] g (fun r g' => r = none ∧ K g') := by
  obtain ⟨h, t, p, rs, rfl, rfl, he, hnt, hf, htm, hT, ⟨⟨w1, w2⟩, l1, l2⟩, ⟨r1, r2⟩, hK⟩ := h
  have S := LWS.ini he hnt hf
  have hT0 := hT
  obtain ⟨⟨⟨⟨tk, ta⟩, -⟩, -, -, tn, -⟩, tr, -⟩ := hT0
  obtain ⟨a, b, c, d, e1, ⟨b1, b2, b3, b4, b5⟩, ⟨c1, c2, c3, c4, c5⟩, ⟨d1, d2, d3, d4, d5⟩⟩ := ta
  refine rl_Lw_init ?_
  unfold B_Lw_init_0
  refine ⟨S.2.2.1, ?_⟩
  rintro _ rfl
  replace S := S.setI (f := 512) (v := p0)
  refine ⟨S.2.2.1, ?_⟩
  rintro _ rfl
  replace S := S.setI (f := 513) (v := p1)
  refine ⟨S.2.2.1, ?_⟩
  rintro _ rfl
  replace S := S.setI (f := 514) (v := p2)
  have tmG : ∀ g', Fr [] [] [] h g' → Kd g' p3 = 8 ∧ (∀ f, 128 ≤ f → Gi g' f p3 = Gi h f p3) ∧ (∀ f, 128 ≤ f → Gr g' f p3 = Gr h f p3) ∧ (∀ c, 128 ≤ c ∧ (c < 998 ∨ 1000 < c) → Ia g' c p3 = Ia h c p3) ∧ ∀ a, Kd h a = 20 → Kd g' a = 20 ∧ Co g' a = Co h a ∧ Ow g' a = Ow h a ∧ Ln g' a = Ln h a := fun g' k => by
    refine ⟨(k.kd htm (by omega)).1.trans tk, fun f hf => k.gi htm (by simp) hf, fun f hf => k.gr htm hf, fun c hc => k.ia htm (by simp) hc, fun a ha => ?_⟩
    obtain ⟨z1, z2⟩ := k.kd (he.lt (by omega : Kd h a ≠ 0)) (by omega)
    exact ⟨z1.trans ha, z2⟩
  obtain ⟨m1, m2, m3, m4, m5⟩ := tmG _ S.1.1
  refine ⟨m1, S.2.2.1, ?_⟩
  rw [m2 _ (by decide), tr]
  rintro _ rfl
  replace S := S.setI (f := 515) (v := nI rs.length)
  obtain ⟨m1, m2, m3, m4, m5⟩ := tmG _ S.1.1
  obtain ⟨n1, n2, n3, n4⟩ := m5 b b2
  have hS := S.2.1
  simp only [List.length_nil, List.map_nil, List.sum_nil] at hS
  refine ⟨m1, b, by rw [m3 _ (by decide)]; exact b1, m1, ?_⟩
  rw [m2 _ (by decide), tn]
  refine S.step (cs := 898) (os := p3) (N := 200) (n := (flR rs).length) (by decide) (fun x hx => by cases hx) ⟨n1, n2.trans b3, n3.trans b4, n4.trans b5⟩ rfl w1 (by omega) (by decide) ⟨by omega, by omega⟩ ?_
  rw [m4 _ (by decide)]
  clear S hS m1 m2 m3 m4 m5 n1 n2 n3 n4
  intro g1 S
  obtain ⟨m1, m2, m3, m4, m5⟩ := tmG _ S.1.1
  obtain ⟨n1, n2, n3, n4⟩ := m5 c c2
  have hS := S.2.1
  simp only [List.nil_append, List.length_cons, List.length_nil, List.map_cons, List.map_nil, List.sum_cons, List.sum_nil] at hS
  refine ⟨m1, c, by rw [m3 _ (by decide)]; exact c1, m1, ?_⟩
  rw [m2 _ (by decide), tr]
  refine S.step (cs := 900) (os := p3) (N := 81) (n := 2 * rs.length + 1) (by decide) (fun x hx => by rw [List.mem_singleton.mp hx]; exact ⟨(by decide : (516 : Nat) ≠ 517), Or.inl (by decide : (516 : Nat) < 998)⟩) ⟨n1, n2.trans c3, n3.trans c4, n4.trans c5⟩ (by rw [show (2 : Int32) = nI 2 from rfl, nj_mul]; exact nj_s _) (by omega) (by omega) (by decide) ⟨by omega, by omega⟩ ?_
  rw [m4 _ (by decide)]
  clear S hS m1 m2 m3 m4 m5 n1 n2 n3 n4
  intro g2 S
  obtain ⟨m1, m2, m3, m4, m5⟩ := tmG _ S.1.1
  obtain ⟨n1, n2, n3, n4⟩ := m5 d d2
  have hS := S.2.1
  simp only [List.nil_append, List.cons_append, List.length_cons, List.length_nil, List.map_cons, List.map_nil, List.sum_cons, List.sum_nil] at hS
  refine ⟨m1, d, by rw [m3 _ (by decide)]; exact d1, m1, ?_⟩
  rw [m2 _ (by decide), tr]
  refine S.step (cs := 901) (os := p3) (N := 40) (n := rs.length) (by decide) (fun x hx => by
    rcases List.mem_cons.mp hx with hx | hx
    · rw [hx]; exact ⟨(by decide : (516 : Nat) ≠ 518), Or.inl (by decide : (516 : Nat) < 998)⟩
    · rw [List.mem_singleton.mp hx]; exact ⟨(by decide : (517 : Nat) ≠ 518), Or.inl (by decide : (517 : Nat) < 998)⟩) ⟨n1, n2.trans d3, n3.trans d4, n4.trans d5⟩ rfl (by omega) (by omega) (by decide) ⟨by omega, by omega⟩ ?_
  rw [m4 _ (by decide)]
  clear S hS m1 m2 m3 m4 m5 n1 n2 n3 n4
  intro g3 S
  have hS := S.2.1
  simp only [List.nil_append, List.cons_append, List.length_cons, List.length_nil, List.map_cons, List.map_nil, List.sum_cons, List.sum_nil] at hS
  exact hK g3 S.1.1 (LWX.of hT ⟨l1, l2⟩ (by omega) S ⟨by simp, by simp, by simp, by simp⟩) (by omega) (by omega)
