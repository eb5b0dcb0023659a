/-! the reference: the reader of laws, units; all pieces together -/
def SpUo (r : Nat) (Γ : GAM) (m : Nat) (g : GH) (K : GH → Prop) : Prop := match r with
  | 0 => False
  | r + 1 => SpR (fun t => pUn t r) (10 * r + 6) (8 - r) Γ m g K
def SpCo (r : Nat) (Γ : GAM) (m : Nat) (g : GH) (K : GH → Prop) : Prop := match r with
  | 0 => False
  | r + 1 => SpR (fun t => pCd t (pUn t r)) (10 * r + 8) (8 - r) Γ m g K
theorem WR.bad {m : Nat} {g : GH} {e B : Nat} (h : WR m g e B) : WR m (sI g 1590 m (if Gi g 1590 m = -1 then Gi g 1589 m else Gi g 1590 m)) e B := by
  obtain ⟨h1, h2, a, k, h3, h4, h5, h6⟩ := h
  refine ⟨?_, h2, a, k, by rw [Gi_sI, if_neg (fun q => absurd q.1 (by decide))]; exact h3, h4, by rw [Gi_sI, if_neg (fun q => absurd q.1 (by decide))]; exact h5, h6⟩
  rw [Gi_sI, if_pos ⟨rfl, rfl⟩, if_neg (by rw [h1]; exact nI_nm (by omega)), h1]
theorem PN.bad {m : Nat} {g : GH} {s : ST} {p : Nat} {sd : List Int32} {dd : Nat} (h : PN m g s p sd dd) (hT : (s_tap s).length ≤ 200) (hs : sd.length ≤ 402) : WR m (sI g 1590 m (if Gi g 1590 m = -1 then Gi g 1589 m else Gi g 1590 m)) p 0 := by
  obtain ⟨h1, h2, h3, h4, h5, h6, h7⟩ := h
  refine ⟨?_, by omega, p, _, by rw [Gi_sI, if_neg (fun q => absurd q.1 (by decide))]; exact h1, by omega, by rw [Gi_sI, if_neg (fun q => absurd q.1 (by decide))]; exact h6, by omega⟩
  rw [Gi_sI, if_pos ⟨rfl, rfl⟩, if_pos h3, h1]
theorem FrW {m : Nat} {g : GH} {v : Int32} : FrX m [1589, 1590, 1591, 1592] [1583] g (sI g 1590 m v) := FrX.sI (by decide)
-- the walk of M_unit
set_option maxRecDepth 100000 in
def B_M_unit_136 (Γ : GAM) (R_M_condition : Nat → GH → (GH → Prop) → Prop) (R_M_sum : Nat → GH → (GH → Prop) → Prop) (R_M_unit : Nat → GH → (GH → Prop) → Prop) (K : GH → Prop)  (g : GH) : Prop :=
  K g
set_option maxHeartbeats 4000000 in
set_option maxRecDepth 100000 in
theorem S_M_unit_136 {Γ : GAM} {E : EV} {fr lo : Nat} {K : GH → Prop} (hE : GE Γ E cX11_unit 3 RX11 none fr lo (fun r g' => r = none ∧ K g')) (hfr : 2 ≤ fr) (hlo : 41 ≤ lo) {R_M_condition : Nat → GH → (GH → Prop) → Prop} {R_M_sum : Nat → GH → (GH → Prop) → Prop} {R_M_unit : Nat → GH → (GH → Prop) → Prop} {f_M_condition l_M_condition : Nat} (hR_M_condition : (f_M_condition + 1 ≤ fr ∧ 8 + (1 + 11) + l_M_condition ≤ lo) ∧ ∀ (th : Nat) g (K : GH → Prop), R_M_condition th g K → MetA Γ E.2.1 yX11_condition cX11_condition 1 none f_M_condition l_M_condition [.ref th] g (fun r g' => r = none ∧ K g')) {f_M_sum l_M_sum : Nat} (hR_M_sum : (f_M_sum + 1 ≤ fr ∧ 8 + (2 + 11) + l_M_sum ≤ lo) ∧ ∀ (th : Nat) g (K : GH → Prop), R_M_sum th g K → MetA Γ E.2.1 yX11_sum cX11_sum 2 none f_M_sum l_M_sum [.ref th] g (fun r g' => r = none ∧ K g')) {f_M_unit l_M_unit : Nat} (hR_M_unit : (f_M_unit + 1 ≤ fr ∧ 8 + (3 + 11) + l_M_unit ≤ lo) ∧ ∀ (th : Nat) g (K : GH → Prop), R_M_unit th g K → MetA Γ E.2.1 yX11_unit cX11_unit 3 none f_M_unit l_M_unit [.ref th] g (fun r g' => r = none ∧ K g'))  (g : GH) (h : B_M_unit_136 Γ R_M_condition R_M_sum R_M_unit K  g) : JW Γ E 136 [none, none, none] [] g := by
  unfold B_M_unit_136 at h
  exact j_vret hE (by decide +kernel : decode cX11_unit 136 = .ok (.return_, 1)) ⟨rfl, h⟩
set_option maxRecDepth 100000 in
def B_M_unit_117 (Γ : GAM) (R_M_condition : Nat → GH → (GH → Prop) → Prop) (R_M_sum : Nat → GH → (GH → Prop) → Prop) (R_M_unit : Nat → GH → (GH → Prop) → Prop) (K : GH → Prop) (l0 : Nat) (l2 : Int32) (g : GH) : Prop :=
  Kd g l0 = 13 ∧ Kd g l0 = 13 ∧ ∀ g1 : GH, g1 = sI g 1589 l0 ((Gi g 1589 l0) + (1 : Int32)) → Kd g1 l0 = 13 ∧ R_M_sum l0 g1 (fun (g2 : GH) => Kd g2 l0 = 13 ∧ Sp_M_say Γ l0 l2 g2 (fun (g3 : GH) => B_M_unit_136 Γ R_M_condition R_M_sum R_M_unit K g3))
set_option maxHeartbeats 4000000 in
set_option maxRecDepth 100000 in
theorem S_M_unit_117 {Γ : GAM} {E : EV} {fr lo : Nat} {K : GH → Prop} (hE : GE Γ E cX11_unit 3 RX11 none fr lo (fun r g' => r = none ∧ K g')) (hfr : 2 ≤ fr) (hlo : 41 ≤ lo) {R_M_condition : Nat → GH → (GH → Prop) → Prop} {R_M_sum : Nat → GH → (GH → Prop) → Prop} {R_M_unit : Nat → GH → (GH → Prop) → Prop} {f_M_condition l_M_condition : Nat} (hR_M_condition : (f_M_condition + 1 ≤ fr ∧ 8 + (1 + 11) + l_M_condition ≤ lo) ∧ ∀ (th : Nat) g (K : GH → Prop), R_M_condition th g K → MetA Γ E.2.1 yX11_condition cX11_condition 1 none f_M_condition l_M_condition [.ref th] g (fun r g' => r = none ∧ K g')) {f_M_sum l_M_sum : Nat} (hR_M_sum : (f_M_sum + 1 ≤ fr ∧ 8 + (2 + 11) + l_M_sum ≤ lo) ∧ ∀ (th : Nat) g (K : GH → Prop), R_M_sum th g K → MetA Γ E.2.1 yX11_sum cX11_sum 2 none f_M_sum l_M_sum [.ref th] g (fun r g' => r = none ∧ K g')) {f_M_unit l_M_unit : Nat} (hR_M_unit : (f_M_unit + 1 ≤ fr ∧ 8 + (3 + 11) + l_M_unit ≤ lo) ∧ ∀ (th : Nat) g (K : GH → Prop), R_M_unit th g K → MetA Γ E.2.1 yX11_unit cX11_unit 3 none f_M_unit l_M_unit [.ref th] g (fun r g' => r = none ∧ K g')) (l0 : Nat) (l2 : Int32) (g : GH) (h : B_M_unit_117 Γ R_M_condition R_M_sum R_M_unit K l0 l2 g) : JW Γ E 117 [some (.ref l0), none, some (.int l2)] [] g := by
  unfold B_M_unit_117 at h
  refine j_aload_n hE (by decide +kernel : decode cX11_unit 117 = .ok (.aload_n 0, 1)) rfl rfl ?_
  refine j_dup hE (by decide +kernel : decode cX11_unit 118 = .ok (.dup, 1)) rfl ?_
  obtain ⟨hk, h⟩ := h
  refine j_getI hE fg_X11_301 hk (by decide +kernel : decode cX11_unit 119 = .ok (.getfield 301, 3)) ?_
  refine j_iconst hE (by decide +kernel : decode cX11_unit 122 = .ok (.iconst 1, 1)) (v := (1 : Int32)) (by decide) ?_
  refine j_iadd hE (by decide +kernel : decode cX11_unit 123 = .ok (.iadd, 1)) ?_
  obtain ⟨hk, h⟩ := h
  obtain ⟨g1, hg⟩ : ∃ z, z = sI g 1589 l0 ((Gi g 1589 l0) + (1 : Int32)) := ⟨_, rfl⟩; replace h := h g1 hg
  refine j_putI hE fa_X11_301 hk (fun q => by cases q) (by decide +kernel : decode cX11_unit 124 = .ok (.putfield 301, 3)) ?_
  rw [← hg]
  refine j_aload_n hE (by decide +kernel : decode cX11_unit 127 = .ok (.aload_n 0, 1)) rfl rfl ?_
  obtain ⟨hk, h⟩ := h
  refine j_callV hE rfl cl_X11_331 cf_12 im_X11_sum se_X11_sum hR_M_sum.1 (As := []) (rest := []) rfl rfl (Nat.le_of_ble_eq_true rfl) hk (by decide +kernel : decode cX11_unit 128 = .ok (.invokevirtual 331, 3)) (hR_M_sum.2 _ _ _ h) ?_
  rintro _ g2 ⟨rfl, h⟩
  refine j_aload_n hE (by decide +kernel : decode cX11_unit 131 = .ok (.aload_n 0, 1)) rfl rfl ?_
  refine j_iload_n hE (by decide +kernel : decode cX11_unit 132 = .ok (.iload_n 2, 1)) rfl rfl ?_
  obtain ⟨hk, h⟩ := h
  refine j_callV hE rfl cl_X11_323 cf_12 im_X11_say se_X11_say ⟨by omega, by omega⟩ (As := [.int l2]) (rest := []) rfl rfl (Nat.le_of_ble_eq_true rfl) hk (by decide +kernel : decode cX11_unit 133 = .ok (.invokevirtual 323, 3)) (mt_M_say _ _ _ _ h) ?_
  rintro _ g3 ⟨rfl, h⟩
  refine j_weak [none, none, none] trivial ?_
  exact S_M_unit_136 hE hfr hlo hR_M_condition hR_M_sum hR_M_unit _ h
set_option maxRecDepth 100000 in
def B_M_unit_87 (Γ : GAM) (R_M_condition : Nat → GH → (GH → Prop) → Prop) (R_M_sum : Nat → GH → (GH → Prop) → Prop) (R_M_unit : Nat → GH → (GH → Prop) → Prop) (K : GH → Prop) (l0 : Nat) (s0 : Int32) (g : GH) : Prop :=
  ((s0 = (61 : Int32) → B_M_unit_117 Γ R_M_condition R_M_sum R_M_unit K l0 s0 g) ∧ (¬ (s0 = (61 : Int32)) → ((s0 = (60 : Int32) → B_M_unit_117 Γ R_M_condition R_M_sum R_M_unit K l0 s0 g) ∧ (¬ (s0 = (60 : Int32)) → ((s0 = (62 : Int32) → B_M_unit_117 Γ R_M_condition R_M_sum R_M_unit K l0 s0 g) ∧ (¬ (s0 = (62 : Int32)) → ((s0 = (35 : Int32) → B_M_unit_117 Γ R_M_condition R_M_sum R_M_unit K l0 s0 g) ∧ (¬ (s0 = (35 : Int32)) → Kd g l0 = 13 ∧ Sp_M_bad Γ l0 g (fun (g1 : GH) => K g1)))))))))
set_option maxHeartbeats 4000000 in
set_option maxRecDepth 100000 in
theorem S_M_unit_87 {Γ : GAM} {E : EV} {fr lo : Nat} {K : GH → Prop} (hE : GE Γ E cX11_unit 3 RX11 none fr lo (fun r g' => r = none ∧ K g')) (hfr : 2 ≤ fr) (hlo : 41 ≤ lo) {R_M_condition : Nat → GH → (GH → Prop) → Prop} {R_M_sum : Nat → GH → (GH → Prop) → Prop} {R_M_unit : Nat → GH → (GH → Prop) → Prop} {f_M_condition l_M_condition : Nat} (hR_M_condition : (f_M_condition + 1 ≤ fr ∧ 8 + (1 + 11) + l_M_condition ≤ lo) ∧ ∀ (th : Nat) g (K : GH → Prop), R_M_condition th g K → MetA Γ E.2.1 yX11_condition cX11_condition 1 none f_M_condition l_M_condition [.ref th] g (fun r g' => r = none ∧ K g')) {f_M_sum l_M_sum : Nat} (hR_M_sum : (f_M_sum + 1 ≤ fr ∧ 8 + (2 + 11) + l_M_sum ≤ lo) ∧ ∀ (th : Nat) g (K : GH → Prop), R_M_sum th g K → MetA Γ E.2.1 yX11_sum cX11_sum 2 none f_M_sum l_M_sum [.ref th] g (fun r g' => r = none ∧ K g')) {f_M_unit l_M_unit : Nat} (hR_M_unit : (f_M_unit + 1 ≤ fr ∧ 8 + (3 + 11) + l_M_unit ≤ lo) ∧ ∀ (th : Nat) g (K : GH → Prop), R_M_unit th g K → MetA Γ E.2.1 yX11_unit cX11_unit 3 none f_M_unit l_M_unit [.ref th] g (fun r g' => r = none ∧ K g')) (l0 : Nat) (s0 : Int32) (g : GH) (h : B_M_unit_87 Γ R_M_condition R_M_sum R_M_unit K l0 s0 g) : JW Γ E 87 [some (.ref l0), none, none] [.int s0] g := by
  unfold B_M_unit_87 at h
  refine j_istore_n hE (by decide +kernel : decode cX11_unit 87 = .ok (.istore_n 2, 1)) rfl (Nat.le_of_ble_eq_true rfl) rfl ?_
  refine j_iload_n hE (by decide +kernel : decode cX11_unit 88 = .ok (.iload_n 2, 1)) rfl rfl ?_
  refine j_bipush hE (by decide +kernel : decode cX11_unit 89 = .ok (.bipush 61, 2)) (v := (61 : Int32)) (by decide) ?_
  refine j_icmp_eq hE (by decide +kernel : decode cX11_unit 91 = .ok (.if_icmp .eq 26, 3)) (tgt := 117) (by decide) (fun q => ?_) (fun q => ?_)
  · replace h := h.1 q
    exact S_M_unit_117 hE hfr hlo hR_M_condition hR_M_sum hR_M_unit _ _ _ h
  · replace h := h.2 q
    refine j_iload_n hE (by decide +kernel : decode cX11_unit 94 = .ok (.iload_n 2, 1)) rfl rfl ?_
    refine j_bipush hE (by decide +kernel : decode cX11_unit 95 = .ok (.bipush 60, 2)) (v := (60 : Int32)) (by decide) ?_
    refine j_icmp_eq hE (by decide +kernel : decode cX11_unit 97 = .ok (.if_icmp .eq 20, 3)) (tgt := 117) (by decide) (fun q => ?_) (fun q => ?_)
    · replace h := h.1 q
      exact S_M_unit_117 hE hfr hlo hR_M_condition hR_M_sum hR_M_unit _ _ _ h
    · replace h := h.2 q
      refine j_iload_n hE (by decide +kernel : decode cX11_unit 100 = .ok (.iload_n 2, 1)) rfl rfl ?_
      refine j_bipush hE (by decide +kernel : decode cX11_unit 101 = .ok (.bipush 62, 2)) (v := (62 : Int32)) (by decide) ?_
      refine j_icmp_eq hE (by decide +kernel : decode cX11_unit 103 = .ok (.if_icmp .eq 14, 3)) (tgt := 117) (by decide) (fun q => ?_) (fun q => ?_)
      · replace h := h.1 q
        exact S_M_unit_117 hE hfr hlo hR_M_condition hR_M_sum hR_M_unit _ _ _ h
      · replace h := h.2 q
        refine j_iload_n hE (by decide +kernel : decode cX11_unit 106 = .ok (.iload_n 2, 1)) rfl rfl ?_
        refine j_bipush hE (by decide +kernel : decode cX11_unit 107 = .ok (.bipush 35, 2)) (v := (35 : Int32)) (by decide) ?_
        refine j_icmp_eq hE (by decide +kernel : decode cX11_unit 109 = .ok (.if_icmp .eq 8, 3)) (tgt := 117) (by decide) (fun q => ?_) (fun q => ?_)
        · replace h := h.1 q
          exact S_M_unit_117 hE hfr hlo hR_M_condition hR_M_sum hR_M_unit _ _ _ h
        · replace h := h.2 q
          refine j_aload_n hE (by decide +kernel : decode cX11_unit 112 = .ok (.aload_n 0, 1)) rfl rfl ?_
          obtain ⟨hk, h⟩ := h
          refine j_callV hE rfl cl_X11_313 cf_12 im_X11_bad se_X11_bad ⟨by omega, by omega⟩ (As := []) (rest := []) rfl rfl (Nat.le_of_ble_eq_true rfl) hk (by decide +kernel : decode cX11_unit 113 = .ok (.invokevirtual 313, 3)) (mt_M_bad _ _ _ h) ?_
          rintro _ g1 ⟨rfl, h⟩
          exact j_vret hE (by decide +kernel : decode cX11_unit 116 = .ok (.return_, 1)) ⟨rfl, h⟩
set_option maxRecDepth 100000 in
def B_M_unit_0 (Γ : GAM) (R_M_condition : Nat → GH → (GH → Prop) → Prop) (R_M_sum : Nat → GH → (GH → Prop) → Prop) (R_M_unit : Nat → GH → (GH → Prop) → Prop) (K : GH → Prop) (th : Nat) (g : GH) : Prop :=
  Kd g th = 13 ∧ Sp_M_look Γ th g (fun (x2 : Int32) (g1 : GH) => ((¬ (x2 = (33 : Int32)) → ((¬ (x2 = (40 : Int32)) → Kd g1 th = 13 ∧ R_M_sum th g1 (fun (g3 : GH) => Kd g3 th = 13 ∧ ((¬ ((Gi g3 1590 th) = (-1 : Int32)) → B_M_unit_87 Γ R_M_condition R_M_sum R_M_unit K th (-1 : Int32) g3) ∧ ((Gi g3 1590 th) = (-1 : Int32) → Kd g3 th = 13 ∧ Sp_M_look Γ th g3 (fun (x5 : Int32) (g4 : GH) => B_M_unit_87 Γ R_M_condition R_M_sum R_M_unit K th x5 g4))))) ∧ (x2 = (40 : Int32) → Kd g1 th = 13 ∧ Sp_M_opens Γ th g1 (fun (x7 : Int32) (g6 : GH) => ((x7 = 0 → B_M_unit_136 Γ R_M_condition R_M_sum R_M_unit K g6) ∧ (¬ (x7 = 0) → Kd g6 th = 13 ∧ R_M_condition th g6 (fun (g8 : GH) => Kd g8 th = 13 ∧ Sp_M_closes Γ th (41 : Int32) g8 (fun (g9 : GH) => B_M_unit_136 Γ R_M_condition R_M_sum R_M_unit K g9)))))))) ∧ (x2 = (33 : Int32) → Kd g1 th = 13 ∧ Sp_M_opens Γ th g1 (fun (x11 : Int32) (g10 : GH) => ((x11 = 0 → B_M_unit_136 Γ R_M_condition R_M_sum R_M_unit K g10) ∧ (¬ (x11 = 0) → Kd g10 th = 13 ∧ R_M_unit th g10 (fun (g12 : GH) => Kd g12 th = 13 ∧ Kd g12 th = 13 ∧ ∀ g13 : GH, g13 = sI g12 1591 th ((Gi g12 1591 th) - (1 : Int32)) → Kd g13 th = 13 ∧ Sp_M_say Γ th (33 : Int32) g13 (fun (g14 : GH) => B_M_unit_136 Γ R_M_condition R_M_sum R_M_unit K g14))))))))
set_option maxHeartbeats 4000000 in
set_option maxRecDepth 100000 in
theorem S_M_unit_0 {Γ : GAM} {E : EV} {fr lo : Nat} {K : GH → Prop} (hE : GE Γ E cX11_unit 3 RX11 none fr lo (fun r g' => r = none ∧ K g')) (hfr : 2 ≤ fr) (hlo : 41 ≤ lo) {R_M_condition : Nat → GH → (GH → Prop) → Prop} {R_M_sum : Nat → GH → (GH → Prop) → Prop} {R_M_unit : Nat → GH → (GH → Prop) → Prop} {f_M_condition l_M_condition : Nat} (hR_M_condition : (f_M_condition + 1 ≤ fr ∧ 8 + (1 + 11) + l_M_condition ≤ lo) ∧ ∀ (th : Nat) g (K : GH → Prop), R_M_condition th g K → MetA Γ E.2.1 yX11_condition cX11_condition 1 none f_M_condition l_M_condition [.ref th] g (fun r g' => r = none ∧ K g')) {f_M_sum l_M_sum : Nat} (hR_M_sum : (f_M_sum + 1 ≤ fr ∧ 8 + (2 + 11) + l_M_sum ≤ lo) ∧ ∀ (th : Nat) g (K : GH → Prop), R_M_sum th g K → MetA Γ E.2.1 yX11_sum cX11_sum 2 none f_M_sum l_M_sum [.ref th] g (fun r g' => r = none ∧ K g')) {f_M_unit l_M_unit : Nat} (hR_M_unit : (f_M_unit + 1 ≤ fr ∧ 8 + (3 + 11) + l_M_unit ≤ lo) ∧ ∀ (th : Nat) g (K : GH → Prop), R_M_unit th g K → MetA Γ E.2.1 yX11_unit cX11_unit 3 none f_M_unit l_M_unit [.ref th] g (fun r g' => r = none ∧ K g')) (th : Nat) (g : GH) (h : B_M_unit_0 Γ R_M_condition R_M_sum R_M_unit K th g) : JW Γ E 0 [some (.ref th), none, none] [] g := by
  unfold B_M_unit_0 at h
  refine j_aload_n hE (by decide +kernel : decode cX11_unit 0 = .ok (.aload_n 0, 1)) rfl rfl ?_
  obtain ⟨hk, h⟩ := h
  refine j_callV hE rfl cl_X11_316 cf_12 im_X11_look se_X11_look ⟨by omega, by omega⟩ (As := []) (rest := []) rfl rfl (Nat.le_of_ble_eq_true rfl) hk (by decide +kernel : decode cX11_unit 1 = .ok (.invokevirtual 316, 3)) (mt_M_look _ _ _ h) ?_
  rintro _ g1 ⟨x2, rfl, h⟩
  refine j_istore_n hE (by decide +kernel : decode cX11_unit 4 = .ok (.istore_n 1, 1)) rfl (Nat.le_of_ble_eq_true rfl) rfl ?_
  refine j_iload_n hE (by decide +kernel : decode cX11_unit 5 = .ok (.iload_n 1, 1)) rfl rfl ?_
  refine j_bipush hE (by decide +kernel : decode cX11_unit 6 = .ok (.bipush 33, 2)) (v := (33 : Int32)) (by decide) ?_
  refine j_icmp_ne hE (by decide +kernel : decode cX11_unit 8 = .ok (.if_icmp .ne 33, 3)) (tgt := 41) (by decide) (fun q => ?_) (fun q => ?_)
  · replace h := h.1 q
    refine j_iload_n hE (by decide +kernel : decode cX11_unit 41 = .ok (.iload_n 1, 1)) rfl rfl ?_
    refine j_bipush hE (by decide +kernel : decode cX11_unit 42 = .ok (.bipush 40, 2)) (v := (40 : Int32)) (by decide) ?_
    refine j_icmp_ne hE (by decide +kernel : decode cX11_unit 44 = .ok (.if_icmp .ne 23, 3)) (tgt := 67) (by decide) (fun q => ?_) (fun q => ?_)
    · replace h := h.1 q
      refine j_aload_n hE (by decide +kernel : decode cX11_unit 67 = .ok (.aload_n 0, 1)) rfl rfl ?_
      obtain ⟨hk, h⟩ := h
      refine j_callV hE rfl cl_X11_331 cf_12 im_X11_sum se_X11_sum hR_M_sum.1 (As := []) (rest := []) rfl rfl (Nat.le_of_ble_eq_true rfl) hk (by decide +kernel : decode cX11_unit 68 = .ok (.invokevirtual 331, 3)) (hR_M_sum.2 _ _ _ h) ?_
      rintro _ g3 ⟨rfl, h⟩
      refine j_aload_n hE (by decide +kernel : decode cX11_unit 71 = .ok (.aload_n 0, 1)) rfl rfl ?_
      obtain ⟨hk, h⟩ := h
      refine j_getI hE fg_X11_304 hk (by decide +kernel : decode cX11_unit 72 = .ok (.getfield 304, 3)) ?_
      refine j_iconst hE (by decide +kernel : decode cX11_unit 75 = .ok (.iconst (-1), 1)) (v := (-1 : Int32)) (by decide) ?_
      refine j_icmp_ne hE (by decide +kernel : decode cX11_unit 76 = .ok (.if_icmp .ne 10, 3)) (tgt := 86) (by decide) (fun q => ?_) (fun q => ?_)
      · replace h := h.1 q
        refine j_iconst hE (by decide +kernel : decode cX11_unit 86 = .ok (.iconst (-1), 1)) (v := (-1 : Int32)) (by decide) ?_
        refine j_weak [some (.ref th), none, none] ⟨rfl, trivial⟩ ?_
        exact S_M_unit_87 hE hfr hlo hR_M_condition hR_M_sum hR_M_unit _ _ _ h
      · replace h := h.2 q
        refine j_aload_n hE (by decide +kernel : decode cX11_unit 79 = .ok (.aload_n 0, 1)) rfl rfl ?_
        obtain ⟨hk, h⟩ := h
        refine j_callV hE rfl cl_X11_316 cf_12 im_X11_look se_X11_look ⟨by omega, by omega⟩ (As := []) (rest := []) rfl rfl (Nat.le_of_ble_eq_true rfl) hk (by decide +kernel : decode cX11_unit 80 = .ok (.invokevirtual 316, 3)) (mt_M_look _ _ _ h) ?_
        rintro _ g4 ⟨x5, rfl, h⟩
        refine j_goto hE (by decide +kernel : decode cX11_unit 83 = .ok (.goto 4, 3)) (tgt := 87) (by decide) ?_
        refine j_weak [some (.ref th), none, none] ⟨rfl, trivial⟩ ?_
        exact S_M_unit_87 hE hfr hlo hR_M_condition hR_M_sum hR_M_unit _ _ _ h
    · replace h := h.2 q
      refine j_aload_n hE (by decide +kernel : decode cX11_unit 47 = .ok (.aload_n 0, 1)) rfl rfl ?_
      obtain ⟨hk, h⟩ := h
      refine j_callV hE rfl cl_X11_327 cf_12 im_X11_opens se_X11_opens ⟨by omega, by omega⟩ (As := []) (rest := []) rfl rfl (Nat.le_of_ble_eq_true rfl) hk (by decide +kernel : decode cX11_unit 48 = .ok (.invokevirtual 327, 3)) (mt_M_opens _ _ _ h) ?_
      rintro _ g6 ⟨x7, rfl, h⟩
      refine j_if_eq hE (by decide +kernel : decode cX11_unit 51 = .ok (.ifCond .eq 85, 3)) (tgt := 136) (by decide) (fun q => ?_) (fun q => ?_)
      · replace h := h.1 q
        refine j_weak [none, none, none] trivial ?_
        exact S_M_unit_136 hE hfr hlo hR_M_condition hR_M_sum hR_M_unit _ h
      · replace h := h.2 q
        refine j_aload_n hE (by decide +kernel : decode cX11_unit 54 = .ok (.aload_n 0, 1)) rfl rfl ?_
        obtain ⟨hk, h⟩ := h
        refine j_callV hE rfl cl_X11_352 cf_12 im_X11_condition se_X11_condition hR_M_condition.1 (As := []) (rest := []) rfl rfl (Nat.le_of_ble_eq_true rfl) hk (by decide +kernel : decode cX11_unit 55 = .ok (.invokevirtual 352, 3)) (hR_M_condition.2 _ _ _ h) ?_
        rintro _ g8 ⟨rfl, h⟩
        refine j_aload_n hE (by decide +kernel : decode cX11_unit 58 = .ok (.aload_n 0, 1)) rfl rfl ?_
        refine j_bipush hE (by decide +kernel : decode cX11_unit 59 = .ok (.bipush 41, 2)) (v := (41 : Int32)) (by decide) ?_
        obtain ⟨hk, h⟩ := h
        refine j_callV hE rfl cl_X11_334 cf_12 im_X11_closes se_X11_closes ⟨by omega, by omega⟩ (As := [.int (41 : Int32)]) (rest := []) rfl rfl (Nat.le_of_ble_eq_true rfl) hk (by decide +kernel : decode cX11_unit 61 = .ok (.invokevirtual 334, 3)) (mt_M_closes _ _ _ _ h) ?_
        rintro _ g9 ⟨rfl, h⟩
        refine j_goto hE (by decide +kernel : decode cX11_unit 64 = .ok (.goto 72, 3)) (tgt := 136) (by decide) ?_
        refine j_weak [none, none, none] trivial ?_
        exact S_M_unit_136 hE hfr hlo hR_M_condition hR_M_sum hR_M_unit _ h
  · replace h := h.2 q
    refine j_aload_n hE (by decide +kernel : decode cX11_unit 11 = .ok (.aload_n 0, 1)) rfl rfl ?_
    obtain ⟨hk, h⟩ := h
    refine j_callV hE rfl cl_X11_327 cf_12 im_X11_opens se_X11_opens ⟨by omega, by omega⟩ (As := []) (rest := []) rfl rfl (Nat.le_of_ble_eq_true rfl) hk (by decide +kernel : decode cX11_unit 12 = .ok (.invokevirtual 327, 3)) (mt_M_opens _ _ _ h) ?_
    rintro _ g10 ⟨x11, rfl, h⟩
    refine j_if_eq hE (by decide +kernel : decode cX11_unit 15 = .ok (.ifCond .eq 121, 3)) (tgt := 136) (by decide) (fun q => ?_) (fun q => ?_)
    · replace h := h.1 q
      refine j_weak [none, none, none] trivial ?_
      exact S_M_unit_136 hE hfr hlo hR_M_condition hR_M_sum hR_M_unit _ h
    · replace h := h.2 q
      refine j_aload_n hE (by decide +kernel : decode cX11_unit 18 = .ok (.aload_n 0, 1)) rfl rfl ?_
      obtain ⟨hk, h⟩ := h
      refine j_callV hE rfl cl_X11_349 cf_12 im_X11_unit se_X11_unit hR_M_unit.1 (As := []) (rest := []) rfl rfl (Nat.le_of_ble_eq_true rfl) hk (by decide +kernel : decode cX11_unit 19 = .ok (.invokevirtual 349, 3)) (hR_M_unit.2 _ _ _ h) ?_
      rintro _ g12 ⟨rfl, h⟩
      refine j_aload_n hE (by decide +kernel : decode cX11_unit 22 = .ok (.aload_n 0, 1)) rfl rfl ?_
      refine j_dup hE (by decide +kernel : decode cX11_unit 23 = .ok (.dup, 1)) rfl ?_
      obtain ⟨hk, h⟩ := h
      refine j_getI hE fg_X11_310 hk (by decide +kernel : decode cX11_unit 24 = .ok (.getfield 310, 3)) ?_
      refine j_iconst hE (by decide +kernel : decode cX11_unit 27 = .ok (.iconst 1, 1)) (v := (1 : Int32)) (by decide) ?_
      refine j_isub hE (by decide +kernel : decode cX11_unit 28 = .ok (.isub, 1)) ?_
      obtain ⟨hk, h⟩ := h
      obtain ⟨g13, hg⟩ : ∃ z, z = sI g12 1591 th ((Gi g12 1591 th) - (1 : Int32)) := ⟨_, rfl⟩; replace h := h g13 hg
      refine j_putI hE fa_X11_310 hk (fun q => by cases q) (by decide +kernel : decode cX11_unit 29 = .ok (.putfield 310, 3)) ?_
      rw [← hg]
      refine j_aload_n hE (by decide +kernel : decode cX11_unit 32 = .ok (.aload_n 0, 1)) rfl rfl ?_
      refine j_bipush hE (by decide +kernel : decode cX11_unit 33 = .ok (.bipush 33, 2)) (v := (33 : Int32)) (by decide) ?_
      obtain ⟨hk, h⟩ := h
      refine j_callV hE rfl cl_X11_323 cf_12 im_X11_say se_X11_say ⟨by omega, by omega⟩ (As := [.int (33 : Int32)]) (rest := []) rfl rfl (Nat.le_of_ble_eq_true rfl) hk (by decide +kernel : decode cX11_unit 35 = .ok (.invokevirtual 323, 3)) (mt_M_say _ _ _ _ h) ?_
      rintro _ g14 ⟨rfl, h⟩
      refine j_goto hE (by decide +kernel : decode cX11_unit 38 = .ok (.goto 98, 3)) (tgt := 136) (by decide) ?_
      refine j_weak [none, none, none] trivial ?_
      exact S_M_unit_136 hE hfr hlo hR_M_condition hR_M_sum hR_M_unit _ h
set_option maxHeartbeats 4000000 in
set_option maxRecDepth 100000 in
theorem rl_M_unit {Γ : GAM} {l : Launch} {fr lo : Nat} (hfr : 2 ≤ fr) (hlo : 41 ≤ lo) {R_M_condition : Nat → GH → (GH → Prop) → Prop} {R_M_sum : Nat → GH → (GH → Prop) → Prop} {R_M_unit : Nat → GH → (GH → Prop) → Prop} {f_M_condition l_M_condition : Nat} (hR_M_condition : (f_M_condition + 1 ≤ fr ∧ 8 + (1 + 11) + l_M_condition ≤ lo) ∧ ∀ (th : Nat) g (K : GH → Prop), R_M_condition th g K → MetA Γ l yX11_condition cX11_condition 1 none f_M_condition l_M_condition [.ref th] g (fun r g' => r = none ∧ K g')) {f_M_sum l_M_sum : Nat} (hR_M_sum : (f_M_sum + 1 ≤ fr ∧ 8 + (2 + 11) + l_M_sum ≤ lo) ∧ ∀ (th : Nat) g (K : GH → Prop), R_M_sum th g K → MetA Γ l yX11_sum cX11_sum 2 none f_M_sum l_M_sum [.ref th] g (fun r g' => r = none ∧ K g')) {f_M_unit l_M_unit : Nat} (hR_M_unit : (f_M_unit + 1 ≤ fr ∧ 8 + (3 + 11) + l_M_unit ≤ lo) ∧ ∀ (th : Nat) g (K : GH → Prop), R_M_unit th g K → MetA Γ l yX11_unit cX11_unit 3 none f_M_unit l_M_unit [.ref th] g (fun r g' => r = none ∧ K g')) {th : Nat} {g : GH} {K : GH → Prop} (h0 : B_M_unit_0 Γ R_M_condition R_M_sum R_M_unit K th g) : MetA Γ l yX11_unit cX11_unit 3 none fr lo [.ref th] g (fun r g' => r = none ∧ K g') := by
  refine MetA.introL (Lx := [some (.ref th), none, none]) (by decide) (Nat.le_of_ble_eq_true rfl) rfl rfl ?_
  intro E hEl hE hnm
  have hR_M_condition := hR_M_condition; rw [← hEl] at hR_M_condition
  have hR_M_sum := hR_M_sum; rw [← hEl] at hR_M_sum
  have hR_M_unit := hR_M_unit; rw [← hEl] at hR_M_unit
  exact S_M_unit_0 hE hfr hlo hR_M_condition hR_M_sum hR_M_unit th g h0
theorem mq_unit {Γ : GAM} {l : Launch} (r : Nat) (hr : r ≤ 8) {f' l' : Nat} (hU : ∀ (th : Nat) (g : GH) (K : GH → Prop), SpUo r Γ th g K → MetA Γ l yX11_unit cX11_unit 3 none f' l' [.ref th] g (fun r g' => r = none ∧ K g')) (hC : ∀ (th : Nat) (g : GH) (K : GH → Prop), SpCo r Γ th g K → MetA Γ l yX11_condition cX11_condition 1 none f' l' [.ref th] g (fun r g' => r = none ∧ K g')) (hSm : ∀ (th : Nat) (g : GH) (K : GH → Prop), SpR (fun t => pSm t (pAt t r)) (10 * r + 4) (8 - r) Γ th g K → MetA Γ l yX11_sum cX11_sum 2 none f' l' [.ref th] g (fun r g' => r = none ∧ K g')) (f lo : Nat) (hf : f' + 1 ≤ f) (hlo : 200 + l' ≤ lo) (hf3 : 5 ≤ f) (th : Nat) (g : GH) (K : GH → Prop) (h : SpR (fun t => pUn t r) (10 * r + 6) (8 - r) Γ th g K) : MetA Γ l yX11_unit cX11_unit 3 none f lo [.ref th] g (fun r g' => r = none ∧ K g') := by
  obtain ⟨ma, s, p, sd, hI, hw, hP, hsl, hK⟩ := h
  have hT := hw.len.2.2.2.2.2.2.2.2.1
  have hpl := hP.2.1
  have gg1 := skp_ge (s_tap s) p
  have gg2 := skp_le hpl
  have haf : pUn (s_tap s) r = uF (s_tap s) (pSm (s_tap s) (pAt (s_tap s) r)) (pOpt (pUn (s_tap s)) r) := by cases r <;> rfl
  refine rl_M_unit (R_M_condition := SpCo r Γ) (R_M_sum := SpR (fun t => pSm t (pAt t r)) (10 * r + 4) (8 - r) Γ) (R_M_unit := SpUo r Γ) (f_M_condition := f') (l_M_condition := l') (f_M_sum := f') (l_M_sum := l') (f_M_unit := f') (l_M_unit := l') (by omega) (by omega) ⟨⟨hf, by omega⟩, hC⟩ ⟨⟨hf, by omega⟩, hSm⟩ ⟨⟨hf, by omega⟩, hU⟩ ?_
  unfold B_M_unit_0 B_M_unit_136
  refine ⟨hI.1.1, ma, s, p, hI, hw, hP.1, by omega, fun g1 hx1 ha1 => ?_⟩
  have hf1 : FrX th [1589, 1590, 1591, 1592] [1583] g g1 := hx1.up (by decide) (by decide)
  have hI1 := hI.x hx1 (by decide +kernel)
  have hkd1 := hI1.1.1
  have hP1 := hP.x hx1 ha1 gg2
  have hK1 : ∀ g', FrX th [1589, 1590, 1591, 1592] [1583] g g' → PO th g' s sd (8 - r) (10 * r + 6) (pUn (s_tap s) r p) → K g' := hK
  rw [haf] at hK1
  unfold uF at hK1
  obtain ⟨q0, hq0⟩ : ∃ q0, skp (s_tap s) p = q0 := ⟨_, rfl⟩
  rw [hq0] at gg1 gg2 hP1
  simp only [hq0] at hK1 ⊢
  refine ⟨fun u => ⟨fun u2 => ⟨hkd1, ma, s, q0, sd, hI1, hw, hP1, by omega, fun g3 hx3 hO3 => ?_⟩, fun u2 => ?_⟩, fun u => ?_⟩
  · have hI3 := hI1.x hx3 (by decide +kernel)
    have hkd3 := hI3.1.1
    have hf3 := hf1.tr hx3
    have hokS := fun q hq => pSm_ok (pAt_ok (s_tap s) r) q hq
    have hok := hokS q0 gg2
    have hO3' : PO th g3 s sd (8 - r) (10 * r + 4) (pSm (s_tap s) (pAt (s_tap s) r) q0) := hO3
    rw [if_neg u, if_neg u2] at hK1
    refine ⟨hkd3, fun u3 => ?_, fun u3 => ⟨hkd3, ?_⟩⟩
    · -- already wrong
      have hno : ∀ e, WR th g3 e (10 * r + 4) → pCp (s_tap s) (pSm (s_tap s) (pAt (s_tap s) r)) q0 = .inl e → B_M_unit_87 Γ (SpCo r Γ) (SpR (fun t => pSm t (pAt t r)) (10 * r + 4) (8 - r) Γ) (SpUo r Γ) K th (-1) g3 := fun e he hc => by
        unfold B_M_unit_87
        refine ⟨fun z => absurd z (by decide), fun _ => ⟨fun z => absurd z (by decide), fun _ => ⟨fun z => absurd z (by decide), fun _ => ⟨fun z => absurd z (by decide), fun _ => ⟨hkd3, hkd3, ?_⟩⟩⟩⟩⟩
        rintro g4 rfl
        refine hK1 _ (hf3.tr FrW) ?_
        rw [hc]
        exact he.bad.up (by omega)
      rcases hO3'.wr u3 with ⟨e, he⟩ | ⟨p2, w, he, hs, hW⟩
      · rw [he] at hO3'
        exact hno e hO3' (by unfold pCp; rw [he])
      · have hd := dg_n hs
        refine hno p2 hW ?_
        unfold pCp
        rw [he]
        simp only
        rw [skp_n hd.1, if_neg hd.2.2.2.2.2.2.2.2.2.2.2.2.1]
    · obtain ⟨p2, w, he, hN⟩ := hO3'.nm u3
      rw [he] at hok
      obtain ⟨z1, z2, z3, z4, z5⟩ := hok
      have q1 := skp_ge (s_tap s) p2
      have q2 := skp_le z2
      refine ⟨ma, s, p2, hI3, hw, hN.1, by omega, fun g4 hx4 ha4 => ?_⟩
      have hI4 := hI3.x hx4 (by decide +kernel)
      have hkd4 := hI4.1.1
      have hf4 : FrX th [1589, 1590, 1591, 1592] [1583] g g4 := hf3.tr (hx4.up (by decide) (by decide))
      have hN4 := hN.x hx4 ha4 q2
      have hcp : pCp (s_tap s) (pSm (s_tap s) (pAt (s_tap s) r)) q0 = if isCm (chr (s_tap s) (skp (s_tap s) p2)) then (match pSm (s_tap s) (pAt (s_tap s) r) (skp (s_tap s) p2 + 1) with
        | .inl e => .inl e
        | .inr (p3, w3) => .inr (p3, w ++ w3 ++ [-(chr (s_tap s) (skp (s_tap s) p2))])) else .inl (skp (s_tap s) p2) := by
        unfold pCp
        rw [he]
        rfl
      rw [hcp] at hK1
      have h117 : isCm (chr (s_tap s) (skp (s_tap s) p2)) → B_M_unit_117 Γ (SpCo r Γ) (SpR (fun t => pSm t (pAt t r)) (10 * r + 4) (8 - r) Γ) (SpUo r Γ) K th (chr (s_tap s) (skp (s_tap s) p2)) g4 := fun hc => by
        rw [if_pos hc] at hK1
        have hlt : skp (s_tap s) p2 < (s_tap s).length := chr_in (fun q => by rw [q] at hc; exact absurd hc (by decide))
        unfold B_M_unit_117 B_M_unit_136
        refine ⟨hkd4, hkd4, ?_⟩
        rintro g5 rfl
        have hx5 : FrX th [1589, 1590, 1591, 1592] [1583] g4 (sI g4 1589 th (Gi g4 1589 th + 1)) := FrA
        have hI5 := hI4.x hx5 (by decide +kernel)
        have hN5 := hN4.pos hlt
        refine ⟨hI5.1.1, ma, s, _, sd ++ enC w, hI5, hw, hN5, by rw [List.length_append]; omega, fun g6 hx6 hO6 => ?_⟩
        have hI6 := hI5.x hx6 (by decide +kernel)
        have hok3 := hokS (skp (s_tap s) p2 + 1) hlt
        have hO6' : PO th g6 s (sd ++ enC w) (8 - r) (10 * r + 4) (pSm (s_tap s) (pAt (s_tap s) r) (skp (s_tap s) p2 + 1)) := hO6
        obtain ⟨k, k1, k2, k3⟩ := hO6'.k (by omega) (fun p3 w3 hr3 => by
          rw [hr3] at hok3
          obtain ⟨y1, y2, y3, y4, y5⟩ := hok3
          simp only [List.length_append]; omega)
        refine ⟨hI6.1.1, ma, s, k, hI6, k1, k2, fun g7 hg7 => ?_⟩
        have hO7 := (k3 _ (cm_w hc).2).pre
        rw [← hg7] at hO7
        refine hK1 g7 (hf4.tr (hx5.tr (hx6.tr (by rw [hg7]; exact FrP)))) ?_
        cases hr3 : pSm (s_tap s) (pAt (s_tap s) r) (skp (s_tap s) p2 + 1) with
        | inl e => rw [hr3] at hO7; exact PO.up hO7 (by omega)
        | inr x =>
          obtain ⟨p3, w3⟩ := x
          rw [hr3] at hO7
          have := PO.up hO7 (show 10 * r + 4 + 1 ≤ 10 * r + 6 by omega)
          simp only [pPre, pOp, ← List.append_assoc] at this
          exact this
      unfold B_M_unit_87
      refine ⟨fun z => h117 (.inl z), fun n1 => ⟨fun z => h117 (.inr (.inl z)), fun n2 => ⟨fun z => h117 (.inr (.inr (.inl z))), fun n3 => ⟨fun z => h117 (.inr (.inr (.inr z))), fun n4 => ⟨hkd4, hkd4, ?_⟩⟩⟩⟩⟩
      have hne : ¬ isCm (chr (s_tap s) (skp (s_tap s) p2)) := fun z => by
        rcases z with z | z | z | z
        · exact n1 z
        · exact n2 z
        · exact n3 z
        · exact n4 z
      rw [if_neg hne] at hK1
      rintro g5 rfl
      refine hK1 _ (hf4.tr FrW) ?_
      exact (hN4.bad hT (by rw [List.length_append]; omega)).up (Nat.zero_le _)
  · have hlt : q0 < (s_tap s).length := chr_in (by rw [u2]; decide)
    refine ⟨hkd1, s, q0, sd, 8 - r, hkd1, hP1, hlt, hT, by omega, fun hd g9 hx9 hP9 => ?_, fun hd g9 hx9 hW9 => ?_⟩
    · obtain ⟨r', rfl⟩ : ∃ r', r = r' + 1 := ⟨r - 1, by omega⟩
      have ho' : pOpt (pUn (s_tap s)) (r' + 1) = some (pUn (s_tap s) r') := rfl
      have hI9 := hI1.x hx9 (by decide +kernel)
      refine ⟨fun z => absurd z (by decide), fun _ => ⟨hI9.1.1, ma, s, q0 + 1, sd, hI9, hw, by rw [show 8 - r' = 8 - (r' + 1) + 1 by omega]; exact hP9, by omega, fun g11 hx11 hO11 => ?_⟩⟩
      have hI11 := hI9.x hx11 (by decide +kernel)
      rw [show 8 - r' = 8 - (r' + 1) + 1 by omega] at hO11
      have hok := pCd_ok (pUn_ok (s_tap s) r') (q0 + 1) (by omega)
      refine ⟨hI11.1.1, ma, s, sd, 8 - (r' + 1), 10 * r' + 8, _, hI11, hw, by decide, hO11, fun p2 w hr => ?_, by decide, fun g17 hx17 hO17 => ?_⟩
      · simp only at hr
        rw [hr] at hok
        obtain ⟨z1, z2, z3, z4, z5⟩ := hok
        exact ⟨by rw [List.length_append]; omega, z2⟩
      · refine hK1 g17 (hf1.tr (hx9.tr (hx11.tr hx17))) ?_
        rw [if_neg u, if_pos u2, ho']
        exact hO17.up (by omega)
    · have hr0 : r = 0 := by omega
      subst hr0
      have ho' : pOpt (pUn (s_tap s)) 0 = none := rfl
      refine ⟨fun _ => hK1 g9 (hf1.tr hx9) ?_, fun z => absurd rfl z⟩
      rw [if_neg u, if_pos u2, ho']
      exact hW9.up (Nat.zero_le _)
  · have hlt : q0 < (s_tap s).length := chr_in (by rw [u]; decide)
    refine ⟨hkd1, s, q0, sd, 8 - r, hkd1, hP1, hlt, hT, by omega, fun hd g9 hx9 hP9 => ?_, fun hd g9 hx9 hW9 => ?_⟩
    · obtain ⟨r', rfl⟩ : ∃ r', r = r' + 1 := ⟨r - 1, by omega⟩
      have ho' : pOpt (pUn (s_tap s)) (r' + 1) = some (pUn (s_tap s) r') := rfl
      have hI9 := hI1.x hx9 (by decide +kernel)
      refine ⟨fun z => absurd z (by decide), fun _ => ⟨hI9.1.1, ma, s, q0 + 1, sd, hI9, hw, by rw [show 8 - r' = 8 - (r' + 1) + 1 by omega]; exact hP9, by omega, fun g11 hx11 hO11 => ?_⟩⟩
      have hI11 := hI9.x hx11 (by decide +kernel)
      refine ⟨hI11.1.1, hI11.1.1, ?_⟩
      rintro g12 rfl
      rw [show 8 - r' = 8 - (r' + 1) + 1 by omega] at hO11
      have hO12 := hO11.dn
      have hx12 : FrX th [1589, 1590, 1591, 1592] [1583] g11 (sI g11 1591 th (Gi g11 1591 th - 1)) := FrX.sI (by decide)
      have hI12 := hI11.x hx12 (by decide +kernel)
      have hok := pUn_ok (s_tap s) r' (q0 + 1) (by omega)
      obtain ⟨k, k1, k2, k3⟩ := hO12.k (by omega) (fun p2 w hr => by
        simp only at hr
        rw [hr] at hok
        obtain ⟨z1, z2, z3, z4, z5⟩ := hok
        rw [List.length_append]; omega)
      refine ⟨hI12.1.1, ma, s, k, hI12, k1, k2, fun g13 hg13 => ?_⟩
      have hO13 := k3 33 (by decide)
      rw [← hg13] at hO13
      refine hK1 g13 (hf1.tr (hx9.tr (hx11.tr (hx12.tr (by rw [hg13]; exact FrP))))) ?_
      rw [if_pos u, ho']
      exact hO13.up (by omega)
    · have hr0 : r = 0 := by omega
      subst hr0
      have ho' : pOpt (pUn (s_tap s)) 0 = none := rfl
      refine ⟨fun _ => hK1 g9 (hf1.tr hx9) ?_, fun z => absurd rfl z⟩
      rw [if_pos u, ho']
      exact hW9.up (Nat.zero_le _)
/-- room for the pieces: frames and locals -/
abbrev MqA (Γ : GAM) (l : Launch) (f lo : Nat) (P : Nat → GH → (GH → Prop) → Prop) : Prop := ∀ (th : Nat) (g : GH) (K : GH → Prop), P th g K → MetA Γ l yX11_atom cX11_atom 2 none f lo [.ref th] g (fun r g' => r = none ∧ K g')
abbrev MqS (Γ : GAM) (l : Launch) (f lo : Nat) (P : Nat → GH → (GH → Prop) → Prop) : Prop := ∀ (th : Nat) (g : GH) (K : GH → Prop), P th g K → MetA Γ l yX11_sum cX11_sum 2 none f lo [.ref th] g (fun r g' => r = none ∧ K g')
abbrev MqU (Γ : GAM) (l : Launch) (f lo : Nat) (P : Nat → GH → (GH → Prop) → Prop) : Prop := ∀ (th : Nat) (g : GH) (K : GH → Prop), P th g K → MetA Γ l yX11_unit cX11_unit 3 none f lo [.ref th] g (fun r g' => r = none ∧ K g')
abbrev MqC (Γ : GAM) (l : Launch) (f lo : Nat) (P : Nat → GH → (GH → Prop) → Prop) : Prop := ∀ (th : Nat) (g : GH) (K : GH → Prop), P th g K → MetA Γ l yX11_condition cX11_condition 1 none f lo [.ref th] g (fun r g' => r = none ∧ K g')
set_option maxRecDepth 20000 in
theorem mq_lv {Γ : GAM} {l : Launch} (r : Nat) (hr : r ≤ 8) {f0 l0 : Nat} (hf0 : f0 + 1 ≤ (9 * r + 6)) (hl0 : l0 + 200 ≤ (1800 * r + 450)) (hA : ∀ f lo, f0 ≤ f → l0 ≤ lo → MqA Γ l f lo (SpAo r Γ)) (hS : ∀ f lo, f0 ≤ f → l0 ≤ lo → MqS Γ l f lo (SpSo r Γ)) (hU : ∀ f lo, f0 ≤ f → l0 ≤ lo → MqU Γ l f lo (SpUo r Γ)) (hC : ∀ f lo, f0 ≤ f → l0 ≤ lo → MqC Γ l f lo (SpCo r Γ)) :
    (∀ f lo, (9 * r + 6) ≤ f → (1800 * r + 450) ≤ lo → MqA Γ l f lo (SpR (fun t => pAt t r) (10 * r + 2) (8 - r) Γ)) ∧
    (∀ f lo, (9 * r + 11) ≤ f → (1800 * r + 1450) ≤ lo → MqS Γ l f lo (SpR (fun t => pSm t (pAt t r)) (10 * r + 4) (8 - r) Γ)) ∧
    (∀ f lo, (9 * r + 12) ≤ f → (1800 * r + 1650) ≤ lo → MqU Γ l f lo (SpR (fun t => pUn t r) (10 * r + 6) (8 - r) Γ)) ∧
    (∀ f lo, (9 * r + 14) ≤ f → (1800 * r + 2050) ≤ lo → MqC Γ l f lo (SpR (fun t => pCd t (pUn t r)) (10 * r + 8) (8 - r) Γ)) := by
  have kA : ∀ f lo, (9 * r + 6) ≤ f → (1800 * r + 450) ≤ lo → MqA Γ l f lo (SpR (fun t => pAt t r) (10 * r + 2) (8 - r) Γ) := fun f lo hf hlo =>
    mq_atom r hr (hA f0 l0 (Nat.le_refl _) (Nat.le_refl _)) (hS f0 l0 (Nat.le_refl _) (Nat.le_refl _)) f lo (by omega) (by omega) (by omega)
  have kS : ∀ f lo, (9 * r + 11) ≤ f → (1800 * r + 1450) ≤ lo → MqS Γ l f lo (SpR (fun t => pSm t (pAt t r)) (10 * r + 4) (8 - r) Γ) := fun f lo hf hlo =>
    mq_sum (S := fun t => pTm t (pAt t r)) (B := 10 * r + 3) (dd := 8 - r) (fun t => pTm_ok (pAt_ok t r)) (by omega)
      (mq_term (S := fun t => pAt t r) (B := 10 * r + 2) (dd := 8 - r) (fun t => pAt_ok t r) (by omega) (kA (9 * r + 6) (1800 * r + 450) (by omega) (by omega)) ((9 * r + 7)) ((1800 * r + 650)) (by omega) (by omega)) f lo (by omega) (by omega)
  have kU : ∀ f lo, (9 * r + 12) ≤ f → (1800 * r + 1650) ≤ lo → MqU Γ l f lo (SpR (fun t => pUn t r) (10 * r + 6) (8 - r) Γ) := fun f lo hf hlo =>
    mq_unit r hr (f' := (9 * r + 11)) (l' := (1800 * r + 1450)) (hU ((9 * r + 11)) ((1800 * r + 1450)) (by omega) (by omega)) (hC ((9 * r + 11)) ((1800 * r + 1450)) (by omega) (by omega)) (kS (9 * r + 11) (1800 * r + 1450) (by omega) (by omega)) f lo (by omega) (by omega) (by omega)
  refine ⟨kA, kS, kU, fun f lo hf hlo => ?_⟩
  exact mq_condition (S := fun t => pPt t (pUn t r)) (B := 10 * r + 7) (dd := 8 - r) (fun t => pPt_ok (pUn_ok t r)) (by omega)
      (mq_part (S := fun t => pUn t r) (B := 10 * r + 6) (dd := 8 - r) (fun t => pUn_ok t r) (by omega) (kU (9 * r + 12) (1800 * r + 1650) (by omega) (by omega)) ((9 * r + 13)) ((1800 * r + 1850)) (by omega) (by omega)) f lo (by omega) (by omega)
set_option maxRecDepth 20000 in
theorem mq_all {Γ : GAM} {l : Launch} : ∀ r, r ≤ 8 →
    (∀ f lo, (9 * r + 6) ≤ f → (1800 * r + 450) ≤ lo → MqA Γ l f lo (SpR (fun t => pAt t r) (10 * r + 2) (8 - r) Γ)) ∧
    (∀ f lo, (9 * r + 11) ≤ f → (1800 * r + 1450) ≤ lo → MqS Γ l f lo (SpR (fun t => pSm t (pAt t r)) (10 * r + 4) (8 - r) Γ)) ∧
    (∀ f lo, (9 * r + 12) ≤ f → (1800 * r + 1650) ≤ lo → MqU Γ l f lo (SpR (fun t => pUn t r) (10 * r + 6) (8 - r) Γ)) ∧
    (∀ f lo, (9 * r + 14) ≤ f → (1800 * r + 2050) ≤ lo → MqC Γ l f lo (SpR (fun t => pCd t (pUn t r)) (10 * r + 8) (8 - r) Γ)) := by
  intro r
  induction r with
  | zero => exact fun h => mq_lv 0 h (f0 := 0) (l0 := 0) (by omega) (by omega) (fun _ _ _ _ _ _ _ h => h.elim) (fun _ _ _ _ _ _ _ h => h.elim) (fun _ _ _ _ _ _ _ h => h.elim) (fun _ _ _ _ _ _ _ h => h.elim)
  | succ r ih =>
    intro h
    obtain ⟨h1, h2, h3, h4⟩ := ih (by omega)
    exact mq_lv (r + 1) h (f0 := 9 * r + 14) (l0 := 1800 * r + 2050) (by omega) (by omega) (fun f lo hf hlo => h1 f lo (by omega) (by omega)) (fun f lo hf hlo => h2 f lo (by omega) (by omega)) (fun f lo hf hlo => h3 f lo (by omega) (by omega)) (fun f lo hf hlo => h4 f lo hf hlo)
def Sp_M_sum (Γ : GAM) (m : Nat) (g : GH) (K : GH → Prop) : Prop := SpR (fun t => pSm t (pAt t 8)) 84 0 Γ m g K
def Sp_M_condition (Γ : GAM) (m : Nat) (g : GH) (K : GH → Prop) : Prop := SpR (fun t => pCd t (pUn t 8)) 88 0 Γ m g K
set_option maxRecDepth 100000 in
theorem mt_M_sum {Γ : GAM} {l : Launch} (th : Nat) (g : GH) (K : GH → Prop) (h : Sp_M_sum Γ th g K) : MetA Γ l yX11_sum cX11_sum 2 none 90 17000 [.ref th] g (fun r g' => r = none ∧ K g') :=
  (mq_all 8 (Nat.le_refl _)).2.1 90 17000 (by decide) (by decide) th g K h
set_option maxRecDepth 100000 in
theorem mt_M_condition {Γ : GAM} {l : Launch} (th : Nat) (g : GH) (K : GH → Prop) (h : Sp_M_condition Γ th g K) : MetA Γ l yX11_condition cX11_condition 1 none 90 17000 [.ref th] g (fun r g' => r = none ∧ K g') :=
  (mq_all 8 (Nat.le_refl _)).2.2.2 90 17000 (by decide) (by decide) th g K h
