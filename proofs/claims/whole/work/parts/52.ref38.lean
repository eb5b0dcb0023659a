/-! the reference: rules, fault, law -/
def PL (m : Nat) (g : GH) (s : ST) (sd : List Int32) (k : Nat) (r : PRl) : Prop := match r with
  | .inl e => WR m g e 90
  | .inr (p2, x) => (PN m g s p2 (sd ++ enR x) 0 ∧ Gi g 1593 m = nI (k + 1)) ∨ (stk (s_tap s) p2 ∧ WR m g p2 90)
theorem okC_of {t : List Int32} {p p2 : Nat} {b : Bool} {w : List Int32} (h : OKr t p b (.inr (p2, w))) (hT : t.length ≤ 200) : okC w b := by
  obtain ⟨h1, h2, h3, h4, h5⟩ := h
  exact ⟨h5 [], by omega⟩
/-- what a rule that was read keeps to -/
def OKl (t : List Int32) (p : Nat) (r : PRl) : Prop := match r with
  | .inl e => e ≤ t.length
  | .inr (p2, x) => p < p2 ∧ p2 ≤ t.length ∧ (enR x).length + 2 * p ≤ 2 * p2 ∧ okRule x ∧ x.1.length + x.2.2.length + p + 2 ≤ p2
theorem enR_len (x : Rl) : (enR x).length = (enC x.1).length + (enC x.2.2).length + 3 := by
  unfold enR; simp only [List.length_append, List.length_cons, List.length_nil]; omega
theorem pRu_ok {t : List Int32} (hT : t.length ≤ 200) (p : Nat) (hp : p ≤ t.length) : OKl t p (pRu t p) := by
  have hc := pCd_ok (pUn_ok t 8) p hp
  unfold pRu
  cases hr : pCd t (pUn t 8) p with
  | inl e => rw [hr] at hc; exact hc
  | inr x =>
    obtain ⟨p1, w1⟩ := x
    rw [hr] at hc
    have hk1 := okC_of hc hT
    obtain ⟨c1, c2, c3, c4, c5⟩ := hc
    have g1 := skp_ge t p1
    have g2 := skp_le c2
    simp only
    split
    · rename_i hq
      have hlt := chr_in (t := t) (p := skp t p1) (by rw [hq]; decide)
      have g3 := skp_ge t (skp t p1 + 1)
      have g4 := skp_le (t := t) (p := skp t p1 + 1) (by omega)
      split
      · rename_i hv
        have hlt2 := chr_in (t := t) (p := skp t (skp t p1 + 1)) (by rw [hv]; decide)
        have hn := pNm_ok t (skp t (skp t p1 + 1) + 1) (by omega)
        cases hr3 : pNm t (skp t (skp t p1 + 1) + 1) with
        | inl e => rw [hr3] at hn; exact hn
        | inr x =>
          obtain ⟨p3, w3⟩ := x
          rw [hr3] at hn
          have hk3 := okC_of hn hT
          obtain ⟨d1, d2, d3, d4, d5⟩ := hn
          refine ⟨by omega, d2, by rw [enR_len]; simp only; omega, ⟨hk1, .inr (.inr (.inl ⟨rfl, hk3, ?_⟩))⟩, by simp only; omega⟩
          unfold pNm at hr3
          split at hr3
          · have hl := nmL_ok (t := t) 4 (skp t (skp t (skp t p1 + 1) + 1)) 0 (skp_le (by omega)) (by decide) (by omega)
            rw [← nj_0] at hl
            obtain ⟨_, _, _, j, hj, e⟩ := hl
            cases hr3
            refine ⟨_, rfl, ?_, ?_⟩
            · rw [e]; exact nj_nneg (by omega)
            · rw [e]; exact (nj_le (b := 9999) (by omega) (by omega)).mpr hj
          · cases hr3
      · split
        · rename_i hv
          have hlt2 := chr_in (t := t) (p := skp t (skp t p1 + 1)) (by rw [hv]; decide)
          have hn := pSm_ok (pAt_ok t 8) (skp t (skp t p1 + 1) + 1) (by omega)
          cases hr3 : pSm t (pAt t 8) (skp t (skp t p1 + 1) + 1) with
          | inl e => rw [hr3] at hn; exact hn
          | inr x =>
            obtain ⟨p3, w3⟩ := x
            rw [hr3] at hn
            have hk3 := okC_of hn hT
            obtain ⟨d1, d2, d3, d4, d5⟩ := hn
            exact ⟨by omega, d2, by rw [enR_len]; simp only; omega, ⟨hk1, .inr (.inr (.inr ⟨rfl, hk3⟩))⟩, by simp only; omega⟩
        · split
          · rename_i hv
            have hlt2 := chr_in (t := t) (p := skp t (skp t p1 + 1)) (fun q => by rw [q] at hv; exact absurd hv (by decide))
            refine ⟨by omega, by omega, by rw [enR_len]; simp only [enC, List.flatMap_nil, List.length_nil]; unfold enC at c4; omega, ⟨hk1, ?_⟩, by simp only [List.length_nil]; omega⟩
            rcases hv with hv | hv
            · exact .inl ⟨hv, rfl⟩
            · exact .inr (.inl ⟨hv, rfl⟩)
          · exact g4
    · exact g2
theorem WR.rm {m : Nat} {g : GH} {e B : Nat} {v : Int32} (h : WR m g e B) : WR m (sI g 1593 m v) e B := by
  obtain ⟨h1, h2, a, k, h3, h4, h5, h6⟩ := h
  exact ⟨by simp [Gi_sI, h1], h2, a, k, by simp [Gi_sI, h3], h4, by simp [Gi_sI, h5], h6⟩
theorem PN.rm {m : Nat} {g : GH} {s : ST} {p : Nat} {sd : List Int32} {dd : Nat} {v : Int32} (h : PN m g s p sd dd) : PN m (sI g 1593 m v) s p sd dd := by
  obtain ⟨h1, h2, h3, h4, h5, h6, h7⟩ := h
  exact ⟨by simp [Gi_sI, h1], h2, by simp [Gi_sI, h3], by simp [Gi_sI, h4], h5, by rw [Gi_sI, if_neg (fun q => absurd q.1 (by decide))]; exact h6, h7⟩
theorem PO.rs {m : Nat} {g g' : GH} (h : FrX m [1589, 1590, 1591, 1592] [1583] g g') : Gi g' 1593 m = Gi g 1593 m := h.2.1 _ (by decide)
def Sp_M_rule (Γ : GAM) (m : Nat) (g : GH) (K : GH → Prop) : Prop := ∃ ma s p sd k, RefI m ma g s ∧ WF s ∧ PN m g s p sd 0 ∧ sd.length ≤ 2 * p ∧ Gi g 1593 m = nI k ∧ ∀ g', FrX m [1589, 1590, 1591, 1592, 1593] [1583] g g' → PL m g' s sd k (pRu (s_tap s) p) → K g'
-- the walk of M_rule
set_option maxRecDepth 100000 in
def B_M_rule_121 (Γ : GAM) (K : GH → Prop) (l0 : Nat) (g : GH) : Prop :=
  Kd g l0 = 13 ∧ Sp_M_say Γ l0 (3 : Int32) g (fun (g1 : GH) => Kd g1 l0 = 13 ∧ Kd g1 l0 = 13 ∧ ∀ g2 : GH, g2 = sI g1 1593 l0 ((Gi g1 1593 l0) + (1 : Int32)) → K g2)
set_option maxHeartbeats 4000000 in
set_option maxRecDepth 100000 in
theorem S_M_rule_121 {Γ : GAM} {E : EV} {K : GH → Prop} (hE : GE Γ E cX11_rule 2 RX11 none 91 17021 (fun r g' => r = none ∧ K g')) (l0 : Nat) (g : GH) (h : B_M_rule_121 Γ K l0 g) : JW Γ E 121 [some (.ref l0), none] [] g := by
  unfold B_M_rule_121 at h
  refine j_aload_n hE (by decide +kernel : decode cX11_rule 121 = .ok (.aload_n 0, 1)) rfl rfl ?_
  refine j_iconst hE (by decide +kernel : decode cX11_rule 122 = .ok (.iconst 3, 1)) (v := (3 : Int32)) (by decide) ?_
  obtain ⟨hk, h⟩ := h
  refine j_callV hE rfl cl_X11_323 cf_12 im_X11_say se_X11_say ⟨by omega, by omega⟩ (As := [.int (3 : Int32)]) (rest := []) rfl rfl (Nat.le_of_ble_eq_true rfl) hk (by decide +kernel : decode cX11_rule 123 = .ok (.invokevirtual 323, 3)) (mt_M_say _ _ _ _ h) ?_
  rintro _ g1 ⟨rfl, h⟩
  refine j_aload_n hE (by decide +kernel : decode cX11_rule 126 = .ok (.aload_n 0, 1)) rfl rfl ?_
  refine j_dup hE (by decide +kernel : decode cX11_rule 127 = .ok (.dup, 1)) rfl ?_
  obtain ⟨hk, h⟩ := h
  refine j_getI hE fg_X11_358 hk (by decide +kernel : decode cX11_rule 128 = .ok (.getfield 358, 3)) ?_
  refine j_iconst hE (by decide +kernel : decode cX11_rule 131 = .ok (.iconst 1, 1)) (v := (1 : Int32)) (by decide) ?_
  refine j_iadd hE (by decide +kernel : decode cX11_rule 132 = .ok (.iadd, 1)) ?_
  obtain ⟨hk, h⟩ := h
  obtain ⟨g2, hg⟩ : ∃ z, z = sI g1 1593 l0 ((Gi g1 1593 l0) + (1 : Int32)) := ⟨_, rfl⟩; replace h := h g2 hg
  refine j_putI hE fa_X11_358 hk (fun q => by cases q) (by decide +kernel : decode cX11_rule 133 = .ok (.putfield 358, 3)) ?_
  rw [← hg]
  exact j_vret hE (by decide +kernel : decode cX11_rule 136 = .ok (.return_, 1)) ⟨rfl, h⟩
set_option maxRecDepth 100000 in
def B_M_rule_78 (Γ : GAM) (K : GH → Prop) (l0 : Nat) (l1 : Int32) (g : GH) : Prop :=
  Kd g l0 = 13 ∧ Kd g l0 = 13 ∧ ∀ g1 : GH, g1 = sI g 1589 l0 ((Gi g 1589 l0) + (1 : Int32)) → Kd g1 l0 = 13 ∧ Sp_M_say Γ l0 (2 : Int32) g1 (fun (g2 : GH) => Kd g2 l0 = 13 ∧ Sp_M_say Γ l0 l1 g2 (fun (g3 : GH) => ((¬ (l1 = (118 : Int32)) → ((¬ (l1 = (99 : Int32)) → B_M_rule_121 Γ K l0 g3) ∧ (l1 = (99 : Int32) → Kd g3 l0 = 13 ∧ Sp_M_sum Γ l0 g3 (fun (g4 : GH) => B_M_rule_121 Γ K l0 g4)))) ∧ (l1 = (118 : Int32) → Kd g3 l0 = 13 ∧ Sp_M_number Γ l0 g3 (fun (g5 : GH) => B_M_rule_121 Γ K l0 g5)))))
set_option maxHeartbeats 4000000 in
set_option maxRecDepth 100000 in
theorem S_M_rule_78 {Γ : GAM} {E : EV} {K : GH → Prop} (hE : GE Γ E cX11_rule 2 RX11 none 91 17021 (fun r g' => r = none ∧ K g')) (l0 : Nat) (l1 : Int32) (g : GH) (h : B_M_rule_78 Γ K l0 l1 g) : JW Γ E 78 [some (.ref l0), some (.int l1)] [] g := by
  unfold B_M_rule_78 at h
  refine j_aload_n hE (by decide +kernel : decode cX11_rule 78 = .ok (.aload_n 0, 1)) rfl rfl ?_
  refine j_dup hE (by decide +kernel : decode cX11_rule 79 = .ok (.dup, 1)) rfl ?_
  obtain ⟨hk, h⟩ := h
  refine j_getI hE fg_X11_301 hk (by decide +kernel : decode cX11_rule 80 = .ok (.getfield 301, 3)) ?_
  refine j_iconst hE (by decide +kernel : decode cX11_rule 83 = .ok (.iconst 1, 1)) (v := (1 : Int32)) (by decide) ?_
  refine j_iadd hE (by decide +kernel : decode cX11_rule 84 = .ok (.iadd, 1)) ?_
  obtain ⟨hk, h⟩ := h
  obtain ⟨g1, hg⟩ : ∃ z, z = sI g 1589 l0 ((Gi g 1589 l0) + (1 : Int32)) := ⟨_, rfl⟩; replace h := h g1 hg
  refine j_putI hE fa_X11_301 hk (fun q => by cases q) (by decide +kernel : decode cX11_rule 85 = .ok (.putfield 301, 3)) ?_
  rw [← hg]
  refine j_aload_n hE (by decide +kernel : decode cX11_rule 88 = .ok (.aload_n 0, 1)) rfl rfl ?_
  refine j_iconst hE (by decide +kernel : decode cX11_rule 89 = .ok (.iconst 2, 1)) (v := (2 : Int32)) (by decide) ?_
  obtain ⟨hk, h⟩ := h
  refine j_callV hE rfl cl_X11_323 cf_12 im_X11_say se_X11_say ⟨by omega, by omega⟩ (As := [.int (2 : Int32)]) (rest := []) rfl rfl (Nat.le_of_ble_eq_true rfl) hk (by decide +kernel : decode cX11_rule 90 = .ok (.invokevirtual 323, 3)) (mt_M_say _ _ _ _ h) ?_
  rintro _ g2 ⟨rfl, h⟩
  refine j_aload_n hE (by decide +kernel : decode cX11_rule 93 = .ok (.aload_n 0, 1)) rfl rfl ?_
  refine j_iload_n hE (by decide +kernel : decode cX11_rule 94 = .ok (.iload_n 1, 1)) rfl rfl ?_
  obtain ⟨hk, h⟩ := h
  refine j_callV hE rfl cl_X11_323 cf_12 im_X11_say se_X11_say ⟨by omega, by omega⟩ (As := [.int l1]) (rest := []) rfl rfl (Nat.le_of_ble_eq_true rfl) hk (by decide +kernel : decode cX11_rule 95 = .ok (.invokevirtual 323, 3)) (mt_M_say _ _ _ _ h) ?_
  rintro _ g3 ⟨rfl, h⟩
  refine j_iload_n hE (by decide +kernel : decode cX11_rule 98 = .ok (.iload_n 1, 1)) rfl rfl ?_
  refine j_bipush hE (by decide +kernel : decode cX11_rule 99 = .ok (.bipush 118, 2)) (v := (118 : Int32)) (by decide) ?_
  refine j_icmp_ne hE (by decide +kernel : decode cX11_rule 101 = .ok (.if_icmp .ne 10, 3)) (tgt := 111) (by decide) (fun q => ?_) (fun q => ?_)
  · replace h := h.1 q
    refine j_iload_n hE (by decide +kernel : decode cX11_rule 111 = .ok (.iload_n 1, 1)) rfl rfl ?_
    refine j_bipush hE (by decide +kernel : decode cX11_rule 112 = .ok (.bipush 99, 2)) (v := (99 : Int32)) (by decide) ?_
    refine j_icmp_ne hE (by decide +kernel : decode cX11_rule 114 = .ok (.if_icmp .ne 7, 3)) (tgt := 121) (by decide) (fun q => ?_) (fun q => ?_)
    · replace h := h.1 q
      refine j_weak [some (.ref l0), none] ⟨rfl, trivial⟩ ?_
      exact S_M_rule_121 hE _ _ h
    · replace h := h.2 q
      refine j_aload_n hE (by decide +kernel : decode cX11_rule 117 = .ok (.aload_n 0, 1)) rfl rfl ?_
      obtain ⟨hk, h⟩ := h
      refine j_callV hE rfl cl_X11_331 cf_12 im_X11_sum se_X11_sum ⟨by omega, by omega⟩ (As := []) (rest := []) rfl rfl (Nat.le_of_ble_eq_true rfl) hk (by decide +kernel : decode cX11_rule 118 = .ok (.invokevirtual 331, 3)) (mt_M_sum _ _ _ h) ?_
      rintro _ g4 ⟨rfl, h⟩
      refine j_weak [some (.ref l0), none] ⟨rfl, trivial⟩ ?_
      exact S_M_rule_121 hE _ _ h
  · replace h := h.2 q
    refine j_aload_n hE (by decide +kernel : decode cX11_rule 104 = .ok (.aload_n 0, 1)) rfl rfl ?_
    obtain ⟨hk, h⟩ := h
    refine j_callV hE rfl cl_X11_343 cf_12 im_X11_number se_X11_number ⟨by omega, by omega⟩ (As := []) (rest := []) rfl rfl (Nat.le_of_ble_eq_true rfl) hk (by decide +kernel : decode cX11_rule 105 = .ok (.invokevirtual 343, 3)) (mt_M_number _ _ _ h) ?_
    rintro _ g5 ⟨rfl, h⟩
    refine j_goto hE (by decide +kernel : decode cX11_rule 108 = .ok (.goto 13, 3)) (tgt := 121) (by decide) ?_
    refine j_weak [some (.ref l0), none] ⟨rfl, trivial⟩ ?_
    exact S_M_rule_121 hE _ _ h
set_option maxRecDepth 100000 in
def B_M_rule_25 (Γ : GAM) (K : GH → Prop) (l0 : Nat) (g : GH) : Prop :=
  Kd g l0 = 13 ∧ (((Gi g 1590 l0) = (-1 : Int32) → Kd g l0 = 13 ∧ Kd g l0 = 13 ∧ ∀ g1 : GH, g1 = sI g 1589 l0 ((Gi g 1589 l0) + (1 : Int32)) → Kd g1 l0 = 13 ∧ Sp_M_look Γ l0 g1 (fun (x3 : Int32) (g2 : GH) => ((x3 = (103 : Int32) → B_M_rule_78 Γ K l0 x3 g2) ∧ (¬ (x3 = (103 : Int32)) → ((x3 = (119 : Int32) → B_M_rule_78 Γ K l0 x3 g2) ∧ (¬ (x3 = (119 : Int32)) → ((x3 = (118 : Int32) → B_M_rule_78 Γ K l0 x3 g2) ∧ (¬ (x3 = (118 : Int32)) → ((x3 = (99 : Int32) → B_M_rule_78 Γ K l0 x3 g2) ∧ (¬ (x3 = (99 : Int32)) → Kd g2 l0 = 13 ∧ Sp_M_bad Γ l0 g2 (fun (g4 : GH) => K g4))))))))))) ∧ (¬ ((Gi g 1590 l0) = (-1 : Int32)) → K g))
set_option maxHeartbeats 4000000 in
set_option maxRecDepth 100000 in
theorem S_M_rule_25 {Γ : GAM} {E : EV} {K : GH → Prop} (hE : GE Γ E cX11_rule 2 RX11 none 91 17021 (fun r g' => r = none ∧ K g')) (l0 : Nat) (g : GH) (h : B_M_rule_25 Γ K l0 g) : JW Γ E 25 [some (.ref l0), none] [] g := by
  unfold B_M_rule_25 at h
  refine j_aload_n hE (by decide +kernel : decode cX11_rule 25 = .ok (.aload_n 0, 1)) rfl rfl ?_
  obtain ⟨hk, h⟩ := h
  refine j_getI hE fg_X11_304 hk (by decide +kernel : decode cX11_rule 26 = .ok (.getfield 304, 3)) ?_
  refine j_iconst hE (by decide +kernel : decode cX11_rule 29 = .ok (.iconst (-1), 1)) (v := (-1 : Int32)) (by decide) ?_
  refine j_icmp_eq hE (by decide +kernel : decode cX11_rule 30 = .ok (.if_icmp .eq 4, 3)) (tgt := 34) (by decide) (fun q => ?_) (fun q => ?_)
  · replace h := h.1 q
    refine j_aload_n hE (by decide +kernel : decode cX11_rule 34 = .ok (.aload_n 0, 1)) rfl rfl ?_
    refine j_dup hE (by decide +kernel : decode cX11_rule 35 = .ok (.dup, 1)) rfl ?_
    obtain ⟨hk, h⟩ := h
    refine j_getI hE fg_X11_301 hk (by decide +kernel : decode cX11_rule 36 = .ok (.getfield 301, 3)) ?_
    refine j_iconst hE (by decide +kernel : decode cX11_rule 39 = .ok (.iconst 1, 1)) (v := (1 : Int32)) (by decide) ?_
    refine j_iadd hE (by decide +kernel : decode cX11_rule 40 = .ok (.iadd, 1)) ?_
    obtain ⟨hk, h⟩ := h
    obtain ⟨g1, hg⟩ : ∃ z, z = sI g 1589 l0 ((Gi g 1589 l0) + (1 : Int32)) := ⟨_, rfl⟩; replace h := h g1 hg
    refine j_putI hE fa_X11_301 hk (fun q => by cases q) (by decide +kernel : decode cX11_rule 41 = .ok (.putfield 301, 3)) ?_
    rw [← hg]
    refine j_aload_n hE (by decide +kernel : decode cX11_rule 44 = .ok (.aload_n 0, 1)) rfl rfl ?_
    obtain ⟨hk, h⟩ := h
    refine j_callV hE rfl cl_X11_316 cf_12 im_X11_look se_X11_look ⟨by omega, by omega⟩ (As := []) (rest := []) rfl rfl (Nat.le_of_ble_eq_true rfl) hk (by decide +kernel : decode cX11_rule 45 = .ok (.invokevirtual 316, 3)) (mt_M_look _ _ _ h) ?_
    rintro _ g2 ⟨x3, rfl, h⟩
    refine j_istore_n hE (by decide +kernel : decode cX11_rule 48 = .ok (.istore_n 1, 1)) rfl (Nat.le_of_ble_eq_true rfl) rfl ?_
    refine j_iload_n hE (by decide +kernel : decode cX11_rule 49 = .ok (.iload_n 1, 1)) rfl rfl ?_
    refine j_bipush hE (by decide +kernel : decode cX11_rule 50 = .ok (.bipush 103, 2)) (v := (103 : Int32)) (by decide) ?_
    refine j_icmp_eq hE (by decide +kernel : decode cX11_rule 52 = .ok (.if_icmp .eq 26, 3)) (tgt := 78) (by decide) (fun q => ?_) (fun q => ?_)
    · replace h := h.1 q
      exact S_M_rule_78 hE _ _ _ h
    · replace h := h.2 q
      refine j_iload_n hE (by decide +kernel : decode cX11_rule 55 = .ok (.iload_n 1, 1)) rfl rfl ?_
      refine j_bipush hE (by decide +kernel : decode cX11_rule 56 = .ok (.bipush 119, 2)) (v := (119 : Int32)) (by decide) ?_
      refine j_icmp_eq hE (by decide +kernel : decode cX11_rule 58 = .ok (.if_icmp .eq 20, 3)) (tgt := 78) (by decide) (fun q => ?_) (fun q => ?_)
      · replace h := h.1 q
        exact S_M_rule_78 hE _ _ _ h
      · replace h := h.2 q
        refine j_iload_n hE (by decide +kernel : decode cX11_rule 61 = .ok (.iload_n 1, 1)) rfl rfl ?_
        refine j_bipush hE (by decide +kernel : decode cX11_rule 62 = .ok (.bipush 118, 2)) (v := (118 : Int32)) (by decide) ?_
        refine j_icmp_eq hE (by decide +kernel : decode cX11_rule 64 = .ok (.if_icmp .eq 14, 3)) (tgt := 78) (by decide) (fun q => ?_) (fun q => ?_)
        · replace h := h.1 q
          exact S_M_rule_78 hE _ _ _ h
        · replace h := h.2 q
          refine j_iload_n hE (by decide +kernel : decode cX11_rule 67 = .ok (.iload_n 1, 1)) rfl rfl ?_
          refine j_bipush hE (by decide +kernel : decode cX11_rule 68 = .ok (.bipush 99, 2)) (v := (99 : Int32)) (by decide) ?_
          refine j_icmp_eq hE (by decide +kernel : decode cX11_rule 70 = .ok (.if_icmp .eq 8, 3)) (tgt := 78) (by decide) (fun q => ?_) (fun q => ?_)
          · replace h := h.1 q
            exact S_M_rule_78 hE _ _ _ h
          · replace h := h.2 q
            refine j_aload_n hE (by decide +kernel : decode cX11_rule 73 = .ok (.aload_n 0, 1)) rfl rfl ?_
            obtain ⟨hk, h⟩ := h
            refine j_callV hE rfl cl_X11_313 cf_12 im_X11_bad se_X11_bad ⟨by omega, by omega⟩ (As := []) (rest := []) rfl rfl (Nat.le_of_ble_eq_true rfl) hk (by decide +kernel : decode cX11_rule 74 = .ok (.invokevirtual 313, 3)) (mt_M_bad _ _ _ h) ?_
            rintro _ g4 ⟨rfl, h⟩
            exact j_vret hE (by decide +kernel : decode cX11_rule 77 = .ok (.return_, 1)) ⟨rfl, h⟩
  · replace h := h.2 q
    exact j_vret hE (by decide +kernel : decode cX11_rule 33 = .ok (.return_, 1)) ⟨rfl, h⟩
set_option maxRecDepth 100000 in
def B_M_rule_0 (Γ : GAM) (K : GH → Prop) (th : Nat) (g : GH) : Prop :=
  Kd g th = 13 ∧ Sp_M_condition Γ th g (fun (g1 : GH) => Kd g1 th = 13 ∧ ((¬ ((Gi g1 1590 th) = (-1 : Int32)) → B_M_rule_25 Γ K th g1) ∧ ((Gi g1 1590 th) = (-1 : Int32) → Kd g1 th = 13 ∧ Sp_M_look Γ th g1 (fun (x3 : Int32) (g2 : GH) => ((x3 = (63 : Int32) → B_M_rule_25 Γ K th g2) ∧ (¬ (x3 = (63 : Int32)) → Kd g2 th = 13 ∧ Sp_M_bad Γ th g2 (fun (g4 : GH) => B_M_rule_25 Γ K th g4)))))))
set_option maxHeartbeats 4000000 in
set_option maxRecDepth 100000 in
theorem S_M_rule_0 {Γ : GAM} {E : EV} {K : GH → Prop} (hE : GE Γ E cX11_rule 2 RX11 none 91 17021 (fun r g' => r = none ∧ K g')) (th : Nat) (g : GH) (h : B_M_rule_0 Γ K th g) : JW Γ E 0 [some (.ref th), none] [] g := by
  unfold B_M_rule_0 at h
  refine j_aload_n hE (by decide +kernel : decode cX11_rule 0 = .ok (.aload_n 0, 1)) rfl rfl ?_
  obtain ⟨hk, h⟩ := h
  refine j_callV hE rfl cl_X11_352 cf_12 im_X11_condition se_X11_condition ⟨by omega, by omega⟩ (As := []) (rest := []) rfl rfl (Nat.le_of_ble_eq_true rfl) hk (by decide +kernel : decode cX11_rule 1 = .ok (.invokevirtual 352, 3)) (mt_M_condition _ _ _ h) ?_
  rintro _ g1 ⟨rfl, h⟩
  refine j_aload_n hE (by decide +kernel : decode cX11_rule 4 = .ok (.aload_n 0, 1)) rfl rfl ?_
  obtain ⟨hk, h⟩ := h
  refine j_getI hE fg_X11_304 hk (by decide +kernel : decode cX11_rule 5 = .ok (.getfield 304, 3)) ?_
  refine j_iconst hE (by decide +kernel : decode cX11_rule 8 = .ok (.iconst (-1), 1)) (v := (-1 : Int32)) (by decide) ?_
  refine j_icmp_ne hE (by decide +kernel : decode cX11_rule 9 = .ok (.if_icmp .ne 16, 3)) (tgt := 25) (by decide) (fun q => ?_) (fun q => ?_)
  · replace h := h.1 q
    exact S_M_rule_25 hE _ _ h
  · replace h := h.2 q
    refine j_aload_n hE (by decide +kernel : decode cX11_rule 12 = .ok (.aload_n 0, 1)) rfl rfl ?_
    obtain ⟨hk, h⟩ := h
    refine j_callV hE rfl cl_X11_316 cf_12 im_X11_look se_X11_look ⟨by omega, by omega⟩ (As := []) (rest := []) rfl rfl (Nat.le_of_ble_eq_true rfl) hk (by decide +kernel : decode cX11_rule 13 = .ok (.invokevirtual 316, 3)) (mt_M_look _ _ _ h) ?_
    rintro _ g2 ⟨x3, rfl, h⟩
    refine j_bipush hE (by decide +kernel : decode cX11_rule 16 = .ok (.bipush 63, 2)) (v := (63 : Int32)) (by decide) ?_
    refine j_icmp_eq hE (by decide +kernel : decode cX11_rule 18 = .ok (.if_icmp .eq 7, 3)) (tgt := 25) (by decide) (fun q => ?_) (fun q => ?_)
    · replace h := h.1 q
      exact S_M_rule_25 hE _ _ h
    · replace h := h.2 q
      refine j_aload_n hE (by decide +kernel : decode cX11_rule 21 = .ok (.aload_n 0, 1)) rfl rfl ?_
      obtain ⟨hk, h⟩ := h
      refine j_callV hE rfl cl_X11_313 cf_12 im_X11_bad se_X11_bad ⟨by omega, by omega⟩ (As := []) (rest := []) rfl rfl (Nat.le_of_ble_eq_true rfl) hk (by decide +kernel : decode cX11_rule 22 = .ok (.invokevirtual 313, 3)) (mt_M_bad _ _ _ h) ?_
      rintro _ g4 ⟨rfl, h⟩
      exact S_M_rule_25 hE _ _ h
set_option maxHeartbeats 4000000 in
set_option maxRecDepth 100000 in
theorem rl_M_rule {Γ : GAM} {l : Launch} {th : Nat} {g : GH} {K : GH → Prop} (h0 : B_M_rule_0 Γ K th g) : MetA Γ l yX11_rule cX11_rule 2 none 91 17021 [.ref th] g (fun r g' => r = none ∧ K g') := by
  refine MetA.introL (Lx := [some (.ref th), none]) (by decide) (Nat.le_of_ble_eq_true rfl) rfl rfl ?_
  intro E hEl hE hnm
  exact S_M_rule_0 hE th g h0
theorem mt_M_rule {Γ : GAM} {l : Launch} (th : Nat) (g : GH) (K : GH → Prop) (h : Sp_M_rule Γ th g K) : MetA Γ l yX11_rule cX11_rule 2 none 91 17021 [.ref th] g (fun r g' => r = none ∧ K g') := by
  obtain ⟨ma, s, p, sd, k, hI, hw, hP, hsl, hk, hK⟩ := h
  have hT := hw.len.2.2.2.2.2.2.2.2.1
  have hpl := hP.2.1
  refine rl_M_rule ?_
  unfold B_M_rule_0
  refine ⟨hI.1.1, ma, s, p, sd, hI, hw, hP, hsl, fun g1 hx1 hO1 => ?_⟩
  have hI1 := hI.x hx1 (by decide +kernel)
  have hkd1 := hI1.1.1
  have hf1 : FrX th [1589, 1590, 1591, 1592, 1593] [1583] g g1 := hx1.up (by decide) (by decide)
  have hO1' : PO th g1 s sd 0 88 (pCd (s_tap s) (pUn (s_tap s) 8) p) := hO1
  have hc := pCd_ok (pUn_ok (s_tap s) 8) p hpl
  have hbad : ∀ g2 e, FrX th [1589, 1590, 1591, 1592, 1593] [1583] g g2 → Kd g2 th = 13 → WR th g2 e 90 → pRu (s_tap s) p = .inl e → B_M_rule_25 Γ K th g2 := fun g2 e hf hkd he hr => by
    unfold B_M_rule_25
    refine ⟨hkd, fun z => absurd (he.1.symm.trans z) (nI_nm (by have := he.2.1; omega)), fun _ => hK g2 hf ?_⟩
    rw [hr]; exact he
  refine ⟨hkd1, fun u => ?_, fun u => ⟨hkd1, ?_⟩⟩
  · rcases hO1'.wr u with ⟨e, he⟩ | ⟨p2, w, he, hs, hW⟩
    · rw [he] at hO1'
      exact hbad g1 e hf1 hkd1 (WR.up hO1' (by omega)) (by unfold pRu; rw [he])
    · have hd := dg_n hs
      refine hbad g1 p2 hf1 hkd1 (hW.up (by omega)) ?_
      unfold pRu
      rw [he]
      simp only
      rw [skp_n hd.1, if_neg hd.2.2.2.2.2.2.2.2.2.2.1]
  · obtain ⟨p1, w1, he, hN⟩ := hO1'.nm u
    rw [he] at hc
    obtain ⟨c1, c2, c3, c4, c5⟩ := hc
    have g1' := skp_ge (s_tap s) p1
    have g2' := skp_le c2
    refine ⟨ma, s, p1, hI1, hw, hN.1, by omega, fun g2 hx2 ha2 => ?_⟩
    have hI2 := hI1.x hx2 (by decide +kernel)
    have hkd2 := hI2.1.1
    have hf2 : FrX th [1589, 1590, 1591, 1592, 1593] [1583] g g2 := hf1.tr (hx2.up (by decide) (by decide))
    have hN2 := hN.x hx2 ha2 g2'
    refine ⟨fun q => ?_, fun q => ⟨hkd2, hkd2, ?_⟩⟩
    · have hlt := chr_in (t := s_tap s) (p := skp (s_tap s) p1) (by rw [q]; decide)
      have g3' := skp_ge (s_tap s) (skp (s_tap s) p1 + 1)
      have g4' := skp_le (t := s_tap s) (p := skp (s_tap s) p1 + 1) (by omega)
      obtain ⟨q2, hq2⟩ : ∃ q2, skp (s_tap s) (skp (s_tap s) p1 + 1) = q2 := ⟨_, rfl⟩
      rw [hq2] at g3' g4'
      have hru : pRu (s_tap s) p = if chr (s_tap s) q2 = 118 then (match pNm (s_tap s) (q2 + 1) with
          | .inl e => .inl e
          | .inr (p3, w3) => .inr (p3, (w1, 118, w3))) else if chr (s_tap s) q2 = 99 then (match pSm (s_tap s) (pAt (s_tap s) 8) (q2 + 1) with
          | .inl e => .inl e
          | .inr (p3, w3) => .inr (p3, (w1, 99, w3))) else if chr (s_tap s) q2 = 103 ∨ chr (s_tap s) q2 = 119 then .inr (q2 + 1, (w1, chr (s_tap s) q2, [])) else .inl q2 := by
        unfold pRu
        rw [he]
        simp only
        rw [if_pos q, hq2]
        rfl
      unfold B_M_rule_25
      refine ⟨hkd2, fun _ => ⟨hkd2, hkd2, ?_⟩, fun z => absurd hN2.2.2.1 z⟩
      rintro g3 rfl
      have hx3 : FrX th [1589, 1590, 1591, 1592, 1593] [1583] g2 (sI g2 1589 th (Gi g2 1589 th + 1)) := FrX.sI (by decide)
      have hI3 := hI2.x hx3 (by decide +kernel)
      have hN3 := hN2.pos hlt
      refine ⟨hI3.1.1, ma, s, _, hI3, hw, hN3.1, by omega, fun g4 hx4 ha4 => ?_⟩
      rw [hq2] at ha4 ⊢
      have hI4 := hI3.x hx4 (by decide +kernel)
      have hkd4 := hI4.1.1
      have hf4 : FrX th [1589, 1590, 1591, 1592, 1593] [1583] g g4 := hf2.tr (hx3.tr (hx4.up (by decide) (by decide)))
      have hN4 := hN3.x hx4 ha4 g4'
      have hrm4 : Gi g4 1593 th = nI k := by rw [hx4.2.1 _ (by decide), Gi_sI, if_neg (fun z => absurd z.1 (by decide)), hx2.2.1 _ (by decide), hx1.2.1 _ (by decide), hk]
      have h78 : (chr (s_tap s) q2 = 103 ∨ chr (s_tap s) q2 = 119 ∨ chr (s_tap s) q2 = 118 ∨ chr (s_tap s) q2 = 99) → B_M_rule_78 Γ K th (chr (s_tap s) q2) g4 := fun hcs => by
        have hlt2 := chr_in (t := s_tap s) (p := q2) (fun z => by rw [z] at hcs; exact absurd hcs (by decide))
        unfold B_M_rule_78
        refine ⟨hkd4, hkd4, ?_⟩
        rintro g5 rfl
        have hx5 : FrX th [1589, 1590, 1591, 1592, 1593] [1583] g4 (sI g4 1589 th (Gi g4 1589 th + 1)) := FrX.sI (by decide)
        have hI5 := hI4.x hx5 (by decide +kernel)
        have hN5 := hN4.pos hlt2
        refine ⟨hI5.1.1, ma, s, _, hI5, hN5.2.2.2.2.2.1, by rw [List.length_append]; omega, fun g6 hg6 => ?_⟩
        have hx6 : FrX th [1589, 1590, 1591, 1592, 1593] [1583] (sI g4 1589 th (Gi g4 1589 th + 1)) g6 := by rw [hg6]; exact FrP.up (by decide) (by decide)
        have hI6 := hI5.x hx6 (by decide +kernel)
        have hN6 := hN5.say (c := 2)
        rw [← hg6] at hN6
        refine ⟨hI6.1.1, ma, s, _, hI6, hN6.2.2.2.2.2.1, by simp only [List.length_append, List.length_cons, List.length_nil]; omega, fun g7 hg7 => ?_⟩
        have hx7 : FrX th [1589, 1590, 1591, 1592, 1593] [1583] g6 g7 := by rw [hg7]; exact FrP.up (by decide) (by decide)
        have hI7 := hI6.x hx7 (by decide +kernel)
        have hkd7 := hI7.1.1
        have hN7 := hN6.say (c := chr (s_tap s) q2)
        rw [← hg7] at hN7
        have hf7 := hf4.tr (hx5.tr (hx6.tr hx7))
        have hrm7 : Gi g7 1593 th = nI k := by rw [hg7, hg6]; simp only [Gi_sI, Gi_sA]; simpa using hrm4
        have hrest : ∀ g8 r3 B, FrX th [1589, 1590, 1591, 1592] [1583] g7 g8 → PO th g8 s (sd ++ enC w1 ++ [2] ++ [chr (s_tap s) q2]) 0 B r3 → B ≤ 89 → (∀ p3 w3, r3 = .inr (p3, w3) → (enC w3).length + 2 * (q2 + 1) ≤ 2 * p3 ∧ p3 ≤ (s_tap s).length) → pRu (s_tap s) p = (match r3 with
            | .inl e => .inl e
            | .inr (p3, w3) => .inr (p3, (w1, chr (s_tap s) q2, w3))) → B_M_rule_121 Γ K th g8 := fun g8 r3 B hx8 hO8 hB hb8 hr8 => by
          have hI8 := hI7.x hx8 (by decide +kernel)
          have hrm8 : Gi g8 1593 th = nI k := by rw [PO.rs hx8]; exact hrm7
          have hf8 := hf7.tr (hx8.up (by decide) (by decide) : FrX th [1589, 1590, 1591, 1592, 1593] [1583] g7 g8)
          unfold B_M_rule_121
          obtain ⟨k1, k2, k3, k4⟩ := hO8.k (by omega) (fun p3 w3 hr => by
            have := hb8 p3 w3 hr
            simp only [List.length_append, List.length_cons, List.length_nil]; omega)
          refine ⟨hI8.1.1, ma, s, k1, hI8, k2, k3, fun g9 hg9 => ?_⟩
          have hx9 : FrX th [1589, 1590, 1591, 1592, 1593] [1583] g8 g9 := by rw [hg9]; exact FrP.up (by decide) (by decide)
          have hI9 := hI8.x hx9 (by decide +kernel)
          have hrm9 : Gi g9 1593 th = nI k := by rw [hg9]; simp only [Gi_sI, Gi_sA]; simpa using hrm8
          refine ⟨hI9.1.1, hI9.1.1, ?_⟩
          rintro g10 rfl
          refine hK _ (hf8.tr (hx9.tr (FrX.sI (by decide)))) ?_
          rw [hr8]
          cases r3 with
          | inl e =>
            have hW : WR th g9 e (B + 1) := by
              obtain ⟨h1, h2, a, kk, h3, h4, h5, h6⟩ := hO8
              have hkk : kk = k1 := (nj_eq (by omega) (by omega)).mp (h5.symm.trans k2)
              subst hkk
              rw [hg9]
              exact ⟨by simp [Gi_sI, Gi_sA, h1], h2, a, kk + 1, by simp [Gi_sI, Gi_sA, h3], by omega, by simp [Gi_sI], by omega⟩
            exact (hW.up (by omega)).rm
          | inr x =>
            obtain ⟨p3, w3⟩ := x
            rcases hO8 with hN8 | ⟨hs8, hW8⟩
            · have hkk : (sd ++ enC w1 ++ [2] ++ [chr (s_tap s) q2] ++ enC w3).length = k1 := by
                have := hb8 p3 w3 rfl
                exact (nj_eq (by simp only [List.length_append, List.length_cons, List.length_nil]; omega) (by omega)).mp (hN8.2.2.2.2.2.1.symm.trans k2)
              refine .inl ⟨?_, by rw [Gi_sI, if_pos ⟨rfl, rfl⟩, hrm9, nj_s]⟩
              have hN9 := hN8.say (c := 3)
              rw [hkk, ← hg9] at hN9
              have := hN9.rm (v := Gi g9 1593 th + 1)
              unfold enR
              simpa using this
            · refine .inr ⟨hs8, ?_⟩
              have hW : WR th g9 p3 (B + 1) := by
                obtain ⟨h1, h2, a, kk, h3, h4, h5, h6⟩ := hW8
                have hkk : kk = k1 := (nj_eq (by omega) (by omega)).mp (h5.symm.trans k2)
                subst hkk
                rw [hg9]
                exact ⟨by simp [Gi_sI, Gi_sA, h1], h2, a, kk + 1, by simp [Gi_sI, Gi_sA, h3], by omega, by simp [Gi_sI], by omega⟩
              exact (hW.up (by omega)).rm
        have hlen7 : (sd ++ enC w1 ++ [2] ++ [chr (s_tap s) q2]).length ≤ 2 * (q2 + 1) := by
          simp only [List.length_append, List.length_cons, List.length_nil]; omega
        refine ⟨fun n1 => ⟨fun n2 => ?_, fun n2 => ?_⟩, fun n1 => ?_⟩
        · have hcs2 : chr (s_tap s) q2 = 103 ∨ chr (s_tap s) q2 = 119 := by
            rcases hcs with z | z | z | z
            · exact .inl z
            · exact .inr z
            · exact absurd z n1
            · exact absurd z n2
          refine hrest g7 (.inr (q2 + 1, [])) 0 FrX.rf (.inl ?_) (by omega) (fun p3 w3 hr => ?_) ?_
          · have : (sd ++ enC w1 ++ [2] ++ [chr (s_tap s) q2]) ++ enC [] = sd ++ enC w1 ++ [2] ++ [chr (s_tap s) q2] := by unfold enC; simp
            rw [this]; exact hN7
          · cases hr
            unfold enC; simp only [List.flatMap_nil, List.length_nil]; omega
          · rw [hru, if_neg n1, if_neg n2, if_pos hcs2]
        · refine ⟨hkd7, ma, s, q2 + 1, _, hI7, hw, hN7, hlen7, fun g8 hx8 hO8 => ?_⟩
          have hok := pSm_ok (pAt_ok (s_tap s) 8) (q2 + 1) (by omega)
          refine hrest g8 _ 84 hx8 hO8 (by omega) (fun p3 w3 hr => ?_) ?_
          · simp only at hr
            rw [hr] at hok
            exact ⟨hok.2.2.2.1, hok.2.1⟩
          · rw [hru, if_neg n1, if_pos n2, n2]
        · refine ⟨hkd7, 0, ma, s, q2 + 1, _, hI7, hw, hN7, hlen7, fun g8 hx8 hO8 => ?_⟩
          have hok := pNm_ok (s_tap s) (q2 + 1) (by omega)
          refine hrest g8 _ 0 hx8 hO8 (by omega) (fun p3 w3 hr => ?_) ?_
          · rw [hr] at hok
            exact ⟨hok.2.2.2.1, hok.2.1⟩
          · rw [hru, if_pos n1, n1]
      refine ⟨fun z => h78 (.inl z), fun n1 => ⟨fun z => h78 (.inr (.inl z)), fun n2 => ⟨fun z => h78 (.inr (.inr (.inl z))), fun n3 => ⟨fun z => h78 (.inr (.inr (.inr z))), fun n4 => ⟨hkd4, hkd4, ?_⟩⟩⟩⟩⟩
      rintro g5 rfl
      refine hK _ (hf4.tr (FrX.sI (by decide))) ?_
      have hne : ¬ (chr (s_tap s) q2 = 103 ∨ chr (s_tap s) q2 = 119) := fun z => by
        rcases z with z | z
        · exact n1 z
        · exact n2 z
      rw [hru, if_neg n3, if_neg n4, if_neg hne]
      exact (hN4.bad hT (by rw [List.length_append]; omega)).up (by omega)
    · rintro g4 rfl
      refine hbad _ (skp (s_tap s) p1) (hf2.tr (FrX.sI (by decide))) hkd2 ((hN2.bad hT (by rw [List.length_append]; omega)).up (by omega)) ?_
      unfold pRu
      rw [he]
      simp only
      rw [if_neg q]
theorem pRs_u {t : List Int32} {f p : Nat} (hf : t.length ≤ f + p) (rs : List Rl) : pRs t f p rs = if chr t (skp t p) = 59 then (match pRu t (skp t p + 1) with
      | .inl e => .inl e
      | .inr (p2, r) => pRs t (f - 1) p2 (rs ++ [r])) else if skp t p < t.length then .inl (skp t p) else .inr rs := by
  cases f with
  | zero =>
    rw [skp_end (show t.length ≤ p by omega), chr_end (show t.length ≤ p by omega), if_neg (by decide)]
    unfold pRs
    rw [skp_end (show t.length ≤ p by omega)]
  | succ f => rfl
abbrev PRc : Type := Nat ⊕ (Nat × List Rl)
def pRf (t : List Int32) (f : Nat) (cur : PRc) : Nat ⊕ List Rl := match cur with
  | .inl e => .inl e
  | .inr (p, rs) => pRs t f p rs
def PLs (m : Nat) (g : GH) (s : ST) (r : PRc) : Prop := match r with
  | .inl e => WR m g e 90
  | .inr (p2, rs) => (PN m g s p2 (enL rs) 0 ∧ Gi g 1593 m = nI rs.length) ∨ (stk (s_tap s) p2 ∧ WR m g p2 90)
def pMc (t : List Int32) (r : PRc) : Nat := match r with
  | .inl _ => 0
  | .inr (p, _) => 1 + (t.length - p)
def OKc (t : List Int32) (r : PRc) : Prop := match r with
  | .inl e => e ≤ t.length
  | .inr (p, rs) => p ≤ t.length ∧ (enL rs).length ≤ 2 * p ∧ 1 ≤ rs.length ∧ rs.length ≤ p ∧ ∀ r ∈ rs, okRule r
def FR (m : Nat) (g : GH) (r : Nat ⊕ List Rl) : Prop := match r with
  | .inl e => Gi g 1590 m = nI e ∧ e ≤ 200
  | .inr rs => Gi g 1590 m = -1 ∧ Gi g 1592 m = nI (enL rs).length ∧ (∀ j v, (enL rs)[j]? = some v → Ia g 1583 m j = v) ∧ Gi g 1593 m = nI rs.length
def p_fault (s : ST) : Int32 := match pAll (s_tap s) with
  | .inl e => nI e
  | .inr _ => -1
theorem enL_app (a : List Rl) (r : Rl) : enL (a ++ [r]) = enL a ++ enR r := by unfold enL; rw [List.flatMap_append]; simp
/-- what all of a law's text keeps to -/
theorem pRs_ok {t : List Int32} (hT : t.length ≤ 200) : ∀ f p rs, OKc t (.inr (p, rs)) → ∀ x, pRs t f p rs = .inr x → (enL x).length ≤ 2 * t.length ∧ 1 ≤ x.length ∧ x.length ≤ t.length ∧ ∀ r ∈ x, okRule r := by
  intro f
  have hend : ∀ p (rs x : List Rl), OKc t (.inr (p, rs)) → rs = x → (enL x).length ≤ 2 * t.length ∧ 1 ≤ x.length ∧ x.length ≤ t.length ∧ ∀ r ∈ x, okRule r := fun p rs x h e => by
    subst e
    obtain ⟨h1, h2, h3, h4, h5⟩ := h
    exact ⟨by omega, h3, by omega, h5⟩
  induction f with
  | zero =>
    intro p rs h x hx
    unfold pRs at hx
    split at hx
    · cases hx
    · exact hend p rs x h (Sum.inr.inj hx)
  | succ f ih =>
    intro p rs h x hx
    unfold pRs at hx
    split at hx
    · rename_i hc
      obtain ⟨h1, h2, h3, h4, h5⟩ := id h
      have hlt := chr_in (t := t) (p := skp t p) (by rw [hc]; decide)
      have g1 := skp_ge t p
      have hr := pRu_ok hT (skp t p + 1) (by omega)
      cases hru : pRu t (skp t p + 1) with
      | inl e => rw [hru] at hx; cases hx
      | inr y =>
        obtain ⟨p2, r⟩ := y
        rw [hru] at hx hr
        obtain ⟨r1, r2, r3, r4, r5⟩ := hr
        refine ih p2 (rs ++ [r]) ⟨r2, ?_, by rw [List.length_append]; omega, by rw [List.length_append]; simp only [List.length_cons, List.length_nil]; omega, fun q hq => ?_⟩ x hx
        · rw [enL_app, List.length_append]; omega
        · rcases List.mem_append.mp hq with z | z
          · exact h5 q z
          · rw [List.mem_singleton.mp z]; exact r4
    · split at hx
      · cases hx
      · exact hend p rs x h (Sum.inr.inj hx)
theorem pAll_c {t : List Int32} (hT : t.length ≤ 200) {p1 : Nat} {r : Rl} (h : pRu t 0 = .inr (p1, r)) : OKc t (.inr (p1, [r])) := by
  have hr := pRu_ok hT 0 (Nat.zero_le _)
  rw [h] at hr
  obtain ⟨r1, r2, r3, r4, r5⟩ := hr
  refine ⟨r2, ?_, Nat.le_refl _, by simp only [List.length_cons, List.length_nil]; omega, fun q hq => ?_⟩
  · have : enL [r] = enR r := by unfold enL; simp
    rw [this]; omega
  · rw [List.mem_singleton.mp hq]; exact r4
theorem pAll_ok {t : List Int32} (hT : t.length ≤ 200) {x : List Rl} (h : pAll t = .inr x) : (enL x).length ≤ 2 * t.length ∧ 1 ≤ x.length ∧ x.length ≤ t.length ∧ ∀ r ∈ x, okRule r := by
  unfold pAll at h
  cases hru : pRu t 0 with
  | inl e => rw [hru] at h; cases h
  | inr y =>
    obtain ⟨p1, r⟩ := y
    rw [hru] at h
    exact pRs_ok hT _ _ _ (pAll_c hT hru) x h
theorem PN.fr {m : Nat} {g : GH} {s : ST} {p : Nat} {rs : List Rl} {dd : Nat} (h : PN m g s p (enL rs) dd) (hk : Gi g 1593 m = nI rs.length) : FR m g (.inr rs) := ⟨h.2.2.1, h.2.2.2.2.2.1, h.2.2.2.2.2.2, hk⟩
def Sp_M_fault (Γ : GAM) (m : Nat) (g : GH) (K : Int32 → GH → Prop) : Prop := ∃ ma s, RefI m ma g s ∧ WF s ∧ ∀ g', FrX m [1589, 1590, 1591, 1592, 1593] [1583] g g' → FR m g' (pAll (s_tap s)) → K (p_fault s) g'
-- the walk of M_fault
set_option maxRecDepth 100000 in
def B_M_fault_83 (Γ : GAM) (K29 : Nat → GH → Prop) (K : Int32 → GH → Prop) (l0 : Nat) (g : GH) : Prop :=
  Kd g l0 = 13 ∧ K (Gi g 1590 l0) g
set_option maxHeartbeats 4000000 in
set_option maxRecDepth 100000 in
theorem S_M_fault_83 {Γ : GAM} {E : EV} {K : Int32 → GH → Prop} (hE : GE Γ E cX11_fault 1 RX11 (some (.int)) 92 17042 (fun r g' => ∃ x, r = some (.int x) ∧ K x g')) {K29 : Nat → GH → Prop} (hK29 : ∀ (l0 : Nat) (g : GH), K29 l0 g → JW Γ E 29 [some (.ref l0)] [] g) (l0 : Nat) (g : GH) (h : B_M_fault_83 Γ K29 K l0 g) : JW Γ E 83 [some (.ref l0)] [] g := by
  unfold B_M_fault_83 at h
  refine j_aload_n hE (by decide +kernel : decode cX11_fault 83 = .ok (.aload_n 0, 1)) rfl rfl ?_
  obtain ⟨hk, h⟩ := h
  refine j_getI hE fg_X11_304 hk (by decide +kernel : decode cX11_fault 84 = .ok (.getfield 304, 3)) ?_
  exact j_iret hE (by decide +kernel : decode cX11_fault 87 = .ok (.ireturn, 1)) ⟨_, rfl, h⟩
set_option maxRecDepth 100000 in
def B_M_fault_63 (Γ : GAM) (K29 : Nat → GH → Prop) (K : Int32 → GH → Prop) (l0 : Nat) (g : GH) : Prop :=
  Kd g l0 = 13 ∧ ((¬ ((Gi g 1590 l0) = (-1 : Int32)) → B_M_fault_83 Γ K29 K l0 g) ∧ ((Gi g 1590 l0) = (-1 : Int32) → Kd g l0 = 13 ∧ Sp_M_look Γ l0 g (fun (x2 : Int32) (g1 : GH) => ((x2 = (-1 : Int32) → B_M_fault_83 Γ K29 K l0 g1) ∧ (¬ (x2 = (-1 : Int32)) → Kd g1 l0 = 13 ∧ Sp_M_bad Γ l0 g1 (fun (g3 : GH) => B_M_fault_83 Γ K29 K l0 g3))))))
set_option maxHeartbeats 4000000 in
set_option maxRecDepth 100000 in
theorem S_M_fault_63 {Γ : GAM} {E : EV} {K : Int32 → GH → Prop} (hE : GE Γ E cX11_fault 1 RX11 (some (.int)) 92 17042 (fun r g' => ∃ x, r = some (.int x) ∧ K x g')) {K29 : Nat → GH → Prop} (hK29 : ∀ (l0 : Nat) (g : GH), K29 l0 g → JW Γ E 29 [some (.ref l0)] [] g) (l0 : Nat) (g : GH) (h : B_M_fault_63 Γ K29 K l0 g) : JW Γ E 63 [some (.ref l0)] [] g := by
  unfold B_M_fault_63 at h
  refine j_aload_n hE (by decide +kernel : decode cX11_fault 63 = .ok (.aload_n 0, 1)) rfl rfl ?_
  obtain ⟨hk, h⟩ := h
  refine j_getI hE fg_X11_304 hk (by decide +kernel : decode cX11_fault 64 = .ok (.getfield 304, 3)) ?_
  refine j_iconst hE (by decide +kernel : decode cX11_fault 67 = .ok (.iconst (-1), 1)) (v := (-1 : Int32)) (by decide) ?_
  refine j_icmp_ne hE (by decide +kernel : decode cX11_fault 68 = .ok (.if_icmp .ne 15, 3)) (tgt := 83) (by decide) (fun q => ?_) (fun q => ?_)
  · replace h := h.1 q
    exact S_M_fault_83 hE hK29 _ _ h
  · replace h := h.2 q
    refine j_aload_n hE (by decide +kernel : decode cX11_fault 71 = .ok (.aload_n 0, 1)) rfl rfl ?_
    obtain ⟨hk, h⟩ := h
    refine j_callV hE rfl cl_X11_316 cf_12 im_X11_look se_X11_look ⟨by omega, by omega⟩ (As := []) (rest := []) rfl rfl (Nat.le_of_ble_eq_true rfl) hk (by decide +kernel : decode cX11_fault 72 = .ok (.invokevirtual 316, 3)) (mt_M_look _ _ _ h) ?_
    rintro _ g1 ⟨x2, rfl, h⟩
    refine j_iconst hE (by decide +kernel : decode cX11_fault 75 = .ok (.iconst (-1), 1)) (v := (-1 : Int32)) (by decide) ?_
    refine j_icmp_eq hE (by decide +kernel : decode cX11_fault 76 = .ok (.if_icmp .eq 7, 3)) (tgt := 83) (by decide) (fun q => ?_) (fun q => ?_)
    · replace h := h.1 q
      exact S_M_fault_83 hE hK29 _ _ h
    · replace h := h.2 q
      refine j_aload_n hE (by decide +kernel : decode cX11_fault 79 = .ok (.aload_n 0, 1)) rfl rfl ?_
      obtain ⟨hk, h⟩ := h
      refine j_callV hE rfl cl_X11_313 cf_12 im_X11_bad se_X11_bad ⟨by omega, by omega⟩ (As := []) (rest := []) rfl rfl (Nat.le_of_ble_eq_true rfl) hk (by decide +kernel : decode cX11_fault 80 = .ok (.invokevirtual 313, 3)) (mt_M_bad _ _ _ h) ?_
      rintro _ g3 ⟨rfl, h⟩
      exact S_M_fault_83 hE hK29 _ _ h
set_option maxRecDepth 100000 in
def B_M_fault_29 (Γ : GAM) (K29 : Nat → GH → Prop) (K : Int32 → GH → Prop) (l0 : Nat) (g : GH) : Prop :=
  Kd g l0 = 13 ∧ ((¬ ((Gi g 1590 l0) = (-1 : Int32)) → B_M_fault_63 Γ K29 K l0 g) ∧ ((Gi g 1590 l0) = (-1 : Int32) → Kd g l0 = 13 ∧ Sp_M_look Γ l0 g (fun (x2 : Int32) (g1 : GH) => ((¬ (x2 = (59 : Int32)) → B_M_fault_63 Γ K29 K l0 g1) ∧ (x2 = (59 : Int32) → Kd g1 l0 = 13 ∧ Kd g1 l0 = 13 ∧ ∀ g3 : GH, g3 = sI g1 1589 l0 ((Gi g1 1589 l0) + (1 : Int32)) → Kd g3 l0 = 13 ∧ Sp_M_rule Γ l0 g3 (fun (g4 : GH) => K29 l0 g4))))))
set_option maxHeartbeats 4000000 in
set_option maxRecDepth 100000 in
theorem S_M_fault_29 {Γ : GAM} {E : EV} {K : Int32 → GH → Prop} (hE : GE Γ E cX11_fault 1 RX11 (some (.int)) 92 17042 (fun r g' => ∃ x, r = some (.int x) ∧ K x g')) {K29 : Nat → GH → Prop} (hK29 : ∀ (l0 : Nat) (g : GH), K29 l0 g → JW Γ E 29 [some (.ref l0)] [] g) (l0 : Nat) (g : GH) (h : B_M_fault_29 Γ K29 K l0 g) : JW Γ E 29 [some (.ref l0)] [] g := by
  unfold B_M_fault_29 at h
  refine j_aload_n hE (by decide +kernel : decode cX11_fault 29 = .ok (.aload_n 0, 1)) rfl rfl ?_
  obtain ⟨hk, h⟩ := h
  refine j_getI hE fg_X11_304 hk (by decide +kernel : decode cX11_fault 30 = .ok (.getfield 304, 3)) ?_
  refine j_iconst hE (by decide +kernel : decode cX11_fault 33 = .ok (.iconst (-1), 1)) (v := (-1 : Int32)) (by decide) ?_
  refine j_icmp_ne hE (by decide +kernel : decode cX11_fault 34 = .ok (.if_icmp .ne 29, 3)) (tgt := 63) (by decide) (fun q => ?_) (fun q => ?_)
  · replace h := h.1 q
    exact S_M_fault_63 hE hK29 _ _ h
  · replace h := h.2 q
    refine j_aload_n hE (by decide +kernel : decode cX11_fault 37 = .ok (.aload_n 0, 1)) rfl rfl ?_
    obtain ⟨hk, h⟩ := h
    refine j_callV hE rfl cl_X11_316 cf_12 im_X11_look se_X11_look ⟨by omega, by omega⟩ (As := []) (rest := []) rfl rfl (Nat.le_of_ble_eq_true rfl) hk (by decide +kernel : decode cX11_fault 38 = .ok (.invokevirtual 316, 3)) (mt_M_look _ _ _ h) ?_
    rintro _ g1 ⟨x2, rfl, h⟩
    refine j_bipush hE (by decide +kernel : decode cX11_fault 41 = .ok (.bipush 59, 2)) (v := (59 : Int32)) (by decide) ?_
    refine j_icmp_ne hE (by decide +kernel : decode cX11_fault 43 = .ok (.if_icmp .ne 20, 3)) (tgt := 63) (by decide) (fun q => ?_) (fun q => ?_)
    · replace h := h.1 q
      exact S_M_fault_63 hE hK29 _ _ h
    · replace h := h.2 q
      refine j_aload_n hE (by decide +kernel : decode cX11_fault 46 = .ok (.aload_n 0, 1)) rfl rfl ?_
      refine j_dup hE (by decide +kernel : decode cX11_fault 47 = .ok (.dup, 1)) rfl ?_
      obtain ⟨hk, h⟩ := h
      refine j_getI hE fg_X11_301 hk (by decide +kernel : decode cX11_fault 48 = .ok (.getfield 301, 3)) ?_
      refine j_iconst hE (by decide +kernel : decode cX11_fault 51 = .ok (.iconst 1, 1)) (v := (1 : Int32)) (by decide) ?_
      refine j_iadd hE (by decide +kernel : decode cX11_fault 52 = .ok (.iadd, 1)) ?_
      obtain ⟨hk, h⟩ := h
      obtain ⟨g3, hg⟩ : ∃ z, z = sI g1 1589 l0 ((Gi g1 1589 l0) + (1 : Int32)) := ⟨_, rfl⟩; replace h := h g3 hg
      refine j_putI hE fa_X11_301 hk (fun q => by cases q) (by decide +kernel : decode cX11_fault 53 = .ok (.putfield 301, 3)) ?_
      rw [← hg]
      refine j_aload_n hE (by decide +kernel : decode cX11_fault 56 = .ok (.aload_n 0, 1)) rfl rfl ?_
      obtain ⟨hk, h⟩ := h
      refine j_callV hE rfl cl_X11_361 cf_12 im_X11_rule se_X11_rule ⟨by omega, by omega⟩ (As := []) (rest := []) rfl rfl (Nat.le_of_ble_eq_true rfl) hk (by decide +kernel : decode cX11_fault 57 = .ok (.invokevirtual 361, 3)) (mt_M_rule _ _ _ h) ?_
      rintro _ g4 ⟨rfl, h⟩
      refine j_goto hE (by decide +kernel : decode cX11_fault 60 = .ok (.goto (-31), 3)) (tgt := 29) (by decide) ?_
      exact hK29 _ _ h
set_option maxRecDepth 100000 in
def B_M_fault_0 (Γ : GAM) (K29 : Nat → GH → Prop) (K : Int32 → GH → Prop) (th : Nat) (g : GH) : Prop :=
  Kd g th = 13 ∧ ∀ g1 : GH, g1 = sI g 1589 th (0 : Int32) → Kd g1 th = 13 ∧ ∀ g2 : GH, g2 = sI g1 1590 th (-1 : Int32) → Kd g2 th = 13 ∧ ∀ g3 : GH, g3 = sI g2 1591 th (0 : Int32) → Kd g3 th = 13 ∧ ∀ g4 : GH, g4 = sI g3 1592 th (0 : Int32) → Kd g4 th = 13 ∧ ∀ g5 : GH, g5 = sI g4 1593 th (0 : Int32) → Kd g5 th = 13 ∧ Sp_M_rule Γ th g5 (fun (g6 : GH) => K29 th g6)
set_option maxHeartbeats 4000000 in
set_option maxRecDepth 100000 in
theorem S_M_fault_0 {Γ : GAM} {E : EV} {K : Int32 → GH → Prop} (hE : GE Γ E cX11_fault 1 RX11 (some (.int)) 92 17042 (fun r g' => ∃ x, r = some (.int x) ∧ K x g')) {K29 : Nat → GH → Prop} (hK29 : ∀ (l0 : Nat) (g : GH), K29 l0 g → JW Γ E 29 [some (.ref l0)] [] g) (th : Nat) (g : GH) (h : B_M_fault_0 Γ K29 K th g) : JW Γ E 0 [some (.ref th)] [] g := by
  unfold B_M_fault_0 at h
  refine j_aload_n hE (by decide +kernel : decode cX11_fault 0 = .ok (.aload_n 0, 1)) rfl rfl ?_
  refine j_iconst hE (by decide +kernel : decode cX11_fault 1 = .ok (.iconst 0, 1)) (v := (0 : Int32)) (by decide) ?_
  obtain ⟨hk, h⟩ := h
  obtain ⟨g1, hg⟩ : ∃ z, z = sI g 1589 th (0 : Int32) := ⟨_, rfl⟩; replace h := h g1 hg
  refine j_putI hE fa_X11_301 hk (fun q => by cases q) (by decide +kernel : decode cX11_fault 2 = .ok (.putfield 301, 3)) ?_
  rw [← hg]
  refine j_aload_n hE (by decide +kernel : decode cX11_fault 5 = .ok (.aload_n 0, 1)) rfl rfl ?_
  refine j_iconst hE (by decide +kernel : decode cX11_fault 6 = .ok (.iconst (-1), 1)) (v := (-1 : Int32)) (by decide) ?_
  obtain ⟨hk, h⟩ := h
  obtain ⟨g2, hg⟩ : ∃ z, z = sI g1 1590 th (-1 : Int32) := ⟨_, rfl⟩; replace h := h g2 hg
  refine j_putI hE fa_X11_304 hk (fun q => by cases q) (by decide +kernel : decode cX11_fault 7 = .ok (.putfield 304, 3)) ?_
  rw [← hg]
  refine j_aload_n hE (by decide +kernel : decode cX11_fault 10 = .ok (.aload_n 0, 1)) rfl rfl ?_
  refine j_iconst hE (by decide +kernel : decode cX11_fault 11 = .ok (.iconst 0, 1)) (v := (0 : Int32)) (by decide) ?_
  obtain ⟨hk, h⟩ := h
  obtain ⟨g3, hg⟩ : ∃ z, z = sI g2 1591 th (0 : Int32) := ⟨_, rfl⟩; replace h := h g3 hg
  refine j_putI hE fa_X11_310 hk (fun q => by cases q) (by decide +kernel : decode cX11_fault 12 = .ok (.putfield 310, 3)) ?_
  rw [← hg]
  refine j_aload_n hE (by decide +kernel : decode cX11_fault 15 = .ok (.aload_n 0, 1)) rfl rfl ?_
  refine j_iconst hE (by decide +kernel : decode cX11_fault 16 = .ok (.iconst 0, 1)) (v := (0 : Int32)) (by decide) ?_
  obtain ⟨hk, h⟩ := h
  obtain ⟨g4, hg⟩ : ∃ z, z = sI g3 1592 th (0 : Int32) := ⟨_, rfl⟩; replace h := h g4 hg
  refine j_putI hE fa_X11_307 hk (fun q => by cases q) (by decide +kernel : decode cX11_fault 17 = .ok (.putfield 307, 3)) ?_
  rw [← hg]
  refine j_aload_n hE (by decide +kernel : decode cX11_fault 20 = .ok (.aload_n 0, 1)) rfl rfl ?_
  refine j_iconst hE (by decide +kernel : decode cX11_fault 21 = .ok (.iconst 0, 1)) (v := (0 : Int32)) (by decide) ?_
  obtain ⟨hk, h⟩ := h
  obtain ⟨g5, hg⟩ : ∃ z, z = sI g4 1593 th (0 : Int32) := ⟨_, rfl⟩; replace h := h g5 hg
  refine j_putI hE fa_X11_358 hk (fun q => by cases q) (by decide +kernel : decode cX11_fault 22 = .ok (.putfield 358, 3)) ?_
  rw [← hg]
  refine j_aload_n hE (by decide +kernel : decode cX11_fault 25 = .ok (.aload_n 0, 1)) rfl rfl ?_
  obtain ⟨hk, h⟩ := h
  refine j_callV hE rfl cl_X11_361 cf_12 im_X11_rule se_X11_rule ⟨by omega, by omega⟩ (As := []) (rest := []) rfl rfl (Nat.le_of_ble_eq_true rfl) hk (by decide +kernel : decode cX11_fault 26 = .ok (.invokevirtual 361, 3)) (mt_M_rule _ _ _ h) ?_
  rintro _ g6 ⟨rfl, h⟩
  exact hK29 _ _ h
set_option maxHeartbeats 4000000 in
set_option maxRecDepth 100000 in
theorem rl_M_fault {Γ : GAM} {l : Launch} {th : Nat} {g : GH} {K : Int32 → GH → Prop} (I29 : Nat → Nat → GH → Prop) (hh29 : ∀ n (l0 : Nat) (g : GH), I29 n l0 g → B_M_fault_29 Γ (fun l0 g => ∃ m, m < n ∧ I29 m l0 g) K l0 g) (h0 : B_M_fault_0 Γ (fun l0 g => ∃ m, I29 m l0 g) K th g) : MetA Γ l yX11_fault cX11_fault 1 (some (.int)) 92 17042 [.ref th] g (fun r g' => ∃ x, r = some (.int x) ∧ K x g') := by
  refine MetA.introL (Lx := [some (.ref th)]) (by decide) (Nat.le_of_ble_eq_true rfl) rfl rfl ?_
  intro E hEl hE hnm
  have hall : ∀ n, (∀ (l0 : Nat) (g : GH), I29 n l0 g → JW Γ E 29 [some (.ref l0)] [] g) := by
    intro n
    induction n using Nat.strongRecOn with
    | ind n ih =>
      exact fun l0 g hi => S_M_fault_29 hE (fun l0 g hm => by obtain ⟨m, hm, h⟩ := hm; exact (ih m hm) l0 g h) l0 g (hh29 n l0 g hi)
  exact S_M_fault_0 hE (fun l0 g hm => by obtain ⟨m, h⟩ := hm; exact (hall m) l0 g h) th g h0
theorem mt_M_fault {Γ : GAM} {l : Launch} (th : Nat) (g : GH) (K : Int32 → GH → Prop) (h : Sp_M_fault Γ th g K) : MetA Γ l yX11_fault cX11_fault 1 (some (.int)) 92 17042 [.ref th] g (fun r g' => ∃ x, r = some (.int x) ∧ K x g') := by
  obtain ⟨ma, s, hI, hw, hK⟩ := h
  have hT := hw.len.2.2.2.2.2.2.2.2.1
  refine rl_M_fault (fun n l0 g' => th = l0 ∧ ∃ cur ff, FrX th [1589, 1590, 1591, 1592, 1593] [1583] g g' ∧ PLs th g' s cur ∧ OKc (s_tap s) cur ∧ n = pMc (s_tap s) cur ∧ (∀ p rs, cur = .inr (p, rs) → (s_tap s).length ≤ ff + p) ∧ pAll (s_tap s) = pRf (s_tap s) ff cur) ?_ ?_
  · rintro n l0 g' ⟨rfl, cur, ff, hfx, hO, hok, rfl, hff, hfin⟩
    have hI' := hI.x hfx (by decide +kernel)
    have hkd := hI'.1.1
    suffices H : ∀ (K29 : Nat → GH → Prop), (∀ g2 cur2 ff2, FrX th [1589, 1590, 1591, 1592, 1593] [1583] g g2 → PLs th g2 s cur2 → OKc (s_tap s) cur2 → pMc (s_tap s) cur2 < pMc (s_tap s) cur → (∀ p rs, cur2 = .inr (p, rs) → (s_tap s).length ≤ ff2 + p) → pAll (s_tap s) = pRf (s_tap s) ff2 cur2 → K29 th g2) → B_M_fault_29 Γ K29 K th g' from
      H _ (fun g2 cur2 ff2 h1 h2 h3 h4 h5 h6 => ⟨pMc (s_tap s) cur2, h4, rfl, cur2, ff2, h1, h2, h3, rfl, h5, h6⟩)
    intro K29 h29
    have hwr : ∀ g2 e, FrX th [1589, 1590, 1591, 1592, 1593] [1583] g g2 → Kd g2 th = 13 → Gi g2 1590 th = nI e → e ≤ 200 → pAll (s_tap s) = .inl e → B_M_fault_83 Γ K29 K th g2 := fun g2 e hf hk h1 h2 h3 => by
      unfold B_M_fault_83
      refine ⟨hk, ?_⟩
      have := hK g2 hf (by rw [h3]; exact ⟨h1, h2⟩)
      unfold p_fault at this
      rw [h3] at this
      rw [h1]
      exact this
    unfold B_M_fault_29
    refine ⟨hkd, fun u => ?_, fun u => ⟨hkd, ?_⟩⟩
    · unfold B_M_fault_63
      refine ⟨hkd, fun _ => ?_, fun z => absurd z u⟩
      cases cur with
      | inl e => exact hwr g' e hfx hkd hO.1 hO.2.1 hfin
      | inr x =>
        obtain ⟨p, rs⟩ := x
        rcases hO with ⟨hO, _⟩ | ⟨hs, hO⟩
        · exact absurd hO.2.2.1 u
        · have hd := dg_n hs
          refine hwr g' p hfx hkd hO.1 hO.2.1 ?_
          have hlt := chr_in hd.2.1
          rw [hfin]
          unfold pRf
          simp only
          rw [pRs_u (hff p rs rfl), skp_n hd.1, if_neg hd.2.2.2.2.2.2.2.2.2.2.2.1, if_pos hlt]
    · cases cur with
      | inl e => exact absurd (hO.1.symm.trans u) (nI_nm (by have := hO.2.1; omega))
      | inr x =>
        obtain ⟨p, rs⟩ := x
        have hN : PN th g' s p (enL rs) 0 ∧ Gi g' 1593 th = nI rs.length := by
          rcases hO with hO | ⟨hs, hO⟩
          · exact hO
          · exact absurd (hO.1.symm.trans u) (nI_nm (by have := hO.2.1; omega))
        obtain ⟨hN, hrm⟩ := hN
        obtain ⟨o1, o2, o3, o4, o5⟩ := id hok
        have hffp := hff p rs rfl
        have g1' := skp_ge (s_tap s) p
        have g2' := skp_le o1
        have hfin2 : pAll (s_tap s) = pRs (s_tap s) ff p rs := hfin
        rw [pRs_u hffp] at hfin2
        refine ⟨ma, s, p, hI', hw, hN.1, by omega, fun g1 hx1 ha1 => ?_⟩
        have hI1 := hI'.x hx1 (by decide +kernel)
        have hkd1 := hI1.1.1
        have hf1 : FrX th [1589, 1590, 1591, 1592, 1593] [1583] g g1 := hfx.tr (hx1.up (by decide) (by decide))
        have hN1 := hN.x hx1 ha1 g2'
        have hrm1 : Gi g1 1593 th = nI rs.length := by rw [hx1.2.1 _ (by decide)]; exact hrm
        refine ⟨fun q => ?_, fun q => ⟨hkd1, hkd1, ?_⟩⟩
        · rw [if_neg q] at hfin2
          unfold B_M_fault_63
          refine ⟨hkd1, fun z => absurd hN1.2.2.1 z, fun _ => ⟨hkd1, ma, s, _, hI1, hw, hN1.1, by omega, fun g3 hx3 ha3 => ?_⟩⟩
          rw [skp_i] at ha3 ⊢
          have hI3 := hI1.x hx3 (by decide +kernel)
          have hkd3 := hI3.1.1
          have hf3 : FrX th [1589, 1590, 1591, 1592, 1593] [1583] g g3 := hf1.tr (hx3.up (by decide) (by decide))
          have hN3 := hN1.x hx3 ha3 g2'
          refine ⟨fun z => ?_, fun z => ⟨hkd3, hkd3, ?_⟩⟩
          · have hnl : ¬ skp (s_tap s) p < (s_tap s).length := fun w => by
              have := hw.tap _ (List.mem_of_getElem? (chr_lt w))
              rw [z] at this
              exact absurd this.1 (by decide)
            rw [if_neg hnl] at hfin2
            unfold B_M_fault_83
            refine ⟨hkd3, ?_⟩
            have := hK g3 hf3 (by rw [hfin2]; exact hN3.fr (by rw [hx3.2.1 _ (by decide)]; exact hrm1))
            unfold p_fault at this
            rw [hfin2] at this
            rw [hN3.2.2.1]
            exact this
          · have hlt := chr_in z
            rw [if_pos hlt] at hfin2
            rintro g4 rfl
            have hW := hN3.bad hT (by omega)
            exact hwr _ _ (hf3.tr (FrX.sI (by decide))) hkd3 hW.1 hW.2.1 hfin2
        · rw [if_pos q] at hfin2
          have hlt := chr_in (t := s_tap s) (p := skp (s_tap s) p) (by rw [q]; decide)
          rintro g3 rfl
          have hx3 : FrX th [1589, 1590, 1591, 1592, 1593] [1583] g1 (sI g1 1589 th (Gi g1 1589 th + 1)) := FrX.sI (by decide)
          have hI3 := hI1.x hx3 (by decide +kernel)
          have hN3 := hN1.pos hlt
          refine ⟨hI3.1.1, ma, s, _, _, rs.length, hI3, hw, hN3, by omega, by rw [Gi_sI, if_neg (fun z => absurd z.1 (by decide))]; exact hrm1, fun g4 hx4 hO4 => ?_⟩
          have hru := pRu_ok hT (skp (s_tap s) p + 1) hlt
          cases hr : pRu (s_tap s) (skp (s_tap s) p + 1) with
          | inl e =>
            rw [hr] at hO4 hfin2 hru
            exact h29 g4 (.inl e) 0 (hf1.tr (hx3.tr hx4)) hO4 hru (by show 0 < 1 + _; omega) (fun p rs h => by cases h) hfin2
          | inr y =>
            obtain ⟨p2, r⟩ := y
            rw [hr] at hO4 hfin2 hru
            obtain ⟨r1, r2, r3, r4, r5⟩ := hru
            refine h29 g4 (.inr (p2, rs ++ [r])) (ff - 1) (hf1.tr (hx3.tr hx4)) ?_ ⟨r2, ?_, by rw [List.length_append]; omega, by rw [List.length_append]; simp only [List.length_cons, List.length_nil]; omega, fun q hq => ?_⟩ ?_ (fun p3 rs3 h => ?_) hfin2
            · rcases hO4 with ⟨a, b⟩ | a
              · refine .inl ⟨by rw [enL_app]; exact a, by rw [List.length_append]; exact b⟩
              · exact .inr a
            · rw [enL_app, List.length_append]; omega
            · rcases List.mem_append.mp hq with z | z
              · exact o5 q z
              · rw [List.mem_singleton.mp z]; exact r4
            · show 1 + ((s_tap s).length - p2) < 1 + ((s_tap s).length - p); omega
            · cases h; omega
  · unfold B_M_fault_0
    have hkd := hI.1.1
    refine ⟨hkd, ?_⟩
    rintro g1 rfl
    refine ⟨hkd, ?_⟩
    rintro g2 rfl
    refine ⟨hkd, ?_⟩
    rintro g3 rfl
    refine ⟨hkd, ?_⟩
    rintro g4 rfl
    refine ⟨hkd, ?_⟩
    intro g5 hg5
    have hx5 : FrX th [1589, 1590, 1591, 1592, 1593] [1583] g g5 := by
      rw [hg5]
      exact (FrX.sI (by decide)).tr ((FrX.sI (by decide)).tr ((FrX.sI (by decide)).tr ((FrX.sI (by decide)).tr (FrX.sI (by decide)))))
    have hI5 := hI.x hx5 (by decide +kernel)
    have hN5 : PN th g5 s 0 (enL []) 0 := by
      rw [hg5]
      exact ⟨by simp [Gi_sI, nj_0], Nat.zero_le _, by simp [Gi_sI], by simp [Gi_sI, nj_0], by omega, by simp [Gi_sI, nj_0, enL], fun j v hv => by simp [enL] at hv⟩
    have hrm5 : Gi g5 1593 th = nI 0 := by rw [hg5, Gi_sI, if_pos ⟨rfl, rfl⟩]; rfl
    refine ⟨hI5.1.1, ma, s, 0, enL [], 0, hI5, hw, hN5, by simp [enL], hrm5, fun g6 hx6 hO6 => ?_⟩
    cases hr : pRu (s_tap s) 0 with
    | inl e =>
      rw [hr] at hO6
      have hru := pRu_ok hT 0 (Nat.zero_le _)
      rw [hr] at hru
      exact ⟨_, rfl, .inl e, 0, hx5.tr hx6, hO6, hru, rfl, fun p rs h => (by cases h), by unfold pAll; rw [hr]; rfl⟩
    | inr y =>
      obtain ⟨p1, r⟩ := y
      rw [hr] at hO6
      refine ⟨_, rfl, .inr (p1, [r]), (s_tap s).length, hx5.tr hx6, ?_, pAll_c hT hr, rfl, fun p rs h => by omega, by unfold pAll; rw [hr]; rfl⟩
      rcases hO6 with ⟨a, b⟩ | a
      · refine .inl ⟨?_, b⟩
        have : enL [r] = enL [] ++ enR r := by unfold enL; simp
        rw [this]; exact a
      · exact .inr a
