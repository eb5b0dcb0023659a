/-! the class's face: what is counted -/
theorem sCn_val (s : ST) : ∀ k, k ≤ (s_vot s).length → ∀ e sh, (sCn s k).1 e = some sh → ∃ v, v < k ∧ sFG s (nI v) (s_now s) = some e ∧ sh = sShire s v (sCome s (nI e) (s_now s)).1 (s_now s) := by
  intro k
  induction k with
  | zero => intro _ e sh h; simp [sCn] at h
  | succ k ih =>
    intro hk e sh h
    have hst : sCn s (k + 1) = cnS s (sCn s k) k := fold_take _ _ _ (range_get (show k < (s_vot s).length by omega))
    rw [hst] at h
    unfold cnS at h
    cases hf : sFG s (nI k) (s_now s) with
    | none =>
      rw [hf] at h
      obtain ⟨v, h1, h2, h3⟩ := ih (by omega) e sh h
      exact ⟨v, by omega, h2, h3⟩
    | some e2 =>
      rw [hf] at h
      by_cases u : e = e2
      · simp only [if_pos u, Option.some.injEq] at h
        exact ⟨k, by omega, u ▸ hf, by rw [← h, u]⟩
      · simp only [if_neg u] at h
        obtain ⟨v, h1, h2, h3⟩ := ih (by omega) e sh h
        exact ⟨v, by omega, h2, h3⟩
theorem sCn_has (s : ST) {v e : Nat} (hf : sFG s (nI v) (s_now s) = some e) : ∀ k, v < k → k ≤ (s_vot s).length → cnT s k e = true := by
  intro k
  induction k with
  | zero => intro h; omega
  | succ k ih =>
    intro h hk
    have hst : sCn s (k + 1) = cnS s (sCn s k) k := fold_take _ _ _ (range_get (show k < (s_vot s).length by omega))
    unfold cnT
    rw [hst]
    unfold cnS
    by_cases z : v = k
    · subst z
      rw [hf]
      simp
    · have ih' := ih (by omega) (by omega)
      unfold cnT at ih'
      cases hg : sFG s (nI k) (s_now s) with
      | none => exact ih'
      | some e2 =>
        simp only
        split
        · rfl
        · exact ih'
theorem cnt_iff {s : ST} (hW : WF s) {e : Nat} {y : Em} (hy : (s_env s)[e]? = some y) : cnT s (s_vot s).length e = true ↔ sFG s y.1 (s_now s) = some e := by
  constructor
  · intro h
    obtain ⟨v, h1, h2⟩ := sCn_dom s _ (Nat.le_refl _) e h
    obtain ⟨_, ⟨y', hy', hv, _⟩, _⟩ := sFG_in h2
    rw [hy] at hy'; cases hy'
    rw [hv]; exact h2
  · intro h
    have hyw := (hW.env y (List.mem_of_getElem? hy)).1
    rw [(nj_of hyw.1).1] at h
    exact sCn_has s h _ hyw.2 (Nat.le_refl _)
theorem op_iff {s : ST} (hW : WF s) {e : Nat} {y : Em} {sh : Int32} (hy : (s_env s)[e]? = some y) : (sCn s (s_vot s).length).1 e = some sh ↔ cnT s (s_vot s).length e = true ∧ sShire s y.1.toNatClampNeg (sCome s (nI e) (s_now s)).1 (s_now s) = sh := by
  have hyw := (hW.env y (List.mem_of_getElem? hy)).1
  have hn := nj_of hyw.1
  have h60 := hW.len.1
  have hval : ∀ sh, (sCn s (s_vot s).length).1 e = some sh → sShire s y.1.toNatClampNeg (sCome s (nI e) (s_now s)).1 (s_now s) = sh := fun sh h => by
    obtain ⟨v, h1, h2, h3⟩ := sCn_val s _ (Nat.le_refl _) e sh h
    obtain ⟨_, ⟨y', hy', hv, _⟩, _⟩ := sFG_in h2
    rw [hy] at hy'; cases hy'
    rw [h3, hv, nj_cl (by omega)]
  constructor
  · intro h
    exact ⟨by unfold cnT; rw [h]; rfl, hval sh h⟩
  · rintro ⟨h1, h2⟩
    unfold cnT at h1
    obtain ⟨sh2, h3⟩ := Option.isSome_iff_exists.mp h1
    rw [h3, ← hval sh2 h3, h2]
theorem JA.cnt {Γ : GAM} {D : DIR} {s : ST} {g : GH} (h : JA D s (s_now s) (s_vot s).length g) (hP : PoI Γ D g s) (hW : WF s) {e x w : Nat} {y : Em} (hy : (s_env s)[e]? = some y) (hx : (d_es D)[e]? = some x) (hw : (d_vs D)[y.1.toNatClampNeg]? = some w) (hnum : Gi g 128 x = nI e) : (Gi g 140 x = 2 ∧ Gi g 1287 w = Gi g 128 x) ↔ cnT s (s_vot s).length e = true := by
  have hyw := (hW.env y (List.mem_of_getElem? hy)).1
  have hn := nj_of hyw.1
  have hel := (List.getElem?_eq_some_iff.mp hy).1
  have h200 := hW.len.2.2.1
  have hJ := h _ hyw.2
  have hfg := (hJ.1 w hw).2.2.2
  rw [← hn.1] at hfg
  rw [hfg, hnum, cnt_iff hW hy]
  constructor
  · rintro ⟨h1, h2⟩
    cases hf : sFG s y.1 (s_now s) with
    | none =>
      rw [hf] at h2
      exact absurd h2.symm (i32_m1 (nj_nneg (by omega)))
    | some a =>
      rw [hf] at h2
      have ha := (sFG_in hf).1
      rw [(nj_eq (by omega) (by omega)).mp (h2 : nI a = nI e)]
  · intro hf
    obtain ⟨_, ⟨y', hy', hv, ht⟩, hs⟩ := sFG_in hf
    rw [hy] at hy'; cases hy'
    rw [hf]
    exact ⟨(hJ.e hW hy hx ht).1.1.trans hs, rfl⟩
/-- asking an envelope whether it is counted -/
theorem PoI.cnt {Γ : GAM} {D : DIR} {s : ST} {g : GH} (hP : PoI Γ D g s) (hW : WF s) (hJ : JA D s (s_now s) (s_vot s).length g) {e x : Nat} (hx : (d_es D)[e]? = some x) {K : Int32 → GH → Prop} (hK : K (if cnT s (s_vot s).length e = true then 1 else 0) g) : Sp_En_isCounted Γ x g K := by
  obtain ⟨y, w, L, y1, w1, hE, -, -⟩ := hP.2.2.2.2.1.2.2 e x hx
  obtain ⟨⟨x1, x2⟩, ⟨w2, w3, w4⟩, ⟨hnum, _⟩, -⟩ := hE
  refine ⟨w, x2, w4, w3, ?_⟩
  have hi := hJ.cnt hP hW y1 hx w1 hnum
  by_cases z : cnT s (s_vot s).length e = true
  · rw [if_pos z] at hK
    rw [if_pos (hi.mpr z)]; exact hK
  · rw [if_neg z] at hK
    rw [if_neg (fun q => z (hi.mp q))]; exact hK
def sLk (s : ST) (k : Nat) : List Nat := ((List.range (s_env s).length).take k).filter (cnT s (s_vot s).length)
theorem sLk_s {s : ST} {k : Nat} (hk : k < (s_env s).length) : sLk s (k + 1) = if cnT s (s_vot s).length k = true then sLk s k ++ [k] else sLk s k := by
  unfold sLk
  rw [List.take_succ, range_get hk, List.filter_append]
  show _ ++ [k].filter _ = _
  rw [List.filter_cons]
  split
  · rfl
  · simp
theorem sLk_le (s : ST) (k : Nat) : (sLk s k).length ≤ k := by
  unfold sLk
  refine Nat.le_trans (List.length_filter_le _ _) ?_
  rw [List.length_take]; omega
def Sp_PV_layCounted (Γ : GAM) (x : Nat) (g : GH) (K : Int32 → GH → Prop) : Prop := ∃ C s, c_x C = x ∧ ClsI Γ C g s ∧ WF s ∧ JA (c_D C) s (s_now s) (s_vot s).length g ∧ ∀ g', FrX x [] [1417] g g' → (∀ i e, (sLo s)[i]? = some e → Ia g' 1417 x i = nI e) → K (nI (sLo s).length) g'
-- the walk of PV_layCounted
set_option maxRecDepth 100000 in
def B_PV_layCounted_63 (Γ : GAM) (K4 : Nat → Int32 → Int32 → GH → Prop) (K : Int32 → GH → Prop) (l1 : Int32) (g : GH) : Prop :=
  K l1 g
set_option maxHeartbeats 4000000 in
set_option maxRecDepth 100000 in
theorem S_PV_layCounted_63 {Γ : GAM} {E : EV} {K : Int32 → GH → Prop} (hE : GE Γ E cX10_layCounted 3 RX10 (some (.int)) 3 64 (fun r g' => ∃ x, r = some (.int x) ∧ K x g')) {K4 : Nat → Int32 → Int32 → GH → Prop} (hK4 : ∀ (l0 : Nat) (l1 : Int32) (l2 : Int32) (g : GH), K4 l0 l1 l2 g → JW Γ E 4 [some (.ref l0), some (.int l1), some (.int l2)] [] g) (l1 : Int32) (g : GH) (h : B_PV_layCounted_63 Γ K4 K l1 g) : JW Γ E 63 [none, some (.int l1), none] [] g := by
  unfold B_PV_layCounted_63 at h
  refine j_iload_n hE (by decide +kernel : decode cX10_layCounted 63 = .ok (.iload_n 1, 1)) rfl rfl ?_
  exact j_iret hE (by decide +kernel : decode cX10_layCounted 64 = .ok (.ireturn, 1)) ⟨_, rfl, h⟩
set_option maxRecDepth 100000 in
def B_PV_layCounted_57 (Γ : GAM) (K4 : Nat → Int32 → Int32 → GH → Prop) (K : Int32 → GH → Prop) (l0 : Nat) (l1 : Int32) (l2 : Int32) (g : GH) : Prop :=
  K4 l0 l1 (l2 + (1 : Int32)) g
set_option maxHeartbeats 4000000 in
set_option maxRecDepth 100000 in
theorem S_PV_layCounted_57 {Γ : GAM} {E : EV} {K : Int32 → GH → Prop} (hE : GE Γ E cX10_layCounted 3 RX10 (some (.int)) 3 64 (fun r g' => ∃ x, r = some (.int x) ∧ K x g')) {K4 : Nat → Int32 → Int32 → GH → Prop} (hK4 : ∀ (l0 : Nat) (l1 : Int32) (l2 : Int32) (g : GH), K4 l0 l1 l2 g → JW Γ E 4 [some (.ref l0), some (.int l1), some (.int l2)] [] g) (l0 : Nat) (l1 : Int32) (l2 : Int32) (g : GH) (h : B_PV_layCounted_57 Γ K4 K l0 l1 l2 g) : JW Γ E 57 [some (.ref l0), some (.int l1), some (.int l2)] [] g := by
  unfold B_PV_layCounted_57 at h
  refine j_iinc hE (by decide +kernel : decode cX10_layCounted 57 = .ok (.iinc 2 1, 3)) (v := (1 : Int32)) (by decide) rfl (Nat.le_of_ble_eq_true rfl) rfl ?_
  refine j_goto hE (by decide +kernel : decode cX10_layCounted 60 = .ok (.goto (-56), 3)) (tgt := 4) (by decide) ?_
  exact hK4 _ _ _ _ h
set_option maxRecDepth 100000 in
def B_PV_layCounted_4 (Γ : GAM) (K4 : Nat → Int32 → Int32 → GH → Prop) (K : Int32 → GH → Prop) (l0 : Nat) (l1 : Int32) (l2 : Int32) (g : GH) : Prop :=
  Kd g l0 = 12 ∧ ∃ a1 : Nat, Gr g 1410 l0 = some a1 ∧ Kd g a1 = 6 ∧ ∃ a2 : Nat, Gr g 641 a1 = some a2 ∧ Kd g a2 = 1 ∧ Sp_AL_size Γ a2 g (fun (x4 : Int32) (g3 : GH) => ((x4 ≤ l2 → B_PV_layCounted_63 Γ K4 K l1 g3) ∧ (¬ (x4 ≤ l2) → Kd g3 l0 = 12 ∧ ∃ a5 : Nat, Gr g3 1417 l0 = some a5 ∧ (20 ≤ Kd g3 a5 ∧ Kd g3 a5 < 24) ∧ (((Int32.ofNat (Ln g3 a5)) ≤ l1 → B_PV_layCounted_63 Γ K4 K l1 g3) ∧ (¬ ((Int32.ofNat (Ln g3 a5)) ≤ l1) → Kd g3 l0 = 12 ∧ ∃ a6 : Nat, Gr g3 1410 l0 = some a6 ∧ Kd g3 a6 = 6 ∧ ∃ a7 : Nat, Gr g3 641 a6 = some a7 ∧ Kd g3 a7 = 1 ∧ Sp_AL_get Γ a7 l2 g3 (fun (a9 : Nat) (g8 : GH) => Kd g8 a9 = 2 ∧ Kd g8 a9 = 2 ∧ Sp_En_isCounted Γ a9 g8 (fun (x11 : Int32) (g10 : GH) => ((x11 = 0 → B_PV_layCounted_57 Γ K4 K l0 l1 l2 g10) ∧ (¬ (x11 = 0) → Kd g10 l0 = 12 ∧ ∃ a12 : Nat, Gr g10 1417 l0 = some a12 ∧ Kd g10 a12 = 20 ∧ inB l1 (Ln g10 a12) ∧ ∀ g13 : GH, g13 = sA g10 (Co g10 a12) (Ow g10 a12) l1.toNatClampNeg l2 → B_PV_layCounted_57 Γ K4 K l0 (l1 + (1 : Int32)) l2 g13)))))))))
set_option maxHeartbeats 4000000 in
set_option maxRecDepth 100000 in
theorem S_PV_layCounted_4 {Γ : GAM} {E : EV} {K : Int32 → GH → Prop} (hE : GE Γ E cX10_layCounted 3 RX10 (some (.int)) 3 64 (fun r g' => ∃ x, r = some (.int x) ∧ K x g')) {K4 : Nat → Int32 → Int32 → GH → Prop} (hK4 : ∀ (l0 : Nat) (l1 : Int32) (l2 : Int32) (g : GH), K4 l0 l1 l2 g → JW Γ E 4 [some (.ref l0), some (.int l1), some (.int l2)] [] g) (l0 : Nat) (l1 : Int32) (l2 : Int32) (g : GH) (h : B_PV_layCounted_4 Γ K4 K l0 l1 l2 g) : JW Γ E 4 [some (.ref l0), some (.int l1), some (.int l2)] [] g := by
  unfold B_PV_layCounted_4 at h
  refine j_iload_n hE (by decide +kernel : decode cX10_layCounted 4 = .ok (.iload_n 2, 1)) rfl rfl ?_
  refine j_aload_n hE (by decide +kernel : decode cX10_layCounted 5 = .ok (.aload_n 0, 1)) rfl rfl ?_
  obtain ⟨hk, h⟩ := h
  obtain ⟨a1, ha, h⟩ := h
  refine j_getRn hE fg_X10_16 hk ha (by decide +kernel : decode cX10_layCounted 6 = .ok (.getfield 16, 3)) ?_
  obtain ⟨hk, h⟩ := h
  obtain ⟨a2, ha, h⟩ := h
  refine j_getRn hE fg_X10_124 hk ha (by decide +kernel : decode cX10_layCounted 9 = .ok (.getfield 124, 3)) ?_
  obtain ⟨hk, h⟩ := h
  refine j_callV hE rfl cl_X10_84 cf_0 im_Jx4a65c_size_8abf5 se_Jx4a65c_size_8abf5 ⟨by omega, by omega⟩ (As := []) (rest := [.int l2]) rfl rfl (Nat.le_of_ble_eq_true rfl) hk (by decide +kernel : decode cX10_layCounted 12 = .ok (.invokevirtual 84, 3)) (mt_AL_size _ _ _ h) ?_
  rintro _ g3 ⟨x4, rfl, h⟩
  refine j_icmp_ge hE (by decide +kernel : decode cX10_layCounted 15 = .ok (.if_icmp .ge 48, 3)) (tgt := 63) (by decide) (fun q => ?_) (fun q => ?_)
  · replace h := h.1 q
    refine j_weak [none, some (.int l1), none] ⟨rfl, trivial⟩ ?_
    exact S_PV_layCounted_63 hE hK4 _ _ h
  · replace h := h.2 q
    refine j_iload_n hE (by decide +kernel : decode cX10_layCounted 18 = .ok (.iload_n 1, 1)) rfl rfl ?_
    refine j_aload_n hE (by decide +kernel : decode cX10_layCounted 19 = .ok (.aload_n 0, 1)) rfl rfl ?_
    obtain ⟨hk, h⟩ := h
    obtain ⟨a5, ha, h⟩ := h
    refine j_getRn hE fg_X10_55 hk ha (by decide +kernel : decode cX10_layCounted 20 = .ok (.getfield 55, 3)) ?_
    obtain ⟨hk, h⟩ := h
    refine j_alen hE hk (by decide +kernel : decode cX10_layCounted 23 = .ok (.arraylength, 1)) ?_
    refine j_icmp_ge hE (by decide +kernel : decode cX10_layCounted 24 = .ok (.if_icmp .ge 39, 3)) (tgt := 63) (by decide) (fun q => ?_) (fun q => ?_)
    · replace h := h.1 q
      refine j_weak [none, some (.int l1), none] ⟨rfl, trivial⟩ ?_
      exact S_PV_layCounted_63 hE hK4 _ _ h
    · replace h := h.2 q
      refine j_aload_n hE (by decide +kernel : decode cX10_layCounted 27 = .ok (.aload_n 0, 1)) rfl rfl ?_
      obtain ⟨hk, h⟩ := h
      obtain ⟨a6, ha, h⟩ := h
      refine j_getRn hE fg_X10_16 hk ha (by decide +kernel : decode cX10_layCounted 28 = .ok (.getfield 16, 3)) ?_
      obtain ⟨hk, h⟩ := h
      obtain ⟨a7, ha, h⟩ := h
      refine j_getRn hE fg_X10_124 hk ha (by decide +kernel : decode cX10_layCounted 31 = .ok (.getfield 124, 3)) ?_
      refine j_iload_n hE (by decide +kernel : decode cX10_layCounted 34 = .ok (.iload_n 2, 1)) rfl rfl ?_
      obtain ⟨hk, h⟩ := h
      refine j_callV hE rfl cl_X10_147 cf_0 im_Jx4a65c_get_915e3 se_Jx4a65c_get_915e3 ⟨by omega, by omega⟩ (As := [.int l2]) (rest := []) rfl rfl (Nat.le_of_ble_eq_true rfl) hk (by decide +kernel : decode cX10_layCounted 35 = .ok (.invokevirtual 147, 3)) (mt_AL_get _ _ _ _ h) ?_
      rintro _ g8 ⟨a9, rfl, h⟩
      obtain ⟨hk, h⟩ := h
      refine j_cast hE cf_1 ck_X10_127 hk (by decide +kernel : decode cX10_layCounted 38 = .ok (.checkcast 127, 3)) ?_
      obtain ⟨hk, h⟩ := h
      refine j_callV hE rfl cl_X10_369 cf_1 im_X0_isCounted se_X0_isCounted ⟨by omega, by omega⟩ (As := []) (rest := []) rfl rfl (Nat.le_of_ble_eq_true rfl) hk (by decide +kernel : decode cX10_layCounted 41 = .ok (.invokevirtual 369, 3)) (mt_En_isCounted _ _ _ h) ?_
      rintro _ g10 ⟨x11, rfl, h⟩
      refine j_if_eq hE (by decide +kernel : decode cX10_layCounted 44 = .ok (.ifCond .eq 13, 3)) (tgt := 57) (by decide) (fun q => ?_) (fun q => ?_)
      · replace h := h.1 q
        exact S_PV_layCounted_57 hE hK4 _ _ _ _ h
      · replace h := h.2 q
        refine j_aload_n hE (by decide +kernel : decode cX10_layCounted 47 = .ok (.aload_n 0, 1)) rfl rfl ?_
        obtain ⟨hk, h⟩ := h
        obtain ⟨a12, ha, h⟩ := h
        refine j_getRn hE fg_X10_55 hk ha (by decide +kernel : decode cX10_layCounted 48 = .ok (.getfield 55, 3)) ?_
        refine j_iload_n hE (by decide +kernel : decode cX10_layCounted 51 = .ok (.iload_n 1, 1)) rfl rfl ?_
        refine j_iload_n hE (by decide +kernel : decode cX10_layCounted 52 = .ok (.iload_n 2, 1)) rfl rfl ?_
        obtain ⟨hk, hb, h⟩ := h
        obtain ⟨g13, hg⟩ : ∃ z, z = sA g10 (Co g10 a12) (Ow g10 a12) l1.toNatClampNeg l2 := ⟨_, rfl⟩; replace h := h g13 hg
        refine j_iast hE hk hb (by decide +kernel : decode cX10_layCounted 53 = .ok (.iastore, 1)) ?_
        rw [← hg]
        refine j_iinc hE (by decide +kernel : decode cX10_layCounted 54 = .ok (.iinc 1 1, 3)) (v := (1 : Int32)) (by decide) rfl (Nat.le_of_ble_eq_true rfl) rfl ?_
        exact S_PV_layCounted_57 hE hK4 _ _ _ _ h
set_option maxRecDepth 100000 in
def B_PV_layCounted_0 (Γ : GAM) (K4 : Nat → Int32 → Int32 → GH → Prop) (K : Int32 → GH → Prop) (th : Nat) (g : GH) : Prop :=
  K4 th (0 : Int32) (0 : Int32) g
set_option maxHeartbeats 4000000 in
set_option maxRecDepth 100000 in
theorem S_PV_layCounted_0 {Γ : GAM} {E : EV} {K : Int32 → GH → Prop} (hE : GE Γ E cX10_layCounted 3 RX10 (some (.int)) 3 64 (fun r g' => ∃ x, r = some (.int x) ∧ K x g')) {K4 : Nat → Int32 → Int32 → GH → Prop} (hK4 : ∀ (l0 : Nat) (l1 : Int32) (l2 : Int32) (g : GH), K4 l0 l1 l2 g → JW Γ E 4 [some (.ref l0), some (.int l1), some (.int l2)] [] g) (th : Nat) (g : GH) (h : B_PV_layCounted_0 Γ K4 K th g) : JW Γ E 0 [some (.ref th), none, none] [] g := by
  unfold B_PV_layCounted_0 at h
  refine j_iconst hE (by decide +kernel : decode cX10_layCounted 0 = .ok (.iconst 0, 1)) (v := (0 : Int32)) (by decide) ?_
  refine j_istore_n hE (by decide +kernel : decode cX10_layCounted 1 = .ok (.istore_n 1, 1)) rfl (Nat.le_of_ble_eq_true rfl) rfl ?_
  refine j_iconst hE (by decide +kernel : decode cX10_layCounted 2 = .ok (.iconst 0, 1)) (v := (0 : Int32)) (by decide) ?_
  refine j_istore_n hE (by decide +kernel : decode cX10_layCounted 3 = .ok (.istore_n 2, 1)) rfl (Nat.le_of_ble_eq_true rfl) rfl ?_
  exact hK4 _ _ _ _ h
set_option maxHeartbeats 4000000 in
set_option maxRecDepth 100000 in
theorem rl_PV_layCounted {Γ : GAM} {l : Launch} {th : Nat} {g : GH} {K : Int32 → GH → Prop} (I4 : Nat → Nat → Int32 → Int32 → GH → Prop) (hh4 : ∀ n (l0 : Nat) (l1 : Int32) (l2 : Int32) (g : GH), I4 n l0 l1 l2 g → B_PV_layCounted_4 Γ (fun l0 l1 l2 g => ∃ m, m < n ∧ I4 m l0 l1 l2 g) K l0 l1 l2 g) (h0 : B_PV_layCounted_0 Γ (fun l0 l1 l2 g => ∃ m, I4 m l0 l1 l2 g) K th g) : MetA Γ l yX10_layCounted cX10_layCounted 3 (some (.int)) 3 64 [.ref th] g (fun r g' => ∃ x, r = some (.int x) ∧ K x g') := by
  refine MetA.introL (Lx := [some (.ref th), none, none]) (by decide) (Nat.le_of_ble_eq_true rfl) rfl rfl ?_
  intro E hEl hE hnm
  have hall : ∀ n, (∀ (l0 : Nat) (l1 : Int32) (l2 : Int32) (g : GH), I4 n l0 l1 l2 g → JW Γ E 4 [some (.ref l0), some (.int l1), some (.int l2)] [] g) := by
    intro n
    induction n using Nat.strongRecOn with
    | ind n ih =>
      exact fun l0 l1 l2 g hi => S_PV_layCounted_4 hE (fun l0 l1 l2 g hm => by obtain ⟨m, hm, h⟩ := hm; exact (ih m hm) l0 l1 l2 g h) l0 l1 l2 g (hh4 n l0 l1 l2 g hi)
  exact S_PV_layCounted_0 hE (fun l0 l1 l2 g hm => by obtain ⟨m, h⟩ := hm; exact (hall m) l0 l1 l2 g h) th g h0
theorem mt_PV_layCounted {Γ : GAM} {l : Launch} (th : Nat) (g : GH) (K : Int32 → GH → Prop) (h : Sp_PV_layCounted Γ th g K) : MetA Γ l yX10_layCounted cX10_layCounted 3 (some (.int)) 3 64 [.ref th] g (fun r g' => ∃ x, r = some (.int x) ∧ K x g') := by
  obtain ⟨C, s, rfl, hI, hW, hJ, hK⟩ := h
  have he := hI.en
  have hlen := hW.len
  refine rl_PV_layCounted (fun n l0 l1 l2 g' => c_x C = l0 ∧ ∃ k, k ≤ (s_env s).length ∧ n = (s_env s).length - k ∧ l2 = nI k ∧ l1 = nI (sLk s k).length ∧ FrX (c_x C) [] [1417] g g' ∧ ∀ i e, (sLk s k)[i]? = some e → Ia g' 1417 (c_x C) i = nI e) ?_ ⟨_, rfl, 0, Nat.zero_le _, rfl, nj_0, rfl, FrX.rf, fun i e hi => by simp [sLk] at hi⟩
  rintro n l0 l1 l2 g' ⟨rfl, k, hk, rfl, rfl, rfl, hx, hrow⟩
  have hI' : ClsI Γ C g' s := hI.fr0 (hx.fr (als := []) he) (fun f hf z => by cases z) (by decide)
  have hP' := hI'.2.2.2.2.2.2.1
  obtain ⟨hkd, ⟨h1, h2⟩, -⟩ := hI'.pk
  obtain ⟨⟨-, z2, z3, z4⟩, -⟩ := hP'.sz
  obtain ⟨a, a1, a2, a3, a4, a5⟩ := hI'.1.2.2.2.2.2.e
  have hle := sLk_le s k
  have hgi : Gi g' = Gi g := by
    funext f b
    by_cases q : b = c_x C
    · rw [q]; exact hx.2.1 f (by simp)
    · exact hx.1.1 f b q
  have hJ' : JA (c_D C) s (s_now s) (s_vot s).length g' := fun v hv => by
    obtain ⟨j1, j2⟩ := hJ v hv
    refine ⟨fun w hw => by rw [hgi]; exact j1 w hw, fun e y x he' hy' hx' => (j2 e y x he' hy' hx').sam (hx.sam (fun q => ?_))⟩
    obtain ⟨_, _, _, _, _, hE, _⟩ := hI.2.2.2.2.2.2.1.2.2.2.2.1.2.2 e x hx'
    have h12 := hI.1.1.2
    have hk2 := hE.1.2
    rw [q] at hk2; omega
  suffices H : ∀ (K4 : Nat → Int32 → Int32 → GH → Prop), (∀ g2, k < (s_env s).length → FrX (c_x C) [] [1417] g g2 → (∀ i e, (sLk s (k + 1))[i]? = some e → Ia g2 1417 (c_x C) i = nI e) → K4 (c_x C) (nI (sLk s (k + 1)).length) (nI (k + 1)) g2) → B_PV_layCounted_4 Γ K4 K (c_x C) (nI (sLk s k).length) (nI k) g' from
    H _ (fun g2 hlt h1 h2 => ⟨(s_env s).length - (k + 1), by omega, rfl, k + 1, hlt, rfl, rfl, rfl, h1, h2⟩)
  intro K4 hn
  unfold B_PV_layCounted_4 B_PV_layCounted_63 B_PV_layCounted_57
  refine ⟨hkd, _, h1, h2, _, z2, z3, hP'.esz ?_⟩
  rw [nj_le (by omega) (by omega)]
  refine ⟨fun u => ?_, fun u => ⟨hkd, a, a1, ⟨by omega, by omega⟩, ?_⟩⟩
  · have e1 : sLk s k = sLo s := by
      unfold sLk sLo
      rw [List.take_of_length_le (by simp; exact u)]
    rw [e1] at hrow ⊢
    exact hK g' hx hrow
  · have hlt : k < (s_env s).length := by omega
    have hof : Int32.ofNat (Ln g' a) = nI 200 := by rw [a5]; rfl
    rw [hof, nj_le (by omega) (by omega), nj_s]
    refine ⟨fun u2 => absurd u2 (by omega), fun _ => ⟨hkd, _, h1, h2, _, z2, z3, hP'.eget hlt (fun x hx2 hE => ?_)⟩⟩
    obtain ⟨_, _, _, _, _, hEB, _⟩ := id hE
    refine ⟨hEB.1.2, hEB.1.2, hP'.cnt hW hJ' hx2 ?_⟩
    have hs := sLk_s hlt
    refine pv_ite (fun u3 => ?_) (fun u3 => ⟨hkd, a, a1, a2, by rw [a5]; exact inB_nI (by omega) (by omega), ?_⟩)
    · rw [if_neg u3] at hs
      have := hn g' hlt hx (by rw [hs]; exact hrow)
      rw [hs] at this; exact this
    · rw [a3, a4, nj_cl (by omega)]
      rintro _ rfl
      rw [if_pos u3] at hs
      have := hn _ hlt (hx.tr (FrX.sA (m := c_x C) (c := 1417) (i := (sLk s k).length) (v := nI k) (by decide))) (fun i e hi => ?_)
      · rw [hs, List.length_append] at this
        rw [nj_s]; exact this
      · rw [hs, List.getElem?_append] at hi
        rw [Ia_sA]
        split at hi
        · rw [if_neg (fun q => by omega)]; exact hrow i e hi
        · rename_i hge
          have hj := (List.getElem?_eq_some_iff.mp hi).1
          simp only [List.length_cons, List.length_nil] at hj
          have e0 : i = (sLk s k).length := by omega
          rw [e0, Nat.sub_self] at hi
          simp at hi
          rw [if_pos ⟨rfl, rfl, e0⟩, hi]
theorem hsh_m1 {s : ST} (hW : WF s) (e : Nat) : hsh s e = -1 ↔ s_hof s e = 0 := by
  unfold hsh
  by_cases z : s_hof s e = 0
  · rw [if_pos z]; exact ⟨fun _ => z, fun _ => rfl⟩
  · rw [if_neg z]
    refine ⟨fun h => ?_, fun h => absurd h z⟩
    obtain ⟨y, hy⟩ := get_lt (show s_hof s e - 1 < (s_hea s).length by have := (hW.hof e).1; omega)
    rw [hy] at h
    exact absurd h (i32_m1 (hW.hea y (List.mem_of_getElem? hy)).1.1)
def Sp_PV_manyWrong (Γ : GAM) (x : Nat) (g : GH) (K : Int32 → GH → Prop) : Prop := ∃ C s, c_x C = x ∧ ClsI Γ C g s ∧ WF s ∧ JA (c_D C) s (s_now s) (s_vot s).length g ∧ K (ctQ s (s_env s).length) g
-- the walk of PV_manyWrong
set_option maxRecDepth 100000 in
def B_PV_manyWrong_51 (Γ : GAM) (K4 : Nat → Int32 → Int32 → GH → Prop) (K : Int32 → GH → Prop) (l0 : Nat) (l1 : Int32) (l2 : Int32) (g : GH) : Prop :=
  K4 l0 l1 (l2 + (1 : Int32)) g
set_option maxHeartbeats 4000000 in
set_option maxRecDepth 100000 in
theorem S_PV_manyWrong_51 {Γ : GAM} {E : EV} {K : Int32 → GH → Prop} (hE : GE Γ E cX10_manyWrong 4 RX10 (some (.int)) 3 64 (fun r g' => ∃ x, r = some (.int x) ∧ K x g')) {K4 : Nat → Int32 → Int32 → GH → Prop} (hK4 : ∀ (l0 : Nat) (l1 : Int32) (l2 : Int32) (g : GH), K4 l0 l1 l2 g → JW Γ E 4 [some (.ref l0), some (.int l1), some (.int l2), none] [] g) (l0 : Nat) (l1 : Int32) (l2 : Int32) (g : GH) (h : B_PV_manyWrong_51 Γ K4 K l0 l1 l2 g) : JW Γ E 51 [some (.ref l0), some (.int l1), some (.int l2), none] [] g := by
  unfold B_PV_manyWrong_51 at h
  refine j_iinc hE (by decide +kernel : decode cX10_manyWrong 51 = .ok (.iinc 2 1, 3)) (v := (1 : Int32)) (by decide) rfl (Nat.le_of_ble_eq_true rfl) rfl ?_
  refine j_goto hE (by decide +kernel : decode cX10_manyWrong 54 = .ok (.goto (-50), 3)) (tgt := 4) (by decide) ?_
  exact hK4 _ _ _ _ h
set_option maxRecDepth 100000 in
def B_PV_manyWrong_4 (Γ : GAM) (K4 : Nat → Int32 → Int32 → GH → Prop) (K : Int32 → GH → Prop) (l0 : Nat) (l1 : Int32) (l2 : Int32) (g : GH) : Prop :=
  Kd g l0 = 12 ∧ ∃ a1 : Nat, Gr g 1410 l0 = some a1 ∧ Kd g a1 = 6 ∧ ∃ a2 : Nat, Gr g 641 a1 = some a2 ∧ Kd g a2 = 1 ∧ Sp_AL_size Γ a2 g (fun (x4 : Int32) (g3 : GH) => ((x4 ≤ l2 → K l1 g3) ∧ (¬ (x4 ≤ l2) → Kd g3 l0 = 12 ∧ ∃ a5 : Nat, Gr g3 1410 l0 = some a5 ∧ Kd g3 a5 = 6 ∧ ∃ a6 : Nat, Gr g3 641 a5 = some a6 ∧ Kd g3 a6 = 1 ∧ Sp_AL_get Γ a6 l2 g3 (fun (a8 : Nat) (g7 : GH) => Kd g7 a8 = 2 ∧ Kd g7 a8 = 2 ∧ (((Gi g7 134 a8) = (-1 : Int32) → B_PV_manyWrong_51 Γ K4 K l0 l1 l2 g7) ∧ (¬ ((Gi g7 134 a8) = (-1 : Int32)) → Kd g7 a8 = 2 ∧ Sp_En_isCounted Γ a8 g7 (fun (x10 : Int32) (g9 : GH) => ((¬ (x10 = 0) → B_PV_manyWrong_51 Γ K4 K l0 l1 l2 g9) ∧ (x10 = 0 → B_PV_manyWrong_51 Γ K4 K l0 (l1 + (1 : Int32)) l2 g9)))))))))
set_option maxHeartbeats 4000000 in
set_option maxRecDepth 100000 in
theorem S_PV_manyWrong_4 {Γ : GAM} {E : EV} {K : Int32 → GH → Prop} (hE : GE Γ E cX10_manyWrong 4 RX10 (some (.int)) 3 64 (fun r g' => ∃ x, r = some (.int x) ∧ K x g')) {K4 : Nat → Int32 → Int32 → GH → Prop} (hK4 : ∀ (l0 : Nat) (l1 : Int32) (l2 : Int32) (g : GH), K4 l0 l1 l2 g → JW Γ E 4 [some (.ref l0), some (.int l1), some (.int l2), none] [] g) (l0 : Nat) (l1 : Int32) (l2 : Int32) (g : GH) (h : B_PV_manyWrong_4 Γ K4 K l0 l1 l2 g) : JW Γ E 4 [some (.ref l0), some (.int l1), some (.int l2), none] [] g := by
  unfold B_PV_manyWrong_4 at h
  refine j_iload_n hE (by decide +kernel : decode cX10_manyWrong 4 = .ok (.iload_n 2, 1)) rfl rfl ?_
  refine j_aload_n hE (by decide +kernel : decode cX10_manyWrong 5 = .ok (.aload_n 0, 1)) rfl rfl ?_
  obtain ⟨hk, h⟩ := h
  obtain ⟨a1, ha, h⟩ := h
  refine j_getRn hE fg_X10_16 hk ha (by decide +kernel : decode cX10_manyWrong 6 = .ok (.getfield 16, 3)) ?_
  obtain ⟨hk, h⟩ := h
  obtain ⟨a2, ha, h⟩ := h
  refine j_getRn hE fg_X10_124 hk ha (by decide +kernel : decode cX10_manyWrong 9 = .ok (.getfield 124, 3)) ?_
  obtain ⟨hk, h⟩ := h
  refine j_callV hE rfl cl_X10_84 cf_0 im_Jx4a65c_size_8abf5 se_Jx4a65c_size_8abf5 ⟨by omega, by omega⟩ (As := []) (rest := [.int l2]) rfl rfl (Nat.le_of_ble_eq_true rfl) hk (by decide +kernel : decode cX10_manyWrong 12 = .ok (.invokevirtual 84, 3)) (mt_AL_size _ _ _ h) ?_
  rintro _ g3 ⟨x4, rfl, h⟩
  refine j_icmp_ge hE (by decide +kernel : decode cX10_manyWrong 15 = .ok (.if_icmp .ge 42, 3)) (tgt := 57) (by decide) (fun q => ?_) (fun q => ?_)
  · replace h := h.1 q
    refine j_iload_n hE (by decide +kernel : decode cX10_manyWrong 57 = .ok (.iload_n 1, 1)) rfl rfl ?_
    exact j_iret hE (by decide +kernel : decode cX10_manyWrong 58 = .ok (.ireturn, 1)) ⟨_, rfl, h⟩
  · replace h := h.2 q
    refine j_aload_n hE (by decide +kernel : decode cX10_manyWrong 18 = .ok (.aload_n 0, 1)) rfl rfl ?_
    obtain ⟨hk, h⟩ := h
    obtain ⟨a5, ha, h⟩ := h
    refine j_getRn hE fg_X10_16 hk ha (by decide +kernel : decode cX10_manyWrong 19 = .ok (.getfield 16, 3)) ?_
    obtain ⟨hk, h⟩ := h
    obtain ⟨a6, ha, h⟩ := h
    refine j_getRn hE fg_X10_124 hk ha (by decide +kernel : decode cX10_manyWrong 22 = .ok (.getfield 124, 3)) ?_
    refine j_iload_n hE (by decide +kernel : decode cX10_manyWrong 25 = .ok (.iload_n 2, 1)) rfl rfl ?_
    obtain ⟨hk, h⟩ := h
    refine j_callV hE rfl cl_X10_147 cf_0 im_Jx4a65c_get_915e3 se_Jx4a65c_get_915e3 ⟨by omega, by omega⟩ (As := [.int l2]) (rest := []) rfl rfl (Nat.le_of_ble_eq_true rfl) hk (by decide +kernel : decode cX10_manyWrong 26 = .ok (.invokevirtual 147, 3)) (mt_AL_get _ _ _ _ h) ?_
    rintro _ g7 ⟨a8, rfl, h⟩
    obtain ⟨hk, h⟩ := h
    refine j_cast hE cf_1 ck_X10_127 hk (by decide +kernel : decode cX10_manyWrong 29 = .ok (.checkcast 127, 3)) ?_
    refine j_astore_n hE (by decide +kernel : decode cX10_manyWrong 32 = .ok (.astore_n 3, 1)) rfl (Nat.le_of_ble_eq_true rfl) rfl ?_
    refine j_aload_n hE (by decide +kernel : decode cX10_manyWrong 33 = .ok (.aload_n 3, 1)) rfl rfl ?_
    obtain ⟨hk, h⟩ := h
    refine j_getI hE fg_X10_348 hk (by decide +kernel : decode cX10_manyWrong 34 = .ok (.getfield 348, 3)) ?_
    refine j_iconst hE (by decide +kernel : decode cX10_manyWrong 37 = .ok (.iconst (-1), 1)) (v := (-1 : Int32)) (by decide) ?_
    refine j_icmp_eq hE (by decide +kernel : decode cX10_manyWrong 38 = .ok (.if_icmp .eq 13, 3)) (tgt := 51) (by decide) (fun q => ?_) (fun q => ?_)
    · replace h := h.1 q
      refine j_weak [some (.ref l0), some (.int l1), some (.int l2), none] ⟨rfl, ⟨rfl, ⟨rfl, trivial⟩⟩⟩ ?_
      exact S_PV_manyWrong_51 hE hK4 _ _ _ _ h
    · replace h := h.2 q
      refine j_aload_n hE (by decide +kernel : decode cX10_manyWrong 41 = .ok (.aload_n 3, 1)) rfl rfl ?_
      obtain ⟨hk, h⟩ := h
      refine j_callV hE rfl cl_X10_369 cf_1 im_X0_isCounted se_X0_isCounted ⟨by omega, by omega⟩ (As := []) (rest := []) rfl rfl (Nat.le_of_ble_eq_true rfl) hk (by decide +kernel : decode cX10_manyWrong 42 = .ok (.invokevirtual 369, 3)) (mt_En_isCounted _ _ _ h) ?_
      rintro _ g9 ⟨x10, rfl, h⟩
      refine j_if_ne hE (by decide +kernel : decode cX10_manyWrong 45 = .ok (.ifCond .ne 6, 3)) (tgt := 51) (by decide) (fun q => ?_) (fun q => ?_)
      · replace h := h.1 q
        refine j_weak [some (.ref l0), some (.int l1), some (.int l2), none] ⟨rfl, ⟨rfl, ⟨rfl, trivial⟩⟩⟩ ?_
        exact S_PV_manyWrong_51 hE hK4 _ _ _ _ h
      · replace h := h.2 q
        refine j_iinc hE (by decide +kernel : decode cX10_manyWrong 48 = .ok (.iinc 1 1, 3)) (v := (1 : Int32)) (by decide) rfl (Nat.le_of_ble_eq_true rfl) rfl ?_
        refine j_weak [some (.ref l0), some (.int (l1 + (1 : Int32))), some (.int l2), none] ⟨rfl, ⟨rfl, ⟨rfl, trivial⟩⟩⟩ ?_
        exact S_PV_manyWrong_51 hE hK4 _ _ _ _ h
set_option maxRecDepth 100000 in
def B_PV_manyWrong_0 (Γ : GAM) (K4 : Nat → Int32 → Int32 → GH → Prop) (K : Int32 → GH → Prop) (th : Nat) (g : GH) : Prop :=
  K4 th (0 : Int32) (0 : Int32) g
set_option maxHeartbeats 4000000 in
set_option maxRecDepth 100000 in
theorem S_PV_manyWrong_0 {Γ : GAM} {E : EV} {K : Int32 → GH → Prop} (hE : GE Γ E cX10_manyWrong 4 RX10 (some (.int)) 3 64 (fun r g' => ∃ x, r = some (.int x) ∧ K x g')) {K4 : Nat → Int32 → Int32 → GH → Prop} (hK4 : ∀ (l0 : Nat) (l1 : Int32) (l2 : Int32) (g : GH), K4 l0 l1 l2 g → JW Γ E 4 [some (.ref l0), some (.int l1), some (.int l2), none] [] g) (th : Nat) (g : GH) (h : B_PV_manyWrong_0 Γ K4 K th g) : JW Γ E 0 [some (.ref th), none, none, none] [] g := by
  unfold B_PV_manyWrong_0 at h
  refine j_iconst hE (by decide +kernel : decode cX10_manyWrong 0 = .ok (.iconst 0, 1)) (v := (0 : Int32)) (by decide) ?_
  refine j_istore_n hE (by decide +kernel : decode cX10_manyWrong 1 = .ok (.istore_n 1, 1)) rfl (Nat.le_of_ble_eq_true rfl) rfl ?_
  refine j_iconst hE (by decide +kernel : decode cX10_manyWrong 2 = .ok (.iconst 0, 1)) (v := (0 : Int32)) (by decide) ?_
  refine j_istore_n hE (by decide +kernel : decode cX10_manyWrong 3 = .ok (.istore_n 2, 1)) rfl (Nat.le_of_ble_eq_true rfl) rfl ?_
  exact hK4 _ _ _ _ h
set_option maxHeartbeats 4000000 in
set_option maxRecDepth 100000 in
theorem rl_PV_manyWrong {Γ : GAM} {l : Launch} {th : Nat} {g : GH} {K : Int32 → GH → Prop} (I4 : Nat → Nat → Int32 → Int32 → GH → Prop) (hh4 : ∀ n (l0 : Nat) (l1 : Int32) (l2 : Int32) (g : GH), I4 n l0 l1 l2 g → B_PV_manyWrong_4 Γ (fun l0 l1 l2 g => ∃ m, m < n ∧ I4 m l0 l1 l2 g) K l0 l1 l2 g) (h0 : B_PV_manyWrong_0 Γ (fun l0 l1 l2 g => ∃ m, I4 m l0 l1 l2 g) K th g) : MetA Γ l yX10_manyWrong cX10_manyWrong 4 (some (.int)) 3 64 [.ref th] g (fun r g' => ∃ x, r = some (.int x) ∧ K x g') := by
  refine MetA.introL (Lx := [some (.ref th), none, none, none]) (by decide) (Nat.le_of_ble_eq_true rfl) rfl rfl ?_
  intro E hEl hE hnm
  have hall : ∀ n, (∀ (l0 : Nat) (l1 : Int32) (l2 : Int32) (g : GH), I4 n l0 l1 l2 g → JW Γ E 4 [some (.ref l0), some (.int l1), some (.int l2), none] [] g) := by
    intro n
    induction n using Nat.strongRecOn with
    | ind n ih =>
      exact fun l0 l1 l2 g hi => S_PV_manyWrong_4 hE (fun l0 l1 l2 g hm => by obtain ⟨m, hm, h⟩ := hm; exact (ih m hm) l0 l1 l2 g h) l0 l1 l2 g (hh4 n l0 l1 l2 g hi)
  exact S_PV_manyWrong_0 hE (fun l0 l1 l2 g hm => by obtain ⟨m, h⟩ := hm; exact (hall m) l0 l1 l2 g h) th g h0
theorem mt_PV_manyWrong {Γ : GAM} {l : Launch} (th : Nat) (g : GH) (K : Int32 → GH → Prop) (h : Sp_PV_manyWrong Γ th g K) : MetA Γ l yX10_manyWrong cX10_manyWrong 4 (some (.int)) 3 64 [.ref th] g (fun r g' => ∃ x, r = some (.int x) ∧ K x g') := by
  obtain ⟨C, s, rfl, hI, hW, hJ, hK⟩ := h
  have hlen := hW.len
  have hP := hI.2.2.2.2.2.2.1
  obtain ⟨hkd, ⟨h1, h2⟩, -⟩ := hI.pk
  obtain ⟨⟨-, z2, z3, z4⟩, -⟩ := hP.sz
  refine rl_PV_manyWrong (fun n l0 l1 l2 g' => g = g' ∧ c_x C = l0 ∧ ∃ k, k ≤ (s_env s).length ∧ n = (s_env s).length - k ∧ l2 = nI k ∧ l1 = ctQ s k) ?_ ⟨_, rfl, rfl, 0, Nat.zero_le _, rfl, nj_0, rfl⟩
  rintro n l0 l1 l2 g' ⟨rfl, rfl, k, hk, rfl, rfl, rfl⟩
  suffices H : ∀ (K4 : Nat → Int32 → Int32 → GH → Prop), (k < (s_env s).length → K4 (c_x C) (ctQ s (k + 1)) (nI (k + 1)) g) → B_PV_manyWrong_4 Γ K4 K (c_x C) (ctQ s k) (nI k) g from
    H _ (fun hlt => ⟨(s_env s).length - (k + 1), by omega, rfl, rfl, k + 1, hlt, rfl, rfl, rfl⟩)
  intro K4 hn
  unfold B_PV_manyWrong_4 B_PV_manyWrong_51
  refine ⟨hkd, _, h1, h2, _, z2, z3, hP.esz ?_⟩
  rw [nj_le (by omega) (by omega)]
  refine ⟨fun u => ?_, fun u => ⟨hkd, _, h1, h2, _, z2, z3, hP.eget (by omega) (fun x hx hE => ?_)⟩⟩
  · rw [show k = (s_env s).length by omega]; exact hK
  · have hlt : k < (s_env s).length := by omega
    obtain ⟨_, _, _, _, _, hEB, _⟩ := id hE
    have hx2 := hEB.1.2
    have hst : ctQ s (k + 1) = ctQ s k + (if ¬ s_hof s k = 0 ∧ ((sCn s (s_vot s).length).1 k).isSome = false then 1 else 0) := fold_take _ _ _ (range_get hlt)
    have hn' := hn hlt
    rw [hst] at hn'
    rw [hP.2.2.2.2.2.1 k x hx, hsh_m1 hW, nj_s]
    refine ⟨hx2, hx2, fun u1 => ?_, fun u1 => ⟨hx2, hP.cnt hW hJ hx ?_⟩⟩
    · rw [if_neg (fun z => z.1 u1), Int32.add_zero] at hn'; exact hn'
    · refine pv_ite' (fun u2 => ?_) (fun u2 => ?_)
      · rw [if_pos ⟨u1, by unfold cnT at u2; simpa using u2⟩] at hn'; exact hn'
      · rw [if_neg (fun z => by unfold cnT at u2; rw [u2] at z; exact absurd z.2 (by decide)), Int32.add_zero] at hn'; exact hn'
def Sp_PV_count (Γ : GAM) (x : Nat) (p0 : Int32) (g : GH) (K : Int32 → GH → Prop) : Prop := PVC Γ x g K (fun s => p_count s p0) (fun s => s)
-- the walk of PV_count
set_option maxRecDepth 100000 in
def B_PV_count_0 (Γ : GAM) (K : Int32 → GH → Prop) (th : Nat) (p0 : Int32) (g : GH) : Prop :=
  ((p0 = (0 : Int32) → Kd g th = 12 ∧ K (Gi g 1408 th) g) ∧ (¬ (p0 = (0 : Int32)) → ((p0 = (1 : Int32) → Kd g th = 12 ∧ ∃ a1 : Nat, Gr g 1410 th = some a1 ∧ Kd g a1 = 6 ∧ ∃ a2 : Nat, Gr g 640 a1 = some a2 ∧ Kd g a2 = 1 ∧ Sp_AL_size Γ a2 g (fun (x4 : Int32) (g3 : GH) => K x4 g3)) ∧ (¬ (p0 = (1 : Int32)) → ((p0 = (2 : Int32) → Kd g th = 12 ∧ ∃ a5 : Nat, Gr g 1410 th = some a5 ∧ Kd g a5 = 6 ∧ ∃ a6 : Nat, Gr g 641 a5 = some a6 ∧ Kd g a6 = 1 ∧ Sp_AL_size Γ a6 g (fun (x8 : Int32) (g7 : GH) => K x8 g7)) ∧ (¬ (p0 = (2 : Int32)) → ((p0 = (3 : Int32) → Kd g th = 12 ∧ ∃ a9 : Nat, Gr g 1410 th = some a9 ∧ Kd g a9 = 6 ∧ K (Gi g 646 a9) g) ∧ (¬ (p0 = (3 : Int32)) → ((p0 = (4 : Int32) → Kd g th = 12 ∧ ∃ a10 : Nat, Gr g 1410 th = some a10 ∧ Kd g a10 = 6 ∧ ∃ a11 : Nat, Gr g 642 a10 = some a11 ∧ Kd g a11 = 1 ∧ Sp_AL_size Γ a11 g (fun (x13 : Int32) (g12 : GH) => K x13 g12)) ∧ (¬ (p0 = (4 : Int32)) → ((p0 = (5 : Int32) → Kd g th = 12 ∧ ∃ a14 : Nat, Gr g 1410 th = some a14 ∧ Kd g a14 = 6 ∧ ∃ a15 : Nat, Gr g 643 a14 = some a15 ∧ Kd g a15 = 4 ∧ ∃ a16 : Nat, Gr g 384 a15 = some a16 ∧ Kd g a16 = 1 ∧ Sp_AL_size Γ a16 g (fun (x18 : Int32) (g17 : GH) => K x18 g17)) ∧ (¬ (p0 = (5 : Int32)) → ((p0 = (6 : Int32) → Kd g th = 12 ∧ ∃ a19 : Nat, Gr g 1414 th = some a19 ∧ Kd g a19 = 1 ∧ Sp_AL_size Γ a19 g (fun (x21 : Int32) (g20 : GH) => K x21 g20)) ∧ (¬ (p0 = (6 : Int32)) → ((p0 = (7 : Int32) → Kd g th = 12 ∧ Sp_PV_manyInHeaps Γ th g (fun (x23 : Int32) (g22 : GH) => K x23 g22)) ∧ (¬ (p0 = (7 : Int32)) → ((p0 = (8 : Int32) → Kd g th = 12 ∧ ∃ a24 : Nat, Gr g 1410 th = some a24 ∧ Kd g th = 12 ∧ Kd g a24 = 6 ∧ Sp_Po_judgeAll Γ a24 (Gi g 1408 th) g (fun (g25 : GH) => Kd g25 th = 12 ∧ Sp_PV_manyWrong Γ th g25 (fun (x27 : Int32) (g26 : GH) => K x27 g26))) ∧ (¬ (p0 = (8 : Int32)) → ((p0 = (9 : Int32) → Kd g th = 12 ∧ ∃ a28 : Nat, Gr g 1410 th = some a28 ∧ Kd g th = 12 ∧ Kd g a28 = 6 ∧ Sp_Po_judgeAll Γ a28 (Gi g 1408 th) g (fun (g29 : GH) => Kd g29 th = 12 ∧ Sp_PV_layCounted Γ th g29 (fun (x31 : Int32) (g30 : GH) => K x31 g30))) ∧ (¬ (p0 = (9 : Int32)) → ((p0 = (10 : Int32) → Kd g th = 12 ∧ ∃ a32 : Nat, Gr g 1411 th = some a32 ∧ Kd g a32 = 8 ∧ K (Gi g 897 a32) g) ∧ (¬ (p0 = (10 : Int32)) → ((p0 = (11 : Int32) → Kd g th = 12 ∧ ∃ a33 : Nat, Gr g 1412 th = some a33 ∧ Kd g a33 = 7 ∧ K (Gi g 773 a33) g) ∧ (¬ (p0 = (11 : Int32)) → K (-1 : Int32) g))))))))))))))))))))))))
set_option maxHeartbeats 4000000 in
set_option maxRecDepth 100000 in
theorem S_PV_count_0 {Γ : GAM} {E : EV} {K : Int32 → GH → Prop} (hE : GE Γ E cX10_count 2 RX10 (some (.int)) 10 398 (fun r g' => ∃ x, r = some (.int x) ∧ K x g')) (th : Nat) (p0 : Int32) (g : GH) (h : B_PV_count_0 Γ K th p0 g) : JW Γ E 0 [some (.ref th), some (.int p0)] [] g := by
  unfold B_PV_count_0 at h
  refine j_iload_n hE (by decide +kernel : decode cX10_count 0 = .ok (.iload_n 1, 1)) rfl rfl ?_
  by_cases q0 : p0 = (0 : Int32)
  · replace h := h.1 q0
    refine j_tableIn hE (by decide +kernel : decode cX10_count 1 = .ok (.tableswitch 184 0 11 #[63, 68, 79, 90, 98, 109, 123, 131, 136, 152, 168, 176], 63)) (by rw [q0]; decide) (by rw [q0]; decide) (off := 63) (by rw [q0]; decide) (tgt := 64) (by decide) ?_
    refine j_aload_n hE (by decide +kernel : decode cX10_count 64 = .ok (.aload_n 0, 1)) rfl rfl ?_
    obtain ⟨hk, h⟩ := h
    refine j_getI hE fg_X10_68 hk (by decide +kernel : decode cX10_count 65 = .ok (.getfield 68, 3)) ?_
    exact j_iret hE (by decide +kernel : decode cX10_count 68 = .ok (.ireturn, 1)) ⟨_, rfl, h⟩
  · replace h := h.2 q0
    by_cases q1 : p0 = (1 : Int32)
    · replace h := h.1 q1
      refine j_tableIn hE (by decide +kernel : decode cX10_count 1 = .ok (.tableswitch 184 0 11 #[63, 68, 79, 90, 98, 109, 123, 131, 136, 152, 168, 176], 63)) (by rw [q1]; decide) (by rw [q1]; decide) (off := 68) (by rw [q1]; decide) (tgt := 69) (by decide) ?_
      refine j_aload_n hE (by decide +kernel : decode cX10_count 69 = .ok (.aload_n 0, 1)) rfl rfl ?_
      obtain ⟨hk, h⟩ := h
      obtain ⟨a1, ha, h⟩ := h
      refine j_getRn hE fg_X10_16 hk ha (by decide +kernel : decode cX10_count 70 = .ok (.getfield 16, 3)) ?_
      obtain ⟨hk, h⟩ := h
      obtain ⟨a2, ha, h⟩ := h
      refine j_getRn hE fg_X10_81 hk ha (by decide +kernel : decode cX10_count 73 = .ok (.getfield 81, 3)) ?_
      obtain ⟨hk, h⟩ := h
      refine j_callV hE rfl cl_X10_84 cf_0 im_Jx4a65c_size_8abf5 se_Jx4a65c_size_8abf5 ⟨by omega, by omega⟩ (As := []) (rest := []) rfl rfl (Nat.le_of_ble_eq_true rfl) hk (by decide +kernel : decode cX10_count 76 = .ok (.invokevirtual 84, 3)) (mt_AL_size _ _ _ h) ?_
      rintro _ g3 ⟨x4, rfl, h⟩
      exact j_iret hE (by decide +kernel : decode cX10_count 79 = .ok (.ireturn, 1)) ⟨_, rfl, h⟩
    · replace h := h.2 q1
      by_cases q2 : p0 = (2 : Int32)
      · replace h := h.1 q2
        refine j_tableIn hE (by decide +kernel : decode cX10_count 1 = .ok (.tableswitch 184 0 11 #[63, 68, 79, 90, 98, 109, 123, 131, 136, 152, 168, 176], 63)) (by rw [q2]; decide) (by rw [q2]; decide) (off := 79) (by rw [q2]; decide) (tgt := 80) (by decide) ?_
        refine j_aload_n hE (by decide +kernel : decode cX10_count 80 = .ok (.aload_n 0, 1)) rfl rfl ?_
        obtain ⟨hk, h⟩ := h
        obtain ⟨a5, ha, h⟩ := h
        refine j_getRn hE fg_X10_16 hk ha (by decide +kernel : decode cX10_count 81 = .ok (.getfield 16, 3)) ?_
        obtain ⟨hk, h⟩ := h
        obtain ⟨a6, ha, h⟩ := h
        refine j_getRn hE fg_X10_124 hk ha (by decide +kernel : decode cX10_count 84 = .ok (.getfield 124, 3)) ?_
        obtain ⟨hk, h⟩ := h
        refine j_callV hE rfl cl_X10_84 cf_0 im_Jx4a65c_size_8abf5 se_Jx4a65c_size_8abf5 ⟨by omega, by omega⟩ (As := []) (rest := []) rfl rfl (Nat.le_of_ble_eq_true rfl) hk (by decide +kernel : decode cX10_count 87 = .ok (.invokevirtual 84, 3)) (mt_AL_size _ _ _ h) ?_
        rintro _ g7 ⟨x8, rfl, h⟩
        exact j_iret hE (by decide +kernel : decode cX10_count 90 = .ok (.ireturn, 1)) ⟨_, rfl, h⟩
      · replace h := h.2 q2
        by_cases q3 : p0 = (3 : Int32)
        · replace h := h.1 q3
          refine j_tableIn hE (by decide +kernel : decode cX10_count 1 = .ok (.tableswitch 184 0 11 #[63, 68, 79, 90, 98, 109, 123, 131, 136, 152, 168, 176], 63)) (by rw [q3]; decide) (by rw [q3]; decide) (off := 90) (by rw [q3]; decide) (tgt := 91) (by decide) ?_
          refine j_aload_n hE (by decide +kernel : decode cX10_count 91 = .ok (.aload_n 0, 1)) rfl rfl ?_
          obtain ⟨hk, h⟩ := h
          obtain ⟨a9, ha, h⟩ := h
          refine j_getRn hE fg_X10_16 hk ha (by decide +kernel : decode cX10_count 92 = .ok (.getfield 16, 3)) ?_
          obtain ⟨hk, h⟩ := h
          refine j_getI hE fg_X10_140 hk (by decide +kernel : decode cX10_count 95 = .ok (.getfield 140, 3)) ?_
          exact j_iret hE (by decide +kernel : decode cX10_count 98 = .ok (.ireturn, 1)) ⟨_, rfl, h⟩
        · replace h := h.2 q3
          by_cases q4 : p0 = (4 : Int32)
          · replace h := h.1 q4
            refine j_tableIn hE (by decide +kernel : decode cX10_count 1 = .ok (.tableswitch 184 0 11 #[63, 68, 79, 90, 98, 109, 123, 131, 136, 152, 168, 176], 63)) (by rw [q4]; decide) (by rw [q4]; decide) (off := 98) (by rw [q4]; decide) (tgt := 99) (by decide) ?_
            refine j_aload_n hE (by decide +kernel : decode cX10_count 99 = .ok (.aload_n 0, 1)) rfl rfl ?_
            obtain ⟨hk, h⟩ := h
            obtain ⟨a10, ha, h⟩ := h
            refine j_getRn hE fg_X10_16 hk ha (by decide +kernel : decode cX10_count 100 = .ok (.getfield 16, 3)) ?_
            obtain ⟨hk, h⟩ := h
            obtain ⟨a11, ha, h⟩ := h
            refine j_getRn hE fg_X10_144 hk ha (by decide +kernel : decode cX10_count 103 = .ok (.getfield 144, 3)) ?_
            obtain ⟨hk, h⟩ := h
            refine j_callV hE rfl cl_X10_84 cf_0 im_Jx4a65c_size_8abf5 se_Jx4a65c_size_8abf5 ⟨by omega, by omega⟩ (As := []) (rest := []) rfl rfl (Nat.le_of_ble_eq_true rfl) hk (by decide +kernel : decode cX10_count 106 = .ok (.invokevirtual 84, 3)) (mt_AL_size _ _ _ h) ?_
            rintro _ g12 ⟨x13, rfl, h⟩
            exact j_iret hE (by decide +kernel : decode cX10_count 109 = .ok (.ireturn, 1)) ⟨_, rfl, h⟩
          · replace h := h.2 q4
            by_cases q5 : p0 = (5 : Int32)
            · replace h := h.1 q5
              refine j_tableIn hE (by decide +kernel : decode cX10_count 1 = .ok (.tableswitch 184 0 11 #[63, 68, 79, 90, 98, 109, 123, 131, 136, 152, 168, 176], 63)) (by rw [q5]; decide) (by rw [q5]; decide) (off := 109) (by rw [q5]; decide) (tgt := 110) (by decide) ?_
              refine j_aload_n hE (by decide +kernel : decode cX10_count 110 = .ok (.aload_n 0, 1)) rfl rfl ?_
              obtain ⟨hk, h⟩ := h
              obtain ⟨a14, ha, h⟩ := h
              refine j_getRn hE fg_X10_16 hk ha (by decide +kernel : decode cX10_count 111 = .ok (.getfield 16, 3)) ?_
              obtain ⟨hk, h⟩ := h
              obtain ⟨a15, ha, h⟩ := h
              refine j_getRn hE fg_X10_186 hk ha (by decide +kernel : decode cX10_count 114 = .ok (.getfield 186, 3)) ?_
              obtain ⟨hk, h⟩ := h
              obtain ⟨a16, ha, h⟩ := h
              refine j_getRn hE fg_X10_190 hk ha (by decide +kernel : decode cX10_count 117 = .ok (.getfield 190, 3)) ?_
              obtain ⟨hk, h⟩ := h
              refine j_callV hE rfl cl_X10_84 cf_0 im_Jx4a65c_size_8abf5 se_Jx4a65c_size_8abf5 ⟨by omega, by omega⟩ (As := []) (rest := []) rfl rfl (Nat.le_of_ble_eq_true rfl) hk (by decide +kernel : decode cX10_count 120 = .ok (.invokevirtual 84, 3)) (mt_AL_size _ _ _ h) ?_
              rintro _ g17 ⟨x18, rfl, h⟩
              exact j_iret hE (by decide +kernel : decode cX10_count 123 = .ok (.ireturn, 1)) ⟨_, rfl, h⟩
            · replace h := h.2 q5
              by_cases q6 : p0 = (6 : Int32)
              · replace h := h.1 q6
                refine j_tableIn hE (by decide +kernel : decode cX10_count 1 = .ok (.tableswitch 184 0 11 #[63, 68, 79, 90, 98, 109, 123, 131, 136, 152, 168, 176], 63)) (by rw [q6]; decide) (by rw [q6]; decide) (off := 123) (by rw [q6]; decide) (tgt := 124) (by decide) ?_
                refine j_aload_n hE (by decide +kernel : decode cX10_count 124 = .ok (.aload_n 0, 1)) rfl rfl ?_
                obtain ⟨hk, h⟩ := h
                obtain ⟨a19, ha, h⟩ := h
                refine j_getRn hE fg_X10_44 hk ha (by decide +kernel : decode cX10_count 125 = .ok (.getfield 44, 3)) ?_
                obtain ⟨hk, h⟩ := h
                refine j_callV hE rfl cl_X10_84 cf_0 im_Jx4a65c_size_8abf5 se_Jx4a65c_size_8abf5 ⟨by omega, by omega⟩ (As := []) (rest := []) rfl rfl (Nat.le_of_ble_eq_true rfl) hk (by decide +kernel : decode cX10_count 128 = .ok (.invokevirtual 84, 3)) (mt_AL_size _ _ _ h) ?_
                rintro _ g20 ⟨x21, rfl, h⟩
                exact j_iret hE (by decide +kernel : decode cX10_count 131 = .ok (.ireturn, 1)) ⟨_, rfl, h⟩
              · replace h := h.2 q6
                by_cases q7 : p0 = (7 : Int32)
                · replace h := h.1 q7
                  refine j_tableIn hE (by decide +kernel : decode cX10_count 1 = .ok (.tableswitch 184 0 11 #[63, 68, 79, 90, 98, 109, 123, 131, 136, 152, 168, 176], 63)) (by rw [q7]; decide) (by rw [q7]; decide) (off := 131) (by rw [q7]; decide) (tgt := 132) (by decide) ?_
                  refine j_aload_n hE (by decide +kernel : decode cX10_count 132 = .ok (.aload_n 0, 1)) rfl rfl ?_
                  obtain ⟨hk, h⟩ := h
                  refine j_callV hE rfl cl_X10_354 cf_11 im_X10_manyInHeaps se_X10_manyInHeaps ⟨by omega, by omega⟩ (As := []) (rest := []) rfl rfl (Nat.le_of_ble_eq_true rfl) hk (by decide +kernel : decode cX10_count 133 = .ok (.invokevirtual 354, 3)) (mt_PV_manyInHeaps _ _ _ h) ?_
                  rintro _ g22 ⟨x23, rfl, h⟩
                  exact j_iret hE (by decide +kernel : decode cX10_count 136 = .ok (.ireturn, 1)) ⟨_, rfl, h⟩
                · replace h := h.2 q7
                  by_cases q8 : p0 = (8 : Int32)
                  · replace h := h.1 q8
                    refine j_tableIn hE (by decide +kernel : decode cX10_count 1 = .ok (.tableswitch 184 0 11 #[63, 68, 79, 90, 98, 109, 123, 131, 136, 152, 168, 176], 63)) (by rw [q8]; decide) (by rw [q8]; decide) (off := 136) (by rw [q8]; decide) (tgt := 137) (by decide) ?_
                    refine j_aload_n hE (by decide +kernel : decode cX10_count 137 = .ok (.aload_n 0, 1)) rfl rfl ?_
                    obtain ⟨hk, h⟩ := h
                    obtain ⟨a24, ha, h⟩ := h
                    refine j_getRn hE fg_X10_16 hk ha (by decide +kernel : decode cX10_count 138 = .ok (.getfield 16, 3)) ?_
                    refine j_aload_n hE (by decide +kernel : decode cX10_count 141 = .ok (.aload_n 0, 1)) rfl rfl ?_
                    obtain ⟨hk, h⟩ := h
                    refine j_getI hE fg_X10_68 hk (by decide +kernel : decode cX10_count 142 = .ok (.getfield 68, 3)) ?_
                    obtain ⟨hk, h⟩ := h
                    refine j_callV hE rfl cl_X10_237 cf_5 im_X4_judgeAll se_X4_judgeAll ⟨by omega, by omega⟩ (As := [.int (Gi g 1408 th)]) (rest := []) rfl rfl (Nat.le_of_ble_eq_true rfl) hk (by decide +kernel : decode cX10_count 145 = .ok (.invokevirtual 237, 3)) (mt_Po_judgeAll _ _ _ _ h) ?_
                    rintro _ g25 ⟨rfl, h⟩
                    refine j_aload_n hE (by decide +kernel : decode cX10_count 148 = .ok (.aload_n 0, 1)) rfl rfl ?_
                    obtain ⟨hk, h⟩ := h
                    refine j_callV hE rfl cl_X10_357 cf_11 im_X10_manyWrong se_X10_manyWrong ⟨by omega, by omega⟩ (As := []) (rest := []) rfl rfl (Nat.le_of_ble_eq_true rfl) hk (by decide +kernel : decode cX10_count 149 = .ok (.invokevirtual 357, 3)) (mt_PV_manyWrong _ _ _ h) ?_
                    rintro _ g26 ⟨x27, rfl, h⟩
                    exact j_iret hE (by decide +kernel : decode cX10_count 152 = .ok (.ireturn, 1)) ⟨_, rfl, h⟩
                  · replace h := h.2 q8
                    by_cases q9 : p0 = (9 : Int32)
                    · replace h := h.1 q9
                      refine j_tableIn hE (by decide +kernel : decode cX10_count 1 = .ok (.tableswitch 184 0 11 #[63, 68, 79, 90, 98, 109, 123, 131, 136, 152, 168, 176], 63)) (by rw [q9]; decide) (by rw [q9]; decide) (off := 152) (by rw [q9]; decide) (tgt := 153) (by decide) ?_
                      refine j_aload_n hE (by decide +kernel : decode cX10_count 153 = .ok (.aload_n 0, 1)) rfl rfl ?_
                      obtain ⟨hk, h⟩ := h
                      obtain ⟨a28, ha, h⟩ := h
                      refine j_getRn hE fg_X10_16 hk ha (by decide +kernel : decode cX10_count 154 = .ok (.getfield 16, 3)) ?_
                      refine j_aload_n hE (by decide +kernel : decode cX10_count 157 = .ok (.aload_n 0, 1)) rfl rfl ?_
                      obtain ⟨hk, h⟩ := h
                      refine j_getI hE fg_X10_68 hk (by decide +kernel : decode cX10_count 158 = .ok (.getfield 68, 3)) ?_
                      obtain ⟨hk, h⟩ := h
                      refine j_callV hE rfl cl_X10_237 cf_5 im_X4_judgeAll se_X4_judgeAll ⟨by omega, by omega⟩ (As := [.int (Gi g 1408 th)]) (rest := []) rfl rfl (Nat.le_of_ble_eq_true rfl) hk (by decide +kernel : decode cX10_count 161 = .ok (.invokevirtual 237, 3)) (mt_Po_judgeAll _ _ _ _ h) ?_
                      rintro _ g29 ⟨rfl, h⟩
                      refine j_aload_n hE (by decide +kernel : decode cX10_count 164 = .ok (.aload_n 0, 1)) rfl rfl ?_
                      obtain ⟨hk, h⟩ := h
                      refine j_callV hE rfl cl_X10_254 cf_11 im_X10_layCounted se_X10_layCounted ⟨by omega, by omega⟩ (As := []) (rest := []) rfl rfl (Nat.le_of_ble_eq_true rfl) hk (by decide +kernel : decode cX10_count 165 = .ok (.invokevirtual 254, 3)) (mt_PV_layCounted _ _ _ h) ?_
                      rintro _ g30 ⟨x31, rfl, h⟩
                      exact j_iret hE (by decide +kernel : decode cX10_count 168 = .ok (.ireturn, 1)) ⟨_, rfl, h⟩
                    · replace h := h.2 q9
                      by_cases q10 : p0 = (10 : Int32)
                      · replace h := h.1 q10
                        refine j_tableIn hE (by decide +kernel : decode cX10_count 1 = .ok (.tableswitch 184 0 11 #[63, 68, 79, 90, 98, 109, 123, 131, 136, 152, 168, 176], 63)) (by rw [q10]; decide) (by rw [q10]; decide) (off := 168) (by rw [q10]; decide) (tgt := 169) (by decide) ?_
                        refine j_aload_n hE (by decide +kernel : decode cX10_count 169 = .ok (.aload_n 0, 1)) rfl rfl ?_
                        obtain ⟨hk, h⟩ := h
                        obtain ⟨a32, ha, h⟩ := h
                        refine j_getRn hE fg_X10_23 hk ha (by decide +kernel : decode cX10_count 170 = .ok (.getfield 23, 3)) ?_
                        obtain ⟨hk, h⟩ := h
                        refine j_getI hE fg_X10_176 hk (by decide +kernel : decode cX10_count 173 = .ok (.getfield 176, 3)) ?_
                        exact j_iret hE (by decide +kernel : decode cX10_count 176 = .ok (.ireturn, 1)) ⟨_, rfl, h⟩
                      · replace h := h.2 q10
                        by_cases q11 : p0 = (11 : Int32)
                        · replace h := h.1 q11
                          refine j_tableIn hE (by decide +kernel : decode cX10_count 1 = .ok (.tableswitch 184 0 11 #[63, 68, 79, 90, 98, 109, 123, 131, 136, 152, 168, 176], 63)) (by rw [q11]; decide) (by rw [q11]; decide) (off := 176) (by rw [q11]; decide) (tgt := 177) (by decide) ?_
                          refine j_aload_n hE (by decide +kernel : decode cX10_count 177 = .ok (.aload_n 0, 1)) rfl rfl ?_
                          obtain ⟨hk, h⟩ := h
                          obtain ⟨a33, ha, h⟩ := h
                          refine j_getRn hE fg_X10_30 hk ha (by decide +kernel : decode cX10_count 178 = .ok (.getfield 30, 3)) ?_
                          obtain ⟨hk, h⟩ := h
                          refine j_getI hE fg_X10_267 hk (by decide +kernel : decode cX10_count 181 = .ok (.getfield 267, 3)) ?_
                          exact j_iret hE (by decide +kernel : decode cX10_count 184 = .ok (.ireturn, 1)) ⟨_, rfl, h⟩
                        · replace h := h.2 q11
                          have hD : JW Γ E 185 [some (.ref th), some (.int p0)] [] g := by
                            refine j_iconst hE (by decide +kernel : decode cX10_count 185 = .ok (.iconst (-1), 1)) (v := (-1 : Int32)) (by decide) ?_
                            exact j_iret hE (by decide +kernel : decode cX10_count 186 = .ok (.ireturn, 1)) ⟨_, rfl, h⟩
                          have qq : (p0).toInt < 0 ∨ 11 < (p0).toInt := by
                            have z0 : ¬ (p0).toInt = 0 := fun e => q0 (Int32.toInt_inj.mp (e.trans (by decide)))
                            have z1 : ¬ (p0).toInt = 1 := fun e => q1 (Int32.toInt_inj.mp (e.trans (by decide)))
                            have z2 : ¬ (p0).toInt = 2 := fun e => q2 (Int32.toInt_inj.mp (e.trans (by decide)))
                            have z3 : ¬ (p0).toInt = 3 := fun e => q3 (Int32.toInt_inj.mp (e.trans (by decide)))
                            have z4 : ¬ (p0).toInt = 4 := fun e => q4 (Int32.toInt_inj.mp (e.trans (by decide)))
                            have z5 : ¬ (p0).toInt = 5 := fun e => q5 (Int32.toInt_inj.mp (e.trans (by decide)))
                            have z6 : ¬ (p0).toInt = 6 := fun e => q6 (Int32.toInt_inj.mp (e.trans (by decide)))
                            have z7 : ¬ (p0).toInt = 7 := fun e => q7 (Int32.toInt_inj.mp (e.trans (by decide)))
                            have z8 : ¬ (p0).toInt = 8 := fun e => q8 (Int32.toInt_inj.mp (e.trans (by decide)))
                            have z9 : ¬ (p0).toInt = 9 := fun e => q9 (Int32.toInt_inj.mp (e.trans (by decide)))
                            have z10 : ¬ (p0).toInt = 10 := fun e => q10 (Int32.toInt_inj.mp (e.trans (by decide)))
                            have z11 : ¬ (p0).toInt = 11 := fun e => q11 (Int32.toInt_inj.mp (e.trans (by decide)))
                            omega
                          exact j_tableOut hE (by decide +kernel : decode cX10_count 1 = .ok (.tableswitch 184 0 11 #[63, 68, 79, 90, 98, 109, 123, 131, 136, 152, 168, 176], 63)) qq (tgt := 185) (by decide) hD
set_option maxHeartbeats 4000000 in
set_option maxRecDepth 100000 in
theorem rl_PV_count {Γ : GAM} {l : Launch} {th : Nat} {p0 : Int32} {g : GH} {K : Int32 → GH → Prop} (h0 : B_PV_count_0 Γ K th p0 g) : MetA Γ l yX10_count cX10_count 2 (some (.int)) 10 398 [.ref th, .int p0] g (fun r g' => ∃ x, r = some (.int x) ∧ K x g') := by
  refine MetA.introL (Lx := [some (.ref th), some (.int p0)]) (by decide) (Nat.le_of_ble_eq_true rfl) rfl rfl ?_
  intro E hEl hE hnm
  exact S_PV_count_0 hE th p0 g h0
theorem mt_PV_count {Γ : GAM} {l : Launch} (th : Nat) (p0 : Int32) (g : GH) (K : Int32 → GH → Prop) (h : Sp_PV_count Γ th p0 g K) : MetA Γ l yX10_count cX10_count 2 (some (.int)) 10 398 [.ref th, .int p0] g (fun r g' => ∃ x, r = some (.int x) ∧ K x g') := by
  obtain ⟨C, s, n, rfl, hI, hW, hR, hK⟩ := PVC.e h
  have he := hI.en
  obtain ⟨hkd, ⟨h1, h2⟩, -, -, -, -, hnow, hsiz⟩ := hI.pk
  have hP := hI.2.2.2.2.2.2.1
  have hlen := hW.len
  obtain ⟨-, -, ⟨t1, t2⟩, ⟨r1, r2⟩, -, ⟨i1, i2⟩, -⟩ := hI.pk
  have hCH := hI.2.2.2.2.2.1
  obtain ⟨⟨-, e2, e3, e4⟩, v2, v3, v4⟩ := hP.sz
  obtain ⟨m1, -, -⟩ := hP.2.1.2.2.2.1
  have hkm := hP.2.1.2.2.2.2.2.2.1.2.2.1
  have hju := hP.2.1.2.2.2.2.2.1
  have hL := hP.2.2.2.2.2.2.1
  obtain ⟨⟨j1, j2⟩, -, al, xs, ⟨al1, _, _⟩, hA, hxl, -⟩ := hP.2.2.2.2.2.2.2
  have hK0 := hK C g _ _ rfl rfl (FrC.rf he) rfl hI hR.dn
  refine rl_PV_count ?_
  unfold B_PV_count_0
  unfold p_count at hK0
  refine ⟨fun u => ⟨hkd, by rw [if_pos u] at hK0; rw [hnow]; exact hK0⟩, fun n0 => ?_⟩
  rw [if_neg n0] at hK0
  refine ⟨fun u => ⟨hkd, _, h1, h2, _, v2, v3, hP.vsz (by rw [if_pos u] at hK0; exact hK0)⟩, fun n1 => ?_⟩
  rw [if_neg n1] at hK0
  refine ⟨fun u => ⟨hkd, _, h1, h2, _, e2, e3, hP.esz (by rw [if_pos u] at hK0; exact hK0)⟩, fun n2 => ?_⟩
  rw [if_neg n2] at hK0
  refine ⟨fun u => ⟨hkd, _, h1, h2, by rw [if_pos u] at hK0; rw [hP.2.2.1.2.1]; exact hK0⟩, fun n3 => ?_⟩
  rw [if_neg n3] at hK0
  refine ⟨fun u => ⟨hkd, _, h1, h2, _, m1, hkm, hL.sz (by rw [if_pos u] at hK0; exact hK0)⟩, fun n4 => ?_⟩
  rw [if_neg n4] at hK0
  refine ⟨fun u => ⟨hkd, _, h1, h2, _, hju, j2, al, al1, hA.1.2, hA.1.2, by rw [hA.2.1, hxl]; rw [if_pos u] at hK0; exact hK0⟩, fun n5 => ?_⟩
  rw [if_neg n5] at hK0
  refine ⟨fun u => ⟨hkd, _, i1, i2, hCH.sz (by rw [if_pos u] at hK0; exact hK0)⟩, fun n6 => ?_⟩
  rw [if_neg n6] at hK0
  refine ⟨fun u => ⟨hkd, C, s, rfl, hI, hW, by rw [if_pos u] at hK0; exact hK0⟩, fun n7 => ?_⟩
  rw [if_neg n7] at hK0
  refine ⟨fun u => ⟨hkd, _, h1, hkd, h2, c_D C, s, rfl, hP, hW, by rw [hnow]; exact ⟨hW.now.1, Int32.le_refl _⟩, hI.2.2.2.2.2.2.2, hR.rc, fun g' hF hC hJ => ?_⟩, fun n8 => ?_⟩
  · rw [hnow] at hJ
    have hI' := hI.fc hF.1 hC
    have hr := hK C g' _ _ rfl rfl hF.1.c rfl hI' (hR.fc hF.1)
    unfold p_count at hr
    rw [if_neg n0, if_neg n1, if_neg n2, if_neg n3, if_neg n4, if_neg n5, if_neg n6, if_neg n7, if_pos u] at hr
    exact ⟨hI'.pk.1, C, s, rfl, hI', hW, hJ, hr⟩
  rw [if_neg n8] at hK0
  refine ⟨fun u => ⟨hkd, _, h1, hkd, h2, c_D C, s, rfl, hP, hW, by rw [hnow]; exact ⟨hW.now.1, Int32.le_refl _⟩, hI.2.2.2.2.2.2.2, hR.rc, fun g' hF hC hJ => ?_⟩, fun n9 => ?_⟩
  · rw [hnow] at hJ
    have hI' := hI.fc hF.1 hC
    refine ⟨hI'.pk.1, C, s, rfl, hI', hW, hJ, fun g2 hx hrow => ?_⟩
    have hI2 : ClsI Γ C g2 s := hI'.fr0 (hx.fr (als := []) hI'.en) (fun f hf z => by cases z) (by decide)
    have hr := hK C g2 _ _ rfl rfl (hF.1.c.tr (hx.c hI'.en (by simp) (by decide))) rfl hI2 ((hR.fc0 hF.1).x hx)
    unfold p_count at hr
    rw [if_neg n0, if_neg n1, if_neg n2, if_neg n3, if_neg n4, if_neg n5, if_neg n6, if_neg n7, if_neg n8, if_pos u, sCn_len hW _ (Nat.le_refl _)] at hr
    exact hr
  rw [if_neg n9] at hK0
  refine ⟨fun u => ⟨hkd, _, t1, t2, by rw [hI.2.2.1.2.1]; rw [if_pos u] at hK0; exact hK0⟩, fun n10 => ?_⟩
  rw [if_neg n10] at hK0
  refine ⟨fun u => ⟨hkd, _, r1, r2, by rw [hI.2.2.2.1.2.1]; rw [if_pos u] at hK0; exact hK0⟩, fun n11 => ?_⟩
  rw [if_neg n11] at hK0
  exact hK0
