/-! the reference: the reader of laws, its pieces -/
/-- what has been read so far, and what it becomes -/
def pFn (t : List Int32) (it : Nat → PRs) (sp : Int32 → Bool) (f : Nat) (cur : PRs) : PRs := match cur with
  | .inl e => .inl e
  | .inr (p, ws) => pLp t it sp f p ws
def pPre (ws : List Int32) (r : PRs) : PRs := match r with
  | .inl e => .inl e
  | .inr (p, w) => .inr (p, ws ++ w)
theorem pFn_st {t : List Int32} {it : Nat → PRs} {sp : Int32 → Bool} (hs : sp (-1) = false) {f p : Nat} {ws : List Int32} (hf : t.length ≤ f + p) (hc : sp (chr t (skp t p)) = true) : pFn t it sp f (.inr (p, ws)) = pFn t it sp (f - 1) (pPre ws (pOp (chr t (skp t p)) (it (skp t p + 1)))) := by
  show pLp t it sp f p ws = _
  rw [pLp_u hs hf, if_pos hc]
  cases it (skp t p + 1) with
  | inl e => rfl
  | inr x =>
    obtain ⟨p2, w⟩ := x
    show pLp t it sp (f - 1) p2 (ws ++ w ++ [-(chr t (skp t p))]) = pLp t it sp (f - 1) p2 (ws ++ (w ++ [-(chr t (skp t p))]))
    rw [List.append_assoc]
theorem pFn_no {t : List Int32} {it : Nat → PRs} {sp : Int32 → Bool} (hs : sp (-1) = false) {f p : Nat} {ws : List Int32} (hf : t.length ≤ f + p) (hc : ¬ sp (chr t (skp t p)) = true) : pFn t it sp f (.inr (p, ws)) = .inr (skp t p, ws) := by
  show pLp t it sp f p ws = _
  rw [pLp_u hs hf, if_neg hc]
theorem pFn_sk {t : List Int32} {it : Nat → PRs} {sp : Int32 → Bool} (hs : sp (-1) = false) {f p : Nat} {ws : List Int32} (hf : t.length ≤ f + p) : pFn t it sp f (.inr (skp t p, ws)) = pFn t it sp f (.inr (p, ws)) := by
  have g1 := skp_ge t p
  show pLp t it sp f _ ws = pLp t it sp f p ws
  rw [pLp_u hs hf, pLp_u hs (show t.length ≤ f + skp t p by omega), skp_i]
theorem OKr_st {t : List Int32} {b : Bool} {it : Nat → PRs} {sp : Int32 → Bool} (hi : PG t b it) (hs : sp (-1) = false) (ho : ∀ c, sp c = true → opT b c) {p0 p : Nat} {ws : List Int32} (h : OKr t p0 b (.inr (p, ws))) (hc : sp (chr t (skp t p)) = true) : OKr t p0 b (pPre ws (pOp (chr t (skp t p)) (it (skp t p + 1)))) ∧ (∀ p2 w, it (skp t p + 1) = .inr (p2, w) → p < p2 ∧ (enC ws).length + (enC w).length + 2 * p0 + 2 ≤ 2 * p2 ∧ p2 ≤ t.length) := by
  obtain ⟨h1, h2, h3, h4, h5⟩ := h
  have g1 := skp_ge t p
  have hlt : skp t p < t.length := chr_in (fun q => by rw [q, hs] at hc; exact absurd hc (by decide))
  have hx := hi (skp t p + 1) (by omega)
  cases hr : it (skp t p + 1) with
  | inl e => rw [hr] at hx; exact ⟨hx, fun p2 w q => by cases q⟩
  | inr x =>
    obtain ⟨p2, w⟩ := x
    rw [hr] at hx
    obtain ⟨k1, k2, k3, k4, k5⟩ := hx
    obtain ⟨o1, o2⟩ := ho _ hc
    refine ⟨⟨by omega, k2, ?_, ?_, fun tt => ?_⟩, fun p3 w3 q => by cases q; exact ⟨by omega, by omega, k2⟩⟩
    · simp only [List.length_append, List.length_cons, List.length_nil]; omega
    · rw [enC_app, enC_app, enC_1, o2]
      simp only [List.length_append, List.length_cons, List.length_nil]; omega
    · rw [tyC_app, h5]
      simp only [tyC_app, k5, tyC, o1]
theorem PO.pre {m : Nat} {g : GH} {s : ST} {sd ws : List Int32} {dd B : Nat} {r : PRs} (h : PO m g s (sd ++ enC ws) dd B r) : PO m g s sd dd B (pPre ws r) := by
  cases r with
  | inl e => exact h
  | inr x =>
    obtain ⟨p2, w⟩ := x
    rcases h with h | h
    · refine .inl ?_
      rw [enC_app, ← List.append_assoc]; exact h
    · exact .inr h
/-- the measure of what is still to be read -/
def pMe (t : List Int32) (r : PRs) : Nat := match r with
  | .inl _ => 0
  | .inr (p, _) => 1 + (t.length - p)
theorem PN.pos {m : Nat} {g : GH} {s : ST} {p : Nat} {sd : List Int32} {dd : Nat} (h : PN m g s p sd dd) (hl : p < (s_tap s).length) : PN m (sI g 1589 m (Gi g 1589 m + 1)) s (p + 1) sd dd := by
  obtain ⟨h1, h2, h3, h4, h5, h6, h7⟩ := h
  exact ⟨by rw [Gi_sI, if_pos ⟨rfl, rfl⟩, h1, nj_s], hl, by simp [Gi_sI, h3], by simp [Gi_sI, h4], h5, by rw [Gi_sI, if_neg (fun q => absurd q.1 (by decide))]; exact h6, h7⟩
theorem FrA {m : Nat} {g : GH} {v : Int32} : FrX m [1589, 1590, 1591, 1592] [1583] g (sI g 1589 m v) := FrX.sI (by decide)
theorem PO.wr {m : Nat} {g : GH} {s : ST} {sd : List Int32} {dd B : Nat} {r : PRs} (h : PO m g s sd dd B r) (hw : ¬ Gi g 1590 m = -1) : (∃ e, r = .inl e) ∨ ∃ p w, r = .inr (p, w) ∧ stk (s_tap s) p ∧ WR m g p B := by
  cases r with
  | inl e => exact .inl ⟨e, rfl⟩
  | inr x =>
    obtain ⟨p2, w⟩ := x
    rcases h with h | h
    · exact absurd h.2.2.1 hw
    · exact .inr ⟨p2, w, rfl, h⟩
theorem PO.nm {m : Nat} {g : GH} {s : ST} {sd : List Int32} {dd B : Nat} {r : PRs} (h : PO m g s sd dd B r) (hw : Gi g 1590 m = -1) : ∃ p w, r = .inr (p, w) ∧ PN m g s p (sd ++ enC w) dd := by
  cases r with
  | inl e => exact absurd (h.1.symm.trans hw) (nI_nm (by have := h.2.1; omega))
  | inr x =>
    obtain ⟨p2, w⟩ := x
    rcases h with h | ⟨_, h⟩
    · exact ⟨p2, w, rfl, h⟩
    · exact absurd (h.1.symm.trans hw) (nI_nm (by have := h.2.1; omega))
-- the walk of M_term
set_option maxRecDepth 100000 in
def B_M_term_44 (Γ : GAM) (R_M_atom : Nat → GH → (GH → Prop) → Prop) (K4 : Nat → GH → Prop) (K : GH → Prop)  (g : GH) : Prop :=
  K g
set_option maxHeartbeats 4000000 in
set_option maxRecDepth 100000 in
theorem S_M_term_44 {Γ : GAM} {E : EV} {fr lo : Nat} {K : GH → Prop} (hE : GE Γ E cX11_term 1 RX11 none fr lo (fun r g' => r = none ∧ K g')) (hfr : 1 ≤ fr) (hlo : 21 ≤ lo) {R_M_atom : Nat → GH → (GH → Prop) → Prop} {f_M_atom l_M_atom : Nat} (hR_M_atom : (f_M_atom + 1 ≤ fr ∧ 8 + (2 + 11) + l_M_atom ≤ lo) ∧ ∀ (th : Nat) g (K : GH → Prop), R_M_atom th g K → MetA Γ E.2.1 yX11_atom cX11_atom 2 none f_M_atom l_M_atom [.ref th] g (fun r g' => r = none ∧ K g')) {K4 : Nat → GH → Prop} (hK4 : ∀ (l0 : Nat) (g : GH), K4 l0 g → JW Γ E 4 [some (.ref l0)] [] g)  (g : GH) (h : B_M_term_44 Γ R_M_atom K4 K  g) : JW Γ E 44 [none] [] g := by
  unfold B_M_term_44 at h
  exact j_vret hE (by decide +kernel : decode cX11_term 44 = .ok (.return_, 1)) ⟨rfl, h⟩
set_option maxRecDepth 100000 in
def B_M_term_4 (Γ : GAM) (R_M_atom : Nat → GH → (GH → Prop) → Prop) (K4 : Nat → GH → Prop) (K : GH → Prop) (l0 : Nat) (g : GH) : Prop :=
  Kd g l0 = 13 ∧ ((¬ ((Gi g 1590 l0) = (-1 : Int32)) → B_M_term_44 Γ R_M_atom K4 K g) ∧ ((Gi g 1590 l0) = (-1 : Int32) → Kd g l0 = 13 ∧ Sp_M_look Γ l0 g (fun (x2 : Int32) (g1 : GH) => ((¬ (x2 = (42 : Int32)) → B_M_term_44 Γ R_M_atom K4 K g1) ∧ (x2 = (42 : Int32) → Kd g1 l0 = 13 ∧ Kd g1 l0 = 13 ∧ ∀ g3 : GH, g3 = sI g1 1589 l0 ((Gi g1 1589 l0) + (1 : Int32)) → Kd g3 l0 = 13 ∧ R_M_atom l0 g3 (fun (g4 : GH) => Kd g4 l0 = 13 ∧ Sp_M_say Γ l0 (42 : Int32) g4 (fun (g5 : GH) => K4 l0 g5)))))))
set_option maxHeartbeats 4000000 in
set_option maxRecDepth 100000 in
theorem S_M_term_4 {Γ : GAM} {E : EV} {fr lo : Nat} {K : GH → Prop} (hE : GE Γ E cX11_term 1 RX11 none fr lo (fun r g' => r = none ∧ K g')) (hfr : 1 ≤ fr) (hlo : 21 ≤ lo) {R_M_atom : Nat → GH → (GH → Prop) → Prop} {f_M_atom l_M_atom : Nat} (hR_M_atom : (f_M_atom + 1 ≤ fr ∧ 8 + (2 + 11) + l_M_atom ≤ lo) ∧ ∀ (th : Nat) g (K : GH → Prop), R_M_atom th g K → MetA Γ E.2.1 yX11_atom cX11_atom 2 none f_M_atom l_M_atom [.ref th] g (fun r g' => r = none ∧ K g')) {K4 : Nat → GH → Prop} (hK4 : ∀ (l0 : Nat) (g : GH), K4 l0 g → JW Γ E 4 [some (.ref l0)] [] g) (l0 : Nat) (g : GH) (h : B_M_term_4 Γ R_M_atom K4 K l0 g) : JW Γ E 4 [some (.ref l0)] [] g := by
  unfold B_M_term_4 at h
  refine j_aload_n hE (by decide +kernel : decode cX11_term 4 = .ok (.aload_n 0, 1)) rfl rfl ?_
  obtain ⟨hk, h⟩ := h
  refine j_getI hE fg_X11_304 hk (by decide +kernel : decode cX11_term 5 = .ok (.getfield 304, 3)) ?_
  refine j_iconst hE (by decide +kernel : decode cX11_term 8 = .ok (.iconst (-1), 1)) (v := (-1 : Int32)) (by decide) ?_
  refine j_icmp_ne hE (by decide +kernel : decode cX11_term 9 = .ok (.if_icmp .ne 35, 3)) (tgt := 44) (by decide) (fun q => ?_) (fun q => ?_)
  · replace h := h.1 q
    refine j_weak [none] trivial ?_
    exact S_M_term_44 hE hfr hlo hR_M_atom hK4 _ h
  · replace h := h.2 q
    refine j_aload_n hE (by decide +kernel : decode cX11_term 12 = .ok (.aload_n 0, 1)) rfl rfl ?_
    obtain ⟨hk, h⟩ := h
    refine j_callV hE rfl cl_X11_316 cf_12 im_X11_look se_X11_look ⟨by omega, by omega⟩ (As := []) (rest := []) rfl rfl (Nat.le_of_ble_eq_true rfl) hk (by decide +kernel : decode cX11_term 13 = .ok (.invokevirtual 316, 3)) (mt_M_look _ _ _ h) ?_
    rintro _ g1 ⟨x2, rfl, h⟩
    refine j_bipush hE (by decide +kernel : decode cX11_term 16 = .ok (.bipush 42, 2)) (v := (42 : Int32)) (by decide) ?_
    refine j_icmp_ne hE (by decide +kernel : decode cX11_term 18 = .ok (.if_icmp .ne 26, 3)) (tgt := 44) (by decide) (fun q => ?_) (fun q => ?_)
    · replace h := h.1 q
      refine j_weak [none] trivial ?_
      exact S_M_term_44 hE hfr hlo hR_M_atom hK4 _ h
    · replace h := h.2 q
      refine j_aload_n hE (by decide +kernel : decode cX11_term 21 = .ok (.aload_n 0, 1)) rfl rfl ?_
      refine j_dup hE (by decide +kernel : decode cX11_term 22 = .ok (.dup, 1)) rfl ?_
      obtain ⟨hk, h⟩ := h
      refine j_getI hE fg_X11_301 hk (by decide +kernel : decode cX11_term 23 = .ok (.getfield 301, 3)) ?_
      refine j_iconst hE (by decide +kernel : decode cX11_term 26 = .ok (.iconst 1, 1)) (v := (1 : Int32)) (by decide) ?_
      refine j_iadd hE (by decide +kernel : decode cX11_term 27 = .ok (.iadd, 1)) ?_
      obtain ⟨hk, h⟩ := h
      obtain ⟨g3, hg⟩ : ∃ z, z = sI g1 1589 l0 ((Gi g1 1589 l0) + (1 : Int32)) := ⟨_, rfl⟩; replace h := h g3 hg
      refine j_putI hE fa_X11_301 hk (fun q => by cases q) (by decide +kernel : decode cX11_term 28 = .ok (.putfield 301, 3)) ?_
      rw [← hg]
      refine j_aload_n hE (by decide +kernel : decode cX11_term 31 = .ok (.aload_n 0, 1)) rfl rfl ?_
      obtain ⟨hk, h⟩ := h
      refine j_callV hE rfl cl_X11_337 cf_12 im_X11_atom se_X11_atom hR_M_atom.1 (As := []) (rest := []) rfl rfl (Nat.le_of_ble_eq_true rfl) hk (by decide +kernel : decode cX11_term 32 = .ok (.invokevirtual 337, 3)) (hR_M_atom.2 _ _ _ h) ?_
      rintro _ g4 ⟨rfl, h⟩
      refine j_aload_n hE (by decide +kernel : decode cX11_term 35 = .ok (.aload_n 0, 1)) rfl rfl ?_
      refine j_bipush hE (by decide +kernel : decode cX11_term 36 = .ok (.bipush 42, 2)) (v := (42 : Int32)) (by decide) ?_
      obtain ⟨hk, h⟩ := h
      refine j_callV hE rfl cl_X11_323 cf_12 im_X11_say se_X11_say ⟨by omega, by omega⟩ (As := [.int (42 : Int32)]) (rest := []) rfl rfl (Nat.le_of_ble_eq_true rfl) hk (by decide +kernel : decode cX11_term 38 = .ok (.invokevirtual 323, 3)) (mt_M_say _ _ _ _ h) ?_
      rintro _ g5 ⟨rfl, h⟩
      refine j_goto hE (by decide +kernel : decode cX11_term 41 = .ok (.goto (-37), 3)) (tgt := 4) (by decide) ?_
      exact hK4 _ _ h
set_option maxRecDepth 100000 in
def B_M_term_0 (Γ : GAM) (R_M_atom : Nat → GH → (GH → Prop) → Prop) (K4 : Nat → GH → Prop) (K : GH → Prop) (th : Nat) (g : GH) : Prop :=
  Kd g th = 13 ∧ R_M_atom th g (fun (g1 : GH) => K4 th g1)
set_option maxHeartbeats 4000000 in
set_option maxRecDepth 100000 in
theorem S_M_term_0 {Γ : GAM} {E : EV} {fr lo : Nat} {K : GH → Prop} (hE : GE Γ E cX11_term 1 RX11 none fr lo (fun r g' => r = none ∧ K g')) (hfr : 1 ≤ fr) (hlo : 21 ≤ lo) {R_M_atom : Nat → GH → (GH → Prop) → Prop} {f_M_atom l_M_atom : Nat} (hR_M_atom : (f_M_atom + 1 ≤ fr ∧ 8 + (2 + 11) + l_M_atom ≤ lo) ∧ ∀ (th : Nat) g (K : GH → Prop), R_M_atom th g K → MetA Γ E.2.1 yX11_atom cX11_atom 2 none f_M_atom l_M_atom [.ref th] g (fun r g' => r = none ∧ K g')) {K4 : Nat → GH → Prop} (hK4 : ∀ (l0 : Nat) (g : GH), K4 l0 g → JW Γ E 4 [some (.ref l0)] [] g) (th : Nat) (g : GH) (h : B_M_term_0 Γ R_M_atom K4 K th g) : JW Γ E 0 [some (.ref th)] [] g := by
  unfold B_M_term_0 at h
  refine j_aload_n hE (by decide +kernel : decode cX11_term 0 = .ok (.aload_n 0, 1)) rfl rfl ?_
  obtain ⟨hk, h⟩ := h
  refine j_callV hE rfl cl_X11_337 cf_12 im_X11_atom se_X11_atom hR_M_atom.1 (As := []) (rest := []) rfl rfl (Nat.le_of_ble_eq_true rfl) hk (by decide +kernel : decode cX11_term 1 = .ok (.invokevirtual 337, 3)) (hR_M_atom.2 _ _ _ h) ?_
  rintro _ g1 ⟨rfl, h⟩
  exact hK4 _ _ h
set_option maxHeartbeats 4000000 in
set_option maxRecDepth 100000 in
theorem rl_M_term {Γ : GAM} {l : Launch} {fr lo : Nat} (hfr : 1 ≤ fr) (hlo : 21 ≤ lo) {R_M_atom : Nat → GH → (GH → Prop) → Prop} {f_M_atom l_M_atom : Nat} (hR_M_atom : (f_M_atom + 1 ≤ fr ∧ 8 + (2 + 11) + l_M_atom ≤ lo) ∧ ∀ (th : Nat) g (K : GH → Prop), R_M_atom th g K → MetA Γ l yX11_atom cX11_atom 2 none f_M_atom l_M_atom [.ref th] g (fun r g' => r = none ∧ K g')) {th : Nat} {g : GH} {K : GH → Prop} (I4 : Nat → Nat → GH → Prop) (hh4 : ∀ n (l0 : Nat) (g : GH), I4 n l0 g → B_M_term_4 Γ R_M_atom (fun l0 g => ∃ m, m < n ∧ I4 m l0 g) K l0 g) (h0 : B_M_term_0 Γ R_M_atom (fun l0 g => ∃ m, I4 m l0 g) K th g) : MetA Γ l yX11_term cX11_term 1 none fr lo [.ref th] g (fun r g' => r = none ∧ K g') := by
  refine MetA.introL (Lx := [some (.ref th)]) (by decide) (Nat.le_of_ble_eq_true rfl) rfl rfl ?_
  intro E hEl hE hnm
  have hR_M_atom := hR_M_atom; rw [← hEl] at hR_M_atom
  have hall : ∀ n, (∀ (l0 : Nat) (g : GH), I4 n l0 g → JW Γ E 4 [some (.ref l0)] [] g) := by
    intro n
    induction n using Nat.strongRecOn with
    | ind n ih =>
      exact fun l0 g hi => S_M_term_4 hE hfr hlo hR_M_atom (fun l0 g hm => by obtain ⟨m, hm, h⟩ := hm; exact (ih m hm) l0 g h) l0 g (hh4 n l0 g hi)
  exact S_M_term_0 hE hfr hlo hR_M_atom (fun l0 g hm => by obtain ⟨m, h⟩ := hm; exact (hall m) l0 g h) th g h0
theorem mq_term {Γ : GAM} {l : Launch} {S : List Int32 → Nat → PRs} {B dd : Nat} {f' l' : Nat} (hS : ∀ t, PG t false (S t)) (hB : B ≤ 95) (hrec : ∀ (th : Nat) (g : GH) (K : GH → Prop), SpR S B dd Γ th g K → MetA Γ l yX11_atom cX11_atom 2 none f' l' [.ref th] g (fun r g' => r = none ∧ K g')) (f lo : Nat) (hf : f' + 1 ≤ f) (hlo : 50 + l' ≤ lo) (th : Nat) (g : GH) (K : GH → Prop) (h : SpR (fun t => pSq t (S t) sp42) (B + 1) dd Γ th g K) : MetA Γ l yX11_term cX11_term 1 none f lo [.ref th] g (fun r g' => r = none ∧ K g') := by
  obtain ⟨ma, s, p0, sd, hI, hw, hP, hsl, hK⟩ := h
  have hT := hw.len.2.2.2.2.2.2.2.2.1
  have hpl := hP.2.1
  refine rl_M_term (R_M_atom := SpR S B dd Γ) (f_M_atom := f') (l_M_atom := l') (by omega) (by omega) ⟨⟨hf, by omega⟩, hrec⟩
    (fun n l0 g' => th = l0 ∧ ∃ cur ff, FrX th [1589, 1590, 1591, 1592] [1583] g g' ∧ PO th g' s sd dd (B + 1) cur ∧ OKr (s_tap s) p0 false cur ∧ n = pMe (s_tap s) cur ∧ (∀ p ws, cur = .inr (p, ws) → (s_tap s).length ≤ ff + p) ∧ pSq (s_tap s) (S (s_tap s)) sp42 p0 = pFn (s_tap s) (S (s_tap s)) sp42 ff cur) ?_ ?_
  · rintro n l0 g' ⟨rfl, cur, ff, hfx, hO, hok, rfl, hff, hfin⟩
    have hI' := hI.x hfx (by decide +kernel)
    have hkd := hI'.1.1
    suffices H : ∀ (K4 : Nat → GH → Prop), (∀ g2 cur2 ff2, FrX th [1589, 1590, 1591, 1592] [1583] g g2 → PO th g2 s sd dd (B + 1) cur2 → OKr (s_tap s) p0 false cur2 → pMe (s_tap s) cur2 < pMe (s_tap s) cur → (∀ p ws, cur2 = .inr (p, ws) → (s_tap s).length ≤ ff2 + p) → pSq (s_tap s) (S (s_tap s)) sp42 p0 = pFn (s_tap s) (S (s_tap s)) sp42 ff2 cur2 → K4 th g2) → B_M_term_4 Γ (SpR S B dd Γ) K4 K th g' from
      H _ (fun g2 cur2 ff2 h1 h2 h3 h4 h5 h6 => ⟨pMe (s_tap s) cur2, h4, rfl, cur2, ff2, h1, h2, h3, rfl, h5, h6⟩)
    intro K4 h4
    unfold B_M_term_4 B_M_term_44
    refine ⟨hkd, fun u => ?_, fun u => ⟨hkd, ?_⟩⟩
    · refine hK g' hfx ?_
      simp only
      rw [hfin]
      rcases hO.wr u with ⟨e, rfl⟩ | ⟨p, w, rfl, hs, hW⟩
      · exact hO
      · have hd := dg_n hs
        rw [pFn_no (by decide) (hff p w rfl) (by rw [skp_n hd.1]; unfold sp42; simp [hd]), skp_n hd.1]
        exact .inr ⟨hs, hW⟩
    · obtain ⟨p, ws, rfl, hN⟩ := hO.nm u
      obtain ⟨o1, o2, o3, o4, o5⟩ := id hok
      have hffp := hff p ws rfl
      refine ⟨ma, s, p, hI', hw, hN.1, by omega, fun g1 hx1 ha1 => ?_⟩
      have hI1 := hI'.x hx1 (by decide +kernel)
      have hkd1 := hI1.1.1
      have hf1 : FrX th [1589, 1590, 1591, 1592] [1583] g g1 := hfx.tr (hx1.up (by decide) (by decide))
      have hN1 := hN.x hx1 ha1 (skp_le o2)
      refine ⟨fun q => ?_, fun q => ⟨hkd1, hkd1, ?_⟩⟩
      · refine hK g1 hf1 ?_
        simp only
        rw [hfin, pFn_no (by decide) hffp (by unfold sp42; simp [q])]
        exact .inl hN1
      · rintro g3 rfl
        have hlt : skp (s_tap s) p < (s_tap s).length := chr_in (by rw [q]; decide)
        have hN3 := hN1.pos hlt
        have hx3 : FrX th [1589, 1590, 1591, 1592] [1583] g1 (sI g1 1589 th (Gi g1 1589 th + 1)) := FrA
        have hI3 := hI1.x hx3 (by decide +kernel)
        have hcs : sp42 (chr (s_tap s) (skp (s_tap s) p)) = true := by rw [q]; decide
        have g1' := skp_ge (s_tap s) p
        obtain ⟨ok1, ok2⟩ := OKr_st (hS _) (by decide) op42 hok hcs
        rw [pFn_st (by decide) hffp hcs, q] at hfin
        rw [q] at ok1
        refine ⟨hkd1, ma, s, skp (s_tap s) p + 1, sd ++ enC ws, hI3, hw, hN3, by rw [List.length_append]; omega, fun g4 hx4 hO4 => ?_⟩
        have hI4 := hI3.x hx4 (by decide +kernel)
        obtain ⟨k, k1, k2, k3⟩ := hO4.k (by omega) (fun p2 w hr => by have := ok2 p2 w hr; simp only [List.length_append]; omega)
        refine ⟨hI4.1.1, ma, s, k, hI4, k1, k2, fun g5 hg5 => ?_⟩
        have hO5 := (k3 42 (by decide)).pre
        rw [← hg5] at hO5
        refine h4 g5 _ (ff - 1) (hf1.tr (hx3.tr (hx4.tr (by rw [hg5]; exact FrP)))) hO5 ok1 ?_ (fun p2 w hr => ?_) hfin
        · cases hr : S (s_tap s) (skp (s_tap s) p + 1) with
          | inl e => show 0 < _; unfold pMe; simp only; omega
          | inr x =>
            obtain ⟨p2, w⟩ := x
            have := ok2 p2 w hr
            show 1 + ((s_tap s).length - p2) < 1 + ((s_tap s).length - p)
            omega
        · cases hr2 : S (s_tap s) (skp (s_tap s) p + 1) with
          | inl e => rw [hr2] at hr; cases hr
          | inr x =>
            obtain ⟨p3, w3⟩ := x
            have := ok2 p3 w3 hr2
            rw [hr2] at hr
            have hp2 : p3 = p2 := by
              have hr' : (Sum.inr (p3, ws ++ (w3 ++ [-42])) : PRs) = .inr (p2, w) := hr
              exact congrArg Prod.fst (Sum.inr.inj hr')
            omega
  · unfold B_M_term_0
    refine ⟨hI.1.1, ma, s, p0, sd, hI, hw, hP, hsl, fun g1 hx1 hO1 => ?_⟩
    have hok := hS (s_tap s) p0 hpl
    refine ⟨_, rfl, S (s_tap s) p0, (s_tap s).length, hx1, hO1.up (by omega), hok, rfl, fun p ws _ => by omega, ?_⟩
    unfold pSq pFn
    cases S (s_tap s) p0 with
    | inl e => rfl
    | inr x => rfl
-- the walk of M_part
set_option maxRecDepth 100000 in
def B_M_part_44 (Γ : GAM) (R_M_unit : Nat → GH → (GH → Prop) → Prop) (K4 : Nat → GH → Prop) (K : GH → Prop)  (g : GH) : Prop :=
  K g
set_option maxHeartbeats 4000000 in
set_option maxRecDepth 100000 in
theorem S_M_part_44 {Γ : GAM} {E : EV} {fr lo : Nat} {K : GH → Prop} (hE : GE Γ E cX11_part 1 RX11 none fr lo (fun r g' => r = none ∧ K g')) (hfr : 1 ≤ fr) (hlo : 21 ≤ lo) {R_M_unit : Nat → GH → (GH → Prop) → Prop} {f_M_unit l_M_unit : Nat} (hR_M_unit : (f_M_unit + 1 ≤ fr ∧ 8 + (3 + 11) + l_M_unit ≤ lo) ∧ ∀ (th : Nat) g (K : GH → Prop), R_M_unit th g K → MetA Γ E.2.1 yX11_unit cX11_unit 3 none f_M_unit l_M_unit [.ref th] g (fun r g' => r = none ∧ K g')) {K4 : Nat → GH → Prop} (hK4 : ∀ (l0 : Nat) (g : GH), K4 l0 g → JW Γ E 4 [some (.ref l0)] [] g)  (g : GH) (h : B_M_part_44 Γ R_M_unit K4 K  g) : JW Γ E 44 [none] [] g := by
  unfold B_M_part_44 at h
  exact j_vret hE (by decide +kernel : decode cX11_part 44 = .ok (.return_, 1)) ⟨rfl, h⟩
set_option maxRecDepth 100000 in
def B_M_part_4 (Γ : GAM) (R_M_unit : Nat → GH → (GH → Prop) → Prop) (K4 : Nat → GH → Prop) (K : GH → Prop) (l0 : Nat) (g : GH) : Prop :=
  Kd g l0 = 13 ∧ ((¬ ((Gi g 1590 l0) = (-1 : Int32)) → B_M_part_44 Γ R_M_unit K4 K g) ∧ ((Gi g 1590 l0) = (-1 : Int32) → Kd g l0 = 13 ∧ Sp_M_look Γ l0 g (fun (x2 : Int32) (g1 : GH) => ((¬ (x2 = (38 : Int32)) → B_M_part_44 Γ R_M_unit K4 K g1) ∧ (x2 = (38 : Int32) → Kd g1 l0 = 13 ∧ Kd g1 l0 = 13 ∧ ∀ g3 : GH, g3 = sI g1 1589 l0 ((Gi g1 1589 l0) + (1 : Int32)) → Kd g3 l0 = 13 ∧ R_M_unit l0 g3 (fun (g4 : GH) => Kd g4 l0 = 13 ∧ Sp_M_say Γ l0 (38 : Int32) g4 (fun (g5 : GH) => K4 l0 g5)))))))
set_option maxHeartbeats 4000000 in
set_option maxRecDepth 100000 in
theorem S_M_part_4 {Γ : GAM} {E : EV} {fr lo : Nat} {K : GH → Prop} (hE : GE Γ E cX11_part 1 RX11 none fr lo (fun r g' => r = none ∧ K g')) (hfr : 1 ≤ fr) (hlo : 21 ≤ lo) {R_M_unit : Nat → GH → (GH → Prop) → Prop} {f_M_unit l_M_unit : Nat} (hR_M_unit : (f_M_unit + 1 ≤ fr ∧ 8 + (3 + 11) + l_M_unit ≤ lo) ∧ ∀ (th : Nat) g (K : GH → Prop), R_M_unit th g K → MetA Γ E.2.1 yX11_unit cX11_unit 3 none f_M_unit l_M_unit [.ref th] g (fun r g' => r = none ∧ K g')) {K4 : Nat → GH → Prop} (hK4 : ∀ (l0 : Nat) (g : GH), K4 l0 g → JW Γ E 4 [some (.ref l0)] [] g) (l0 : Nat) (g : GH) (h : B_M_part_4 Γ R_M_unit K4 K l0 g) : JW Γ E 4 [some (.ref l0)] [] g := by
  unfold B_M_part_4 at h
  refine j_aload_n hE (by decide +kernel : decode cX11_part 4 = .ok (.aload_n 0, 1)) rfl rfl ?_
  obtain ⟨hk, h⟩ := h
  refine j_getI hE fg_X11_304 hk (by decide +kernel : decode cX11_part 5 = .ok (.getfield 304, 3)) ?_
  refine j_iconst hE (by decide +kernel : decode cX11_part 8 = .ok (.iconst (-1), 1)) (v := (-1 : Int32)) (by decide) ?_
  refine j_icmp_ne hE (by decide +kernel : decode cX11_part 9 = .ok (.if_icmp .ne 35, 3)) (tgt := 44) (by decide) (fun q => ?_) (fun q => ?_)
  · replace h := h.1 q
    refine j_weak [none] trivial ?_
    exact S_M_part_44 hE hfr hlo hR_M_unit hK4 _ h
  · replace h := h.2 q
    refine j_aload_n hE (by decide +kernel : decode cX11_part 12 = .ok (.aload_n 0, 1)) rfl rfl ?_
    obtain ⟨hk, h⟩ := h
    refine j_callV hE rfl cl_X11_316 cf_12 im_X11_look se_X11_look ⟨by omega, by omega⟩ (As := []) (rest := []) rfl rfl (Nat.le_of_ble_eq_true rfl) hk (by decide +kernel : decode cX11_part 13 = .ok (.invokevirtual 316, 3)) (mt_M_look _ _ _ h) ?_
    rintro _ g1 ⟨x2, rfl, h⟩
    refine j_bipush hE (by decide +kernel : decode cX11_part 16 = .ok (.bipush 38, 2)) (v := (38 : Int32)) (by decide) ?_
    refine j_icmp_ne hE (by decide +kernel : decode cX11_part 18 = .ok (.if_icmp .ne 26, 3)) (tgt := 44) (by decide) (fun q => ?_) (fun q => ?_)
    · replace h := h.1 q
      refine j_weak [none] trivial ?_
      exact S_M_part_44 hE hfr hlo hR_M_unit hK4 _ h
    · replace h := h.2 q
      refine j_aload_n hE (by decide +kernel : decode cX11_part 21 = .ok (.aload_n 0, 1)) rfl rfl ?_
      refine j_dup hE (by decide +kernel : decode cX11_part 22 = .ok (.dup, 1)) rfl ?_
      obtain ⟨hk, h⟩ := h
      refine j_getI hE fg_X11_301 hk (by decide +kernel : decode cX11_part 23 = .ok (.getfield 301, 3)) ?_
      refine j_iconst hE (by decide +kernel : decode cX11_part 26 = .ok (.iconst 1, 1)) (v := (1 : Int32)) (by decide) ?_
      refine j_iadd hE (by decide +kernel : decode cX11_part 27 = .ok (.iadd, 1)) ?_
      obtain ⟨hk, h⟩ := h
      obtain ⟨g3, hg⟩ : ∃ z, z = sI g1 1589 l0 ((Gi g1 1589 l0) + (1 : Int32)) := ⟨_, rfl⟩; replace h := h g3 hg
      refine j_putI hE fa_X11_301 hk (fun q => by cases q) (by decide +kernel : decode cX11_part 28 = .ok (.putfield 301, 3)) ?_
      rw [← hg]
      refine j_aload_n hE (by decide +kernel : decode cX11_part 31 = .ok (.aload_n 0, 1)) rfl rfl ?_
      obtain ⟨hk, h⟩ := h
      refine j_callV hE rfl cl_X11_349 cf_12 im_X11_unit se_X11_unit hR_M_unit.1 (As := []) (rest := []) rfl rfl (Nat.le_of_ble_eq_true rfl) hk (by decide +kernel : decode cX11_part 32 = .ok (.invokevirtual 349, 3)) (hR_M_unit.2 _ _ _ h) ?_
      rintro _ g4 ⟨rfl, h⟩
      refine j_aload_n hE (by decide +kernel : decode cX11_part 35 = .ok (.aload_n 0, 1)) rfl rfl ?_
      refine j_bipush hE (by decide +kernel : decode cX11_part 36 = .ok (.bipush 38, 2)) (v := (38 : Int32)) (by decide) ?_
      obtain ⟨hk, h⟩ := h
      refine j_callV hE rfl cl_X11_323 cf_12 im_X11_say se_X11_say ⟨by omega, by omega⟩ (As := [.int (38 : Int32)]) (rest := []) rfl rfl (Nat.le_of_ble_eq_true rfl) hk (by decide +kernel : decode cX11_part 38 = .ok (.invokevirtual 323, 3)) (mt_M_say _ _ _ _ h) ?_
      rintro _ g5 ⟨rfl, h⟩
      refine j_goto hE (by decide +kernel : decode cX11_part 41 = .ok (.goto (-37), 3)) (tgt := 4) (by decide) ?_
      exact hK4 _ _ h
set_option maxRecDepth 100000 in
def B_M_part_0 (Γ : GAM) (R_M_unit : Nat → GH → (GH → Prop) → Prop) (K4 : Nat → GH → Prop) (K : GH → Prop) (th : Nat) (g : GH) : Prop :=
  Kd g th = 13 ∧ R_M_unit th g (fun (g1 : GH) => K4 th g1)
set_option maxHeartbeats 4000000 in
set_option maxRecDepth 100000 in
theorem S_M_part_0 {Γ : GAM} {E : EV} {fr lo : Nat} {K : GH → Prop} (hE : GE Γ E cX11_part 1 RX11 none fr lo (fun r g' => r = none ∧ K g')) (hfr : 1 ≤ fr) (hlo : 21 ≤ lo) {R_M_unit : Nat → GH → (GH → Prop) → Prop} {f_M_unit l_M_unit : Nat} (hR_M_unit : (f_M_unit + 1 ≤ fr ∧ 8 + (3 + 11) + l_M_unit ≤ lo) ∧ ∀ (th : Nat) g (K : GH → Prop), R_M_unit th g K → MetA Γ E.2.1 yX11_unit cX11_unit 3 none f_M_unit l_M_unit [.ref th] g (fun r g' => r = none ∧ K g')) {K4 : Nat → GH → Prop} (hK4 : ∀ (l0 : Nat) (g : GH), K4 l0 g → JW Γ E 4 [some (.ref l0)] [] g) (th : Nat) (g : GH) (h : B_M_part_0 Γ R_M_unit K4 K th g) : JW Γ E 0 [some (.ref th)] [] g := by
  unfold B_M_part_0 at h
  refine j_aload_n hE (by decide +kernel : decode cX11_part 0 = .ok (.aload_n 0, 1)) rfl rfl ?_
  obtain ⟨hk, h⟩ := h
  refine j_callV hE rfl cl_X11_349 cf_12 im_X11_unit se_X11_unit hR_M_unit.1 (As := []) (rest := []) rfl rfl (Nat.le_of_ble_eq_true rfl) hk (by decide +kernel : decode cX11_part 1 = .ok (.invokevirtual 349, 3)) (hR_M_unit.2 _ _ _ h) ?_
  rintro _ g1 ⟨rfl, h⟩
  exact hK4 _ _ h
set_option maxHeartbeats 4000000 in
set_option maxRecDepth 100000 in
theorem rl_M_part {Γ : GAM} {l : Launch} {fr lo : Nat} (hfr : 1 ≤ fr) (hlo : 21 ≤ lo) {R_M_unit : Nat → GH → (GH → Prop) → Prop} {f_M_unit l_M_unit : Nat} (hR_M_unit : (f_M_unit + 1 ≤ fr ∧ 8 + (3 + 11) + l_M_unit ≤ lo) ∧ ∀ (th : Nat) g (K : GH → Prop), R_M_unit th g K → MetA Γ l yX11_unit cX11_unit 3 none f_M_unit l_M_unit [.ref th] g (fun r g' => r = none ∧ K g')) {th : Nat} {g : GH} {K : GH → Prop} (I4 : Nat → Nat → GH → Prop) (hh4 : ∀ n (l0 : Nat) (g : GH), I4 n l0 g → B_M_part_4 Γ R_M_unit (fun l0 g => ∃ m, m < n ∧ I4 m l0 g) K l0 g) (h0 : B_M_part_0 Γ R_M_unit (fun l0 g => ∃ m, I4 m l0 g) K th g) : MetA Γ l yX11_part cX11_part 1 none fr lo [.ref th] g (fun r g' => r = none ∧ K g') := by
  refine MetA.introL (Lx := [some (.ref th)]) (by decide) (Nat.le_of_ble_eq_true rfl) rfl rfl ?_
  intro E hEl hE hnm
  have hR_M_unit := hR_M_unit; rw [← hEl] at hR_M_unit
  have hall : ∀ n, (∀ (l0 : Nat) (g : GH), I4 n l0 g → JW Γ E 4 [some (.ref l0)] [] g) := by
    intro n
    induction n using Nat.strongRecOn with
    | ind n ih =>
      exact fun l0 g hi => S_M_part_4 hE hfr hlo hR_M_unit (fun l0 g hm => by obtain ⟨m, hm, h⟩ := hm; exact (ih m hm) l0 g h) l0 g (hh4 n l0 g hi)
  exact S_M_part_0 hE hfr hlo hR_M_unit (fun l0 g hm => by obtain ⟨m, h⟩ := hm; exact (hall m) l0 g h) th g h0
theorem mq_part {Γ : GAM} {l : Launch} {S : List Int32 → Nat → PRs} {B dd : Nat} {f' l' : Nat} (hS : ∀ t, PG t true (S t)) (hB : B ≤ 95) (hrec : ∀ (th : Nat) (g : GH) (K : GH → Prop), SpR S B dd Γ th g K → MetA Γ l yX11_unit cX11_unit 3 none f' l' [.ref th] g (fun r g' => r = none ∧ K g')) (f lo : Nat) (hf : f' + 1 ≤ f) (hlo : 50 + l' ≤ lo) (th : Nat) (g : GH) (K : GH → Prop) (h : SpR (fun t => pSq t (S t) sp38) (B + 1) dd Γ th g K) : MetA Γ l yX11_part cX11_part 1 none f lo [.ref th] g (fun r g' => r = none ∧ K g') := by
  obtain ⟨ma, s, p0, sd, hI, hw, hP, hsl, hK⟩ := h
  have hT := hw.len.2.2.2.2.2.2.2.2.1
  have hpl := hP.2.1
  refine rl_M_part (R_M_unit := SpR S B dd Γ) (f_M_unit := f') (l_M_unit := l') (by omega) (by omega) ⟨⟨hf, by omega⟩, hrec⟩
    (fun n l0 g' => th = l0 ∧ ∃ cur ff, FrX th [1589, 1590, 1591, 1592] [1583] g g' ∧ PO th g' s sd dd (B + 1) cur ∧ OKr (s_tap s) p0 true cur ∧ n = pMe (s_tap s) cur ∧ (∀ p ws, cur = .inr (p, ws) → (s_tap s).length ≤ ff + p) ∧ pSq (s_tap s) (S (s_tap s)) sp38 p0 = pFn (s_tap s) (S (s_tap s)) sp38 ff cur) ?_ ?_
  · rintro n l0 g' ⟨rfl, cur, ff, hfx, hO, hok, rfl, hff, hfin⟩
    have hI' := hI.x hfx (by decide +kernel)
    have hkd := hI'.1.1
    suffices H : ∀ (K4 : Nat → GH → Prop), (∀ g2 cur2 ff2, FrX th [1589, 1590, 1591, 1592] [1583] g g2 → PO th g2 s sd dd (B + 1) cur2 → OKr (s_tap s) p0 true cur2 → pMe (s_tap s) cur2 < pMe (s_tap s) cur → (∀ p ws, cur2 = .inr (p, ws) → (s_tap s).length ≤ ff2 + p) → pSq (s_tap s) (S (s_tap s)) sp38 p0 = pFn (s_tap s) (S (s_tap s)) sp38 ff2 cur2 → K4 th g2) → B_M_part_4 Γ (SpR S B dd Γ) K4 K th g' from
      H _ (fun g2 cur2 ff2 h1 h2 h3 h4 h5 h6 => ⟨pMe (s_tap s) cur2, h4, rfl, cur2, ff2, h1, h2, h3, rfl, h5, h6⟩)
    intro K4 h4
    unfold B_M_part_4 B_M_part_44
    refine ⟨hkd, fun u => ?_, fun u => ⟨hkd, ?_⟩⟩
    · refine hK g' hfx ?_
      simp only
      rw [hfin]
      rcases hO.wr u with ⟨e, rfl⟩ | ⟨p, w, rfl, hs, hW⟩
      · exact hO
      · have hd := dg_n hs
        rw [pFn_no (by decide) (hff p w rfl) (by rw [skp_n hd.1]; unfold sp38; simp [hd]), skp_n hd.1]
        exact .inr ⟨hs, hW⟩
    · obtain ⟨p, ws, rfl, hN⟩ := hO.nm u
      obtain ⟨o1, o2, o3, o4, o5⟩ := id hok
      have hffp := hff p ws rfl
      refine ⟨ma, s, p, hI', hw, hN.1, by omega, fun g1 hx1 ha1 => ?_⟩
      have hI1 := hI'.x hx1 (by decide +kernel)
      have hkd1 := hI1.1.1
      have hf1 : FrX th [1589, 1590, 1591, 1592] [1583] g g1 := hfx.tr (hx1.up (by decide) (by decide))
      have hN1 := hN.x hx1 ha1 (skp_le o2)
      refine ⟨fun q => ?_, fun q => ⟨hkd1, hkd1, ?_⟩⟩
      · refine hK g1 hf1 ?_
        simp only
        rw [hfin, pFn_no (by decide) hffp (by unfold sp38; simp [q])]
        exact .inl hN1
      · rintro g3 rfl
        have hlt : skp (s_tap s) p < (s_tap s).length := chr_in (by rw [q]; decide)
        have hN3 := hN1.pos hlt
        have hx3 : FrX th [1589, 1590, 1591, 1592] [1583] g1 (sI g1 1589 th (Gi g1 1589 th + 1)) := FrA
        have hI3 := hI1.x hx3 (by decide +kernel)
        have hcs : sp38 (chr (s_tap s) (skp (s_tap s) p)) = true := by rw [q]; decide
        have g1' := skp_ge (s_tap s) p
        obtain ⟨ok1, ok2⟩ := OKr_st (hS _) (by decide) op38 hok hcs
        rw [pFn_st (by decide) hffp hcs, q] at hfin
        rw [q] at ok1
        refine ⟨hkd1, ma, s, skp (s_tap s) p + 1, sd ++ enC ws, hI3, hw, hN3, by rw [List.length_append]; omega, fun g4 hx4 hO4 => ?_⟩
        have hI4 := hI3.x hx4 (by decide +kernel)
        obtain ⟨k, k1, k2, k3⟩ := hO4.k (by omega) (fun p2 w hr => by have := ok2 p2 w hr; simp only [List.length_append]; omega)
        refine ⟨hI4.1.1, ma, s, k, hI4, k1, k2, fun g5 hg5 => ?_⟩
        have hO5 := (k3 38 (by decide)).pre
        rw [← hg5] at hO5
        refine h4 g5 _ (ff - 1) (hf1.tr (hx3.tr (hx4.tr (by rw [hg5]; exact FrP)))) hO5 ok1 ?_ (fun p2 w hr => ?_) hfin
        · cases hr : S (s_tap s) (skp (s_tap s) p + 1) with
          | inl e => show 0 < _; unfold pMe; simp only; omega
          | inr x =>
            obtain ⟨p2, w⟩ := x
            have := ok2 p2 w hr
            show 1 + ((s_tap s).length - p2) < 1 + ((s_tap s).length - p)
            omega
        · cases hr2 : S (s_tap s) (skp (s_tap s) p + 1) with
          | inl e => rw [hr2] at hr; cases hr
          | inr x =>
            obtain ⟨p3, w3⟩ := x
            have := ok2 p3 w3 hr2
            rw [hr2] at hr
            have hp2 : p3 = p2 := by
              have hr' : (Sum.inr (p3, ws ++ (w3 ++ [-38])) : PRs) = .inr (p2, w) := hr
              exact congrArg Prod.fst (Sum.inr.inj hr')
            omega
  · unfold B_M_part_0
    refine ⟨hI.1.1, ma, s, p0, sd, hI, hw, hP, hsl, fun g1 hx1 hO1 => ?_⟩
    have hok := hS (s_tap s) p0 hpl
    refine ⟨_, rfl, S (s_tap s) p0, (s_tap s).length, hx1, hO1.up (by omega), hok, rfl, fun p ws _ => by omega, ?_⟩
    unfold pSq pFn
    cases S (s_tap s) p0 with
    | inl e => rfl
    | inr x => rfl
-- the walk of M_condition
set_option maxRecDepth 100000 in
def B_M_condition_44 (Γ : GAM) (R_M_part : Nat → GH → (GH → Prop) → Prop) (K4 : Nat → GH → Prop) (K : GH → Prop)  (g : GH) : Prop :=
  K g
set_option maxHeartbeats 4000000 in
set_option maxRecDepth 100000 in
theorem S_M_condition_44 {Γ : GAM} {E : EV} {fr lo : Nat} {K : GH → Prop} (hE : GE Γ E cX11_condition 1 RX11 none fr lo (fun r g' => r = none ∧ K g')) (hfr : 1 ≤ fr) (hlo : 21 ≤ lo) {R_M_part : Nat → GH → (GH → Prop) → Prop} {f_M_part l_M_part : Nat} (hR_M_part : (f_M_part + 1 ≤ fr ∧ 8 + (1 + 11) + l_M_part ≤ lo) ∧ ∀ (th : Nat) g (K : GH → Prop), R_M_part th g K → MetA Γ E.2.1 yX11_part cX11_part 1 none f_M_part l_M_part [.ref th] g (fun r g' => r = none ∧ K g')) {K4 : Nat → GH → Prop} (hK4 : ∀ (l0 : Nat) (g : GH), K4 l0 g → JW Γ E 4 [some (.ref l0)] [] g)  (g : GH) (h : B_M_condition_44 Γ R_M_part K4 K  g) : JW Γ E 44 [none] [] g := by
  unfold B_M_condition_44 at h
  exact j_vret hE (by decide +kernel : decode cX11_condition 44 = .ok (.return_, 1)) ⟨rfl, h⟩
set_option maxRecDepth 100000 in
def B_M_condition_4 (Γ : GAM) (R_M_part : Nat → GH → (GH → Prop) → Prop) (K4 : Nat → GH → Prop) (K : GH → Prop) (l0 : Nat) (g : GH) : Prop :=
  Kd g l0 = 13 ∧ ((¬ ((Gi g 1590 l0) = (-1 : Int32)) → B_M_condition_44 Γ R_M_part K4 K g) ∧ ((Gi g 1590 l0) = (-1 : Int32) → Kd g l0 = 13 ∧ Sp_M_look Γ l0 g (fun (x2 : Int32) (g1 : GH) => ((¬ (x2 = (124 : Int32)) → B_M_condition_44 Γ R_M_part K4 K g1) ∧ (x2 = (124 : Int32) → Kd g1 l0 = 13 ∧ Kd g1 l0 = 13 ∧ ∀ g3 : GH, g3 = sI g1 1589 l0 ((Gi g1 1589 l0) + (1 : Int32)) → Kd g3 l0 = 13 ∧ R_M_part l0 g3 (fun (g4 : GH) => Kd g4 l0 = 13 ∧ Sp_M_say Γ l0 (124 : Int32) g4 (fun (g5 : GH) => K4 l0 g5)))))))
set_option maxHeartbeats 4000000 in
set_option maxRecDepth 100000 in
theorem S_M_condition_4 {Γ : GAM} {E : EV} {fr lo : Nat} {K : GH → Prop} (hE : GE Γ E cX11_condition 1 RX11 none fr lo (fun r g' => r = none ∧ K g')) (hfr : 1 ≤ fr) (hlo : 21 ≤ lo) {R_M_part : Nat → GH → (GH → Prop) → Prop} {f_M_part l_M_part : Nat} (hR_M_part : (f_M_part + 1 ≤ fr ∧ 8 + (1 + 11) + l_M_part ≤ lo) ∧ ∀ (th : Nat) g (K : GH → Prop), R_M_part th g K → MetA Γ E.2.1 yX11_part cX11_part 1 none f_M_part l_M_part [.ref th] g (fun r g' => r = none ∧ K g')) {K4 : Nat → GH → Prop} (hK4 : ∀ (l0 : Nat) (g : GH), K4 l0 g → JW Γ E 4 [some (.ref l0)] [] g) (l0 : Nat) (g : GH) (h : B_M_condition_4 Γ R_M_part K4 K l0 g) : JW Γ E 4 [some (.ref l0)] [] g := by
  unfold B_M_condition_4 at h
  refine j_aload_n hE (by decide +kernel : decode cX11_condition 4 = .ok (.aload_n 0, 1)) rfl rfl ?_
  obtain ⟨hk, h⟩ := h
  refine j_getI hE fg_X11_304 hk (by decide +kernel : decode cX11_condition 5 = .ok (.getfield 304, 3)) ?_
  refine j_iconst hE (by decide +kernel : decode cX11_condition 8 = .ok (.iconst (-1), 1)) (v := (-1 : Int32)) (by decide) ?_
  refine j_icmp_ne hE (by decide +kernel : decode cX11_condition 9 = .ok (.if_icmp .ne 35, 3)) (tgt := 44) (by decide) (fun q => ?_) (fun q => ?_)
  · replace h := h.1 q
    refine j_weak [none] trivial ?_
    exact S_M_condition_44 hE hfr hlo hR_M_part hK4 _ h
  · replace h := h.2 q
    refine j_aload_n hE (by decide +kernel : decode cX11_condition 12 = .ok (.aload_n 0, 1)) rfl rfl ?_
    obtain ⟨hk, h⟩ := h
    refine j_callV hE rfl cl_X11_316 cf_12 im_X11_look se_X11_look ⟨by omega, by omega⟩ (As := []) (rest := []) rfl rfl (Nat.le_of_ble_eq_true rfl) hk (by decide +kernel : decode cX11_condition 13 = .ok (.invokevirtual 316, 3)) (mt_M_look _ _ _ h) ?_
    rintro _ g1 ⟨x2, rfl, h⟩
    refine j_bipush hE (by decide +kernel : decode cX11_condition 16 = .ok (.bipush 124, 2)) (v := (124 : Int32)) (by decide) ?_
    refine j_icmp_ne hE (by decide +kernel : decode cX11_condition 18 = .ok (.if_icmp .ne 26, 3)) (tgt := 44) (by decide) (fun q => ?_) (fun q => ?_)
    · replace h := h.1 q
      refine j_weak [none] trivial ?_
      exact S_M_condition_44 hE hfr hlo hR_M_part hK4 _ h
    · replace h := h.2 q
      refine j_aload_n hE (by decide +kernel : decode cX11_condition 21 = .ok (.aload_n 0, 1)) rfl rfl ?_
      refine j_dup hE (by decide +kernel : decode cX11_condition 22 = .ok (.dup, 1)) rfl ?_
      obtain ⟨hk, h⟩ := h
      refine j_getI hE fg_X11_301 hk (by decide +kernel : decode cX11_condition 23 = .ok (.getfield 301, 3)) ?_
      refine j_iconst hE (by decide +kernel : decode cX11_condition 26 = .ok (.iconst 1, 1)) (v := (1 : Int32)) (by decide) ?_
      refine j_iadd hE (by decide +kernel : decode cX11_condition 27 = .ok (.iadd, 1)) ?_
      obtain ⟨hk, h⟩ := h
      obtain ⟨g3, hg⟩ : ∃ z, z = sI g1 1589 l0 ((Gi g1 1589 l0) + (1 : Int32)) := ⟨_, rfl⟩; replace h := h g3 hg
      refine j_putI hE fa_X11_301 hk (fun q => by cases q) (by decide +kernel : decode cX11_condition 28 = .ok (.putfield 301, 3)) ?_
      rw [← hg]
      refine j_aload_n hE (by decide +kernel : decode cX11_condition 31 = .ok (.aload_n 0, 1)) rfl rfl ?_
      obtain ⟨hk, h⟩ := h
      refine j_callV hE rfl cl_X11_355 cf_12 im_X11_part se_X11_part hR_M_part.1 (As := []) (rest := []) rfl rfl (Nat.le_of_ble_eq_true rfl) hk (by decide +kernel : decode cX11_condition 32 = .ok (.invokevirtual 355, 3)) (hR_M_part.2 _ _ _ h) ?_
      rintro _ g4 ⟨rfl, h⟩
      refine j_aload_n hE (by decide +kernel : decode cX11_condition 35 = .ok (.aload_n 0, 1)) rfl rfl ?_
      refine j_bipush hE (by decide +kernel : decode cX11_condition 36 = .ok (.bipush 124, 2)) (v := (124 : Int32)) (by decide) ?_
      obtain ⟨hk, h⟩ := h
      refine j_callV hE rfl cl_X11_323 cf_12 im_X11_say se_X11_say ⟨by omega, by omega⟩ (As := [.int (124 : Int32)]) (rest := []) rfl rfl (Nat.le_of_ble_eq_true rfl) hk (by decide +kernel : decode cX11_condition 38 = .ok (.invokevirtual 323, 3)) (mt_M_say _ _ _ _ h) ?_
      rintro _ g5 ⟨rfl, h⟩
      refine j_goto hE (by decide +kernel : decode cX11_condition 41 = .ok (.goto (-37), 3)) (tgt := 4) (by decide) ?_
      exact hK4 _ _ h
set_option maxRecDepth 100000 in
def B_M_condition_0 (Γ : GAM) (R_M_part : Nat → GH → (GH → Prop) → Prop) (K4 : Nat → GH → Prop) (K : GH → Prop) (th : Nat) (g : GH) : Prop :=
  Kd g th = 13 ∧ R_M_part th g (fun (g1 : GH) => K4 th g1)
set_option maxHeartbeats 4000000 in
set_option maxRecDepth 100000 in
theorem S_M_condition_0 {Γ : GAM} {E : EV} {fr lo : Nat} {K : GH → Prop} (hE : GE Γ E cX11_condition 1 RX11 none fr lo (fun r g' => r = none ∧ K g')) (hfr : 1 ≤ fr) (hlo : 21 ≤ lo) {R_M_part : Nat → GH → (GH → Prop) → Prop} {f_M_part l_M_part : Nat} (hR_M_part : (f_M_part + 1 ≤ fr ∧ 8 + (1 + 11) + l_M_part ≤ lo) ∧ ∀ (th : Nat) g (K : GH → Prop), R_M_part th g K → MetA Γ E.2.1 yX11_part cX11_part 1 none f_M_part l_M_part [.ref th] g (fun r g' => r = none ∧ K g')) {K4 : Nat → GH → Prop} (hK4 : ∀ (l0 : Nat) (g : GH), K4 l0 g → JW Γ E 4 [some (.ref l0)] [] g) (th : Nat) (g : GH) (h : B_M_condition_0 Γ R_M_part K4 K th g) : JW Γ E 0 [some (.ref th)] [] g := by
  unfold B_M_condition_0 at h
  refine j_aload_n hE (by decide +kernel : decode cX11_condition 0 = .ok (.aload_n 0, 1)) rfl rfl ?_
  obtain ⟨hk, h⟩ := h
  refine j_callV hE rfl cl_X11_355 cf_12 im_X11_part se_X11_part hR_M_part.1 (As := []) (rest := []) rfl rfl (Nat.le_of_ble_eq_true rfl) hk (by decide +kernel : decode cX11_condition 1 = .ok (.invokevirtual 355, 3)) (hR_M_part.2 _ _ _ h) ?_
  rintro _ g1 ⟨rfl, h⟩
  exact hK4 _ _ h
set_option maxHeartbeats 4000000 in
set_option maxRecDepth 100000 in
theorem rl_M_condition {Γ : GAM} {l : Launch} {fr lo : Nat} (hfr : 1 ≤ fr) (hlo : 21 ≤ lo) {R_M_part : Nat → GH → (GH → Prop) → Prop} {f_M_part l_M_part : Nat} (hR_M_part : (f_M_part + 1 ≤ fr ∧ 8 + (1 + 11) + l_M_part ≤ lo) ∧ ∀ (th : Nat) g (K : GH → Prop), R_M_part th g K → MetA Γ l yX11_part cX11_part 1 none f_M_part l_M_part [.ref th] g (fun r g' => r = none ∧ K g')) {th : Nat} {g : GH} {K : GH → Prop} (I4 : Nat → Nat → GH → Prop) (hh4 : ∀ n (l0 : Nat) (g : GH), I4 n l0 g → B_M_condition_4 Γ R_M_part (fun l0 g => ∃ m, m < n ∧ I4 m l0 g) K l0 g) (h0 : B_M_condition_0 Γ R_M_part (fun l0 g => ∃ m, I4 m l0 g) K th g) : MetA Γ l yX11_condition cX11_condition 1 none fr lo [.ref th] g (fun r g' => r = none ∧ K g') := by
  refine MetA.introL (Lx := [some (.ref th)]) (by decide) (Nat.le_of_ble_eq_true rfl) rfl rfl ?_
  intro E hEl hE hnm
  have hR_M_part := hR_M_part; rw [← hEl] at hR_M_part
  have hall : ∀ n, (∀ (l0 : Nat) (g : GH), I4 n l0 g → JW Γ E 4 [some (.ref l0)] [] g) := by
    intro n
    induction n using Nat.strongRecOn with
    | ind n ih =>
      exact fun l0 g hi => S_M_condition_4 hE hfr hlo hR_M_part (fun l0 g hm => by obtain ⟨m, hm, h⟩ := hm; exact (ih m hm) l0 g h) l0 g (hh4 n l0 g hi)
  exact S_M_condition_0 hE hfr hlo hR_M_part (fun l0 g hm => by obtain ⟨m, h⟩ := hm; exact (hall m) l0 g h) th g h0
theorem mq_condition {Γ : GAM} {l : Launch} {S : List Int32 → Nat → PRs} {B dd : Nat} {f' l' : Nat} (hS : ∀ t, PG t true (S t)) (hB : B ≤ 95) (hrec : ∀ (th : Nat) (g : GH) (K : GH → Prop), SpR S B dd Γ th g K → MetA Γ l yX11_part cX11_part 1 none f' l' [.ref th] g (fun r g' => r = none ∧ K g')) (f lo : Nat) (hf : f' + 1 ≤ f) (hlo : 50 + l' ≤ lo) (th : Nat) (g : GH) (K : GH → Prop) (h : SpR (fun t => pSq t (S t) sp124) (B + 1) dd Γ th g K) : MetA Γ l yX11_condition cX11_condition 1 none f lo [.ref th] g (fun r g' => r = none ∧ K g') := by
  obtain ⟨ma, s, p0, sd, hI, hw, hP, hsl, hK⟩ := h
  have hT := hw.len.2.2.2.2.2.2.2.2.1
  have hpl := hP.2.1
  refine rl_M_condition (R_M_part := SpR S B dd Γ) (f_M_part := f') (l_M_part := l') (by omega) (by omega) ⟨⟨hf, by omega⟩, hrec⟩
    (fun n l0 g' => th = l0 ∧ ∃ cur ff, FrX th [1589, 1590, 1591, 1592] [1583] g g' ∧ PO th g' s sd dd (B + 1) cur ∧ OKr (s_tap s) p0 true cur ∧ n = pMe (s_tap s) cur ∧ (∀ p ws, cur = .inr (p, ws) → (s_tap s).length ≤ ff + p) ∧ pSq (s_tap s) (S (s_tap s)) sp124 p0 = pFn (s_tap s) (S (s_tap s)) sp124 ff cur) ?_ ?_
  · rintro n l0 g' ⟨rfl, cur, ff, hfx, hO, hok, rfl, hff, hfin⟩
    have hI' := hI.x hfx (by decide +kernel)
    have hkd := hI'.1.1
    suffices H : ∀ (K4 : Nat → GH → Prop), (∀ g2 cur2 ff2, FrX th [1589, 1590, 1591, 1592] [1583] g g2 → PO th g2 s sd dd (B + 1) cur2 → OKr (s_tap s) p0 true cur2 → pMe (s_tap s) cur2 < pMe (s_tap s) cur → (∀ p ws, cur2 = .inr (p, ws) → (s_tap s).length ≤ ff2 + p) → pSq (s_tap s) (S (s_tap s)) sp124 p0 = pFn (s_tap s) (S (s_tap s)) sp124 ff2 cur2 → K4 th g2) → B_M_condition_4 Γ (SpR S B dd Γ) K4 K th g' from
      H _ (fun g2 cur2 ff2 h1 h2 h3 h4 h5 h6 => ⟨pMe (s_tap s) cur2, h4, rfl, cur2, ff2, h1, h2, h3, rfl, h5, h6⟩)
    intro K4 h4
    unfold B_M_condition_4 B_M_condition_44
    refine ⟨hkd, fun u => ?_, fun u => ⟨hkd, ?_⟩⟩
    · refine hK g' hfx ?_
      simp only
      rw [hfin]
      rcases hO.wr u with ⟨e, rfl⟩ | ⟨p, w, rfl, hs, hW⟩
      · exact hO
      · have hd := dg_n hs
        rw [pFn_no (by decide) (hff p w rfl) (by rw [skp_n hd.1]; unfold sp124; simp [hd]), skp_n hd.1]
        exact .inr ⟨hs, hW⟩
    · obtain ⟨p, ws, rfl, hN⟩ := hO.nm u
      obtain ⟨o1, o2, o3, o4, o5⟩ := id hok
      have hffp := hff p ws rfl
      refine ⟨ma, s, p, hI', hw, hN.1, by omega, fun g1 hx1 ha1 => ?_⟩
      have hI1 := hI'.x hx1 (by decide +kernel)
      have hkd1 := hI1.1.1
      have hf1 : FrX th [1589, 1590, 1591, 1592] [1583] g g1 := hfx.tr (hx1.up (by decide) (by decide))
      have hN1 := hN.x hx1 ha1 (skp_le o2)
      refine ⟨fun q => ?_, fun q => ⟨hkd1, hkd1, ?_⟩⟩
      · refine hK g1 hf1 ?_
        simp only
        rw [hfin, pFn_no (by decide) hffp (by unfold sp124; simp [q])]
        exact .inl hN1
      · rintro g3 rfl
        have hlt : skp (s_tap s) p < (s_tap s).length := chr_in (by rw [q]; decide)
        have hN3 := hN1.pos hlt
        have hx3 : FrX th [1589, 1590, 1591, 1592] [1583] g1 (sI g1 1589 th (Gi g1 1589 th + 1)) := FrA
        have hI3 := hI1.x hx3 (by decide +kernel)
        have hcs : sp124 (chr (s_tap s) (skp (s_tap s) p)) = true := by rw [q]; decide
        have g1' := skp_ge (s_tap s) p
        obtain ⟨ok1, ok2⟩ := OKr_st (hS _) (by decide) op124 hok hcs
        rw [pFn_st (by decide) hffp hcs, q] at hfin
        rw [q] at ok1
        refine ⟨hkd1, ma, s, skp (s_tap s) p + 1, sd ++ enC ws, hI3, hw, hN3, by rw [List.length_append]; omega, fun g4 hx4 hO4 => ?_⟩
        have hI4 := hI3.x hx4 (by decide +kernel)
        obtain ⟨k, k1, k2, k3⟩ := hO4.k (by omega) (fun p2 w hr => by have := ok2 p2 w hr; simp only [List.length_append]; omega)
        refine ⟨hI4.1.1, ma, s, k, hI4, k1, k2, fun g5 hg5 => ?_⟩
        have hO5 := (k3 124 (by decide)).pre
        rw [← hg5] at hO5
        refine h4 g5 _ (ff - 1) (hf1.tr (hx3.tr (hx4.tr (by rw [hg5]; exact FrP)))) hO5 ok1 ?_ (fun p2 w hr => ?_) hfin
        · cases hr : S (s_tap s) (skp (s_tap s) p + 1) with
          | inl e => show 0 < _; unfold pMe; simp only; omega
          | inr x =>
            obtain ⟨p2, w⟩ := x
            have := ok2 p2 w hr
            show 1 + ((s_tap s).length - p2) < 1 + ((s_tap s).length - p)
            omega
        · cases hr2 : S (s_tap s) (skp (s_tap s) p + 1) with
          | inl e => rw [hr2] at hr; cases hr
          | inr x =>
            obtain ⟨p3, w3⟩ := x
            have := ok2 p3 w3 hr2
            rw [hr2] at hr
            have hp2 : p3 = p2 := by
              have hr' : (Sum.inr (p3, ws ++ (w3 ++ [-124])) : PRs) = .inr (p2, w) := hr
              exact congrArg Prod.fst (Sum.inr.inj hr')
            omega
  · unfold B_M_condition_0
    refine ⟨hI.1.1, ma, s, p0, sd, hI, hw, hP, hsl, fun g1 hx1 hO1 => ?_⟩
    have hok := hS (s_tap s) p0 hpl
    refine ⟨_, rfl, S (s_tap s) p0, (s_tap s).length, hx1, hO1.up (by omega), hok, rfl, fun p ws _ => by omega, ?_⟩
    unfold pSq pFn
    cases S (s_tap s) p0 with
    | inl e => rfl
    | inr x => rfl
