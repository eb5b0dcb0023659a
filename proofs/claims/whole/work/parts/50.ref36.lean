/-! the reference: the reader of laws, sums, atoms, units -/
def pSk (t : List Int32) (r : PRs) : PRs := match r with
  | .inl e => .inl e
  | .inr (p, w) => .inr (skp t p, w)
theorem PO.at' {m : Nat} {g : GH} {s : ST} {sd : List Int32} {dd B : Nat} {r : PRs} (h : PO m g s sd dd B r) (hT : (s_tap s).length ≤ 200) : ∃ a, Gi g 1589 m = nI a ∧ a ≤ 200 + B := by
  have hW : ∀ e, WR m g e B → ∃ a, Gi g 1589 m = nI a ∧ a ≤ 200 + B := fun e he => by
    obtain ⟨_, _, a, k, h3, h4, _⟩ := he
    exact ⟨a, h3, h4⟩
  cases r with
  | inl e => exact hW e h
  | inr x =>
    rcases h with h | ⟨_, h⟩
    · exact ⟨_, h.1, by have := h.2.1; omega⟩
    · exact hW _ h
theorem PO.look {m : Nat} {g g' : GH} {s : ST} {sd : List Int32} {dd B a : Nat} {r : PRs} (h : PO m g s sd dd B r) (hT : (s_tap s).length ≤ 200) (hB : B ≤ 100) (hx : FrX m [1589] [] g g') (ha : Gi g 1589 m = nI a) (hal : a ≤ 200 + B) (ha' : Gi g' 1589 m = nI (skp (s_tap s) a)) : PO m g' s sd dd B (pSk (s_tap s) r) := by
  have f := fun f (hf : f ∉ [1589]) => hx.2.1 f hf
  have hW : ∀ e, WR m g e B → WR m g' e B := fun e he => by
    obtain ⟨h1, h2, _, k, _, _, h5, h6⟩ := he
    refine ⟨(f _ (by decide)).trans h1, h2, skp (s_tap s) a, k, ha', ?_, (f _ (by decide)).trans h5, h6⟩
    rcases Nat.lt_or_ge (s_tap s).length a with q | q
    · rw [skp_end (by omega)]; exact hal
    · have := skp_le q; omega
  cases r with
  | inl e => exact hW e h
  | inr x =>
    obtain ⟨p, w⟩ := x
    rcases h with h | ⟨hs, h⟩
    · have e : a = p := by
        have h1 := h.1
        rw [ha] at h1
        exact (nj_eq (by omega) (by have := h.2.1; omega)).mp h1
      subst e
      exact .inl (h.x hx ha' (skp_le h.2.1))
    · have hd := dg_n hs
      show _ ∨ _
      rw [skp_n hd.1]
      exact .inr ⟨hs, hW _ h⟩
-- the walk of M_sum
set_option maxRecDepth 100000 in
def B_M_sum_56 (Γ : GAM) (R_M_term : Nat → GH → (GH → Prop) → Prop) (K9 : Nat → Int32 → GH → Prop) (K : GH → Prop)  (g : GH) : Prop :=
  K g
set_option maxHeartbeats 4000000 in
set_option maxRecDepth 100000 in
theorem S_M_sum_56 {Γ : GAM} {E : EV} {fr lo : Nat} {K : GH → Prop} (hE : GE Γ E cX11_sum 2 RX11 none fr lo (fun r g' => r = none ∧ K g')) (hfr : 1 ≤ fr) (hlo : 21 ≤ lo) {R_M_term : Nat → GH → (GH → Prop) → Prop} {f_M_term l_M_term : Nat} (hR_M_term : (f_M_term + 1 ≤ fr ∧ 8 + (1 + 11) + l_M_term ≤ lo) ∧ ∀ (th : Nat) g (K : GH → Prop), R_M_term th g K → MetA Γ E.2.1 yX11_term cX11_term 1 none f_M_term l_M_term [.ref th] g (fun r g' => r = none ∧ K g')) {K9 : Nat → Int32 → GH → Prop} (hK9 : ∀ (l0 : Nat) (l1 : Int32) (g : GH), K9 l0 l1 g → JW Γ E 9 [some (.ref l0), some (.int l1)] [] g)  (g : GH) (h : B_M_sum_56 Γ R_M_term K9 K  g) : JW Γ E 56 [none, none] [] g := by
  unfold B_M_sum_56 at h
  exact j_vret hE (by decide +kernel : decode cX11_sum 56 = .ok (.return_, 1)) ⟨rfl, h⟩
set_option maxRecDepth 100000 in
def B_M_sum_29 (Γ : GAM) (R_M_term : Nat → GH → (GH → Prop) → Prop) (K9 : Nat → Int32 → GH → Prop) (K : GH → Prop) (l0 : Nat) (l1 : Int32) (g : GH) : Prop :=
  Kd g l0 = 13 ∧ Kd g l0 = 13 ∧ ∀ g1 : GH, g1 = sI g 1589 l0 ((Gi g 1589 l0) + (1 : Int32)) → Kd g1 l0 = 13 ∧ R_M_term l0 g1 (fun (g2 : GH) => Kd g2 l0 = 13 ∧ Sp_M_say Γ l0 l1 g2 (fun (g3 : GH) => Kd g3 l0 = 13 ∧ Sp_M_look Γ l0 g3 (fun (x5 : Int32) (g4 : GH) => K9 l0 x5 g4)))
set_option maxHeartbeats 4000000 in
set_option maxRecDepth 100000 in
theorem S_M_sum_29 {Γ : GAM} {E : EV} {fr lo : Nat} {K : GH → Prop} (hE : GE Γ E cX11_sum 2 RX11 none fr lo (fun r g' => r = none ∧ K g')) (hfr : 1 ≤ fr) (hlo : 21 ≤ lo) {R_M_term : Nat → GH → (GH → Prop) → Prop} {f_M_term l_M_term : Nat} (hR_M_term : (f_M_term + 1 ≤ fr ∧ 8 + (1 + 11) + l_M_term ≤ lo) ∧ ∀ (th : Nat) g (K : GH → Prop), R_M_term th g K → MetA Γ E.2.1 yX11_term cX11_term 1 none f_M_term l_M_term [.ref th] g (fun r g' => r = none ∧ K g')) {K9 : Nat → Int32 → GH → Prop} (hK9 : ∀ (l0 : Nat) (l1 : Int32) (g : GH), K9 l0 l1 g → JW Γ E 9 [some (.ref l0), some (.int l1)] [] g) (l0 : Nat) (l1 : Int32) (g : GH) (h : B_M_sum_29 Γ R_M_term K9 K l0 l1 g) : JW Γ E 29 [some (.ref l0), some (.int l1)] [] g := by
  unfold B_M_sum_29 at h
  refine j_aload_n hE (by decide +kernel : decode cX11_sum 29 = .ok (.aload_n 0, 1)) rfl rfl ?_
  refine j_dup hE (by decide +kernel : decode cX11_sum 30 = .ok (.dup, 1)) rfl ?_
  obtain ⟨hk, h⟩ := h
  refine j_getI hE fg_X11_301 hk (by decide +kernel : decode cX11_sum 31 = .ok (.getfield 301, 3)) ?_
  refine j_iconst hE (by decide +kernel : decode cX11_sum 34 = .ok (.iconst 1, 1)) (v := (1 : Int32)) (by decide) ?_
  refine j_iadd hE (by decide +kernel : decode cX11_sum 35 = .ok (.iadd, 1)) ?_
  obtain ⟨hk, h⟩ := h
  obtain ⟨g1, hg⟩ : ∃ z, z = sI g 1589 l0 ((Gi g 1589 l0) + (1 : Int32)) := ⟨_, rfl⟩; replace h := h g1 hg
  refine j_putI hE fa_X11_301 hk (fun q => by cases q) (by decide +kernel : decode cX11_sum 36 = .ok (.putfield 301, 3)) ?_
  rw [← hg]
  refine j_aload_n hE (by decide +kernel : decode cX11_sum 39 = .ok (.aload_n 0, 1)) rfl rfl ?_
  obtain ⟨hk, h⟩ := h
  refine j_callV hE rfl cl_X11_346 cf_12 im_X11_term se_X11_term hR_M_term.1 (As := []) (rest := []) rfl rfl (Nat.le_of_ble_eq_true rfl) hk (by decide +kernel : decode cX11_sum 40 = .ok (.invokevirtual 346, 3)) (hR_M_term.2 _ _ _ h) ?_
  rintro _ g2 ⟨rfl, h⟩
  refine j_aload_n hE (by decide +kernel : decode cX11_sum 43 = .ok (.aload_n 0, 1)) rfl rfl ?_
  refine j_iload_n hE (by decide +kernel : decode cX11_sum 44 = .ok (.iload_n 1, 1)) rfl rfl ?_
  obtain ⟨hk, h⟩ := h
  refine j_callV hE rfl cl_X11_323 cf_12 im_X11_say se_X11_say ⟨by omega, by omega⟩ (As := [.int l1]) (rest := []) rfl rfl (Nat.le_of_ble_eq_true rfl) hk (by decide +kernel : decode cX11_sum 45 = .ok (.invokevirtual 323, 3)) (mt_M_say _ _ _ _ h) ?_
  rintro _ g3 ⟨rfl, h⟩
  refine j_aload_n hE (by decide +kernel : decode cX11_sum 48 = .ok (.aload_n 0, 1)) rfl rfl ?_
  obtain ⟨hk, h⟩ := h
  refine j_callV hE rfl cl_X11_316 cf_12 im_X11_look se_X11_look ⟨by omega, by omega⟩ (As := []) (rest := []) rfl rfl (Nat.le_of_ble_eq_true rfl) hk (by decide +kernel : decode cX11_sum 49 = .ok (.invokevirtual 316, 3)) (mt_M_look _ _ _ h) ?_
  rintro _ g4 ⟨x5, rfl, h⟩
  refine j_istore_n hE (by decide +kernel : decode cX11_sum 52 = .ok (.istore_n 1, 1)) rfl (Nat.le_of_ble_eq_true rfl) rfl ?_
  refine j_goto hE (by decide +kernel : decode cX11_sum 53 = .ok (.goto (-44), 3)) (tgt := 9) (by decide) ?_
  exact hK9 _ _ _ h
set_option maxRecDepth 100000 in
def B_M_sum_9 (Γ : GAM) (R_M_term : Nat → GH → (GH → Prop) → Prop) (K9 : Nat → Int32 → GH → Prop) (K : GH → Prop) (l0 : Nat) (l1 : Int32) (g : GH) : Prop :=
  Kd g l0 = 13 ∧ ((¬ ((Gi g 1590 l0) = (-1 : Int32)) → B_M_sum_56 Γ R_M_term K9 K g) ∧ ((Gi g 1590 l0) = (-1 : Int32) → ((l1 = (43 : Int32) → B_M_sum_29 Γ R_M_term K9 K l0 l1 g) ∧ (¬ (l1 = (43 : Int32)) → ((¬ (l1 = (45 : Int32)) → B_M_sum_56 Γ R_M_term K9 K g) ∧ (l1 = (45 : Int32) → B_M_sum_29 Γ R_M_term K9 K l0 l1 g))))))
set_option maxHeartbeats 4000000 in
set_option maxRecDepth 100000 in
theorem S_M_sum_9 {Γ : GAM} {E : EV} {fr lo : Nat} {K : GH → Prop} (hE : GE Γ E cX11_sum 2 RX11 none fr lo (fun r g' => r = none ∧ K g')) (hfr : 1 ≤ fr) (hlo : 21 ≤ lo) {R_M_term : Nat → GH → (GH → Prop) → Prop} {f_M_term l_M_term : Nat} (hR_M_term : (f_M_term + 1 ≤ fr ∧ 8 + (1 + 11) + l_M_term ≤ lo) ∧ ∀ (th : Nat) g (K : GH → Prop), R_M_term th g K → MetA Γ E.2.1 yX11_term cX11_term 1 none f_M_term l_M_term [.ref th] g (fun r g' => r = none ∧ K g')) {K9 : Nat → Int32 → GH → Prop} (hK9 : ∀ (l0 : Nat) (l1 : Int32) (g : GH), K9 l0 l1 g → JW Γ E 9 [some (.ref l0), some (.int l1)] [] g) (l0 : Nat) (l1 : Int32) (g : GH) (h : B_M_sum_9 Γ R_M_term K9 K l0 l1 g) : JW Γ E 9 [some (.ref l0), some (.int l1)] [] g := by
  unfold B_M_sum_9 at h
  refine j_aload_n hE (by decide +kernel : decode cX11_sum 9 = .ok (.aload_n 0, 1)) rfl rfl ?_
  obtain ⟨hk, h⟩ := h
  refine j_getI hE fg_X11_304 hk (by decide +kernel : decode cX11_sum 10 = .ok (.getfield 304, 3)) ?_
  refine j_iconst hE (by decide +kernel : decode cX11_sum 13 = .ok (.iconst (-1), 1)) (v := (-1 : Int32)) (by decide) ?_
  refine j_icmp_ne hE (by decide +kernel : decode cX11_sum 14 = .ok (.if_icmp .ne 42, 3)) (tgt := 56) (by decide) (fun q => ?_) (fun q => ?_)
  · replace h := h.1 q
    refine j_weak [none, none] trivial ?_
    exact S_M_sum_56 hE hfr hlo hR_M_term hK9 _ h
  · replace h := h.2 q
    refine j_iload_n hE (by decide +kernel : decode cX11_sum 17 = .ok (.iload_n 1, 1)) rfl rfl ?_
    refine j_bipush hE (by decide +kernel : decode cX11_sum 18 = .ok (.bipush 43, 2)) (v := (43 : Int32)) (by decide) ?_
    refine j_icmp_eq hE (by decide +kernel : decode cX11_sum 20 = .ok (.if_icmp .eq 9, 3)) (tgt := 29) (by decide) (fun q => ?_) (fun q => ?_)
    · replace h := h.1 q
      exact S_M_sum_29 hE hfr hlo hR_M_term hK9 _ _ _ h
    · replace h := h.2 q
      refine j_iload_n hE (by decide +kernel : decode cX11_sum 23 = .ok (.iload_n 1, 1)) rfl rfl ?_
      refine j_bipush hE (by decide +kernel : decode cX11_sum 24 = .ok (.bipush 45, 2)) (v := (45 : Int32)) (by decide) ?_
      refine j_icmp_ne hE (by decide +kernel : decode cX11_sum 26 = .ok (.if_icmp .ne 30, 3)) (tgt := 56) (by decide) (fun q => ?_) (fun q => ?_)
      · replace h := h.1 q
        refine j_weak [none, none] trivial ?_
        exact S_M_sum_56 hE hfr hlo hR_M_term hK9 _ h
      · replace h := h.2 q
        exact S_M_sum_29 hE hfr hlo hR_M_term hK9 _ _ _ h
set_option maxRecDepth 100000 in
def B_M_sum_0 (Γ : GAM) (R_M_term : Nat → GH → (GH → Prop) → Prop) (K9 : Nat → Int32 → GH → Prop) (K : GH → Prop) (th : Nat) (g : GH) : Prop :=
  Kd g th = 13 ∧ R_M_term th g (fun (g1 : GH) => Kd g1 th = 13 ∧ Sp_M_look Γ th g1 (fun (x3 : Int32) (g2 : GH) => K9 th x3 g2))
set_option maxHeartbeats 4000000 in
set_option maxRecDepth 100000 in
theorem S_M_sum_0 {Γ : GAM} {E : EV} {fr lo : Nat} {K : GH → Prop} (hE : GE Γ E cX11_sum 2 RX11 none fr lo (fun r g' => r = none ∧ K g')) (hfr : 1 ≤ fr) (hlo : 21 ≤ lo) {R_M_term : Nat → GH → (GH → Prop) → Prop} {f_M_term l_M_term : Nat} (hR_M_term : (f_M_term + 1 ≤ fr ∧ 8 + (1 + 11) + l_M_term ≤ lo) ∧ ∀ (th : Nat) g (K : GH → Prop), R_M_term th g K → MetA Γ E.2.1 yX11_term cX11_term 1 none f_M_term l_M_term [.ref th] g (fun r g' => r = none ∧ K g')) {K9 : Nat → Int32 → GH → Prop} (hK9 : ∀ (l0 : Nat) (l1 : Int32) (g : GH), K9 l0 l1 g → JW Γ E 9 [some (.ref l0), some (.int l1)] [] g) (th : Nat) (g : GH) (h : B_M_sum_0 Γ R_M_term K9 K th g) : JW Γ E 0 [some (.ref th), none] [] g := by
  unfold B_M_sum_0 at h
  refine j_aload_n hE (by decide +kernel : decode cX11_sum 0 = .ok (.aload_n 0, 1)) rfl rfl ?_
  obtain ⟨hk, h⟩ := h
  refine j_callV hE rfl cl_X11_346 cf_12 im_X11_term se_X11_term hR_M_term.1 (As := []) (rest := []) rfl rfl (Nat.le_of_ble_eq_true rfl) hk (by decide +kernel : decode cX11_sum 1 = .ok (.invokevirtual 346, 3)) (hR_M_term.2 _ _ _ h) ?_
  rintro _ g1 ⟨rfl, h⟩
  refine j_aload_n hE (by decide +kernel : decode cX11_sum 4 = .ok (.aload_n 0, 1)) rfl rfl ?_
  obtain ⟨hk, h⟩ := h
  refine j_callV hE rfl cl_X11_316 cf_12 im_X11_look se_X11_look ⟨by omega, by omega⟩ (As := []) (rest := []) rfl rfl (Nat.le_of_ble_eq_true rfl) hk (by decide +kernel : decode cX11_sum 5 = .ok (.invokevirtual 316, 3)) (mt_M_look _ _ _ h) ?_
  rintro _ g2 ⟨x3, rfl, h⟩
  refine j_istore_n hE (by decide +kernel : decode cX11_sum 8 = .ok (.istore_n 1, 1)) rfl (Nat.le_of_ble_eq_true rfl) rfl ?_
  exact hK9 _ _ _ h
set_option maxHeartbeats 4000000 in
set_option maxRecDepth 100000 in
theorem rl_M_sum {Γ : GAM} {l : Launch} {fr lo : Nat} (hfr : 1 ≤ fr) (hlo : 21 ≤ lo) {R_M_term : Nat → GH → (GH → Prop) → Prop} {f_M_term l_M_term : Nat} (hR_M_term : (f_M_term + 1 ≤ fr ∧ 8 + (1 + 11) + l_M_term ≤ lo) ∧ ∀ (th : Nat) g (K : GH → Prop), R_M_term th g K → MetA Γ l yX11_term cX11_term 1 none f_M_term l_M_term [.ref th] g (fun r g' => r = none ∧ K g')) {th : Nat} {g : GH} {K : GH → Prop} (I9 : Nat → Nat → Int32 → GH → Prop) (hh9 : ∀ n (l0 : Nat) (l1 : Int32) (g : GH), I9 n l0 l1 g → B_M_sum_9 Γ R_M_term (fun l0 l1 g => ∃ m, m < n ∧ I9 m l0 l1 g) K l0 l1 g) (h0 : B_M_sum_0 Γ R_M_term (fun l0 l1 g => ∃ m, I9 m l0 l1 g) K th g) : MetA Γ l yX11_sum cX11_sum 2 none fr lo [.ref th] g (fun r g' => r = none ∧ K g') := by
  refine MetA.introL (Lx := [some (.ref th), none]) (by decide) (Nat.le_of_ble_eq_true rfl) rfl rfl ?_
  intro E hEl hE hnm
  have hR_M_term := hR_M_term; rw [← hEl] at hR_M_term
  have hall : ∀ n, (∀ (l0 : Nat) (l1 : Int32) (g : GH), I9 n l0 l1 g → JW Γ E 9 [some (.ref l0), some (.int l1)] [] g) := by
    intro n
    induction n using Nat.strongRecOn with
    | ind n ih =>
      exact fun l0 l1 g hi => S_M_sum_9 hE hfr hlo hR_M_term (fun l0 l1 g hm => by obtain ⟨m, hm, h⟩ := hm; exact (ih m hm) l0 l1 g h) l0 l1 g (hh9 n l0 l1 g hi)
  exact S_M_sum_0 hE hfr hlo hR_M_term (fun l0 l1 g hm => by obtain ⟨m, h⟩ := hm; exact (hall m) l0 l1 g h) th g h0
theorem mq_sum {Γ : GAM} {l : Launch} {S : List Int32 → Nat → PRs} {B dd : Nat} {f' l' : Nat} (hS : ∀ t, PG t false (S t)) (hB : B ≤ 95) (hrec : ∀ (th : Nat) (g : GH) (K : GH → Prop), SpR S B dd Γ th g K → MetA Γ l yX11_term cX11_term 1 none f' l' [.ref th] g (fun r g' => r = none ∧ K g')) (f lo : Nat) (hf : f' + 1 ≤ f) (hlo : 50 + l' ≤ lo) (th : Nat) (g : GH) (K : GH → Prop) (h : SpR (fun t => pSq t (S t) sp43) (B + 1) dd Γ th g K) : MetA Γ l yX11_sum cX11_sum 2 none f lo [.ref th] g (fun r g' => r = none ∧ K g') := by
  obtain ⟨ma, s, p0, sd, hI, hw, hP, hsl, hK⟩ := h
  have hT := hw.len.2.2.2.2.2.2.2.2.1
  have hpl := hP.2.1
  refine rl_M_sum (R_M_term := SpR S B dd Γ) (f_M_term := f') (l_M_term := l') (by omega) (by omega) ⟨⟨hf, by omega⟩, hrec⟩
    (fun n l0 l1 g' => th = l0 ∧ ∃ cur ff, FrX th [1589, 1590, 1591, 1592] [1583] g g' ∧ PO th g' s sd dd (B + 1) cur ∧ OKr (s_tap s) p0 false cur ∧ n = pMe (s_tap s) cur ∧ (∀ p ws, cur = .inr (p, ws) → (s_tap s).length ≤ ff + p) ∧ (Gi g' 1590 th = -1 → ∀ p ws, cur = .inr (p, ws) → l1 = chr (s_tap s) p ∧ skp (s_tap s) p = p) ∧ pSq (s_tap s) (S (s_tap s)) sp43 p0 = pFn (s_tap s) (S (s_tap s)) sp43 ff cur) ?_ ?_
  · rintro n l0 l1 g' ⟨rfl, cur, ff, hfx, hO, hok, rfl, hff, hl1, hfin⟩
    have hI' := hI.x hfx (by decide +kernel)
    have hkd := hI'.1.1
    suffices H : ∀ (K9 : Nat → Int32 → GH → Prop), (∀ g2 l2 cur2 ff2, FrX th [1589, 1590, 1591, 1592] [1583] g g2 → PO th g2 s sd dd (B + 1) cur2 → OKr (s_tap s) p0 false cur2 → pMe (s_tap s) cur2 < pMe (s_tap s) cur → (∀ p ws, cur2 = .inr (p, ws) → (s_tap s).length ≤ ff2 + p) → (Gi g2 1590 th = -1 → ∀ p ws, cur2 = .inr (p, ws) → l2 = chr (s_tap s) p ∧ skp (s_tap s) p = p) → pSq (s_tap s) (S (s_tap s)) sp43 p0 = pFn (s_tap s) (S (s_tap s)) sp43 ff2 cur2 → K9 th l2 g2) → B_M_sum_9 Γ (SpR S B dd Γ) K9 K th l1 g' from
      H _ (fun g2 l2 cur2 ff2 h1 h2 h3 h4 h5 h6 h7 => ⟨pMe (s_tap s) cur2, h4, rfl, cur2, ff2, h1, h2, h3, rfl, h5, h6, h7⟩)
    intro K9 h9
    unfold B_M_sum_9 B_M_sum_56
    refine ⟨hkd, fun u => ?_, fun u => ?_⟩
    · refine hK g' hfx ?_
      simp only
      rw [hfin]
      rcases hO.wr u with ⟨e, rfl⟩ | ⟨p, w, rfl, hs, hW⟩
      · exact hO
      · have hd := dg_n hs
        rw [pFn_no (by decide) (hff p w rfl) (by rw [skp_n hd.1]; unfold sp43; simp [hd]), skp_n hd.1]
        exact .inr ⟨hs, hW⟩
    · obtain ⟨p, ws, rfl, hN⟩ := hO.nm u
      obtain ⟨o1, o2, o3, o4, o5⟩ := id hok
      have hffp := hff p ws rfl
      obtain ⟨hl, hsk⟩ := hl1 u p ws rfl
      have h29 : sp43 l1 = true → B_M_sum_29 Γ (SpR S B dd Γ) K9 K th l1 g' := fun hcs => by
        unfold B_M_sum_29
        refine ⟨hkd, hkd, ?_⟩
        rintro g3 rfl
        have hcs' : sp43 (chr (s_tap s) (skp (s_tap s) p)) = true := by rw [hsk, ← hl]; exact hcs
        have hlt : p < (s_tap s).length := chr_in (fun q => by rw [hl, q] at hcs; exact absurd hcs (by decide))
        have hN3 := hN.pos hlt
        have hx3 : FrX th [1589, 1590, 1591, 1592] [1583] g' (sI g' 1589 th (Gi g' 1589 th + 1)) := FrA
        have hI3 := hI'.x hx3 (by decide +kernel)
        obtain ⟨ok1, ok2⟩ := OKr_st (hS _) (by decide) op43 hok hcs'
        rw [pFn_st (by decide) hffp hcs', hsk, ← hl] at hfin
        rw [hsk, ← hl] at ok1
        rw [hsk] at ok2
        refine ⟨hkd, ma, s, p + 1, sd ++ enC ws, hI3, hw, hN3, by rw [List.length_append]; omega, fun g4 hx4 hO4 => ?_⟩
        have hI4 := hI3.x hx4 (by decide +kernel)
        obtain ⟨k, k1, k2, k3⟩ := hO4.k (by omega) (fun p2 w hr => by have := ok2 p2 w hr; simp only [List.length_append]; omega)
        refine ⟨hI4.1.1, ma, s, k, hI4, k1, k2, fun g5 hg5 => ?_⟩
        have hx5 : FrX th [1589, 1590, 1591, 1592] [1583] g4 g5 := by rw [hg5]; exact FrP
        have hI5 := hI4.x hx5 (by decide +kernel)
        have hO5 := (k3 l1 (op43 l1 hcs).2).pre
        rw [← hg5] at hO5
        obtain ⟨a, ha, hal⟩ := hO5.at' hT
        refine ⟨hI5.1.1, ma, s, a, hI5, hw, ha, by omega, fun g6 hx6 ha6 => ?_⟩
        have hO6 := hO5.look hT (by omega) hx6 ha hal ha6
        have hw6 : Gi g6 1590 th = Gi g5 1590 th := hx6.2.1 _ (by decide)
        refine h9 g6 _ _ (ff - 1) (hfx.tr (hx3.tr (hx4.tr (hx5.tr (hx6.up (by decide) (by decide)))))) hO6 ?_ ?_ (fun p2 w hr => ?_) (fun hwr p2 w hr => ?_) ?_
        · cases hr : S (s_tap s) (p + 1) with
          | inl e => rw [hr] at ok1; exact ok1
          | inr x =>
            obtain ⟨p2, w⟩ := x
            rw [hr] at ok1
            obtain ⟨z1, z2, z3, z4, z5⟩ := ok1
            have q1 := skp_ge (s_tap s) p2
            exact ⟨by omega, skp_le z2, by omega, by omega, z5⟩
        · cases hr : S (s_tap s) (p + 1) with
          | inl e => show 0 < _; unfold pMe; simp only; omega
          | inr x =>
            obtain ⟨p2, w⟩ := x
            have := ok2 p2 w hr
            have q1 := skp_ge (s_tap s) p2
            show 1 + ((s_tap s).length - skp (s_tap s) p2) < 1 + ((s_tap s).length - p)
            omega
        · cases hr2 : S (s_tap s) (p + 1) with
          | inl e => rw [hr2] at hr; cases hr
          | inr x =>
            obtain ⟨p3, w3⟩ := x
            have := ok2 p3 w3 hr2
            rw [hr2] at hr
            have hp2 : skp (s_tap s) p3 = p2 := by
              have hr' : (Sum.inr (skp (s_tap s) p3, ws ++ (w3 ++ [-l1])) : PRs) = .inr (p2, w) := hr
              exact congrArg Prod.fst (Sum.inr.inj hr')
            have q1 := skp_ge (s_tap s) p3
            omega
        · cases hr2 : S (s_tap s) (p + 1) with
          | inl e => rw [hr2] at hr; cases hr
          | inr x =>
            obtain ⟨p3, w3⟩ := x
            rw [hr2] at hr hO5
            have hp2 : skp (s_tap s) p3 = p2 := by
              have hr' : (Sum.inr (skp (s_tap s) p3, ws ++ (w3 ++ [-l1])) : PRs) = .inr (p2, w) := hr
              exact congrArg Prod.fst (Sum.inr.inj hr')
            obtain ⟨p4, w4, hr4, hN4⟩ := hO5.nm (by rw [← hw6]; exact hwr)
            have hp4 : p3 = p4 := by
              have hr' : (Sum.inr (p3, ws ++ (w3 ++ [-l1])) : PRs) = .inr (p4, w4) := hr4
              exact congrArg Prod.fst (Sum.inr.inj hr')
            have hap : a = p3 := by
              have h1 := hN4.1
              rw [ha, ← hp4] at h1
              have := ok2 p3 w3 hr2
              exact (nj_eq (by omega) (by omega)).mp h1
            rw [hap, ← hp2, skp_i]
            exact ⟨rfl, rfl⟩
        · rw [hfin]
          cases hr2 : S (s_tap s) (p + 1) with
          | inl e => rfl
          | inr x =>
            obtain ⟨p3, w3⟩ := x
            have := ok2 p3 w3 hr2
            exact (pFn_sk (by decide) (by omega)).symm
      have hno : ¬ sp43 l1 = true → K g' := fun hcs => by
        refine hK g' hfx ?_
        simp only
        rw [hfin, pFn_no (by decide) hffp (by rw [hsk, ← hl]; exact hcs), hsk]
        exact .inl hN
      refine ⟨fun q => h29 (by rw [q]; decide), fun q => ⟨fun q2 => hno ?_, fun q2 => h29 (by rw [q2]; decide)⟩⟩
      unfold sp43
      simp [q, q2]
  · unfold B_M_sum_0
    refine ⟨hI.1.1, ma, s, p0, sd, hI, hw, hP, hsl, fun g1 hx1 hO1 => ?_⟩
    have hI1 := hI.x hx1 (by decide +kernel)
    have hok := hS (s_tap s) p0 hpl
    have hO1' := hO1.up (show B ≤ B + 1 by omega)
    obtain ⟨a, ha, hal⟩ := hO1'.at' hT
    refine ⟨hI1.1.1, ma, s, a, hI1, hw, ha, by omega, fun g2 hx2 ha2 => ?_⟩
    have hO2 := hO1'.look hT (by omega) hx2 ha hal ha2
    have hw2 : Gi g2 1590 th = Gi g1 1590 th := hx2.2.1 _ (by decide)
    refine ⟨_, rfl, _, (s_tap s).length, hx1.tr (hx2.up (by decide) (by decide)), hO2, ?_, rfl, fun p ws _ => by omega, fun hwr p w hr => ?_, ?_⟩
    · cases hr : S (s_tap s) p0 with
      | inl e => rw [hr] at hok; exact hok
      | inr x =>
        obtain ⟨p2, w⟩ := x
        rw [hr] at hok
        obtain ⟨z1, z2, z3, z4, z5⟩ := hok
        have q1 := skp_ge (s_tap s) p2
        exact ⟨by omega, skp_le z2, by omega, by omega, z5⟩
    · cases hr2 : S (s_tap s) p0 with
      | inl e => rw [hr2] at hr; cases hr
      | inr x =>
        obtain ⟨p3, w3⟩ := x
        rw [hr2] at hr hO1' hok
        have hp2 : skp (s_tap s) p3 = p := by
          have hr' : (Sum.inr (skp (s_tap s) p3, w3) : PRs) = .inr (p, w) := hr
          exact congrArg Prod.fst (Sum.inr.inj hr')
        obtain ⟨p4, w4, hr4, hN4⟩ := hO1'.nm (by rw [← hw2]; exact hwr)
        have hp4 : p3 = p4 := congrArg Prod.fst (Sum.inr.inj hr4)
        have hap : a = p3 := by
          have h1 := hN4.1
          rw [ha, ← hp4] at h1
          have := hok.2.1
          exact (nj_eq (by omega) (by omega)).mp h1
        rw [hap, ← hp2, skp_i]
        exact ⟨rfl, rfl⟩
    · unfold pSq
      cases hr2 : S (s_tap s) p0 with
      | inl e => rfl
      | inr x =>
        obtain ⟨p3, w3⟩ := x
        exact (pFn_sk (by decide) (by omega)).symm
def SpAo (r : Nat) (Γ : GAM) (m : Nat) (g : GH) (K : GH → Prop) : Prop := match r with
  | 0 => False
  | r + 1 => SpR (fun t => pAt t r) (10 * r + 2) (8 - r) Γ m g K
def SpSo (r : Nat) (Γ : GAM) (m : Nat) (g : GH) (K : GH → Prop) : Prop := match r with
  | 0 => False
  | r + 1 => SpR (fun t => pSm t (pAt t r)) (10 * r + 4) (8 - r) Γ m g K
def pOpt (f : Nat → Nat → PRs) (r : Nat) : Option (Nat → PRs) := match r with
  | 0 => none
  | r + 1 => some (f r)
-- the walk of M_atom
set_option maxRecDepth 100000 in
def B_M_atom_101 (Γ : GAM) (R_M_atom : Nat → GH → (GH → Prop) → Prop) (R_M_sum : Nat → GH → (GH → Prop) → Prop) (K : GH → Prop)  (g : GH) : Prop :=
  K g
set_option maxHeartbeats 4000000 in
set_option maxRecDepth 100000 in
theorem S_M_atom_101 {Γ : GAM} {E : EV} {fr lo : Nat} {K : GH → Prop} (hE : GE Γ E cX11_atom 2 RX11 none fr lo (fun r g' => r = none ∧ K g')) (hfr : 2 ≤ fr) (hlo : 43 ≤ lo) {R_M_atom : Nat → GH → (GH → Prop) → Prop} {R_M_sum : Nat → GH → (GH → Prop) → Prop} {f_M_atom l_M_atom : Nat} (hR_M_atom : (f_M_atom + 1 ≤ fr ∧ 8 + (2 + 11) + l_M_atom ≤ lo) ∧ ∀ (th : Nat) g (K : GH → Prop), R_M_atom th g K → MetA Γ E.2.1 yX11_atom cX11_atom 2 none f_M_atom l_M_atom [.ref th] g (fun r g' => r = none ∧ K g')) {f_M_sum l_M_sum : Nat} (hR_M_sum : (f_M_sum + 1 ≤ fr ∧ 8 + (2 + 11) + l_M_sum ≤ lo) ∧ ∀ (th : Nat) g (K : GH → Prop), R_M_sum th g K → MetA Γ E.2.1 yX11_sum cX11_sum 2 none f_M_sum l_M_sum [.ref th] g (fun r g' => r = none ∧ K g'))  (g : GH) (h : B_M_atom_101 Γ R_M_atom R_M_sum K  g) : JW Γ E 101 [none, none] [] g := by
  unfold B_M_atom_101 at h
  exact j_vret hE (by decide +kernel : decode cX11_atom 101 = .ok (.return_, 1)) ⟨rfl, h⟩
set_option maxRecDepth 100000 in
def B_M_atom_0 (Γ : GAM) (R_M_atom : Nat → GH → (GH → Prop) → Prop) (R_M_sum : Nat → GH → (GH → Prop) → Prop) (K : GH → Prop) (th : Nat) (g : GH) : Prop :=
  Kd g th = 13 ∧ Sp_M_look Γ th g (fun (x2 : Int32) (g1 : GH) => ((¬ (x2 = (91 : Int32)) → ((¬ (x2 = (45 : Int32)) → Sp_M_isLetter Γ x2 g1 (fun (x4 : Int32) (g3 : GH) => ((x4 = 0 → Kd g3 th = 13 ∧ Sp_M_number Γ th g3 (fun (g5 : GH) => B_M_atom_101 Γ R_M_atom R_M_sum K g5)) ∧ (¬ (x4 = 0) → Kd g3 th = 13 ∧ Kd g3 th = 13 ∧ ∀ g6 : GH, g6 = sI g3 1589 th ((Gi g3 1589 th) + (1 : Int32)) → Kd g6 th = 13 ∧ Sp_M_say Γ th (1 : Int32) g6 (fun (g7 : GH) => Kd g7 th = 13 ∧ Sp_M_say Γ th x2 g7 (fun (g8 : GH) => B_M_atom_101 Γ R_M_atom R_M_sum K g8)))))) ∧ (x2 = (45 : Int32) → Kd g1 th = 13 ∧ Sp_M_opens Γ th g1 (fun (x10 : Int32) (g9 : GH) => ((x10 = 0 → B_M_atom_101 Γ R_M_atom R_M_sum K g9) ∧ (¬ (x10 = 0) → Kd g9 th = 13 ∧ R_M_atom th g9 (fun (g11 : GH) => Kd g11 th = 13 ∧ Kd g11 th = 13 ∧ ∀ g12 : GH, g12 = sI g11 1591 th ((Gi g11 1591 th) - (1 : Int32)) → Kd g12 th = 13 ∧ Sp_M_say Γ th (126 : Int32) g12 (fun (g13 : GH) => B_M_atom_101 Γ R_M_atom R_M_sum K g13)))))))) ∧ (x2 = (91 : Int32) → Kd g1 th = 13 ∧ Sp_M_opens Γ th g1 (fun (x15 : Int32) (g14 : GH) => ((x15 = 0 → B_M_atom_101 Γ R_M_atom R_M_sum K g14) ∧ (¬ (x15 = 0) → Kd g14 th = 13 ∧ R_M_sum th g14 (fun (g16 : GH) => Kd g16 th = 13 ∧ Sp_M_closes Γ th (93 : Int32) g16 (fun (g17 : GH) => B_M_atom_101 Γ R_M_atom R_M_sum K g17))))))))
set_option maxHeartbeats 4000000 in
set_option maxRecDepth 100000 in
theorem S_M_atom_0 {Γ : GAM} {E : EV} {fr lo : Nat} {K : GH → Prop} (hE : GE Γ E cX11_atom 2 RX11 none fr lo (fun r g' => r = none ∧ K g')) (hfr : 2 ≤ fr) (hlo : 43 ≤ lo) {R_M_atom : Nat → GH → (GH → Prop) → Prop} {R_M_sum : Nat → GH → (GH → Prop) → Prop} {f_M_atom l_M_atom : Nat} (hR_M_atom : (f_M_atom + 1 ≤ fr ∧ 8 + (2 + 11) + l_M_atom ≤ lo) ∧ ∀ (th : Nat) g (K : GH → Prop), R_M_atom th g K → MetA Γ E.2.1 yX11_atom cX11_atom 2 none f_M_atom l_M_atom [.ref th] g (fun r g' => r = none ∧ K g')) {f_M_sum l_M_sum : Nat} (hR_M_sum : (f_M_sum + 1 ≤ fr ∧ 8 + (2 + 11) + l_M_sum ≤ lo) ∧ ∀ (th : Nat) g (K : GH → Prop), R_M_sum th g K → MetA Γ E.2.1 yX11_sum cX11_sum 2 none f_M_sum l_M_sum [.ref th] g (fun r g' => r = none ∧ K g')) (th : Nat) (g : GH) (h : B_M_atom_0 Γ R_M_atom R_M_sum K th g) : JW Γ E 0 [some (.ref th), none] [] g := by
  unfold B_M_atom_0 at h
  refine j_aload_n hE (by decide +kernel : decode cX11_atom 0 = .ok (.aload_n 0, 1)) rfl rfl ?_
  obtain ⟨hk, h⟩ := h
  refine j_callV hE rfl cl_X11_316 cf_12 im_X11_look se_X11_look ⟨by omega, by omega⟩ (As := []) (rest := []) rfl rfl (Nat.le_of_ble_eq_true rfl) hk (by decide +kernel : decode cX11_atom 1 = .ok (.invokevirtual 316, 3)) (mt_M_look _ _ _ h) ?_
  rintro _ g1 ⟨x2, rfl, h⟩
  refine j_istore_n hE (by decide +kernel : decode cX11_atom 4 = .ok (.istore_n 1, 1)) rfl (Nat.le_of_ble_eq_true rfl) rfl ?_
  refine j_iload_n hE (by decide +kernel : decode cX11_atom 5 = .ok (.iload_n 1, 1)) rfl rfl ?_
  refine j_bipush hE (by decide +kernel : decode cX11_atom 6 = .ok (.bipush 91, 2)) (v := (91 : Int32)) (by decide) ?_
  refine j_icmp_ne hE (by decide +kernel : decode cX11_atom 8 = .ok (.if_icmp .ne 23, 3)) (tgt := 31) (by decide) (fun q => ?_) (fun q => ?_)
  · replace h := h.1 q
    refine j_iload_n hE (by decide +kernel : decode cX11_atom 31 = .ok (.iload_n 1, 1)) rfl rfl ?_
    refine j_bipush hE (by decide +kernel : decode cX11_atom 32 = .ok (.bipush 45, 2)) (v := (45 : Int32)) (by decide) ?_
    refine j_icmp_ne hE (by decide +kernel : decode cX11_atom 34 = .ok (.if_icmp .ne 33, 3)) (tgt := 67) (by decide) (fun q => ?_) (fun q => ?_)
    · replace h := h.1 q
      refine j_iload_n hE (by decide +kernel : decode cX11_atom 67 = .ok (.iload_n 1, 1)) rfl rfl ?_
      refine j_callS hE rfl cl_X11_340 st_X11_isLetter ⟨by omega, by omega⟩ (As := [.int x2]) (rest := []) rfl rfl (Nat.le_of_ble_eq_true rfl) (by decide +kernel : decode cX11_atom 68 = .ok (.invokestatic 340, 3)) (mt_M_isLetter _ _ _ h) ?_
      rintro _ g3 ⟨x4, rfl, h⟩
      refine j_if_eq hE (by decide +kernel : decode cX11_atom 71 = .ok (.ifCond .eq 26, 3)) (tgt := 97) (by decide) (fun q => ?_) (fun q => ?_)
      · replace h := h.1 q
        refine j_aload_n hE (by decide +kernel : decode cX11_atom 97 = .ok (.aload_n 0, 1)) rfl rfl ?_
        obtain ⟨hk, h⟩ := h
        refine j_callV hE rfl cl_X11_343 cf_12 im_X11_number se_X11_number ⟨by omega, by omega⟩ (As := []) (rest := []) rfl rfl (Nat.le_of_ble_eq_true rfl) hk (by decide +kernel : decode cX11_atom 98 = .ok (.invokevirtual 343, 3)) (mt_M_number _ _ _ h) ?_
        rintro _ g5 ⟨rfl, h⟩
        refine j_weak [none, none] trivial ?_
        exact S_M_atom_101 hE hfr hlo hR_M_atom hR_M_sum _ h
      · replace h := h.2 q
        refine j_aload_n hE (by decide +kernel : decode cX11_atom 74 = .ok (.aload_n 0, 1)) rfl rfl ?_
        refine j_dup hE (by decide +kernel : decode cX11_atom 75 = .ok (.dup, 1)) rfl ?_
        obtain ⟨hk, h⟩ := h
        refine j_getI hE fg_X11_301 hk (by decide +kernel : decode cX11_atom 76 = .ok (.getfield 301, 3)) ?_
        refine j_iconst hE (by decide +kernel : decode cX11_atom 79 = .ok (.iconst 1, 1)) (v := (1 : Int32)) (by decide) ?_
        refine j_iadd hE (by decide +kernel : decode cX11_atom 80 = .ok (.iadd, 1)) ?_
        obtain ⟨hk, h⟩ := h
        obtain ⟨g6, hg⟩ : ∃ z, z = sI g3 1589 th ((Gi g3 1589 th) + (1 : Int32)) := ⟨_, rfl⟩; replace h := h g6 hg
        refine j_putI hE fa_X11_301 hk (fun q => by cases q) (by decide +kernel : decode cX11_atom 81 = .ok (.putfield 301, 3)) ?_
        rw [← hg]
        refine j_aload_n hE (by decide +kernel : decode cX11_atom 84 = .ok (.aload_n 0, 1)) rfl rfl ?_
        refine j_iconst hE (by decide +kernel : decode cX11_atom 85 = .ok (.iconst 1, 1)) (v := (1 : Int32)) (by decide) ?_
        obtain ⟨hk, h⟩ := h
        refine j_callV hE rfl cl_X11_323 cf_12 im_X11_say se_X11_say ⟨by omega, by omega⟩ (As := [.int (1 : Int32)]) (rest := []) rfl rfl (Nat.le_of_ble_eq_true rfl) hk (by decide +kernel : decode cX11_atom 86 = .ok (.invokevirtual 323, 3)) (mt_M_say _ _ _ _ h) ?_
        rintro _ g7 ⟨rfl, h⟩
        refine j_aload_n hE (by decide +kernel : decode cX11_atom 89 = .ok (.aload_n 0, 1)) rfl rfl ?_
        refine j_iload_n hE (by decide +kernel : decode cX11_atom 90 = .ok (.iload_n 1, 1)) rfl rfl ?_
        obtain ⟨hk, h⟩ := h
        refine j_callV hE rfl cl_X11_323 cf_12 im_X11_say se_X11_say ⟨by omega, by omega⟩ (As := [.int x2]) (rest := []) rfl rfl (Nat.le_of_ble_eq_true rfl) hk (by decide +kernel : decode cX11_atom 91 = .ok (.invokevirtual 323, 3)) (mt_M_say _ _ _ _ h) ?_
        rintro _ g8 ⟨rfl, h⟩
        refine j_goto hE (by decide +kernel : decode cX11_atom 94 = .ok (.goto 7, 3)) (tgt := 101) (by decide) ?_
        refine j_weak [none, none] trivial ?_
        exact S_M_atom_101 hE hfr hlo hR_M_atom hR_M_sum _ h
    · replace h := h.2 q
      refine j_aload_n hE (by decide +kernel : decode cX11_atom 37 = .ok (.aload_n 0, 1)) rfl rfl ?_
      obtain ⟨hk, h⟩ := h
      refine j_callV hE rfl cl_X11_327 cf_12 im_X11_opens se_X11_opens ⟨by omega, by omega⟩ (As := []) (rest := []) rfl rfl (Nat.le_of_ble_eq_true rfl) hk (by decide +kernel : decode cX11_atom 38 = .ok (.invokevirtual 327, 3)) (mt_M_opens _ _ _ h) ?_
      rintro _ g9 ⟨x10, rfl, h⟩
      refine j_if_eq hE (by decide +kernel : decode cX11_atom 41 = .ok (.ifCond .eq 60, 3)) (tgt := 101) (by decide) (fun q => ?_) (fun q => ?_)
      · replace h := h.1 q
        refine j_weak [none, none] trivial ?_
        exact S_M_atom_101 hE hfr hlo hR_M_atom hR_M_sum _ h
      · replace h := h.2 q
        refine j_aload_n hE (by decide +kernel : decode cX11_atom 44 = .ok (.aload_n 0, 1)) rfl rfl ?_
        obtain ⟨hk, h⟩ := h
        refine j_callV hE rfl cl_X11_337 cf_12 im_X11_atom se_X11_atom hR_M_atom.1 (As := []) (rest := []) rfl rfl (Nat.le_of_ble_eq_true rfl) hk (by decide +kernel : decode cX11_atom 45 = .ok (.invokevirtual 337, 3)) (hR_M_atom.2 _ _ _ h) ?_
        rintro _ g11 ⟨rfl, h⟩
        refine j_aload_n hE (by decide +kernel : decode cX11_atom 48 = .ok (.aload_n 0, 1)) rfl rfl ?_
        refine j_dup hE (by decide +kernel : decode cX11_atom 49 = .ok (.dup, 1)) rfl ?_
        obtain ⟨hk, h⟩ := h
        refine j_getI hE fg_X11_310 hk (by decide +kernel : decode cX11_atom 50 = .ok (.getfield 310, 3)) ?_
        refine j_iconst hE (by decide +kernel : decode cX11_atom 53 = .ok (.iconst 1, 1)) (v := (1 : Int32)) (by decide) ?_
        refine j_isub hE (by decide +kernel : decode cX11_atom 54 = .ok (.isub, 1)) ?_
        obtain ⟨hk, h⟩ := h
        obtain ⟨g12, hg⟩ : ∃ z, z = sI g11 1591 th ((Gi g11 1591 th) - (1 : Int32)) := ⟨_, rfl⟩; replace h := h g12 hg
        refine j_putI hE fa_X11_310 hk (fun q => by cases q) (by decide +kernel : decode cX11_atom 55 = .ok (.putfield 310, 3)) ?_
        rw [← hg]
        refine j_aload_n hE (by decide +kernel : decode cX11_atom 58 = .ok (.aload_n 0, 1)) rfl rfl ?_
        refine j_bipush hE (by decide +kernel : decode cX11_atom 59 = .ok (.bipush 126, 2)) (v := (126 : Int32)) (by decide) ?_
        obtain ⟨hk, h⟩ := h
        refine j_callV hE rfl cl_X11_323 cf_12 im_X11_say se_X11_say ⟨by omega, by omega⟩ (As := [.int (126 : Int32)]) (rest := []) rfl rfl (Nat.le_of_ble_eq_true rfl) hk (by decide +kernel : decode cX11_atom 61 = .ok (.invokevirtual 323, 3)) (mt_M_say _ _ _ _ h) ?_
        rintro _ g13 ⟨rfl, h⟩
        refine j_goto hE (by decide +kernel : decode cX11_atom 64 = .ok (.goto 37, 3)) (tgt := 101) (by decide) ?_
        refine j_weak [none, none] trivial ?_
        exact S_M_atom_101 hE hfr hlo hR_M_atom hR_M_sum _ h
  · replace h := h.2 q
    refine j_aload_n hE (by decide +kernel : decode cX11_atom 11 = .ok (.aload_n 0, 1)) rfl rfl ?_
    obtain ⟨hk, h⟩ := h
    refine j_callV hE rfl cl_X11_327 cf_12 im_X11_opens se_X11_opens ⟨by omega, by omega⟩ (As := []) (rest := []) rfl rfl (Nat.le_of_ble_eq_true rfl) hk (by decide +kernel : decode cX11_atom 12 = .ok (.invokevirtual 327, 3)) (mt_M_opens _ _ _ h) ?_
    rintro _ g14 ⟨x15, rfl, h⟩
    refine j_if_eq hE (by decide +kernel : decode cX11_atom 15 = .ok (.ifCond .eq 86, 3)) (tgt := 101) (by decide) (fun q => ?_) (fun q => ?_)
    · replace h := h.1 q
      refine j_weak [none, none] trivial ?_
      exact S_M_atom_101 hE hfr hlo hR_M_atom hR_M_sum _ h
    · replace h := h.2 q
      refine j_aload_n hE (by decide +kernel : decode cX11_atom 18 = .ok (.aload_n 0, 1)) rfl rfl ?_
      obtain ⟨hk, h⟩ := h
      refine j_callV hE rfl cl_X11_331 cf_12 im_X11_sum se_X11_sum hR_M_sum.1 (As := []) (rest := []) rfl rfl (Nat.le_of_ble_eq_true rfl) hk (by decide +kernel : decode cX11_atom 19 = .ok (.invokevirtual 331, 3)) (hR_M_sum.2 _ _ _ h) ?_
      rintro _ g16 ⟨rfl, h⟩
      refine j_aload_n hE (by decide +kernel : decode cX11_atom 22 = .ok (.aload_n 0, 1)) rfl rfl ?_
      refine j_bipush hE (by decide +kernel : decode cX11_atom 23 = .ok (.bipush 93, 2)) (v := (93 : Int32)) (by decide) ?_
      obtain ⟨hk, h⟩ := h
      refine j_callV hE rfl cl_X11_334 cf_12 im_X11_closes se_X11_closes ⟨by omega, by omega⟩ (As := [.int (93 : Int32)]) (rest := []) rfl rfl (Nat.le_of_ble_eq_true rfl) hk (by decide +kernel : decode cX11_atom 25 = .ok (.invokevirtual 334, 3)) (mt_M_closes _ _ _ _ h) ?_
      rintro _ g17 ⟨rfl, h⟩
      refine j_goto hE (by decide +kernel : decode cX11_atom 28 = .ok (.goto 73, 3)) (tgt := 101) (by decide) ?_
      refine j_weak [none, none] trivial ?_
      exact S_M_atom_101 hE hfr hlo hR_M_atom hR_M_sum _ h
set_option maxHeartbeats 4000000 in
set_option maxRecDepth 100000 in
theorem rl_M_atom {Γ : GAM} {l : Launch} {fr lo : Nat} (hfr : 2 ≤ fr) (hlo : 43 ≤ lo) {R_M_atom : Nat → GH → (GH → Prop) → Prop} {R_M_sum : Nat → GH → (GH → Prop) → Prop} {f_M_atom l_M_atom : Nat} (hR_M_atom : (f_M_atom + 1 ≤ fr ∧ 8 + (2 + 11) + l_M_atom ≤ lo) ∧ ∀ (th : Nat) g (K : GH → Prop), R_M_atom th g K → MetA Γ l yX11_atom cX11_atom 2 none f_M_atom l_M_atom [.ref th] g (fun r g' => r = none ∧ K g')) {f_M_sum l_M_sum : Nat} (hR_M_sum : (f_M_sum + 1 ≤ fr ∧ 8 + (2 + 11) + l_M_sum ≤ lo) ∧ ∀ (th : Nat) g (K : GH → Prop), R_M_sum th g K → MetA Γ l yX11_sum cX11_sum 2 none f_M_sum l_M_sum [.ref th] g (fun r g' => r = none ∧ K g')) {th : Nat} {g : GH} {K : GH → Prop} (h0 : B_M_atom_0 Γ R_M_atom R_M_sum K th g) : MetA Γ l yX11_atom cX11_atom 2 none fr lo [.ref th] g (fun r g' => r = none ∧ K g') := by
  refine MetA.introL (Lx := [some (.ref th), none]) (by decide) (Nat.le_of_ble_eq_true rfl) rfl rfl ?_
  intro E hEl hE hnm
  have hR_M_atom := hR_M_atom; rw [← hEl] at hR_M_atom
  have hR_M_sum := hR_M_sum; rw [← hEl] at hR_M_sum
  exact S_M_atom_0 hE hfr hlo hR_M_atom hR_M_sum th g h0
theorem mq_atom {Γ : GAM} {l : Launch} (r : Nat) (hr : r ≤ 8) {f' l' : Nat} (hA : ∀ (th : Nat) (g : GH) (K : GH → Prop), SpAo r Γ th g K → MetA Γ l yX11_atom cX11_atom 2 none f' l' [.ref th] g (fun r g' => r = none ∧ K g')) (hSm : ∀ (th : Nat) (g : GH) (K : GH → Prop), SpSo r Γ th g K → MetA Γ l yX11_sum cX11_sum 2 none f' l' [.ref th] g (fun r g' => r = none ∧ K g')) (f lo : Nat) (hf : f' + 1 ≤ f) (hlo : 200 + l' ≤ lo) (hf3 : 5 ≤ f) (th : Nat) (g : GH) (K : GH → Prop) (h : SpR (fun t => pAt t r) (10 * r + 2) (8 - r) Γ th g K) : MetA Γ l yX11_atom cX11_atom 2 none f lo [.ref th] g (fun r g' => r = none ∧ K g') := by
  obtain ⟨ma, s, p, sd, hI, hw, hP, hsl, hK⟩ := h
  have hT := hw.len.2.2.2.2.2.2.2.2.1
  have hpl := hP.2.1
  have gg1 := skp_ge (s_tap s) p
  have gg2 := skp_le hpl
  have haf : pAt (s_tap s) r = aF (s_tap s) (pOpt (pAt (s_tap s)) r) := by cases r <;> rfl
  refine rl_M_atom (R_M_atom := SpAo r Γ) (R_M_sum := SpSo r Γ) (f_M_atom := f') (l_M_atom := l') (f_M_sum := f') (l_M_sum := l') (by omega) (by omega) ⟨⟨hf, by omega⟩, hA⟩ ⟨⟨hf, by omega⟩, hSm⟩ ?_
  unfold B_M_atom_0 B_M_atom_101
  refine ⟨hI.1.1, ma, s, p, hI, hw, hP.1, by omega, fun g1 hx1 ha1 => ?_⟩
  have hf1 : FrX th [1589, 1590, 1591, 1592] [1583] g g1 := hx1.up (by decide) (by decide)
  have hI1 := hI.x hx1 (by decide +kernel)
  have hkd1 := hI1.1.1
  have hP1 := hP.x hx1 ha1 gg2
  have hK1 : ∀ g', FrX th [1589, 1590, 1591, 1592] [1583] g g' → PO th g' s sd (8 - r) (10 * r + 2) (pAt (s_tap s) r p) → K g' := hK
  rw [haf] at hK1
  unfold aF at hK1
  obtain ⟨q0, hq0⟩ : ∃ q0, skp (s_tap s) p = q0 := ⟨_, rfl⟩
  rw [hq0] at gg1 gg2 hP1
  simp only [hq0] at hK1 ⊢
  refine ⟨fun u => ⟨fun u2 => ?_, fun u2 => ?_⟩, fun u => ?_⟩
  · unfold Sp_M_isLetter
    refine ⟨fun u3 => ⟨hkd1, 8 - r, ma, s, q0, sd, hI1, hw, hP1, by omega, fun g5 hx5 hO5 => ?_⟩, fun u3 => ⟨hkd1, hkd1, ?_⟩⟩
    · have hnl : ¬ okLt (chr (s_tap s) q0) := fun z => by rw [if_pos z] at u3; exact absurd u3 (by decide)
      refine hK1 g5 (hf1.tr hx5) ?_
      rw [if_neg hnl, if_neg u, if_neg u2]
      have e : pNm (s_tap s) q0 = pNm (s_tap s) p := by unfold pNm; rw [← hq0, skp_i]
      rw [← e]
      exact hO5.up (Nat.zero_le _)
    · have hl : okLt (chr (s_tap s) q0) := Classical.byContradiction (fun z => u3 (by rw [if_neg z]))
      have hlt : q0 < (s_tap s).length := chr_in (fun z => by rw [z] at hl; exact absurd hl (by decide))
      rintro g6 rfl
      have hx6 : FrX th [1589, 1590, 1591, 1592] [1583] g1 (sI g1 1589 th (Gi g1 1589 th + 1)) := FrA
      have hI6 := hI1.x hx6 (by decide +kernel)
      have hP6 := hP1.pos hlt
      refine ⟨hI6.1.1, ma, s, _, hI6, hP6.2.2.2.2.2.1, by omega, fun g7 hg7 => ?_⟩
      have hx7 : FrX th [1589, 1590, 1591, 1592] [1583] (sI g1 1589 th (Gi g1 1589 th + 1)) g7 := by rw [hg7]; exact FrP
      have hI7 := hI6.x hx7 (by decide +kernel)
      have hP7 := hP6.say (c := 1)
      rw [← hg7] at hP7
      refine ⟨hI7.1.1, ma, s, _, hI7, hP7.2.2.2.2.2.1, by rw [List.length_append]; simp only [List.length_cons, List.length_nil]; omega, fun g8 hg8 => ?_⟩
      have hx8 : FrX th [1589, 1590, 1591, 1592] [1583] g7 g8 := by rw [hg8]; exact FrP
      have hP8 := hP7.say (c := chr (s_tap s) q0)
      rw [← hg8] at hP8
      refine hK1 g8 (hf1.tr (hx6.tr (hx7.tr hx8))) ?_
      rw [if_pos hl]
      refine .inl ?_
      rw [enC_1, (lt_w hl).2]
      simpa using hP8
  · have hlt : q0 < (s_tap s).length := chr_in (by rw [u2]; decide)
    have hnl : ¬ okLt (chr (s_tap s) q0) := by rw [u2]; decide
    refine ⟨hkd1, s, q0, sd, 8 - r, hkd1, hP1, hlt, hT, by omega, fun hd g9 hx9 hP9 => ?_, fun hd g9 hx9 hW9 => ?_⟩
    · obtain ⟨r', rfl⟩ : ∃ r', r = r' + 1 := ⟨r - 1, by omega⟩
      have ho' : pOpt (pAt (s_tap s)) (r' + 1) = some (pAt (s_tap s) r') := rfl
      have hI9 := hI1.x hx9 (by decide +kernel)
      refine ⟨fun z => absurd z (by decide), fun _ => ⟨hI9.1.1, ma, s, q0 + 1, sd, hI9, hw, by rw [show 8 - r' = 8 - (r' + 1) + 1 by omega]; exact hP9, by omega, fun g11 hx11 hO11 => ?_⟩⟩
      have hI11 := hI9.x hx11 (by decide +kernel)
      refine ⟨hI11.1.1, hI11.1.1, ?_⟩
      rintro g12 rfl
      rw [show 8 - r' = 8 - (r' + 1) + 1 by omega] at hO11
      have hO12 := hO11.dn
      have hx12 : FrX th [1589, 1590, 1591, 1592] [1583] g11 (sI g11 1591 th (Gi g11 1591 th - 1)) := FrX.sI (by decide)
      have hI12 := hI11.x hx12 (by decide +kernel)
      have hok := pAt_ok (s_tap s) r' (q0 + 1) (by omega)
      obtain ⟨k, k1, k2, k3⟩ := hO12.k (by omega) (fun p2 w hr => by
        simp only at hr
        rw [hr] at hok
        obtain ⟨z1, z2, z3, z4, z5⟩ := hok
        rw [List.length_append]; omega)
      refine ⟨hI12.1.1, ma, s, k, hI12, k1, k2, fun g13 hg13 => ?_⟩
      have hO13 := k3 126 (by decide)
      rw [← hg13] at hO13
      refine hK1 g13 (hf1.tr (hx9.tr (hx11.tr (hx12.tr (by rw [hg13]; exact FrP))))) ?_
      rw [if_neg hnl, if_neg u, if_pos u2, ho']
      exact hO13.up (by omega)
    · have hr0 : r = 0 := by omega
      subst hr0
      have ho' : pOpt (pAt (s_tap s)) 0 = none := rfl
      refine ⟨fun _ => hK1 g9 (hf1.tr hx9) ?_, fun z => absurd rfl z⟩
      rw [if_neg hnl, if_neg u, if_pos u2, ho']
      exact hW9.up (Nat.zero_le _)
  · have hlt : q0 < (s_tap s).length := chr_in (by rw [u]; decide)
    have hnl : ¬ okLt (chr (s_tap s) q0) := by rw [u]; decide
    refine ⟨hkd1, s, q0, sd, 8 - r, hkd1, hP1, hlt, hT, by omega, fun hd g9 hx9 hP9 => ?_, fun hd g9 hx9 hW9 => ?_⟩
    · obtain ⟨r', rfl⟩ : ∃ r', r = r' + 1 := ⟨r - 1, by omega⟩
      have ho' : pOpt (pAt (s_tap s)) (r' + 1) = some (pAt (s_tap s) r') := rfl
      have hI9 := hI1.x hx9 (by decide +kernel)
      refine ⟨fun z => absurd z (by decide), fun _ => ⟨hI9.1.1, ma, s, q0 + 1, sd, hI9, hw, by rw [show 8 - r' = 8 - (r' + 1) + 1 by omega]; exact hP9, by omega, fun g11 hx11 hO11 => ?_⟩⟩
      have hI11 := hI9.x hx11 (by decide +kernel)
      rw [show 8 - r' = 8 - (r' + 1) + 1 by omega] at hO11
      have hok := pSm_ok (pAt_ok (s_tap s) r') (q0 + 1) (by omega)
      refine ⟨hI11.1.1, ma, s, sd, 8 - (r' + 1), 10 * r' + 4, _, hI11, hw, by decide, hO11, fun p2 w hr => ?_, by decide, fun g17 hx17 hO17 => ?_⟩
      · simp only at hr
        rw [hr] at hok
        obtain ⟨z1, z2, z3, z4, z5⟩ := hok
        exact ⟨by rw [List.length_append]; omega, z2⟩
      · refine hK1 g17 (hf1.tr (hx9.tr (hx11.tr hx17))) ?_
        rw [if_neg hnl, if_pos u, ho']
        exact hO17.up (by omega)
    · have hr0 : r = 0 := by omega
      subst hr0
      have ho' : pOpt (pAt (s_tap s)) 0 = none := rfl
      refine ⟨fun _ => hK1 g9 (hf1.tr hx9) ?_, fun z => absurd rfl z⟩
      rw [if_neg hnl, if_pos u, ho']
      exact hW9.up (Nat.zero_le _)
