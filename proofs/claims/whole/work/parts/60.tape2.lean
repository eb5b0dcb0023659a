/-! the class: its reader of laws, the loops -/
def SpZ (S : List Int32 → Nat → PRs) (r : Nat) (Γ : GAM) (m : Nat) (d : Int32) (g : GH) (K : Int32 → GH → Prop) : Prop := d = nI (8 - r) ∧ SpT S Γ m g K
theorem TO.kd {m : Nat} {g : GH} {t ws : List Int32} {r : PRs} {b : Int32} (h : TO m g t ws r b) : Kd g m = 8 := by
  cases r with
  | inl e => obtain ⟨_, ws', h⟩ := h; exact h.1.1.1
  | inr x => exact h.2.1.1.1
theorem TO.tt {m : Nat} {g : GH} {t ws : List Int32} {r : PRs} {b : Int32} (h : TO m g t ws r b) : TT m g t := by
  cases r with
  | inl e => obtain ⟨_, ws', h⟩ := h; exact h.1
  | inr x => exact h.2.1
theorem TO.b {m : Nat} {g : GH} {t ws : List Int32} {r : PRs} {b : Int32} (h : TO m g t ws r b) : b = 0 ∨ b = 1 := by
  cases r with
  | inl e => exact .inl h.1
  | inr x => exact .inr h.1
theorem TO.pre {m : Nat} {g : GH} {t ws w : List Int32} {r : PRs} {b : Int32} (h : TO m g t (ws ++ w) r b) : TO m g t ws (pPre w r) b := by
  cases r with
  | inl e => exact h
  | inr x =>
    obtain ⟨p2, w2⟩ := x
    show _ ∧ TN m g t p2 (ws ++ (w ++ w2))
    rw [← List.append_assoc]; exact h
theorem TO.wr {Γ : GAM} {m : Nat} {g : GH} {t ws : List Int32} {r : PRs} {b : Int32} (h : TO m g t ws r b) (hb : ∀ p2 w, r = .inr (p2, w) → (ws ++ w).length < 200) (c : Int32) {K : GH → Prop} (hK : ∀ g', FrX m [903, 899] [898] g g' → TO m g' t ws (pOp c r) b → K g') : Sp_Ta_write Γ m (-c) g K := by
  cases r with
  | inl e =>
    obtain ⟨h0, ws', h⟩ := h
    exact ⟨t, e, ws', h, fun g' ws2 hx hN _ => hK g' hx ⟨h0, ws2, hN⟩⟩
  | inr x =>
    obtain ⟨p2, w⟩ := x
    refine ⟨t, p2, ws ++ w, h.2, fun g' ws2 hx hN hw => hK g' hx ⟨h.1, ?_⟩⟩
    rw [hw (hb p2 w rfl), List.append_assoc] at hN
    exact hN
-- the walk of Ta_readTerm
set_option maxRecDepth 100000 in
def B_Ta_readTerm_47 (Γ : GAM) (R_Ta_readAtom : Nat → Int32 → GH → (Int32 → GH → Prop) → Prop) (K8 : Nat → Int32 → Int32 → Int32 → GH → Prop) (K : Int32 → GH → Prop) (l2 : Int32) (g : GH) : Prop :=
  ((l2 = 0 ∨ l2 = 1) ∧ K l2 g)
set_option maxHeartbeats 4000000 in
set_option maxRecDepth 100000 in
theorem S_Ta_readTerm_47 {Γ : GAM} {E : EV} {fr lo : Nat} {K : Int32 → GH → Prop} (hE : GE Γ E cX6_readTerm 4 RX6 (some (.boolean)) fr lo (fun r g' => ∃ x, r = some (.int x) ∧ K x g')) (hfr : 2 ≤ fr) (hlo : 42 ≤ lo) {R_Ta_readAtom : Nat → Int32 → GH → (Int32 → GH → Prop) → Prop} {f_Ta_readAtom l_Ta_readAtom : Nat} (hR_Ta_readAtom : (f_Ta_readAtom + 1 ≤ fr ∧ 8 + (4 + 11) + l_Ta_readAtom ≤ lo) ∧ ∀ (th : Nat) (p0 : Int32) g (K : Int32 → GH → Prop), R_Ta_readAtom th p0 g K → MetA Γ E.2.1 yX6_readAtom cX6_readAtom 4 (some (.boolean)) f_Ta_readAtom l_Ta_readAtom [.ref th, .int p0] g (fun r g' => ∃ x, r = some (.int x) ∧ K x g')) {K8 : Nat → Int32 → Int32 → Int32 → GH → Prop} (hK8 : ∀ (l0 : Nat) (l1 : Int32) (l2 : Int32) (l3 : Int32) (g : GH), K8 l0 l1 l2 l3 g → JW Γ E 8 [some (.ref l0), some (.int l1), some (.int l2), some (.int l3)] [] g) (l2 : Int32) (g : GH) (h : B_Ta_readTerm_47 Γ R_Ta_readAtom K8 K l2 g) : JW Γ E 47 [none, none, some (.int l2), none] [] g := by
  unfold B_Ta_readTerm_47 at h
  refine j_iload_n hE (by decide +kernel : decode cX6_readTerm 47 = .ok (.iload_n 2, 1)) rfl rfl ?_
  exact j_zret hE h.1 (by decide +kernel : decode cX6_readTerm 48 = .ok (.ireturn, 1)) ⟨_, rfl, h.2⟩
set_option maxRecDepth 100000 in
def B_Ta_readTerm_8 (Γ : GAM) (R_Ta_readAtom : Nat → Int32 → GH → (Int32 → GH → Prop) → Prop) (K8 : Nat → Int32 → Int32 → Int32 → GH → Prop) (K : Int32 → GH → Prop) (l0 : Nat) (l1 : Int32) (l2 : Int32) (l3 : Int32) (g : GH) : Prop :=
  Kd g l0 = 8 ∧ (((Gi g 897 l0) ≤ l3 → B_Ta_readTerm_47 Γ R_Ta_readAtom K8 K l2 g) ∧ (¬ ((Gi g 897 l0) ≤ l3) → ((l2 = 0 → B_Ta_readTerm_47 Γ R_Ta_readAtom K8 K l2 g) ∧ (¬ (l2 = 0) → Kd g l0 = 8 ∧ Sp_Ta_takes Γ l0 (42 : Int32) g (fun (x2 : Int32) (g1 : GH) => ((x2 = 0 → B_Ta_readTerm_47 Γ R_Ta_readAtom K8 K l2 g1) ∧ (¬ (x2 = 0) → Kd g1 l0 = 8 ∧ R_Ta_readAtom l0 l1 g1 (fun (x4 : Int32) (g3 : GH) => Kd g3 l0 = 8 ∧ Sp_Ta_write Γ l0 (-42 : Int32) g3 (fun (g5 : GH) => K8 l0 l1 x4 (l3 + (1 : Int32)) g5)))))))))
set_option maxHeartbeats 4000000 in
set_option maxRecDepth 100000 in
theorem S_Ta_readTerm_8 {Γ : GAM} {E : EV} {fr lo : Nat} {K : Int32 → GH → Prop} (hE : GE Γ E cX6_readTerm 4 RX6 (some (.boolean)) fr lo (fun r g' => ∃ x, r = some (.int x) ∧ K x g')) (hfr : 2 ≤ fr) (hlo : 42 ≤ lo) {R_Ta_readAtom : Nat → Int32 → GH → (Int32 → GH → Prop) → Prop} {f_Ta_readAtom l_Ta_readAtom : Nat} (hR_Ta_readAtom : (f_Ta_readAtom + 1 ≤ fr ∧ 8 + (4 + 11) + l_Ta_readAtom ≤ lo) ∧ ∀ (th : Nat) (p0 : Int32) g (K : Int32 → GH → Prop), R_Ta_readAtom th p0 g K → MetA Γ E.2.1 yX6_readAtom cX6_readAtom 4 (some (.boolean)) f_Ta_readAtom l_Ta_readAtom [.ref th, .int p0] g (fun r g' => ∃ x, r = some (.int x) ∧ K x g')) {K8 : Nat → Int32 → Int32 → Int32 → GH → Prop} (hK8 : ∀ (l0 : Nat) (l1 : Int32) (l2 : Int32) (l3 : Int32) (g : GH), K8 l0 l1 l2 l3 g → JW Γ E 8 [some (.ref l0), some (.int l1), some (.int l2), some (.int l3)] [] g) (l0 : Nat) (l1 : Int32) (l2 : Int32) (l3 : Int32) (g : GH) (h : B_Ta_readTerm_8 Γ R_Ta_readAtom K8 K l0 l1 l2 l3 g) : JW Γ E 8 [some (.ref l0), some (.int l1), some (.int l2), some (.int l3)] [] g := by
  unfold B_Ta_readTerm_8 at h
  refine j_iload_n hE (by decide +kernel : decode cX6_readTerm 8 = .ok (.iload_n 3, 1)) rfl rfl ?_
  refine j_aload_n hE (by decide +kernel : decode cX6_readTerm 9 = .ok (.aload_n 0, 1)) rfl rfl ?_
  obtain ⟨hk, h⟩ := h
  refine j_getI hE fg_X6_24 hk (by decide +kernel : decode cX6_readTerm 10 = .ok (.getfield 24, 3)) ?_
  refine j_icmp_ge hE (by decide +kernel : decode cX6_readTerm 13 = .ok (.if_icmp .ge 34, 3)) (tgt := 47) (by decide) (fun q => ?_) (fun q => ?_)
  · replace h := h.1 q
    refine j_weak [none, none, some (.int l2), none] ⟨rfl, trivial⟩ ?_
    exact S_Ta_readTerm_47 hE hfr hlo hR_Ta_readAtom hK8 _ _ h
  · replace h := h.2 q
    refine j_iload_n hE (by decide +kernel : decode cX6_readTerm 16 = .ok (.iload_n 2, 1)) rfl rfl ?_
    refine j_if_eq hE (by decide +kernel : decode cX6_readTerm 17 = .ok (.ifCond .eq 30, 3)) (tgt := 47) (by decide) (fun q => ?_) (fun q => ?_)
    · replace h := h.1 q
      refine j_weak [none, none, some (.int l2), none] ⟨rfl, trivial⟩ ?_
      exact S_Ta_readTerm_47 hE hfr hlo hR_Ta_readAtom hK8 _ _ h
    · replace h := h.2 q
      refine j_aload_n hE (by decide +kernel : decode cX6_readTerm 20 = .ok (.aload_n 0, 1)) rfl rfl ?_
      refine j_bipush hE (by decide +kernel : decode cX6_readTerm 21 = .ok (.bipush 42, 2)) (v := (42 : Int32)) (by decide) ?_
      obtain ⟨hk, h⟩ := h
      refine j_callV hE rfl cl_X6_41 cf_7 im_X6_takes se_X6_takes ⟨by omega, by omega⟩ (As := [.int (42 : Int32)]) (rest := []) rfl rfl (Nat.le_of_ble_eq_true rfl) hk (by decide +kernel : decode cX6_readTerm 23 = .ok (.invokevirtual 41, 3)) (mt_Ta_takes _ _ _ _ h) ?_
      rintro _ g1 ⟨x2, rfl, h⟩
      refine j_if_eq hE (by decide +kernel : decode cX6_readTerm 26 = .ok (.ifCond .eq 21, 3)) (tgt := 47) (by decide) (fun q => ?_) (fun q => ?_)
      · replace h := h.1 q
        refine j_weak [none, none, some (.int l2), none] ⟨rfl, trivial⟩ ?_
        exact S_Ta_readTerm_47 hE hfr hlo hR_Ta_readAtom hK8 _ _ h
      · replace h := h.2 q
        refine j_aload_n hE (by decide +kernel : decode cX6_readTerm 29 = .ok (.aload_n 0, 1)) rfl rfl ?_
        refine j_iload_n hE (by decide +kernel : decode cX6_readTerm 30 = .ok (.iload_n 1, 1)) rfl rfl ?_
        obtain ⟨hk, h⟩ := h
        refine j_callV hE rfl cl_X6_77 cf_7 im_X6_readAtom se_X6_readAtom hR_Ta_readAtom.1 (As := [.int l1]) (rest := []) rfl rfl (Nat.le_of_ble_eq_true rfl) hk (by decide +kernel : decode cX6_readTerm 31 = .ok (.invokevirtual 77, 3)) (hR_Ta_readAtom.2 _ _ _ _ h) ?_
        rintro _ g3 ⟨x4, rfl, h⟩
        refine j_istore_n hE (by decide +kernel : decode cX6_readTerm 34 = .ok (.istore_n 2, 1)) rfl (Nat.le_of_ble_eq_true rfl) rfl ?_
        refine j_aload_n hE (by decide +kernel : decode cX6_readTerm 35 = .ok (.aload_n 0, 1)) rfl rfl ?_
        refine j_bipush hE (by decide +kernel : decode cX6_readTerm 36 = .ok (.bipush (-42), 2)) (v := (-42 : Int32)) (by decide) ?_
        obtain ⟨hk, h⟩ := h
        refine j_callV hE rfl cl_X6_64 cf_7 im_X6_write se_X6_write ⟨by omega, by omega⟩ (As := [.int (-42 : Int32)]) (rest := []) rfl rfl (Nat.le_of_ble_eq_true rfl) hk (by decide +kernel : decode cX6_readTerm 38 = .ok (.invokevirtual 64, 3)) (mt_Ta_write _ _ _ _ h) ?_
        rintro _ g5 ⟨rfl, h⟩
        refine j_iinc hE (by decide +kernel : decode cX6_readTerm 41 = .ok (.iinc 3 1, 3)) (v := (1 : Int32)) (by decide) rfl (Nat.le_of_ble_eq_true rfl) rfl ?_
        refine j_goto hE (by decide +kernel : decode cX6_readTerm 44 = .ok (.goto (-36), 3)) (tgt := 8) (by decide) ?_
        exact hK8 _ _ _ _ _ h
set_option maxRecDepth 100000 in
def B_Ta_readTerm_0 (Γ : GAM) (R_Ta_readAtom : Nat → Int32 → GH → (Int32 → GH → Prop) → Prop) (K8 : Nat → Int32 → Int32 → Int32 → GH → Prop) (K : Int32 → GH → Prop) (th : Nat) (p0 : Int32) (g : GH) : Prop :=
  Kd g th = 8 ∧ R_Ta_readAtom th p0 g (fun (x2 : Int32) (g1 : GH) => K8 th p0 x2 (0 : Int32) g1)
set_option maxHeartbeats 4000000 in
set_option maxRecDepth 100000 in
theorem S_Ta_readTerm_0 {Γ : GAM} {E : EV} {fr lo : Nat} {K : Int32 → GH → Prop} (hE : GE Γ E cX6_readTerm 4 RX6 (some (.boolean)) fr lo (fun r g' => ∃ x, r = some (.int x) ∧ K x g')) (hfr : 2 ≤ fr) (hlo : 42 ≤ lo) {R_Ta_readAtom : Nat → Int32 → GH → (Int32 → GH → Prop) → Prop} {f_Ta_readAtom l_Ta_readAtom : Nat} (hR_Ta_readAtom : (f_Ta_readAtom + 1 ≤ fr ∧ 8 + (4 + 11) + l_Ta_readAtom ≤ lo) ∧ ∀ (th : Nat) (p0 : Int32) g (K : Int32 → GH → Prop), R_Ta_readAtom th p0 g K → MetA Γ E.2.1 yX6_readAtom cX6_readAtom 4 (some (.boolean)) f_Ta_readAtom l_Ta_readAtom [.ref th, .int p0] g (fun r g' => ∃ x, r = some (.int x) ∧ K x g')) {K8 : Nat → Int32 → Int32 → Int32 → GH → Prop} (hK8 : ∀ (l0 : Nat) (l1 : Int32) (l2 : Int32) (l3 : Int32) (g : GH), K8 l0 l1 l2 l3 g → JW Γ E 8 [some (.ref l0), some (.int l1), some (.int l2), some (.int l3)] [] g) (th : Nat) (p0 : Int32) (g : GH) (h : B_Ta_readTerm_0 Γ R_Ta_readAtom K8 K th p0 g) : JW Γ E 0 [some (.ref th), some (.int p0), none, none] [] g := by
  unfold B_Ta_readTerm_0 at h
  refine j_aload_n hE (by decide +kernel : decode cX6_readTerm 0 = .ok (.aload_n 0, 1)) rfl rfl ?_
  refine j_iload_n hE (by decide +kernel : decode cX6_readTerm 1 = .ok (.iload_n 1, 1)) rfl rfl ?_
  obtain ⟨hk, h⟩ := h
  refine j_callV hE rfl cl_X6_77 cf_7 im_X6_readAtom se_X6_readAtom hR_Ta_readAtom.1 (As := [.int p0]) (rest := []) rfl rfl (Nat.le_of_ble_eq_true rfl) hk (by decide +kernel : decode cX6_readTerm 2 = .ok (.invokevirtual 77, 3)) (hR_Ta_readAtom.2 _ _ _ _ h) ?_
  rintro _ g1 ⟨x2, rfl, h⟩
  refine j_istore_n hE (by decide +kernel : decode cX6_readTerm 5 = .ok (.istore_n 2, 1)) rfl (Nat.le_of_ble_eq_true rfl) rfl ?_
  refine j_iconst hE (by decide +kernel : decode cX6_readTerm 6 = .ok (.iconst 0, 1)) (v := (0 : Int32)) (by decide) ?_
  refine j_istore_n hE (by decide +kernel : decode cX6_readTerm 7 = .ok (.istore_n 3, 1)) rfl (Nat.le_of_ble_eq_true rfl) rfl ?_
  exact hK8 _ _ _ _ _ h
set_option maxHeartbeats 4000000 in
set_option maxRecDepth 100000 in
theorem rl_Ta_readTerm {Γ : GAM} {l : Launch} {fr lo : Nat} (hfr : 2 ≤ fr) (hlo : 42 ≤ lo) {R_Ta_readAtom : Nat → Int32 → GH → (Int32 → GH → Prop) → Prop} {f_Ta_readAtom l_Ta_readAtom : Nat} (hR_Ta_readAtom : (f_Ta_readAtom + 1 ≤ fr ∧ 8 + (4 + 11) + l_Ta_readAtom ≤ lo) ∧ ∀ (th : Nat) (p0 : Int32) g (K : Int32 → GH → Prop), R_Ta_readAtom th p0 g K → MetA Γ l yX6_readAtom cX6_readAtom 4 (some (.boolean)) f_Ta_readAtom l_Ta_readAtom [.ref th, .int p0] g (fun r g' => ∃ x, r = some (.int x) ∧ K x g')) {th : Nat} {p0 : Int32} {g : GH} {K : Int32 → GH → Prop} (I8 : Nat → Nat → Int32 → Int32 → Int32 → GH → Prop) (hh8 : ∀ n (l0 : Nat) (l1 : Int32) (l2 : Int32) (l3 : Int32) (g : GH), I8 n l0 l1 l2 l3 g → B_Ta_readTerm_8 Γ R_Ta_readAtom (fun l0 l1 l2 l3 g => ∃ m, m < n ∧ I8 m l0 l1 l2 l3 g) K l0 l1 l2 l3 g) (h0 : B_Ta_readTerm_0 Γ R_Ta_readAtom (fun l0 l1 l2 l3 g => ∃ m, I8 m l0 l1 l2 l3 g) K th p0 g) : MetA Γ l yX6_readTerm cX6_readTerm 4 (some (.boolean)) fr lo [.ref th, .int p0] g (fun r g' => ∃ x, r = some (.int x) ∧ K x g') := by
  refine MetA.introL (Lx := [some (.ref th), some (.int p0), none, none]) (by decide) (Nat.le_of_ble_eq_true rfl) rfl rfl ?_
  intro E hEl hE hnm
  have hR_Ta_readAtom := hR_Ta_readAtom; rw [← hEl] at hR_Ta_readAtom
  have hall : ∀ n, (∀ (l0 : Nat) (l1 : Int32) (l2 : Int32) (l3 : Int32) (g : GH), I8 n l0 l1 l2 l3 g → JW Γ E 8 [some (.ref l0), some (.int l1), some (.int l2), some (.int l3)] [] g) := by
    intro n
    induction n using Nat.strongRecOn with
    | ind n ih =>
      exact fun l0 l1 l2 l3 g hi => S_Ta_readTerm_8 hE hfr hlo hR_Ta_readAtom (fun l0 l1 l2 l3 g hm => by obtain ⟨m, hm, h⟩ := hm; exact (ih m hm) l0 l1 l2 l3 g h) l0 l1 l2 l3 g (hh8 n l0 l1 l2 l3 g hi)
  exact S_Ta_readTerm_0 hE hfr hlo hR_Ta_readAtom (fun l0 l1 l2 l3 g hm => by obtain ⟨m, h⟩ := hm; exact (hall m) l0 l1 l2 l3 g h) th p0 g h0
theorem mz_readTerm {Γ : GAM} {l : Launch} {S : List Int32 → Nat → PRs} {r : Nat} {f' l' : Nat} (hS : ∀ t, PG t false (S t)) (hrec : ∀ (th : Nat) (p0 : Int32) (g : GH) (K : Int32 → GH → Prop), SpZ S r Γ th p0 g K → MetA Γ l yX6_readAtom cX6_readAtom 4 (some (.boolean)) f' l' [.ref th, .int p0] g (fun r g' => ∃ x, r = some (.int x) ∧ K x g')) (f lo : Nat) (hf : f' + 1 ≤ f) (hf3 : 3 ≤ f) (hlo : 50 + l' ≤ lo) (th : Nat) (p0 : Int32) (g : GH) (K : Int32 → GH → Prop) (h : SpZ (fun t => pSq t (S t) sp42) r Γ th p0 g K) : MetA Γ l yX6_readTerm cX6_readTerm 4 (some (.boolean)) f lo [.ref th, .int p0] g (fun r g' => ∃ x, r = some (.int x) ∧ K x g') := by
  obtain ⟨hd, t, q0, ws, hN, hwq, hK⟩ := h
  have hT := hN.1.2.2.1
  have hql := hN.2.2.1
  refine rl_Ta_readTerm (R_Ta_readAtom := SpZ S r Γ) (f_Ta_readAtom := f') (l_Ta_readAtom := l') (by omega) (by omega) ⟨⟨hf, by omega⟩, hrec⟩
    (fun n l0 l1 l2 l3 g' => th = l0 ∧ p0 = l1 ∧ ∃ i cur ff, l3 = nI i ∧ FrX th [903, 899] [898] g g' ∧ TO th g' t ws cur l2 ∧ OKr t q0 false cur ∧ n = pMe t cur ∧ (∀ p w, cur = .inr (p, w) → i < p ∧ t.length ≤ ff + p) ∧ pSq t (S t) sp42 q0 = pFn t (S t) sp42 ff cur) ?_ ?_
  · rintro n l0 l1 l2 l3 g' ⟨rfl, rfl, i, cur, ff, rfl, hfx, hO, hok, rfl, hff, hfin⟩
    have hkd := hO.kd
    suffices H : ∀ (K8 : Nat → Int32 → Int32 → Int32 → GH → Prop), (∀ g2 b2 cur2 ff2, FrX th [903, 899] [898] g g2 → TO th g2 t ws cur2 b2 → OKr t q0 false cur2 → pMe t cur2 < pMe t cur → (∀ p w, cur2 = .inr (p, w) → i + 1 < p ∧ t.length ≤ ff2 + p) → pSq t (S t) sp42 q0 = pFn t (S t) sp42 ff2 cur2 → K8 th p0 b2 (nI (i + 1)) g2) → B_Ta_readTerm_8 Γ (SpZ S r Γ) K8 K th p0 l2 (nI i) g' from
      H _ (fun g2 b2 cur2 ff2 h1 h2 h3 h4 h5 h6 => ⟨pMe t cur2, h4, rfl, rfl, i + 1, cur2, ff2, rfl, h1, h2, h3, rfl, h5, h6⟩)
    intro K8 h8
    have hdone : ∀ e, cur = .inl e → B_Ta_readTerm_47 Γ (SpZ S r Γ) K8 K l2 g' := fun e he => by
      subst he
      refine ⟨.inl hO.1, hK _ g' hfx ?_⟩
      simp only
      rw [hfin]
      exact hO
    unfold B_Ta_readTerm_8
    refine ⟨hkd, ?_⟩
    rw [hO.tt.2.1]
    cases hcur : cur with
    | inl e => 
      have hl2 : l2 = 0 := by subst hcur; exact hO.1
      exact ⟨fun _ => hdone e hcur, fun _ => ⟨fun _ => hdone e hcur, fun u => absurd hl2 u⟩⟩
    | inr x =>
      obtain ⟨p, w⟩ := x
      subst hcur
      obtain ⟨hl2, hN2⟩ := hO
      obtain ⟨hip, hffp⟩ := hff p w rfl
      obtain ⟨o1, o2, o3, o4, o5⟩ := id hok
      subst hl2
      rw [nj_le (by omega) (by omega)]
      refine ⟨fun u => by omega, fun _ => ⟨fun u => absurd u (by decide), fun _ => ⟨hkd, t, p, ws ++ w, hN2, by decide, by decide, fun hc g1 hx1 hN1 hlt => ⟨fun u => absurd u (by decide), fun _ => ⟨hN1.1.1.1, ?_⟩⟩, fun hc g1 hx1 hN1 => ⟨fun _ => ?_, fun u => absurd rfl u⟩⟩⟩⟩
      · have hcs : sp42 (chr t (skp t p)) = true := by rw [hc]; decide
        have gs := skp_ge t p
        obtain ⟨ok1, ok2⟩ := OKr_st (hS t) (by decide) op42 hok hcs
        rw [pFn_st (by decide) hffp hcs, hc] at hfin
        rw [hc] at ok1
        refine ⟨hd, t, skp t p + 1, ws ++ w, hN1, by rw [List.length_append]; omega, fun b3 g3 hx3 hO3 => ⟨hO3.kd, ?_⟩⟩
        refine hO3.wr (fun p2 w2 hr => ?_) 42 (fun g5 hx5 hO5 => ?_)
        · rw [hr] at ok1
          obtain ⟨k1, k2, k3, _, _⟩ := ok1
          simp only [List.length_append, List.length_cons, List.length_nil] at k3 ⊢
          omega
        rw [nj_s]
        refine h8 g5 b3 _ (ff - 1) (hfx.tr (hx1.tr (hx3.tr hx5))) hO5.pre ok1 ?_ (fun p2 w2 hr => ?_) hfin
        · cases hr : S t (skp t p + 1) with
          | inl e => show 0 < _; unfold pMe; simp only; omega
          | inr x =>
            obtain ⟨p2, w2⟩ := x
            have := ok2 p2 w2 hr
            show 1 + (t.length - p2) < 1 + (t.length - p)
            omega
        · cases hr2 : S t (skp t p + 1) with
          | inl e => rw [hr2] at hr; cases hr
          | inr x =>
            obtain ⟨p3, w3⟩ := x
            have := ok2 p3 w3 hr2
            rw [hr2] at hr
            have hp2 : p3 = p2 := by
              have hr' : (Sum.inr (p3, w ++ (w3 ++ [-42])) : PRs) = .inr (p2, w2) := hr
              exact congrArg Prod.fst (Sum.inr.inj hr')
            exact ⟨by omega, by omega⟩
      · refine ⟨.inr rfl, hK 1 g1 (hfx.tr hx1) ?_⟩
        simp only
        rw [hfin, pFn_no (by decide) hffp (by unfold sp42; simp [hc])]
        exact ⟨rfl, hN1⟩
  · unfold B_Ta_readTerm_0
    refine ⟨hN.1.1.1, hd, t, q0, ws, hN, hwq, fun b1 g1 hx1 hO1 => ?_⟩
    have hok := hS t q0 hql
    refine ⟨_, rfl, rfl, 0, S t q0, t.length, rfl, hx1, hO1, hok, rfl, fun p w hr => ?_, ?_⟩
    · rw [hr] at hok
      exact ⟨by have := hok.1; omega, by omega⟩
    · unfold pSq pFn
      cases S t q0 with
      | inl e => rfl
      | inr x => rfl
-- the walk of Ta_readPart
set_option maxRecDepth 100000 in
def B_Ta_readPart_47 (Γ : GAM) (R_Ta_readUnit : Nat → Int32 → GH → (Int32 → GH → Prop) → Prop) (K8 : Nat → Int32 → Int32 → Int32 → GH → Prop) (K : Int32 → GH → Prop) (l2 : Int32) (g : GH) : Prop :=
  ((l2 = 0 ∨ l2 = 1) ∧ K l2 g)
set_option maxHeartbeats 4000000 in
set_option maxRecDepth 100000 in
theorem S_Ta_readPart_47 {Γ : GAM} {E : EV} {fr lo : Nat} {K : Int32 → GH → Prop} (hE : GE Γ E cX6_readPart 4 RX6 (some (.boolean)) fr lo (fun r g' => ∃ x, r = some (.int x) ∧ K x g')) (hfr : 2 ≤ fr) (hlo : 42 ≤ lo) {R_Ta_readUnit : Nat → Int32 → GH → (Int32 → GH → Prop) → Prop} {f_Ta_readUnit l_Ta_readUnit : Nat} (hR_Ta_readUnit : (f_Ta_readUnit + 1 ≤ fr ∧ 8 + (4 + 11) + l_Ta_readUnit ≤ lo) ∧ ∀ (th : Nat) (p0 : Int32) g (K : Int32 → GH → Prop), R_Ta_readUnit th p0 g K → MetA Γ E.2.1 yX6_readUnit cX6_readUnit 4 (some (.boolean)) f_Ta_readUnit l_Ta_readUnit [.ref th, .int p0] g (fun r g' => ∃ x, r = some (.int x) ∧ K x g')) {K8 : Nat → Int32 → Int32 → Int32 → GH → Prop} (hK8 : ∀ (l0 : Nat) (l1 : Int32) (l2 : Int32) (l3 : Int32) (g : GH), K8 l0 l1 l2 l3 g → JW Γ E 8 [some (.ref l0), some (.int l1), some (.int l2), some (.int l3)] [] g) (l2 : Int32) (g : GH) (h : B_Ta_readPart_47 Γ R_Ta_readUnit K8 K l2 g) : JW Γ E 47 [none, none, some (.int l2), none] [] g := by
  unfold B_Ta_readPart_47 at h
  refine j_iload_n hE (by decide +kernel : decode cX6_readPart 47 = .ok (.iload_n 2, 1)) rfl rfl ?_
  exact j_zret hE h.1 (by decide +kernel : decode cX6_readPart 48 = .ok (.ireturn, 1)) ⟨_, rfl, h.2⟩
set_option maxRecDepth 100000 in
def B_Ta_readPart_8 (Γ : GAM) (R_Ta_readUnit : Nat → Int32 → GH → (Int32 → GH → Prop) → Prop) (K8 : Nat → Int32 → Int32 → Int32 → GH → Prop) (K : Int32 → GH → Prop) (l0 : Nat) (l1 : Int32) (l2 : Int32) (l3 : Int32) (g : GH) : Prop :=
  Kd g l0 = 8 ∧ (((Gi g 897 l0) ≤ l3 → B_Ta_readPart_47 Γ R_Ta_readUnit K8 K l2 g) ∧ (¬ ((Gi g 897 l0) ≤ l3) → ((l2 = 0 → B_Ta_readPart_47 Γ R_Ta_readUnit K8 K l2 g) ∧ (¬ (l2 = 0) → Kd g l0 = 8 ∧ Sp_Ta_takes Γ l0 (38 : Int32) g (fun (x2 : Int32) (g1 : GH) => ((x2 = 0 → B_Ta_readPart_47 Γ R_Ta_readUnit K8 K l2 g1) ∧ (¬ (x2 = 0) → Kd g1 l0 = 8 ∧ R_Ta_readUnit l0 l1 g1 (fun (x4 : Int32) (g3 : GH) => Kd g3 l0 = 8 ∧ Sp_Ta_write Γ l0 (-38 : Int32) g3 (fun (g5 : GH) => K8 l0 l1 x4 (l3 + (1 : Int32)) g5)))))))))
set_option maxHeartbeats 4000000 in
set_option maxRecDepth 100000 in
theorem S_Ta_readPart_8 {Γ : GAM} {E : EV} {fr lo : Nat} {K : Int32 → GH → Prop} (hE : GE Γ E cX6_readPart 4 RX6 (some (.boolean)) fr lo (fun r g' => ∃ x, r = some (.int x) ∧ K x g')) (hfr : 2 ≤ fr) (hlo : 42 ≤ lo) {R_Ta_readUnit : Nat → Int32 → GH → (Int32 → GH → Prop) → Prop} {f_Ta_readUnit l_Ta_readUnit : Nat} (hR_Ta_readUnit : (f_Ta_readUnit + 1 ≤ fr ∧ 8 + (4 + 11) + l_Ta_readUnit ≤ lo) ∧ ∀ (th : Nat) (p0 : Int32) g (K : Int32 → GH → Prop), R_Ta_readUnit th p0 g K → MetA Γ E.2.1 yX6_readUnit cX6_readUnit 4 (some (.boolean)) f_Ta_readUnit l_Ta_readUnit [.ref th, .int p0] g (fun r g' => ∃ x, r = some (.int x) ∧ K x g')) {K8 : Nat → Int32 → Int32 → Int32 → GH → Prop} (hK8 : ∀ (l0 : Nat) (l1 : Int32) (l2 : Int32) (l3 : Int32) (g : GH), K8 l0 l1 l2 l3 g → JW Γ E 8 [some (.ref l0), some (.int l1), some (.int l2), some (.int l3)] [] g) (l0 : Nat) (l1 : Int32) (l2 : Int32) (l3 : Int32) (g : GH) (h : B_Ta_readPart_8 Γ R_Ta_readUnit K8 K l0 l1 l2 l3 g) : JW Γ E 8 [some (.ref l0), some (.int l1), some (.int l2), some (.int l3)] [] g := by
  unfold B_Ta_readPart_8 at h
  refine j_iload_n hE (by decide +kernel : decode cX6_readPart 8 = .ok (.iload_n 3, 1)) rfl rfl ?_
  refine j_aload_n hE (by decide +kernel : decode cX6_readPart 9 = .ok (.aload_n 0, 1)) rfl rfl ?_
  obtain ⟨hk, h⟩ := h
  refine j_getI hE fg_X6_24 hk (by decide +kernel : decode cX6_readPart 10 = .ok (.getfield 24, 3)) ?_
  refine j_icmp_ge hE (by decide +kernel : decode cX6_readPart 13 = .ok (.if_icmp .ge 34, 3)) (tgt := 47) (by decide) (fun q => ?_) (fun q => ?_)
  · replace h := h.1 q
    refine j_weak [none, none, some (.int l2), none] ⟨rfl, trivial⟩ ?_
    exact S_Ta_readPart_47 hE hfr hlo hR_Ta_readUnit hK8 _ _ h
  · replace h := h.2 q
    refine j_iload_n hE (by decide +kernel : decode cX6_readPart 16 = .ok (.iload_n 2, 1)) rfl rfl ?_
    refine j_if_eq hE (by decide +kernel : decode cX6_readPart 17 = .ok (.ifCond .eq 30, 3)) (tgt := 47) (by decide) (fun q => ?_) (fun q => ?_)
    · replace h := h.1 q
      refine j_weak [none, none, some (.int l2), none] ⟨rfl, trivial⟩ ?_
      exact S_Ta_readPart_47 hE hfr hlo hR_Ta_readUnit hK8 _ _ h
    · replace h := h.2 q
      refine j_aload_n hE (by decide +kernel : decode cX6_readPart 20 = .ok (.aload_n 0, 1)) rfl rfl ?_
      refine j_bipush hE (by decide +kernel : decode cX6_readPart 21 = .ok (.bipush 38, 2)) (v := (38 : Int32)) (by decide) ?_
      obtain ⟨hk, h⟩ := h
      refine j_callV hE rfl cl_X6_41 cf_7 im_X6_takes se_X6_takes ⟨by omega, by omega⟩ (As := [.int (38 : Int32)]) (rest := []) rfl rfl (Nat.le_of_ble_eq_true rfl) hk (by decide +kernel : decode cX6_readPart 23 = .ok (.invokevirtual 41, 3)) (mt_Ta_takes _ _ _ _ h) ?_
      rintro _ g1 ⟨x2, rfl, h⟩
      refine j_if_eq hE (by decide +kernel : decode cX6_readPart 26 = .ok (.ifCond .eq 21, 3)) (tgt := 47) (by decide) (fun q => ?_) (fun q => ?_)
      · replace h := h.1 q
        refine j_weak [none, none, some (.int l2), none] ⟨rfl, trivial⟩ ?_
        exact S_Ta_readPart_47 hE hfr hlo hR_Ta_readUnit hK8 _ _ h
      · replace h := h.2 q
        refine j_aload_n hE (by decide +kernel : decode cX6_readPart 29 = .ok (.aload_n 0, 1)) rfl rfl ?_
        refine j_iload_n hE (by decide +kernel : decode cX6_readPart 30 = .ok (.iload_n 1, 1)) rfl rfl ?_
        obtain ⟨hk, h⟩ := h
        refine j_callV hE rfl cl_X6_68 cf_7 im_X6_readUnit se_X6_readUnit hR_Ta_readUnit.1 (As := [.int l1]) (rest := []) rfl rfl (Nat.le_of_ble_eq_true rfl) hk (by decide +kernel : decode cX6_readPart 31 = .ok (.invokevirtual 68, 3)) (hR_Ta_readUnit.2 _ _ _ _ h) ?_
        rintro _ g3 ⟨x4, rfl, h⟩
        refine j_istore_n hE (by decide +kernel : decode cX6_readPart 34 = .ok (.istore_n 2, 1)) rfl (Nat.le_of_ble_eq_true rfl) rfl ?_
        refine j_aload_n hE (by decide +kernel : decode cX6_readPart 35 = .ok (.aload_n 0, 1)) rfl rfl ?_
        refine j_bipush hE (by decide +kernel : decode cX6_readPart 36 = .ok (.bipush (-38), 2)) (v := (-38 : Int32)) (by decide) ?_
        obtain ⟨hk, h⟩ := h
        refine j_callV hE rfl cl_X6_64 cf_7 im_X6_write se_X6_write ⟨by omega, by omega⟩ (As := [.int (-38 : Int32)]) (rest := []) rfl rfl (Nat.le_of_ble_eq_true rfl) hk (by decide +kernel : decode cX6_readPart 38 = .ok (.invokevirtual 64, 3)) (mt_Ta_write _ _ _ _ h) ?_
        rintro _ g5 ⟨rfl, h⟩
        refine j_iinc hE (by decide +kernel : decode cX6_readPart 41 = .ok (.iinc 3 1, 3)) (v := (1 : Int32)) (by decide) rfl (Nat.le_of_ble_eq_true rfl) rfl ?_
        refine j_goto hE (by decide +kernel : decode cX6_readPart 44 = .ok (.goto (-36), 3)) (tgt := 8) (by decide) ?_
        exact hK8 _ _ _ _ _ h
set_option maxRecDepth 100000 in
def B_Ta_readPart_0 (Γ : GAM) (R_Ta_readUnit : Nat → Int32 → GH → (Int32 → GH → Prop) → Prop) (K8 : Nat → Int32 → Int32 → Int32 → GH → Prop) (K : Int32 → GH → Prop) (th : Nat) (p0 : Int32) (g : GH) : Prop :=
  Kd g th = 8 ∧ R_Ta_readUnit th p0 g (fun (x2 : Int32) (g1 : GH) => K8 th p0 x2 (0 : Int32) g1)
set_option maxHeartbeats 4000000 in
set_option maxRecDepth 100000 in
theorem S_Ta_readPart_0 {Γ : GAM} {E : EV} {fr lo : Nat} {K : Int32 → GH → Prop} (hE : GE Γ E cX6_readPart 4 RX6 (some (.boolean)) fr lo (fun r g' => ∃ x, r = some (.int x) ∧ K x g')) (hfr : 2 ≤ fr) (hlo : 42 ≤ lo) {R_Ta_readUnit : Nat → Int32 → GH → (Int32 → GH → Prop) → Prop} {f_Ta_readUnit l_Ta_readUnit : Nat} (hR_Ta_readUnit : (f_Ta_readUnit + 1 ≤ fr ∧ 8 + (4 + 11) + l_Ta_readUnit ≤ lo) ∧ ∀ (th : Nat) (p0 : Int32) g (K : Int32 → GH → Prop), R_Ta_readUnit th p0 g K → MetA Γ E.2.1 yX6_readUnit cX6_readUnit 4 (some (.boolean)) f_Ta_readUnit l_Ta_readUnit [.ref th, .int p0] g (fun r g' => ∃ x, r = some (.int x) ∧ K x g')) {K8 : Nat → Int32 → Int32 → Int32 → GH → Prop} (hK8 : ∀ (l0 : Nat) (l1 : Int32) (l2 : Int32) (l3 : Int32) (g : GH), K8 l0 l1 l2 l3 g → JW Γ E 8 [some (.ref l0), some (.int l1), some (.int l2), some (.int l3)] [] g) (th : Nat) (p0 : Int32) (g : GH) (h : B_Ta_readPart_0 Γ R_Ta_readUnit K8 K th p0 g) : JW Γ E 0 [some (.ref th), some (.int p0), none, none] [] g := by
  unfold B_Ta_readPart_0 at h
  refine j_aload_n hE (by decide +kernel : decode cX6_readPart 0 = .ok (.aload_n 0, 1)) rfl rfl ?_
  refine j_iload_n hE (by decide +kernel : decode cX6_readPart 1 = .ok (.iload_n 1, 1)) rfl rfl ?_
  obtain ⟨hk, h⟩ := h
  refine j_callV hE rfl cl_X6_68 cf_7 im_X6_readUnit se_X6_readUnit hR_Ta_readUnit.1 (As := [.int p0]) (rest := []) rfl rfl (Nat.le_of_ble_eq_true rfl) hk (by decide +kernel : decode cX6_readPart 2 = .ok (.invokevirtual 68, 3)) (hR_Ta_readUnit.2 _ _ _ _ h) ?_
  rintro _ g1 ⟨x2, rfl, h⟩
  refine j_istore_n hE (by decide +kernel : decode cX6_readPart 5 = .ok (.istore_n 2, 1)) rfl (Nat.le_of_ble_eq_true rfl) rfl ?_
  refine j_iconst hE (by decide +kernel : decode cX6_readPart 6 = .ok (.iconst 0, 1)) (v := (0 : Int32)) (by decide) ?_
  refine j_istore_n hE (by decide +kernel : decode cX6_readPart 7 = .ok (.istore_n 3, 1)) rfl (Nat.le_of_ble_eq_true rfl) rfl ?_
  exact hK8 _ _ _ _ _ h
set_option maxHeartbeats 4000000 in
set_option maxRecDepth 100000 in
theorem rl_Ta_readPart {Γ : GAM} {l : Launch} {fr lo : Nat} (hfr : 2 ≤ fr) (hlo : 42 ≤ lo) {R_Ta_readUnit : Nat → Int32 → GH → (Int32 → GH → Prop) → Prop} {f_Ta_readUnit l_Ta_readUnit : Nat} (hR_Ta_readUnit : (f_Ta_readUnit + 1 ≤ fr ∧ 8 + (4 + 11) + l_Ta_readUnit ≤ lo) ∧ ∀ (th : Nat) (p0 : Int32) g (K : Int32 → GH → Prop), R_Ta_readUnit th p0 g K → MetA Γ l yX6_readUnit cX6_readUnit 4 (some (.boolean)) f_Ta_readUnit l_Ta_readUnit [.ref th, .int p0] g (fun r g' => ∃ x, r = some (.int x) ∧ K x g')) {th : Nat} {p0 : Int32} {g : GH} {K : Int32 → GH → Prop} (I8 : Nat → Nat → Int32 → Int32 → Int32 → GH → Prop) (hh8 : ∀ n (l0 : Nat) (l1 : Int32) (l2 : Int32) (l3 : Int32) (g : GH), I8 n l0 l1 l2 l3 g → B_Ta_readPart_8 Γ R_Ta_readUnit (fun l0 l1 l2 l3 g => ∃ m, m < n ∧ I8 m l0 l1 l2 l3 g) K l0 l1 l2 l3 g) (h0 : B_Ta_readPart_0 Γ R_Ta_readUnit (fun l0 l1 l2 l3 g => ∃ m, I8 m l0 l1 l2 l3 g) K th p0 g) : MetA Γ l yX6_readPart cX6_readPart 4 (some (.boolean)) fr lo [.ref th, .int p0] g (fun r g' => ∃ x, r = some (.int x) ∧ K x g') := by
  refine MetA.introL (Lx := [some (.ref th), some (.int p0), none, none]) (by decide) (Nat.le_of_ble_eq_true rfl) rfl rfl ?_
  intro E hEl hE hnm
  have hR_Ta_readUnit := hR_Ta_readUnit; rw [← hEl] at hR_Ta_readUnit
  have hall : ∀ n, (∀ (l0 : Nat) (l1 : Int32) (l2 : Int32) (l3 : Int32) (g : GH), I8 n l0 l1 l2 l3 g → JW Γ E 8 [some (.ref l0), some (.int l1), some (.int l2), some (.int l3)] [] g) := by
    intro n
    induction n using Nat.strongRecOn with
    | ind n ih =>
      exact fun l0 l1 l2 l3 g hi => S_Ta_readPart_8 hE hfr hlo hR_Ta_readUnit (fun l0 l1 l2 l3 g hm => by obtain ⟨m, hm, h⟩ := hm; exact (ih m hm) l0 l1 l2 l3 g h) l0 l1 l2 l3 g (hh8 n l0 l1 l2 l3 g hi)
  exact S_Ta_readPart_0 hE hfr hlo hR_Ta_readUnit (fun l0 l1 l2 l3 g hm => by obtain ⟨m, h⟩ := hm; exact (hall m) l0 l1 l2 l3 g h) th p0 g h0
theorem mz_readPart {Γ : GAM} {l : Launch} {S : List Int32 → Nat → PRs} {r : Nat} {f' l' : Nat} (hS : ∀ t, PG t true (S t)) (hrec : ∀ (th : Nat) (p0 : Int32) (g : GH) (K : Int32 → GH → Prop), SpZ S r Γ th p0 g K → MetA Γ l yX6_readUnit cX6_readUnit 4 (some (.boolean)) f' l' [.ref th, .int p0] g (fun r g' => ∃ x, r = some (.int x) ∧ K x g')) (f lo : Nat) (hf : f' + 1 ≤ f) (hf3 : 3 ≤ f) (hlo : 50 + l' ≤ lo) (th : Nat) (p0 : Int32) (g : GH) (K : Int32 → GH → Prop) (h : SpZ (fun t => pSq t (S t) sp38) r Γ th p0 g K) : MetA Γ l yX6_readPart cX6_readPart 4 (some (.boolean)) f lo [.ref th, .int p0] g (fun r g' => ∃ x, r = some (.int x) ∧ K x g') := by
  obtain ⟨hd, t, q0, ws, hN, hwq, hK⟩ := h
  have hT := hN.1.2.2.1
  have hql := hN.2.2.1
  refine rl_Ta_readPart (R_Ta_readUnit := SpZ S r Γ) (f_Ta_readUnit := f') (l_Ta_readUnit := l') (by omega) (by omega) ⟨⟨hf, by omega⟩, hrec⟩
    (fun n l0 l1 l2 l3 g' => th = l0 ∧ p0 = l1 ∧ ∃ i cur ff, l3 = nI i ∧ FrX th [903, 899] [898] g g' ∧ TO th g' t ws cur l2 ∧ OKr t q0 true cur ∧ n = pMe t cur ∧ (∀ p w, cur = .inr (p, w) → i < p ∧ t.length ≤ ff + p) ∧ pSq t (S t) sp38 q0 = pFn t (S t) sp38 ff cur) ?_ ?_
  · rintro n l0 l1 l2 l3 g' ⟨rfl, rfl, i, cur, ff, rfl, hfx, hO, hok, rfl, hff, hfin⟩
    have hkd := hO.kd
    suffices H : ∀ (K8 : Nat → Int32 → Int32 → Int32 → GH → Prop), (∀ g2 b2 cur2 ff2, FrX th [903, 899] [898] g g2 → TO th g2 t ws cur2 b2 → OKr t q0 true cur2 → pMe t cur2 < pMe t cur → (∀ p w, cur2 = .inr (p, w) → i + 1 < p ∧ t.length ≤ ff2 + p) → pSq t (S t) sp38 q0 = pFn t (S t) sp38 ff2 cur2 → K8 th p0 b2 (nI (i + 1)) g2) → B_Ta_readPart_8 Γ (SpZ S r Γ) K8 K th p0 l2 (nI i) g' from
      H _ (fun g2 b2 cur2 ff2 h1 h2 h3 h4 h5 h6 => ⟨pMe t cur2, h4, rfl, rfl, i + 1, cur2, ff2, rfl, h1, h2, h3, rfl, h5, h6⟩)
    intro K8 h8
    have hdone : ∀ e, cur = .inl e → B_Ta_readPart_47 Γ (SpZ S r Γ) K8 K l2 g' := fun e he => by
      subst he
      refine ⟨.inl hO.1, hK _ g' hfx ?_⟩
      simp only
      rw [hfin]
      exact hO
    unfold B_Ta_readPart_8
    refine ⟨hkd, ?_⟩
    rw [hO.tt.2.1]
    cases hcur : cur with
    | inl e => 
      have hl2 : l2 = 0 := by subst hcur; exact hO.1
      exact ⟨fun _ => hdone e hcur, fun _ => ⟨fun _ => hdone e hcur, fun u => absurd hl2 u⟩⟩
    | inr x =>
      obtain ⟨p, w⟩ := x
      subst hcur
      obtain ⟨hl2, hN2⟩ := hO
      obtain ⟨hip, hffp⟩ := hff p w rfl
      obtain ⟨o1, o2, o3, o4, o5⟩ := id hok
      subst hl2
      rw [nj_le (by omega) (by omega)]
      refine ⟨fun u => by omega, fun _ => ⟨fun u => absurd u (by decide), fun _ => ⟨hkd, t, p, ws ++ w, hN2, by decide, by decide, fun hc g1 hx1 hN1 hlt => ⟨fun u => absurd u (by decide), fun _ => ⟨hN1.1.1.1, ?_⟩⟩, fun hc g1 hx1 hN1 => ⟨fun _ => ?_, fun u => absurd rfl u⟩⟩⟩⟩
      · have hcs : sp38 (chr t (skp t p)) = true := by rw [hc]; decide
        have gs := skp_ge t p
        obtain ⟨ok1, ok2⟩ := OKr_st (hS t) (by decide) op38 hok hcs
        rw [pFn_st (by decide) hffp hcs, hc] at hfin
        rw [hc] at ok1
        refine ⟨hd, t, skp t p + 1, ws ++ w, hN1, by rw [List.length_append]; omega, fun b3 g3 hx3 hO3 => ⟨hO3.kd, ?_⟩⟩
        refine hO3.wr (fun p2 w2 hr => ?_) 38 (fun g5 hx5 hO5 => ?_)
        · rw [hr] at ok1
          obtain ⟨k1, k2, k3, _, _⟩ := ok1
          simp only [List.length_append, List.length_cons, List.length_nil] at k3 ⊢
          omega
        rw [nj_s]
        refine h8 g5 b3 _ (ff - 1) (hfx.tr (hx1.tr (hx3.tr hx5))) hO5.pre ok1 ?_ (fun p2 w2 hr => ?_) hfin
        · cases hr : S t (skp t p + 1) with
          | inl e => show 0 < _; unfold pMe; simp only; omega
          | inr x =>
            obtain ⟨p2, w2⟩ := x
            have := ok2 p2 w2 hr
            show 1 + (t.length - p2) < 1 + (t.length - p)
            omega
        · cases hr2 : S t (skp t p + 1) with
          | inl e => rw [hr2] at hr; cases hr
          | inr x =>
            obtain ⟨p3, w3⟩ := x
            have := ok2 p3 w3 hr2
            rw [hr2] at hr
            have hp2 : p3 = p2 := by
              have hr' : (Sum.inr (p3, w ++ (w3 ++ [-38])) : PRs) = .inr (p2, w2) := hr
              exact congrArg Prod.fst (Sum.inr.inj hr')
            exact ⟨by omega, by omega⟩
      · refine ⟨.inr rfl, hK 1 g1 (hfx.tr hx1) ?_⟩
        simp only
        rw [hfin, pFn_no (by decide) hffp (by unfold sp38; simp [hc])]
        exact ⟨rfl, hN1⟩
  · unfold B_Ta_readPart_0
    refine ⟨hN.1.1.1, hd, t, q0, ws, hN, hwq, fun b1 g1 hx1 hO1 => ?_⟩
    have hok := hS t q0 hql
    refine ⟨_, rfl, rfl, 0, S t q0, t.length, rfl, hx1, hO1, hok, rfl, fun p w hr => ?_, ?_⟩
    · rw [hr] at hok
      exact ⟨by have := hok.1; omega, by omega⟩
    · unfold pSq pFn
      cases S t q0 with
      | inl e => rfl
      | inr x => rfl
-- the walk of Ta_readCondition
set_option maxRecDepth 100000 in
def B_Ta_readCondition_47 (Γ : GAM) (R_Ta_readPart : Nat → Int32 → GH → (Int32 → GH → Prop) → Prop) (K8 : Nat → Int32 → Int32 → Int32 → GH → Prop) (K : Int32 → GH → Prop) (l2 : Int32) (g : GH) : Prop :=
  ((l2 = 0 ∨ l2 = 1) ∧ K l2 g)
set_option maxHeartbeats 4000000 in
set_option maxRecDepth 100000 in
theorem S_Ta_readCondition_47 {Γ : GAM} {E : EV} {fr lo : Nat} {K : Int32 → GH → Prop} (hE : GE Γ E cX6_readCondition 4 RX6 (some (.boolean)) fr lo (fun r g' => ∃ x, r = some (.int x) ∧ K x g')) (hfr : 2 ≤ fr) (hlo : 42 ≤ lo) {R_Ta_readPart : Nat → Int32 → GH → (Int32 → GH → Prop) → Prop} {f_Ta_readPart l_Ta_readPart : Nat} (hR_Ta_readPart : (f_Ta_readPart + 1 ≤ fr ∧ 8 + (4 + 11) + l_Ta_readPart ≤ lo) ∧ ∀ (th : Nat) (p0 : Int32) g (K : Int32 → GH → Prop), R_Ta_readPart th p0 g K → MetA Γ E.2.1 yX6_readPart cX6_readPart 4 (some (.boolean)) f_Ta_readPart l_Ta_readPart [.ref th, .int p0] g (fun r g' => ∃ x, r = some (.int x) ∧ K x g')) {K8 : Nat → Int32 → Int32 → Int32 → GH → Prop} (hK8 : ∀ (l0 : Nat) (l1 : Int32) (l2 : Int32) (l3 : Int32) (g : GH), K8 l0 l1 l2 l3 g → JW Γ E 8 [some (.ref l0), some (.int l1), some (.int l2), some (.int l3)] [] g) (l2 : Int32) (g : GH) (h : B_Ta_readCondition_47 Γ R_Ta_readPart K8 K l2 g) : JW Γ E 47 [none, none, some (.int l2), none] [] g := by
  unfold B_Ta_readCondition_47 at h
  refine j_iload_n hE (by decide +kernel : decode cX6_readCondition 47 = .ok (.iload_n 2, 1)) rfl rfl ?_
  exact j_zret hE h.1 (by decide +kernel : decode cX6_readCondition 48 = .ok (.ireturn, 1)) ⟨_, rfl, h.2⟩
set_option maxRecDepth 100000 in
def B_Ta_readCondition_8 (Γ : GAM) (R_Ta_readPart : Nat → Int32 → GH → (Int32 → GH → Prop) → Prop) (K8 : Nat → Int32 → Int32 → Int32 → GH → Prop) (K : Int32 → GH → Prop) (l0 : Nat) (l1 : Int32) (l2 : Int32) (l3 : Int32) (g : GH) : Prop :=
  Kd g l0 = 8 ∧ (((Gi g 897 l0) ≤ l3 → B_Ta_readCondition_47 Γ R_Ta_readPart K8 K l2 g) ∧ (¬ ((Gi g 897 l0) ≤ l3) → ((l2 = 0 → B_Ta_readCondition_47 Γ R_Ta_readPart K8 K l2 g) ∧ (¬ (l2 = 0) → Kd g l0 = 8 ∧ Sp_Ta_takes Γ l0 (124 : Int32) g (fun (x2 : Int32) (g1 : GH) => ((x2 = 0 → B_Ta_readCondition_47 Γ R_Ta_readPart K8 K l2 g1) ∧ (¬ (x2 = 0) → Kd g1 l0 = 8 ∧ R_Ta_readPart l0 l1 g1 (fun (x4 : Int32) (g3 : GH) => Kd g3 l0 = 8 ∧ Sp_Ta_write Γ l0 (-124 : Int32) g3 (fun (g5 : GH) => K8 l0 l1 x4 (l3 + (1 : Int32)) g5)))))))))
set_option maxHeartbeats 4000000 in
set_option maxRecDepth 100000 in
theorem S_Ta_readCondition_8 {Γ : GAM} {E : EV} {fr lo : Nat} {K : Int32 → GH → Prop} (hE : GE Γ E cX6_readCondition 4 RX6 (some (.boolean)) fr lo (fun r g' => ∃ x, r = some (.int x) ∧ K x g')) (hfr : 2 ≤ fr) (hlo : 42 ≤ lo) {R_Ta_readPart : Nat → Int32 → GH → (Int32 → GH → Prop) → Prop} {f_Ta_readPart l_Ta_readPart : Nat} (hR_Ta_readPart : (f_Ta_readPart + 1 ≤ fr ∧ 8 + (4 + 11) + l_Ta_readPart ≤ lo) ∧ ∀ (th : Nat) (p0 : Int32) g (K : Int32 → GH → Prop), R_Ta_readPart th p0 g K → MetA Γ E.2.1 yX6_readPart cX6_readPart 4 (some (.boolean)) f_Ta_readPart l_Ta_readPart [.ref th, .int p0] g (fun r g' => ∃ x, r = some (.int x) ∧ K x g')) {K8 : Nat → Int32 → Int32 → Int32 → GH → Prop} (hK8 : ∀ (l0 : Nat) (l1 : Int32) (l2 : Int32) (l3 : Int32) (g : GH), K8 l0 l1 l2 l3 g → JW Γ E 8 [some (.ref l0), some (.int l1), some (.int l2), some (.int l3)] [] g) (l0 : Nat) (l1 : Int32) (l2 : Int32) (l3 : Int32) (g : GH) (h : B_Ta_readCondition_8 Γ R_Ta_readPart K8 K l0 l1 l2 l3 g) : JW Γ E 8 [some (.ref l0), some (.int l1), some (.int l2), some (.int l3)] [] g := by
  unfold B_Ta_readCondition_8 at h
  refine j_iload_n hE (by decide +kernel : decode cX6_readCondition 8 = .ok (.iload_n 3, 1)) rfl rfl ?_
  refine j_aload_n hE (by decide +kernel : decode cX6_readCondition 9 = .ok (.aload_n 0, 1)) rfl rfl ?_
  obtain ⟨hk, h⟩ := h
  refine j_getI hE fg_X6_24 hk (by decide +kernel : decode cX6_readCondition 10 = .ok (.getfield 24, 3)) ?_
  refine j_icmp_ge hE (by decide +kernel : decode cX6_readCondition 13 = .ok (.if_icmp .ge 34, 3)) (tgt := 47) (by decide) (fun q => ?_) (fun q => ?_)
  · replace h := h.1 q
    refine j_weak [none, none, some (.int l2), none] ⟨rfl, trivial⟩ ?_
    exact S_Ta_readCondition_47 hE hfr hlo hR_Ta_readPart hK8 _ _ h
  · replace h := h.2 q
    refine j_iload_n hE (by decide +kernel : decode cX6_readCondition 16 = .ok (.iload_n 2, 1)) rfl rfl ?_
    refine j_if_eq hE (by decide +kernel : decode cX6_readCondition 17 = .ok (.ifCond .eq 30, 3)) (tgt := 47) (by decide) (fun q => ?_) (fun q => ?_)
    · replace h := h.1 q
      refine j_weak [none, none, some (.int l2), none] ⟨rfl, trivial⟩ ?_
      exact S_Ta_readCondition_47 hE hfr hlo hR_Ta_readPart hK8 _ _ h
    · replace h := h.2 q
      refine j_aload_n hE (by decide +kernel : decode cX6_readCondition 20 = .ok (.aload_n 0, 1)) rfl rfl ?_
      refine j_bipush hE (by decide +kernel : decode cX6_readCondition 21 = .ok (.bipush 124, 2)) (v := (124 : Int32)) (by decide) ?_
      obtain ⟨hk, h⟩ := h
      refine j_callV hE rfl cl_X6_41 cf_7 im_X6_takes se_X6_takes ⟨by omega, by omega⟩ (As := [.int (124 : Int32)]) (rest := []) rfl rfl (Nat.le_of_ble_eq_true rfl) hk (by decide +kernel : decode cX6_readCondition 23 = .ok (.invokevirtual 41, 3)) (mt_Ta_takes _ _ _ _ h) ?_
      rintro _ g1 ⟨x2, rfl, h⟩
      refine j_if_eq hE (by decide +kernel : decode cX6_readCondition 26 = .ok (.ifCond .eq 21, 3)) (tgt := 47) (by decide) (fun q => ?_) (fun q => ?_)
      · replace h := h.1 q
        refine j_weak [none, none, some (.int l2), none] ⟨rfl, trivial⟩ ?_
        exact S_Ta_readCondition_47 hE hfr hlo hR_Ta_readPart hK8 _ _ h
      · replace h := h.2 q
        refine j_aload_n hE (by decide +kernel : decode cX6_readCondition 29 = .ok (.aload_n 0, 1)) rfl rfl ?_
        refine j_iload_n hE (by decide +kernel : decode cX6_readCondition 30 = .ok (.iload_n 1, 1)) rfl rfl ?_
        obtain ⟨hk, h⟩ := h
        refine j_callV hE rfl cl_X6_61 cf_7 im_X6_readPart se_X6_readPart hR_Ta_readPart.1 (As := [.int l1]) (rest := []) rfl rfl (Nat.le_of_ble_eq_true rfl) hk (by decide +kernel : decode cX6_readCondition 31 = .ok (.invokevirtual 61, 3)) (hR_Ta_readPart.2 _ _ _ _ h) ?_
        rintro _ g3 ⟨x4, rfl, h⟩
        refine j_istore_n hE (by decide +kernel : decode cX6_readCondition 34 = .ok (.istore_n 2, 1)) rfl (Nat.le_of_ble_eq_true rfl) rfl ?_
        refine j_aload_n hE (by decide +kernel : decode cX6_readCondition 35 = .ok (.aload_n 0, 1)) rfl rfl ?_
        refine j_bipush hE (by decide +kernel : decode cX6_readCondition 36 = .ok (.bipush (-124), 2)) (v := (-124 : Int32)) (by decide) ?_
        obtain ⟨hk, h⟩ := h
        refine j_callV hE rfl cl_X6_64 cf_7 im_X6_write se_X6_write ⟨by omega, by omega⟩ (As := [.int (-124 : Int32)]) (rest := []) rfl rfl (Nat.le_of_ble_eq_true rfl) hk (by decide +kernel : decode cX6_readCondition 38 = .ok (.invokevirtual 64, 3)) (mt_Ta_write _ _ _ _ h) ?_
        rintro _ g5 ⟨rfl, h⟩
        refine j_iinc hE (by decide +kernel : decode cX6_readCondition 41 = .ok (.iinc 3 1, 3)) (v := (1 : Int32)) (by decide) rfl (Nat.le_of_ble_eq_true rfl) rfl ?_
        refine j_goto hE (by decide +kernel : decode cX6_readCondition 44 = .ok (.goto (-36), 3)) (tgt := 8) (by decide) ?_
        exact hK8 _ _ _ _ _ h
set_option maxRecDepth 100000 in
def B_Ta_readCondition_0 (Γ : GAM) (R_Ta_readPart : Nat → Int32 → GH → (Int32 → GH → Prop) → Prop) (K8 : Nat → Int32 → Int32 → Int32 → GH → Prop) (K : Int32 → GH → Prop) (th : Nat) (p0 : Int32) (g : GH) : Prop :=
  Kd g th = 8 ∧ R_Ta_readPart th p0 g (fun (x2 : Int32) (g1 : GH) => K8 th p0 x2 (0 : Int32) g1)
set_option maxHeartbeats 4000000 in
set_option maxRecDepth 100000 in
theorem S_Ta_readCondition_0 {Γ : GAM} {E : EV} {fr lo : Nat} {K : Int32 → GH → Prop} (hE : GE Γ E cX6_readCondition 4 RX6 (some (.boolean)) fr lo (fun r g' => ∃ x, r = some (.int x) ∧ K x g')) (hfr : 2 ≤ fr) (hlo : 42 ≤ lo) {R_Ta_readPart : Nat → Int32 → GH → (Int32 → GH → Prop) → Prop} {f_Ta_readPart l_Ta_readPart : Nat} (hR_Ta_readPart : (f_Ta_readPart + 1 ≤ fr ∧ 8 + (4 + 11) + l_Ta_readPart ≤ lo) ∧ ∀ (th : Nat) (p0 : Int32) g (K : Int32 → GH → Prop), R_Ta_readPart th p0 g K → MetA Γ E.2.1 yX6_readPart cX6_readPart 4 (some (.boolean)) f_Ta_readPart l_Ta_readPart [.ref th, .int p0] g (fun r g' => ∃ x, r = some (.int x) ∧ K x g')) {K8 : Nat → Int32 → Int32 → Int32 → GH → Prop} (hK8 : ∀ (l0 : Nat) (l1 : Int32) (l2 : Int32) (l3 : Int32) (g : GH), K8 l0 l1 l2 l3 g → JW Γ E 8 [some (.ref l0), some (.int l1), some (.int l2), some (.int l3)] [] g) (th : Nat) (p0 : Int32) (g : GH) (h : B_Ta_readCondition_0 Γ R_Ta_readPart K8 K th p0 g) : JW Γ E 0 [some (.ref th), some (.int p0), none, none] [] g := by
  unfold B_Ta_readCondition_0 at h
  refine j_aload_n hE (by decide +kernel : decode cX6_readCondition 0 = .ok (.aload_n 0, 1)) rfl rfl ?_
  refine j_iload_n hE (by decide +kernel : decode cX6_readCondition 1 = .ok (.iload_n 1, 1)) rfl rfl ?_
  obtain ⟨hk, h⟩ := h
  refine j_callV hE rfl cl_X6_61 cf_7 im_X6_readPart se_X6_readPart hR_Ta_readPart.1 (As := [.int p0]) (rest := []) rfl rfl (Nat.le_of_ble_eq_true rfl) hk (by decide +kernel : decode cX6_readCondition 2 = .ok (.invokevirtual 61, 3)) (hR_Ta_readPart.2 _ _ _ _ h) ?_
  rintro _ g1 ⟨x2, rfl, h⟩
  refine j_istore_n hE (by decide +kernel : decode cX6_readCondition 5 = .ok (.istore_n 2, 1)) rfl (Nat.le_of_ble_eq_true rfl) rfl ?_
  refine j_iconst hE (by decide +kernel : decode cX6_readCondition 6 = .ok (.iconst 0, 1)) (v := (0 : Int32)) (by decide) ?_
  refine j_istore_n hE (by decide +kernel : decode cX6_readCondition 7 = .ok (.istore_n 3, 1)) rfl (Nat.le_of_ble_eq_true rfl) rfl ?_
  exact hK8 _ _ _ _ _ h
set_option maxHeartbeats 4000000 in
set_option maxRecDepth 100000 in
theorem rl_Ta_readCondition {Γ : GAM} {l : Launch} {fr lo : Nat} (hfr : 2 ≤ fr) (hlo : 42 ≤ lo) {R_Ta_readPart : Nat → Int32 → GH → (Int32 → GH → Prop) → Prop} {f_Ta_readPart l_Ta_readPart : Nat} (hR_Ta_readPart : (f_Ta_readPart + 1 ≤ fr ∧ 8 + (4 + 11) + l_Ta_readPart ≤ lo) ∧ ∀ (th : Nat) (p0 : Int32) g (K : Int32 → GH → Prop), R_Ta_readPart th p0 g K → MetA Γ l yX6_readPart cX6_readPart 4 (some (.boolean)) f_Ta_readPart l_Ta_readPart [.ref th, .int p0] g (fun r g' => ∃ x, r = some (.int x) ∧ K x g')) {th : Nat} {p0 : Int32} {g : GH} {K : Int32 → GH → Prop} (I8 : Nat → Nat → Int32 → Int32 → Int32 → GH → Prop) (hh8 : ∀ n (l0 : Nat) (l1 : Int32) (l2 : Int32) (l3 : Int32) (g : GH), I8 n l0 l1 l2 l3 g → B_Ta_readCondition_8 Γ R_Ta_readPart (fun l0 l1 l2 l3 g => ∃ m, m < n ∧ I8 m l0 l1 l2 l3 g) K l0 l1 l2 l3 g) (h0 : B_Ta_readCondition_0 Γ R_Ta_readPart (fun l0 l1 l2 l3 g => ∃ m, I8 m l0 l1 l2 l3 g) K th p0 g) : MetA Γ l yX6_readCondition cX6_readCondition 4 (some (.boolean)) fr lo [.ref th, .int p0] g (fun r g' => ∃ x, r = some (.int x) ∧ K x g') := by
  refine MetA.introL (Lx := [some (.ref th), some (.int p0), none, none]) (by decide) (Nat.le_of_ble_eq_true rfl) rfl rfl ?_
  intro E hEl hE hnm
  have hR_Ta_readPart := hR_Ta_readPart; rw [← hEl] at hR_Ta_readPart
  have hall : ∀ n, (∀ (l0 : Nat) (l1 : Int32) (l2 : Int32) (l3 : Int32) (g : GH), I8 n l0 l1 l2 l3 g → JW Γ E 8 [some (.ref l0), some (.int l1), some (.int l2), some (.int l3)] [] g) := by
    intro n
    induction n using Nat.strongRecOn with
    | ind n ih =>
      exact fun l0 l1 l2 l3 g hi => S_Ta_readCondition_8 hE hfr hlo hR_Ta_readPart (fun l0 l1 l2 l3 g hm => by obtain ⟨m, hm, h⟩ := hm; exact (ih m hm) l0 l1 l2 l3 g h) l0 l1 l2 l3 g (hh8 n l0 l1 l2 l3 g hi)
  exact S_Ta_readCondition_0 hE hfr hlo hR_Ta_readPart (fun l0 l1 l2 l3 g hm => by obtain ⟨m, h⟩ := hm; exact (hall m) l0 l1 l2 l3 g h) th p0 g h0
theorem mz_readCondition {Γ : GAM} {l : Launch} {S : List Int32 → Nat → PRs} {r : Nat} {f' l' : Nat} (hS : ∀ t, PG t true (S t)) (hrec : ∀ (th : Nat) (p0 : Int32) (g : GH) (K : Int32 → GH → Prop), SpZ S r Γ th p0 g K → MetA Γ l yX6_readPart cX6_readPart 4 (some (.boolean)) f' l' [.ref th, .int p0] g (fun r g' => ∃ x, r = some (.int x) ∧ K x g')) (f lo : Nat) (hf : f' + 1 ≤ f) (hf3 : 3 ≤ f) (hlo : 50 + l' ≤ lo) (th : Nat) (p0 : Int32) (g : GH) (K : Int32 → GH → Prop) (h : SpZ (fun t => pSq t (S t) sp124) r Γ th p0 g K) : MetA Γ l yX6_readCondition cX6_readCondition 4 (some (.boolean)) f lo [.ref th, .int p0] g (fun r g' => ∃ x, r = some (.int x) ∧ K x g') := by
  obtain ⟨hd, t, q0, ws, hN, hwq, hK⟩ := h
  have hT := hN.1.2.2.1
  have hql := hN.2.2.1
  refine rl_Ta_readCondition (R_Ta_readPart := SpZ S r Γ) (f_Ta_readPart := f') (l_Ta_readPart := l') (by omega) (by omega) ⟨⟨hf, by omega⟩, hrec⟩
    (fun n l0 l1 l2 l3 g' => th = l0 ∧ p0 = l1 ∧ ∃ i cur ff, l3 = nI i ∧ FrX th [903, 899] [898] g g' ∧ TO th g' t ws cur l2 ∧ OKr t q0 true cur ∧ n = pMe t cur ∧ (∀ p w, cur = .inr (p, w) → i < p ∧ t.length ≤ ff + p) ∧ pSq t (S t) sp124 q0 = pFn t (S t) sp124 ff cur) ?_ ?_
  · rintro n l0 l1 l2 l3 g' ⟨rfl, rfl, i, cur, ff, rfl, hfx, hO, hok, rfl, hff, hfin⟩
    have hkd := hO.kd
    suffices H : ∀ (K8 : Nat → Int32 → Int32 → Int32 → GH → Prop), (∀ g2 b2 cur2 ff2, FrX th [903, 899] [898] g g2 → TO th g2 t ws cur2 b2 → OKr t q0 true cur2 → pMe t cur2 < pMe t cur → (∀ p w, cur2 = .inr (p, w) → i + 1 < p ∧ t.length ≤ ff2 + p) → pSq t (S t) sp124 q0 = pFn t (S t) sp124 ff2 cur2 → K8 th p0 b2 (nI (i + 1)) g2) → B_Ta_readCondition_8 Γ (SpZ S r Γ) K8 K th p0 l2 (nI i) g' from
      H _ (fun g2 b2 cur2 ff2 h1 h2 h3 h4 h5 h6 => ⟨pMe t cur2, h4, rfl, rfl, i + 1, cur2, ff2, rfl, h1, h2, h3, rfl, h5, h6⟩)
    intro K8 h8
    have hdone : ∀ e, cur = .inl e → B_Ta_readCondition_47 Γ (SpZ S r Γ) K8 K l2 g' := fun e he => by
      subst he
      refine ⟨.inl hO.1, hK _ g' hfx ?_⟩
      simp only
      rw [hfin]
      exact hO
    unfold B_Ta_readCondition_8
    refine ⟨hkd, ?_⟩
    rw [hO.tt.2.1]
    cases hcur : cur with
    | inl e => 
      have hl2 : l2 = 0 := by subst hcur; exact hO.1
      exact ⟨fun _ => hdone e hcur, fun _ => ⟨fun _ => hdone e hcur, fun u => absurd hl2 u⟩⟩
    | inr x =>
      obtain ⟨p, w⟩ := x
      subst hcur
      obtain ⟨hl2, hN2⟩ := hO
      obtain ⟨hip, hffp⟩ := hff p w rfl
      obtain ⟨o1, o2, o3, o4, o5⟩ := id hok
      subst hl2
      rw [nj_le (by omega) (by omega)]
      refine ⟨fun u => by omega, fun _ => ⟨fun u => absurd u (by decide), fun _ => ⟨hkd, t, p, ws ++ w, hN2, by decide, by decide, fun hc g1 hx1 hN1 hlt => ⟨fun u => absurd u (by decide), fun _ => ⟨hN1.1.1.1, ?_⟩⟩, fun hc g1 hx1 hN1 => ⟨fun _ => ?_, fun u => absurd rfl u⟩⟩⟩⟩
      · have hcs : sp124 (chr t (skp t p)) = true := by rw [hc]; decide
        have gs := skp_ge t p
        obtain ⟨ok1, ok2⟩ := OKr_st (hS t) (by decide) op124 hok hcs
        rw [pFn_st (by decide) hffp hcs, hc] at hfin
        rw [hc] at ok1
        refine ⟨hd, t, skp t p + 1, ws ++ w, hN1, by rw [List.length_append]; omega, fun b3 g3 hx3 hO3 => ⟨hO3.kd, ?_⟩⟩
        refine hO3.wr (fun p2 w2 hr => ?_) 124 (fun g5 hx5 hO5 => ?_)
        · rw [hr] at ok1
          obtain ⟨k1, k2, k3, _, _⟩ := ok1
          simp only [List.length_append, List.length_cons, List.length_nil] at k3 ⊢
          omega
        rw [nj_s]
        refine h8 g5 b3 _ (ff - 1) (hfx.tr (hx1.tr (hx3.tr hx5))) hO5.pre ok1 ?_ (fun p2 w2 hr => ?_) hfin
        · cases hr : S t (skp t p + 1) with
          | inl e => show 0 < _; unfold pMe; simp only; omega
          | inr x =>
            obtain ⟨p2, w2⟩ := x
            have := ok2 p2 w2 hr
            show 1 + (t.length - p2) < 1 + (t.length - p)
            omega
        · cases hr2 : S t (skp t p + 1) with
          | inl e => rw [hr2] at hr; cases hr
          | inr x =>
            obtain ⟨p3, w3⟩ := x
            have := ok2 p3 w3 hr2
            rw [hr2] at hr
            have hp2 : p3 = p2 := by
              have hr' : (Sum.inr (p3, w ++ (w3 ++ [-124])) : PRs) = .inr (p2, w2) := hr
              exact congrArg Prod.fst (Sum.inr.inj hr')
            exact ⟨by omega, by omega⟩
      · refine ⟨.inr rfl, hK 1 g1 (hfx.tr hx1) ?_⟩
        simp only
        rw [hfin, pFn_no (by decide) hffp (by unfold sp124; simp [hc])]
        exact ⟨rfl, hN1⟩
  · unfold B_Ta_readCondition_0
    refine ⟨hN.1.1.1, hd, t, q0, ws, hN, hwq, fun b1 g1 hx1 hO1 => ?_⟩
    have hok := hS t q0 hql
    refine ⟨_, rfl, rfl, 0, S t q0, t.length, rfl, hx1, hO1, hok, rfl, fun p w hr => ?_, ?_⟩
    · rw [hr] at hok
      exact ⟨by have := hok.1; omega, by omega⟩
    · unfold pSq pFn
      cases S t q0 with
      | inl e => rfl
      | inr x => rfl
-- the walk of Ta_readSum
set_option maxRecDepth 100000 in
def B_Ta_readSum_71 (Γ : GAM) (R_Ta_readTerm : Nat → Int32 → GH → (Int32 → GH → Prop) → Prop) (K8 : Nat → Int32 → Int32 → Int32 → GH → Prop) (K : Int32 → GH → Prop) (l2 : Int32) (g : GH) : Prop :=
  ((l2 = 0 ∨ l2 = 1) ∧ K l2 g)
set_option maxHeartbeats 4000000 in
set_option maxRecDepth 100000 in
theorem S_Ta_readSum_71 {Γ : GAM} {E : EV} {fr lo : Nat} {K : Int32 → GH → Prop} (hE : GE Γ E cX6_readSum 5 RX6 (some (.boolean)) fr lo (fun r g' => ∃ x, r = some (.int x) ∧ K x g')) (hfr : 1 ≤ fr) (hlo : 21 ≤ lo) {R_Ta_readTerm : Nat → Int32 → GH → (Int32 → GH → Prop) → Prop} {f_Ta_readTerm l_Ta_readTerm : Nat} (hR_Ta_readTerm : (f_Ta_readTerm + 1 ≤ fr ∧ 8 + (4 + 11) + l_Ta_readTerm ≤ lo) ∧ ∀ (th : Nat) (p0 : Int32) g (K : Int32 → GH → Prop), R_Ta_readTerm th p0 g K → MetA Γ E.2.1 yX6_readTerm cX6_readTerm 4 (some (.boolean)) f_Ta_readTerm l_Ta_readTerm [.ref th, .int p0] g (fun r g' => ∃ x, r = some (.int x) ∧ K x g')) {K8 : Nat → Int32 → Int32 → Int32 → GH → Prop} (hK8 : ∀ (l0 : Nat) (l1 : Int32) (l2 : Int32) (l3 : Int32) (g : GH), K8 l0 l1 l2 l3 g → JW Γ E 8 [some (.ref l0), some (.int l1), some (.int l2), some (.int l3), none] [] g) (l2 : Int32) (g : GH) (h : B_Ta_readSum_71 Γ R_Ta_readTerm K8 K l2 g) : JW Γ E 71 [none, none, some (.int l2), none, none] [] g := by
  unfold B_Ta_readSum_71 at h
  refine j_iload_n hE (by decide +kernel : decode cX6_readSum 71 = .ok (.iload_n 2, 1)) rfl rfl ?_
  exact j_zret hE h.1 (by decide +kernel : decode cX6_readSum 72 = .ok (.ireturn, 1)) ⟨_, rfl, h.2⟩
set_option maxRecDepth 100000 in
def B_Ta_readSum_42 (Γ : GAM) (R_Ta_readTerm : Nat → Int32 → GH → (Int32 → GH → Prop) → Prop) (K8 : Nat → Int32 → Int32 → Int32 → GH → Prop) (K : Int32 → GH → Prop) (l0 : Nat) (l1 : Int32) (l3 : Int32) (l4 : Int32) (g : GH) : Prop :=
  Kd g l0 = 8 ∧ Kd g l0 = 8 ∧ ∀ g1 : GH, g1 = sI g 903 l0 ((Gi g 903 l0) + (1 : Int32)) → Kd g1 l0 = 8 ∧ R_Ta_readTerm l0 l1 g1 (fun (x3 : Int32) (g2 : GH) => Kd g2 l0 = 8 ∧ Sp_Ta_write Γ l0 (-l4) g2 (fun (g4 : GH) => K8 l0 l1 x3 (l3 + (1 : Int32)) g4))
set_option maxHeartbeats 4000000 in
set_option maxRecDepth 100000 in
theorem S_Ta_readSum_42 {Γ : GAM} {E : EV} {fr lo : Nat} {K : Int32 → GH → Prop} (hE : GE Γ E cX6_readSum 5 RX6 (some (.boolean)) fr lo (fun r g' => ∃ x, r = some (.int x) ∧ K x g')) (hfr : 1 ≤ fr) (hlo : 21 ≤ lo) {R_Ta_readTerm : Nat → Int32 → GH → (Int32 → GH → Prop) → Prop} {f_Ta_readTerm l_Ta_readTerm : Nat} (hR_Ta_readTerm : (f_Ta_readTerm + 1 ≤ fr ∧ 8 + (4 + 11) + l_Ta_readTerm ≤ lo) ∧ ∀ (th : Nat) (p0 : Int32) g (K : Int32 → GH → Prop), R_Ta_readTerm th p0 g K → MetA Γ E.2.1 yX6_readTerm cX6_readTerm 4 (some (.boolean)) f_Ta_readTerm l_Ta_readTerm [.ref th, .int p0] g (fun r g' => ∃ x, r = some (.int x) ∧ K x g')) {K8 : Nat → Int32 → Int32 → Int32 → GH → Prop} (hK8 : ∀ (l0 : Nat) (l1 : Int32) (l2 : Int32) (l3 : Int32) (g : GH), K8 l0 l1 l2 l3 g → JW Γ E 8 [some (.ref l0), some (.int l1), some (.int l2), some (.int l3), none] [] g) (l0 : Nat) (l1 : Int32) (l3 : Int32) (l4 : Int32) (g : GH) (h : B_Ta_readSum_42 Γ R_Ta_readTerm K8 K l0 l1 l3 l4 g) : JW Γ E 42 [some (.ref l0), some (.int l1), none, some (.int l3), some (.int l4)] [] g := by
  unfold B_Ta_readSum_42 at h
  refine j_aload_n hE (by decide +kernel : decode cX6_readSum 42 = .ok (.aload_n 0, 1)) rfl rfl ?_
  refine j_dup hE (by decide +kernel : decode cX6_readSum 43 = .ok (.dup, 1)) rfl ?_
  obtain ⟨hk, h⟩ := h
  refine j_getI hE fg_X6_28 hk (by decide +kernel : decode cX6_readSum 44 = .ok (.getfield 28, 3)) ?_
  refine j_iconst hE (by decide +kernel : decode cX6_readSum 47 = .ok (.iconst 1, 1)) (v := (1 : Int32)) (by decide) ?_
  refine j_iadd hE (by decide +kernel : decode cX6_readSum 48 = .ok (.iadd, 1)) ?_
  obtain ⟨hk, h⟩ := h
  obtain ⟨g1, hg⟩ : ∃ z, z = sI g 903 l0 ((Gi g 903 l0) + (1 : Int32)) := ⟨_, rfl⟩; replace h := h g1 hg
  refine j_putI hE fa_X6_28 hk (fun q => by cases q) (by decide +kernel : decode cX6_readSum 49 = .ok (.putfield 28, 3)) ?_
  rw [← hg]
  refine j_aload_n hE (by decide +kernel : decode cX6_readSum 52 = .ok (.aload_n 0, 1)) rfl rfl ?_
  refine j_iload_n hE (by decide +kernel : decode cX6_readSum 53 = .ok (.iload_n 1, 1)) rfl rfl ?_
  obtain ⟨hk, h⟩ := h
  refine j_callV hE rfl cl_X6_74 cf_7 im_X6_readTerm se_X6_readTerm hR_Ta_readTerm.1 (As := [.int l1]) (rest := []) rfl rfl (Nat.le_of_ble_eq_true rfl) hk (by decide +kernel : decode cX6_readSum 54 = .ok (.invokevirtual 74, 3)) (hR_Ta_readTerm.2 _ _ _ _ h) ?_
  rintro _ g2 ⟨x3, rfl, h⟩
  refine j_istore_n hE (by decide +kernel : decode cX6_readSum 57 = .ok (.istore_n 2, 1)) rfl (Nat.le_of_ble_eq_true rfl) rfl ?_
  refine j_aload_n hE (by decide +kernel : decode cX6_readSum 58 = .ok (.aload_n 0, 1)) rfl rfl ?_
  refine j_iload hE (by decide +kernel : decode cX6_readSum 59 = .ok (.iload 4, 2)) rfl ?_
  refine j_ineg hE (by decide +kernel : decode cX6_readSum 61 = .ok (.ineg, 1)) ?_
  obtain ⟨hk, h⟩ := h
  refine j_callV hE rfl cl_X6_64 cf_7 im_X6_write se_X6_write ⟨by omega, by omega⟩ (As := [.int (-l4)]) (rest := []) rfl rfl (Nat.le_of_ble_eq_true rfl) hk (by decide +kernel : decode cX6_readSum 62 = .ok (.invokevirtual 64, 3)) (mt_Ta_write _ _ _ _ h) ?_
  rintro _ g4 ⟨rfl, h⟩
  refine j_iinc hE (by decide +kernel : decode cX6_readSum 65 = .ok (.iinc 3 1, 3)) (v := (1 : Int32)) (by decide) rfl (Nat.le_of_ble_eq_true rfl) rfl ?_
  refine j_goto hE (by decide +kernel : decode cX6_readSum 68 = .ok (.goto (-60), 3)) (tgt := 8) (by decide) ?_
  refine j_weak [some (.ref l0), some (.int l1), some (.int x3), some (.int (l3 + (1 : Int32))), none] ⟨rfl, ⟨rfl, ⟨rfl, ⟨rfl, trivial⟩⟩⟩⟩ ?_
  exact hK8 _ _ _ _ _ h
set_option maxRecDepth 100000 in
def B_Ta_readSum_8 (Γ : GAM) (R_Ta_readTerm : Nat → Int32 → GH → (Int32 → GH → Prop) → Prop) (K8 : Nat → Int32 → Int32 → Int32 → GH → Prop) (K : Int32 → GH → Prop) (l0 : Nat) (l1 : Int32) (l2 : Int32) (l3 : Int32) (g : GH) : Prop :=
  Kd g l0 = 8 ∧ (((Gi g 897 l0) ≤ l3 → B_Ta_readSum_71 Γ R_Ta_readTerm K8 K l2 g) ∧ (¬ ((Gi g 897 l0) ≤ l3) → ((l2 = 0 → B_Ta_readSum_71 Γ R_Ta_readTerm K8 K l2 g) ∧ (¬ (l2 = 0) → Kd g l0 = 8 ∧ Sp_Ta_nextSign Γ l0 g (fun (x2 : Int32) (g1 : GH) => ((x2 = (43 : Int32) → B_Ta_readSum_42 Γ R_Ta_readTerm K8 K l0 l1 l3 x2 g1) ∧ (¬ (x2 = (43 : Int32)) → ((x2 = (45 : Int32) → B_Ta_readSum_42 Γ R_Ta_readTerm K8 K l0 l1 l3 x2 g1) ∧ (¬ (x2 = (45 : Int32)) → K (1 : Int32) g1)))))))))
set_option maxHeartbeats 4000000 in
set_option maxRecDepth 100000 in
theorem S_Ta_readSum_8 {Γ : GAM} {E : EV} {fr lo : Nat} {K : Int32 → GH → Prop} (hE : GE Γ E cX6_readSum 5 RX6 (some (.boolean)) fr lo (fun r g' => ∃ x, r = some (.int x) ∧ K x g')) (hfr : 1 ≤ fr) (hlo : 21 ≤ lo) {R_Ta_readTerm : Nat → Int32 → GH → (Int32 → GH → Prop) → Prop} {f_Ta_readTerm l_Ta_readTerm : Nat} (hR_Ta_readTerm : (f_Ta_readTerm + 1 ≤ fr ∧ 8 + (4 + 11) + l_Ta_readTerm ≤ lo) ∧ ∀ (th : Nat) (p0 : Int32) g (K : Int32 → GH → Prop), R_Ta_readTerm th p0 g K → MetA Γ E.2.1 yX6_readTerm cX6_readTerm 4 (some (.boolean)) f_Ta_readTerm l_Ta_readTerm [.ref th, .int p0] g (fun r g' => ∃ x, r = some (.int x) ∧ K x g')) {K8 : Nat → Int32 → Int32 → Int32 → GH → Prop} (hK8 : ∀ (l0 : Nat) (l1 : Int32) (l2 : Int32) (l3 : Int32) (g : GH), K8 l0 l1 l2 l3 g → JW Γ E 8 [some (.ref l0), some (.int l1), some (.int l2), some (.int l3), none] [] g) (l0 : Nat) (l1 : Int32) (l2 : Int32) (l3 : Int32) (g : GH) (h : B_Ta_readSum_8 Γ R_Ta_readTerm K8 K l0 l1 l2 l3 g) : JW Γ E 8 [some (.ref l0), some (.int l1), some (.int l2), some (.int l3), none] [] g := by
  unfold B_Ta_readSum_8 at h
  refine j_iload_n hE (by decide +kernel : decode cX6_readSum 8 = .ok (.iload_n 3, 1)) rfl rfl ?_
  refine j_aload_n hE (by decide +kernel : decode cX6_readSum 9 = .ok (.aload_n 0, 1)) rfl rfl ?_
  obtain ⟨hk, h⟩ := h
  refine j_getI hE fg_X6_24 hk (by decide +kernel : decode cX6_readSum 10 = .ok (.getfield 24, 3)) ?_
  refine j_icmp_ge hE (by decide +kernel : decode cX6_readSum 13 = .ok (.if_icmp .ge 58, 3)) (tgt := 71) (by decide) (fun q => ?_) (fun q => ?_)
  · replace h := h.1 q
    refine j_weak [none, none, some (.int l2), none, none] ⟨rfl, trivial⟩ ?_
    exact S_Ta_readSum_71 hE hfr hlo hR_Ta_readTerm hK8 _ _ h
  · replace h := h.2 q
    refine j_iload_n hE (by decide +kernel : decode cX6_readSum 16 = .ok (.iload_n 2, 1)) rfl rfl ?_
    refine j_if_eq hE (by decide +kernel : decode cX6_readSum 17 = .ok (.ifCond .eq 54, 3)) (tgt := 71) (by decide) (fun q => ?_) (fun q => ?_)
    · replace h := h.1 q
      refine j_weak [none, none, some (.int l2), none, none] ⟨rfl, trivial⟩ ?_
      exact S_Ta_readSum_71 hE hfr hlo hR_Ta_readTerm hK8 _ _ h
    · replace h := h.2 q
      refine j_aload_n hE (by decide +kernel : decode cX6_readSum 20 = .ok (.aload_n 0, 1)) rfl rfl ?_
      obtain ⟨hk, h⟩ := h
      refine j_callV hE rfl cl_X6_45 cf_7 im_X6_nextSign se_X6_nextSign ⟨by omega, by omega⟩ (As := []) (rest := []) rfl rfl (Nat.le_of_ble_eq_true rfl) hk (by decide +kernel : decode cX6_readSum 21 = .ok (.invokevirtual 45, 3)) (mt_Ta_nextSign _ _ _ h) ?_
      rintro _ g1 ⟨x2, rfl, h⟩
      refine j_istore hE (by decide +kernel : decode cX6_readSum 24 = .ok (.istore 4, 2)) (Nat.le_of_ble_eq_true rfl) rfl ?_
      refine j_iload hE (by decide +kernel : decode cX6_readSum 26 = .ok (.iload 4, 2)) rfl ?_
      refine j_bipush hE (by decide +kernel : decode cX6_readSum 28 = .ok (.bipush 43, 2)) (v := (43 : Int32)) (by decide) ?_
      refine j_icmp_eq hE (by decide +kernel : decode cX6_readSum 30 = .ok (.if_icmp .eq 12, 3)) (tgt := 42) (by decide) (fun q => ?_) (fun q => ?_)
      · replace h := h.1 q
        refine j_weak [some (.ref l0), some (.int l1), none, some (.int l3), some (.int x2)] ⟨rfl, ⟨rfl, ⟨rfl, ⟨rfl, trivial⟩⟩⟩⟩ ?_
        exact S_Ta_readSum_42 hE hfr hlo hR_Ta_readTerm hK8 _ _ _ _ _ h
      · replace h := h.2 q
        refine j_iload hE (by decide +kernel : decode cX6_readSum 33 = .ok (.iload 4, 2)) rfl ?_
        refine j_bipush hE (by decide +kernel : decode cX6_readSum 35 = .ok (.bipush 45, 2)) (v := (45 : Int32)) (by decide) ?_
        refine j_icmp_eq hE (by decide +kernel : decode cX6_readSum 37 = .ok (.if_icmp .eq 5, 3)) (tgt := 42) (by decide) (fun q => ?_) (fun q => ?_)
        · replace h := h.1 q
          refine j_weak [some (.ref l0), some (.int l1), none, some (.int l3), some (.int x2)] ⟨rfl, ⟨rfl, ⟨rfl, ⟨rfl, trivial⟩⟩⟩⟩ ?_
          exact S_Ta_readSum_42 hE hfr hlo hR_Ta_readTerm hK8 _ _ _ _ _ h
        · replace h := h.2 q
          refine j_iconst hE (by decide +kernel : decode cX6_readSum 40 = .ok (.iconst 1, 1)) (v := (1 : Int32)) (by decide) ?_
          exact j_zret hE (Or.inr rfl) (by decide +kernel : decode cX6_readSum 41 = .ok (.ireturn, 1)) ⟨_, rfl, h⟩
set_option maxRecDepth 100000 in
def B_Ta_readSum_0 (Γ : GAM) (R_Ta_readTerm : Nat → Int32 → GH → (Int32 → GH → Prop) → Prop) (K8 : Nat → Int32 → Int32 → Int32 → GH → Prop) (K : Int32 → GH → Prop) (th : Nat) (p0 : Int32) (g : GH) : Prop :=
  Kd g th = 8 ∧ R_Ta_readTerm th p0 g (fun (x2 : Int32) (g1 : GH) => K8 th p0 x2 (0 : Int32) g1)
set_option maxHeartbeats 4000000 in
set_option maxRecDepth 100000 in
theorem S_Ta_readSum_0 {Γ : GAM} {E : EV} {fr lo : Nat} {K : Int32 → GH → Prop} (hE : GE Γ E cX6_readSum 5 RX6 (some (.boolean)) fr lo (fun r g' => ∃ x, r = some (.int x) ∧ K x g')) (hfr : 1 ≤ fr) (hlo : 21 ≤ lo) {R_Ta_readTerm : Nat → Int32 → GH → (Int32 → GH → Prop) → Prop} {f_Ta_readTerm l_Ta_readTerm : Nat} (hR_Ta_readTerm : (f_Ta_readTerm + 1 ≤ fr ∧ 8 + (4 + 11) + l_Ta_readTerm ≤ lo) ∧ ∀ (th : Nat) (p0 : Int32) g (K : Int32 → GH → Prop), R_Ta_readTerm th p0 g K → MetA Γ E.2.1 yX6_readTerm cX6_readTerm 4 (some (.boolean)) f_Ta_readTerm l_Ta_readTerm [.ref th, .int p0] g (fun r g' => ∃ x, r = some (.int x) ∧ K x g')) {K8 : Nat → Int32 → Int32 → Int32 → GH → Prop} (hK8 : ∀ (l0 : Nat) (l1 : Int32) (l2 : Int32) (l3 : Int32) (g : GH), K8 l0 l1 l2 l3 g → JW Γ E 8 [some (.ref l0), some (.int l1), some (.int l2), some (.int l3), none] [] g) (th : Nat) (p0 : Int32) (g : GH) (h : B_Ta_readSum_0 Γ R_Ta_readTerm K8 K th p0 g) : JW Γ E 0 [some (.ref th), some (.int p0), none, none, none] [] g := by
  unfold B_Ta_readSum_0 at h
  refine j_aload_n hE (by decide +kernel : decode cX6_readSum 0 = .ok (.aload_n 0, 1)) rfl rfl ?_
  refine j_iload_n hE (by decide +kernel : decode cX6_readSum 1 = .ok (.iload_n 1, 1)) rfl rfl ?_
  obtain ⟨hk, h⟩ := h
  refine j_callV hE rfl cl_X6_74 cf_7 im_X6_readTerm se_X6_readTerm hR_Ta_readTerm.1 (As := [.int p0]) (rest := []) rfl rfl (Nat.le_of_ble_eq_true rfl) hk (by decide +kernel : decode cX6_readSum 2 = .ok (.invokevirtual 74, 3)) (hR_Ta_readTerm.2 _ _ _ _ h) ?_
  rintro _ g1 ⟨x2, rfl, h⟩
  refine j_istore_n hE (by decide +kernel : decode cX6_readSum 5 = .ok (.istore_n 2, 1)) rfl (Nat.le_of_ble_eq_true rfl) rfl ?_
  refine j_iconst hE (by decide +kernel : decode cX6_readSum 6 = .ok (.iconst 0, 1)) (v := (0 : Int32)) (by decide) ?_
  refine j_istore_n hE (by decide +kernel : decode cX6_readSum 7 = .ok (.istore_n 3, 1)) rfl (Nat.le_of_ble_eq_true rfl) rfl ?_
  exact hK8 _ _ _ _ _ h
set_option maxHeartbeats 4000000 in
set_option maxRecDepth 100000 in
theorem rl_Ta_readSum {Γ : GAM} {l : Launch} {fr lo : Nat} (hfr : 1 ≤ fr) (hlo : 21 ≤ lo) {R_Ta_readTerm : Nat → Int32 → GH → (Int32 → GH → Prop) → Prop} {f_Ta_readTerm l_Ta_readTerm : Nat} (hR_Ta_readTerm : (f_Ta_readTerm + 1 ≤ fr ∧ 8 + (4 + 11) + l_Ta_readTerm ≤ lo) ∧ ∀ (th : Nat) (p0 : Int32) g (K : Int32 → GH → Prop), R_Ta_readTerm th p0 g K → MetA Γ l yX6_readTerm cX6_readTerm 4 (some (.boolean)) f_Ta_readTerm l_Ta_readTerm [.ref th, .int p0] g (fun r g' => ∃ x, r = some (.int x) ∧ K x g')) {th : Nat} {p0 : Int32} {g : GH} {K : Int32 → GH → Prop} (I8 : Nat → Nat → Int32 → Int32 → Int32 → GH → Prop) (hh8 : ∀ n (l0 : Nat) (l1 : Int32) (l2 : Int32) (l3 : Int32) (g : GH), I8 n l0 l1 l2 l3 g → B_Ta_readSum_8 Γ R_Ta_readTerm (fun l0 l1 l2 l3 g => ∃ m, m < n ∧ I8 m l0 l1 l2 l3 g) K l0 l1 l2 l3 g) (h0 : B_Ta_readSum_0 Γ R_Ta_readTerm (fun l0 l1 l2 l3 g => ∃ m, I8 m l0 l1 l2 l3 g) K th p0 g) : MetA Γ l yX6_readSum cX6_readSum 5 (some (.boolean)) fr lo [.ref th, .int p0] g (fun r g' => ∃ x, r = some (.int x) ∧ K x g') := by
  refine MetA.introL (Lx := [some (.ref th), some (.int p0), none, none, none]) (by decide) (Nat.le_of_ble_eq_true rfl) rfl rfl ?_
  intro E hEl hE hnm
  have hR_Ta_readTerm := hR_Ta_readTerm; rw [← hEl] at hR_Ta_readTerm
  have hall : ∀ n, (∀ (l0 : Nat) (l1 : Int32) (l2 : Int32) (l3 : Int32) (g : GH), I8 n l0 l1 l2 l3 g → JW Γ E 8 [some (.ref l0), some (.int l1), some (.int l2), some (.int l3), none] [] g) := by
    intro n
    induction n using Nat.strongRecOn with
    | ind n ih =>
      exact fun l0 l1 l2 l3 g hi => S_Ta_readSum_8 hE hfr hlo hR_Ta_readTerm (fun l0 l1 l2 l3 g hm => by obtain ⟨m, hm, h⟩ := hm; exact (ih m hm) l0 l1 l2 l3 g h) l0 l1 l2 l3 g (hh8 n l0 l1 l2 l3 g hi)
  exact S_Ta_readSum_0 hE hfr hlo hR_Ta_readTerm (fun l0 l1 l2 l3 g hm => by obtain ⟨m, h⟩ := hm; exact (hall m) l0 l1 l2 l3 g h) th p0 g h0
theorem mz_readSum {Γ : GAM} {l : Launch} {S : List Int32 → Nat → PRs} {r : Nat} {f' l' : Nat} (hS : ∀ t, PG t false (S t)) (hrec : ∀ (th : Nat) (p0 : Int32) (g : GH) (K : Int32 → GH → Prop), SpZ S r Γ th p0 g K → MetA Γ l yX6_readTerm cX6_readTerm 4 (some (.boolean)) f' l' [.ref th, .int p0] g (fun r g' => ∃ x, r = some (.int x) ∧ K x g')) (f lo : Nat) (hf : f' + 1 ≤ f) (hf3 : 3 ≤ f) (hlo : 50 + l' ≤ lo) (th : Nat) (p0 : Int32) (g : GH) (K : Int32 → GH → Prop) (h : SpZ (fun t => pSq t (S t) sp43) r Γ th p0 g K) : MetA Γ l yX6_readSum cX6_readSum 5 (some (.boolean)) f lo [.ref th, .int p0] g (fun r g' => ∃ x, r = some (.int x) ∧ K x g') := by
  obtain ⟨hd, t, q0, ws, hN, hwq, hK⟩ := h
  have hT := hN.1.2.2.1
  have hql := hN.2.2.1
  refine rl_Ta_readSum (R_Ta_readTerm := SpZ S r Γ) (f_Ta_readTerm := f') (l_Ta_readTerm := l') (by omega) (by omega) ⟨⟨hf, by omega⟩, hrec⟩
    (fun n l0 l1 l2 l3 g' => th = l0 ∧ p0 = l1 ∧ ∃ i cur ff, l3 = nI i ∧ FrX th [903, 899] [898] g g' ∧ TO th g' t ws cur l2 ∧ OKr t q0 false cur ∧ n = pMe t cur ∧ (∀ p w, cur = .inr (p, w) → i < p ∧ t.length ≤ ff + p) ∧ pSq t (S t) sp43 q0 = pFn t (S t) sp43 ff cur) ?_ ?_
  · rintro n l0 l1 l2 l3 g' ⟨rfl, rfl, i, cur, ff, rfl, hfx, hO, hok, rfl, hff, hfin⟩
    have hkd := hO.kd
    suffices H : ∀ (K8 : Nat → Int32 → Int32 → Int32 → GH → Prop), (∀ g2 b2 cur2 ff2, FrX th [903, 899] [898] g g2 → TO th g2 t ws cur2 b2 → OKr t q0 false cur2 → pMe t cur2 < pMe t cur → (∀ p w, cur2 = .inr (p, w) → i + 1 < p ∧ t.length ≤ ff2 + p) → pSq t (S t) sp43 q0 = pFn t (S t) sp43 ff2 cur2 → K8 th p0 b2 (nI (i + 1)) g2) → B_Ta_readSum_8 Γ (SpZ S r Γ) K8 K th p0 l2 (nI i) g' from
      H _ (fun g2 b2 cur2 ff2 h1 h2 h3 h4 h5 h6 => ⟨pMe t cur2, h4, rfl, rfl, i + 1, cur2, ff2, rfl, h1, h2, h3, rfl, h5, h6⟩)
    intro K8 h8
    have hdone : ∀ e, cur = .inl e → B_Ta_readSum_71 Γ (SpZ S r Γ) K8 K l2 g' := fun e he => by
      subst he
      refine ⟨.inl hO.1, hK _ g' hfx ?_⟩
      simp only
      rw [hfin]
      exact hO
    unfold B_Ta_readSum_8
    refine ⟨hkd, ?_⟩
    rw [hO.tt.2.1]
    cases hcur : cur with
    | inl e => 
      have hl2 : l2 = 0 := by subst hcur; exact hO.1
      exact ⟨fun _ => hdone e hcur, fun _ => ⟨fun _ => hdone e hcur, fun u => absurd hl2 u⟩⟩
    | inr x =>
      obtain ⟨p, w⟩ := x
      subst hcur
      obtain ⟨hl2, hN2⟩ := hO
      obtain ⟨hip, hffp⟩ := hff p w rfl
      obtain ⟨o1, o2, o3, o4, o5⟩ := id hok
      subst hl2
      rw [nj_le (by omega) (by omega)]
      refine ⟨fun u => by omega, fun _ => ⟨fun u => absurd u (by decide), fun _ => ⟨hkd, t, p, ws ++ w, hN2, fun g1 hx1 hN1 => ?_⟩⟩⟩
      have h42 : sp43 (chr t (skp t p)) = true → B_Ta_readSum_42 Γ (SpZ S r Γ) K8 K th p0 (nI i) (chr t (skp t p)) g1 := fun hcs => by
        have hlt : skp t p < t.length := chr_in (fun q => by rw [q] at hcs; exact absurd hcs (by decide))
        have gs := skp_ge t p
        obtain ⟨ok1, ok2⟩ := OKr_st (hS t) (by decide) op43 hok hcs
        rw [pFn_st (by decide) hffp hcs] at hfin
        unfold B_Ta_readSum_42
        refine ⟨hN1.1.1.1, hN1.1.1.1, ?_⟩
        rintro g2 rfl
        obtain ⟨y1, y2⟩ := hN1.at (q := skp t p + 1) hlt
        rw [← nj_s, ← hN1.2.1] at y1 y2
        refine ⟨y1.1.1.1, hd, t, skp t p + 1, ws ++ w, y1, by rw [List.length_append]; omega, fun b3 g3 hx3 hO3 => ⟨hO3.kd, ?_⟩⟩
        refine hO3.wr (fun p2 w2 hr => ?_) _ (fun g5 hx5 hO5 => ?_)
        · rw [hr] at ok1
          obtain ⟨k1, k2, k3, _, _⟩ := ok1
          simp only [List.length_append, List.length_cons, List.length_nil] at k3 ⊢
          omega
        rw [nj_s]
        refine h8 g5 b3 _ (ff - 1) (hfx.tr (hx1.tr (y2.tr (hx3.tr hx5)))) hO5.pre ok1 ?_ (fun p2 w2 hr => ?_) hfin
        · cases hr : S t (skp t p + 1) with
          | inl e => show 0 < _; unfold pMe; simp only; omega
          | inr x =>
            obtain ⟨p2, w2⟩ := x
            have := ok2 p2 w2 hr
            show 1 + (t.length - p2) < 1 + (t.length - p)
            omega
        · cases hr2 : S t (skp t p + 1) with
          | inl e => rw [hr2] at hr; cases hr
          | inr x =>
            obtain ⟨p3, w3⟩ := x
            have := ok2 p3 w3 hr2
            rw [hr2] at hr
            have hp2 : p3 = p2 := by
              have hr' : (Sum.inr (p3, w ++ (w3 ++ [-(chr t (skp t p))])) : PRs) = .inr (p2, w2) := hr
              exact congrArg Prod.fst (Sum.inr.inj hr')
            exact ⟨by omega, by omega⟩
      refine ⟨fun u => ?_, fun u => ⟨fun u2 => ?_, fun u2 => ?_⟩⟩
      · have u' := (sg_eq (by decide) (by decide)).mp u
        rw [u, ← u']; exact h42 (by rw [u']; decide)
      · have u' := (sg_eq (by decide) (by decide)).mp u2
        rw [u2, ← u']; exact h42 (by rw [u']; decide)
      · refine hK 1 g1 (hfx.tr hx1) ?_
        simp only
        rw [hfin, pFn_no (by decide) hffp (fun z => ?_)]
        · exact ⟨rfl, hN1⟩
        · have z' : chr t (skp t p) = 43 ∨ chr t (skp t p) = 45 := of_decide_eq_true z
          rcases z' with z' | z'
          · exact u ((sg_eq (by decide) (by decide)).mpr z')
          · exact u2 ((sg_eq (by decide) (by decide)).mpr z')
  · unfold B_Ta_readSum_0
    refine ⟨hN.1.1.1, hd, t, q0, ws, hN, hwq, fun b1 g1 hx1 hO1 => ?_⟩
    have hok := hS t q0 hql
    refine ⟨_, rfl, rfl, 0, S t q0, t.length, rfl, hx1, hO1, hok, rfl, fun p w hr => ?_, ?_⟩
    · rw [hr] at hok
      exact ⟨by have := hok.1; omega, by omega⟩
    · unfold pSq pFn
      cases S t q0 with
      | inl e => rfl
      | inr x => rfl
