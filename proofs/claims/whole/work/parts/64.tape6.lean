/-! the class: its reader of laws, the whole text; new text; a new reader -/
theorem TQ.x {m : Nat} {g g' : GH} {t : List Int32} {p q : Nat} {rs : List Rl} (h : TQ m g t p rs) (hx : FrX m [903, 899] [898] g g') (hN : TN m g' t q (flR rs)) : TQ m g' t q rs := by
  obtain ⟨_, a, b⟩ := h
  refine ⟨hN, (hx.2.1 _ (by decide)).trans a, ?_⟩
  unfold BD at b ⊢
  rw [hx.2.2 _ (by decide), hx.2.2 _ (by decide)]
  exact b
def TRs (m : Nat) (g : GH) (t : List Int32) (r : Nat ⊕ List Rl) (b : Int32) : Prop := match r with
  | .inl e => b = nI e ∧ e ≤ t.length
  | .inr rs => b = -1 ∧ ∃ p, TQ m g t p rs
def TLc (m : Nat) (g : GH) (t : List Int32) (cur : PRc) (b : Int32) : Prop := match cur with
  | .inl e => b = 0 ∧ ∃ ws', TN m g t e ws'
  | .inr (p, rs) => b = 1 ∧ TQ m g t p rs
def SpFf (Γ : GAM) (m : Nat) (g : GH) (K : Int32 → GH → Prop) : Prop := ∃ t, TT m g t ∧ ∀ b g', FrX m [903, 899, 902] [898, 900, 901] g g' → TRs m g' t (pAll t) b → K b g'
-- the walk of Ta_firstFault
set_option maxRecDepth 100000 in
def B_Ta_firstFault_73 (Γ : GAM) (R_Ta_readRule : Nat → GH → (Int32 → GH → Prop) → Prop) (K22 : Nat → Int32 → Int32 → GH → Prop) (K : Int32 → GH → Prop) (s0 : Int32) (g : GH) : Prop :=
  K s0 g
set_option maxHeartbeats 4000000 in
set_option maxRecDepth 100000 in
theorem S_Ta_firstFault_73 {Γ : GAM} {E : EV} {fr lo : Nat} {K : Int32 → GH → Prop} (hE : GE Γ E cX6_firstFault 3 RX6 (some (.int)) fr lo (fun r g' => ∃ x, r = some (.int x) ∧ K x g')) (hfr : 2 ≤ fr) (hlo : 42 ≤ lo) {R_Ta_readRule : Nat → GH → (Int32 → GH → Prop) → Prop} {f_Ta_readRule l_Ta_readRule : Nat} (hR_Ta_readRule : (f_Ta_readRule + 1 ≤ fr ∧ 8 + (1 + 11) + l_Ta_readRule ≤ lo) ∧ ∀ (th : Nat) g (K : Int32 → GH → Prop), R_Ta_readRule th g K → MetA Γ E.2.1 yX6_readRule cX6_readRule 1 (some (.boolean)) f_Ta_readRule l_Ta_readRule [.ref th] g (fun r g' => ∃ x, r = some (.int x) ∧ K x g')) {K22 : Nat → Int32 → Int32 → GH → Prop} (hK22 : ∀ (l0 : Nat) (l1 : Int32) (l2 : Int32) (g : GH), K22 l0 l1 l2 g → JW Γ E 22 [some (.ref l0), some (.int l1), some (.int l2)] [] g) (s0 : Int32) (g : GH) (h : B_Ta_firstFault_73 Γ R_Ta_readRule K22 K s0 g) : JW Γ E 73 [none, none, none] [.int s0] g := by
  unfold B_Ta_firstFault_73 at h
  exact j_iret hE (by decide +kernel : decode cX6_firstFault 73 = .ok (.ireturn, 1)) ⟨_, rfl, h⟩
set_option maxRecDepth 100000 in
def B_Ta_firstFault_69 (Γ : GAM) (R_Ta_readRule : Nat → GH → (Int32 → GH → Prop) → Prop) (K22 : Nat → Int32 → Int32 → GH → Prop) (K : Int32 → GH → Prop) (l0 : Nat) (g : GH) : Prop :=
  Kd g l0 = 8 ∧ B_Ta_firstFault_73 Γ R_Ta_readRule K22 K (Gi g 903 l0) g
set_option maxHeartbeats 4000000 in
set_option maxRecDepth 100000 in
theorem S_Ta_firstFault_69 {Γ : GAM} {E : EV} {fr lo : Nat} {K : Int32 → GH → Prop} (hE : GE Γ E cX6_firstFault 3 RX6 (some (.int)) fr lo (fun r g' => ∃ x, r = some (.int x) ∧ K x g')) (hfr : 2 ≤ fr) (hlo : 42 ≤ lo) {R_Ta_readRule : Nat → GH → (Int32 → GH → Prop) → Prop} {f_Ta_readRule l_Ta_readRule : Nat} (hR_Ta_readRule : (f_Ta_readRule + 1 ≤ fr ∧ 8 + (1 + 11) + l_Ta_readRule ≤ lo) ∧ ∀ (th : Nat) g (K : Int32 → GH → Prop), R_Ta_readRule th g K → MetA Γ E.2.1 yX6_readRule cX6_readRule 1 (some (.boolean)) f_Ta_readRule l_Ta_readRule [.ref th] g (fun r g' => ∃ x, r = some (.int x) ∧ K x g')) {K22 : Nat → Int32 → Int32 → GH → Prop} (hK22 : ∀ (l0 : Nat) (l1 : Int32) (l2 : Int32) (g : GH), K22 l0 l1 l2 g → JW Γ E 22 [some (.ref l0), some (.int l1), some (.int l2)] [] g) (l0 : Nat) (g : GH) (h : B_Ta_firstFault_69 Γ R_Ta_readRule K22 K l0 g) : JW Γ E 69 [some (.ref l0), none, none] [] g := by
  unfold B_Ta_firstFault_69 at h
  refine j_aload_n hE (by decide +kernel : decode cX6_firstFault 69 = .ok (.aload_n 0, 1)) rfl rfl ?_
  obtain ⟨hk, h⟩ := h
  refine j_getI hE fg_X6_28 hk (by decide +kernel : decode cX6_firstFault 70 = .ok (.getfield 28, 3)) ?_
  refine j_weak [none, none, none] trivial ?_
  exact S_Ta_firstFault_73 hE hfr hlo hR_Ta_readRule hK22 _ _ h
set_option maxRecDepth 100000 in
def B_Ta_firstFault_54 (Γ : GAM) (R_Ta_readRule : Nat → GH → (Int32 → GH → Prop) → Prop) (K22 : Nat → Int32 → Int32 → GH → Prop) (K : Int32 → GH → Prop) (l0 : Nat) (l1 : Int32) (g : GH) : Prop :=
  ((l1 = 0 → B_Ta_firstFault_69 Γ R_Ta_readRule K22 K l0 g) ∧ (¬ (l1 = 0) → Kd g l0 = 8 ∧ Sp_Ta_nextSign Γ l0 g (fun (x2 : Int32) (g1 : GH) => ((¬ (x2 = 0) → B_Ta_firstFault_69 Γ R_Ta_readRule K22 K l0 g1) ∧ (x2 = 0 → B_Ta_firstFault_73 Γ R_Ta_readRule K22 K (-1 : Int32) g1)))))
set_option maxHeartbeats 4000000 in
set_option maxRecDepth 100000 in
theorem S_Ta_firstFault_54 {Γ : GAM} {E : EV} {fr lo : Nat} {K : Int32 → GH → Prop} (hE : GE Γ E cX6_firstFault 3 RX6 (some (.int)) fr lo (fun r g' => ∃ x, r = some (.int x) ∧ K x g')) (hfr : 2 ≤ fr) (hlo : 42 ≤ lo) {R_Ta_readRule : Nat → GH → (Int32 → GH → Prop) → Prop} {f_Ta_readRule l_Ta_readRule : Nat} (hR_Ta_readRule : (f_Ta_readRule + 1 ≤ fr ∧ 8 + (1 + 11) + l_Ta_readRule ≤ lo) ∧ ∀ (th : Nat) g (K : Int32 → GH → Prop), R_Ta_readRule th g K → MetA Γ E.2.1 yX6_readRule cX6_readRule 1 (some (.boolean)) f_Ta_readRule l_Ta_readRule [.ref th] g (fun r g' => ∃ x, r = some (.int x) ∧ K x g')) {K22 : Nat → Int32 → Int32 → GH → Prop} (hK22 : ∀ (l0 : Nat) (l1 : Int32) (l2 : Int32) (g : GH), K22 l0 l1 l2 g → JW Γ E 22 [some (.ref l0), some (.int l1), some (.int l2)] [] g) (l0 : Nat) (l1 : Int32) (g : GH) (h : B_Ta_firstFault_54 Γ R_Ta_readRule K22 K l0 l1 g) : JW Γ E 54 [some (.ref l0), some (.int l1), none] [] g := by
  unfold B_Ta_firstFault_54 at h
  refine j_iload_n hE (by decide +kernel : decode cX6_firstFault 54 = .ok (.iload_n 1, 1)) rfl rfl ?_
  refine j_if_eq hE (by decide +kernel : decode cX6_firstFault 55 = .ok (.ifCond .eq 14, 3)) (tgt := 69) (by decide) (fun q => ?_) (fun q => ?_)
  · replace h := h.1 q
    refine j_weak [some (.ref l0), none, none] ⟨rfl, trivial⟩ ?_
    exact S_Ta_firstFault_69 hE hfr hlo hR_Ta_readRule hK22 _ _ h
  · replace h := h.2 q
    refine j_aload_n hE (by decide +kernel : decode cX6_firstFault 58 = .ok (.aload_n 0, 1)) rfl rfl ?_
    obtain ⟨hk, h⟩ := h
    refine j_callV hE rfl cl_X6_45 cf_7 im_X6_nextSign se_X6_nextSign ⟨by omega, by omega⟩ (As := []) (rest := []) rfl rfl (Nat.le_of_ble_eq_true rfl) hk (by decide +kernel : decode cX6_firstFault 59 = .ok (.invokevirtual 45, 3)) (mt_Ta_nextSign _ _ _ h) ?_
    rintro _ g1 ⟨x2, rfl, h⟩
    refine j_if_ne hE (by decide +kernel : decode cX6_firstFault 62 = .ok (.ifCond .ne 7, 3)) (tgt := 69) (by decide) (fun q => ?_) (fun q => ?_)
    · replace h := h.1 q
      refine j_weak [some (.ref l0), none, none] ⟨rfl, trivial⟩ ?_
      exact S_Ta_firstFault_69 hE hfr hlo hR_Ta_readRule hK22 _ _ h
    · replace h := h.2 q
      refine j_iconst hE (by decide +kernel : decode cX6_firstFault 65 = .ok (.iconst (-1), 1)) (v := (-1 : Int32)) (by decide) ?_
      refine j_goto hE (by decide +kernel : decode cX6_firstFault 66 = .ok (.goto 7, 3)) (tgt := 73) (by decide) ?_
      refine j_weak [none, none, none] trivial ?_
      exact S_Ta_firstFault_73 hE hfr hlo hR_Ta_readRule hK22 _ _ h
set_option maxRecDepth 100000 in
def B_Ta_firstFault_22 (Γ : GAM) (R_Ta_readRule : Nat → GH → (Int32 → GH → Prop) → Prop) (K22 : Nat → Int32 → Int32 → GH → Prop) (K : Int32 → GH → Prop) (l0 : Nat) (l1 : Int32) (l2 : Int32) (g : GH) : Prop :=
  Kd g l0 = 8 ∧ (((Gi g 897 l0) ≤ l2 → B_Ta_firstFault_54 Γ R_Ta_readRule K22 K l0 l1 g) ∧ (¬ ((Gi g 897 l0) ≤ l2) → ((l1 = 0 → B_Ta_firstFault_54 Γ R_Ta_readRule K22 K l0 l1 g) ∧ (¬ (l1 = 0) → Kd g l0 = 8 ∧ Sp_Ta_takes Γ l0 (59 : Int32) g (fun (x2 : Int32) (g1 : GH) => ((x2 = 0 → B_Ta_firstFault_54 Γ R_Ta_readRule K22 K l0 l1 g1) ∧ (¬ (x2 = 0) → Kd g1 l0 = 8 ∧ R_Ta_readRule l0 g1 (fun (x4 : Int32) (g3 : GH) => K22 l0 x4 (l2 + (1 : Int32)) g3))))))))
set_option maxHeartbeats 4000000 in
set_option maxRecDepth 100000 in
theorem S_Ta_firstFault_22 {Γ : GAM} {E : EV} {fr lo : Nat} {K : Int32 → GH → Prop} (hE : GE Γ E cX6_firstFault 3 RX6 (some (.int)) fr lo (fun r g' => ∃ x, r = some (.int x) ∧ K x g')) (hfr : 2 ≤ fr) (hlo : 42 ≤ lo) {R_Ta_readRule : Nat → GH → (Int32 → GH → Prop) → Prop} {f_Ta_readRule l_Ta_readRule : Nat} (hR_Ta_readRule : (f_Ta_readRule + 1 ≤ fr ∧ 8 + (1 + 11) + l_Ta_readRule ≤ lo) ∧ ∀ (th : Nat) g (K : Int32 → GH → Prop), R_Ta_readRule th g K → MetA Γ E.2.1 yX6_readRule cX6_readRule 1 (some (.boolean)) f_Ta_readRule l_Ta_readRule [.ref th] g (fun r g' => ∃ x, r = some (.int x) ∧ K x g')) {K22 : Nat → Int32 → Int32 → GH → Prop} (hK22 : ∀ (l0 : Nat) (l1 : Int32) (l2 : Int32) (g : GH), K22 l0 l1 l2 g → JW Γ E 22 [some (.ref l0), some (.int l1), some (.int l2)] [] g) (l0 : Nat) (l1 : Int32) (l2 : Int32) (g : GH) (h : B_Ta_firstFault_22 Γ R_Ta_readRule K22 K l0 l1 l2 g) : JW Γ E 22 [some (.ref l0), some (.int l1), some (.int l2)] [] g := by
  unfold B_Ta_firstFault_22 at h
  refine j_iload_n hE (by decide +kernel : decode cX6_firstFault 22 = .ok (.iload_n 2, 1)) rfl rfl ?_
  refine j_aload_n hE (by decide +kernel : decode cX6_firstFault 23 = .ok (.aload_n 0, 1)) rfl rfl ?_
  obtain ⟨hk, h⟩ := h
  refine j_getI hE fg_X6_24 hk (by decide +kernel : decode cX6_firstFault 24 = .ok (.getfield 24, 3)) ?_
  refine j_icmp_ge hE (by decide +kernel : decode cX6_firstFault 27 = .ok (.if_icmp .ge 27, 3)) (tgt := 54) (by decide) (fun q => ?_) (fun q => ?_)
  · replace h := h.1 q
    refine j_weak [some (.ref l0), some (.int l1), none] ⟨rfl, ⟨rfl, trivial⟩⟩ ?_
    exact S_Ta_firstFault_54 hE hfr hlo hR_Ta_readRule hK22 _ _ _ h
  · replace h := h.2 q
    refine j_iload_n hE (by decide +kernel : decode cX6_firstFault 30 = .ok (.iload_n 1, 1)) rfl rfl ?_
    refine j_if_eq hE (by decide +kernel : decode cX6_firstFault 31 = .ok (.ifCond .eq 23, 3)) (tgt := 54) (by decide) (fun q => ?_) (fun q => ?_)
    · replace h := h.1 q
      refine j_weak [some (.ref l0), some (.int l1), none] ⟨rfl, ⟨rfl, trivial⟩⟩ ?_
      exact S_Ta_firstFault_54 hE hfr hlo hR_Ta_readRule hK22 _ _ _ h
    · replace h := h.2 q
      refine j_aload_n hE (by decide +kernel : decode cX6_firstFault 34 = .ok (.aload_n 0, 1)) rfl rfl ?_
      refine j_bipush hE (by decide +kernel : decode cX6_firstFault 35 = .ok (.bipush 59, 2)) (v := (59 : Int32)) (by decide) ?_
      obtain ⟨hk, h⟩ := h
      refine j_callV hE rfl cl_X6_41 cf_7 im_X6_takes se_X6_takes ⟨by omega, by omega⟩ (As := [.int (59 : Int32)]) (rest := []) rfl rfl (Nat.le_of_ble_eq_true rfl) hk (by decide +kernel : decode cX6_firstFault 37 = .ok (.invokevirtual 41, 3)) (mt_Ta_takes _ _ _ _ h) ?_
      rintro _ g1 ⟨x2, rfl, h⟩
      refine j_if_eq hE (by decide +kernel : decode cX6_firstFault 40 = .ok (.ifCond .eq 14, 3)) (tgt := 54) (by decide) (fun q => ?_) (fun q => ?_)
      · replace h := h.1 q
        refine j_weak [some (.ref l0), some (.int l1), none] ⟨rfl, ⟨rfl, trivial⟩⟩ ?_
        exact S_Ta_firstFault_54 hE hfr hlo hR_Ta_readRule hK22 _ _ _ h
      · replace h := h.2 q
        refine j_aload_n hE (by decide +kernel : decode cX6_firstFault 43 = .ok (.aload_n 0, 1)) rfl rfl ?_
        obtain ⟨hk, h⟩ := h
        refine j_callV hE rfl cl_X6_37 cf_7 im_X6_readRule se_X6_readRule hR_Ta_readRule.1 (As := []) (rest := []) rfl rfl (Nat.le_of_ble_eq_true rfl) hk (by decide +kernel : decode cX6_firstFault 44 = .ok (.invokevirtual 37, 3)) (hR_Ta_readRule.2 _ _ _ h) ?_
        rintro _ g3 ⟨x4, rfl, h⟩
        refine j_istore_n hE (by decide +kernel : decode cX6_firstFault 47 = .ok (.istore_n 1, 1)) rfl (Nat.le_of_ble_eq_true rfl) rfl ?_
        refine j_iinc hE (by decide +kernel : decode cX6_firstFault 48 = .ok (.iinc 2 1, 3)) (v := (1 : Int32)) (by decide) rfl (Nat.le_of_ble_eq_true rfl) rfl ?_
        refine j_goto hE (by decide +kernel : decode cX6_firstFault 51 = .ok (.goto (-29), 3)) (tgt := 22) (by decide) ?_
        exact hK22 _ _ _ _ h
set_option maxRecDepth 100000 in
def B_Ta_firstFault_0 (Γ : GAM) (R_Ta_readRule : Nat → GH → (Int32 → GH → Prop) → Prop) (K22 : Nat → Int32 → Int32 → GH → Prop) (K : Int32 → GH → Prop) (th : Nat) (g : GH) : Prop :=
  Kd g th = 8 ∧ ∀ g1 : GH, g1 = sI g 903 th (0 : Int32) → Kd g1 th = 8 ∧ ∀ g2 : GH, g2 = sI g1 899 th (0 : Int32) → Kd g2 th = 8 ∧ ∀ g3 : GH, g3 = sI g2 902 th (0 : Int32) → Kd g3 th = 8 ∧ R_Ta_readRule th g3 (fun (x5 : Int32) (g4 : GH) => K22 th x5 (0 : Int32) g4)
set_option maxHeartbeats 4000000 in
set_option maxRecDepth 100000 in
theorem S_Ta_firstFault_0 {Γ : GAM} {E : EV} {fr lo : Nat} {K : Int32 → GH → Prop} (hE : GE Γ E cX6_firstFault 3 RX6 (some (.int)) fr lo (fun r g' => ∃ x, r = some (.int x) ∧ K x g')) (hfr : 2 ≤ fr) (hlo : 42 ≤ lo) {R_Ta_readRule : Nat → GH → (Int32 → GH → Prop) → Prop} {f_Ta_readRule l_Ta_readRule : Nat} (hR_Ta_readRule : (f_Ta_readRule + 1 ≤ fr ∧ 8 + (1 + 11) + l_Ta_readRule ≤ lo) ∧ ∀ (th : Nat) g (K : Int32 → GH → Prop), R_Ta_readRule th g K → MetA Γ E.2.1 yX6_readRule cX6_readRule 1 (some (.boolean)) f_Ta_readRule l_Ta_readRule [.ref th] g (fun r g' => ∃ x, r = some (.int x) ∧ K x g')) {K22 : Nat → Int32 → Int32 → GH → Prop} (hK22 : ∀ (l0 : Nat) (l1 : Int32) (l2 : Int32) (g : GH), K22 l0 l1 l2 g → JW Γ E 22 [some (.ref l0), some (.int l1), some (.int l2)] [] g) (th : Nat) (g : GH) (h : B_Ta_firstFault_0 Γ R_Ta_readRule K22 K th g) : JW Γ E 0 [some (.ref th), none, none] [] g := by
  unfold B_Ta_firstFault_0 at h
  refine j_aload_n hE (by decide +kernel : decode cX6_firstFault 0 = .ok (.aload_n 0, 1)) rfl rfl ?_
  refine j_iconst hE (by decide +kernel : decode cX6_firstFault 1 = .ok (.iconst 0, 1)) (v := (0 : Int32)) (by decide) ?_
  obtain ⟨hk, h⟩ := h
  obtain ⟨g1, hg⟩ : ∃ z, z = sI g 903 th (0 : Int32) := ⟨_, rfl⟩; replace h := h g1 hg
  refine j_putI hE fa_X6_28 hk (fun q => by cases q) (by decide +kernel : decode cX6_firstFault 2 = .ok (.putfield 28, 3)) ?_
  rw [← hg]
  refine j_aload_n hE (by decide +kernel : decode cX6_firstFault 5 = .ok (.aload_n 0, 1)) rfl rfl ?_
  refine j_iconst hE (by decide +kernel : decode cX6_firstFault 6 = .ok (.iconst 0, 1)) (v := (0 : Int32)) (by decide) ?_
  obtain ⟨hk, h⟩ := h
  obtain ⟨g2, hg⟩ : ∃ z, z = sI g1 899 th (0 : Int32) := ⟨_, rfl⟩; replace h := h g2 hg
  refine j_putI hE fa_X6_31 hk (fun q => by cases q) (by decide +kernel : decode cX6_firstFault 7 = .ok (.putfield 31, 3)) ?_
  rw [← hg]
  refine j_aload_n hE (by decide +kernel : decode cX6_firstFault 10 = .ok (.aload_n 0, 1)) rfl rfl ?_
  refine j_iconst hE (by decide +kernel : decode cX6_firstFault 11 = .ok (.iconst 0, 1)) (v := (0 : Int32)) (by decide) ?_
  obtain ⟨hk, h⟩ := h
  obtain ⟨g3, hg⟩ : ∃ z, z = sI g2 902 th (0 : Int32) := ⟨_, rfl⟩; replace h := h g3 hg
  refine j_putI hE fa_X6_34 hk (fun q => by cases q) (by decide +kernel : decode cX6_firstFault 12 = .ok (.putfield 34, 3)) ?_
  rw [← hg]
  refine j_aload_n hE (by decide +kernel : decode cX6_firstFault 15 = .ok (.aload_n 0, 1)) rfl rfl ?_
  obtain ⟨hk, h⟩ := h
  refine j_callV hE rfl cl_X6_37 cf_7 im_X6_readRule se_X6_readRule hR_Ta_readRule.1 (As := []) (rest := []) rfl rfl (Nat.le_of_ble_eq_true rfl) hk (by decide +kernel : decode cX6_firstFault 16 = .ok (.invokevirtual 37, 3)) (hR_Ta_readRule.2 _ _ _ h) ?_
  rintro _ g4 ⟨x5, rfl, h⟩
  refine j_istore_n hE (by decide +kernel : decode cX6_firstFault 19 = .ok (.istore_n 1, 1)) rfl (Nat.le_of_ble_eq_true rfl) rfl ?_
  refine j_iconst hE (by decide +kernel : decode cX6_firstFault 20 = .ok (.iconst 0, 1)) (v := (0 : Int32)) (by decide) ?_
  refine j_istore_n hE (by decide +kernel : decode cX6_firstFault 21 = .ok (.istore_n 2, 1)) rfl (Nat.le_of_ble_eq_true rfl) rfl ?_
  exact hK22 _ _ _ _ h
set_option maxHeartbeats 4000000 in
set_option maxRecDepth 100000 in
theorem rl_Ta_firstFault {Γ : GAM} {l : Launch} {fr lo : Nat} (hfr : 2 ≤ fr) (hlo : 42 ≤ lo) {R_Ta_readRule : Nat → GH → (Int32 → GH → Prop) → Prop} {f_Ta_readRule l_Ta_readRule : Nat} (hR_Ta_readRule : (f_Ta_readRule + 1 ≤ fr ∧ 8 + (1 + 11) + l_Ta_readRule ≤ lo) ∧ ∀ (th : Nat) g (K : Int32 → GH → Prop), R_Ta_readRule th g K → MetA Γ l yX6_readRule cX6_readRule 1 (some (.boolean)) f_Ta_readRule l_Ta_readRule [.ref th] g (fun r g' => ∃ x, r = some (.int x) ∧ K x g')) {th : Nat} {g : GH} {K : Int32 → GH → Prop} (I22 : Nat → Nat → Int32 → Int32 → GH → Prop) (hh22 : ∀ n (l0 : Nat) (l1 : Int32) (l2 : Int32) (g : GH), I22 n l0 l1 l2 g → B_Ta_firstFault_22 Γ R_Ta_readRule (fun l0 l1 l2 g => ∃ m, m < n ∧ I22 m l0 l1 l2 g) K l0 l1 l2 g) (h0 : B_Ta_firstFault_0 Γ R_Ta_readRule (fun l0 l1 l2 g => ∃ m, I22 m l0 l1 l2 g) K th g) : MetA Γ l yX6_firstFault cX6_firstFault 3 (some (.int)) fr lo [.ref th] g (fun r g' => ∃ x, r = some (.int x) ∧ K x g') := by
  refine MetA.introL (Lx := [some (.ref th), none, none]) (by decide) (Nat.le_of_ble_eq_true rfl) rfl rfl ?_
  intro E hEl hE hnm
  have hR_Ta_readRule := hR_Ta_readRule; rw [← hEl] at hR_Ta_readRule
  have hall : ∀ n, (∀ (l0 : Nat) (l1 : Int32) (l2 : Int32) (g : GH), I22 n l0 l1 l2 g → JW Γ E 22 [some (.ref l0), some (.int l1), some (.int l2)] [] g) := by
    intro n
    induction n using Nat.strongRecOn with
    | ind n ih =>
      exact fun l0 l1 l2 g hi => S_Ta_firstFault_22 hE hfr hlo hR_Ta_readRule (fun l0 l1 l2 g hm => by obtain ⟨m, hm, h⟩ := hm; exact (ih m hm) l0 l1 l2 g h) l0 l1 l2 g (hh22 n l0 l1 l2 g hi)
  exact S_Ta_firstFault_0 hE hfr hlo hR_Ta_readRule (fun l0 l1 l2 g hm => by obtain ⟨m, h⟩ := hm; exact (hall m) l0 l1 l2 g h) th g h0
theorem mz_firstFault {Γ : GAM} {l : Launch} {f' l' : Nat} (hR : ∀ (th : Nat) (g : GH) (K : Int32 → GH → Prop), SpRl Γ th g K → MetA Γ l yX6_readRule cX6_readRule 1 (some (.boolean)) f' l' [.ref th] g (fun r g' => ∃ x, r = some (.int x) ∧ K x g')) (f lo : Nat) (hf : f' + 1 ≤ f) (hf3 : 3 ≤ f) (hlo : 60 + l' ≤ lo) (th : Nat) (g : GH) (K : Int32 → GH → Prop) (h : SpFf Γ th g K) : MetA Γ l yX6_firstFault cX6_firstFault 3 (some (.int)) f lo [.ref th] g (fun r g' => ∃ x, r = some (.int x) ∧ K x g') := by
  obtain ⟨t, hTT, hK⟩ := h
  have hT := hTT.2.2.1
  have hby := hTT.2.2.2.2
  refine rl_Ta_firstFault (R_Ta_readRule := SpRl Γ) (f_Ta_readRule := f') (l_Ta_readRule := l') (by omega) (by omega) ⟨⟨hf, by omega⟩, hR⟩
    (fun n l0 l1 l2 g' => th = l0 ∧ ∃ i cur ff, l2 = nI i ∧ FrX th [903, 899, 902] [898, 900, 901] g g' ∧ TLc th g' t cur l1 ∧ (∀ p rs, cur = .inr (p, rs) → i < p ∧ t.length ≤ ff + p ∧ (flR rs).length ≤ p ∧ 6 * rs.length ≤ p + 1) ∧ n = pMc t cur ∧ pAll t = pRf t ff cur) ?_ ?_
  · rintro n l0 l1 l2 g' ⟨rfl, i, cur, ff, rfl, hfx, hO, hff, rfl, hfin⟩
    suffices H : ∀ (K22 : Nat → Int32 → Int32 → GH → Prop), (∀ g2 b2 cur2 ff2, FrX th [903, 899, 902] [898, 900, 901] g g2 → TLc th g2 t cur2 b2 → (∀ p rs, cur2 = .inr (p, rs) → i + 1 < p ∧ t.length ≤ ff2 + p ∧ (flR rs).length ≤ p ∧ 6 * rs.length ≤ p + 1) → pMc t cur2 < pMc t cur → pAll t = pRf t ff2 cur2 → K22 th b2 (nI (i + 1)) g2) → B_Ta_firstFault_22 Γ (SpRl Γ) K22 K th l1 (nI i) g' from
      H _ (fun g2 b2 cur2 ff2 h1 h2 h3 h4 h5 => ⟨pMc t cur2, h4, rfl, i + 1, cur2, ff2, rfl, h1, h2, h3, rfl, h5⟩)
    intro K22 h22
    rw [hfin] at hK
    unfold B_Ta_firstFault_22
    cases cur with
    | inl e =>
      obtain ⟨hb, ws', hN⟩ := hO
      have h54 : B_Ta_firstFault_54 Γ (SpRl Γ) K22 K th l1 g' := by
        unfold B_Ta_firstFault_54 B_Ta_firstFault_69 B_Ta_firstFault_73
        refine ⟨fun _ => ⟨hN.1.1.1, hK _ g' hfx ⟨hN.2.1, hN.2.2.1⟩⟩, fun u => absurd hb u⟩
      exact ⟨hN.1.1.1, fun _ => h54, fun _ => ⟨fun _ => h54, fun u => absurd hb u⟩⟩
    | inr x =>
      obtain ⟨p, rs⟩ := x
      obtain ⟨hb, hQ⟩ := hO
      obtain ⟨hip, hffp, hwp, h6⟩ := hff p rs rfl
      have hN := hQ.1
      have hpl := hN.2.2.1
      have gs := skp_ge t p
      subst hb
      rw [hN.1.2.1, nj_le (by omega) (by omega)]
      refine ⟨hN.1.1.1, fun u => by omega, fun _ => ⟨fun u => absurd u (by decide), fun _ => ⟨hN.1.1.1, t, p, flR rs, hN, by decide, by decide, fun hc g1 hx1 N1 hlt => ⟨fun u => absurd u (by decide), fun _ => ⟨N1.1.1.1, t, skp t p + 1, rs, hQ.x hx1 N1, by omega, by omega, fun b3 g3 hx3 hL3 => ?_⟩⟩, fun hc g1 hx1 N1 => ⟨fun _ => ?_, fun u => absurd rfl u⟩⟩⟩⟩
      · rw [nj_s]
        have f3 : FrX th [903, 899, 902] [898, 900, 901] g g3 := hfx.tr ((hx1.up (by decide) (by decide)).tr hx3)
        have hu : pAll t = match pRu t (skp t p + 1) with
          | .inl e => .inl e
          | .inr (p2, r) => pRs t (ff - 1) p2 (rs ++ [r]) := by
          rw [hfin]
          show pRs t ff p rs = _
          rw [pRs_u hffp, if_pos hc]
          cases pRu t (skp t p + 1) <;> rfl
        cases hr : pRu t (skp t p + 1) with
        | inl e =>
          rw [hr] at hL3 hu
          refine h22 g3 b3 (.inl e) 0 f3 hL3 (fun _ _ q => by cases q) ?_ hu
          show 0 < _; unfold pMc; simp only; omega
        | inr y =>
          obtain ⟨p2, r⟩ := y
          rw [hr] at hL3 hu
          obtain ⟨k1, k2, k3, k4⟩ := hL3
          have hr5 := pRu_ok hT (skp t p + 1) hlt
          rw [hr] at hr5
          obtain ⟨w1, w2, _⟩ := hr5
          refine h22 g3 b3 (.inr (p2, rs ++ [r])) (ff - 1) f3 ⟨k1, k2⟩ (fun p' rs' q => ?_) ?_ hu
          · cases q
            refine ⟨by omega, by omega, k3, ?_⟩
            have : 6 * rs.length + 6 ≤ p2 + 1 := by omega
            rw [List.length_append]; simp only [List.length_cons, List.length_nil]; omega
          · show 1 + (t.length - p2) < 1 + (t.length - p); omega
      · have hu : pRf t ff (.inr (p, rs)) = if skp t p < t.length then .inl (skp t p) else .inr rs := by
          show pRs t ff p rs = _
          rw [pRs_u hffp, if_neg hc]
        rw [hu] at hK
        have Q1 := hQ.x hx1 N1
        unfold B_Ta_firstFault_54 B_Ta_firstFault_69 B_Ta_firstFault_73
        refine ⟨fun u => absurd u (by decide), fun _ => ⟨N1.1.1.1, t, skp t p, flR rs, N1, fun g2 hx2 N2 => ?_⟩⟩
        rw [skp_i] at N2 ⊢
        have f2 : FrX th [903, 899, 902] [898, 900, 901] g g2 := hfx.tr ((hx1.up (by decide) (by decide)).tr (hx2.up (by decide) (by decide)))
        refine ⟨fun u => ⟨N2.1.1.1, ?_⟩, fun u => ?_⟩
        · have hlt : skp t p < t.length := Nat.lt_of_not_le (fun z => u ((sg_0 hby).mpr z))
          refine hK _ g2 f2 ?_
          rw [if_pos hlt]
          exact ⟨N2.2.1, N2.2.2.1⟩
        · have hge := (sg_0 hby).mp u
          refine hK _ g2 f2 ?_
          rw [if_neg (by omega)]
          exact ⟨rfl, _, Q1.x hx2 N2⟩
  · unfold B_Ta_firstFault_0
    refine ⟨hTT.1.1, ?_⟩
    rintro g1 rfl
    refine ⟨hTT.1.1, ?_⟩
    rintro g2 rfl
    refine ⟨hTT.1.1, ?_⟩
    rintro g3 rfl
    have x3 : FrX th [903, 899, 902] [898, 900, 901] g (sI (sI (sI g 903 th 0) 899 th 0) 902 th 0) := (FrX.sI (by decide)).tr ((FrX.sI (by decide)).tr (FrX.sI (by decide)))
    refine ⟨hTT.1.1, t, 0, [], ⟨⟨hTT.x x3 (by decide) (by decide), ?_, Nat.zero_le _, ?_, Nat.zero_le _, fun k x hk => by simp [flR] at hk⟩, ?_, fun k r hk => by simp at hk⟩, by simp [flR], by simp, fun b4 g4 hx4 hL4 => ?_⟩
    · simp [Gi_sI, nj_0]
    · simp [Gi_sI, nj_0, flR]
    · simp [Gi_sI, nj_0]
    · have hr5 := pRu_ok hT 0 (Nat.zero_le _)
      have hu : pAll t = match pRu t 0 with
        | .inl e => .inl e
        | .inr (p1, r) => pRs t t.length p1 [r] := rfl
      cases hr : pRu t 0 with
      | inl e =>
        rw [hr] at hL4 hu
        exact ⟨_, rfl, 0, .inl e, 0, rfl, x3.tr hx4, hL4, (fun _ _ q => by cases q), rfl, hu⟩
      | inr y =>
        obtain ⟨p2, r⟩ := y
        rw [hr] at hL4 hu hr5
        obtain ⟨k1, k2, k3, k4⟩ := hL4
        obtain ⟨w1, w2, _⟩ := hr5
        refine ⟨_, rfl, 0, .inr (p2, [r]), t.length, rfl, x3.tr hx4, ⟨k1, k2⟩, fun p' rs' q => ?_, rfl, hu⟩
        cases q
        simp only [List.nil_append] at k3
        refine ⟨by omega, by omega, k3, ?_⟩
        simp only [List.length_cons, List.length_nil] at k4 ⊢; omega
set_option maxRecDepth 20000 in
theorem mz_ff {Γ : GAM} {l : Launch} {fL lL : Nat} (hL : MzL Γ l fL lL) (hfL : fL ≤ 12) (hlL : lL ≤ 600) (th : Nat) (g : GH) (K : Int32 → GH → Prop) (h : SpFf Γ th g K) : MetA Γ l yX6_firstFault cX6_firstFault 3 (some (.int)) 130 19000 [.ref th] g (fun r g' => ∃ x, r = some (.int x) ∧ K x g') := by
  obtain ⟨h1, h2, h3, h4⟩ := mz_all hL hfL hlL 8 (Nat.le_refl _)
  have hV := mz_readVerdict (h2 120 18000 (by decide) (by decide)) 121 18100 (by decide) (by decide) (by decide)
  have hR := mz_readRule (h4 121 18100 (by decide) (by decide)) hV 122 18200 (by decide) (by decide) (by decide)
  exact mz_firstFault hR 130 19000 (by decide) (by decide) (by decide) th g K h
