/-! the class: its reader of laws, atoms, comparisons, units -/
def SpLt (_ : GAM) (c : Int32) (g : GH) (K : Int32 → GH → Prop) : Prop := (0 ≤ c ∧ c ≤ 255) ∧ K (if okLt c then 1 else 0) g
def SpZo (S : List Int32 → Nat → Nat → PRs) (r : Nat) (Γ : GAM) (m : Nat) (d : Int32) (g : GH) (K : Int32 → GH → Prop) : Prop := match r with
  | 0 => False
  | r + 1 => SpZ (fun t => S t r) r Γ m d g K
theorem TO.close {Γ : GAM} {m : Nat} {g : GH} {t ws : List Int32} {r : PRs} {b c : Int32} (h : TO m g t ws r b) (h0 : c ≠ 0) (h1 : c ≠ -1) {K : Int32 → GH → Prop} (hK : ∀ b g', FrX m [903, 899] [898] g g' → TO m g' t ws (pCl t c r) b → K b g') : (b = 0 → K 0 g) ∧ (¬ (b = 0) → Kd g m = 8 ∧ Sp_Ta_takes Γ m c g (fun x8 g7 => (x8 = 0 → K 0 g7) ∧ (¬ (x8 = 0) → K 1 g7))) := by
  cases r with
  | inl e =>
    obtain ⟨hb, hw⟩ := h
    exact ⟨fun _ => hK 0 g FrX.rf ⟨rfl, hw⟩, fun u => absurd hb u⟩
  | inr x =>
    obtain ⟨p2, w⟩ := x
    obtain ⟨hb, hN⟩ := h
    refine ⟨fun u => by rw [hb] at u; exact absurd u (by decide), fun _ => ⟨hN.1.1.1, t, p2, ws ++ w, hN, h0, h1, fun hc g7 hx hN7 hlt => ⟨fun u => absurd u (by decide), fun _ => hK 1 g7 hx ?_⟩, fun hc g7 hx hN7 => ⟨fun _ => hK 0 g7 hx ?_, fun u => absurd rfl u⟩⟩⟩
    · unfold pCl
      simp only
      rw [if_pos hc]
      exact ⟨rfl, hN7⟩
    · unfold pCl
      simp only
      rw [if_neg hc]
      exact ⟨rfl, _, hN7⟩
theorem dp_lt {r : Nat} (hr : r ≤ 8) : (nI (8 - r) < (8 : Int32)) ↔ r ≠ 0 := by
  rw [show (8 : Int32) = nI 8 from rfl, nj_lt (by omega) (by omega)]; omega
theorem dp_s {r : Nat} (hr : r + 1 ≤ 8) : nI (8 - (r + 1)) + 1 = nI (8 - r) := by
  rw [nj_s]; congr 1; omega
theorem sg_n {t : List Int32} {p : Nat} (h : p < t.length) : sg t p = chr t p := if_pos h
-- the walk of Ta_readAtom
set_option maxRecDepth 100000 in
def B_Ta_readAtom_95 (Γ : GAM) (R_PV_isLetter : Int32 → GH → (Int32 → GH → Prop) → Prop) (R_Ta_readAtom : Nat → Int32 → GH → (Int32 → GH → Prop) → Prop) (R_Ta_readSum : Nat → Int32 → GH → (Int32 → GH → Prop) → Prop) (K : Int32 → GH → Prop) (s0 : Int32) (g : GH) : Prop :=
  ((s0 = 0 ∨ s0 = 1) ∧ K s0 g)
set_option maxHeartbeats 4000000 in
set_option maxRecDepth 100000 in
theorem S_Ta_readAtom_95 {Γ : GAM} {E : EV} {fr lo : Nat} {K : Int32 → GH → Prop} (hE : GE Γ E cX6_readAtom 4 RX6 (some (.boolean)) fr lo (fun r g' => ∃ x, r = some (.int x) ∧ K x g')) (hfr : 2 ≤ fr) (hlo : 44 ≤ lo) {R_PV_isLetter : Int32 → GH → (Int32 → GH → Prop) → Prop} {R_Ta_readAtom : Nat → Int32 → GH → (Int32 → GH → Prop) → Prop} {R_Ta_readSum : Nat → Int32 → GH → (Int32 → GH → Prop) → Prop} {f_PV_isLetter l_PV_isLetter : Nat} (hR_PV_isLetter : (f_PV_isLetter + 1 ≤ fr ∧ 8 + (1 + 11) + l_PV_isLetter ≤ lo) ∧ ∀ (p0 : Int32) g (K : Int32 → GH → Prop), R_PV_isLetter p0 g K → MetA Γ E.2.1 yX10_isLetter cX10_isLetter 1 (some (.boolean)) f_PV_isLetter l_PV_isLetter [.int p0] g (fun r g' => ∃ x, r = some (.int x) ∧ K x g')) {f_Ta_readAtom l_Ta_readAtom : Nat} (hR_Ta_readAtom : (f_Ta_readAtom + 1 ≤ fr ∧ 8 + (4 + 11) + l_Ta_readAtom ≤ lo) ∧ ∀ (th : Nat) (p0 : Int32) g (K : Int32 → GH → Prop), R_Ta_readAtom th p0 g K → MetA Γ E.2.1 yX6_readAtom cX6_readAtom 4 (some (.boolean)) f_Ta_readAtom l_Ta_readAtom [.ref th, .int p0] g (fun r g' => ∃ x, r = some (.int x) ∧ K x g')) {f_Ta_readSum l_Ta_readSum : Nat} (hR_Ta_readSum : (f_Ta_readSum + 1 ≤ fr ∧ 8 + (5 + 11) + l_Ta_readSum ≤ lo) ∧ ∀ (th : Nat) (p0 : Int32) g (K : Int32 → GH → Prop), R_Ta_readSum th p0 g K → MetA Γ E.2.1 yX6_readSum cX6_readSum 5 (some (.boolean)) f_Ta_readSum l_Ta_readSum [.ref th, .int p0] g (fun r g' => ∃ x, r = some (.int x) ∧ K x g')) (s0 : Int32) (g : GH) (h : B_Ta_readAtom_95 Γ R_PV_isLetter R_Ta_readAtom R_Ta_readSum K s0 g) : JW Γ E 95 [none, none, none, none] [.int s0] g := by
  unfold B_Ta_readAtom_95 at h
  exact j_zret hE h.1 (by decide +kernel : decode cX6_readAtom 95 = .ok (.ireturn, 1)) ⟨_, rfl, h.2⟩
set_option maxRecDepth 100000 in
def B_Ta_readAtom_94 (Γ : GAM) (R_PV_isLetter : Int32 → GH → (Int32 → GH → Prop) → Prop) (R_Ta_readAtom : Nat → Int32 → GH → (Int32 → GH → Prop) → Prop) (R_Ta_readSum : Nat → Int32 → GH → (Int32 → GH → Prop) → Prop) (K : Int32 → GH → Prop)  (g : GH) : Prop :=
  B_Ta_readAtom_95 Γ R_PV_isLetter R_Ta_readAtom R_Ta_readSum K (0 : Int32) g
set_option maxHeartbeats 4000000 in
set_option maxRecDepth 100000 in
theorem S_Ta_readAtom_94 {Γ : GAM} {E : EV} {fr lo : Nat} {K : Int32 → GH → Prop} (hE : GE Γ E cX6_readAtom 4 RX6 (some (.boolean)) fr lo (fun r g' => ∃ x, r = some (.int x) ∧ K x g')) (hfr : 2 ≤ fr) (hlo : 44 ≤ lo) {R_PV_isLetter : Int32 → GH → (Int32 → GH → Prop) → Prop} {R_Ta_readAtom : Nat → Int32 → GH → (Int32 → GH → Prop) → Prop} {R_Ta_readSum : Nat → Int32 → GH → (Int32 → GH → Prop) → Prop} {f_PV_isLetter l_PV_isLetter : Nat} (hR_PV_isLetter : (f_PV_isLetter + 1 ≤ fr ∧ 8 + (1 + 11) + l_PV_isLetter ≤ lo) ∧ ∀ (p0 : Int32) g (K : Int32 → GH → Prop), R_PV_isLetter p0 g K → MetA Γ E.2.1 yX10_isLetter cX10_isLetter 1 (some (.boolean)) f_PV_isLetter l_PV_isLetter [.int p0] g (fun r g' => ∃ x, r = some (.int x) ∧ K x g')) {f_Ta_readAtom l_Ta_readAtom : Nat} (hR_Ta_readAtom : (f_Ta_readAtom + 1 ≤ fr ∧ 8 + (4 + 11) + l_Ta_readAtom ≤ lo) ∧ ∀ (th : Nat) (p0 : Int32) g (K : Int32 → GH → Prop), R_Ta_readAtom th p0 g K → MetA Γ E.2.1 yX6_readAtom cX6_readAtom 4 (some (.boolean)) f_Ta_readAtom l_Ta_readAtom [.ref th, .int p0] g (fun r g' => ∃ x, r = some (.int x) ∧ K x g')) {f_Ta_readSum l_Ta_readSum : Nat} (hR_Ta_readSum : (f_Ta_readSum + 1 ≤ fr ∧ 8 + (5 + 11) + l_Ta_readSum ≤ lo) ∧ ∀ (th : Nat) (p0 : Int32) g (K : Int32 → GH → Prop), R_Ta_readSum th p0 g K → MetA Γ E.2.1 yX6_readSum cX6_readSum 5 (some (.boolean)) f_Ta_readSum l_Ta_readSum [.ref th, .int p0] g (fun r g' => ∃ x, r = some (.int x) ∧ K x g'))  (g : GH) (h : B_Ta_readAtom_94 Γ R_PV_isLetter R_Ta_readAtom R_Ta_readSum K  g) : JW Γ E 94 [none, none, none, none] [] g := by
  unfold B_Ta_readAtom_94 at h
  refine j_iconst hE (by decide +kernel : decode cX6_readAtom 94 = .ok (.iconst 0, 1)) (v := (0 : Int32)) (by decide) ?_
  exact S_Ta_readAtom_95 hE hfr hlo hR_PV_isLetter hR_Ta_readAtom hR_Ta_readSum _ _ h
set_option maxRecDepth 100000 in
def B_Ta_readAtom_47 (Γ : GAM) (R_PV_isLetter : Int32 → GH → (Int32 → GH → Prop) → Prop) (R_Ta_readAtom : Nat → Int32 → GH → (Int32 → GH → Prop) → Prop) (R_Ta_readSum : Nat → Int32 → GH → (Int32 → GH → Prop) → Prop) (K : Int32 → GH → Prop) (l0 : Nat) (l1 : Int32) (l2 : Int32) (g : GH) : Prop :=
  ((l1 < (8 : Int32) → Kd g l0 = 8 ∧ Kd g l0 = 8 ∧ ∀ g1 : GH, g1 = sI g 903 l0 ((Gi g 903 l0) + (1 : Int32)) → ((¬ (l2 = (91 : Int32)) → Kd g1 l0 = 8 ∧ R_Ta_readAtom l0 (l1 + (1 : Int32)) g1 (fun (x3 : Int32) (g2 : GH) => Kd g2 l0 = 8 ∧ Sp_Ta_write Γ l0 (-126 : Int32) g2 (fun (g4 : GH) => ((x3 = 0 ∨ x3 = 1) ∧ K x3 g4)))) ∧ (l2 = (91 : Int32) → Kd g1 l0 = 8 ∧ R_Ta_readSum l0 (l1 + (1 : Int32)) g1 (fun (x6 : Int32) (g5 : GH) => ((x6 = 0 → B_Ta_readAtom_94 Γ R_PV_isLetter R_Ta_readAtom R_Ta_readSum K g5) ∧ (¬ (x6 = 0) → Kd g5 l0 = 8 ∧ Sp_Ta_takes Γ l0 (93 : Int32) g5 (fun (x8 : Int32) (g7 : GH) => ((x8 = 0 → B_Ta_readAtom_94 Γ R_PV_isLetter R_Ta_readAtom R_Ta_readSum K g7) ∧ (¬ (x8 = 0) → B_Ta_readAtom_95 Γ R_PV_isLetter R_Ta_readAtom R_Ta_readSum K (1 : Int32) g7))))))))) ∧ (¬ (l1 < (8 : Int32)) → K (0 : Int32) g))
set_option maxHeartbeats 4000000 in
set_option maxRecDepth 100000 in
theorem S_Ta_readAtom_47 {Γ : GAM} {E : EV} {fr lo : Nat} {K : Int32 → GH → Prop} (hE : GE Γ E cX6_readAtom 4 RX6 (some (.boolean)) fr lo (fun r g' => ∃ x, r = some (.int x) ∧ K x g')) (hfr : 2 ≤ fr) (hlo : 44 ≤ lo) {R_PV_isLetter : Int32 → GH → (Int32 → GH → Prop) → Prop} {R_Ta_readAtom : Nat → Int32 → GH → (Int32 → GH → Prop) → Prop} {R_Ta_readSum : Nat → Int32 → GH → (Int32 → GH → Prop) → Prop} {f_PV_isLetter l_PV_isLetter : Nat} (hR_PV_isLetter : (f_PV_isLetter + 1 ≤ fr ∧ 8 + (1 + 11) + l_PV_isLetter ≤ lo) ∧ ∀ (p0 : Int32) g (K : Int32 → GH → Prop), R_PV_isLetter p0 g K → MetA Γ E.2.1 yX10_isLetter cX10_isLetter 1 (some (.boolean)) f_PV_isLetter l_PV_isLetter [.int p0] g (fun r g' => ∃ x, r = some (.int x) ∧ K x g')) {f_Ta_readAtom l_Ta_readAtom : Nat} (hR_Ta_readAtom : (f_Ta_readAtom + 1 ≤ fr ∧ 8 + (4 + 11) + l_Ta_readAtom ≤ lo) ∧ ∀ (th : Nat) (p0 : Int32) g (K : Int32 → GH → Prop), R_Ta_readAtom th p0 g K → MetA Γ E.2.1 yX6_readAtom cX6_readAtom 4 (some (.boolean)) f_Ta_readAtom l_Ta_readAtom [.ref th, .int p0] g (fun r g' => ∃ x, r = some (.int x) ∧ K x g')) {f_Ta_readSum l_Ta_readSum : Nat} (hR_Ta_readSum : (f_Ta_readSum + 1 ≤ fr ∧ 8 + (5 + 11) + l_Ta_readSum ≤ lo) ∧ ∀ (th : Nat) (p0 : Int32) g (K : Int32 → GH → Prop), R_Ta_readSum th p0 g K → MetA Γ E.2.1 yX6_readSum cX6_readSum 5 (some (.boolean)) f_Ta_readSum l_Ta_readSum [.ref th, .int p0] g (fun r g' => ∃ x, r = some (.int x) ∧ K x g')) (l0 : Nat) (l1 : Int32) (l2 : Int32) (g : GH) (h : B_Ta_readAtom_47 Γ R_PV_isLetter R_Ta_readAtom R_Ta_readSum K l0 l1 l2 g) : JW Γ E 47 [some (.ref l0), some (.int l1), some (.int l2), none] [] g := by
  unfold B_Ta_readAtom_47 at h
  refine j_iload_n hE (by decide +kernel : decode cX6_readAtom 47 = .ok (.iload_n 1, 1)) rfl rfl ?_
  refine j_bipush hE (by decide +kernel : decode cX6_readAtom 48 = .ok (.bipush 8, 2)) (v := (8 : Int32)) (by decide) ?_
  refine j_icmp_lt hE (by decide +kernel : decode cX6_readAtom 50 = .ok (.if_icmp .lt 5, 3)) (tgt := 55) (by decide) (fun q => ?_) (fun q => ?_)
  · replace h := h.1 q
    refine j_aload_n hE (by decide +kernel : decode cX6_readAtom 55 = .ok (.aload_n 0, 1)) rfl rfl ?_
    refine j_dup hE (by decide +kernel : decode cX6_readAtom 56 = .ok (.dup, 1)) rfl ?_
    obtain ⟨hk, h⟩ := h
    refine j_getI hE fg_X6_28 hk (by decide +kernel : decode cX6_readAtom 57 = .ok (.getfield 28, 3)) ?_
    refine j_iconst hE (by decide +kernel : decode cX6_readAtom 60 = .ok (.iconst 1, 1)) (v := (1 : Int32)) (by decide) ?_
    refine j_iadd hE (by decide +kernel : decode cX6_readAtom 61 = .ok (.iadd, 1)) ?_
    obtain ⟨hk, h⟩ := h
    obtain ⟨g1, hg⟩ : ∃ z, z = sI g 903 l0 ((Gi g 903 l0) + (1 : Int32)) := ⟨_, rfl⟩; replace h := h g1 hg
    refine j_putI hE fa_X6_28 hk (fun q => by cases q) (by decide +kernel : decode cX6_readAtom 62 = .ok (.putfield 28, 3)) ?_
    rw [← hg]
    refine j_iload_n hE (by decide +kernel : decode cX6_readAtom 65 = .ok (.iload_n 2, 1)) rfl rfl ?_
    refine j_bipush hE (by decide +kernel : decode cX6_readAtom 66 = .ok (.bipush 91, 2)) (v := (91 : Int32)) (by decide) ?_
    refine j_icmp_ne hE (by decide +kernel : decode cX6_readAtom 68 = .ok (.if_icmp .ne 28, 3)) (tgt := 96) (by decide) (fun q => ?_) (fun q => ?_)
    · replace h := h.1 q
      refine j_aload_n hE (by decide +kernel : decode cX6_readAtom 96 = .ok (.aload_n 0, 1)) rfl rfl ?_
      refine j_iload_n hE (by decide +kernel : decode cX6_readAtom 97 = .ok (.iload_n 1, 1)) rfl rfl ?_
      refine j_iconst hE (by decide +kernel : decode cX6_readAtom 98 = .ok (.iconst 1, 1)) (v := (1 : Int32)) (by decide) ?_
      refine j_iadd hE (by decide +kernel : decode cX6_readAtom 99 = .ok (.iadd, 1)) ?_
      obtain ⟨hk, h⟩ := h
      refine j_callV hE rfl cl_X6_77 cf_7 im_X6_readAtom se_X6_readAtom hR_Ta_readAtom.1 (As := [.int (l1 + (1 : Int32))]) (rest := []) rfl rfl (Nat.le_of_ble_eq_true rfl) hk (by decide +kernel : decode cX6_readAtom 100 = .ok (.invokevirtual 77, 3)) (hR_Ta_readAtom.2 _ _ _ _ h) ?_
      rintro _ g2 ⟨x3, rfl, h⟩
      refine j_istore_n hE (by decide +kernel : decode cX6_readAtom 103 = .ok (.istore_n 3, 1)) rfl (Nat.le_of_ble_eq_true rfl) rfl ?_
      refine j_aload_n hE (by decide +kernel : decode cX6_readAtom 104 = .ok (.aload_n 0, 1)) rfl rfl ?_
      refine j_bipush hE (by decide +kernel : decode cX6_readAtom 105 = .ok (.bipush (-126), 2)) (v := (-126 : Int32)) (by decide) ?_
      obtain ⟨hk, h⟩ := h
      refine j_callV hE rfl cl_X6_64 cf_7 im_X6_write se_X6_write ⟨by omega, by omega⟩ (As := [.int (-126 : Int32)]) (rest := []) rfl rfl (Nat.le_of_ble_eq_true rfl) hk (by decide +kernel : decode cX6_readAtom 107 = .ok (.invokevirtual 64, 3)) (mt_Ta_write _ _ _ _ h) ?_
      rintro _ g4 ⟨rfl, h⟩
      refine j_iload_n hE (by decide +kernel : decode cX6_readAtom 110 = .ok (.iload_n 3, 1)) rfl rfl ?_
      exact j_zret hE h.1 (by decide +kernel : decode cX6_readAtom 111 = .ok (.ireturn, 1)) ⟨_, rfl, h.2⟩
    · replace h := h.2 q
      refine j_aload_n hE (by decide +kernel : decode cX6_readAtom 71 = .ok (.aload_n 0, 1)) rfl rfl ?_
      refine j_iload_n hE (by decide +kernel : decode cX6_readAtom 72 = .ok (.iload_n 1, 1)) rfl rfl ?_
      refine j_iconst hE (by decide +kernel : decode cX6_readAtom 73 = .ok (.iconst 1, 1)) (v := (1 : Int32)) (by decide) ?_
      refine j_iadd hE (by decide +kernel : decode cX6_readAtom 74 = .ok (.iadd, 1)) ?_
      obtain ⟨hk, h⟩ := h
      refine j_callV hE rfl cl_X6_58 cf_7 im_X6_readSum se_X6_readSum hR_Ta_readSum.1 (As := [.int (l1 + (1 : Int32))]) (rest := []) rfl rfl (Nat.le_of_ble_eq_true rfl) hk (by decide +kernel : decode cX6_readAtom 75 = .ok (.invokevirtual 58, 3)) (hR_Ta_readSum.2 _ _ _ _ h) ?_
      rintro _ g5 ⟨x6, rfl, h⟩
      refine j_if_eq hE (by decide +kernel : decode cX6_readAtom 78 = .ok (.ifCond .eq 16, 3)) (tgt := 94) (by decide) (fun q => ?_) (fun q => ?_)
      · replace h := h.1 q
        refine j_weak [none, none, none, none] trivial ?_
        exact S_Ta_readAtom_94 hE hfr hlo hR_PV_isLetter hR_Ta_readAtom hR_Ta_readSum _ h
      · replace h := h.2 q
        refine j_aload_n hE (by decide +kernel : decode cX6_readAtom 81 = .ok (.aload_n 0, 1)) rfl rfl ?_
        refine j_bipush hE (by decide +kernel : decode cX6_readAtom 82 = .ok (.bipush 93, 2)) (v := (93 : Int32)) (by decide) ?_
        obtain ⟨hk, h⟩ := h
        refine j_callV hE rfl cl_X6_41 cf_7 im_X6_takes se_X6_takes ⟨by omega, by omega⟩ (As := [.int (93 : Int32)]) (rest := []) rfl rfl (Nat.le_of_ble_eq_true rfl) hk (by decide +kernel : decode cX6_readAtom 84 = .ok (.invokevirtual 41, 3)) (mt_Ta_takes _ _ _ _ h) ?_
        rintro _ g7 ⟨x8, rfl, h⟩
        refine j_if_eq hE (by decide +kernel : decode cX6_readAtom 87 = .ok (.ifCond .eq 7, 3)) (tgt := 94) (by decide) (fun q => ?_) (fun q => ?_)
        · replace h := h.1 q
          refine j_weak [none, none, none, none] trivial ?_
          exact S_Ta_readAtom_94 hE hfr hlo hR_PV_isLetter hR_Ta_readAtom hR_Ta_readSum _ h
        · replace h := h.2 q
          refine j_iconst hE (by decide +kernel : decode cX6_readAtom 90 = .ok (.iconst 1, 1)) (v := (1 : Int32)) (by decide) ?_
          refine j_goto hE (by decide +kernel : decode cX6_readAtom 91 = .ok (.goto 4, 3)) (tgt := 95) (by decide) ?_
          refine j_weak [none, none, none, none] trivial ?_
          exact S_Ta_readAtom_95 hE hfr hlo hR_PV_isLetter hR_Ta_readAtom hR_Ta_readSum _ _ h
  · replace h := h.2 q
    refine j_iconst hE (by decide +kernel : decode cX6_readAtom 53 = .ok (.iconst 0, 1)) (v := (0 : Int32)) (by decide) ?_
    exact j_zret hE (Or.inl rfl) (by decide +kernel : decode cX6_readAtom 54 = .ok (.ireturn, 1)) ⟨_, rfl, h⟩
set_option maxRecDepth 100000 in
def B_Ta_readAtom_0 (Γ : GAM) (R_PV_isLetter : Int32 → GH → (Int32 → GH → Prop) → Prop) (R_Ta_readAtom : Nat → Int32 → GH → (Int32 → GH → Prop) → Prop) (R_Ta_readSum : Nat → Int32 → GH → (Int32 → GH → Prop) → Prop) (K : Int32 → GH → Prop) (th : Nat) (p0 : Int32) (g : GH) : Prop :=
  Kd g th = 8 ∧ Sp_Ta_nextSign Γ th g (fun (x2 : Int32) (g1 : GH) => R_PV_isLetter x2 g1 (fun (x4 : Int32) (g3 : GH) => ((x4 = 0 → ((x2 = (91 : Int32) → B_Ta_readAtom_47 Γ R_PV_isLetter R_Ta_readAtom R_Ta_readSum K th p0 x2 g3) ∧ (¬ (x2 = (91 : Int32)) → ((x2 = (45 : Int32) → B_Ta_readAtom_47 Γ R_PV_isLetter R_Ta_readAtom R_Ta_readSum K th p0 x2 g3) ∧ (¬ (x2 = (45 : Int32)) → Kd g3 th = 8 ∧ Sp_Ta_readNumber Γ th g3 (fun (x6 : Int32) (g5 : GH) => ((x6 = 0 ∨ x6 = 1) ∧ K x6 g5))))))) ∧ (¬ (x4 = 0) → Kd g3 th = 8 ∧ Kd g3 th = 8 ∧ ∀ g7 : GH, g7 = sI g3 903 th ((Gi g3 903 th) + (1 : Int32)) → Kd g7 th = 8 ∧ Sp_Ta_write Γ th (-x2) g7 (fun (g8 : GH) => K (1 : Int32) g8)))))
set_option maxHeartbeats 4000000 in
set_option maxRecDepth 100000 in
theorem S_Ta_readAtom_0 {Γ : GAM} {E : EV} {fr lo : Nat} {K : Int32 → GH → Prop} (hE : GE Γ E cX6_readAtom 4 RX6 (some (.boolean)) fr lo (fun r g' => ∃ x, r = some (.int x) ∧ K x g')) (hfr : 2 ≤ fr) (hlo : 44 ≤ lo) {R_PV_isLetter : Int32 → GH → (Int32 → GH → Prop) → Prop} {R_Ta_readAtom : Nat → Int32 → GH → (Int32 → GH → Prop) → Prop} {R_Ta_readSum : Nat → Int32 → GH → (Int32 → GH → Prop) → Prop} {f_PV_isLetter l_PV_isLetter : Nat} (hR_PV_isLetter : (f_PV_isLetter + 1 ≤ fr ∧ 8 + (1 + 11) + l_PV_isLetter ≤ lo) ∧ ∀ (p0 : Int32) g (K : Int32 → GH → Prop), R_PV_isLetter p0 g K → MetA Γ E.2.1 yX10_isLetter cX10_isLetter 1 (some (.boolean)) f_PV_isLetter l_PV_isLetter [.int p0] g (fun r g' => ∃ x, r = some (.int x) ∧ K x g')) {f_Ta_readAtom l_Ta_readAtom : Nat} (hR_Ta_readAtom : (f_Ta_readAtom + 1 ≤ fr ∧ 8 + (4 + 11) + l_Ta_readAtom ≤ lo) ∧ ∀ (th : Nat) (p0 : Int32) g (K : Int32 → GH → Prop), R_Ta_readAtom th p0 g K → MetA Γ E.2.1 yX6_readAtom cX6_readAtom 4 (some (.boolean)) f_Ta_readAtom l_Ta_readAtom [.ref th, .int p0] g (fun r g' => ∃ x, r = some (.int x) ∧ K x g')) {f_Ta_readSum l_Ta_readSum : Nat} (hR_Ta_readSum : (f_Ta_readSum + 1 ≤ fr ∧ 8 + (5 + 11) + l_Ta_readSum ≤ lo) ∧ ∀ (th : Nat) (p0 : Int32) g (K : Int32 → GH → Prop), R_Ta_readSum th p0 g K → MetA Γ E.2.1 yX6_readSum cX6_readSum 5 (some (.boolean)) f_Ta_readSum l_Ta_readSum [.ref th, .int p0] g (fun r g' => ∃ x, r = some (.int x) ∧ K x g')) (th : Nat) (p0 : Int32) (g : GH) (h : B_Ta_readAtom_0 Γ R_PV_isLetter R_Ta_readAtom R_Ta_readSum K th p0 g) : JW Γ E 0 [some (.ref th), some (.int p0), none, none] [] g := by
  unfold B_Ta_readAtom_0 at h
  refine j_aload_n hE (by decide +kernel : decode cX6_readAtom 0 = .ok (.aload_n 0, 1)) rfl rfl ?_
  obtain ⟨hk, h⟩ := h
  refine j_callV hE rfl cl_X6_45 cf_7 im_X6_nextSign se_X6_nextSign ⟨by omega, by omega⟩ (As := []) (rest := []) rfl rfl (Nat.le_of_ble_eq_true rfl) hk (by decide +kernel : decode cX6_readAtom 1 = .ok (.invokevirtual 45, 3)) (mt_Ta_nextSign _ _ _ h) ?_
  rintro _ g1 ⟨x2, rfl, h⟩
  refine j_istore_n hE (by decide +kernel : decode cX6_readAtom 4 = .ok (.istore_n 2, 1)) rfl (Nat.le_of_ble_eq_true rfl) rfl ?_
  refine j_iload_n hE (by decide +kernel : decode cX6_readAtom 5 = .ok (.iload_n 2, 1)) rfl rfl ?_
  refine j_callSN hE rfl cl_X6_80 st_X10_isLetter hR_PV_isLetter.1 (As := [.int x2]) (rest := []) rfl rfl (Nat.le_of_ble_eq_true rfl) (by decide +kernel : decode cX6_readAtom 6 = .ok (.invokestatic 80, 3)) (hR_PV_isLetter.2 _ _ _ h) ?_
  rintro _ g3 ⟨x4, rfl, h⟩
  refine j_if_eq hE (by decide +kernel : decode cX6_readAtom 9 = .ok (.ifCond .eq 21, 3)) (tgt := 30) (by decide) (fun q => ?_) (fun q => ?_)
  · replace h := h.1 q
    refine j_iload_n hE (by decide +kernel : decode cX6_readAtom 30 = .ok (.iload_n 2, 1)) rfl rfl ?_
    refine j_bipush hE (by decide +kernel : decode cX6_readAtom 31 = .ok (.bipush 91, 2)) (v := (91 : Int32)) (by decide) ?_
    refine j_icmp_eq hE (by decide +kernel : decode cX6_readAtom 33 = .ok (.if_icmp .eq 14, 3)) (tgt := 47) (by decide) (fun q => ?_) (fun q => ?_)
    · replace h := h.1 q
      exact S_Ta_readAtom_47 hE hfr hlo hR_PV_isLetter hR_Ta_readAtom hR_Ta_readSum _ _ _ _ h
    · replace h := h.2 q
      refine j_iload_n hE (by decide +kernel : decode cX6_readAtom 36 = .ok (.iload_n 2, 1)) rfl rfl ?_
      refine j_bipush hE (by decide +kernel : decode cX6_readAtom 37 = .ok (.bipush 45, 2)) (v := (45 : Int32)) (by decide) ?_
      refine j_icmp_eq hE (by decide +kernel : decode cX6_readAtom 39 = .ok (.if_icmp .eq 8, 3)) (tgt := 47) (by decide) (fun q => ?_) (fun q => ?_)
      · replace h := h.1 q
        exact S_Ta_readAtom_47 hE hfr hlo hR_PV_isLetter hR_Ta_readAtom hR_Ta_readSum _ _ _ _ h
      · replace h := h.2 q
        refine j_aload_n hE (by decide +kernel : decode cX6_readAtom 42 = .ok (.aload_n 0, 1)) rfl rfl ?_
        obtain ⟨hk, h⟩ := h
        refine j_callV hE rfl cl_X6_55 cf_7 im_X6_readNumber se_X6_readNumber ⟨by omega, by omega⟩ (As := []) (rest := []) rfl rfl (Nat.le_of_ble_eq_true rfl) hk (by decide +kernel : decode cX6_readAtom 43 = .ok (.invokevirtual 55, 3)) (mt_Ta_readNumber _ _ _ h) ?_
        rintro _ g5 ⟨x6, rfl, h⟩
        exact j_zret hE h.1 (by decide +kernel : decode cX6_readAtom 46 = .ok (.ireturn, 1)) ⟨_, rfl, h.2⟩
  · replace h := h.2 q
    refine j_aload_n hE (by decide +kernel : decode cX6_readAtom 12 = .ok (.aload_n 0, 1)) rfl rfl ?_
    refine j_dup hE (by decide +kernel : decode cX6_readAtom 13 = .ok (.dup, 1)) rfl ?_
    obtain ⟨hk, h⟩ := h
    refine j_getI hE fg_X6_28 hk (by decide +kernel : decode cX6_readAtom 14 = .ok (.getfield 28, 3)) ?_
    refine j_iconst hE (by decide +kernel : decode cX6_readAtom 17 = .ok (.iconst 1, 1)) (v := (1 : Int32)) (by decide) ?_
    refine j_iadd hE (by decide +kernel : decode cX6_readAtom 18 = .ok (.iadd, 1)) ?_
    obtain ⟨hk, h⟩ := h
    obtain ⟨g7, hg⟩ : ∃ z, z = sI g3 903 th ((Gi g3 903 th) + (1 : Int32)) := ⟨_, rfl⟩; replace h := h g7 hg
    refine j_putI hE fa_X6_28 hk (fun q => by cases q) (by decide +kernel : decode cX6_readAtom 19 = .ok (.putfield 28, 3)) ?_
    rw [← hg]
    refine j_aload_n hE (by decide +kernel : decode cX6_readAtom 22 = .ok (.aload_n 0, 1)) rfl rfl ?_
    refine j_iload_n hE (by decide +kernel : decode cX6_readAtom 23 = .ok (.iload_n 2, 1)) rfl rfl ?_
    refine j_ineg hE (by decide +kernel : decode cX6_readAtom 24 = .ok (.ineg, 1)) ?_
    obtain ⟨hk, h⟩ := h
    refine j_callV hE rfl cl_X6_64 cf_7 im_X6_write se_X6_write ⟨by omega, by omega⟩ (As := [.int (-x2)]) (rest := []) rfl rfl (Nat.le_of_ble_eq_true rfl) hk (by decide +kernel : decode cX6_readAtom 25 = .ok (.invokevirtual 64, 3)) (mt_Ta_write _ _ _ _ h) ?_
    rintro _ g8 ⟨rfl, h⟩
    refine j_iconst hE (by decide +kernel : decode cX6_readAtom 28 = .ok (.iconst 1, 1)) (v := (1 : Int32)) (by decide) ?_
    exact j_zret hE (Or.inr rfl) (by decide +kernel : decode cX6_readAtom 29 = .ok (.ireturn, 1)) ⟨_, rfl, h⟩
set_option maxHeartbeats 4000000 in
set_option maxRecDepth 100000 in
theorem rl_Ta_readAtom {Γ : GAM} {l : Launch} {fr lo : Nat} (hfr : 2 ≤ fr) (hlo : 44 ≤ lo) {R_PV_isLetter : Int32 → GH → (Int32 → GH → Prop) → Prop} {R_Ta_readAtom : Nat → Int32 → GH → (Int32 → GH → Prop) → Prop} {R_Ta_readSum : Nat → Int32 → GH → (Int32 → GH → Prop) → Prop} {f_PV_isLetter l_PV_isLetter : Nat} (hR_PV_isLetter : (f_PV_isLetter + 1 ≤ fr ∧ 8 + (1 + 11) + l_PV_isLetter ≤ lo) ∧ ∀ (p0 : Int32) g (K : Int32 → GH → Prop), R_PV_isLetter p0 g K → MetA Γ l yX10_isLetter cX10_isLetter 1 (some (.boolean)) f_PV_isLetter l_PV_isLetter [.int p0] g (fun r g' => ∃ x, r = some (.int x) ∧ K x g')) {f_Ta_readAtom l_Ta_readAtom : Nat} (hR_Ta_readAtom : (f_Ta_readAtom + 1 ≤ fr ∧ 8 + (4 + 11) + l_Ta_readAtom ≤ lo) ∧ ∀ (th : Nat) (p0 : Int32) g (K : Int32 → GH → Prop), R_Ta_readAtom th p0 g K → MetA Γ l yX6_readAtom cX6_readAtom 4 (some (.boolean)) f_Ta_readAtom l_Ta_readAtom [.ref th, .int p0] g (fun r g' => ∃ x, r = some (.int x) ∧ K x g')) {f_Ta_readSum l_Ta_readSum : Nat} (hR_Ta_readSum : (f_Ta_readSum + 1 ≤ fr ∧ 8 + (5 + 11) + l_Ta_readSum ≤ lo) ∧ ∀ (th : Nat) (p0 : Int32) g (K : Int32 → GH → Prop), R_Ta_readSum th p0 g K → MetA Γ l yX6_readSum cX6_readSum 5 (some (.boolean)) f_Ta_readSum l_Ta_readSum [.ref th, .int p0] g (fun r g' => ∃ x, r = some (.int x) ∧ K x g')) {th : Nat} {p0 : Int32} {g : GH} {K : Int32 → GH → Prop} (h0 : B_Ta_readAtom_0 Γ R_PV_isLetter R_Ta_readAtom R_Ta_readSum K th p0 g) : MetA Γ l yX6_readAtom cX6_readAtom 4 (some (.boolean)) fr lo [.ref th, .int p0] g (fun r g' => ∃ x, r = some (.int x) ∧ K x g') := by
  refine MetA.introL (Lx := [some (.ref th), some (.int p0), none, none]) (by decide) (Nat.le_of_ble_eq_true rfl) rfl rfl ?_
  intro E hEl hE hnm
  have hR_PV_isLetter := hR_PV_isLetter; rw [← hEl] at hR_PV_isLetter
  have hR_Ta_readAtom := hR_Ta_readAtom; rw [← hEl] at hR_Ta_readAtom
  have hR_Ta_readSum := hR_Ta_readSum; rw [← hEl] at hR_Ta_readSum
  exact S_Ta_readAtom_0 hE hfr hlo hR_PV_isLetter hR_Ta_readAtom hR_Ta_readSum th p0 g h0
theorem mz_readAtom {Γ : GAM} {l : Launch} {r : Nat} (hr : r ≤ 8) {fL lL f' l' : Nat} (hL : ∀ (p0 : Int32) (g : GH) (K : Int32 → GH → Prop), SpLt Γ p0 g K → MetA Γ l yX10_isLetter cX10_isLetter 1 (some (.boolean)) fL lL [.int p0] g (fun r g' => ∃ x, r = some (.int x) ∧ K x g')) (hA : ∀ (th : Nat) (p0 : Int32) (g : GH) (K : Int32 → GH → Prop), SpZo (fun t r => pAt t r) r Γ th p0 g K → MetA Γ l yX6_readAtom cX6_readAtom 4 (some (.boolean)) f' l' [.ref th, .int p0] g (fun r g' => ∃ x, r = some (.int x) ∧ K x g')) (hSm : ∀ (th : Nat) (p0 : Int32) (g : GH) (K : Int32 → GH → Prop), SpZo (fun t r => pSm t (pAt t r)) r Γ th p0 g K → MetA Γ l yX6_readSum cX6_readSum 5 (some (.boolean)) f' l' [.ref th, .int p0] g (fun r g' => ∃ x, r = some (.int x) ∧ K x g'))
    (f lo : Nat) (hf : f' + 1 ≤ f) (hf2 : fL + 1 ≤ f) (hf3 : 3 ≤ f) (hlo : 60 + l' ≤ lo) (hlo2 : 60 + lL ≤ lo) (th : Nat) (p0 : Int32) (g : GH) (K : Int32 → GH → Prop) (h : SpZ (fun t => pAt t r) r Γ th p0 g K) : MetA Γ l yX6_readAtom cX6_readAtom 4 (some (.boolean)) f lo [.ref th, .int p0] g (fun r g' => ∃ x, r = some (.int x) ∧ K x g') := by
  obtain ⟨hd, t, p, ws, hN, hwp, hK⟩ := h
  have hT := hN.1.2.2.1
  have hpl := hN.2.2.1
  have gg1 := skp_ge t p
  have gg2 := skp_le hpl
  have haf : pAt t r = aF t (pOpt (pAt t) r) := by cases r <;> rfl
  refine rl_Ta_readAtom (R_PV_isLetter := SpLt Γ) (f_PV_isLetter := fL) (l_PV_isLetter := lL) (R_Ta_readAtom := SpZo (fun t r => pAt t r) r Γ) (R_Ta_readSum := SpZo (fun t r => pSm t (pAt t r)) r Γ) (f_Ta_readAtom := f') (l_Ta_readAtom := l') (f_Ta_readSum := f') (l_Ta_readSum := l') (by omega) (by omega) ⟨⟨hf2, by omega⟩, hL⟩ ⟨⟨hf, by omega⟩, hA⟩ ⟨⟨hf, by omega⟩, hSm⟩ ?_
  unfold B_Ta_readAtom_0
  refine ⟨hN.1.1.1, t, p, ws, hN, fun g1 hx1 hN1 => ⟨sg_bd hN.1.2.2.2.2, ?_⟩⟩
  have hkd1 := hN1.1.1.1
  have hK1 : ∀ b g', FrX th [903, 899] [898] g g' → TO th g' t ws (aF t (pOpt (pAt t) r) p) b → K b g' := fun b g' hx hO => hK b g' hx (by simp only; rw [haf]; exact hO)
  unfold aF at hK1
  have hpn : pNm t p = pNm t (skp t p) := by unfold pNm; rw [skp_i]
  rw [hpn] at hK1
  obtain ⟨q0, hq0⟩ : ∃ q0, skp t p = q0 := ⟨_, rfl⟩
  rw [hq0] at gg1 gg2 hN1 hK1
  rw [hq0]
  show ((if okLt (sg t q0) then (1 : Int32) else 0) = 0 → _) ∧ (¬ ((if okLt (sg t q0) then (1 : Int32) else 0) = 0) → _)
  have h47 : ∀ c, ¬ okLt (chr t q0) → chr t q0 = c → (c = 91 ∨ c = 45) → B_Ta_readAtom_47 Γ (SpLt Γ) (SpZo (fun t r => pAt t r) r Γ) (SpZo (fun t r => pSm t (pAt t r)) r Γ) K th p0 c g1 := fun c hl hc h2 => by
    have hlt : q0 < t.length := chr_in (by rw [hc]; rcases h2 with rfl | rfl <;> decide)
    unfold B_Ta_readAtom_47
    rw [if_neg hl, hc] at hK1
    rw [hd, dp_lt hr]
    obtain ⟨y1, y2⟩ := hN1.at (q := q0 + 1) hlt
    rw [← nj_s, ← hN1.2.1] at y1 y2
    refine ⟨fun hr0 => ⟨hkd1, hkd1, ?_⟩, fun hr0 => hK1 0 g1 hx1 ?_⟩
    · obtain ⟨r', rfl⟩ : ∃ r', r = r' + 1 := ⟨r - 1, by omega⟩
      have ho : pOpt (pAt t) (r' + 1) = some (pAt t r') := rfl
      rw [ho] at hK1
      rw [dp_s hr]
      rintro g2 rfl
      refine ⟨fun hc2 => ⟨y1.1.1.1, rfl, t, q0 + 1, ws, y1, by omega, fun b3 g3 hx3 hO3 => ⟨hO3.kd, ?_⟩⟩, fun hc2 => ⟨y1.1.1.1, rfl, t, q0 + 1, ws, y1, by omega, fun b3 g3 hx3 hO3 => ?_⟩⟩
      · refine hO3.wr (fun p2 w2 hr2 => ?_) _ (fun g5 hx5 hO5 => ⟨hO3.b, hK1 b3 g5 (hx1.tr (y2.tr (hx3.tr hx5))) ?_⟩)
        · have := pAt_ok t r' (q0 + 1) hlt
          simp only at hr2
          rw [hr2] at this
          obtain ⟨k1, k2, k3, _, _⟩ := this
          rw [List.length_append]; omega
        · rw [if_neg hc2, if_pos (h2.resolve_left hc2)]
          exact hO5
      · rw [if_pos hc2] at hK1
        unfold B_Ta_readAtom_94 B_Ta_readAtom_95
        exact hO3.close (K := fun s g => (s = 0 ∨ s = 1) ∧ K s g) (by decide) (by decide) (fun b g' hx hO => ⟨hO.b, hK1 b g' (hx1.tr (y2.tr (hx3.tr hx))) hO⟩)
    · have hr0' : r = 0 := by omega
      subst hr0'
      have ho : pOpt (pAt t) 0 = none := rfl
      rw [ho]
      rcases h2 with rfl | rfl
      · exact ⟨rfl, _, hN1⟩
      · exact ⟨rfl, _, hN1⟩
  refine ⟨fun u => ?_, fun u => ?_⟩
  · have hl : ¬ okLt (chr t q0) := fun z => by rw [if_pos (sg_lt.mpr z)] at u; exact absurd u (by decide)
    refine ⟨fun u2 => ?_, fun u2 => ⟨fun u3 => ?_, fun u3 => ⟨hkd1, t, q0, ws, hN1, by omega, fun b5 g5 hx5 hO5 => ⟨hO5.b, ?_⟩⟩⟩⟩
    · rw [u2]; exact h47 91 hl ((sg_eq (by decide) (by decide)).mp u2) (.inl rfl)
    · rw [u3]; exact h47 45 hl ((sg_eq (by decide) (by decide)).mp u3) (.inr rfl)
    · refine hK1 b5 g5 (hx1.tr hx5) ?_
      rw [if_neg hl, if_neg (fun z => u2 ((sg_eq (by decide) (by decide)).mpr z)), if_neg (fun z => u3 ((sg_eq (by decide) (by decide)).mpr z))]
      exact hO5
  · have hl : okLt (chr t q0) := sg_lt.mp (Classical.byContradiction (fun z => u (if_neg z)))
    have hlt : q0 < t.length := chr_in (fun q => by rw [q] at hl; exact absurd hl (by decide))
    rw [if_pos hl] at hK1
    refine ⟨hkd1, hkd1, ?_⟩
    rintro g7 rfl
    obtain ⟨y1, y2⟩ := hN1.at (q := q0 + 1) hlt
    rw [← nj_s, ← hN1.2.1] at y1 y2
    rw [sg_n hlt]
    refine ⟨y1.1.1.1, t, q0 + 1, ws, y1, fun g8 ws' hx8 hN8 hw => hK1 1 g8 (hx1.tr (y2.tr hx8)) ⟨rfl, ?_⟩⟩
    rw [hw (by omega)] at hN8
    exact hN8
-- the walk of Ta_readComparison
set_option maxRecDepth 100000 in
def B_Ta_readComparison_41 (Γ : GAM) (R_Ta_readSum : Nat → Int32 → GH → (Int32 → GH → Prop) → Prop) (K : Int32 → GH → Prop) (l0 : Nat) (l1 : Int32) (l2 : Int32) (g : GH) : Prop :=
  Kd g l0 = 8 ∧ Kd g l0 = 8 ∧ ∀ g1 : GH, g1 = sI g 903 l0 ((Gi g 903 l0) + (1 : Int32)) → Kd g1 l0 = 8 ∧ R_Ta_readSum l0 l1 g1 (fun (x3 : Int32) (g2 : GH) => Kd g2 l0 = 8 ∧ Sp_Ta_write Γ l0 (-l2) g2 (fun (g4 : GH) => ((x3 = 0 ∨ x3 = 1) ∧ K x3 g4)))
set_option maxHeartbeats 4000000 in
set_option maxRecDepth 100000 in
theorem S_Ta_readComparison_41 {Γ : GAM} {E : EV} {fr lo : Nat} {K : Int32 → GH → Prop} (hE : GE Γ E cX6_readComparison 4 RX6 (some (.boolean)) fr lo (fun r g' => ∃ x, r = some (.int x) ∧ K x g')) (hfr : 1 ≤ fr) (hlo : 21 ≤ lo) {R_Ta_readSum : Nat → Int32 → GH → (Int32 → GH → Prop) → Prop} {f_Ta_readSum l_Ta_readSum : Nat} (hR_Ta_readSum : (f_Ta_readSum + 1 ≤ fr ∧ 8 + (5 + 11) + l_Ta_readSum ≤ lo) ∧ ∀ (th : Nat) (p0 : Int32) g (K : Int32 → GH → Prop), R_Ta_readSum th p0 g K → MetA Γ E.2.1 yX6_readSum cX6_readSum 5 (some (.boolean)) f_Ta_readSum l_Ta_readSum [.ref th, .int p0] g (fun r g' => ∃ x, r = some (.int x) ∧ K x g')) (l0 : Nat) (l1 : Int32) (l2 : Int32) (g : GH) (h : B_Ta_readComparison_41 Γ R_Ta_readSum K l0 l1 l2 g) : JW Γ E 41 [some (.ref l0), some (.int l1), some (.int l2), none] [] g := by
  unfold B_Ta_readComparison_41 at h
  refine j_aload_n hE (by decide +kernel : decode cX6_readComparison 41 = .ok (.aload_n 0, 1)) rfl rfl ?_
  refine j_dup hE (by decide +kernel : decode cX6_readComparison 42 = .ok (.dup, 1)) rfl ?_
  obtain ⟨hk, h⟩ := h
  refine j_getI hE fg_X6_28 hk (by decide +kernel : decode cX6_readComparison 43 = .ok (.getfield 28, 3)) ?_
  refine j_iconst hE (by decide +kernel : decode cX6_readComparison 46 = .ok (.iconst 1, 1)) (v := (1 : Int32)) (by decide) ?_
  refine j_iadd hE (by decide +kernel : decode cX6_readComparison 47 = .ok (.iadd, 1)) ?_
  obtain ⟨hk, h⟩ := h
  obtain ⟨g1, hg⟩ : ∃ z, z = sI g 903 l0 ((Gi g 903 l0) + (1 : Int32)) := ⟨_, rfl⟩; replace h := h g1 hg
  refine j_putI hE fa_X6_28 hk (fun q => by cases q) (by decide +kernel : decode cX6_readComparison 48 = .ok (.putfield 28, 3)) ?_
  rw [← hg]
  refine j_aload_n hE (by decide +kernel : decode cX6_readComparison 51 = .ok (.aload_n 0, 1)) rfl rfl ?_
  refine j_iload_n hE (by decide +kernel : decode cX6_readComparison 52 = .ok (.iload_n 1, 1)) rfl rfl ?_
  obtain ⟨hk, h⟩ := h
  refine j_callV hE rfl cl_X6_58 cf_7 im_X6_readSum se_X6_readSum hR_Ta_readSum.1 (As := [.int l1]) (rest := []) rfl rfl (Nat.le_of_ble_eq_true rfl) hk (by decide +kernel : decode cX6_readComparison 53 = .ok (.invokevirtual 58, 3)) (hR_Ta_readSum.2 _ _ _ _ h) ?_
  rintro _ g2 ⟨x3, rfl, h⟩
  refine j_istore_n hE (by decide +kernel : decode cX6_readComparison 56 = .ok (.istore_n 3, 1)) rfl (Nat.le_of_ble_eq_true rfl) rfl ?_
  refine j_aload_n hE (by decide +kernel : decode cX6_readComparison 57 = .ok (.aload_n 0, 1)) rfl rfl ?_
  refine j_iload_n hE (by decide +kernel : decode cX6_readComparison 58 = .ok (.iload_n 2, 1)) rfl rfl ?_
  refine j_ineg hE (by decide +kernel : decode cX6_readComparison 59 = .ok (.ineg, 1)) ?_
  obtain ⟨hk, h⟩ := h
  refine j_callV hE rfl cl_X6_64 cf_7 im_X6_write se_X6_write ⟨by omega, by omega⟩ (As := [.int (-l2)]) (rest := []) rfl rfl (Nat.le_of_ble_eq_true rfl) hk (by decide +kernel : decode cX6_readComparison 60 = .ok (.invokevirtual 64, 3)) (mt_Ta_write _ _ _ _ h) ?_
  rintro _ g4 ⟨rfl, h⟩
  refine j_iload_n hE (by decide +kernel : decode cX6_readComparison 63 = .ok (.iload_n 3, 1)) rfl rfl ?_
  exact j_zret hE h.1 (by decide +kernel : decode cX6_readComparison 64 = .ok (.ireturn, 1)) ⟨_, rfl, h.2⟩
set_option maxRecDepth 100000 in
def B_Ta_readComparison_0 (Γ : GAM) (R_Ta_readSum : Nat → Int32 → GH → (Int32 → GH → Prop) → Prop) (K : Int32 → GH → Prop) (th : Nat) (p0 : Int32) (g : GH) : Prop :=
  Kd g th = 8 ∧ R_Ta_readSum th p0 g (fun (x2 : Int32) (g1 : GH) => ((¬ (x2 = 0) → Kd g1 th = 8 ∧ Sp_Ta_nextSign Γ th g1 (fun (x4 : Int32) (g3 : GH) => ((x4 = (61 : Int32) → B_Ta_readComparison_41 Γ R_Ta_readSum K th p0 x4 g3) ∧ (¬ (x4 = (61 : Int32)) → ((x4 = (60 : Int32) → B_Ta_readComparison_41 Γ R_Ta_readSum K th p0 x4 g3) ∧ (¬ (x4 = (60 : Int32)) → ((x4 = (62 : Int32) → B_Ta_readComparison_41 Γ R_Ta_readSum K th p0 x4 g3) ∧ (¬ (x4 = (62 : Int32)) → ((x4 = (35 : Int32) → B_Ta_readComparison_41 Γ R_Ta_readSum K th p0 x4 g3) ∧ (¬ (x4 = (35 : Int32)) → K (0 : Int32) g3)))))))))) ∧ (x2 = 0 → K (0 : Int32) g1)))
set_option maxHeartbeats 4000000 in
set_option maxRecDepth 100000 in
theorem S_Ta_readComparison_0 {Γ : GAM} {E : EV} {fr lo : Nat} {K : Int32 → GH → Prop} (hE : GE Γ E cX6_readComparison 4 RX6 (some (.boolean)) fr lo (fun r g' => ∃ x, r = some (.int x) ∧ K x g')) (hfr : 1 ≤ fr) (hlo : 21 ≤ lo) {R_Ta_readSum : Nat → Int32 → GH → (Int32 → GH → Prop) → Prop} {f_Ta_readSum l_Ta_readSum : Nat} (hR_Ta_readSum : (f_Ta_readSum + 1 ≤ fr ∧ 8 + (5 + 11) + l_Ta_readSum ≤ lo) ∧ ∀ (th : Nat) (p0 : Int32) g (K : Int32 → GH → Prop), R_Ta_readSum th p0 g K → MetA Γ E.2.1 yX6_readSum cX6_readSum 5 (some (.boolean)) f_Ta_readSum l_Ta_readSum [.ref th, .int p0] g (fun r g' => ∃ x, r = some (.int x) ∧ K x g')) (th : Nat) (p0 : Int32) (g : GH) (h : B_Ta_readComparison_0 Γ R_Ta_readSum K th p0 g) : JW Γ E 0 [some (.ref th), some (.int p0), none, none] [] g := by
  unfold B_Ta_readComparison_0 at h
  refine j_aload_n hE (by decide +kernel : decode cX6_readComparison 0 = .ok (.aload_n 0, 1)) rfl rfl ?_
  refine j_iload_n hE (by decide +kernel : decode cX6_readComparison 1 = .ok (.iload_n 1, 1)) rfl rfl ?_
  obtain ⟨hk, h⟩ := h
  refine j_callV hE rfl cl_X6_58 cf_7 im_X6_readSum se_X6_readSum hR_Ta_readSum.1 (As := [.int p0]) (rest := []) rfl rfl (Nat.le_of_ble_eq_true rfl) hk (by decide +kernel : decode cX6_readComparison 2 = .ok (.invokevirtual 58, 3)) (hR_Ta_readSum.2 _ _ _ _ h) ?_
  rintro _ g1 ⟨x2, rfl, h⟩
  refine j_if_ne hE (by decide +kernel : decode cX6_readComparison 5 = .ok (.ifCond .ne 5, 3)) (tgt := 10) (by decide) (fun q => ?_) (fun q => ?_)
  · replace h := h.1 q
    refine j_aload_n hE (by decide +kernel : decode cX6_readComparison 10 = .ok (.aload_n 0, 1)) rfl rfl ?_
    obtain ⟨hk, h⟩ := h
    refine j_callV hE rfl cl_X6_45 cf_7 im_X6_nextSign se_X6_nextSign ⟨by omega, by omega⟩ (As := []) (rest := []) rfl rfl (Nat.le_of_ble_eq_true rfl) hk (by decide +kernel : decode cX6_readComparison 11 = .ok (.invokevirtual 45, 3)) (mt_Ta_nextSign _ _ _ h) ?_
    rintro _ g3 ⟨x4, rfl, h⟩
    refine j_istore_n hE (by decide +kernel : decode cX6_readComparison 14 = .ok (.istore_n 2, 1)) rfl (Nat.le_of_ble_eq_true rfl) rfl ?_
    refine j_iload_n hE (by decide +kernel : decode cX6_readComparison 15 = .ok (.iload_n 2, 1)) rfl rfl ?_
    refine j_bipush hE (by decide +kernel : decode cX6_readComparison 16 = .ok (.bipush 61, 2)) (v := (61 : Int32)) (by decide) ?_
    refine j_icmp_eq hE (by decide +kernel : decode cX6_readComparison 18 = .ok (.if_icmp .eq 23, 3)) (tgt := 41) (by decide) (fun q => ?_) (fun q => ?_)
    · replace h := h.1 q
      exact S_Ta_readComparison_41 hE hfr hlo hR_Ta_readSum _ _ _ _ h
    · replace h := h.2 q
      refine j_iload_n hE (by decide +kernel : decode cX6_readComparison 21 = .ok (.iload_n 2, 1)) rfl rfl ?_
      refine j_bipush hE (by decide +kernel : decode cX6_readComparison 22 = .ok (.bipush 60, 2)) (v := (60 : Int32)) (by decide) ?_
      refine j_icmp_eq hE (by decide +kernel : decode cX6_readComparison 24 = .ok (.if_icmp .eq 17, 3)) (tgt := 41) (by decide) (fun q => ?_) (fun q => ?_)
      · replace h := h.1 q
        exact S_Ta_readComparison_41 hE hfr hlo hR_Ta_readSum _ _ _ _ h
      · replace h := h.2 q
        refine j_iload_n hE (by decide +kernel : decode cX6_readComparison 27 = .ok (.iload_n 2, 1)) rfl rfl ?_
        refine j_bipush hE (by decide +kernel : decode cX6_readComparison 28 = .ok (.bipush 62, 2)) (v := (62 : Int32)) (by decide) ?_
        refine j_icmp_eq hE (by decide +kernel : decode cX6_readComparison 30 = .ok (.if_icmp .eq 11, 3)) (tgt := 41) (by decide) (fun q => ?_) (fun q => ?_)
        · replace h := h.1 q
          exact S_Ta_readComparison_41 hE hfr hlo hR_Ta_readSum _ _ _ _ h
        · replace h := h.2 q
          refine j_iload_n hE (by decide +kernel : decode cX6_readComparison 33 = .ok (.iload_n 2, 1)) rfl rfl ?_
          refine j_bipush hE (by decide +kernel : decode cX6_readComparison 34 = .ok (.bipush 35, 2)) (v := (35 : Int32)) (by decide) ?_
          refine j_icmp_eq hE (by decide +kernel : decode cX6_readComparison 36 = .ok (.if_icmp .eq 5, 3)) (tgt := 41) (by decide) (fun q => ?_) (fun q => ?_)
          · replace h := h.1 q
            exact S_Ta_readComparison_41 hE hfr hlo hR_Ta_readSum _ _ _ _ h
          · replace h := h.2 q
            refine j_iconst hE (by decide +kernel : decode cX6_readComparison 39 = .ok (.iconst 0, 1)) (v := (0 : Int32)) (by decide) ?_
            exact j_zret hE (Or.inl rfl) (by decide +kernel : decode cX6_readComparison 40 = .ok (.ireturn, 1)) ⟨_, rfl, h⟩
  · replace h := h.2 q
    refine j_iconst hE (by decide +kernel : decode cX6_readComparison 8 = .ok (.iconst 0, 1)) (v := (0 : Int32)) (by decide) ?_
    exact j_zret hE (Or.inl rfl) (by decide +kernel : decode cX6_readComparison 9 = .ok (.ireturn, 1)) ⟨_, rfl, h⟩
set_option maxHeartbeats 4000000 in
set_option maxRecDepth 100000 in
theorem rl_Ta_readComparison {Γ : GAM} {l : Launch} {fr lo : Nat} (hfr : 1 ≤ fr) (hlo : 21 ≤ lo) {R_Ta_readSum : Nat → Int32 → GH → (Int32 → GH → Prop) → Prop} {f_Ta_readSum l_Ta_readSum : Nat} (hR_Ta_readSum : (f_Ta_readSum + 1 ≤ fr ∧ 8 + (5 + 11) + l_Ta_readSum ≤ lo) ∧ ∀ (th : Nat) (p0 : Int32) g (K : Int32 → GH → Prop), R_Ta_readSum th p0 g K → MetA Γ l yX6_readSum cX6_readSum 5 (some (.boolean)) f_Ta_readSum l_Ta_readSum [.ref th, .int p0] g (fun r g' => ∃ x, r = some (.int x) ∧ K x g')) {th : Nat} {p0 : Int32} {g : GH} {K : Int32 → GH → Prop} (h0 : B_Ta_readComparison_0 Γ R_Ta_readSum K th p0 g) : MetA Γ l yX6_readComparison cX6_readComparison 4 (some (.boolean)) fr lo [.ref th, .int p0] g (fun r g' => ∃ x, r = some (.int x) ∧ K x g') := by
  refine MetA.introL (Lx := [some (.ref th), some (.int p0), none, none]) (by decide) (Nat.le_of_ble_eq_true rfl) rfl rfl ?_
  intro E hEl hE hnm
  have hR_Ta_readSum := hR_Ta_readSum; rw [← hEl] at hR_Ta_readSum
  exact S_Ta_readComparison_0 hE hfr hlo hR_Ta_readSum th p0 g h0
theorem mz_readComparison {Γ : GAM} {l : Launch} {r : Nat} {S : List Int32 → Nat → PRs} (hS : ∀ t, PG t false (S t)) {f' l' : Nat} (hSm : ∀ (th : Nat) (p0 : Int32) (g : GH) (K : Int32 → GH → Prop), SpZ S r Γ th p0 g K → MetA Γ l yX6_readSum cX6_readSum 5 (some (.boolean)) f' l' [.ref th, .int p0] g (fun r g' => ∃ x, r = some (.int x) ∧ K x g'))
    (f lo : Nat) (hf : f' + 1 ≤ f) (hf3 : 3 ≤ f) (hlo : 60 + l' ≤ lo) (th : Nat) (p0 : Int32) (g : GH) (K : Int32 → GH → Prop) (h : SpZ (fun t => pCp t (S t)) r Γ th p0 g K) : MetA Γ l yX6_readComparison cX6_readComparison 4 (some (.boolean)) f lo [.ref th, .int p0] g (fun r g' => ∃ x, r = some (.int x) ∧ K x g') := by
  obtain ⟨hd, t, p, ws, hN, hwp, hK⟩ := h
  have hT := hN.1.2.2.1
  have hpl := hN.2.2.1
  refine rl_Ta_readComparison (R_Ta_readSum := SpZ S r Γ) (f_Ta_readSum := f') (l_Ta_readSum := l') (by omega) (by omega) ⟨⟨hf, by omega⟩, hSm⟩ ?_
  unfold B_Ta_readComparison_0
  refine ⟨hN.1.1.1, hd, t, p, ws, hN, hwp, fun b1 g1 hx1 hO1 => ?_⟩
  have hok := hS t p hpl
  have hK1 : ∀ b g', FrX th [903, 899] [898] g g' → TO th g' t ws (pCp t (S t) p) b → K b g' := hK
  unfold pCp at hK1
  cases hr : S t p with
  | inl e =>
    rw [hr] at hO1 hK1
    exact ⟨fun u => absurd hO1.1 u, fun _ => hK1 0 g1 hx1 ⟨rfl, hO1.2⟩⟩
  | inr x =>
    obtain ⟨p2, w⟩ := x
    rw [hr] at hO1 hK1 hok
    obtain ⟨hb, hN1⟩ := hO1
    obtain ⟨o1, o2, o3, o4, o5⟩ := hok
    simp only at hK1
    refine ⟨fun _ => ⟨hN1.1.1.1, t, p2, ws ++ w, hN1, fun g3 hx3 hN3 => ?_⟩, fun u => by rw [hb] at u; exact absurd u (by decide)⟩
    have gs := skp_ge t p2
    have h41 : isCm (chr t (skp t p2)) → B_Ta_readComparison_41 Γ (SpZ S r Γ) K th p0 (chr t (skp t p2)) g3 := fun hc => by
      have hlt : skp t p2 < t.length := chr_in (fun q => by rw [q] at hc; exact absurd hc (by decide))
      rw [if_pos hc] at hK1
      unfold B_Ta_readComparison_41
      refine ⟨hN3.1.1.1, hN3.1.1.1, ?_⟩
      rintro g4 rfl
      obtain ⟨y1, y2⟩ := hN3.at (q := skp t p2 + 1) hlt
      rw [← nj_s, ← hN3.2.1] at y1 y2
      have hok2 := hS t (skp t p2 + 1) hlt
      refine ⟨y1.1.1.1, hd, t, skp t p2 + 1, ws ++ w, y1, by rw [List.length_append]; omega, fun b5 g5 hx5 hO5 => ⟨hO5.kd, ?_⟩⟩
      refine hO5.wr (fun p3 w3 hr3 => ?_) _ (fun g6 hx6 hO6 => ⟨hO5.b, hK1 b5 g6 (hx1.tr (hx3.tr (y2.tr (hx5.tr hx6)))) ?_⟩)
      · rw [hr3] at hok2
        obtain ⟨k1, k2, k3, _, _⟩ := hok2
        simp only [List.length_append]; omega
      · have hO7 := hO6.pre
        cases hr3 : S t (skp t p2 + 1) with
        | inl e => rw [hr3] at hO7; exact hO7
        | inr x3 =>
          obtain ⟨p3, w3⟩ := x3
          rw [hr3] at hO7
          simp only [pPre, pOp, ← List.append_assoc] at hO7
          exact hO7
    have hcm : ∀ c : Int32, c ≠ 0 → c ≠ -1 → isCm c → sg t (skp t p2) = c → B_Ta_readComparison_41 Γ (SpZ S r Γ) K th p0 (sg t (skp t p2)) g3 := fun c c0 c1 hc u => by
      have u' := (sg_eq c0 c1).mp u
      rw [u, ← u']
      exact h41 (by rw [u']; exact hc)
    refine ⟨hcm 61 (by decide) (by decide) (by decide), fun n1 => ⟨hcm 60 (by decide) (by decide) (by decide), fun n2 => ⟨hcm 62 (by decide) (by decide) (by decide), fun n3 => ⟨hcm 35 (by decide) (by decide) (by decide), fun n4 => ?_⟩⟩⟩⟩
    have hne : ¬ isCm (chr t (skp t p2)) := fun z => by
      rcases z with z | z | z | z
      · exact n1 ((sg_eq (by decide) (by decide)).mpr z)
      · exact n2 ((sg_eq (by decide) (by decide)).mpr z)
      · exact n3 ((sg_eq (by decide) (by decide)).mpr z)
      · exact n4 ((sg_eq (by decide) (by decide)).mpr z)
    rw [if_neg hne] at hK1
    exact hK1 0 g3 (hx1.tr hx3) ⟨rfl, _, hN3⟩
-- the walk of Ta_readUnit
set_option maxRecDepth 100000 in
def B_Ta_readUnit_71 (Γ : GAM) (R_Ta_readComparison : Nat → Int32 → GH → (Int32 → GH → Prop) → Prop) (R_Ta_readCondition : Nat → Int32 → GH → (Int32 → GH → Prop) → Prop) (R_Ta_readUnit : Nat → Int32 → GH → (Int32 → GH → Prop) → Prop) (K : Int32 → GH → Prop) (s0 : Int32) (g : GH) : Prop :=
  ((s0 = 0 ∨ s0 = 1) ∧ K s0 g)
set_option maxHeartbeats 4000000 in
set_option maxRecDepth 100000 in
theorem S_Ta_readUnit_71 {Γ : GAM} {E : EV} {fr lo : Nat} {K : Int32 → GH → Prop} (hE : GE Γ E cX6_readUnit 4 RX6 (some (.boolean)) fr lo (fun r g' => ∃ x, r = some (.int x) ∧ K x g')) (hfr : 2 ≤ fr) (hlo : 42 ≤ lo) {R_Ta_readComparison : Nat → Int32 → GH → (Int32 → GH → Prop) → Prop} {R_Ta_readCondition : Nat → Int32 → GH → (Int32 → GH → Prop) → Prop} {R_Ta_readUnit : Nat → Int32 → GH → (Int32 → GH → Prop) → Prop} {f_Ta_readComparison l_Ta_readComparison : Nat} (hR_Ta_readComparison : (f_Ta_readComparison + 1 ≤ fr ∧ 8 + (4 + 11) + l_Ta_readComparison ≤ lo) ∧ ∀ (th : Nat) (p0 : Int32) g (K : Int32 → GH → Prop), R_Ta_readComparison th p0 g K → MetA Γ E.2.1 yX6_readComparison cX6_readComparison 4 (some (.boolean)) f_Ta_readComparison l_Ta_readComparison [.ref th, .int p0] g (fun r g' => ∃ x, r = some (.int x) ∧ K x g')) {f_Ta_readCondition l_Ta_readCondition : Nat} (hR_Ta_readCondition : (f_Ta_readCondition + 1 ≤ fr ∧ 8 + (4 + 11) + l_Ta_readCondition ≤ lo) ∧ ∀ (th : Nat) (p0 : Int32) g (K : Int32 → GH → Prop), R_Ta_readCondition th p0 g K → MetA Γ E.2.1 yX6_readCondition cX6_readCondition 4 (some (.boolean)) f_Ta_readCondition l_Ta_readCondition [.ref th, .int p0] g (fun r g' => ∃ x, r = some (.int x) ∧ K x g')) {f_Ta_readUnit l_Ta_readUnit : Nat} (hR_Ta_readUnit : (f_Ta_readUnit + 1 ≤ fr ∧ 8 + (4 + 11) + l_Ta_readUnit ≤ lo) ∧ ∀ (th : Nat) (p0 : Int32) g (K : Int32 → GH → Prop), R_Ta_readUnit th p0 g K → MetA Γ E.2.1 yX6_readUnit cX6_readUnit 4 (some (.boolean)) f_Ta_readUnit l_Ta_readUnit [.ref th, .int p0] g (fun r g' => ∃ x, r = some (.int x) ∧ K x g')) (s0 : Int32) (g : GH) (h : B_Ta_readUnit_71 Γ R_Ta_readComparison R_Ta_readCondition R_Ta_readUnit K s0 g) : JW Γ E 71 [none, none, none, none] [.int s0] g := by
  unfold B_Ta_readUnit_71 at h
  exact j_zret hE h.1 (by decide +kernel : decode cX6_readUnit 71 = .ok (.ireturn, 1)) ⟨_, rfl, h.2⟩
set_option maxRecDepth 100000 in
def B_Ta_readUnit_70 (Γ : GAM) (R_Ta_readComparison : Nat → Int32 → GH → (Int32 → GH → Prop) → Prop) (R_Ta_readCondition : Nat → Int32 → GH → (Int32 → GH → Prop) → Prop) (R_Ta_readUnit : Nat → Int32 → GH → (Int32 → GH → Prop) → Prop) (K : Int32 → GH → Prop)  (g : GH) : Prop :=
  B_Ta_readUnit_71 Γ R_Ta_readComparison R_Ta_readCondition R_Ta_readUnit K (0 : Int32) g
set_option maxHeartbeats 4000000 in
set_option maxRecDepth 100000 in
theorem S_Ta_readUnit_70 {Γ : GAM} {E : EV} {fr lo : Nat} {K : Int32 → GH → Prop} (hE : GE Γ E cX6_readUnit 4 RX6 (some (.boolean)) fr lo (fun r g' => ∃ x, r = some (.int x) ∧ K x g')) (hfr : 2 ≤ fr) (hlo : 42 ≤ lo) {R_Ta_readComparison : Nat → Int32 → GH → (Int32 → GH → Prop) → Prop} {R_Ta_readCondition : Nat → Int32 → GH → (Int32 → GH → Prop) → Prop} {R_Ta_readUnit : Nat → Int32 → GH → (Int32 → GH → Prop) → Prop} {f_Ta_readComparison l_Ta_readComparison : Nat} (hR_Ta_readComparison : (f_Ta_readComparison + 1 ≤ fr ∧ 8 + (4 + 11) + l_Ta_readComparison ≤ lo) ∧ ∀ (th : Nat) (p0 : Int32) g (K : Int32 → GH → Prop), R_Ta_readComparison th p0 g K → MetA Γ E.2.1 yX6_readComparison cX6_readComparison 4 (some (.boolean)) f_Ta_readComparison l_Ta_readComparison [.ref th, .int p0] g (fun r g' => ∃ x, r = some (.int x) ∧ K x g')) {f_Ta_readCondition l_Ta_readCondition : Nat} (hR_Ta_readCondition : (f_Ta_readCondition + 1 ≤ fr ∧ 8 + (4 + 11) + l_Ta_readCondition ≤ lo) ∧ ∀ (th : Nat) (p0 : Int32) g (K : Int32 → GH → Prop), R_Ta_readCondition th p0 g K → MetA Γ E.2.1 yX6_readCondition cX6_readCondition 4 (some (.boolean)) f_Ta_readCondition l_Ta_readCondition [.ref th, .int p0] g (fun r g' => ∃ x, r = some (.int x) ∧ K x g')) {f_Ta_readUnit l_Ta_readUnit : Nat} (hR_Ta_readUnit : (f_Ta_readUnit + 1 ≤ fr ∧ 8 + (4 + 11) + l_Ta_readUnit ≤ lo) ∧ ∀ (th : Nat) (p0 : Int32) g (K : Int32 → GH → Prop), R_Ta_readUnit th p0 g K → MetA Γ E.2.1 yX6_readUnit cX6_readUnit 4 (some (.boolean)) f_Ta_readUnit l_Ta_readUnit [.ref th, .int p0] g (fun r g' => ∃ x, r = some (.int x) ∧ K x g'))  (g : GH) (h : B_Ta_readUnit_70 Γ R_Ta_readComparison R_Ta_readCondition R_Ta_readUnit K  g) : JW Γ E 70 [none, none, none, none] [] g := by
  unfold B_Ta_readUnit_70 at h
  refine j_iconst hE (by decide +kernel : decode cX6_readUnit 70 = .ok (.iconst 0, 1)) (v := (0 : Int32)) (by decide) ?_
  exact S_Ta_readUnit_71 hE hfr hlo hR_Ta_readComparison hR_Ta_readCondition hR_Ta_readUnit _ _ h
set_option maxRecDepth 100000 in
def B_Ta_readUnit_23 (Γ : GAM) (R_Ta_readComparison : Nat → Int32 → GH → (Int32 → GH → Prop) → Prop) (R_Ta_readCondition : Nat → Int32 → GH → (Int32 → GH → Prop) → Prop) (R_Ta_readUnit : Nat → Int32 → GH → (Int32 → GH → Prop) → Prop) (K : Int32 → GH → Prop) (l0 : Nat) (l1 : Int32) (l2 : Int32) (g : GH) : Prop :=
  ((l1 < (8 : Int32) → Kd g l0 = 8 ∧ Kd g l0 = 8 ∧ ∀ g1 : GH, g1 = sI g 903 l0 ((Gi g 903 l0) + (1 : Int32)) → ((¬ (l2 = (40 : Int32)) → Kd g1 l0 = 8 ∧ R_Ta_readUnit l0 (l1 + (1 : Int32)) g1 (fun (x3 : Int32) (g2 : GH) => Kd g2 l0 = 8 ∧ Sp_Ta_write Γ l0 (-33 : Int32) g2 (fun (g4 : GH) => ((x3 = 0 ∨ x3 = 1) ∧ K x3 g4)))) ∧ (l2 = (40 : Int32) → Kd g1 l0 = 8 ∧ R_Ta_readCondition l0 (l1 + (1 : Int32)) g1 (fun (x6 : Int32) (g5 : GH) => ((x6 = 0 → B_Ta_readUnit_70 Γ R_Ta_readComparison R_Ta_readCondition R_Ta_readUnit K g5) ∧ (¬ (x6 = 0) → Kd g5 l0 = 8 ∧ Sp_Ta_takes Γ l0 (41 : Int32) g5 (fun (x8 : Int32) (g7 : GH) => ((x8 = 0 → B_Ta_readUnit_70 Γ R_Ta_readComparison R_Ta_readCondition R_Ta_readUnit K g7) ∧ (¬ (x8 = 0) → B_Ta_readUnit_71 Γ R_Ta_readComparison R_Ta_readCondition R_Ta_readUnit K (1 : Int32) g7))))))))) ∧ (¬ (l1 < (8 : Int32)) → K (0 : Int32) g))
set_option maxHeartbeats 4000000 in
set_option maxRecDepth 100000 in
theorem S_Ta_readUnit_23 {Γ : GAM} {E : EV} {fr lo : Nat} {K : Int32 → GH → Prop} (hE : GE Γ E cX6_readUnit 4 RX6 (some (.boolean)) fr lo (fun r g' => ∃ x, r = some (.int x) ∧ K x g')) (hfr : 2 ≤ fr) (hlo : 42 ≤ lo) {R_Ta_readComparison : Nat → Int32 → GH → (Int32 → GH → Prop) → Prop} {R_Ta_readCondition : Nat → Int32 → GH → (Int32 → GH → Prop) → Prop} {R_Ta_readUnit : Nat → Int32 → GH → (Int32 → GH → Prop) → Prop} {f_Ta_readComparison l_Ta_readComparison : Nat} (hR_Ta_readComparison : (f_Ta_readComparison + 1 ≤ fr ∧ 8 + (4 + 11) + l_Ta_readComparison ≤ lo) ∧ ∀ (th : Nat) (p0 : Int32) g (K : Int32 → GH → Prop), R_Ta_readComparison th p0 g K → MetA Γ E.2.1 yX6_readComparison cX6_readComparison 4 (some (.boolean)) f_Ta_readComparison l_Ta_readComparison [.ref th, .int p0] g (fun r g' => ∃ x, r = some (.int x) ∧ K x g')) {f_Ta_readCondition l_Ta_readCondition : Nat} (hR_Ta_readCondition : (f_Ta_readCondition + 1 ≤ fr ∧ 8 + (4 + 11) + l_Ta_readCondition ≤ lo) ∧ ∀ (th : Nat) (p0 : Int32) g (K : Int32 → GH → Prop), R_Ta_readCondition th p0 g K → MetA Γ E.2.1 yX6_readCondition cX6_readCondition 4 (some (.boolean)) f_Ta_readCondition l_Ta_readCondition [.ref th, .int p0] g (fun r g' => ∃ x, r = some (.int x) ∧ K x g')) {f_Ta_readUnit l_Ta_readUnit : Nat} (hR_Ta_readUnit : (f_Ta_readUnit + 1 ≤ fr ∧ 8 + (4 + 11) + l_Ta_readUnit ≤ lo) ∧ ∀ (th : Nat) (p0 : Int32) g (K : Int32 → GH → Prop), R_Ta_readUnit th p0 g K → MetA Γ E.2.1 yX6_readUnit cX6_readUnit 4 (some (.boolean)) f_Ta_readUnit l_Ta_readUnit [.ref th, .int p0] g (fun r g' => ∃ x, r = some (.int x) ∧ K x g')) (l0 : Nat) (l1 : Int32) (l2 : Int32) (g : GH) (h : B_Ta_readUnit_23 Γ R_Ta_readComparison R_Ta_readCondition R_Ta_readUnit K l0 l1 l2 g) : JW Γ E 23 [some (.ref l0), some (.int l1), some (.int l2), none] [] g := by
  unfold B_Ta_readUnit_23 at h
  refine j_iload_n hE (by decide +kernel : decode cX6_readUnit 23 = .ok (.iload_n 1, 1)) rfl rfl ?_
  refine j_bipush hE (by decide +kernel : decode cX6_readUnit 24 = .ok (.bipush 8, 2)) (v := (8 : Int32)) (by decide) ?_
  refine j_icmp_lt hE (by decide +kernel : decode cX6_readUnit 26 = .ok (.if_icmp .lt 5, 3)) (tgt := 31) (by decide) (fun q => ?_) (fun q => ?_)
  · replace h := h.1 q
    refine j_aload_n hE (by decide +kernel : decode cX6_readUnit 31 = .ok (.aload_n 0, 1)) rfl rfl ?_
    refine j_dup hE (by decide +kernel : decode cX6_readUnit 32 = .ok (.dup, 1)) rfl ?_
    obtain ⟨hk, h⟩ := h
    refine j_getI hE fg_X6_28 hk (by decide +kernel : decode cX6_readUnit 33 = .ok (.getfield 28, 3)) ?_
    refine j_iconst hE (by decide +kernel : decode cX6_readUnit 36 = .ok (.iconst 1, 1)) (v := (1 : Int32)) (by decide) ?_
    refine j_iadd hE (by decide +kernel : decode cX6_readUnit 37 = .ok (.iadd, 1)) ?_
    obtain ⟨hk, h⟩ := h
    obtain ⟨g1, hg⟩ : ∃ z, z = sI g 903 l0 ((Gi g 903 l0) + (1 : Int32)) := ⟨_, rfl⟩; replace h := h g1 hg
    refine j_putI hE fa_X6_28 hk (fun q => by cases q) (by decide +kernel : decode cX6_readUnit 38 = .ok (.putfield 28, 3)) ?_
    rw [← hg]
    refine j_iload_n hE (by decide +kernel : decode cX6_readUnit 41 = .ok (.iload_n 2, 1)) rfl rfl ?_
    refine j_bipush hE (by decide +kernel : decode cX6_readUnit 42 = .ok (.bipush 40, 2)) (v := (40 : Int32)) (by decide) ?_
    refine j_icmp_ne hE (by decide +kernel : decode cX6_readUnit 44 = .ok (.if_icmp .ne 28, 3)) (tgt := 72) (by decide) (fun q => ?_) (fun q => ?_)
    · replace h := h.1 q
      refine j_aload_n hE (by decide +kernel : decode cX6_readUnit 72 = .ok (.aload_n 0, 1)) rfl rfl ?_
      refine j_iload_n hE (by decide +kernel : decode cX6_readUnit 73 = .ok (.iload_n 1, 1)) rfl rfl ?_
      refine j_iconst hE (by decide +kernel : decode cX6_readUnit 74 = .ok (.iconst 1, 1)) (v := (1 : Int32)) (by decide) ?_
      refine j_iadd hE (by decide +kernel : decode cX6_readUnit 75 = .ok (.iadd, 1)) ?_
      obtain ⟨hk, h⟩ := h
      refine j_callV hE rfl cl_X6_68 cf_7 im_X6_readUnit se_X6_readUnit hR_Ta_readUnit.1 (As := [.int (l1 + (1 : Int32))]) (rest := []) rfl rfl (Nat.le_of_ble_eq_true rfl) hk (by decide +kernel : decode cX6_readUnit 76 = .ok (.invokevirtual 68, 3)) (hR_Ta_readUnit.2 _ _ _ _ h) ?_
      rintro _ g2 ⟨x3, rfl, h⟩
      refine j_istore_n hE (by decide +kernel : decode cX6_readUnit 79 = .ok (.istore_n 3, 1)) rfl (Nat.le_of_ble_eq_true rfl) rfl ?_
      refine j_aload_n hE (by decide +kernel : decode cX6_readUnit 80 = .ok (.aload_n 0, 1)) rfl rfl ?_
      refine j_bipush hE (by decide +kernel : decode cX6_readUnit 81 = .ok (.bipush (-33), 2)) (v := (-33 : Int32)) (by decide) ?_
      obtain ⟨hk, h⟩ := h
      refine j_callV hE rfl cl_X6_64 cf_7 im_X6_write se_X6_write ⟨by omega, by omega⟩ (As := [.int (-33 : Int32)]) (rest := []) rfl rfl (Nat.le_of_ble_eq_true rfl) hk (by decide +kernel : decode cX6_readUnit 83 = .ok (.invokevirtual 64, 3)) (mt_Ta_write _ _ _ _ h) ?_
      rintro _ g4 ⟨rfl, h⟩
      refine j_iload_n hE (by decide +kernel : decode cX6_readUnit 86 = .ok (.iload_n 3, 1)) rfl rfl ?_
      exact j_zret hE h.1 (by decide +kernel : decode cX6_readUnit 87 = .ok (.ireturn, 1)) ⟨_, rfl, h.2⟩
    · replace h := h.2 q
      refine j_aload_n hE (by decide +kernel : decode cX6_readUnit 47 = .ok (.aload_n 0, 1)) rfl rfl ?_
      refine j_iload_n hE (by decide +kernel : decode cX6_readUnit 48 = .ok (.iload_n 1, 1)) rfl rfl ?_
      refine j_iconst hE (by decide +kernel : decode cX6_readUnit 49 = .ok (.iconst 1, 1)) (v := (1 : Int32)) (by decide) ?_
      refine j_iadd hE (by decide +kernel : decode cX6_readUnit 50 = .ok (.iadd, 1)) ?_
      obtain ⟨hk, h⟩ := h
      refine j_callV hE rfl cl_X6_49 cf_7 im_X6_readCondition se_X6_readCondition hR_Ta_readCondition.1 (As := [.int (l1 + (1 : Int32))]) (rest := []) rfl rfl (Nat.le_of_ble_eq_true rfl) hk (by decide +kernel : decode cX6_readUnit 51 = .ok (.invokevirtual 49, 3)) (hR_Ta_readCondition.2 _ _ _ _ h) ?_
      rintro _ g5 ⟨x6, rfl, h⟩
      refine j_if_eq hE (by decide +kernel : decode cX6_readUnit 54 = .ok (.ifCond .eq 16, 3)) (tgt := 70) (by decide) (fun q => ?_) (fun q => ?_)
      · replace h := h.1 q
        refine j_weak [none, none, none, none] trivial ?_
        exact S_Ta_readUnit_70 hE hfr hlo hR_Ta_readComparison hR_Ta_readCondition hR_Ta_readUnit _ h
      · replace h := h.2 q
        refine j_aload_n hE (by decide +kernel : decode cX6_readUnit 57 = .ok (.aload_n 0, 1)) rfl rfl ?_
        refine j_bipush hE (by decide +kernel : decode cX6_readUnit 58 = .ok (.bipush 41, 2)) (v := (41 : Int32)) (by decide) ?_
        obtain ⟨hk, h⟩ := h
        refine j_callV hE rfl cl_X6_41 cf_7 im_X6_takes se_X6_takes ⟨by omega, by omega⟩ (As := [.int (41 : Int32)]) (rest := []) rfl rfl (Nat.le_of_ble_eq_true rfl) hk (by decide +kernel : decode cX6_readUnit 60 = .ok (.invokevirtual 41, 3)) (mt_Ta_takes _ _ _ _ h) ?_
        rintro _ g7 ⟨x8, rfl, h⟩
        refine j_if_eq hE (by decide +kernel : decode cX6_readUnit 63 = .ok (.ifCond .eq 7, 3)) (tgt := 70) (by decide) (fun q => ?_) (fun q => ?_)
        · replace h := h.1 q
          refine j_weak [none, none, none, none] trivial ?_
          exact S_Ta_readUnit_70 hE hfr hlo hR_Ta_readComparison hR_Ta_readCondition hR_Ta_readUnit _ h
        · replace h := h.2 q
          refine j_iconst hE (by decide +kernel : decode cX6_readUnit 66 = .ok (.iconst 1, 1)) (v := (1 : Int32)) (by decide) ?_
          refine j_goto hE (by decide +kernel : decode cX6_readUnit 67 = .ok (.goto 4, 3)) (tgt := 71) (by decide) ?_
          refine j_weak [none, none, none, none] trivial ?_
          exact S_Ta_readUnit_71 hE hfr hlo hR_Ta_readComparison hR_Ta_readCondition hR_Ta_readUnit _ _ h
  · replace h := h.2 q
    refine j_iconst hE (by decide +kernel : decode cX6_readUnit 29 = .ok (.iconst 0, 1)) (v := (0 : Int32)) (by decide) ?_
    exact j_zret hE (Or.inl rfl) (by decide +kernel : decode cX6_readUnit 30 = .ok (.ireturn, 1)) ⟨_, rfl, h⟩
set_option maxRecDepth 100000 in
def B_Ta_readUnit_0 (Γ : GAM) (R_Ta_readComparison : Nat → Int32 → GH → (Int32 → GH → Prop) → Prop) (R_Ta_readCondition : Nat → Int32 → GH → (Int32 → GH → Prop) → Prop) (R_Ta_readUnit : Nat → Int32 → GH → (Int32 → GH → Prop) → Prop) (K : Int32 → GH → Prop) (th : Nat) (p0 : Int32) (g : GH) : Prop :=
  Kd g th = 8 ∧ Sp_Ta_nextSign Γ th g (fun (x2 : Int32) (g1 : GH) => ((x2 = (33 : Int32) → B_Ta_readUnit_23 Γ R_Ta_readComparison R_Ta_readCondition R_Ta_readUnit K th p0 x2 g1) ∧ (¬ (x2 = (33 : Int32)) → ((x2 = (40 : Int32) → B_Ta_readUnit_23 Γ R_Ta_readComparison R_Ta_readCondition R_Ta_readUnit K th p0 x2 g1) ∧ (¬ (x2 = (40 : Int32)) → Kd g1 th = 8 ∧ R_Ta_readComparison th p0 g1 (fun (x4 : Int32) (g3 : GH) => ((x4 = 0 ∨ x4 = 1) ∧ K x4 g3)))))))
set_option maxHeartbeats 4000000 in
set_option maxRecDepth 100000 in
theorem S_Ta_readUnit_0 {Γ : GAM} {E : EV} {fr lo : Nat} {K : Int32 → GH → Prop} (hE : GE Γ E cX6_readUnit 4 RX6 (some (.boolean)) fr lo (fun r g' => ∃ x, r = some (.int x) ∧ K x g')) (hfr : 2 ≤ fr) (hlo : 42 ≤ lo) {R_Ta_readComparison : Nat → Int32 → GH → (Int32 → GH → Prop) → Prop} {R_Ta_readCondition : Nat → Int32 → GH → (Int32 → GH → Prop) → Prop} {R_Ta_readUnit : Nat → Int32 → GH → (Int32 → GH → Prop) → Prop} {f_Ta_readComparison l_Ta_readComparison : Nat} (hR_Ta_readComparison : (f_Ta_readComparison + 1 ≤ fr ∧ 8 + (4 + 11) + l_Ta_readComparison ≤ lo) ∧ ∀ (th : Nat) (p0 : Int32) g (K : Int32 → GH → Prop), R_Ta_readComparison th p0 g K → MetA Γ E.2.1 yX6_readComparison cX6_readComparison 4 (some (.boolean)) f_Ta_readComparison l_Ta_readComparison [.ref th, .int p0] g (fun r g' => ∃ x, r = some (.int x) ∧ K x g')) {f_Ta_readCondition l_Ta_readCondition : Nat} (hR_Ta_readCondition : (f_Ta_readCondition + 1 ≤ fr ∧ 8 + (4 + 11) + l_Ta_readCondition ≤ lo) ∧ ∀ (th : Nat) (p0 : Int32) g (K : Int32 → GH → Prop), R_Ta_readCondition th p0 g K → MetA Γ E.2.1 yX6_readCondition cX6_readCondition 4 (some (.boolean)) f_Ta_readCondition l_Ta_readCondition [.ref th, .int p0] g (fun r g' => ∃ x, r = some (.int x) ∧ K x g')) {f_Ta_readUnit l_Ta_readUnit : Nat} (hR_Ta_readUnit : (f_Ta_readUnit + 1 ≤ fr ∧ 8 + (4 + 11) + l_Ta_readUnit ≤ lo) ∧ ∀ (th : Nat) (p0 : Int32) g (K : Int32 → GH → Prop), R_Ta_readUnit th p0 g K → MetA Γ E.2.1 yX6_readUnit cX6_readUnit 4 (some (.boolean)) f_Ta_readUnit l_Ta_readUnit [.ref th, .int p0] g (fun r g' => ∃ x, r = some (.int x) ∧ K x g')) (th : Nat) (p0 : Int32) (g : GH) (h : B_Ta_readUnit_0 Γ R_Ta_readComparison R_Ta_readCondition R_Ta_readUnit K th p0 g) : JW Γ E 0 [some (.ref th), some (.int p0), none, none] [] g := by
  unfold B_Ta_readUnit_0 at h
  refine j_aload_n hE (by decide +kernel : decode cX6_readUnit 0 = .ok (.aload_n 0, 1)) rfl rfl ?_
  obtain ⟨hk, h⟩ := h
  refine j_callV hE rfl cl_X6_45 cf_7 im_X6_nextSign se_X6_nextSign ⟨by omega, by omega⟩ (As := []) (rest := []) rfl rfl (Nat.le_of_ble_eq_true rfl) hk (by decide +kernel : decode cX6_readUnit 1 = .ok (.invokevirtual 45, 3)) (mt_Ta_nextSign _ _ _ h) ?_
  rintro _ g1 ⟨x2, rfl, h⟩
  refine j_istore_n hE (by decide +kernel : decode cX6_readUnit 4 = .ok (.istore_n 2, 1)) rfl (Nat.le_of_ble_eq_true rfl) rfl ?_
  refine j_iload_n hE (by decide +kernel : decode cX6_readUnit 5 = .ok (.iload_n 2, 1)) rfl rfl ?_
  refine j_bipush hE (by decide +kernel : decode cX6_readUnit 6 = .ok (.bipush 33, 2)) (v := (33 : Int32)) (by decide) ?_
  refine j_icmp_eq hE (by decide +kernel : decode cX6_readUnit 8 = .ok (.if_icmp .eq 15, 3)) (tgt := 23) (by decide) (fun q => ?_) (fun q => ?_)
  · replace h := h.1 q
    exact S_Ta_readUnit_23 hE hfr hlo hR_Ta_readComparison hR_Ta_readCondition hR_Ta_readUnit _ _ _ _ h
  · replace h := h.2 q
    refine j_iload_n hE (by decide +kernel : decode cX6_readUnit 11 = .ok (.iload_n 2, 1)) rfl rfl ?_
    refine j_bipush hE (by decide +kernel : decode cX6_readUnit 12 = .ok (.bipush 40, 2)) (v := (40 : Int32)) (by decide) ?_
    refine j_icmp_eq hE (by decide +kernel : decode cX6_readUnit 14 = .ok (.if_icmp .eq 9, 3)) (tgt := 23) (by decide) (fun q => ?_) (fun q => ?_)
    · replace h := h.1 q
      exact S_Ta_readUnit_23 hE hfr hlo hR_Ta_readComparison hR_Ta_readCondition hR_Ta_readUnit _ _ _ _ h
    · replace h := h.2 q
      refine j_aload_n hE (by decide +kernel : decode cX6_readUnit 17 = .ok (.aload_n 0, 1)) rfl rfl ?_
      refine j_iload_n hE (by decide +kernel : decode cX6_readUnit 18 = .ok (.iload_n 1, 1)) rfl rfl ?_
      obtain ⟨hk, h⟩ := h
      refine j_callV hE rfl cl_X6_71 cf_7 im_X6_readComparison se_X6_readComparison hR_Ta_readComparison.1 (As := [.int p0]) (rest := []) rfl rfl (Nat.le_of_ble_eq_true rfl) hk (by decide +kernel : decode cX6_readUnit 19 = .ok (.invokevirtual 71, 3)) (hR_Ta_readComparison.2 _ _ _ _ h) ?_
      rintro _ g3 ⟨x4, rfl, h⟩
      exact j_zret hE h.1 (by decide +kernel : decode cX6_readUnit 22 = .ok (.ireturn, 1)) ⟨_, rfl, h.2⟩
set_option maxHeartbeats 4000000 in
set_option maxRecDepth 100000 in
theorem rl_Ta_readUnit {Γ : GAM} {l : Launch} {fr lo : Nat} (hfr : 2 ≤ fr) (hlo : 42 ≤ lo) {R_Ta_readComparison : Nat → Int32 → GH → (Int32 → GH → Prop) → Prop} {R_Ta_readCondition : Nat → Int32 → GH → (Int32 → GH → Prop) → Prop} {R_Ta_readUnit : Nat → Int32 → GH → (Int32 → GH → Prop) → Prop} {f_Ta_readComparison l_Ta_readComparison : Nat} (hR_Ta_readComparison : (f_Ta_readComparison + 1 ≤ fr ∧ 8 + (4 + 11) + l_Ta_readComparison ≤ lo) ∧ ∀ (th : Nat) (p0 : Int32) g (K : Int32 → GH → Prop), R_Ta_readComparison th p0 g K → MetA Γ l yX6_readComparison cX6_readComparison 4 (some (.boolean)) f_Ta_readComparison l_Ta_readComparison [.ref th, .int p0] g (fun r g' => ∃ x, r = some (.int x) ∧ K x g')) {f_Ta_readCondition l_Ta_readCondition : Nat} (hR_Ta_readCondition : (f_Ta_readCondition + 1 ≤ fr ∧ 8 + (4 + 11) + l_Ta_readCondition ≤ lo) ∧ ∀ (th : Nat) (p0 : Int32) g (K : Int32 → GH → Prop), R_Ta_readCondition th p0 g K → MetA Γ l yX6_readCondition cX6_readCondition 4 (some (.boolean)) f_Ta_readCondition l_Ta_readCondition [.ref th, .int p0] g (fun r g' => ∃ x, r = some (.int x) ∧ K x g')) {f_Ta_readUnit l_Ta_readUnit : Nat} (hR_Ta_readUnit : (f_Ta_readUnit + 1 ≤ fr ∧ 8 + (4 + 11) + l_Ta_readUnit ≤ lo) ∧ ∀ (th : Nat) (p0 : Int32) g (K : Int32 → GH → Prop), R_Ta_readUnit th p0 g K → MetA Γ l yX6_readUnit cX6_readUnit 4 (some (.boolean)) f_Ta_readUnit l_Ta_readUnit [.ref th, .int p0] g (fun r g' => ∃ x, r = some (.int x) ∧ K x g')) {th : Nat} {p0 : Int32} {g : GH} {K : Int32 → GH → Prop} (h0 : B_Ta_readUnit_0 Γ R_Ta_readComparison R_Ta_readCondition R_Ta_readUnit K th p0 g) : MetA Γ l yX6_readUnit cX6_readUnit 4 (some (.boolean)) fr lo [.ref th, .int p0] g (fun r g' => ∃ x, r = some (.int x) ∧ K x g') := by
  refine MetA.introL (Lx := [some (.ref th), some (.int p0), none, none]) (by decide) (Nat.le_of_ble_eq_true rfl) rfl rfl ?_
  intro E hEl hE hnm
  have hR_Ta_readComparison := hR_Ta_readComparison; rw [← hEl] at hR_Ta_readComparison
  have hR_Ta_readCondition := hR_Ta_readCondition; rw [← hEl] at hR_Ta_readCondition
  have hR_Ta_readUnit := hR_Ta_readUnit; rw [← hEl] at hR_Ta_readUnit
  exact S_Ta_readUnit_0 hE hfr hlo hR_Ta_readComparison hR_Ta_readCondition hR_Ta_readUnit th p0 g h0
theorem mz_readUnit {Γ : GAM} {l : Launch} {r : Nat} (hr : r ≤ 8) {f' l' : Nat} (hCm : ∀ (th : Nat) (p0 : Int32) (g : GH) (K : Int32 → GH → Prop), SpZ (fun t => pCp t (pSm t (pAt t r))) r Γ th p0 g K → MetA Γ l yX6_readComparison cX6_readComparison 4 (some (.boolean)) f' l' [.ref th, .int p0] g (fun r g' => ∃ x, r = some (.int x) ∧ K x g')) (hU : ∀ (th : Nat) (p0 : Int32) (g : GH) (K : Int32 → GH → Prop), SpZo (fun t r => pUn t r) r Γ th p0 g K → MetA Γ l yX6_readUnit cX6_readUnit 4 (some (.boolean)) f' l' [.ref th, .int p0] g (fun r g' => ∃ x, r = some (.int x) ∧ K x g')) (hC : ∀ (th : Nat) (p0 : Int32) (g : GH) (K : Int32 → GH → Prop), SpZo (fun t r => pCd t (pUn t r)) r Γ th p0 g K → MetA Γ l yX6_readCondition cX6_readCondition 4 (some (.boolean)) f' l' [.ref th, .int p0] g (fun r g' => ∃ x, r = some (.int x) ∧ K x g'))
    (f lo : Nat) (hf : f' + 1 ≤ f) (hf3 : 3 ≤ f) (hlo : 60 + l' ≤ lo) (th : Nat) (p0 : Int32) (g : GH) (K : Int32 → GH → Prop) (h : SpZ (fun t => pUn t r) r Γ th p0 g K) : MetA Γ l yX6_readUnit cX6_readUnit 4 (some (.boolean)) f lo [.ref th, .int p0] g (fun r g' => ∃ x, r = some (.int x) ∧ K x g') := by
  obtain ⟨hd, t, p, ws, hN, hwp, hK⟩ := h
  have hT := hN.1.2.2.1
  have hpl := hN.2.2.1
  have gg1 := skp_ge t p
  have gg2 := skp_le hpl
  have haf : pUn t r = uF t (pSm t (pAt t r)) (pOpt (pUn t) r) := by cases r <;> rfl
  refine rl_Ta_readUnit (R_Ta_readComparison := SpZ (fun t => pCp t (pSm t (pAt t r))) r Γ) (R_Ta_readCondition := SpZo (fun t r => pCd t (pUn t r)) r Γ) (R_Ta_readUnit := SpZo (fun t r => pUn t r) r Γ) (f_Ta_readComparison := f') (l_Ta_readComparison := l') (f_Ta_readCondition := f') (l_Ta_readCondition := l') (f_Ta_readUnit := f') (l_Ta_readUnit := l') (by omega) (by omega) ⟨⟨hf, by omega⟩, hCm⟩ ⟨⟨hf, by omega⟩, hC⟩ ⟨⟨hf, by omega⟩, hU⟩ ?_
  unfold B_Ta_readUnit_0
  refine ⟨hN.1.1.1, t, p, ws, hN, fun g1 hx1 hN1 => ?_⟩
  have hkd1 := hN1.1.1.1
  have hK1 : ∀ b g', FrX th [903, 899] [898] g g' → TO th g' t ws (uF t (pSm t (pAt t r)) (pOpt (pUn t) r) p) b → K b g' := fun b g' hx hO => hK b g' hx (by simp only; rw [haf]; exact hO)
  unfold uF at hK1
  obtain ⟨q0, hq0⟩ : ∃ q0, skp t p = q0 := ⟨_, rfl⟩
  rw [hq0] at gg1 gg2 hN1 hK1
  rw [hq0]
  have h23 : ∀ c, chr t q0 = c → (c = 33 ∨ c = 40) → B_Ta_readUnit_23 Γ (SpZ (fun t => pCp t (pSm t (pAt t r))) r Γ) (SpZo (fun t r => pCd t (pUn t r)) r Γ) (SpZo (fun t r => pUn t r) r Γ) K th p0 c g1 := fun c hc h2 => by
    have hlt : q0 < t.length := chr_in (by rw [hc]; rcases h2 with rfl | rfl <;> decide)
    unfold B_Ta_readUnit_23
    rw [hc] at hK1
    rw [hd, dp_lt hr]
    obtain ⟨y1, y2⟩ := hN1.at (q := q0 + 1) hlt
    rw [← nj_s, ← hN1.2.1] at y1 y2
    refine ⟨fun hr0 => ⟨hkd1, hkd1, ?_⟩, fun hr0 => hK1 0 g1 hx1 ?_⟩
    · obtain ⟨r', rfl⟩ : ∃ r', r = r' + 1 := ⟨r - 1, by omega⟩
      have ho : pOpt (pUn t) (r' + 1) = some (pUn t r') := rfl
      rw [ho] at hK1
      rw [dp_s hr]
      rintro g2 rfl
      refine ⟨fun hc2 => ⟨y1.1.1.1, rfl, t, q0 + 1, ws, y1, by omega, fun b3 g3 hx3 hO3 => ⟨hO3.kd, ?_⟩⟩, fun hc2 => ⟨y1.1.1.1, rfl, t, q0 + 1, ws, y1, by omega, fun b3 g3 hx3 hO3 => ?_⟩⟩
      · refine hO3.wr (fun p2 w2 hr2 => ?_) _ (fun g5 hx5 hO5 => ⟨hO3.b, hK1 b3 g5 (hx1.tr (y2.tr (hx3.tr hx5))) ?_⟩)
        · have := pUn_ok t r' (q0 + 1) hlt
          simp only at hr2
          rw [hr2] at this
          obtain ⟨k1, k2, k3, _, _⟩ := this
          rw [List.length_append]; omega
        · rw [if_pos (h2.resolve_right hc2)]
          exact hO5
      · rw [if_neg (by rw [hc2]; decide), if_pos hc2] at hK1
        unfold B_Ta_readUnit_70 B_Ta_readUnit_71
        exact hO3.close (K := fun s g => (s = 0 ∨ s = 1) ∧ K s g) (by decide) (by decide) (fun b g' hx hO => ⟨hO.b, hK1 b g' (hx1.tr (y2.tr (hx3.tr hx))) hO⟩)
    · have hr0' : r = 0 := by omega
      subst hr0'
      have ho : pOpt (pUn t) 0 = none := rfl
      rw [ho]
      rcases h2 with rfl | rfl
      · exact ⟨rfl, _, hN1⟩
      · exact ⟨rfl, _, hN1⟩
  refine ⟨fun u2 => ?_, fun u2 => ⟨fun u3 => ?_, fun u3 => ⟨hkd1, hd, t, q0, ws, hN1, by omega, fun b5 g5 hx5 hO5 => ⟨hO5.b, ?_⟩⟩⟩⟩
  · rw [u2]; exact h23 33 ((sg_eq (by decide) (by decide)).mp u2) (.inl rfl)
  · rw [u3]; exact h23 40 ((sg_eq (by decide) (by decide)).mp u3) (.inr rfl)
  · refine hK1 b5 g5 (hx1.tr hx5) ?_
    rw [if_neg (fun z => u2 ((sg_eq (by decide) (by decide)).mpr z)), if_neg (fun z => u3 ((sg_eq (by decide) (by decide)).mpr z))]
    exact hO5
