/-! the class: its reader of laws, all pieces together -/
abbrev MzL (Γ : GAM) (l : Launch) (fL lL : Nat) : Prop := ∀ (p0 : Int32) (g : GH) (K : Int32 → GH → Prop), SpLt Γ p0 g K → MetA Γ l yX10_isLetter cX10_isLetter 1 (some (.boolean)) fL lL [.int p0] g (fun r g' => ∃ x, r = some (.int x) ∧ K x g')
abbrev MzA (Γ : GAM) (l : Launch) (f lo : Nat) (P : Nat → Int32 → GH → (Int32 → GH → Prop) → Prop) : Prop := ∀ (th : Nat) (p0 : Int32) (g : GH) (K : Int32 → GH → Prop), P th p0 g K → MetA Γ l yX6_readAtom cX6_readAtom 4 (some (.boolean)) f lo [.ref th, .int p0] g (fun r g' => ∃ x, r = some (.int x) ∧ K x g')
abbrev MzS (Γ : GAM) (l : Launch) (f lo : Nat) (P : Nat → Int32 → GH → (Int32 → GH → Prop) → Prop) : Prop := ∀ (th : Nat) (p0 : Int32) (g : GH) (K : Int32 → GH → Prop), P th p0 g K → MetA Γ l yX6_readSum cX6_readSum 5 (some (.boolean)) f lo [.ref th, .int p0] g (fun r g' => ∃ x, r = some (.int x) ∧ K x g')
abbrev MzU (Γ : GAM) (l : Launch) (f lo : Nat) (P : Nat → Int32 → GH → (Int32 → GH → Prop) → Prop) : Prop := ∀ (th : Nat) (p0 : Int32) (g : GH) (K : Int32 → GH → Prop), P th p0 g K → MetA Γ l yX6_readUnit cX6_readUnit 4 (some (.boolean)) f lo [.ref th, .int p0] g (fun r g' => ∃ x, r = some (.int x) ∧ K x g')
abbrev MzC (Γ : GAM) (l : Launch) (f lo : Nat) (P : Nat → Int32 → GH → (Int32 → GH → Prop) → Prop) : Prop := ∀ (th : Nat) (p0 : Int32) (g : GH) (K : Int32 → GH → Prop), P th p0 g K → MetA Γ l yX6_readCondition cX6_readCondition 4 (some (.boolean)) f lo [.ref th, .int p0] g (fun r g' => ∃ x, r = some (.int x) ∧ K x g')
set_option maxRecDepth 20000 in
theorem mz_lv {Γ : GAM} {l : Launch} {fL lL : Nat} (hL : MzL Γ l fL lL) (hfL : fL ≤ 12) (hlL : lL ≤ 600) (r : Nat) (hr : r ≤ 8) {f0 l0 : Nat} (hf0 : f0 + 1 ≤ 12 * r + 14) (hl0 : l0 + 60 ≤ 2000 * r + 700) (hA : ∀ f lo, f0 ≤ f → l0 ≤ lo → MzA Γ l f lo (SpZo (fun t r => pAt t r) r Γ)) (hS : ∀ f lo, f0 ≤ f → l0 ≤ lo → MzS Γ l f lo (SpZo (fun t r => pSm t (pAt t r)) r Γ)) (hU : ∀ f lo, f0 ≤ f → l0 ≤ lo → MzU Γ l f lo (SpZo (fun t r => pUn t r) r Γ)) (hC : ∀ f lo, f0 ≤ f → l0 ≤ lo → MzC Γ l f lo (SpZo (fun t r => pCd t (pUn t r)) r Γ)) :
    (∀ f lo, 12 * r + 14 ≤ f → 2000 * r + 700 ≤ lo → MzA Γ l f lo (SpZ (fun t => pAt t r) r Γ)) ∧
    (∀ f lo, 12 * r + 16 ≤ f → 2000 * r + 900 ≤ lo → MzS Γ l f lo (SpZ (fun t => pSm t (pAt t r)) r Γ)) ∧
    (∀ f lo, 12 * r + 18 ≤ f → 2000 * r + 1100 ≤ lo → MzU Γ l f lo (SpZ (fun t => pUn t r) r Γ)) ∧
    (∀ f lo, 12 * r + 20 ≤ f → 2000 * r + 1300 ≤ lo → MzC Γ l f lo (SpZ (fun t => pCd t (pUn t r)) r Γ)) := by
  have kA : ∀ f lo, 12 * r + 14 ≤ f → 2000 * r + 700 ≤ lo → MzA Γ l f lo (SpZ (fun t => pAt t r) r Γ) := fun f lo hf hlo =>
    mz_readAtom hr hL (hA f0 l0 (Nat.le_refl _) (Nat.le_refl _)) (hS f0 l0 (Nat.le_refl _) (Nat.le_refl _)) f lo (by omega) (by omega) (by omega) (by omega) (by omega)
  have kS : ∀ f lo, 12 * r + 16 ≤ f → 2000 * r + 900 ≤ lo → MzS Γ l f lo (SpZ (fun t => pSm t (pAt t r)) r Γ) := fun f lo hf hlo =>
    mz_readSum (S := fun t => pTm t (pAt t r)) (r := r) (fun t => pTm_ok (pAt_ok t r))
      (mz_readTerm (S := fun t => pAt t r) (r := r) (fun t => pAt_ok t r) (kA (12 * r + 14) (2000 * r + 700) (by omega) (by omega)) (12 * r + 15) (2000 * r + 800) (by omega) (by omega) (by omega)) f lo (by omega) (by omega) (by omega)
  have kM := mz_readComparison (S := fun t => pSm t (pAt t r)) (r := r) (fun t => pSm_ok (pAt_ok t r)) (kS (12 * r + 16) (2000 * r + 900) (by omega) (by omega)) (12 * r + 17) (2000 * r + 1000) (by omega) (by omega) (by omega)
  have kU : ∀ f lo, 12 * r + 18 ≤ f → 2000 * r + 1100 ≤ lo → MzU Γ l f lo (SpZ (fun t => pUn t r) r Γ) := fun f lo hf hlo =>
    mz_readUnit hr (f' := 12 * r + 17) (l' := 2000 * r + 1000) kM (hU (12 * r + 17) (2000 * r + 1000) (by omega) (by omega)) (hC (12 * r + 17) (2000 * r + 1000) (by omega) (by omega)) f lo (by omega) (by omega) (by omega)
  refine ⟨kA, kS, kU, fun f lo hf hlo => ?_⟩
  exact mz_readCondition (S := fun t => pPt t (pUn t r)) (r := r) (fun t => pPt_ok (pUn_ok t r))
      (mz_readPart (S := fun t => pUn t r) (r := r) (fun t => pUn_ok t r) (kU (12 * r + 18) (2000 * r + 1100) (by omega) (by omega)) (12 * r + 19) (2000 * r + 1200) (by omega) (by omega) (by omega)) f lo (by omega) (by omega) (by omega)
set_option maxRecDepth 20000 in
theorem mz_all {Γ : GAM} {l : Launch} {fL lL : Nat} (hL : MzL Γ l fL lL) (hfL : fL ≤ 12) (hlL : lL ≤ 600) : ∀ r, r ≤ 8 →
    (∀ f lo, 12 * r + 14 ≤ f → 2000 * r + 700 ≤ lo → MzA Γ l f lo (SpZ (fun t => pAt t r) r Γ)) ∧
    (∀ f lo, 12 * r + 16 ≤ f → 2000 * r + 900 ≤ lo → MzS Γ l f lo (SpZ (fun t => pSm t (pAt t r)) r Γ)) ∧
    (∀ f lo, 12 * r + 18 ≤ f → 2000 * r + 1100 ≤ lo → MzU Γ l f lo (SpZ (fun t => pUn t r) r Γ)) ∧
    (∀ f lo, 12 * r + 20 ≤ f → 2000 * r + 1300 ≤ lo → MzC Γ l f lo (SpZ (fun t => pCd t (pUn t r)) r Γ)) := by
  intro r
  induction r with
  | zero => exact fun h => mz_lv hL hfL hlL 0 h (f0 := 0) (l0 := 0) (by omega) (by omega) (fun _ _ _ _ _ _ _ _ h => h.elim) (fun _ _ _ _ _ _ _ _ h => h.elim) (fun _ _ _ _ _ _ _ _ h => h.elim) (fun _ _ _ _ _ _ _ _ h => h.elim)
  | succ r ih =>
    intro h
    obtain ⟨h1, h2, h3, h4⟩ := ih (by omega)
    exact mz_lv hL hfL hlL (r + 1) h (f0 := 12 * r + 20) (l0 := 2000 * r + 1300) (by omega) (by omega) (fun f lo hf hlo => h1 f lo (by omega) (by omega)) (fun f lo hf hlo => h2 f lo (by omega) (by omega)) (fun f lo hf hlo => h3 f lo (by omega) (by omega)) (fun f lo hf hlo => h4 f lo hf hlo)
/-- a rule's verdict -/
abbrev PVd : Type := Nat ⊕ (Nat × Int32 × List Int32)
def pVd (t : List Int32) (p : Nat) : PVd := if chr t (skp t p) = 118 then (match pNm t (skp t p + 1) with
      | .inl e => .inl e
      | .inr (p3, w3) => .inr (p3, 118, w3)) else if chr t (skp t p) = 99 then (match pSm t (pAt t 8) (skp t p + 1) with
      | .inl e => .inl e
      | .inr (p3, w3) => .inr (p3, 99, w3)) else if chr t (skp t p) = 103 ∨ chr t (skp t p) = 119 then .inr (skp t p + 1, chr t (skp t p), []) else .inl (skp t p)
theorem pRu_v (t : List Int32) (p : Nat) : pRu t p = match pCd t (pUn t 8) p with
  | .inl e => .inl e
  | .inr (p1, w1) => if chr t (skp t p1) = 63 then (match pVd t (skp t p1 + 1) with
    | .inl e => .inl e
    | .inr (p3, v, w3) => .inr (p3, (w1, v, w3))) else .inl (skp t p1) := by
  unfold pRu
  cases pCd t (pUn t 8) p with
  | inl e => rfl
  | inr x =>
    obtain ⟨p1, w1⟩ := x
    simp only
    split
    · unfold pVd
      split
      · cases pNm t (skp t (skp t p1 + 1) + 1) <;> rfl
      · split
        · cases pSm t (pAt t 8) (skp t (skp t p1 + 1) + 1) <;> rfl
        · split <;> rfl
    · rfl
/-- what the reader of verdicts answers -/
def TV (m : Nat) (g : GH) (t ws : List Int32) (n : Nat) (r : PVd) (b : Int32) : Prop := match r with
  | .inl e => b = 0 ∧ ∃ ws', TN m g t e ws'
  | .inr (p2, v, w) => b = 1 ∧ TN m g t p2 (ws ++ w) ∧ Ia g 901 m n = v
def SpVd (Γ : GAM) (m : Nat) (g : GH) (K : Int32 → GH → Prop) : Prop := ∃ t p ws n, TN m g t p ws ∧ ws.length ≤ p ∧ Gi g 902 m = nI n ∧ n < 40 ∧ ∀ b g', FrX m [903, 899] [898, 901] g g' → TV m g' t ws n (pVd t p) b → (∀ k, k ≠ n → Ia g' 901 m k = Ia g 901 m k) → K b g'
-- the walk of Ta_readVerdict
set_option maxRecDepth 100000 in
def B_Ta_readVerdict_90 (Γ : GAM) (R_Ta_readSum : Nat → Int32 → GH → (Int32 → GH → Prop) → Prop) (K : Int32 → GH → Prop) (s0 : Int32) (g : GH) : Prop :=
  ((s0 = 0 ∨ s0 = 1) ∧ K s0 g)
set_option maxHeartbeats 4000000 in
set_option maxRecDepth 100000 in
theorem S_Ta_readVerdict_90 {Γ : GAM} {E : EV} {fr lo : Nat} {K : Int32 → GH → Prop} (hE : GE Γ E cX6_readVerdict 2 RX6 (some (.boolean)) fr lo (fun r g' => ∃ x, r = some (.int x) ∧ K x g')) (hfr : 2 ≤ fr) (hlo : 44 ≤ lo) {R_Ta_readSum : Nat → Int32 → GH → (Int32 → GH → Prop) → Prop} {f_Ta_readSum l_Ta_readSum : Nat} (hR_Ta_readSum : (f_Ta_readSum + 1 ≤ fr ∧ 8 + (5 + 11) + l_Ta_readSum ≤ lo) ∧ ∀ (th : Nat) (p0 : Int32) g (K : Int32 → GH → Prop), R_Ta_readSum th p0 g K → MetA Γ E.2.1 yX6_readSum cX6_readSum 5 (some (.boolean)) f_Ta_readSum l_Ta_readSum [.ref th, .int p0] g (fun r g' => ∃ x, r = some (.int x) ∧ K x g')) (s0 : Int32) (g : GH) (h : B_Ta_readVerdict_90 Γ R_Ta_readSum K s0 g) : JW Γ E 90 [none, none] [.int s0] g := by
  unfold B_Ta_readVerdict_90 at h
  exact j_zret hE h.1 (by decide +kernel : decode cX6_readVerdict 90 = .ok (.ireturn, 1)) ⟨_, rfl, h.2⟩
set_option maxRecDepth 100000 in
def B_Ta_readVerdict_85 (Γ : GAM) (R_Ta_readSum : Nat → Int32 → GH → (Int32 → GH → Prop) → Prop) (K : Int32 → GH → Prop)  (g : GH) : Prop :=
  B_Ta_readVerdict_90 Γ R_Ta_readSum K (1 : Int32) g
set_option maxHeartbeats 4000000 in
set_option maxRecDepth 100000 in
theorem S_Ta_readVerdict_85 {Γ : GAM} {E : EV} {fr lo : Nat} {K : Int32 → GH → Prop} (hE : GE Γ E cX6_readVerdict 2 RX6 (some (.boolean)) fr lo (fun r g' => ∃ x, r = some (.int x) ∧ K x g')) (hfr : 2 ≤ fr) (hlo : 44 ≤ lo) {R_Ta_readSum : Nat → Int32 → GH → (Int32 → GH → Prop) → Prop} {f_Ta_readSum l_Ta_readSum : Nat} (hR_Ta_readSum : (f_Ta_readSum + 1 ≤ fr ∧ 8 + (5 + 11) + l_Ta_readSum ≤ lo) ∧ ∀ (th : Nat) (p0 : Int32) g (K : Int32 → GH → Prop), R_Ta_readSum th p0 g K → MetA Γ E.2.1 yX6_readSum cX6_readSum 5 (some (.boolean)) f_Ta_readSum l_Ta_readSum [.ref th, .int p0] g (fun r g' => ∃ x, r = some (.int x) ∧ K x g'))  (g : GH) (h : B_Ta_readVerdict_85 Γ R_Ta_readSum K  g) : JW Γ E 85 [none, none] [] g := by
  unfold B_Ta_readVerdict_85 at h
  refine j_iconst hE (by decide +kernel : decode cX6_readVerdict 85 = .ok (.iconst 1, 1)) (v := (1 : Int32)) (by decide) ?_
  refine j_goto hE (by decide +kernel : decode cX6_readVerdict 86 = .ok (.goto 4, 3)) (tgt := 90) (by decide) ?_
  exact S_Ta_readVerdict_90 hE hfr hlo hR_Ta_readSum _ _ h
set_option maxRecDepth 100000 in
def B_Ta_readVerdict_38 (Γ : GAM) (R_Ta_readSum : Nat → Int32 → GH → (Int32 → GH → Prop) → Prop) (K : Int32 → GH → Prop)  (g : GH) : Prop :=
  K (0 : Int32) g
set_option maxHeartbeats 4000000 in
set_option maxRecDepth 100000 in
theorem S_Ta_readVerdict_38 {Γ : GAM} {E : EV} {fr lo : Nat} {K : Int32 → GH → Prop} (hE : GE Γ E cX6_readVerdict 2 RX6 (some (.boolean)) fr lo (fun r g' => ∃ x, r = some (.int x) ∧ K x g')) (hfr : 2 ≤ fr) (hlo : 44 ≤ lo) {R_Ta_readSum : Nat → Int32 → GH → (Int32 → GH → Prop) → Prop} {f_Ta_readSum l_Ta_readSum : Nat} (hR_Ta_readSum : (f_Ta_readSum + 1 ≤ fr ∧ 8 + (5 + 11) + l_Ta_readSum ≤ lo) ∧ ∀ (th : Nat) (p0 : Int32) g (K : Int32 → GH → Prop), R_Ta_readSum th p0 g K → MetA Γ E.2.1 yX6_readSum cX6_readSum 5 (some (.boolean)) f_Ta_readSum l_Ta_readSum [.ref th, .int p0] g (fun r g' => ∃ x, r = some (.int x) ∧ K x g'))  (g : GH) (h : B_Ta_readVerdict_38 Γ R_Ta_readSum K  g) : JW Γ E 38 [none, none] [] g := by
  unfold B_Ta_readVerdict_38 at h
  refine j_iconst hE (by decide +kernel : decode cX6_readVerdict 38 = .ok (.iconst 0, 1)) (v := (0 : Int32)) (by decide) ?_
  exact j_zret hE (Or.inl rfl) (by decide +kernel : decode cX6_readVerdict 39 = .ok (.ireturn, 1)) ⟨_, rfl, h⟩
set_option maxRecDepth 100000 in
def B_Ta_readVerdict_29 (Γ : GAM) (R_Ta_readSum : Nat → Int32 → GH → (Int32 → GH → Prop) → Prop) (K : Int32 → GH → Prop) (l0 : Nat) (l1 : Int32) (g : GH) : Prop :=
  Kd g l0 = 8 ∧ (((Gi g 902 l0) < (40 : Int32) → Kd g l0 = 8 ∧ Kd g l0 = 8 ∧ ∀ g1 : GH, g1 = sI g 903 l0 ((Gi g 903 l0) + (1 : Int32)) → Kd g1 l0 = 8 ∧ ∃ a2 : Nat, Gr g1 901 l0 = some a2 ∧ Kd g1 l0 = 8 ∧ Kd g1 a2 = 20 ∧ inB (Gi g1 902 l0) (Ln g1 a2) ∧ ∀ g3 : GH, g3 = sA g1 (Co g1 a2) (Ow g1 a2) (Gi g1 902 l0).toNatClampNeg l1 → ((¬ (l1 = (118 : Int32)) → ((¬ (l1 = (99 : Int32)) → B_Ta_readVerdict_85 Γ R_Ta_readSum K g3) ∧ (l1 = (99 : Int32) → Kd g3 l0 = 8 ∧ R_Ta_readSum l0 (0 : Int32) g3 (fun (x5 : Int32) (g4 : GH) => ((x5 = 0 → B_Ta_readVerdict_90 Γ R_Ta_readSum K (0 : Int32) g4) ∧ (¬ (x5 = 0) → B_Ta_readVerdict_85 Γ R_Ta_readSum K g4)))))) ∧ (l1 = (118 : Int32) → Kd g3 l0 = 8 ∧ Sp_Ta_readNumber Γ l0 g3 (fun (x7 : Int32) (g6 : GH) => ((x7 = 0 ∨ x7 = 1) ∧ K x7 g6))))) ∧ (¬ ((Gi g 902 l0) < (40 : Int32)) → B_Ta_readVerdict_38 Γ R_Ta_readSum K g))
set_option maxHeartbeats 4000000 in
set_option maxRecDepth 100000 in
theorem S_Ta_readVerdict_29 {Γ : GAM} {E : EV} {fr lo : Nat} {K : Int32 → GH → Prop} (hE : GE Γ E cX6_readVerdict 2 RX6 (some (.boolean)) fr lo (fun r g' => ∃ x, r = some (.int x) ∧ K x g')) (hfr : 2 ≤ fr) (hlo : 44 ≤ lo) {R_Ta_readSum : Nat → Int32 → GH → (Int32 → GH → Prop) → Prop} {f_Ta_readSum l_Ta_readSum : Nat} (hR_Ta_readSum : (f_Ta_readSum + 1 ≤ fr ∧ 8 + (5 + 11) + l_Ta_readSum ≤ lo) ∧ ∀ (th : Nat) (p0 : Int32) g (K : Int32 → GH → Prop), R_Ta_readSum th p0 g K → MetA Γ E.2.1 yX6_readSum cX6_readSum 5 (some (.boolean)) f_Ta_readSum l_Ta_readSum [.ref th, .int p0] g (fun r g' => ∃ x, r = some (.int x) ∧ K x g')) (l0 : Nat) (l1 : Int32) (g : GH) (h : B_Ta_readVerdict_29 Γ R_Ta_readSum K l0 l1 g) : JW Γ E 29 [some (.ref l0), some (.int l1)] [] g := by
  unfold B_Ta_readVerdict_29 at h
  refine j_aload_n hE (by decide +kernel : decode cX6_readVerdict 29 = .ok (.aload_n 0, 1)) rfl rfl ?_
  obtain ⟨hk, h⟩ := h
  refine j_getI hE fg_X6_34 hk (by decide +kernel : decode cX6_readVerdict 30 = .ok (.getfield 34, 3)) ?_
  refine j_bipush hE (by decide +kernel : decode cX6_readVerdict 33 = .ok (.bipush 40, 2)) (v := (40 : Int32)) (by decide) ?_
  refine j_icmp_lt hE (by decide +kernel : decode cX6_readVerdict 35 = .ok (.if_icmp .lt 5, 3)) (tgt := 40) (by decide) (fun q => ?_) (fun q => ?_)
  · replace h := h.1 q
    refine j_aload_n hE (by decide +kernel : decode cX6_readVerdict 40 = .ok (.aload_n 0, 1)) rfl rfl ?_
    refine j_dup hE (by decide +kernel : decode cX6_readVerdict 41 = .ok (.dup, 1)) rfl ?_
    obtain ⟨hk, h⟩ := h
    refine j_getI hE fg_X6_28 hk (by decide +kernel : decode cX6_readVerdict 42 = .ok (.getfield 28, 3)) ?_
    refine j_iconst hE (by decide +kernel : decode cX6_readVerdict 45 = .ok (.iconst 1, 1)) (v := (1 : Int32)) (by decide) ?_
    refine j_iadd hE (by decide +kernel : decode cX6_readVerdict 46 = .ok (.iadd, 1)) ?_
    obtain ⟨hk, h⟩ := h
    obtain ⟨g1, hg⟩ : ∃ z, z = sI g 903 l0 ((Gi g 903 l0) + (1 : Int32)) := ⟨_, rfl⟩; replace h := h g1 hg
    refine j_putI hE fa_X6_28 hk (fun q => by cases q) (by decide +kernel : decode cX6_readVerdict 47 = .ok (.putfield 28, 3)) ?_
    rw [← hg]
    refine j_aload_n hE (by decide +kernel : decode cX6_readVerdict 50 = .ok (.aload_n 0, 1)) rfl rfl ?_
    obtain ⟨hk, h⟩ := h
    obtain ⟨a2, ha, h⟩ := h
    refine j_getRn hE fg_X6_21 hk ha (by decide +kernel : decode cX6_readVerdict 51 = .ok (.getfield 21, 3)) ?_
    refine j_aload_n hE (by decide +kernel : decode cX6_readVerdict 54 = .ok (.aload_n 0, 1)) rfl rfl ?_
    obtain ⟨hk, h⟩ := h
    refine j_getI hE fg_X6_34 hk (by decide +kernel : decode cX6_readVerdict 55 = .ok (.getfield 34, 3)) ?_
    refine j_iload_n hE (by decide +kernel : decode cX6_readVerdict 58 = .ok (.iload_n 1, 1)) rfl rfl ?_
    obtain ⟨hk, hb, h⟩ := h
    obtain ⟨g3, hg⟩ : ∃ z, z = sA g1 (Co g1 a2) (Ow g1 a2) (Gi g1 902 l0).toNatClampNeg l1 := ⟨_, rfl⟩; replace h := h g3 hg
    refine j_iast hE hk hb (by decide +kernel : decode cX6_readVerdict 59 = .ok (.iastore, 1)) ?_
    rw [← hg]
    refine j_iload_n hE (by decide +kernel : decode cX6_readVerdict 60 = .ok (.iload_n 1, 1)) rfl rfl ?_
    refine j_bipush hE (by decide +kernel : decode cX6_readVerdict 61 = .ok (.bipush 118, 2)) (v := (118 : Int32)) (by decide) ?_
    refine j_icmp_ne hE (by decide +kernel : decode cX6_readVerdict 63 = .ok (.if_icmp .ne 8, 3)) (tgt := 71) (by decide) (fun q => ?_) (fun q => ?_)
    · replace h := h.1 q
      refine j_iload_n hE (by decide +kernel : decode cX6_readVerdict 71 = .ok (.iload_n 1, 1)) rfl rfl ?_
      refine j_bipush hE (by decide +kernel : decode cX6_readVerdict 72 = .ok (.bipush 99, 2)) (v := (99 : Int32)) (by decide) ?_
      refine j_icmp_ne hE (by decide +kernel : decode cX6_readVerdict 74 = .ok (.if_icmp .ne 11, 3)) (tgt := 85) (by decide) (fun q => ?_) (fun q => ?_)
      · replace h := h.1 q
        refine j_weak [none, none] trivial ?_
        exact S_Ta_readVerdict_85 hE hfr hlo hR_Ta_readSum _ h
      · replace h := h.2 q
        refine j_aload_n hE (by decide +kernel : decode cX6_readVerdict 77 = .ok (.aload_n 0, 1)) rfl rfl ?_
        refine j_iconst hE (by decide +kernel : decode cX6_readVerdict 78 = .ok (.iconst 0, 1)) (v := (0 : Int32)) (by decide) ?_
        obtain ⟨hk, h⟩ := h
        refine j_callV hE rfl cl_X6_58 cf_7 im_X6_readSum se_X6_readSum hR_Ta_readSum.1 (As := [.int (0 : Int32)]) (rest := []) rfl rfl (Nat.le_of_ble_eq_true rfl) hk (by decide +kernel : decode cX6_readVerdict 79 = .ok (.invokevirtual 58, 3)) (hR_Ta_readSum.2 _ _ _ _ h) ?_
        rintro _ g4 ⟨x5, rfl, h⟩
        refine j_if_eq hE (by decide +kernel : decode cX6_readVerdict 82 = .ok (.ifCond .eq 7, 3)) (tgt := 89) (by decide) (fun q => ?_) (fun q => ?_)
        · replace h := h.1 q
          refine j_iconst hE (by decide +kernel : decode cX6_readVerdict 89 = .ok (.iconst 0, 1)) (v := (0 : Int32)) (by decide) ?_
          refine j_weak [none, none] trivial ?_
          exact S_Ta_readVerdict_90 hE hfr hlo hR_Ta_readSum _ _ h
        · replace h := h.2 q
          refine j_weak [none, none] trivial ?_
          exact S_Ta_readVerdict_85 hE hfr hlo hR_Ta_readSum _ h
    · replace h := h.2 q
      refine j_aload_n hE (by decide +kernel : decode cX6_readVerdict 66 = .ok (.aload_n 0, 1)) rfl rfl ?_
      obtain ⟨hk, h⟩ := h
      refine j_callV hE rfl cl_X6_55 cf_7 im_X6_readNumber se_X6_readNumber ⟨by omega, by omega⟩ (As := []) (rest := []) rfl rfl (Nat.le_of_ble_eq_true rfl) hk (by decide +kernel : decode cX6_readVerdict 67 = .ok (.invokevirtual 55, 3)) (mt_Ta_readNumber _ _ _ h) ?_
      rintro _ g6 ⟨x7, rfl, h⟩
      exact j_zret hE h.1 (by decide +kernel : decode cX6_readVerdict 70 = .ok (.ireturn, 1)) ⟨_, rfl, h.2⟩
  · replace h := h.2 q
    refine j_weak [none, none] trivial ?_
    exact S_Ta_readVerdict_38 hE hfr hlo hR_Ta_readSum _ h
set_option maxRecDepth 100000 in
def B_Ta_readVerdict_0 (Γ : GAM) (R_Ta_readSum : Nat → Int32 → GH → (Int32 → GH → Prop) → Prop) (K : Int32 → GH → Prop) (th : Nat) (g : GH) : Prop :=
  Kd g th = 8 ∧ Sp_Ta_nextSign Γ th g (fun (x2 : Int32) (g1 : GH) => ((x2 = (103 : Int32) → B_Ta_readVerdict_29 Γ R_Ta_readSum K th x2 g1) ∧ (¬ (x2 = (103 : Int32)) → ((x2 = (119 : Int32) → B_Ta_readVerdict_29 Γ R_Ta_readSum K th x2 g1) ∧ (¬ (x2 = (119 : Int32)) → ((x2 = (118 : Int32) → B_Ta_readVerdict_29 Γ R_Ta_readSum K th x2 g1) ∧ (¬ (x2 = (118 : Int32)) → ((¬ (x2 = (99 : Int32)) → B_Ta_readVerdict_38 Γ R_Ta_readSum K g1) ∧ (x2 = (99 : Int32) → B_Ta_readVerdict_29 Γ R_Ta_readSum K th x2 g1)))))))))
set_option maxHeartbeats 4000000 in
set_option maxRecDepth 100000 in
theorem S_Ta_readVerdict_0 {Γ : GAM} {E : EV} {fr lo : Nat} {K : Int32 → GH → Prop} (hE : GE Γ E cX6_readVerdict 2 RX6 (some (.boolean)) fr lo (fun r g' => ∃ x, r = some (.int x) ∧ K x g')) (hfr : 2 ≤ fr) (hlo : 44 ≤ lo) {R_Ta_readSum : Nat → Int32 → GH → (Int32 → GH → Prop) → Prop} {f_Ta_readSum l_Ta_readSum : Nat} (hR_Ta_readSum : (f_Ta_readSum + 1 ≤ fr ∧ 8 + (5 + 11) + l_Ta_readSum ≤ lo) ∧ ∀ (th : Nat) (p0 : Int32) g (K : Int32 → GH → Prop), R_Ta_readSum th p0 g K → MetA Γ E.2.1 yX6_readSum cX6_readSum 5 (some (.boolean)) f_Ta_readSum l_Ta_readSum [.ref th, .int p0] g (fun r g' => ∃ x, r = some (.int x) ∧ K x g')) (th : Nat) (g : GH) (h : B_Ta_readVerdict_0 Γ R_Ta_readSum K th g) : JW Γ E 0 [some (.ref th), none] [] g := by
  unfold B_Ta_readVerdict_0 at h
  refine j_aload_n hE (by decide +kernel : decode cX6_readVerdict 0 = .ok (.aload_n 0, 1)) rfl rfl ?_
  obtain ⟨hk, h⟩ := h
  refine j_callV hE rfl cl_X6_45 cf_7 im_X6_nextSign se_X6_nextSign ⟨by omega, by omega⟩ (As := []) (rest := []) rfl rfl (Nat.le_of_ble_eq_true rfl) hk (by decide +kernel : decode cX6_readVerdict 1 = .ok (.invokevirtual 45, 3)) (mt_Ta_nextSign _ _ _ h) ?_
  rintro _ g1 ⟨x2, rfl, h⟩
  refine j_istore_n hE (by decide +kernel : decode cX6_readVerdict 4 = .ok (.istore_n 1, 1)) rfl (Nat.le_of_ble_eq_true rfl) rfl ?_
  refine j_iload_n hE (by decide +kernel : decode cX6_readVerdict 5 = .ok (.iload_n 1, 1)) rfl rfl ?_
  refine j_bipush hE (by decide +kernel : decode cX6_readVerdict 6 = .ok (.bipush 103, 2)) (v := (103 : Int32)) (by decide) ?_
  refine j_icmp_eq hE (by decide +kernel : decode cX6_readVerdict 8 = .ok (.if_icmp .eq 21, 3)) (tgt := 29) (by decide) (fun q => ?_) (fun q => ?_)
  · replace h := h.1 q
    exact S_Ta_readVerdict_29 hE hfr hlo hR_Ta_readSum _ _ _ h
  · replace h := h.2 q
    refine j_iload_n hE (by decide +kernel : decode cX6_readVerdict 11 = .ok (.iload_n 1, 1)) rfl rfl ?_
    refine j_bipush hE (by decide +kernel : decode cX6_readVerdict 12 = .ok (.bipush 119, 2)) (v := (119 : Int32)) (by decide) ?_
    refine j_icmp_eq hE (by decide +kernel : decode cX6_readVerdict 14 = .ok (.if_icmp .eq 15, 3)) (tgt := 29) (by decide) (fun q => ?_) (fun q => ?_)
    · replace h := h.1 q
      exact S_Ta_readVerdict_29 hE hfr hlo hR_Ta_readSum _ _ _ h
    · replace h := h.2 q
      refine j_iload_n hE (by decide +kernel : decode cX6_readVerdict 17 = .ok (.iload_n 1, 1)) rfl rfl ?_
      refine j_bipush hE (by decide +kernel : decode cX6_readVerdict 18 = .ok (.bipush 118, 2)) (v := (118 : Int32)) (by decide) ?_
      refine j_icmp_eq hE (by decide +kernel : decode cX6_readVerdict 20 = .ok (.if_icmp .eq 9, 3)) (tgt := 29) (by decide) (fun q => ?_) (fun q => ?_)
      · replace h := h.1 q
        exact S_Ta_readVerdict_29 hE hfr hlo hR_Ta_readSum _ _ _ h
      · replace h := h.2 q
        refine j_iload_n hE (by decide +kernel : decode cX6_readVerdict 23 = .ok (.iload_n 1, 1)) rfl rfl ?_
        refine j_bipush hE (by decide +kernel : decode cX6_readVerdict 24 = .ok (.bipush 99, 2)) (v := (99 : Int32)) (by decide) ?_
        refine j_icmp_ne hE (by decide +kernel : decode cX6_readVerdict 26 = .ok (.if_icmp .ne 12, 3)) (tgt := 38) (by decide) (fun q => ?_) (fun q => ?_)
        · replace h := h.1 q
          refine j_weak [none, none] trivial ?_
          exact S_Ta_readVerdict_38 hE hfr hlo hR_Ta_readSum _ h
        · replace h := h.2 q
          exact S_Ta_readVerdict_29 hE hfr hlo hR_Ta_readSum _ _ _ h
set_option maxHeartbeats 4000000 in
set_option maxRecDepth 100000 in
theorem rl_Ta_readVerdict {Γ : GAM} {l : Launch} {fr lo : Nat} (hfr : 2 ≤ fr) (hlo : 44 ≤ lo) {R_Ta_readSum : Nat → Int32 → GH → (Int32 → GH → Prop) → Prop} {f_Ta_readSum l_Ta_readSum : Nat} (hR_Ta_readSum : (f_Ta_readSum + 1 ≤ fr ∧ 8 + (5 + 11) + l_Ta_readSum ≤ lo) ∧ ∀ (th : Nat) (p0 : Int32) g (K : Int32 → GH → Prop), R_Ta_readSum th p0 g K → MetA Γ l yX6_readSum cX6_readSum 5 (some (.boolean)) f_Ta_readSum l_Ta_readSum [.ref th, .int p0] g (fun r g' => ∃ x, r = some (.int x) ∧ K x g')) {th : Nat} {g : GH} {K : Int32 → GH → Prop} (h0 : B_Ta_readVerdict_0 Γ R_Ta_readSum K th g) : MetA Γ l yX6_readVerdict cX6_readVerdict 2 (some (.boolean)) fr lo [.ref th] g (fun r g' => ∃ x, r = some (.int x) ∧ K x g') := by
  refine MetA.introL (Lx := [some (.ref th), none]) (by decide) (Nat.le_of_ble_eq_true rfl) rfl rfl ?_
  intro E hEl hE hnm
  have hR_Ta_readSum := hR_Ta_readSum; rw [← hEl] at hR_Ta_readSum
  exact S_Ta_readVerdict_0 hE hfr hlo hR_Ta_readSum th g h0
theorem mz_readVerdict {Γ : GAM} {l : Launch} {f' l' : Nat} (hSm : MzS Γ l f' l' (SpZ (fun t => pSm t (pAt t 8)) 8 Γ)) (f lo : Nat) (hf : f' + 1 ≤ f) (hf3 : 3 ≤ f) (hlo : 60 + l' ≤ lo) (th : Nat) (g : GH) (K : Int32 → GH → Prop) (h : SpVd Γ th g K) : MetA Γ l yX6_readVerdict cX6_readVerdict 2 (some (.boolean)) f lo [.ref th] g (fun r g' => ∃ x, r = some (.int x) ∧ K x g') := by
  obtain ⟨t, p, ws, n, hN, hwp, hn, hn40, hK⟩ := h
  have hT := hN.1.2.2.1
  have hpl := hN.2.2.1
  have gg1 := skp_ge t p
  have gg2 := skp_le hpl
  refine rl_Ta_readVerdict (R_Ta_readSum := SpZ (fun t => pSm t (pAt t 8)) 8 Γ) (f_Ta_readSum := f') (l_Ta_readSum := l') (by omega) (by omega) ⟨⟨hf, by omega⟩, hSm⟩ ?_
  unfold B_Ta_readVerdict_0
  refine ⟨hN.1.1.1, t, p, ws, hN, fun g1 hx1 hN1 => ?_⟩
  have hK1 : ∀ b g', FrX th [903, 899] [898, 901] g g' → TV th g' t ws n (pVd t p) b → (∀ k, k ≠ n → Ia g' 901 th k = Ia g 901 th k) → K b g' := hK
  unfold pVd at hK1
  have f1 : FrX th [903, 899] [898, 901] g g1 := hx1.up (by decide) (by decide)
  have iv1 : Ia g1 901 th = Ia g 901 th := hx1.2.2 _ (by decide)
  obtain ⟨q0, hq0⟩ : ∃ q0, skp t p = q0 := ⟨_, rfl⟩
  rw [hq0] at gg1 gg2 hN1 hK1
  rw [hq0]
  have h29 : ∀ c, chr t q0 = c → (c = 103 ∨ c = 119 ∨ c = 118 ∨ c = 99) → B_Ta_readVerdict_29 Γ (SpZ (fun t => pSm t (pAt t 8)) 8 Γ) K th c g1 := fun c hc h4 => by
    have hlt : q0 < t.length := chr_in (by rw [hc]; rcases h4 with rfl | rfl | rfl | rfl <;> decide)
    rw [hc] at hK1
    unfold B_Ta_readVerdict_29 B_Ta_readVerdict_85 B_Ta_readVerdict_90
    have hkd1 := hN1.1.1.1
    have r1 : Gi g1 902 th = nI n := (hx1.2.1 _ (by decide)).trans hn
    rw [r1]
    refine ⟨hkd1, fun _ => ⟨hkd1, hkd1, ?_⟩, fun u => absurd ((nj_lt (b := 40) (by omega) (by omega)).mpr hn40) u⟩
    rintro g2 rfl
    obtain ⟨y1, y2⟩ := hN1.at (q := q0 + 1) hlt
    rw [← nj_s, ← hN1.2.1] at y1 y2
    obtain ⟨⟨_, a1, a2, a3, a4, _, _, _, ⟨z1, z2, z3, z4, z5⟩⟩, _⟩ := y1.1
    rw [show Gi (sI g1 903 th (Gi g1 903 th + 1)) 902 th = nI n by rw [Gi_sI, if_neg (fun q => absurd q.1 (by decide))]; exact r1]
    refine ⟨y1.1.1.1, a4, z1, y1.1.1.1, z2, by rw [z5]; exact inB_nI hn40 (by omega), ?_⟩
    rw [z3, z4, nj_cl (by omega)]
    rintro g3 rfl
    have x3 : FrX th [] [901] (sI g1 903 th (Gi g1 903 th + 1)) (sA (sI g1 903 th (Gi g1 903 th + 1)) 901 th n c) := FrX.sA (by decide)
    have f3 : FrX th [903, 899] [898, 901] g (sA (sI g1 903 th (Gi g1 903 th + 1)) 901 th n c) := f1.tr ((y2.up (by decide) (by decide)).tr (x3.up (by decide) (by decide)))
    have iv3 : ∀ k, Ia (sA (sI g1 903 th (Gi g1 903 th + 1)) 901 th n c) 901 th k = if k = n then c else Ia g 901 th k := fun k => by
      rw [Ia_sA, Ia_sI, iv1]; simp
    have N3 : TN th (sA (sI g1 903 th (Gi g1 903 th + 1)) 901 th n c) t (q0 + 1) ws := by
      obtain ⟨b1, b2, b3, b4, b5, b6⟩ := y1
      refine ⟨b1.x x3 (by decide) (by decide), b2, b3, b4, b5, fun k x hk => ?_⟩
      rw [Ia_sA, if_neg (fun q => absurd q.1 (by decide))]; exact b6 k x hk
    obtain ⟨gg, hgg⟩ : ∃ gg, sA (sI g1 903 th (Gi g1 903 th + 1)) 901 th n c = gg := ⟨_, rfl⟩
    rw [hgg] at f3 iv3 N3
    rw [hgg]
    -- a piece behind the verdict
    have hpc : ∀ (b : Int32) (g' : GH) (w : List Int32) (p2 : Nat), FrX th [903, 899] [898] gg g' → TN th g' t p2 (ws ++ w) → FrX th [903, 899] [898, 901] g g' ∧ (∀ k, k ≠ n → Ia g' 901 th k = Ia g 901 th k) ∧ Ia g' 901 th n = c := fun b g' w p2 hx _ => by
      have e : Ia g' 901 th = Ia gg 901 th := hx.2.2 _ (by decide)
      refine ⟨f3.tr (hx.up (by decide) (by decide)), fun k hk => ?_, ?_⟩
      · rw [e, iv3 k, if_neg hk]
      · rw [e, iv3 n, if_pos rfl]
    have hpe : ∀ (g' : GH), FrX th [903, 899] [898] gg g' → FrX th [903, 899] [898, 901] g g' ∧ (∀ k, k ≠ n → Ia g' 901 th k = Ia g 901 th k) ∧ Ia g' 901 th n = c := fun g' hx => by
      have e : Ia g' 901 th = Ia gg 901 th := hx.2.2 _ (by decide)
      refine ⟨f3.tr (hx.up (by decide) (by decide)), fun k hk => ?_, ?_⟩
      · rw [e, iv3 k, if_neg hk]
      · rw [e, iv3 n, if_pos rfl]
    refine ⟨fun n118 => ⟨fun n99 => ⟨.inr rfl, ?_⟩, fun e99 => ⟨N3.1.1.1, rfl, t, q0 + 1, ws, N3, by omega, fun b4 g4 hx4 hO4 => ?_⟩⟩, fun e118 => ⟨N3.1.1.1, t, q0 + 1, ws, N3, by omega, fun b4 g4 hx4 hO4 => ⟨hO4.b, ?_⟩⟩⟩
    · obtain ⟨k1, k2, k3⟩ := hpe gg FrX.rf
      refine hK1 1 gg k1 ?_ k2
      have h2 : c = 103 ∨ c = 119 := by
        rcases h4 with z | z | z | z
        · exact .inl z
        · exact .inr z
        · exact absurd z n118
        · exact absurd z n99
      rw [if_neg n118, if_neg n99, if_pos h2]
      refine ⟨rfl, ?_, k3⟩
      rw [List.append_nil]; exact N3
    · obtain ⟨k1, k2, k3⟩ := hpe g4 hx4
      have e : TV th g4 t ws n (match pSm t (pAt t 8) (q0 + 1) with
        | .inl e => .inl e
        | .inr (p3, w3) => .inr (p3, 99, w3)) b4 := by
        have hO4' : TO th g4 t ws (pSm t (pAt t 8) (q0 + 1)) b4 := hO4
        cases hr : pSm t (pAt t 8) (q0 + 1) with
        | inl e => rw [hr] at hO4'; exact hO4'
        | inr x =>
          obtain ⟨p3, w3⟩ := x
          rw [hr] at hO4'
          exact ⟨hO4'.1, hO4'.2, by rw [k3]; exact e99⟩
      have hb := hO4.b
      have hk := hK1 b4 g4 k1 (by rw [if_neg n118, if_pos e99]; exact e) k2
      refine ⟨fun u => ⟨.inl rfl, ?_⟩, fun u => ⟨.inr rfl, ?_⟩⟩
      · rw [u] at hk; exact hk
      · rw [hb.resolve_left u] at hk; exact hk
    · obtain ⟨k1, k2, k3⟩ := hpe g4 hx4
      refine hK1 b4 g4 k1 ?_ k2
      rw [if_pos e118]
      have hO4' : TO th g4 t ws (pNm t (q0 + 1)) b4 := hO4
      cases hr : pNm t (q0 + 1) with
      | inl e => rw [hr] at hO4'; exact hO4'
      | inr x =>
        obtain ⟨p3, w3⟩ := x
        rw [hr] at hO4'
        exact ⟨hO4'.1, hO4'.2, by rw [k3]; exact e118⟩
  have hcm : ∀ c : Int32, c ≠ 0 → c ≠ -1 → (c = 103 ∨ c = 119 ∨ c = 118 ∨ c = 99) → sg t q0 = c → B_Ta_readVerdict_29 Γ (SpZ (fun t => pSm t (pAt t 8)) 8 Γ) K th (sg t q0) g1 := fun c c0 c1 hc u => by
    rw [u]
    exact h29 c ((sg_eq c0 c1).mp u) hc
  refine ⟨hcm 103 (by decide) (by decide) (by decide), fun n1 => ⟨hcm 119 (by decide) (by decide) (by decide), fun n2 => ⟨hcm 118 (by decide) (by decide) (by decide), fun n3 => ⟨fun n4 => ?_, hcm 99 (by decide) (by decide) (by decide)⟩⟩⟩⟩
  unfold B_Ta_readVerdict_38
  refine hK1 0 g1 f1 ?_ (fun k _ => by rw [iv1])
  have d : ∀ c : Int32, c ≠ 0 → c ≠ -1 → ¬ (sg t q0 = c) → ¬ (chr t q0 = c) := fun c c0 c1 u z => u ((sg_eq c0 c1).mpr z)
  rw [if_neg (d 118 (by decide) (by decide) n3), if_neg (d 99 (by decide) (by decide) n4), if_neg (fun z => by
    rcases z with z | z
    · exact d 103 (by decide) (by decide) n1 z
    · exact d 119 (by decide) (by decide) n2 z)]
  exact ⟨rfl, _, hN1⟩
