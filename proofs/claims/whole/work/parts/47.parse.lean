/-! the text of a law: how it is read, as a function -/
abbrev PRs : Type := Nat ⊕ (Nat × List Int32)
abbrev isDg (c : Int32) : Prop := 48 ≤ c ∧ c ≤ 57
def skp (t : List Int32) (p : Nat) : Nat := p + ((t.drop p).takeWhile (fun c => decide (c = 32))).length
def chr (t : List Int32) (p : Nat) : Int32 := t[p]?.getD (-1)
def nmL (t : List Int32) : Nat → Nat → Int32 → Nat × Int32
  | 0, p, v => (p, v)
  | n + 1, p, v => if isDg (chr t p) then nmL t n (p + 1) (10 * v + chr t p - 48) else (p, v)
def pNm (t : List Int32) (p : Nat) : PRs := if isDg (chr t (skp t p)) then .inr ((nmL t 4 (skp t p) 0).1, [(nmL t 4 (skp t p) 0).2]) else .inl (skp t p)
def pLp (t : List Int32) (it : Nat → PRs) (sp : Int32 → Bool) : Nat → Nat → List Int32 → PRs
  | 0, p, ws => .inr (p, ws)
  | f + 1, p, ws => if sp (chr t (skp t p)) = true then (match it (skp t p + 1) with
    | .inl e => .inl e
    | .inr (p2, w) => pLp t it sp f p2 (ws ++ w ++ [-(chr t (skp t p))])) else .inr (skp t p, ws)
def pSq (t : List Int32) (it : Nat → PRs) (sp : Int32 → Bool) (p : Nat) : PRs := match it p with
  | .inl e => .inl e
  | .inr (p1, w1) => pLp t it sp t.length p1 w1
def sp42 (c : Int32) : Bool := decide (c = 42)
def sp43 (c : Int32) : Bool := decide (c = 43 ∨ c = 45)
def sp38 (c : Int32) : Bool := decide (c = 38)
def sp124 (c : Int32) : Bool := decide (c = 124)
def pTm (t : List Int32) (a : Nat → PRs) : Nat → PRs := pSq t a sp42
def pSm (t : List Int32) (a : Nat → PRs) : Nat → PRs := pSq t (pTm t a) sp43
def pPt (t : List Int32) (u : Nat → PRs) : Nat → PRs := pSq t u sp38
def pCd (t : List Int32) (u : Nat → PRs) : Nat → PRs := pSq t (pPt t u) sp124
/-- behind an inner piece its closing sign -/
def pCl (t : List Int32) (c : Int32) (r : PRs) : PRs := match r with
  | .inl e => .inl e
  | .inr (p2, w) => if chr t (skp t p2) = c then .inr (skp t p2 + 1, w) else .inl (skp t p2)
def pOp (c : Int32) (r : PRs) : PRs := match r with
  | .inl e => .inl e
  | .inr (p2, w) => .inr (p2, w ++ [-c])
def aF (t : List Int32) (o : Option (Nat → PRs)) (p : Nat) : PRs := if okLt (chr t (skp t p)) then .inr (skp t p + 1, [-(chr t (skp t p))]) else if chr t (skp t p) = 91 then (match o with
    | none => .inl (skp t p)
    | some a => pCl t 93 (pSm t a (skp t p + 1))) else if chr t (skp t p) = 45 then (match o with
    | none => .inl (skp t p)
    | some a => pOp 126 (a (skp t p + 1))) else pNm t p
def pAt (t : List Int32) : Nat → Nat → PRs
  | 0 => aF t none
  | r + 1 => aF t (some (pAt t r))
abbrev isCm (c : Int32) : Prop := c = 61 ∨ c = 60 ∨ c = 62 ∨ c = 35
def pCp (t : List Int32) (sm : Nat → PRs) (p : Nat) : PRs := match sm p with
  | .inl e => .inl e
  | .inr (p2, w) => if isCm (chr t (skp t p2)) then (match sm (skp t p2 + 1) with
    | .inl e => .inl e
    | .inr (p3, w3) => .inr (p3, w ++ w3 ++ [-(chr t (skp t p2))])) else .inl (skp t p2)
def uF (t : List Int32) (sm : Nat → PRs) (o : Option (Nat → PRs)) (p : Nat) : PRs := if chr t (skp t p) = 33 then (match o with
    | none => .inl (skp t p)
    | some u => pOp 33 (u (skp t p + 1))) else if chr t (skp t p) = 40 then (match o with
    | none => .inl (skp t p)
    | some u => pCl t 41 (pCd t u (skp t p + 1))) else pCp t sm (skp t p)
def pUn (t : List Int32) : Nat → Nat → PRs
  | 0 => uF t (pSm t (pAt t 0)) none
  | r + 1 => uF t (pSm t (pAt t (r + 1))) (some (pUn t r))
abbrev Rl : Type := List Int32 × Int32 × List Int32
abbrev PRl : Type := Nat ⊕ (Nat × Rl)
def pRu (t : List Int32) (p : Nat) : PRl := match pCd t (pUn t 8) p with
  | .inl e => .inl e
  | .inr (p1, w1) => if chr t (skp t p1) = 63 then (if chr t (skp t (skp t p1 + 1)) = 118 then (match pNm t (skp t (skp t p1 + 1) + 1) with
      | .inl e => .inl e
      | .inr (p3, w3) => .inr (p3, (w1, 118, w3))) else if chr t (skp t (skp t p1 + 1)) = 99 then (match pSm t (pAt t 8) (skp t (skp t p1 + 1) + 1) with
      | .inl e => .inl e
      | .inr (p3, w3) => .inr (p3, (w1, 99, w3))) else if chr t (skp t (skp t p1 + 1)) = 103 ∨ chr t (skp t (skp t p1 + 1)) = 119 then .inr (skp t (skp t p1 + 1) + 1, (w1, chr t (skp t (skp t p1 + 1)), [])) else .inl (skp t (skp t p1 + 1))) else .inl (skp t p1)
def pRs (t : List Int32) : Nat → Nat → List Rl → Nat ⊕ List Rl
  | 0, p, rs => if skp t p < t.length then .inl (skp t p) else .inr rs
  | f + 1, p, rs => if chr t (skp t p) = 59 then (match pRu t (skp t p + 1) with
      | .inl e => .inl e
      | .inr (p2, r) => pRs t f p2 (rs ++ [r])) else if skp t p < t.length then .inl (skp t p) else .inr rs
def pAll (t : List Int32) : Nat ⊕ List Rl := match pRu t 0 with
  | .inl e => .inl e
  | .inr (p1, r) => pRs t t.length p1 [r]
-- blanks and signs
theorem skp_ge (t : List Int32) (p : Nat) : p ≤ skp t p := Nat.le_add_right _ _
theorem skp_le {t : List Int32} {p : Nat} (h : p ≤ t.length) : skp t p ≤ t.length := by
  unfold skp
  have h1 : ((t.drop p).takeWhile (fun c => decide (c = 32))).length ≤ (t.drop p).length := (List.takeWhile_sublist _).length_le
  rw [List.length_drop] at h1
  omega
theorem skp_end {t : List Int32} {p : Nat} (h : t.length ≤ p) : skp t p = p := by
  unfold skp
  rw [List.drop_eq_nil_of_le h]; rfl
theorem chr_lt {t : List Int32} {p : Nat} (h : p < t.length) : t[p]? = some (chr t p) := by
  unfold chr
  rw [List.getElem?_eq_getElem h]; rfl
theorem chr_end {t : List Int32} {p : Nat} (h : t.length ≤ p) : chr t p = -1 := by
  unfold chr
  rw [List.getElem?_eq_none h]; rfl
theorem chr_in {t : List Int32} {p : Nat} (h : chr t p ≠ -1) : p < t.length := Classical.byContradiction (fun q => h (chr_end (by omega)))
theorem skp_s {t : List Int32} {p : Nat} (h : chr t p = 32) : skp t p = skp t (p + 1) := by
  have hp : p < t.length := chr_in (by rw [h]; decide)
  unfold skp
  rw [List.drop_eq_getElem_cons hp]
  have : t[p] = 32 := by
    have := chr_lt hp
    rw [List.getElem?_eq_getElem hp, h] at this
    exact Option.some.inj this
  rw [this, List.takeWhile_cons]
  simp only [decide_true, if_true, List.length_cons]
  omega
theorem skp_n {t : List Int32} {p : Nat} (h : chr t p ≠ 32) : skp t p = p := by
  rcases Nat.lt_or_ge p t.length with hp | hp
  · unfold skp
    rw [List.drop_eq_getElem_cons hp]
    have : ¬ t[p] = 32 := by
      have := chr_lt hp
      rw [List.getElem?_eq_getElem hp] at this
      rw [Option.some.inj this]
      exact h
    rw [List.takeWhile_cons]
    simp [this]
  · exact skp_end hp
theorem skp_ok (t : List Int32) : ∀ n p, t.length - p ≤ n → chr t (skp t p) ≠ 32 := by
  intro n
  induction n with
  | zero =>
    intro p h
    rw [skp_end (by omega), chr_end (by omega)]; decide
  | succ n ih =>
    intro p h
    by_cases q : chr t p = 32
    · rw [skp_s q]; exact ih (p + 1) (by omega)
    · rw [skp_n q]; exact q
theorem skp_i (t : List Int32) (p : Nat) : skp t (skp t p) = skp t p := skp_n (skp_ok t _ p (Nat.le_refl _))
theorem dg_n {c : Int32} (h : isDg c) : c ≠ 32 ∧ c ≠ -1 ∧ ¬ okLt c ∧ c ≠ 42 ∧ c ≠ 43 ∧ c ≠ 45 ∧ c ≠ 38 ∧ c ≠ 124 ∧ c ≠ 93 ∧ c ≠ 41 ∧ c ≠ 63 ∧ c ≠ 59 ∧ ¬ isCm c ∧ c ≠ 91 ∧ c ≠ 33 ∧ c ≠ 40 := by
  have hl : ¬ okLt c := fun q => by
    unfold okLt at q
    rcases q with rfl | rfl | rfl | rfl | rfl | rfl | rfl | rfl | rfl | rfl | rfl | rfl | rfl | rfl | rfl | rfl | rfl
    all_goals exact absurd h (by decide)
  refine ⟨?_, ?_, hl, ?_, ?_, ?_, ?_, ?_, ?_, ?_, ?_, ?_, ?_, ?_, ?_, ?_⟩
  all_goals (intro q; grind)
/-- the loop, unfolded once -/
theorem pLp_u {t : List Int32} {it : Nat → PRs} {sp : Int32 → Bool} (hs : sp (-1) = false) {f p : Nat} (hf : t.length ≤ f + p) (ws : List Int32) : pLp t it sp f p ws = if sp (chr t (skp t p)) = true then (match it (skp t p + 1) with
    | .inl e => .inl e
    | .inr (p2, w) => pLp t it sp (f - 1) p2 (ws ++ w ++ [-(chr t (skp t p))])) else .inr (skp t p, ws) := by
  cases f with
  | zero =>
    rw [skp_end (show t.length ≤ p by omega), chr_end (show t.length ≤ p by omega), hs]
    simp [pLp]
  | succ f => rfl
-- what a piece that was read keeps to
def OKr (t : List Int32) (p : Nat) (b : Bool) (r : PRs) : Prop := match r with
  | .inl e => e ≤ t.length
  | .inr (p2, w) => p < p2 ∧ p2 ≤ t.length ∧ w.length + p ≤ p2 ∧ (enC w).length + 2 * p ≤ 2 * p2 ∧ ∀ tt, tyC w tt = some (b :: tt)
def PG (t : List Int32) (b : Bool) (it : Nat → PRs) : Prop := ∀ p, p ≤ t.length → OKr t p b (it p)
theorem enC_app (a b : List Int32) : enC (a ++ b) = enC a ++ enC b := by unfold enC; rw [List.flatMap_append]
theorem enW_le (w : Int32) : (enW w).length ≤ 2 := by
  unfold enW
  repeat' split
  all_goals simp
theorem enC_1 (w : Int32) : enC [w] = enW w := by unfold enC; simp
def opT (b : Bool) (c : Int32) : Prop := (∀ tt, tyW (-c) (b :: b :: tt) = some (b :: tt)) ∧ enW (-c) = [c]
theorem pLp_ok {t : List Int32} {b : Bool} {it : Nat → PRs} {sp : Int32 → Bool} (hi : PG t b it) (hs : sp (-1) = false) (ho : ∀ c, sp c = true → opT b c) (p0 : Nat) : ∀ f p ws, p0 < p → p ≤ t.length → ws.length + p0 ≤ p → (enC ws).length + 2 * p0 ≤ 2 * p → (∀ tt, tyC ws tt = some (b :: tt)) → OKr t p0 b (pLp t it sp f p ws) := by
  intro f
  induction f with
  | zero => intro p ws h1 h2 h3 h4 h5; exact ⟨h1, h2, h3, h4, h5⟩
  | succ f ih =>
    intro p ws h1 h2 h3 h4 h5
    have g1 := skp_ge t p
    have g2 := skp_le h2
    unfold pLp
    split
    · rename_i hc
      have hlt : skp t p < t.length := chr_in (fun q => by rw [q, hs] at hc; exact absurd hc (by decide))
      have h := hi (skp t p + 1) (by omega)
      cases hr : it (skp t p + 1) with
      | inl e => rw [hr] at h; exact h
      | inr x =>
        obtain ⟨p2, w⟩ := x
        rw [hr] at h
        obtain ⟨k1, k2, k3, k4, k5⟩ := h
        obtain ⟨o1, o2⟩ := ho _ hc
        refine ih p2 _ (by omega) k2 ?_ ?_ (fun tt => ?_)
        · simp only [List.length_append, List.length_cons, List.length_nil]; omega
        · rw [enC_app, enC_app, enC_1, o2]
          simp only [List.length_append, List.length_cons, List.length_nil]; omega
        · rw [tyC_app, tyC_app, h5]
          simp only [k5, tyC, o1]
    · exact ⟨by omega, g2, by omega, by omega, h5⟩
theorem pSq_ok {t : List Int32} {b : Bool} {it : Nat → PRs} {sp : Int32 → Bool} (hi : PG t b it) (hs : sp (-1) = false) (ho : ∀ c, sp c = true → opT b c) : PG t b (pSq t it sp) := by
  intro p hp
  have h := hi p hp
  unfold pSq
  cases hr : it p with
  | inl e => rw [hr] at h; exact h
  | inr x =>
    obtain ⟨p2, w⟩ := x
    rw [hr] at h
    obtain ⟨k1, k2, k3, k4, k5⟩ := h
    exact pLp_ok hi hs ho p _ p2 w k1 k2 k3 k4 k5
theorem op42 (c : Int32) (h : sp42 c = true) : opT false c := by
  have : c = 42 := of_decide_eq_true h
  subst this
  exact ⟨fun tt => rfl, rfl⟩
theorem op43 (c : Int32) (h : sp43 c = true) : opT false c := by
  have : c = 43 ∨ c = 45 := of_decide_eq_true h
  rcases this with rfl | rfl
  · exact ⟨fun tt => rfl, rfl⟩
  · exact ⟨fun tt => rfl, rfl⟩
theorem op38 (c : Int32) (h : sp38 c = true) : opT true c := by
  have : c = 38 := of_decide_eq_true h
  subst this
  exact ⟨fun tt => rfl, rfl⟩
theorem op124 (c : Int32) (h : sp124 c = true) : opT true c := by
  have : c = 124 := of_decide_eq_true h
  subst this
  exact ⟨fun tt => rfl, rfl⟩
theorem pTm_ok {t : List Int32} {a : Nat → PRs} (h : PG t false a) : PG t false (pTm t a) := pSq_ok h (by decide) op42
theorem pSm_ok {t : List Int32} {a : Nat → PRs} (h : PG t false a) : PG t false (pSm t a) := pSq_ok (pTm_ok h) (by decide) op43
theorem pPt_ok {t : List Int32} {a : Nat → PRs} (h : PG t true a) : PG t true (pPt t a) := pSq_ok h (by decide) op38
theorem pCd_ok {t : List Int32} {a : Nat → PRs} (h : PG t true a) : PG t true (pCd t a) := pSq_ok (pPt_ok h) (by decide) op124
theorem nmL_ok {t : List Int32} : ∀ n p k, p ≤ t.length → k < 10 ^ (4 - n) → n ≤ 4 → p ≤ (nmL t n p (nI k)).1 ∧ (nmL t n p (nI k)).1 ≤ t.length ∧ (1 ≤ n → isDg (chr t p) → p + 1 ≤ (nmL t n p (nI k)).1) ∧ ∃ j, j ≤ 9999 ∧ (nmL t n p (nI k)).2 = nI j := by
  intro n
  induction n with
  | zero =>
    intro p k hp hk _
    exact ⟨Nat.le_refl _, hp, fun h => absurd h (by omega), k, by omega, rfl⟩
  | succ n ih =>
    intro p k hp hk hn
    unfold nmL
    split
    · rename_i hd
      have hlt : p < t.length := chr_in (dg_n hd).2.1
      obtain ⟨d, hd1, hd2⟩ : ∃ d, d ≤ 9 ∧ chr t p = nI (48 + d) := by
        have hc := nj_of (show 0 ≤ chr t p by grind)
        have h1 := hd.1
        have h2 := hd.2
        rw [hc.1] at h1 h2
        have h3 := (nj_le (a := 48) (by omega) hc.2).mp h1
        have h4 := (nj_le (b := 57) hc.2 (by omega)).mp h2
        exact ⟨(chr t p).toNatClampNeg - 48, by omega, by rw [show 48 + ((chr t p).toNatClampNeg - 48) = (chr t p).toNatClampNeg by omega]; exact hc.1⟩
      have hv : (10 : Int32) * nI k + chr t p - 48 = nI (10 * k + d) := by
        have t10 : (10 : Int32) = nI 10 := rfl
        have t48 : (48 : Int32) = nI 48 := rfl
        rw [hd2, t10, t48, nj_mul, nI_add, nj_sub (by omega)]
        congr 1; omega
      rw [hv]
      have hpow : 10 ^ (4 - n) = 10 * 10 ^ (4 - (n + 1)) := by
        rw [show 4 - n = (4 - (n + 1)) + 1 by omega, Nat.pow_succ]; omega
      obtain ⟨a, b, c, e⟩ := ih (p + 1) (10 * k + d) (by omega) (by rw [hpow]; omega) (by omega)
      exact ⟨by omega, b, fun _ _ => a, e⟩
    · rename_i hd
      refine ⟨Nat.le_refl _, hp, fun _ h => absurd h hd, k, ?_, rfl⟩
      have : 10 ^ (4 - (n + 1)) ≤ 10 ^ 4 := Nat.pow_le_pow_right (by omega) (by omega)
      omega
theorem pNm_ok (t : List Int32) : PG t false (pNm t) := by
  intro p hp
  have g1 := skp_ge t p
  have g2 := skp_le hp
  unfold pNm
  split
  · rename_i hd
    have h := nmL_ok (t := t) 4 (skp t p) 0 g2 (by decide) (by omega)
    rw [← nj_0] at h
    obtain ⟨a, b, c, j, hj, e⟩ := h
    have := c (by omega) hd
    refine ⟨by omega, b, by simp only [List.length_cons, List.length_nil]; omega, ?_, fun tt => ?_⟩
    · rw [enC_1]
      have := enW_le (nmL t 4 (skp t p) 0).2
      omega
    · have h0 : (0 : Int32) ≤ nI j := nj_nneg (by omega)
      have h9 : nI j ≤ (9999 : Int32) := (nj_le (b := 9999) (by omega) (by omega)).mpr hj
      rw [e]
      simp only [tyC, tyW, h0, h9, if_true]
  · exact g2
theorem pCl_ok {t : List Int32} {b : Bool} {c : Int32} (hc : c ≠ -1) {p q : Nat} (hq : p < q) {r : PRs} (h : OKr t q b r) : OKr t p b (pCl t c r) := by
  unfold pCl
  cases r with
  | inl e => exact h
  | inr x =>
    obtain ⟨p2, w⟩ := x
    obtain ⟨k1, k2, k3, k4, k5⟩ := h
    have g1 := skp_ge t p2
    have g2 := skp_le k2
    simp only
    split
    · rename_i he
      have := chr_in (t := t) (p := skp t p2) (by rw [he]; exact hc)
      exact ⟨by omega, by omega, by omega, by omega, k5⟩
    · exact g2
theorem pOp_ok {t : List Int32} {b : Bool} {c : Int32} (ho : (∀ tt, tyW (-c) (b :: tt) = some (b :: tt)) ∧ enW (-c) = [c]) {p q : Nat} (hq : p < q) {r : PRs} (h : OKr t q b r) : OKr t p b (pOp c r) := by
  unfold pOp
  cases r with
  | inl e => exact h
  | inr x =>
    obtain ⟨p2, w⟩ := x
    obtain ⟨k1, k2, k3, k4, k5⟩ := h
    refine ⟨by omega, k2, by simp only [List.length_append, List.length_cons, List.length_nil]; omega, ?_, fun tt => ?_⟩
    · rw [enC_app, enC_1, ho.2]; simp only [List.length_append, List.length_cons, List.length_nil]; omega
    · rw [tyC_app, k5]; simp only [tyC, ho.1]
theorem lt_w {c : Int32} (h : okLt c) : (∀ tt, tyW (-c) tt = some (false :: tt)) ∧ enW (-c) = [1, c] := by
  unfold okLt at h
  rcases h with rfl | rfl | rfl | rfl | rfl | rfl | rfl | rfl | rfl | rfl | rfl | rfl | rfl | rfl | rfl | rfl | rfl
  all_goals exact ⟨fun tt => rfl, rfl⟩
theorem aF_ok {t : List Int32} {o : Option (Nat → PRs)} (ho : ∀ a, o = some a → PG t false a) : PG t false (aF t o) := by
  intro p hp
  have g1 := skp_ge t p
  have g2 := skp_le hp
  unfold aF
  split
  · rename_i hl
    have hlt : skp t p < t.length := chr_in (fun q => by rw [q] at hl; exact absurd hl (by decide))
    obtain ⟨l1, l2⟩ := lt_w hl
    refine ⟨by omega, by omega, by simp only [List.length_cons, List.length_nil]; omega, ?_, fun tt => ?_⟩
    · rw [enC_1, l2]; simp only [List.length_cons, List.length_nil]; omega
    · simp only [tyC, l1]
  · split
    · rename_i hc
      have hlt : skp t p < t.length := chr_in (by rw [hc]; decide)
      cases o with
      | none => exact g2
      | some a => exact pCl_ok (by decide) (by omega) (pSm_ok (ho a rfl) _ (by omega))
    · split
      · rename_i hc
        have hlt : skp t p < t.length := chr_in (by rw [hc]; decide)
        cases o with
        | none => exact g2
        | some a => exact pOp_ok ⟨fun tt => rfl, rfl⟩ (by omega) (ho a rfl _ (by omega))
      · exact pNm_ok t p hp
theorem pAt_ok (t : List Int32) : ∀ r, PG t false (pAt t r) := by
  intro r
  induction r with
  | zero => exact aF_ok (fun a h => by cases h)
  | succ r ih => exact aF_ok (fun a h => by cases h; exact ih)
theorem cm_w {c : Int32} (h : isCm c) : (∀ tt, tyW (-c) (false :: false :: tt) = some (true :: tt)) ∧ enW (-c) = [c] := by
  rcases h with rfl | rfl | rfl | rfl
  all_goals exact ⟨fun tt => rfl, rfl⟩
theorem pCp_ok {t : List Int32} {sm : Nat → PRs} (hs : PG t false sm) : PG t true (pCp t sm) := by
  intro p hp
  have h := hs p hp
  unfold pCp
  cases hr : sm p with
  | inl e => rw [hr] at h; exact h
  | inr x =>
    obtain ⟨p2, w⟩ := x
    rw [hr] at h
    obtain ⟨k1, k2, k3, k4, k5⟩ := h
    have g1 := skp_ge t p2
    have g2 := skp_le k2
    simp only
    split
    · rename_i hc
      have hlt : skp t p2 < t.length := chr_in (fun q => by rw [q] at hc; exact absurd hc (by decide))
      have h3 := hs (skp t p2 + 1) (by omega)
      cases hr3 : sm (skp t p2 + 1) with
      | inl e => rw [hr3] at h3; exact h3
      | inr x =>
        obtain ⟨p3, w3⟩ := x
        rw [hr3] at h3
        obtain ⟨j1, j2, j3, j4, j5⟩ := h3
        obtain ⟨c1, c2⟩ := cm_w hc
        refine ⟨by omega, j2, by simp only [List.length_append, List.length_cons, List.length_nil]; omega, ?_, fun tt => ?_⟩
        · rw [enC_app, enC_app, enC_1, c2]; simp only [List.length_append, List.length_cons, List.length_nil]; omega
        · rw [tyC_app, tyC_app, k5]; simp only [j5, tyC, c1]
    · exact g2
theorem OKr_skp {t : List Int32} {p q : Nat} (h : p ≤ q) {b : Bool} {r : PRs} (hr : OKr t q b r) : OKr t p b r := by
  cases r with
  | inl e => exact hr
  | inr x =>
    obtain ⟨k1, k2, k3, k4, k5⟩ := hr
    exact ⟨by omega, k2, by omega, by omega, k5⟩
theorem uF_ok {t : List Int32} {sm : Nat → PRs} (hs : PG t false sm) {o : Option (Nat → PRs)} (ho : ∀ a, o = some a → PG t true a) : PG t true (uF t sm o) := by
  intro p hp
  have g1 := skp_ge t p
  have g2 := skp_le hp
  unfold uF
  split
  · rename_i hc
    have hlt : skp t p < t.length := chr_in (by rw [hc]; decide)
    cases o with
    | none => exact g2
    | some a => exact pOp_ok ⟨fun tt => rfl, rfl⟩ (by omega) (ho a rfl _ (by omega))
  · split
    · rename_i hc
      have hlt : skp t p < t.length := chr_in (by rw [hc]; decide)
      cases o with
      | none => exact g2
      | some a => exact pCl_ok (by decide) (by omega) (pCd_ok (ho a rfl) _ (by omega))
    · exact OKr_skp g1 (pCp_ok hs _ g2)
theorem pUn_ok (t : List Int32) : ∀ r, PG t true (pUn t r) := by
  intro r
  induction r with
  | zero => exact uF_ok (pSm_ok (pAt_ok t 0)) (fun a h => by cases h)
  | succ r ih => exact uF_ok (pSm_ok (pAt_ok t (r + 1))) (fun a h => by cases h; exact ih)
