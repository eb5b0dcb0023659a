/-! the class: its reader of laws, rules and faults -/
theorem TN.x {m : Nat} {g g' : GH} {t ws : List Int32} {p : Nat} {fs cs : List Nat} (h : TN m g t p ws) (hx : FrX m fs cs g g') (h1 : 897 ∉ fs) (h2 : 896 ∉ cs) (h3 : 903 ∉ fs) (h4 : 899 ∉ fs) (h5 : 898 ∉ cs) : TN m g' t p ws := by
  obtain ⟨a, b, c, d, e, f⟩ := h
  refine ⟨a.x hx h1 h2, (hx.2.1 _ h3).trans b, c, (hx.2.1 _ h4).trans d, e, fun k x hk => ?_⟩
  rw [hx.2.2 _ h5]; exact f k x hk
theorem tyW_1 (a : Int32) : tyW a [] = none ∨ tyW a [] = some [false] := by
  unfold tyW
  repeat' split
  all_goals simp_all
theorem tyW_2 (a : Int32) : tyW a [false] ≠ some [true] := by
  unfold tyW
  repeat' split
  all_goals simp_all
theorem tyC_3 {w : List Int32} (h : tyC w [] = some [true]) : 3 ≤ w.length := by
  match w, h with
  | [], h => exact absurd h (by simp [tyC])
  | [a], h =>
    simp only [tyC] at h
    rcases tyW_1 a with e | e <;> rw [e] at h <;> simp at h
  | [a, b], h =>
    simp only [tyC] at h
    rcases tyW_1 a with e | e <;> rw [e] at h
    · simp at h
    · simp only at h
      have := tyW_2 b
      cases hb : tyW b [false] with
      | none => rw [hb] at h; simp at h
      | some t1 => rw [hb] at h this; simp only at h; exact absurd h this
  | a :: b :: c :: w, _ => simp only [List.length_cons]; omega
def flR (rs : List Rl) : List Int32 := rs.flatMap (fun r => r.1 ++ r.2.2)
theorem flR_app (rs : List Rl) (r : Rl) : flR (rs ++ [r]) = flR rs ++ (r.1 ++ r.2.2) := by unfold flR; rw [List.flatMap_append]; simp
theorem pVd_ge {t : List Int32} {p p3 : Nat} {v : Int32} {w : List Int32} (hp : p ≤ t.length) (h : pVd t p = .inr (p3, v, w)) : p + 1 + w.length ≤ p3 ∧ p3 ≤ t.length := by
  have g1 := skp_ge t p
  have g2 := skp_le hp
  unfold pVd at h
  split at h
  · rename_i hc
    have hlt : skp t p < t.length := chr_in (by rw [hc]; decide)
    have ho := pNm_ok t (skp t p + 1) hlt
    cases hr : pNm t (skp t p + 1) with
    | inl e => rw [hr] at h; simp at h
    | inr x =>
      obtain ⟨q, w3⟩ := x
      rw [hr] at h ho
      simp only [Sum.inr.injEq, Prod.mk.injEq] at h
      obtain ⟨k1, k2, k3, _⟩ := ho
      rw [← h.1, ← h.2.2]; omega
  · split at h
    · rename_i hc
      have hlt : skp t p < t.length := chr_in (by rw [hc]; decide)
      have ho := pSm_ok (pAt_ok t 8) (skp t p + 1) hlt
      cases hr : pSm t (pAt t 8) (skp t p + 1) with
      | inl e => rw [hr] at h; simp at h
      | inr x =>
        obtain ⟨q, w3⟩ := x
        rw [hr] at h ho
        simp only [Sum.inr.injEq, Prod.mk.injEq] at h
        obtain ⟨k1, k2, k3, _⟩ := ho
        rw [← h.1, ← h.2.2]; omega
    · split at h
      · rename_i hc
        have hlt : skp t p < t.length := chr_in (by rcases hc with hc | hc <;> rw [hc] <;> decide)
        simp only [Sum.inr.injEq, Prod.mk.injEq] at h
        rw [← h.1, ← h.2.2]; simp only [List.length_nil]; omega
      · simp at h
def BD (m : Nat) (g : GH) (rs : List Rl) : Prop := ∀ k r, rs[k]? = some r → Ia g 900 m (2 * k) = nI (flR (rs.take k)).length ∧ Ia g 900 m (2 * k + 1) = nI ((flR (rs.take k)).length + r.1.length) ∧ Ia g 900 m (2 * k + 2) = nI (flR (rs.take (k + 1))).length ∧ Ia g 901 m k = r.2.1
theorem BD.push {m : Nat} {g g' : GH} {rs : List Rl} {r : Rl} (h : BD m g rs) (hb : ∀ j, Ia g' 900 m j = if j = 2 * rs.length + 2 then nI (flR (rs ++ [r])).length else if j = 2 * rs.length + 1 then nI ((flR rs).length + r.1.length) else if j = 2 * rs.length then nI (flR rs).length else Ia g 900 m j) (hv : ∀ k, Ia g' 901 m k = if k = rs.length then r.2.1 else Ia g 901 m k) : BD m g' (rs ++ [r]) := by
  intro k r0 hk
  rw [List.getElem?_append] at hk
  split at hk
  · rename_i hlt
    obtain ⟨b1, b2, b3, b4⟩ := h k r0 hk
    rw [List.take_append_of_le_length (by omega), List.take_append_of_le_length (by omega)]
    refine ⟨?_, ?_, ?_, ?_⟩
    · rw [hb, if_neg (by omega), if_neg (by omega), if_neg (by omega)]; exact b1
    · rw [hb, if_neg (by omega), if_neg (by omega), if_neg (by omega)]; exact b2
    · rw [hb, if_neg (by omega), if_neg (by omega)]
      split
      · rename_i e
        rw [show k + 1 = rs.length by omega, List.take_length]
      · exact b3
    · rw [hv, if_neg (by omega)]; exact b4
  · have hj := (List.getElem?_eq_some_iff.mp hk).1
    simp at hj
    have e : k = rs.length := by omega
    subst e
    simp at hk
    subst hk
    rw [List.take_append_of_le_length (Nat.le_refl _), List.take_length, List.take_of_length_le (by simp)]
    refine ⟨?_, ?_, ?_, ?_⟩
    · rw [hb, if_neg (by omega), if_neg (by omega), if_pos rfl]
    · rw [hb, if_neg (by omega), if_pos rfl]
    · rw [hb, if_pos rfl]
    · rw [hv, if_pos rfl]
def TQ (m : Nat) (g : GH) (t : List Int32) (p : Nat) (rs : List Rl) : Prop := TN m g t p (flR rs) ∧ Gi g 902 m = nI rs.length ∧ BD m g rs
def TL (m : Nat) (g : GH) (t : List Int32) (rs : List Rl) (r : PRl) (b : Int32) : Prop := match r with
  | .inl e => b = 0 ∧ ∃ ws', TN m g t e ws'
  | .inr (p2, x) => b = 1 ∧ TQ m g t p2 (rs ++ [x]) ∧ (flR (rs ++ [x])).length ≤ p2 ∧ 6 * rs.length + 5 ≤ p2
def SpRl (Γ : GAM) (m : Nat) (g : GH) (K : Int32 → GH → Prop) : Prop := ∃ t p rs, TQ m g t p rs ∧ (flR rs).length ≤ p ∧ 6 * rs.length ≤ p ∧ ∀ b g', FrX m [903, 899, 902] [898, 900, 901] g g' → TL m g' t rs (pRu t p) b → K b g'
-- the walk of Ta_readRule
set_option maxRecDepth 100000 in
def B_Ta_readRule_43 (Γ : GAM) (R_Ta_readCondition : Nat → Int32 → GH → (Int32 → GH → Prop) → Prop) (R_Ta_readVerdict : Nat → GH → (Int32 → GH → Prop) → Prop) (K : Int32 → GH → Prop)  (g : GH) : Prop :=
  K (0 : Int32) g
set_option maxHeartbeats 4000000 in
set_option maxRecDepth 100000 in
theorem S_Ta_readRule_43 {Γ : GAM} {E : EV} {fr lo : Nat} {K : Int32 → GH → Prop} (hE : GE Γ E cX6_readRule 1 RX6 (some (.boolean)) fr lo (fun r g' => ∃ x, r = some (.int x) ∧ K x g')) (hfr : 2 ≤ fr) (hlo : 42 ≤ lo) {R_Ta_readCondition : Nat → Int32 → GH → (Int32 → GH → Prop) → Prop} {R_Ta_readVerdict : Nat → GH → (Int32 → GH → Prop) → Prop} {f_Ta_readCondition l_Ta_readCondition : Nat} (hR_Ta_readCondition : (f_Ta_readCondition + 1 ≤ fr ∧ 8 + (4 + 11) + l_Ta_readCondition ≤ lo) ∧ ∀ (th : Nat) (p0 : Int32) g (K : Int32 → GH → Prop), R_Ta_readCondition th p0 g K → MetA Γ E.2.1 yX6_readCondition cX6_readCondition 4 (some (.boolean)) f_Ta_readCondition l_Ta_readCondition [.ref th, .int p0] g (fun r g' => ∃ x, r = some (.int x) ∧ K x g')) {f_Ta_readVerdict l_Ta_readVerdict : Nat} (hR_Ta_readVerdict : (f_Ta_readVerdict + 1 ≤ fr ∧ 8 + (2 + 11) + l_Ta_readVerdict ≤ lo) ∧ ∀ (th : Nat) g (K : Int32 → GH → Prop), R_Ta_readVerdict th g K → MetA Γ E.2.1 yX6_readVerdict cX6_readVerdict 2 (some (.boolean)) f_Ta_readVerdict l_Ta_readVerdict [.ref th] g (fun r g' => ∃ x, r = some (.int x) ∧ K x g'))  (g : GH) (h : B_Ta_readRule_43 Γ R_Ta_readCondition R_Ta_readVerdict K  g) : JW Γ E 43 [none] [] g := by
  unfold B_Ta_readRule_43 at h
  refine j_iconst hE (by decide +kernel : decode cX6_readRule 43 = .ok (.iconst 0, 1)) (v := (0 : Int32)) (by decide) ?_
  exact j_zret hE (Or.inl rfl) (by decide +kernel : decode cX6_readRule 44 = .ok (.ireturn, 1)) ⟨_, rfl, h⟩
set_option maxRecDepth 100000 in
def B_Ta_readRule_0 (Γ : GAM) (R_Ta_readCondition : Nat → Int32 → GH → (Int32 → GH → Prop) → Prop) (R_Ta_readVerdict : Nat → GH → (Int32 → GH → Prop) → Prop) (K : Int32 → GH → Prop) (th : Nat) (g : GH) : Prop :=
  Kd g th = 8 ∧ (((Gi g 902 th) < (40 : Int32) → Kd g th = 8 ∧ ∃ a1 : Nat, Gr g 900 th = some a1 ∧ Kd g th = 8 ∧ Kd g th = 8 ∧ Kd g a1 = 20 ∧ inB ((2 : Int32) * (Gi g 902 th)) (Ln g a1) ∧ ∀ g2 : GH, g2 = sA g (Co g a1) (Ow g a1) ((2 : Int32) * (Gi g 902 th)).toNatClampNeg (Gi g 899 th) → Kd g2 th = 8 ∧ R_Ta_readCondition th (0 : Int32) g2 (fun (x4 : Int32) (g3 : GH) => ((x4 = 0 → B_Ta_readRule_43 Γ R_Ta_readCondition R_Ta_readVerdict K g3) ∧ (¬ (x4 = 0) → Kd g3 th = 8 ∧ Sp_Ta_takes Γ th (63 : Int32) g3 (fun (x6 : Int32) (g5 : GH) => ((¬ (x6 = 0) → Kd g5 th = 8 ∧ ∃ a7 : Nat, Gr g5 900 th = some a7 ∧ Kd g5 th = 8 ∧ Kd g5 th = 8 ∧ Kd g5 a7 = 20 ∧ inB (((2 : Int32) * (Gi g5 902 th)) + (1 : Int32)) (Ln g5 a7) ∧ ∀ g8 : GH, g8 = sA g5 (Co g5 a7) (Ow g5 a7) (((2 : Int32) * (Gi g5 902 th)) + (1 : Int32)).toNatClampNeg (Gi g5 899 th) → Kd g8 th = 8 ∧ R_Ta_readVerdict th g8 (fun (x10 : Int32) (g9 : GH) => ((¬ (x10 = 0) → Kd g9 th = 8 ∧ Kd g9 th = 8 ∧ ∀ g11 : GH, g11 = sI g9 902 th ((Gi g9 902 th) + (1 : Int32)) → Kd g11 th = 8 ∧ ∃ a12 : Nat, Gr g11 900 th = some a12 ∧ Kd g11 th = 8 ∧ Kd g11 th = 8 ∧ Kd g11 a12 = 20 ∧ inB ((2 : Int32) * (Gi g11 902 th)) (Ln g11 a12) ∧ ∀ g13 : GH, g13 = sA g11 (Co g11 a12) (Ow g11 a12) ((2 : Int32) * (Gi g11 902 th)).toNatClampNeg (Gi g11 899 th) → K (1 : Int32) g13) ∧ (x10 = 0 → K (0 : Int32) g9)))) ∧ (x6 = 0 → B_Ta_readRule_43 Γ R_Ta_readCondition R_Ta_readVerdict K g5))))))) ∧ (¬ ((Gi g 902 th) < (40 : Int32)) → K (0 : Int32) g))
set_option maxHeartbeats 4000000 in
set_option maxRecDepth 100000 in
theorem S_Ta_readRule_0 {Γ : GAM} {E : EV} {fr lo : Nat} {K : Int32 → GH → Prop} (hE : GE Γ E cX6_readRule 1 RX6 (some (.boolean)) fr lo (fun r g' => ∃ x, r = some (.int x) ∧ K x g')) (hfr : 2 ≤ fr) (hlo : 42 ≤ lo) {R_Ta_readCondition : Nat → Int32 → GH → (Int32 → GH → Prop) → Prop} {R_Ta_readVerdict : Nat → GH → (Int32 → GH → Prop) → Prop} {f_Ta_readCondition l_Ta_readCondition : Nat} (hR_Ta_readCondition : (f_Ta_readCondition + 1 ≤ fr ∧ 8 + (4 + 11) + l_Ta_readCondition ≤ lo) ∧ ∀ (th : Nat) (p0 : Int32) g (K : Int32 → GH → Prop), R_Ta_readCondition th p0 g K → MetA Γ E.2.1 yX6_readCondition cX6_readCondition 4 (some (.boolean)) f_Ta_readCondition l_Ta_readCondition [.ref th, .int p0] g (fun r g' => ∃ x, r = some (.int x) ∧ K x g')) {f_Ta_readVerdict l_Ta_readVerdict : Nat} (hR_Ta_readVerdict : (f_Ta_readVerdict + 1 ≤ fr ∧ 8 + (2 + 11) + l_Ta_readVerdict ≤ lo) ∧ ∀ (th : Nat) g (K : Int32 → GH → Prop), R_Ta_readVerdict th g K → MetA Γ E.2.1 yX6_readVerdict cX6_readVerdict 2 (some (.boolean)) f_Ta_readVerdict l_Ta_readVerdict [.ref th] g (fun r g' => ∃ x, r = some (.int x) ∧ K x g')) (th : Nat) (g : GH) (h : B_Ta_readRule_0 Γ R_Ta_readCondition R_Ta_readVerdict K th g) : JW Γ E 0 [some (.ref th)] [] g := by
  unfold B_Ta_readRule_0 at h
  refine j_aload_n hE (by decide +kernel : decode cX6_readRule 0 = .ok (.aload_n 0, 1)) rfl rfl ?_
  obtain ⟨hk, h⟩ := h
  refine j_getI hE fg_X6_34 hk (by decide +kernel : decode cX6_readRule 1 = .ok (.getfield 34, 3)) ?_
  refine j_bipush hE (by decide +kernel : decode cX6_readRule 4 = .ok (.bipush 40, 2)) (v := (40 : Int32)) (by decide) ?_
  refine j_icmp_lt hE (by decide +kernel : decode cX6_readRule 6 = .ok (.if_icmp .lt 5, 3)) (tgt := 11) (by decide) (fun q => ?_) (fun q => ?_)
  · replace h := h.1 q
    refine j_aload_n hE (by decide +kernel : decode cX6_readRule 11 = .ok (.aload_n 0, 1)) rfl rfl ?_
    obtain ⟨hk, h⟩ := h
    obtain ⟨a1, ha, h⟩ := h
    refine j_getRn hE fg_X6_18 hk ha (by decide +kernel : decode cX6_readRule 12 = .ok (.getfield 18, 3)) ?_
    refine j_iconst hE (by decide +kernel : decode cX6_readRule 15 = .ok (.iconst 2, 1)) (v := (2 : Int32)) (by decide) ?_
    refine j_aload_n hE (by decide +kernel : decode cX6_readRule 16 = .ok (.aload_n 0, 1)) rfl rfl ?_
    obtain ⟨hk, h⟩ := h
    refine j_getI hE fg_X6_34 hk (by decide +kernel : decode cX6_readRule 17 = .ok (.getfield 34, 3)) ?_
    refine j_imul hE (by decide +kernel : decode cX6_readRule 20 = .ok (.imul, 1)) ?_
    refine j_aload_n hE (by decide +kernel : decode cX6_readRule 21 = .ok (.aload_n 0, 1)) rfl rfl ?_
    obtain ⟨hk, h⟩ := h
    refine j_getI hE fg_X6_31 hk (by decide +kernel : decode cX6_readRule 22 = .ok (.getfield 31, 3)) ?_
    obtain ⟨hk, hb, h⟩ := h
    obtain ⟨g2, hg⟩ : ∃ z, z = sA g (Co g a1) (Ow g a1) ((2 : Int32) * (Gi g 902 th)).toNatClampNeg (Gi g 899 th) := ⟨_, rfl⟩; replace h := h g2 hg
    refine j_iast hE hk hb (by decide +kernel : decode cX6_readRule 25 = .ok (.iastore, 1)) ?_
    rw [← hg]
    refine j_aload_n hE (by decide +kernel : decode cX6_readRule 26 = .ok (.aload_n 0, 1)) rfl rfl ?_
    refine j_iconst hE (by decide +kernel : decode cX6_readRule 27 = .ok (.iconst 0, 1)) (v := (0 : Int32)) (by decide) ?_
    obtain ⟨hk, h⟩ := h
    refine j_callV hE rfl cl_X6_49 cf_7 im_X6_readCondition se_X6_readCondition hR_Ta_readCondition.1 (As := [.int (0 : Int32)]) (rest := []) rfl rfl (Nat.le_of_ble_eq_true rfl) hk (by decide +kernel : decode cX6_readRule 28 = .ok (.invokevirtual 49, 3)) (hR_Ta_readCondition.2 _ _ _ _ h) ?_
    rintro _ g3 ⟨x4, rfl, h⟩
    refine j_if_eq hE (by decide +kernel : decode cX6_readRule 31 = .ok (.ifCond .eq 12, 3)) (tgt := 43) (by decide) (fun q => ?_) (fun q => ?_)
    · replace h := h.1 q
      refine j_weak [none] trivial ?_
      exact S_Ta_readRule_43 hE hfr hlo hR_Ta_readCondition hR_Ta_readVerdict _ h
    · replace h := h.2 q
      refine j_aload_n hE (by decide +kernel : decode cX6_readRule 34 = .ok (.aload_n 0, 1)) rfl rfl ?_
      refine j_bipush hE (by decide +kernel : decode cX6_readRule 35 = .ok (.bipush 63, 2)) (v := (63 : Int32)) (by decide) ?_
      obtain ⟨hk, h⟩ := h
      refine j_callV hE rfl cl_X6_41 cf_7 im_X6_takes se_X6_takes ⟨by omega, by omega⟩ (As := [.int (63 : Int32)]) (rest := []) rfl rfl (Nat.le_of_ble_eq_true rfl) hk (by decide +kernel : decode cX6_readRule 37 = .ok (.invokevirtual 41, 3)) (mt_Ta_takes _ _ _ _ h) ?_
      rintro _ g5 ⟨x6, rfl, h⟩
      refine j_if_ne hE (by decide +kernel : decode cX6_readRule 40 = .ok (.ifCond .ne 5, 3)) (tgt := 45) (by decide) (fun q => ?_) (fun q => ?_)
      · replace h := h.1 q
        refine j_aload_n hE (by decide +kernel : decode cX6_readRule 45 = .ok (.aload_n 0, 1)) rfl rfl ?_
        obtain ⟨hk, h⟩ := h
        obtain ⟨a7, ha, h⟩ := h
        refine j_getRn hE fg_X6_18 hk ha (by decide +kernel : decode cX6_readRule 46 = .ok (.getfield 18, 3)) ?_
        refine j_iconst hE (by decide +kernel : decode cX6_readRule 49 = .ok (.iconst 2, 1)) (v := (2 : Int32)) (by decide) ?_
        refine j_aload_n hE (by decide +kernel : decode cX6_readRule 50 = .ok (.aload_n 0, 1)) rfl rfl ?_
        obtain ⟨hk, h⟩ := h
        refine j_getI hE fg_X6_34 hk (by decide +kernel : decode cX6_readRule 51 = .ok (.getfield 34, 3)) ?_
        refine j_imul hE (by decide +kernel : decode cX6_readRule 54 = .ok (.imul, 1)) ?_
        refine j_iconst hE (by decide +kernel : decode cX6_readRule 55 = .ok (.iconst 1, 1)) (v := (1 : Int32)) (by decide) ?_
        refine j_iadd hE (by decide +kernel : decode cX6_readRule 56 = .ok (.iadd, 1)) ?_
        refine j_aload_n hE (by decide +kernel : decode cX6_readRule 57 = .ok (.aload_n 0, 1)) rfl rfl ?_
        obtain ⟨hk, h⟩ := h
        refine j_getI hE fg_X6_31 hk (by decide +kernel : decode cX6_readRule 58 = .ok (.getfield 31, 3)) ?_
        obtain ⟨hk, hb, h⟩ := h
        obtain ⟨g8, hg⟩ : ∃ z, z = sA g5 (Co g5 a7) (Ow g5 a7) (((2 : Int32) * (Gi g5 902 th)) + (1 : Int32)).toNatClampNeg (Gi g5 899 th) := ⟨_, rfl⟩; replace h := h g8 hg
        refine j_iast hE hk hb (by decide +kernel : decode cX6_readRule 61 = .ok (.iastore, 1)) ?_
        rw [← hg]
        refine j_aload_n hE (by decide +kernel : decode cX6_readRule 62 = .ok (.aload_n 0, 1)) rfl rfl ?_
        obtain ⟨hk, h⟩ := h
        refine j_callV hE rfl cl_X6_52 cf_7 im_X6_readVerdict se_X6_readVerdict hR_Ta_readVerdict.1 (As := []) (rest := []) rfl rfl (Nat.le_of_ble_eq_true rfl) hk (by decide +kernel : decode cX6_readRule 63 = .ok (.invokevirtual 52, 3)) (hR_Ta_readVerdict.2 _ _ _ h) ?_
        rintro _ g9 ⟨x10, rfl, h⟩
        refine j_if_ne hE (by decide +kernel : decode cX6_readRule 66 = .ok (.ifCond .ne 5, 3)) (tgt := 71) (by decide) (fun q => ?_) (fun q => ?_)
        · replace h := h.1 q
          refine j_aload_n hE (by decide +kernel : decode cX6_readRule 71 = .ok (.aload_n 0, 1)) rfl rfl ?_
          refine j_dup hE (by decide +kernel : decode cX6_readRule 72 = .ok (.dup, 1)) rfl ?_
          obtain ⟨hk, h⟩ := h
          refine j_getI hE fg_X6_34 hk (by decide +kernel : decode cX6_readRule 73 = .ok (.getfield 34, 3)) ?_
          refine j_iconst hE (by decide +kernel : decode cX6_readRule 76 = .ok (.iconst 1, 1)) (v := (1 : Int32)) (by decide) ?_
          refine j_iadd hE (by decide +kernel : decode cX6_readRule 77 = .ok (.iadd, 1)) ?_
          obtain ⟨hk, h⟩ := h
          obtain ⟨g11, hg⟩ : ∃ z, z = sI g9 902 th ((Gi g9 902 th) + (1 : Int32)) := ⟨_, rfl⟩; replace h := h g11 hg
          refine j_putI hE fa_X6_34 hk (fun q => by cases q) (by decide +kernel : decode cX6_readRule 78 = .ok (.putfield 34, 3)) ?_
          rw [← hg]
          refine j_aload_n hE (by decide +kernel : decode cX6_readRule 81 = .ok (.aload_n 0, 1)) rfl rfl ?_
          obtain ⟨hk, h⟩ := h
          obtain ⟨a12, ha, h⟩ := h
          refine j_getRn hE fg_X6_18 hk ha (by decide +kernel : decode cX6_readRule 82 = .ok (.getfield 18, 3)) ?_
          refine j_iconst hE (by decide +kernel : decode cX6_readRule 85 = .ok (.iconst 2, 1)) (v := (2 : Int32)) (by decide) ?_
          refine j_aload_n hE (by decide +kernel : decode cX6_readRule 86 = .ok (.aload_n 0, 1)) rfl rfl ?_
          obtain ⟨hk, h⟩ := h
          refine j_getI hE fg_X6_34 hk (by decide +kernel : decode cX6_readRule 87 = .ok (.getfield 34, 3)) ?_
          refine j_imul hE (by decide +kernel : decode cX6_readRule 90 = .ok (.imul, 1)) ?_
          refine j_aload_n hE (by decide +kernel : decode cX6_readRule 91 = .ok (.aload_n 0, 1)) rfl rfl ?_
          obtain ⟨hk, h⟩ := h
          refine j_getI hE fg_X6_31 hk (by decide +kernel : decode cX6_readRule 92 = .ok (.getfield 31, 3)) ?_
          obtain ⟨hk, hb, h⟩ := h
          obtain ⟨g13, hg⟩ : ∃ z, z = sA g11 (Co g11 a12) (Ow g11 a12) ((2 : Int32) * (Gi g11 902 th)).toNatClampNeg (Gi g11 899 th) := ⟨_, rfl⟩; replace h := h g13 hg
          refine j_iast hE hk hb (by decide +kernel : decode cX6_readRule 95 = .ok (.iastore, 1)) ?_
          rw [← hg]
          refine j_iconst hE (by decide +kernel : decode cX6_readRule 96 = .ok (.iconst 1, 1)) (v := (1 : Int32)) (by decide) ?_
          exact j_zret hE (Or.inr rfl) (by decide +kernel : decode cX6_readRule 97 = .ok (.ireturn, 1)) ⟨_, rfl, h⟩
        · replace h := h.2 q
          refine j_iconst hE (by decide +kernel : decode cX6_readRule 69 = .ok (.iconst 0, 1)) (v := (0 : Int32)) (by decide) ?_
          exact j_zret hE (Or.inl rfl) (by decide +kernel : decode cX6_readRule 70 = .ok (.ireturn, 1)) ⟨_, rfl, h⟩
      · replace h := h.2 q
        refine j_weak [none] trivial ?_
        exact S_Ta_readRule_43 hE hfr hlo hR_Ta_readCondition hR_Ta_readVerdict _ h
  · replace h := h.2 q
    refine j_iconst hE (by decide +kernel : decode cX6_readRule 9 = .ok (.iconst 0, 1)) (v := (0 : Int32)) (by decide) ?_
    exact j_zret hE (Or.inl rfl) (by decide +kernel : decode cX6_readRule 10 = .ok (.ireturn, 1)) ⟨_, rfl, h⟩
set_option maxHeartbeats 4000000 in
set_option maxRecDepth 100000 in
theorem rl_Ta_readRule {Γ : GAM} {l : Launch} {fr lo : Nat} (hfr : 2 ≤ fr) (hlo : 42 ≤ lo) {R_Ta_readCondition : Nat → Int32 → GH → (Int32 → GH → Prop) → Prop} {R_Ta_readVerdict : Nat → GH → (Int32 → GH → Prop) → Prop} {f_Ta_readCondition l_Ta_readCondition : Nat} (hR_Ta_readCondition : (f_Ta_readCondition + 1 ≤ fr ∧ 8 + (4 + 11) + l_Ta_readCondition ≤ lo) ∧ ∀ (th : Nat) (p0 : Int32) g (K : Int32 → GH → Prop), R_Ta_readCondition th p0 g K → MetA Γ l yX6_readCondition cX6_readCondition 4 (some (.boolean)) f_Ta_readCondition l_Ta_readCondition [.ref th, .int p0] g (fun r g' => ∃ x, r = some (.int x) ∧ K x g')) {f_Ta_readVerdict l_Ta_readVerdict : Nat} (hR_Ta_readVerdict : (f_Ta_readVerdict + 1 ≤ fr ∧ 8 + (2 + 11) + l_Ta_readVerdict ≤ lo) ∧ ∀ (th : Nat) g (K : Int32 → GH → Prop), R_Ta_readVerdict th g K → MetA Γ l yX6_readVerdict cX6_readVerdict 2 (some (.boolean)) f_Ta_readVerdict l_Ta_readVerdict [.ref th] g (fun r g' => ∃ x, r = some (.int x) ∧ K x g')) {th : Nat} {g : GH} {K : Int32 → GH → Prop} (h0 : B_Ta_readRule_0 Γ R_Ta_readCondition R_Ta_readVerdict K th g) : MetA Γ l yX6_readRule cX6_readRule 1 (some (.boolean)) fr lo [.ref th] g (fun r g' => ∃ x, r = some (.int x) ∧ K x g') := by
  refine MetA.introL (Lx := [some (.ref th)]) (by decide) (Nat.le_of_ble_eq_true rfl) rfl rfl ?_
  intro E hEl hE hnm
  have hR_Ta_readCondition := hR_Ta_readCondition; rw [← hEl] at hR_Ta_readCondition
  have hR_Ta_readVerdict := hR_Ta_readVerdict; rw [← hEl] at hR_Ta_readVerdict
  exact S_Ta_readRule_0 hE hfr hlo hR_Ta_readCondition hR_Ta_readVerdict th g h0
theorem mz_readRule {Γ : GAM} {l : Launch} {f' l' : Nat} (hC : MzC Γ l f' l' (SpZ (fun t => pCd t (pUn t 8)) 8 Γ)) (hV : ∀ (th : Nat) (g : GH) (K : Int32 → GH → Prop), SpVd Γ th g K → MetA Γ l yX6_readVerdict cX6_readVerdict 2 (some (.boolean)) f' l' [.ref th] g (fun r g' => ∃ x, r = some (.int x) ∧ K x g')) (f lo : Nat) (hf : f' + 1 ≤ f) (hf3 : 3 ≤ f) (hlo : 60 + l' ≤ lo) (th : Nat) (g : GH) (K : Int32 → GH → Prop) (h : SpRl Γ th g K) : MetA Γ l yX6_readRule cX6_readRule 1 (some (.boolean)) f lo [.ref th] g (fun r g' => ∃ x, r = some (.int x) ∧ K x g') := by
  obtain ⟨t, p, rs, ⟨hN, hn, hB⟩, hwp, h6, hK⟩ := h
  have hT := hN.1.2.2.1
  have hpl := hN.2.2.1
  have hn40 : rs.length < 34 := by omega
  refine rl_Ta_readRule (R_Ta_readCondition := SpZ (fun t => pCd t (pUn t 8)) 8 Γ) (f_Ta_readCondition := f') (l_Ta_readCondition := l') (R_Ta_readVerdict := SpVd Γ) (f_Ta_readVerdict := f') (l_Ta_readVerdict := l') (by omega) (by omega) ⟨⟨hf, by omega⟩, hC⟩ ⟨⟨hf, by omega⟩, hV⟩ ?_
  obtain ⟨n, hnn⟩ : ∃ n, n = rs.length := ⟨_, rfl⟩
  obtain ⟨⟨hkd, a1, a2, a3, a4, y1, y2, ⟨z1, z2, z3, z4, z5⟩, y3⟩, _⟩ := hN.1
  have e2 : ∀ k : Nat, (2 : Int32) * nI k = nI (2 * k) := fun k => by rw [show (2 : Int32) = nI 2 from rfl, nj_mul]
  rw [pRu_v] at hK
  unfold B_Ta_readRule_0 B_Ta_readRule_43
  rw [hn, ← hnn, e2]
  refine ⟨hkd, fun _ => ⟨hkd, a3, z1, hkd, hkd, z2, by rw [z5]; exact inB_nI (by omega) (by omega), ?_⟩, fun u => absurd ((nj_lt (b := 40) (by omega) (by omega)).mpr (by omega)) u⟩
  rw [z3, z4, nj_cl (by omega), hN.2.2.2.1]
  rintro g2 rfl
  have x2 : FrX th [] [900] g (sA g 900 th (2 * n) (nI (flR rs).length)) := FrX.sA (by decide)
  have N2 := hN.x x2 (by decide) (by decide) (by decide) (by decide) (by decide)
  have v2 : ∀ j, Ia (sA g 900 th (2 * n) (nI (flR rs).length)) 900 th j = if j = 2 * n then nI (flR rs).length else Ia g 900 th j := fun j => by rw [Ia_sA]; simp
  have x2v := x2.2.2 901 (by decide)
  have f2 : FrX th [903, 899, 902] [898, 900, 901] g (sA g 900 th (2 * n) (nI (flR rs).length)) := x2.up (by decide) (by decide)
  have n2 : Gi (sA g 900 th (2 * n) (nI (flR rs).length)) 902 th = nI n := by rw [Gi_sA, hn, hnn]
  obtain ⟨g2, hg2⟩ : ∃ q, sA g 900 th (2 * n) (nI (flR rs).length) = q := ⟨_, rfl⟩
  rw [hg2] at N2 v2 x2v f2 n2 ⊢
  refine ⟨N2.1.1.1, rfl, t, p, flR rs, N2, hwp, fun b4 g3 hx3 hO3 => ?_⟩
  have hok := pCd_ok (pUn_ok t 8) p hpl
  have f3 : FrX th [903, 899, 902] [898, 900, 901] g g3 := f2.tr (hx3.up (by decide) (by decide))
  simp only at hO3
  cases hr : pCd t (pUn t 8) p with
  | inl e =>
    rw [hr] at hO3 hK
    exact ⟨fun _ => hK 0 g3 f3 ⟨rfl, hO3.2⟩, fun u => absurd hO3.1 u⟩
  | inr x =>
    obtain ⟨p1, w1⟩ := x
    rw [hr] at hO3 hK hok
    simp only at hK
    obtain ⟨hb3, N3⟩ := hO3
    obtain ⟨o1, o2, o3, o4, o5⟩ := hok
    have w3 := tyC_3 (o5 [])
    have gs := skp_ge t p1
    refine ⟨fun u => by rw [hb3] at u; exact absurd u (by decide), fun _ => ⟨N3.1.1.1, t, p1, flR rs ++ w1, N3, by decide, by decide, fun hc g5 hx5 N5 hlt => ⟨fun _ => ?_, fun u => absurd u (by decide)⟩, fun hc g5 hx5 N5 => ⟨fun u => absurd rfl u, fun _ => ?_⟩⟩⟩
    · rw [if_pos hc] at hK
      have f5 : FrX th [903, 899, 902] [898, 900, 901] g g5 := f3.tr (hx5.up (by decide) (by decide))
      have v5 : Ia g5 900 th = Ia g2 900 th := (hx5.2.2 _ (by decide)).trans (hx3.2.2 _ (by decide))
      have vv5 : Ia g5 901 th = Ia g 901 th := ((hx5.2.2 _ (by decide)).trans (hx3.2.2 _ (by decide))).trans x2v
      have n5 : Gi g5 902 th = nI n := ((hx5.2.1 _ (by decide)).trans (hx3.2.1 _ (by decide))).trans n2
      obtain ⟨⟨hkd5, a1, a2, a3, a4, _, _, ⟨q1, q2, q3, q4, q5⟩, _⟩, _⟩ := N5.1
      rw [n5, e2, nj_s]
      refine ⟨hkd5, a3, q1, hkd5, hkd5, q2, by rw [q5]; exact inB_nI (by omega) (by omega), ?_⟩
      rw [q3, q4, nj_cl (by omega), N5.2.2.2.1]
      rintro g8 rfl
      have x8 : FrX th [] [900] g5 (sA g5 900 th (2 * n + 1) (nI (flR rs ++ w1).length)) := FrX.sA (by decide)
      have N8 := N5.x x8 (by decide) (by decide) (by decide) (by decide) (by decide)
      have v8 : ∀ j, Ia (sA g5 900 th (2 * n + 1) (nI (flR rs ++ w1).length)) 900 th j = if j = 2 * n + 1 then nI (flR rs ++ w1).length else if j = 2 * n then nI (flR rs).length else Ia g 900 th j := fun j => by rw [Ia_sA, v5, v2]; simp
      have vv8 : Ia (sA g5 900 th (2 * n + 1) (nI (flR rs ++ w1).length)) 901 th = Ia g 901 th := (x8.2.2 _ (by decide)).trans vv5
      have n8 : Gi (sA g5 900 th (2 * n + 1) (nI (flR rs ++ w1).length)) 902 th = nI n := n5
      have f8 := f5.tr (x8.up (fs' := [903, 899, 902]) (cs' := [898, 900, 901]) (by decide) (by decide))
      obtain ⟨g8, hg8⟩ : ∃ q, sA g5 900 th (2 * n + 1) (nI (flR rs ++ w1).length) = q := ⟨_, rfl⟩
      rw [hg8] at N8 v8 vv8 f8 n8 ⊢
      refine ⟨N8.1.1.1, t, skp t p1 + 1, flR rs ++ w1, n, N8, by rw [List.length_append]; omega, n8, by omega, fun b9 g9 hx9 hV9 hvv9 => ?_⟩
      have f9 : FrX th [903, 899, 902] [898, 900, 901] g g9 := f8.tr (hx9.up (by decide) (by decide))
      cases hrv : pVd t (skp t p1 + 1) with
      | inl e =>
        rw [hrv] at hV9 hK
        exact ⟨fun u => absurd hV9.1 u, fun _ => hK 0 g9 f9 ⟨rfl, hV9.2⟩⟩
      | inr y =>
        obtain ⟨p3, v, w3'⟩ := y
        rw [hrv] at hV9 hK
        simp only at hK
        obtain ⟨hb9, N9, hv9⟩ := hV9
        have hge := pVd_ge (by omega) hrv
        refine ⟨fun _ => ⟨N9.1.1.1, N9.1.1.1, ?_⟩, fun u => by rw [hb9] at u; exact absurd u (by decide)⟩
        have n9 : Gi g9 902 th = nI n := (hx9.2.1 _ (by decide)).trans n8
        have v9 : Ia g9 900 th = Ia g8 900 th := hx9.2.2 _ (by decide)
        rw [n9, nj_s]
        rintro g11 rfl
        have x11 : FrX th [902] [] g9 (sI g9 902 th (nI (n + 1))) := FrX.sI (by decide)
        have N11 := N9.x x11 (by decide) (by decide) (by decide) (by decide) (by decide)
        have n11 : Gi (sI g9 902 th (nI (n + 1))) 902 th = nI (n + 1) := by rw [Gi_sI, if_pos ⟨rfl, rfl⟩]
        have v11 : Ia (sI g9 902 th (nI (n + 1))) 900 th = Ia g8 900 th := v9
        have vv11 : Ia (sI g9 902 th (nI (n + 1))) 901 th = Ia g9 901 th := rfl
        have f11 : FrX th [903, 899, 902] [898, 900, 901] g (sI g9 902 th (nI (n + 1))) := f9.tr (x11.up (by decide) (by decide))
        obtain ⟨g11, hg11⟩ : ∃ q, sI g9 902 th (nI (n + 1)) = q := ⟨_, rfl⟩
        rw [hg11] at N11 n11 v11 vv11 f11 ⊢
        obtain ⟨⟨hkd11, a1, a2, a3, a4, _, _, ⟨q1, q2, q3, q4, q5⟩, _⟩, _⟩ := N11.1
        rw [n11, e2]
        refine ⟨hkd11, a3, q1, hkd11, hkd11, q2, by rw [q5]; exact inB_nI (by omega) (by omega), ?_⟩
        rw [q3, q4, nj_cl (by omega), N11.2.2.2.1]
        rintro g13 rfl
        have x13 : FrX th [] [900] g11 (sA g11 900 th (2 * (n + 1)) (nI (flR rs ++ w1 ++ w3').length)) := FrX.sA (by decide)
        have N13 := N11.x x13 (by decide) (by decide) (by decide) (by decide) (by decide)
        refine hK 1 _ (f11.tr (x13.up (by decide) (by decide))) ⟨rfl, ⟨?_, ?_, ?_⟩, ?_, ?_⟩
        · rw [flR_app, ← List.append_assoc]; exact N13
        · rw [Gi_sA, n11, List.length_append, hnn]; rfl
        · refine hB.push (fun j => ?_) (fun k => ?_)
          · rw [Ia_sA, v11, v8, flR_app, ← List.append_assoc, ← hnn, List.length_append (as := flR rs) (bs := w1)]
            simp only [true_and]
            rw [show 2 * (n + 1) = 2 * n + 2 by omega]
          · rw [x13.2.2 _ (by decide), vv11]
            split
            · rename_i e; rw [e, ← hnn]; exact hv9
            · rename_i e; rw [hvv9 k (by omega), vv8]
        · rw [flR_app]; simp only [List.length_append]; omega
        · omega
    · rw [if_neg hc] at hK
      exact hK 0 g5 (f3.tr (hx5.up (by decide) (by decide))) ⟨rfl, _, N5⟩
