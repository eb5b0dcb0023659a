/-! the class: its judge; what the words of a law leave -/
/-- the words between two bounds of a law's object -/
def LC (g : GH) (a j : Nat) (c : List Int32) : Prop := Kd g a = 5 ∧ ∃ b0 nw nb w x, (Gr g 516 a = some w ∧ Kd g w = 20 ∧ Co g w = 516 ∧ Ow g w = a ∧ Ln g w = nw) ∧ (Gr g 517 a = some x ∧ Kd g x = 20 ∧ Co g x = 517 ∧ Ow g x = a ∧ Ln g x = nb) ∧ j + 2 ≤ nb ∧ nb ≤ 1000 ∧ nw ≤ 1000 ∧ b0 + c.length ≤ nw ∧ Ia g 517 a j = nI b0 ∧ Ia g 517 a (j + 1) = nI (b0 + c.length) ∧ ∀ i v, c[i]? = some v → Ia g 516 a (b0 + i) = v
theorem LC.x {m : Nat} {g g' : GH} {a j : Nat} {c : List Int32} {fs cs : List Nat} (h : LC g a j c) (hx : FrX m fs cs g g') (hm : a ≠ m) : LC g' a j c := by
  obtain ⟨⟨x1, x2, x3, x4, x5, x6, x7, x8, x9, x10, x11, x12⟩, y1, y2⟩ := hx
  unfold LC at h ⊢
  rw [x2, x6, x7, x8, x9, x3 _ a hm, x3 _ a hm]
  exact h
theorem E2.o {m e : Nat} {g g' : GH} {fs cs : List Nat} (h : E2 e g) (hx : FrX m fs cs g g') : E2 e g' := by
  obtain ⟨⟨x1, x2, x3, x4, x5, x6, x7, x8, x9, x10, x11, x12⟩, _, _⟩ := hx
  unfold E2 at h ⊢
  rw [x2, x6, x7, x8, x9]
  exact h
theorem eLt.o {m e v : Nat} {g g' : GH} {c q : Int32} {fs cs : List Nat} (hx : FrX m fs cs g g') (h1 : e ≠ m) (h2 : v ≠ m) : eLt g' e v c q = eLt g e v c q := by
  obtain ⟨⟨x1, x2, x3, x4, x5, x6, x7, x8, x9, x10, x11, x12⟩, y1, y2⟩ := hx
  unfold eLt
  simp only [x1 _ e h1, x1 _ v h2, x3 _ e h1]
theorem tyC_take {c : List Int32} {t : List Bool} (h : tyC c [] = some t) {k : Nat} {w : Int32} (hw : c[k]? = some w) {ty : List Bool} (hk : tyC (c.take k) [] = some ty) : ∃ ty', tyW w ty = some ty' ∧ tyC (c.take (k + 1)) [] = some ty' := by
  have hlt := (List.getElem?_eq_some_iff.mp hw).1
  have hcw : c[k] = w := (List.getElem?_eq_some_iff.mp hw).2
  have e1 : c = c.take k ++ (w :: c.drop (k + 1)) := by
    rw [← hcw, ← List.drop_eq_getElem_cons hlt, List.take_append_drop]
  have h2 : tyC (c.take k ++ (w :: c.drop (k + 1))) [] = some t := by rw [← e1]; exact h
  rw [tyC_app, hk] at h2
  have h3 : (match tyW w ty with | none => none | some t1 => tyC (c.drop (k + 1)) t1) = some t := h2
  cases hy : tyW w ty with
  | none => rw [hy] at h3; simp at h3
  | some ty' =>
    refine ⟨ty', rfl, ?_⟩
    rw [List.take_succ, hw]
    show tyC (c.take k ++ [w]) [] = some ty'
    rw [tyC_app, hk]
    show (match tyW w ty with | none => none | some t1 => tyC [] t1) = some ty'
    rw [hy]; rfl
theorem tyC_tl {c : List Int32} {t : List Bool} (h : tyC c [] = some t) : ∀ k, k ≤ c.length → ∃ ty, tyC (c.take k) [] = some ty ∧ ty.length ≤ k := by
  intro k
  induction k with
  | zero => intro _; exact ⟨[], rfl, Nat.le_refl _⟩
  | succ k ih =>
    intro hk
    obtain ⟨ty, h1, h2⟩ := ih (by omega)
    obtain ⟨w, hw⟩ := get_lt (show k < c.length by omega)
    obtain ⟨ty', h3, h4⟩ := tyC_take h hw h1
    exact ⟨ty', h4, by have := tyW_le h3; omega⟩
def SpVo (Γ : GAM) (m a : Nat) (p1 : Int32) (e : Nat) (q : Int32) (g : GH) (K : Int32 → GH → Prop) : Prop := ∃ j c t v, p1 = nI j ∧ LC g a j c ∧ c.length ≤ 199 ∧ tyC c [] = some t ∧ (Kd g m = 4 ∧ ∃ a, Gr g 385 m = some a ∧ Kd g a = 20 ∧ Co g a = 385 ∧ Ow g a = m ∧ Ln g a = 200) ∧ (E2 e g ∧ Gr g 129 e = some v ∧ Kd g v = 11) ∧ (∀ d, okLt d → okV false (eLt g e v d q)) ∧ ∀ g', FrX m [386] [385] g g' → K (sEval (fun d => eLt g e v d q) c) g'
-- the walk of Ju_valueOf
set_option maxRecDepth 100000 in
def B_Ju_valueOf_179 (Γ : GAM) (R_PV_isLetter : Int32 → GH → (Int32 → GH → Prop) → Prop) (K30 : Nat → Nat → Int32 → Nat → Int32 → Int32 → GH → Prop) (K : Int32 → GH → Prop) (l0 : Nat) (g : GH) : Prop :=
  Kd g l0 = 4 ∧ Sp_Ju_pop Γ l0 g (fun (x2 : Int32) (g1 : GH) => K x2 g1)
set_option maxHeartbeats 4000000 in
set_option maxRecDepth 100000 in
theorem S_Ju_valueOf_179 {Γ : GAM} {E : EV} {fr lo : Nat} {K : Int32 → GH → Prop} (hE : GE Γ E cX2_valueOf 8 RX2 (some (.int)) fr lo (fun r g' => ∃ x, r = some (.int x) ∧ K x g')) (hfr : 3 ≤ fr) (hlo : 73 ≤ lo) {R_PV_isLetter : Int32 → GH → (Int32 → GH → Prop) → Prop} {f_PV_isLetter l_PV_isLetter : Nat} (hR_PV_isLetter : (f_PV_isLetter + 1 ≤ fr ∧ 8 + (1 + 11) + l_PV_isLetter ≤ lo) ∧ ∀ (p0 : Int32) g (K : Int32 → GH → Prop), R_PV_isLetter p0 g K → MetA Γ E.2.1 yX10_isLetter cX10_isLetter 1 (some (.boolean)) f_PV_isLetter l_PV_isLetter [.int p0] g (fun r g' => ∃ x, r = some (.int x) ∧ K x g')) {K30 : Nat → Nat → Int32 → Nat → Int32 → Int32 → GH → Prop} (hK30 : ∀ (l0 : Nat) (l1 : Nat) (l2 : Int32) (l3 : Nat) (l4 : Int32) (l5 : Int32) (g : GH), K30 l0 l1 l2 l3 l4 l5 g → JW Γ E 30 [some (.ref l0), some (.ref l1), some (.int l2), some (.ref l3), some (.int l4), some (.int l5), none, none] [] g) (l0 : Nat) (g : GH) (h : B_Ju_valueOf_179 Γ R_PV_isLetter K30 K l0 g) : JW Γ E 179 [some (.ref l0), none, none, none, none, none, none, none] [] g := by
  unfold B_Ju_valueOf_179 at h
  refine j_aload_n hE (by decide +kernel : decode cX2_valueOf 179 = .ok (.aload_n 0, 1)) rfl rfl ?_
  obtain ⟨hk, h⟩ := h
  refine j_callV hE rfl cl_X2_110 cf_3 im_X2_pop se_X2_pop ⟨by omega, by omega⟩ (As := []) (rest := []) rfl rfl (Nat.le_of_ble_eq_true rfl) hk (by decide +kernel : decode cX2_valueOf 180 = .ok (.invokevirtual 110, 3)) (mt_Ju_pop _ _ _ h) ?_
  rintro _ g1 ⟨x2, rfl, h⟩
  exact j_iret hE (by decide +kernel : decode cX2_valueOf 183 = .ok (.ireturn, 1)) ⟨_, rfl, h⟩
set_option maxRecDepth 100000 in
def B_Ju_valueOf_173 (Γ : GAM) (R_PV_isLetter : Int32 → GH → (Int32 → GH → Prop) → Prop) (K30 : Nat → Nat → Int32 → Nat → Int32 → Int32 → GH → Prop) (K : Int32 → GH → Prop) (l0 : Nat) (l1 : Nat) (l2 : Int32) (l3 : Nat) (l4 : Int32) (l5 : Int32) (g : GH) : Prop :=
  K30 l0 l1 l2 l3 l4 (l5 + (1 : Int32)) g
set_option maxHeartbeats 4000000 in
set_option maxRecDepth 100000 in
theorem S_Ju_valueOf_173 {Γ : GAM} {E : EV} {fr lo : Nat} {K : Int32 → GH → Prop} (hE : GE Γ E cX2_valueOf 8 RX2 (some (.int)) fr lo (fun r g' => ∃ x, r = some (.int x) ∧ K x g')) (hfr : 3 ≤ fr) (hlo : 73 ≤ lo) {R_PV_isLetter : Int32 → GH → (Int32 → GH → Prop) → Prop} {f_PV_isLetter l_PV_isLetter : Nat} (hR_PV_isLetter : (f_PV_isLetter + 1 ≤ fr ∧ 8 + (1 + 11) + l_PV_isLetter ≤ lo) ∧ ∀ (p0 : Int32) g (K : Int32 → GH → Prop), R_PV_isLetter p0 g K → MetA Γ E.2.1 yX10_isLetter cX10_isLetter 1 (some (.boolean)) f_PV_isLetter l_PV_isLetter [.int p0] g (fun r g' => ∃ x, r = some (.int x) ∧ K x g')) {K30 : Nat → Nat → Int32 → Nat → Int32 → Int32 → GH → Prop} (hK30 : ∀ (l0 : Nat) (l1 : Nat) (l2 : Int32) (l3 : Nat) (l4 : Int32) (l5 : Int32) (g : GH), K30 l0 l1 l2 l3 l4 l5 g → JW Γ E 30 [some (.ref l0), some (.ref l1), some (.int l2), some (.ref l3), some (.int l4), some (.int l5), none, none] [] g) (l0 : Nat) (l1 : Nat) (l2 : Int32) (l3 : Nat) (l4 : Int32) (l5 : Int32) (g : GH) (h : B_Ju_valueOf_173 Γ R_PV_isLetter K30 K l0 l1 l2 l3 l4 l5 g) : JW Γ E 173 [some (.ref l0), some (.ref l1), some (.int l2), some (.ref l3), some (.int l4), some (.int l5), none, none] [] g := by
  unfold B_Ju_valueOf_173 at h
  refine j_iinc hE (by decide +kernel : decode cX2_valueOf 173 = .ok (.iinc 5 1, 3)) (v := (1 : Int32)) (by decide) rfl (Nat.le_of_ble_eq_true rfl) rfl ?_
  refine j_goto hE (by decide +kernel : decode cX2_valueOf 176 = .ok (.goto (-146), 3)) (tgt := 30) (by decide) ?_
  exact hK30 _ _ _ _ _ _ _ h
set_option maxRecDepth 100000 in
def B_Ju_valueOf_127 (Γ : GAM) (R_PV_isLetter : Int32 → GH → (Int32 → GH → Prop) → Prop) (K30 : Nat → Nat → Int32 → Nat → Int32 → Int32 → GH → Prop) (K : Int32 → GH → Prop) (l0 : Nat) (l1 : Nat) (l2 : Int32) (l3 : Nat) (l4 : Int32) (l5 : Int32) (s0 : Int32) (s1 : Nat) (g : GH) : Prop :=
  Kd g s1 = 4 ∧ Sp_Ju_push Γ s1 s0 g (fun (g1 : GH) => B_Ju_valueOf_173 Γ R_PV_isLetter K30 K l0 l1 l2 l3 l4 l5 g1)
set_option maxHeartbeats 4000000 in
set_option maxRecDepth 100000 in
theorem S_Ju_valueOf_127 {Γ : GAM} {E : EV} {fr lo : Nat} {K : Int32 → GH → Prop} (hE : GE Γ E cX2_valueOf 8 RX2 (some (.int)) fr lo (fun r g' => ∃ x, r = some (.int x) ∧ K x g')) (hfr : 3 ≤ fr) (hlo : 73 ≤ lo) {R_PV_isLetter : Int32 → GH → (Int32 → GH → Prop) → Prop} {f_PV_isLetter l_PV_isLetter : Nat} (hR_PV_isLetter : (f_PV_isLetter + 1 ≤ fr ∧ 8 + (1 + 11) + l_PV_isLetter ≤ lo) ∧ ∀ (p0 : Int32) g (K : Int32 → GH → Prop), R_PV_isLetter p0 g K → MetA Γ E.2.1 yX10_isLetter cX10_isLetter 1 (some (.boolean)) f_PV_isLetter l_PV_isLetter [.int p0] g (fun r g' => ∃ x, r = some (.int x) ∧ K x g')) {K30 : Nat → Nat → Int32 → Nat → Int32 → Int32 → GH → Prop} (hK30 : ∀ (l0 : Nat) (l1 : Nat) (l2 : Int32) (l3 : Nat) (l4 : Int32) (l5 : Int32) (g : GH), K30 l0 l1 l2 l3 l4 l5 g → JW Γ E 30 [some (.ref l0), some (.ref l1), some (.int l2), some (.ref l3), some (.int l4), some (.int l5), none, none] [] g) (l0 : Nat) (l1 : Nat) (l2 : Int32) (l3 : Nat) (l4 : Int32) (l5 : Int32) (s0 : Int32) (s1 : Nat) (g : GH) (h : B_Ju_valueOf_127 Γ R_PV_isLetter K30 K l0 l1 l2 l3 l4 l5 s0 s1 g) : JW Γ E 127 [some (.ref l0), some (.ref l1), some (.int l2), some (.ref l3), some (.int l4), some (.int l5), none, none] [.int s0, .ref s1] g := by
  unfold B_Ju_valueOf_127 at h
  obtain ⟨hk, h⟩ := h
  refine j_callV hE rfl cl_X2_98 cf_3 im_X2_push se_X2_push ⟨by omega, by omega⟩ (As := [.int s0]) (rest := []) rfl rfl (Nat.le_of_ble_eq_true rfl) hk (by decide +kernel : decode cX2_valueOf 127 = .ok (.invokevirtual 98, 3)) (mt_Ju_push _ _ _ _ h) ?_
  rintro _ g1 ⟨rfl, h⟩
  refine j_goto hE (by decide +kernel : decode cX2_valueOf 130 = .ok (.goto 43, 3)) (tgt := 173) (by decide) ?_
  exact S_Ju_valueOf_173 hE hfr hlo hR_PV_isLetter hK30 _ _ _ _ _ _ _ h
set_option maxRecDepth 100000 in
def B_Ju_valueOf_30 (Γ : GAM) (R_PV_isLetter : Int32 → GH → (Int32 → GH → Prop) → Prop) (K30 : Nat → Nat → Int32 → Nat → Int32 → Int32 → GH → Prop) (K : Int32 → GH → Prop) (l0 : Nat) (l1 : Nat) (l2 : Int32) (l3 : Nat) (l4 : Int32) (l5 : Int32) (g : GH) : Prop :=
  Kd g l1 = 5 ∧ ∃ a1 : Nat, Gr g 517 l1 = some a1 ∧ Kd g a1 = 20 ∧ inB (l2 + (1 : Int32)) (Ln g a1) ∧ (((Ia g (Co g a1) (Ow g a1) (l2 + (1 : Int32)).toNatClampNeg) ≤ l5 → B_Ju_valueOf_179 Γ R_PV_isLetter K30 K l0 g) ∧ (¬ ((Ia g (Co g a1) (Ow g a1) (l2 + (1 : Int32)).toNatClampNeg) ≤ l5) → Kd g l1 = 5 ∧ ∃ a2 : Nat, Gr g 516 l1 = some a2 ∧ (20 ≤ Kd g a2 ∧ Kd g a2 < 24) ∧ Sp_PV_isWithin Γ l5 (0 : Int32) ((Int32.ofNat (Ln g a2)) - (1 : Int32)) g (fun (x4 : Int32) (g3 : GH) => ((x4 = 0 → B_Ju_valueOf_179 Γ R_PV_isLetter K30 K l0 g3) ∧ (¬ (x4 = 0) → Kd g3 l1 = 5 ∧ ∃ a5 : Nat, Gr g3 516 l1 = some a5 ∧ Kd g3 a5 = 20 ∧ inB l5 (Ln g3 a5) ∧ ∀ x6 : Int32, x6 = (-(Ia g3 (Co g3 a5) (Ow g3 a5) l5.toNatClampNeg)) → ((0 < x6 → R_PV_isLetter x6 g3 (fun (x8 : Int32) (g7 : GH) => ((x8 = 0 → ((¬ (x6 = (33 : Int32)) → ((¬ (x6 = (126 : Int32)) → Kd g7 l0 = 4 ∧ Sp_Ju_pop Γ l0 g7 (fun (x10 : Int32) (g9 : GH) => Kd g9 l0 = 4 ∧ Sp_Ju_pop Γ l0 g9 (fun (x12 : Int32) (g11 : GH) => Sp_Ju_joined Γ x6 x12 x10 g11 (fun (x14 : Int32) (g13 : GH) => Kd g13 l0 = 4 ∧ Sp_Ju_push Γ l0 x14 g13 (fun (g15 : GH) => B_Ju_valueOf_173 Γ R_PV_isLetter K30 K l0 l1 l2 l3 l4 l5 g15))))) ∧ (x6 = (126 : Int32) → Kd g7 l0 = 4 ∧ Sp_Ju_pop Γ l0 g7 (fun (x17 : Int32) (g16 : GH) => Kd g16 l0 = 4 ∧ Sp_Ju_push Γ l0 (-x17) g16 (fun (g18 : GH) => B_Ju_valueOf_173 Γ R_PV_isLetter K30 K l0 l1 l2 l3 l4 l5 g18))))) ∧ (x6 = (33 : Int32) → Kd g7 l0 = 4 ∧ Sp_Ju_pop Γ l0 g7 (fun (x20 : Int32) (g19 : GH) => ((¬ (x20 = 0) → B_Ju_valueOf_127 Γ R_PV_isLetter K30 K l0 l1 l2 l3 l4 l5 (0 : Int32) l0 g19) ∧ (x20 = 0 → B_Ju_valueOf_127 Γ R_PV_isLetter K30 K l0 l1 l2 l3 l4 l5 (1 : Int32) l0 g19)))))) ∧ (¬ (x8 = 0) → Kd g7 l3 = 2 ∧ Sp_En_numberOf Γ l3 x6 l4 g7 (fun (x22 : Int32) (g21 : GH) => Kd g21 l0 = 4 ∧ Sp_Ju_push Γ l0 x22 g21 (fun (g23 : GH) => B_Ju_valueOf_173 Γ R_PV_isLetter K30 K l0 l1 l2 l3 l4 l5 g23)))))) ∧ (¬ (0 < x6) → Kd g3 l0 = 4 ∧ Sp_Ju_push Γ l0 (-x6) g3 (fun (g24 : GH) => B_Ju_valueOf_173 Γ R_PV_isLetter K30 K l0 l1 l2 l3 l4 l5 g24))))))))
set_option maxHeartbeats 4000000 in
set_option maxRecDepth 100000 in
theorem S_Ju_valueOf_30 {Γ : GAM} {E : EV} {fr lo : Nat} {K : Int32 → GH → Prop} (hE : GE Γ E cX2_valueOf 8 RX2 (some (.int)) fr lo (fun r g' => ∃ x, r = some (.int x) ∧ K x g')) (hfr : 3 ≤ fr) (hlo : 73 ≤ lo) {R_PV_isLetter : Int32 → GH → (Int32 → GH → Prop) → Prop} {f_PV_isLetter l_PV_isLetter : Nat} (hR_PV_isLetter : (f_PV_isLetter + 1 ≤ fr ∧ 8 + (1 + 11) + l_PV_isLetter ≤ lo) ∧ ∀ (p0 : Int32) g (K : Int32 → GH → Prop), R_PV_isLetter p0 g K → MetA Γ E.2.1 yX10_isLetter cX10_isLetter 1 (some (.boolean)) f_PV_isLetter l_PV_isLetter [.int p0] g (fun r g' => ∃ x, r = some (.int x) ∧ K x g')) {K30 : Nat → Nat → Int32 → Nat → Int32 → Int32 → GH → Prop} (hK30 : ∀ (l0 : Nat) (l1 : Nat) (l2 : Int32) (l3 : Nat) (l4 : Int32) (l5 : Int32) (g : GH), K30 l0 l1 l2 l3 l4 l5 g → JW Γ E 30 [some (.ref l0), some (.ref l1), some (.int l2), some (.ref l3), some (.int l4), some (.int l5), none, none] [] g) (l0 : Nat) (l1 : Nat) (l2 : Int32) (l3 : Nat) (l4 : Int32) (l5 : Int32) (g : GH) (h : B_Ju_valueOf_30 Γ R_PV_isLetter K30 K l0 l1 l2 l3 l4 l5 g) : JW Γ E 30 [some (.ref l0), some (.ref l1), some (.int l2), some (.ref l3), some (.int l4), some (.int l5), none, none] [] g := by
  unfold B_Ju_valueOf_30 at h
  refine j_iload hE (by decide +kernel : decode cX2_valueOf 30 = .ok (.iload 5, 2)) rfl ?_
  refine j_aload_n hE (by decide +kernel : decode cX2_valueOf 32 = .ok (.aload_n 1, 1)) rfl rfl ?_
  obtain ⟨hk, h⟩ := h
  obtain ⟨a1, ha, h⟩ := h
  refine j_getRn hE fg_X2_89 hk ha (by decide +kernel : decode cX2_valueOf 33 = .ok (.getfield 89, 3)) ?_
  refine j_iload_n hE (by decide +kernel : decode cX2_valueOf 36 = .ok (.iload_n 2, 1)) rfl rfl ?_
  refine j_iconst hE (by decide +kernel : decode cX2_valueOf 37 = .ok (.iconst 1, 1)) (v := (1 : Int32)) (by decide) ?_
  refine j_iadd hE (by decide +kernel : decode cX2_valueOf 38 = .ok (.iadd, 1)) ?_
  obtain ⟨hk, hb, h⟩ := h
  refine j_iald hE hk hb (by decide +kernel : decode cX2_valueOf 39 = .ok (.iaload, 1)) ?_
  refine j_icmp_ge hE (by decide +kernel : decode cX2_valueOf 40 = .ok (.if_icmp .ge 139, 3)) (tgt := 179) (by decide) (fun q => ?_) (fun q => ?_)
  · replace h := h.1 q
    refine j_weak [some (.ref l0), none, none, none, none, none, none, none] ⟨rfl, trivial⟩ ?_
    exact S_Ju_valueOf_179 hE hfr hlo hR_PV_isLetter hK30 _ _ h
  · replace h := h.2 q
    refine j_iload hE (by decide +kernel : decode cX2_valueOf 43 = .ok (.iload 5, 2)) rfl ?_
    refine j_iconst hE (by decide +kernel : decode cX2_valueOf 45 = .ok (.iconst 0, 1)) (v := (0 : Int32)) (by decide) ?_
    refine j_aload_n hE (by decide +kernel : decode cX2_valueOf 46 = .ok (.aload_n 1, 1)) rfl rfl ?_
    obtain ⟨hk, h⟩ := h
    obtain ⟨a2, ha, h⟩ := h
    refine j_getRn hE fg_X2_95 hk ha (by decide +kernel : decode cX2_valueOf 47 = .ok (.getfield 95, 3)) ?_
    obtain ⟨hk, h⟩ := h
    refine j_alen hE hk (by decide +kernel : decode cX2_valueOf 50 = .ok (.arraylength, 1)) ?_
    refine j_iconst hE (by decide +kernel : decode cX2_valueOf 51 = .ok (.iconst 1, 1)) (v := (1 : Int32)) (by decide) ?_
    refine j_isub hE (by decide +kernel : decode cX2_valueOf 52 = .ok (.isub, 1)) ?_
    refine j_callSN hE rfl cl_X2_55 st_X10_isWithin ⟨by omega, by omega⟩ (As := [.int l5, .int (0 : Int32), .int ((Int32.ofNat (Ln g a2)) - (1 : Int32))]) (rest := []) rfl rfl (Nat.le_of_ble_eq_true rfl) (by decide +kernel : decode cX2_valueOf 53 = .ok (.invokestatic 55, 3)) (mt_PV_isWithin _ _ _ _ _ h) ?_
    rintro _ g3 ⟨x4, rfl, h⟩
    refine j_if_eq hE (by decide +kernel : decode cX2_valueOf 56 = .ok (.ifCond .eq 123, 3)) (tgt := 179) (by decide) (fun q => ?_) (fun q => ?_)
    · replace h := h.1 q
      refine j_weak [some (.ref l0), none, none, none, none, none, none, none] ⟨rfl, trivial⟩ ?_
      exact S_Ju_valueOf_179 hE hfr hlo hR_PV_isLetter hK30 _ _ h
    · replace h := h.2 q
      refine j_aload_n hE (by decide +kernel : decode cX2_valueOf 59 = .ok (.aload_n 1, 1)) rfl rfl ?_
      obtain ⟨hk, h⟩ := h
      obtain ⟨a5, ha, h⟩ := h
      refine j_getRn hE fg_X2_95 hk ha (by decide +kernel : decode cX2_valueOf 60 = .ok (.getfield 95, 3)) ?_
      refine j_iload hE (by decide +kernel : decode cX2_valueOf 63 = .ok (.iload 5, 2)) rfl ?_
      obtain ⟨hk, hb, h⟩ := h
      refine j_iald hE hk hb (by decide +kernel : decode cX2_valueOf 65 = .ok (.iaload, 1)) ?_
      refine j_ineg hE (by decide +kernel : decode cX2_valueOf 66 = .ok (.ineg, 1)) ?_
      obtain ⟨x6, hx⟩ : ∃ z, z = (-(Ia g3 (Co g3 a5) (Ow g3 a5) l5.toNatClampNeg)) := ⟨_, rfl⟩; replace h := h x6 hx; rw [← hx]
      refine j_istore hE (by decide +kernel : decode cX2_valueOf 67 = .ok (.istore 6, 2)) (Nat.le_of_ble_eq_true rfl) rfl ?_
      refine j_iload hE (by decide +kernel : decode cX2_valueOf 69 = .ok (.iload 6, 2)) rfl ?_
      refine j_if_gt hE (by decide +kernel : decode cX2_valueOf 71 = .ok (.ifCond .gt 13, 3)) (tgt := 84) (by decide) (fun q => ?_) (fun q => ?_)
      · replace h := h.1 q
        refine j_iload hE (by decide +kernel : decode cX2_valueOf 84 = .ok (.iload 6, 2)) rfl ?_
        refine j_callSN hE rfl cl_X2_102 st_X10_isLetter hR_PV_isLetter.1 (As := [.int x6]) (rest := []) rfl rfl (Nat.le_of_ble_eq_true rfl) (by decide +kernel : decode cX2_valueOf 86 = .ok (.invokestatic 102, 3)) (hR_PV_isLetter.2 _ _ _ h) ?_
        rintro _ g7 ⟨x8, rfl, h⟩
        refine j_if_eq hE (by decide +kernel : decode cX2_valueOf 89 = .ok (.ifCond .eq 18, 3)) (tgt := 107) (by decide) (fun q => ?_) (fun q => ?_)
        · replace h := h.1 q
          refine j_iload hE (by decide +kernel : decode cX2_valueOf 107 = .ok (.iload 6, 2)) rfl ?_
          refine j_bipush hE (by decide +kernel : decode cX2_valueOf 109 = .ok (.bipush 33, 2)) (v := (33 : Int32)) (by decide) ?_
          refine j_icmp_ne hE (by decide +kernel : decode cX2_valueOf 111 = .ok (.if_icmp .ne 22, 3)) (tgt := 133) (by decide) (fun q => ?_) (fun q => ?_)
          · replace h := h.1 q
            refine j_iload hE (by decide +kernel : decode cX2_valueOf 133 = .ok (.iload 6, 2)) rfl ?_
            refine j_bipush hE (by decide +kernel : decode cX2_valueOf 135 = .ok (.bipush 126, 2)) (v := (126 : Int32)) (by decide) ?_
            refine j_icmp_ne hE (by decide +kernel : decode cX2_valueOf 137 = .ok (.if_icmp .ne 15, 3)) (tgt := 152) (by decide) (fun q => ?_) (fun q => ?_)
            · replace h := h.1 q
              refine j_aload_n hE (by decide +kernel : decode cX2_valueOf 152 = .ok (.aload_n 0, 1)) rfl rfl ?_
              obtain ⟨hk, h⟩ := h
              refine j_callV hE rfl cl_X2_110 cf_3 im_X2_pop se_X2_pop ⟨by omega, by omega⟩ (As := []) (rest := []) rfl rfl (Nat.le_of_ble_eq_true rfl) hk (by decide +kernel : decode cX2_valueOf 153 = .ok (.invokevirtual 110, 3)) (mt_Ju_pop _ _ _ h) ?_
              rintro _ g9 ⟨x10, rfl, h⟩
              refine j_istore hE (by decide +kernel : decode cX2_valueOf 156 = .ok (.istore 7, 2)) (Nat.le_of_ble_eq_true rfl) rfl ?_
              refine j_aload_n hE (by decide +kernel : decode cX2_valueOf 158 = .ok (.aload_n 0, 1)) rfl rfl ?_
              refine j_iload hE (by decide +kernel : decode cX2_valueOf 159 = .ok (.iload 6, 2)) rfl ?_
              refine j_aload_n hE (by decide +kernel : decode cX2_valueOf 161 = .ok (.aload_n 0, 1)) rfl rfl ?_
              obtain ⟨hk, h⟩ := h
              refine j_callV hE rfl cl_X2_110 cf_3 im_X2_pop se_X2_pop ⟨by omega, by omega⟩ (As := []) (rest := [.int x6, .ref l0]) rfl rfl (Nat.le_of_ble_eq_true rfl) hk (by decide +kernel : decode cX2_valueOf 162 = .ok (.invokevirtual 110, 3)) (mt_Ju_pop _ _ _ h) ?_
              rintro _ g11 ⟨x12, rfl, h⟩
              refine j_iload hE (by decide +kernel : decode cX2_valueOf 165 = .ok (.iload 7, 2)) rfl ?_
              refine j_callS hE rfl cl_X2_115 st_X2_joined ⟨by omega, by omega⟩ (As := [.int x6, .int x12, .int x10]) (rest := [.ref l0]) rfl rfl (Nat.le_of_ble_eq_true rfl) (by decide +kernel : decode cX2_valueOf 167 = .ok (.invokestatic 115, 3)) (mt_Ju_joined _ _ _ _ _ h) ?_
              rintro _ g13 ⟨x14, rfl, h⟩
              obtain ⟨hk, h⟩ := h
              refine j_callV hE rfl cl_X2_98 cf_3 im_X2_push se_X2_push ⟨by omega, by omega⟩ (As := [.int x14]) (rest := []) rfl rfl (Nat.le_of_ble_eq_true rfl) hk (by decide +kernel : decode cX2_valueOf 170 = .ok (.invokevirtual 98, 3)) (mt_Ju_push _ _ _ _ h) ?_
              rintro _ g15 ⟨rfl, h⟩
              refine j_weak [some (.ref l0), some (.ref l1), some (.int l2), some (.ref l3), some (.int l4), some (.int l5), none, none] ⟨rfl, ⟨rfl, ⟨rfl, ⟨rfl, ⟨rfl, ⟨rfl, trivial⟩⟩⟩⟩⟩⟩ ?_
              exact S_Ju_valueOf_173 hE hfr hlo hR_PV_isLetter hK30 _ _ _ _ _ _ _ h
            · replace h := h.2 q
              refine j_aload_n hE (by decide +kernel : decode cX2_valueOf 140 = .ok (.aload_n 0, 1)) rfl rfl ?_
              refine j_aload_n hE (by decide +kernel : decode cX2_valueOf 141 = .ok (.aload_n 0, 1)) rfl rfl ?_
              obtain ⟨hk, h⟩ := h
              refine j_callV hE rfl cl_X2_110 cf_3 im_X2_pop se_X2_pop ⟨by omega, by omega⟩ (As := []) (rest := [.ref l0]) rfl rfl (Nat.le_of_ble_eq_true rfl) hk (by decide +kernel : decode cX2_valueOf 142 = .ok (.invokevirtual 110, 3)) (mt_Ju_pop _ _ _ h) ?_
              rintro _ g16 ⟨x17, rfl, h⟩
              refine j_ineg hE (by decide +kernel : decode cX2_valueOf 145 = .ok (.ineg, 1)) ?_
              obtain ⟨hk, h⟩ := h
              refine j_callV hE rfl cl_X2_98 cf_3 im_X2_push se_X2_push ⟨by omega, by omega⟩ (As := [.int (-x17)]) (rest := []) rfl rfl (Nat.le_of_ble_eq_true rfl) hk (by decide +kernel : decode cX2_valueOf 146 = .ok (.invokevirtual 98, 3)) (mt_Ju_push _ _ _ _ h) ?_
              rintro _ g18 ⟨rfl, h⟩
              refine j_goto hE (by decide +kernel : decode cX2_valueOf 149 = .ok (.goto 24, 3)) (tgt := 173) (by decide) ?_
              refine j_weak [some (.ref l0), some (.ref l1), some (.int l2), some (.ref l3), some (.int l4), some (.int l5), none, none] ⟨rfl, ⟨rfl, ⟨rfl, ⟨rfl, ⟨rfl, ⟨rfl, trivial⟩⟩⟩⟩⟩⟩ ?_
              exact S_Ju_valueOf_173 hE hfr hlo hR_PV_isLetter hK30 _ _ _ _ _ _ _ h
          · replace h := h.2 q
            refine j_aload_n hE (by decide +kernel : decode cX2_valueOf 114 = .ok (.aload_n 0, 1)) rfl rfl ?_
            refine j_aload_n hE (by decide +kernel : decode cX2_valueOf 115 = .ok (.aload_n 0, 1)) rfl rfl ?_
            obtain ⟨hk, h⟩ := h
            refine j_callV hE rfl cl_X2_110 cf_3 im_X2_pop se_X2_pop ⟨by omega, by omega⟩ (As := []) (rest := [.ref l0]) rfl rfl (Nat.le_of_ble_eq_true rfl) hk (by decide +kernel : decode cX2_valueOf 116 = .ok (.invokevirtual 110, 3)) (mt_Ju_pop _ _ _ h) ?_
            rintro _ g19 ⟨x20, rfl, h⟩
            refine j_if_ne hE (by decide +kernel : decode cX2_valueOf 119 = .ok (.ifCond .ne 7, 3)) (tgt := 126) (by decide) (fun q => ?_) (fun q => ?_)
            · replace h := h.1 q
              refine j_iconst hE (by decide +kernel : decode cX2_valueOf 126 = .ok (.iconst 0, 1)) (v := (0 : Int32)) (by decide) ?_
              refine j_weak [some (.ref l0), some (.ref l1), some (.int l2), some (.ref l3), some (.int l4), some (.int l5), none, none] ⟨rfl, ⟨rfl, ⟨rfl, ⟨rfl, ⟨rfl, ⟨rfl, trivial⟩⟩⟩⟩⟩⟩ ?_
              exact S_Ju_valueOf_127 hE hfr hlo hR_PV_isLetter hK30 _ _ _ _ _ _ _ _ _ h
            · replace h := h.2 q
              refine j_iconst hE (by decide +kernel : decode cX2_valueOf 122 = .ok (.iconst 1, 1)) (v := (1 : Int32)) (by decide) ?_
              refine j_goto hE (by decide +kernel : decode cX2_valueOf 123 = .ok (.goto 4, 3)) (tgt := 127) (by decide) ?_
              refine j_weak [some (.ref l0), some (.ref l1), some (.int l2), some (.ref l3), some (.int l4), some (.int l5), none, none] ⟨rfl, ⟨rfl, ⟨rfl, ⟨rfl, ⟨rfl, ⟨rfl, trivial⟩⟩⟩⟩⟩⟩ ?_
              exact S_Ju_valueOf_127 hE hfr hlo hR_PV_isLetter hK30 _ _ _ _ _ _ _ _ _ h
        · replace h := h.2 q
          refine j_aload_n hE (by decide +kernel : decode cX2_valueOf 92 = .ok (.aload_n 0, 1)) rfl rfl ?_
          refine j_aload_n hE (by decide +kernel : decode cX2_valueOf 93 = .ok (.aload_n 3, 1)) rfl rfl ?_
          refine j_iload hE (by decide +kernel : decode cX2_valueOf 94 = .ok (.iload 6, 2)) rfl ?_
          refine j_iload hE (by decide +kernel : decode cX2_valueOf 96 = .ok (.iload 4, 2)) rfl ?_
          obtain ⟨hk, h⟩ := h
          refine j_callV hE rfl cl_X2_106 cf_1 im_X0_numberOf se_X0_numberOf ⟨by omega, by omega⟩ (As := [.int x6, .int l4]) (rest := [.ref l0]) rfl rfl (Nat.le_of_ble_eq_true rfl) hk (by decide +kernel : decode cX2_valueOf 98 = .ok (.invokevirtual 106, 3)) (mt_En_numberOf _ _ _ _ _ h) ?_
          rintro _ g21 ⟨x22, rfl, h⟩
          obtain ⟨hk, h⟩ := h
          refine j_callV hE rfl cl_X2_98 cf_3 im_X2_push se_X2_push ⟨by omega, by omega⟩ (As := [.int x22]) (rest := []) rfl rfl (Nat.le_of_ble_eq_true rfl) hk (by decide +kernel : decode cX2_valueOf 101 = .ok (.invokevirtual 98, 3)) (mt_Ju_push _ _ _ _ h) ?_
          rintro _ g23 ⟨rfl, h⟩
          refine j_goto hE (by decide +kernel : decode cX2_valueOf 104 = .ok (.goto 69, 3)) (tgt := 173) (by decide) ?_
          refine j_weak [some (.ref l0), some (.ref l1), some (.int l2), some (.ref l3), some (.int l4), some (.int l5), none, none] ⟨rfl, ⟨rfl, ⟨rfl, ⟨rfl, ⟨rfl, ⟨rfl, trivial⟩⟩⟩⟩⟩⟩ ?_
          exact S_Ju_valueOf_173 hE hfr hlo hR_PV_isLetter hK30 _ _ _ _ _ _ _ h
      · replace h := h.2 q
        refine j_aload_n hE (by decide +kernel : decode cX2_valueOf 74 = .ok (.aload_n 0, 1)) rfl rfl ?_
        refine j_iload hE (by decide +kernel : decode cX2_valueOf 75 = .ok (.iload 6, 2)) rfl ?_
        refine j_ineg hE (by decide +kernel : decode cX2_valueOf 77 = .ok (.ineg, 1)) ?_
        obtain ⟨hk, h⟩ := h
        refine j_callV hE rfl cl_X2_98 cf_3 im_X2_push se_X2_push ⟨by omega, by omega⟩ (As := [.int (-x6)]) (rest := []) rfl rfl (Nat.le_of_ble_eq_true rfl) hk (by decide +kernel : decode cX2_valueOf 78 = .ok (.invokevirtual 98, 3)) (mt_Ju_push _ _ _ _ h) ?_
        rintro _ g24 ⟨rfl, h⟩
        refine j_goto hE (by decide +kernel : decode cX2_valueOf 81 = .ok (.goto 92, 3)) (tgt := 173) (by decide) ?_
        refine j_weak [some (.ref l0), some (.ref l1), some (.int l2), some (.ref l3), some (.int l4), some (.int l5), none, none] ⟨rfl, ⟨rfl, ⟨rfl, ⟨rfl, ⟨rfl, ⟨rfl, trivial⟩⟩⟩⟩⟩⟩ ?_
        exact S_Ju_valueOf_173 hE hfr hlo hR_PV_isLetter hK30 _ _ _ _ _ _ _ h
set_option maxRecDepth 100000 in
def B_Ju_valueOf_0 (Γ : GAM) (R_PV_isLetter : Int32 → GH → (Int32 → GH → Prop) → Prop) (K30 : Nat → Nat → Int32 → Nat → Int32 → Int32 → GH → Prop) (K : Int32 → GH → Prop) (th : Nat) (p0 : Nat) (p1 : Int32) (p2 : Nat) (p3 : Int32) (g : GH) : Prop :=
  Kd g p0 = 5 ∧ ∃ a1 : Nat, Gr g 517 p0 = some a1 ∧ (20 ≤ Kd g a1 ∧ Kd g a1 < 24) ∧ Sp_PV_isWithin Γ p1 (0 : Int32) ((Int32.ofNat (Ln g a1)) - (2 : Int32)) g (fun (x3 : Int32) (g2 : GH) => ((¬ (x3 = 0) → Kd g2 th = 4 ∧ ∀ g4 : GH, g4 = sI g2 386 th (0 : Int32) → Kd g4 p0 = 5 ∧ ∃ a5 : Nat, Gr g4 517 p0 = some a5 ∧ Kd g4 a5 = 20 ∧ inB p1 (Ln g4 a5) ∧ ∀ x6 : Int32, x6 = (Ia g4 (Co g4 a5) (Ow g4 a5) p1.toNatClampNeg) → K30 th p0 p1 p2 p3 x6 g4) ∧ (x3 = 0 → K (0 : Int32) g2)))
set_option maxHeartbeats 4000000 in
set_option maxRecDepth 100000 in
theorem S_Ju_valueOf_0 {Γ : GAM} {E : EV} {fr lo : Nat} {K : Int32 → GH → Prop} (hE : GE Γ E cX2_valueOf 8 RX2 (some (.int)) fr lo (fun r g' => ∃ x, r = some (.int x) ∧ K x g')) (hfr : 3 ≤ fr) (hlo : 73 ≤ lo) {R_PV_isLetter : Int32 → GH → (Int32 → GH → Prop) → Prop} {f_PV_isLetter l_PV_isLetter : Nat} (hR_PV_isLetter : (f_PV_isLetter + 1 ≤ fr ∧ 8 + (1 + 11) + l_PV_isLetter ≤ lo) ∧ ∀ (p0 : Int32) g (K : Int32 → GH → Prop), R_PV_isLetter p0 g K → MetA Γ E.2.1 yX10_isLetter cX10_isLetter 1 (some (.boolean)) f_PV_isLetter l_PV_isLetter [.int p0] g (fun r g' => ∃ x, r = some (.int x) ∧ K x g')) {K30 : Nat → Nat → Int32 → Nat → Int32 → Int32 → GH → Prop} (hK30 : ∀ (l0 : Nat) (l1 : Nat) (l2 : Int32) (l3 : Nat) (l4 : Int32) (l5 : Int32) (g : GH), K30 l0 l1 l2 l3 l4 l5 g → JW Γ E 30 [some (.ref l0), some (.ref l1), some (.int l2), some (.ref l3), some (.int l4), some (.int l5), none, none] [] g) (th : Nat) (p0 : Nat) (p1 : Int32) (p2 : Nat) (p3 : Int32) (g : GH) (h : B_Ju_valueOf_0 Γ R_PV_isLetter K30 K th p0 p1 p2 p3 g) : JW Γ E 0 [some (.ref th), some (.ref p0), some (.int p1), some (.ref p2), some (.int p3), none, none, none] [] g := by
  unfold B_Ju_valueOf_0 at h
  refine j_iload_n hE (by decide +kernel : decode cX2_valueOf 0 = .ok (.iload_n 2, 1)) rfl rfl ?_
  refine j_iconst hE (by decide +kernel : decode cX2_valueOf 1 = .ok (.iconst 0, 1)) (v := (0 : Int32)) (by decide) ?_
  refine j_aload_n hE (by decide +kernel : decode cX2_valueOf 2 = .ok (.aload_n 1, 1)) rfl rfl ?_
  obtain ⟨hk, h⟩ := h
  obtain ⟨a1, ha, h⟩ := h
  refine j_getRn hE fg_X2_89 hk ha (by decide +kernel : decode cX2_valueOf 3 = .ok (.getfield 89, 3)) ?_
  obtain ⟨hk, h⟩ := h
  refine j_alen hE hk (by decide +kernel : decode cX2_valueOf 6 = .ok (.arraylength, 1)) ?_
  refine j_iconst hE (by decide +kernel : decode cX2_valueOf 7 = .ok (.iconst 2, 1)) (v := (2 : Int32)) (by decide) ?_
  refine j_isub hE (by decide +kernel : decode cX2_valueOf 8 = .ok (.isub, 1)) ?_
  refine j_callSN hE rfl cl_X2_55 st_X10_isWithin ⟨by omega, by omega⟩ (As := [.int p1, .int (0 : Int32), .int ((Int32.ofNat (Ln g a1)) - (2 : Int32))]) (rest := []) rfl rfl (Nat.le_of_ble_eq_true rfl) (by decide +kernel : decode cX2_valueOf 9 = .ok (.invokestatic 55, 3)) (mt_PV_isWithin _ _ _ _ _ h) ?_
  rintro _ g2 ⟨x3, rfl, h⟩
  refine j_if_ne hE (by decide +kernel : decode cX2_valueOf 12 = .ok (.ifCond .ne 5, 3)) (tgt := 17) (by decide) (fun q => ?_) (fun q => ?_)
  · replace h := h.1 q
    refine j_aload_n hE (by decide +kernel : decode cX2_valueOf 17 = .ok (.aload_n 0, 1)) rfl rfl ?_
    refine j_iconst hE (by decide +kernel : decode cX2_valueOf 18 = .ok (.iconst 0, 1)) (v := (0 : Int32)) (by decide) ?_
    obtain ⟨hk, h⟩ := h
    obtain ⟨g4, hg⟩ : ∃ z, z = sI g2 386 th (0 : Int32) := ⟨_, rfl⟩; replace h := h g4 hg
    refine j_putI hE fa_X2_92 hk (fun q => by cases q) (by decide +kernel : decode cX2_valueOf 19 = .ok (.putfield 92, 3)) ?_
    rw [← hg]
    refine j_aload_n hE (by decide +kernel : decode cX2_valueOf 22 = .ok (.aload_n 1, 1)) rfl rfl ?_
    obtain ⟨hk, h⟩ := h
    obtain ⟨a5, ha, h⟩ := h
    refine j_getRn hE fg_X2_89 hk ha (by decide +kernel : decode cX2_valueOf 23 = .ok (.getfield 89, 3)) ?_
    refine j_iload_n hE (by decide +kernel : decode cX2_valueOf 26 = .ok (.iload_n 2, 1)) rfl rfl ?_
    obtain ⟨hk, hb, h⟩ := h
    refine j_iald hE hk hb (by decide +kernel : decode cX2_valueOf 27 = .ok (.iaload, 1)) ?_
    obtain ⟨x6, hx⟩ : ∃ z, z = (Ia g4 (Co g4 a5) (Ow g4 a5) p1.toNatClampNeg) := ⟨_, rfl⟩; replace h := h x6 hx; rw [← hx]
    refine j_istore hE (by decide +kernel : decode cX2_valueOf 28 = .ok (.istore 5, 2)) (Nat.le_of_ble_eq_true rfl) rfl ?_
    exact hK30 _ _ _ _ _ _ _ h
  · replace h := h.2 q
    refine j_iconst hE (by decide +kernel : decode cX2_valueOf 15 = .ok (.iconst 0, 1)) (v := (0 : Int32)) (by decide) ?_
    exact j_iret hE (by decide +kernel : decode cX2_valueOf 16 = .ok (.ireturn, 1)) ⟨_, rfl, h⟩
set_option maxHeartbeats 4000000 in
set_option maxRecDepth 100000 in
theorem rl_Ju_valueOf {Γ : GAM} {l : Launch} {fr lo : Nat} (hfr : 3 ≤ fr) (hlo : 73 ≤ lo) {R_PV_isLetter : Int32 → GH → (Int32 → GH → Prop) → Prop} {f_PV_isLetter l_PV_isLetter : Nat} (hR_PV_isLetter : (f_PV_isLetter + 1 ≤ fr ∧ 8 + (1 + 11) + l_PV_isLetter ≤ lo) ∧ ∀ (p0 : Int32) g (K : Int32 → GH → Prop), R_PV_isLetter p0 g K → MetA Γ l yX10_isLetter cX10_isLetter 1 (some (.boolean)) f_PV_isLetter l_PV_isLetter [.int p0] g (fun r g' => ∃ x, r = some (.int x) ∧ K x g')) {th : Nat} {p0 : Nat} {p1 : Int32} {p2 : Nat} {p3 : Int32} {g : GH} {K : Int32 → GH → Prop} (I30 : Nat → Nat → Nat → Int32 → Nat → Int32 → Int32 → GH → Prop) (hh30 : ∀ n (l0 : Nat) (l1 : Nat) (l2 : Int32) (l3 : Nat) (l4 : Int32) (l5 : Int32) (g : GH), I30 n l0 l1 l2 l3 l4 l5 g → B_Ju_valueOf_30 Γ R_PV_isLetter (fun l0 l1 l2 l3 l4 l5 g => ∃ m, m < n ∧ I30 m l0 l1 l2 l3 l4 l5 g) K l0 l1 l2 l3 l4 l5 g) (h0 : B_Ju_valueOf_0 Γ R_PV_isLetter (fun l0 l1 l2 l3 l4 l5 g => ∃ m, I30 m l0 l1 l2 l3 l4 l5 g) K th p0 p1 p2 p3 g) : MetA Γ l yX2_valueOf cX2_valueOf 8 (some (.int)) fr lo [.ref th, .ref p0, .int p1, .ref p2, .int p3] g (fun r g' => ∃ x, r = some (.int x) ∧ K x g') := by
  refine MetA.introL (Lx := [some (.ref th), some (.ref p0), some (.int p1), some (.ref p2), some (.int p3), none, none, none]) (by decide) (Nat.le_of_ble_eq_true rfl) rfl rfl ?_
  intro E hEl hE hnm
  have hR_PV_isLetter := hR_PV_isLetter; rw [← hEl] at hR_PV_isLetter
  have hall : ∀ n, (∀ (l0 : Nat) (l1 : Nat) (l2 : Int32) (l3 : Nat) (l4 : Int32) (l5 : Int32) (g : GH), I30 n l0 l1 l2 l3 l4 l5 g → JW Γ E 30 [some (.ref l0), some (.ref l1), some (.int l2), some (.ref l3), some (.int l4), some (.int l5), none, none] [] g) := by
    intro n
    induction n using Nat.strongRecOn with
    | ind n ih =>
      exact fun l0 l1 l2 l3 l4 l5 g hi => S_Ju_valueOf_30 hE hfr hlo hR_PV_isLetter (fun l0 l1 l2 l3 l4 l5 g hm => by obtain ⟨m, hm, h⟩ := hm; exact (ih m hm) l0 l1 l2 l3 l4 l5 g h) l0 l1 l2 l3 l4 l5 g (hh30 n l0 l1 l2 l3 l4 l5 g hi)
  exact S_Ju_valueOf_0 hE hfr hlo hR_PV_isLetter (fun l0 l1 l2 l3 l4 l5 g hm => by obtain ⟨m, h⟩ := hm; exact (hall m) l0 l1 l2 l3 l4 l5 g h) th p0 p1 p2 p3 g h0
theorem mz_valueOf {Γ : GAM} {l : Launch} {fL lL : Nat} (hL : MzL Γ l fL lL) (f lo : Nat) (hf : fL + 1 ≤ f) (hf3 : 3 ≤ f) (hlo : 100 + lL ≤ lo) (th p0 : Nat) (p1 : Int32) (p2 : Nat) (p3 : Int32) (g : GH) (K : Int32 → GH → Prop) (h : SpVo Γ th p0 p1 p2 p3 g K) : MetA Γ l yX2_valueOf cX2_valueOf 8 (some (.int)) f lo [.ref th, .ref p0, .int p1, .ref p2, .int p3] g (fun r g' => ∃ x, r = some (.int x) ∧ K x g') := by
  obtain ⟨j, c, t, v, rfl, ⟨hk5, b0, nw, nb, w, x, ⟨w1, w2, w3, w4, w5⟩, ⟨x1, x2, x3, x4, x5⟩, c1, c2, c3, c4, c5, c6, c7⟩, hcl, hty, ⟨hkd, hst⟩, ⟨hE, hv, hvk⟩, hbd, hK⟩ := h
  have hne1 : p0 ≠ th := fun e => by rw [e] at hk5; omega
  have hne2 : p2 ≠ th := fun e => by have := hE.1; rw [e] at this; omega
  have hne3 : v ≠ th := fun e => by rw [e] at hvk; omega
  obtain ⟨F, hF⟩ : ∃ F : Int32 → Int32, F = fun d => eLt g p2 v d p3 := ⟨_, rfl⟩
  rw [← hF] at hK
  have hbd' : ∀ d, okLt d → okV false (F d) := fun d hd => by rw [hF]; exact hbd d hd
  refine rl_Ju_valueOf (R_PV_isLetter := SpLt Γ) (f_PV_isLetter := fL) (l_PV_isLetter := lL) (by omega) (by omega) ⟨⟨hf, by omega⟩, hL⟩
    (fun n l0 l1 l2 l3 l4 l5 g' => th = l0 ∧ p0 = l1 ∧ nI j = l2 ∧ p2 = l3 ∧ p3 = l4 ∧ ∃ k ty stk, k ≤ c.length ∧ n = c.length - k ∧ l5 = nI (b0 + k) ∧ FrX th [386] [385] g g' ∧ tyC (c.take k) [] = some ty ∧ ty.length ≤ k ∧ okK ty stk ∧ JS th g' stk ∧ stk = (c.take k).foldl (fun stk w => evW F w stk) []) ?_ ?_
  · rintro n l0 l1 l2 l3 l4 l5 g' ⟨rfl, rfl, rfl, rfl, rfl, k, ty, stk, hk, rfl, rfl, hfx, htk, htl, hok, hS, hstk⟩
    obtain ⟨⟨m1, m2, m3, m4, m5, m6, m7, m8, m9, m10, m11, m12⟩, _, _⟩ := id hfx
    have hkd' : Kd g' th = 4 := by rw [m6]; exact hkd
    have hk5' : Kd g' p0 = 5 := by rw [m6]; exact hk5
    have hsl := okK_len hok
    suffices H : ∀ (K30 : Nat → Nat → Int32 → Nat → Int32 → Int32 → GH → Prop), (∀ g2 wv, c[k]? = some wv → FrX th [386] [385] g g2 → JS th g2 (evJ F wv stk) → K30 th p0 (nI j) p2 p3 (nI (b0 + k) + 1) g2) → B_Ju_valueOf_30 Γ (SpLt Γ) K30 K th p0 (nI j) p2 p3 (nI (b0 + k)) g' from
      H _ (fun g2 wv hw h1 h2 => by
        obtain ⟨ty', q1, q2⟩ := tyC_take hty hw htk
        obtain ⟨q3, q4⟩ := evJ_eq q1 hok hbd'
        have hlt := (List.getElem?_eq_some_iff.mp hw).1
        refine ⟨c.length - (k + 1), by omega, rfl, rfl, rfl, rfl, rfl, k + 1, ty', evW F wv stk, hlt, rfl, by rw [nj_s]; rfl, h1, q2, by have := tyW_le q1; omega, q4, by rw [← q3]; exact h2, ?_⟩
        rw [fold_take _ _ _ hw, ← hstk])
    intro K30 hn
    have h179 : k = c.length → B_Ju_valueOf_179 Γ (SpLt Γ) K30 K th g' := fun e => by
      unfold B_Ju_valueOf_179
      refine ⟨hkd', stk, hS, fun g2 hx2 _ => ?_⟩
      have := hK g2 (hfx.tr hx2)
      unfold sEval evC at this
      rw [e, List.take_length] at hstk
      rw [hstk]; exact this
    unfold B_Ju_valueOf_30
    have ej : nI j + 1 = nI (j + 1) := nj_s j
    rw [ej]
    refine ⟨hk5', x, by rw [m2]; exact x1, by rw [m6]; exact x2, by rw [m9, x5]; exact inB_nI (by omega) (by omega), ?_⟩
    rw [m7, m8, x3, x4, m3 _ p0 hne1, nj_cl (by omega), c6, nj_le (by omega) (by omega)]
    refine ⟨fun u => h179 (by omega), fun u => ⟨hk5', w, by rw [m2]; exact w1, ⟨by rw [m6]; omega, by rw [m6]; omega⟩, ?_⟩⟩
    obtain ⟨wv, hw⟩ := get_lt (show k < c.length by omega)
    have hn2 := fun g2 => hn g2 wv hw
    obtain ⟨ty', q1, q2⟩ := tyC_take hty hw htk
    have e1 : Int32.ofNat (Ln g' w) - 1 = nI (nw - 1) := by
      rw [m9, w5]
      exact nj_sub (b := 1) (by omega)
    unfold Sp_PV_isWithin
    rw [e1, if_pos ⟨nj_nneg (by omega), (nj_le (by omega) (by omega)).mpr (by omega)⟩]
    refine ⟨fun z => absurd z (by decide), fun _ => ⟨hk5', w, by rw [m2]; exact w1, by rw [m6]; exact w2, by rw [m9, w5]; exact inB_nI (by omega) (by omega), ?_⟩⟩
    rw [m7, m8, w3, w4, m3 _ p0 hne1, nj_cl (by omega), c7 k wv hw]
    rintro _ rfl
    have h200 : stk.length < 200 := by omega
    refine ⟨fun hpos => ?_, fun hneg => ⟨hkd', stk, hS, h200, fun g2 hx2 hS2 => ?_⟩⟩
    · have hnl : ¬ -wv ≤ 0 := Int32.not_le.mpr hpos
      have hle : -wv ≤ 255 := by
        rcases tyW_cs q1 with ⟨z1, z2, _⟩ | ⟨_, z, _⟩ | ⟨_, _, z, _⟩ | ⟨_, _, z, _⟩ | ⟨_, _, z, _⟩ | ⟨_, _, z, _⟩ | ⟨_, _, z, _⟩
        · have hn3 := nj_of z1
          have z2' := z2
          rw [hn3.1] at z2'
          have := (nj_le (b := 9999) hn3.2 (by omega)).mp z2'
          exact absurd (by rw [hn3.1]; exact ng_le _ (by omega)) hnl
        · exact Int32.le_trans z.2 (by decide)
        · rw [z]; decide
        · rw [z]; decide
        · rcases z with z | z | z <;> rw [z] <;> decide
        · rcases z with z | z | z | z <;> rw [z] <;> decide
        · rcases z with z | z <;> rw [z] <;> decide
      refine ⟨⟨Int32.le_of_lt hpos, hle⟩, fun u8 => ?_, fun u8 => ?_⟩
      · have hl : ¬ okLt (-wv) := fun z => by rw [if_pos z] at u8; exact absurd u8 (by decide)
        refine ⟨fun n33 => ⟨fun n126 => ?_, fun e126 => ?_⟩, fun e33 => ?_⟩
        · have hsh : ∃ y x r, stk = y :: x :: r := by
            rcases tyW_cs q1 with ⟨z1, z2, _⟩ | ⟨_, _, z, _⟩ | ⟨_, _, z, _⟩ | ⟨_, _, z, _⟩ | ⟨_, _, _, r, rfl, _⟩ | ⟨_, _, _, r, rfl, _⟩ | ⟨_, _, _, r, rfl, _⟩
            · have hn3 := nj_of z1
              have z2' := z2
              rw [hn3.1] at z2'
              have := (nj_le (b := 9999) hn3.2 (by omega)).mp z2'
              exact absurd (by rw [hn3.1]; exact ng_le _ (by omega)) hnl
            · exact absurd z hl
            · exact absurd z n33
            · exact absurd z n126
            all_goals
              obtain ⟨y, l1, rfl, _, hl1⟩ := okK_c hok
              obtain ⟨x, l2, rfl, _, _⟩ := okK_c hl1
              exact ⟨y, x, l2, rfl⟩
          obtain ⟨y, x', r, rfl⟩ := hsh
          refine ⟨hkd', _, hS, fun g2 hx2 hS2 => ⟨hS2.1, _, hS2, fun g3 hx3 hS3 => ⟨hS3.1, r, hS3, by simp only [List.length_cons] at h200; omega, fun g4 hx4 hS4 => ?_⟩⟩⟩
          refine hn2 g4 (hfx.tr (hx2.tr (hx3.tr hx4))) ?_
          unfold evJ
          rw [if_neg hnl, if_neg hl, if_neg n33, if_neg n126]
          exact hS4
        · have hsh : ∃ x r, stk = x :: r := by
            cases stk with
            | nil =>
              exfalso
              cases ty with
              | nil =>
                have : tyW wv [] = some ty' := q1
                unfold tyW at this
                rw [e126] at this
                rcases tyW_1 wv with z | z
                · rw [q1] at z; cases z
                · rcases tyW_cs q1 with ⟨z1, z2, _⟩ | ⟨_, z, _⟩ | ⟨_, _, z, _⟩ | ⟨_, _, z, r, hr, _⟩ | ⟨_, _, z, r, hr, _⟩ | ⟨_, _, z, r, hr, _⟩ | ⟨_, _, z, r, hr, _⟩
                  · have hn3 := nj_of z1
                    have z2' := z2
                    rw [hn3.1] at z2'
                    have := (nj_le (b := 9999) hn3.2 (by omega)).mp z2'
                    exact absurd (by rw [hn3.1]; exact ng_le _ (by omega)) hnl
                  · rw [e126] at z; exact absurd z.2 (by decide)
                  · rw [e126] at z; exact absurd z (by decide)
                  all_goals cases hr
              | cons b ty => simp at hsl
            | cons x r => exact ⟨x, r, rfl⟩
          obtain ⟨x', r, rfl⟩ := hsh
          refine ⟨hkd', _, hS, fun g2 hx2 hS2 => ⟨hS2.1, r, hS2, by simp only [List.length_cons] at h200; omega, fun g4 hx4 hS4 => ?_⟩⟩
          refine hn2 g4 (hfx.tr (hx2.tr hx4)) ?_
          unfold evJ
          rw [if_neg hnl, if_neg hl, if_neg (by rw [e126]; decide), if_pos e126]
          exact hS4
        · have hsh : ∃ x r, stk = x :: r := by
            rcases tyW_cs q1 with ⟨z1, z2, _⟩ | ⟨_, z, _⟩ | ⟨_, _, _, r, rfl, _⟩ | ⟨_, _, _, r, rfl, _⟩ | ⟨_, _, _, r, rfl, _⟩ | ⟨_, _, _, r, rfl, _⟩ | ⟨_, _, _, r, rfl, _⟩
            · have hn3 := nj_of z1
              have z2' := z2
              rw [hn3.1] at z2'
              have := (nj_le (b := 9999) hn3.2 (by omega)).mp z2'
              exact absurd (by rw [hn3.1]; exact ng_le _ (by omega)) hnl
            · rw [e33] at z; exact absurd z.1 (by decide)
            all_goals
              obtain ⟨y, l1, rfl, _, _⟩ := okK_c hok
              exact ⟨y, l1, rfl⟩
          obtain ⟨x', r, rfl⟩ := hsh
          have hfin : ∀ (u : Int32) (g2 g4 : GH), FrX th [386] [385] g' g2 → FrX th [386] [385] g2 g4 → JS th g4 (u :: r) → u = (if x' = 0 then 1 else 0) → K30 th p0 (nI j) p2 p3 (nI (b0 + k) + 1) g4 := fun u g2 g4 hx2 hx4 hS4 hu => by
            refine hn2 g4 (hfx.tr (hx2.tr hx4)) ?_
            unfold evJ
            rw [if_neg hnl, if_neg hl, if_pos e33]
            rw [hu] at hS4
            exact hS4
          refine ⟨hkd', _, hS, fun g2 hx2 hS2 => ⟨fun z => ⟨hS2.1, r, hS2, by simp only [List.length_cons] at h200; omega, fun g4 hx4 hS4 => hfin 0 g2 g4 hx2 hx4 hS4 ?_⟩, fun z => ⟨hS2.1, r, hS2, by simp only [List.length_cons] at h200; omega, fun g4 hx4 hS4 => hfin 1 g2 g4 hx2 hx4 hS4 ?_⟩⟩⟩
          · have z' : ¬ x' = 0 := z
            rw [if_neg z']
          · have z' : x' = 0 := z
            rw [if_pos z']
      · have hl : okLt (-wv) := Classical.byContradiction (fun z => u8 (if_neg z))
        have hx0 := hfx
        refine ⟨(hE.o hfx).1, v, hE.o hfx, by rw [m2]; exact hv, by rw [m6]; exact hvk, hkd', stk, hS, h200, fun g2 hx2 hS2 => hn2 g2 (hfx.tr hx2) ?_⟩
        unfold evJ
        rw [if_neg hnl, if_pos hl, hF]
        rw [eLt.o hfx hne2 hne3] at hS2
        exact hS2
    · refine hn2 g2 (hfx.tr hx2) ?_
      unfold evJ
      rw [if_pos (Int32.not_lt.mp hneg)]
      exact hS2
  · unfold B_Ju_valueOf_0
    have e2 : Int32.ofNat (Ln g x) - 2 = nI (nb - 2) := by
      rw [x5]
      exact nj_sub (b := 2) (by omega)
    refine ⟨hk5, x, x1, ⟨by omega, by omega⟩, ?_⟩
    unfold Sp_PV_isWithin
    rw [e2, if_pos ⟨nj_nneg (by omega), (nj_le (by omega) (by omega)).mpr (by omega)⟩]
    refine ⟨fun _ => ⟨hkd, ?_⟩, fun z => absurd z (by decide)⟩
    rintro _ rfl
    refine ⟨hk5, x, x1, x2, by show inB _ (Ln g x); rw [x5]; exact inB_nI (by omega) (by omega), ?_⟩
    rw [Co_sI, Ow_sI, Ia_sI, x3, x4, nj_cl (by omega), c5]
    rintro _ rfl
    exact ⟨_, rfl, rfl, rfl, rfl, rfl, 0, [], [], Nat.zero_le _, rfl, rfl, FrX.sI (by decide), rfl, Nat.le_refl _, trivial, ⟨hkd, hst, by rw [Gi_sI, if_pos ⟨rfl, rfl⟩]; rfl, Nat.zero_le _, trivial⟩, rfl⟩
