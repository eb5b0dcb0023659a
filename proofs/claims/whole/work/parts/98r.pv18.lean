/-! constructors: what each step leaves of the rest -/
theorem CNw.rf {th : Nat} {g : GH} (he : EN g) : CNw th g g := ⟨fun _ _ _ _ => ⟨rfl, rfl⟩, fun _ _ _ _ => ⟨rfl, rfl⟩, fun _ _ => ⟨rfl, rfl, rfl, rfl, rfl⟩, fun b q1 q2 => by rw [he b q1] at q2; omega, Nat.le_refl _, Nat.le_refl _, he⟩
theorem CNw.tr {th : Nat} {g g1 g2 : GH} (h : CNw th g g1) (k : CNw th g1 g2) : CNw th g g2 := by
  obtain ⟨h1, h2, h3, h4, h5, h6, h7⟩ := h
  obtain ⟨k1, k2, k3, k4, k5, k6, k7⟩ := k
  refine ⟨fun f a q1 q2 => ?_, fun c o q1 q2 => ?_, fun a q1 => ?_, fun b q1 q2 => ?_, by omega, by omega, k7⟩
  · have a1 := h1 f a q1 q2
    have a2 := k1 f a (by omega) q2
    exact ⟨a2.1.trans a1.1, a2.2.trans a1.2⟩
  · have a1 := h2 c o q1 q2
    have a2 := k2 c o (by omega) q2
    exact ⟨a2.1.trans a1.1, a2.2.trans a1.2⟩
  · obtain ⟨y1, y2, y3, y4, y5⟩ := h3 a q1
    obtain ⟨z1, z2, z3, z4, z5⟩ := k3 a (by omega)
    exact ⟨z1.trans y1, z2.trans y2, z3.trans y3, z4.trans y4, z5.trans y5⟩
  · by_cases q : b < Hn g1
    · obtain ⟨z1, z2, z3, z4, z5⟩ := k3 b q
      rw [z2, z3]; exact h4 b q1 (by rw [← z1]; exact q2)
    · have := k4 b (by omega) q2
      exact ⟨this.1.imp id (fun z => by omega), this.2⟩
theorem CNw.sR {th F : Nat} {g : GH} {v : Option Nat} (he : EN g) : CNw th g (sR g F th v) := ⟨fun f a _ q => ⟨rfl, by rw [Gr_sR, if_neg (fun z => q z.2)]⟩, fun _ _ _ _ => ⟨rfl, rfl⟩, fun _ _ => ⟨rfl, rfl, rfl, rfl, rfl⟩, fun b q1 q2 => by rw [Kd_sR, he b q1] at q2; omega, Nat.le_refl _, Nat.le_refl _, he⟩
theorem CNw.sAf {th c : Nat} {g : GH} {f : Nat → Int32} (he : EN g) : CNw th g (sAf g c th f) := ⟨fun f a _ q => ⟨rfl, rfl⟩, fun c' o _ q => ⟨by rw [Ia_sAf, if_neg (fun z => q z.2)], rfl⟩, fun _ _ => ⟨rfl, rfl, rfl, rfl, rfl⟩, fun b q1 q2 => by rw [Kd_sAf, he b q1] at q2; omega, Nat.le_refl _, Nat.le_refl _, he⟩
theorem CNw.nA {th F n : Nat} {g : GH} (he : EN g) (hF : 128 ≤ F ∧ (F < 998 ∨ 1000 < F)) : CNw th g (nA g 20 F th n) := by
  refine ⟨fun f a _ q => ⟨rfl, rfl⟩, fun c o _ q => ⟨by rw [Ia_nA, if_neg (fun z => q z.2)], by rw [Ra_nA, if_neg (fun z => q z.2)]⟩, fun a q => ?_, fun b q1 q2 => ?_, Nat.le_succ _, Nat.le_add_right _ _, fun b hb => ?_⟩
  · have z : ¬ a = Hn g := by omega
    rw [Kd_nA, Co_nA, Ow_nA, Ln_nA, La_nA, if_neg z, if_neg z, if_neg z, if_neg z, if_neg z]; exact ⟨rfl, rfl, rfl, rfl, rfl⟩
  · rw [Kd_nA] at q2
    rw [Ow_nA, Co_nA]
    by_cases z : b = Hn g
    · rw [if_pos z, if_pos z]; exact ⟨.inl rfl, hF⟩
    · rw [if_neg z, he b q1] at q2; omega
  · rw [Hn_nA] at hb
    rw [Kd_nA, if_neg (by omega)]; exact he b (by omega)
theorem CNw.inn {th ci N : Nat} {g g' : GH} (he : EN g) (c : CNw (Hn g) (nO g ci N) g') (hci : ci < 19) : CNw th g g' := by
  obtain ⟨c1, c2, c3, c4, c5, c6, c7⟩ := c
  rw [Hn_nO] at c1 c2 c3 c4 c5
  rw [Hu_nO] at c6
  refine ⟨fun f a q1 _ => c1 f a (by omega) (by omega), fun c o q1 _ => c2 c o (by omega) (by omega), fun a q1 => ?_, fun b q1 q2 => ?_, by omega, by omega, c7⟩
  · obtain ⟨z1, z2, z3, z4, z5⟩ := c3 a (by omega)
    exact ⟨by rw [z1, Kd_nO, if_neg (by omega)], z2, z3, z4, z5⟩
  · by_cases z : b = Hn g
    · have := (c3 b (by omega)).1
      rw [Kd_nO, if_pos z] at this; omega
    · have := c4 b (by omega) q2
      exact ⟨.inr (by omega), this.2⟩
theorem CNw.lb {th : Nat} {g0 g g' : GH} (h : CNw th g0 g) (e : SMB g g') (hc : ∀ b, b < Hn g0 ∨ 20 ≤ Kd g b → Co g' b = Co g b ∧ Ow g' b = Ow g b) : CNw th g0 g' := by
  obtain ⟨h1, h2, h3, h4, h5, h6, h7⟩ := h
  obtain ⟨e1, e2, e3, e4, e5, e6, e7, e8, e9⟩ := e
  refine ⟨fun f a q1 q2 => by rw [e1, e2]; exact h1 f a q1 q2, fun c o q1 q2 => by rw [e3, e4]; exact h2 c o q1 q2, fun a q1 => ?_, fun b q1 q2 => ?_, by omega, by omega, fun b hb => by rw [e6]; exact h7 b (by omega)⟩
  · rw [e5, e6, e7, (hc a (.inl q1)).1, (hc a (.inl q1)).2]; exact h3 a q1
  · rw [e6] at q2
    rw [(hc b (.inr q2)).1, (hc b (.inr q2)).2]
    exact h4 b q1 q2
theorem SL.listP {Γ : GAM} {kd th F : Nat} {g0 g : GH} {ls as : List (Nat × Nat)} {V : Nat → Int32} (h : SL Γ kd th g0 ls as V g) (hF : 128 ≤ F) (hl : ∀ x ∈ ls, x.1 ≠ F) (ha : ∀ x ∈ as, x.1 ≠ F) (r1 : Hn g + 1 ≤ gB Γ + NCC) (r2 : Hu g + 3 ≤ NSS) {R : GH → Prop} (hR : ∀ g4, SL Γ kd th g0 ((F, Hn g) :: ls) as V g4 → (Hn g4 = Hn g + 1 ∧ Hu g4 = Hu g + 3) → CNw th g g4 → (∀ f, f ≠ F → Gr g4 f th = Gr g f th) → R g4) :
    Hn g + 1 ≤ gB Γ + NCC ∧ Hu g + 3 ≤ NSS ∧ ∀ (a1 : Nat) (g2 : GH), a1 = Hn g → g2 = nO g 0 3 → (∀ f, Gi g f (Hn g) = 0) → (∀ f, Gr g f (Hn g) = none) → (∀ c, free g c (Hn g)) → (∀ a, Hn g ≤ a → Kd g a = 0) → Sp_AL_init Γ a1 g2 (fun g3 => Kd g3 th = kd ∧ ∀ g4 : GH, g4 = sR g3 F th (some a1) → R g4) := by
  have hth : th < Hn g := by have := h.1.1.1; have := h.2.2.1; omega
  obtain ⟨r1, r2, k⟩ := SL.list h hF hl ha r1 r2 (R := fun g4 => CNw th g g4 → (∀ f, f ≠ F → Gr g4 f th = Gr g f th) → R g4) (fun g4 S e c1 c2 => hR g4 S e c1 c2)
  refine ⟨r1, r2, fun a1 g2 e1 e2 z1 z2 z3 z4 => ?_⟩
  obtain ⟨k1, k2⟩ := k a1 g2 e1 e2 z1 z2 z3 z4
  refine ⟨k1, fun g3 hg3 => ?_⟩
  obtain ⟨k3, k4⟩ := k2 g3 hg3
  have c1 : CNw th g g3 := by
    subst e1 e2 hg3
    refine CNw.inn (ci := 0) (N := 3) z4 ⟨fun f a q1 q2 => ⟨?_, ?_⟩, fun c o q1 q2 => ⟨rfl, rfl⟩, fun a q1 => ⟨rfl, rfl, rfl, rfl, rfl⟩, fun b q1 q2 => ?_, Nat.le_refl _, Nat.le_refl _, fun b hb => ?_⟩ (by omega)
    · rw [Gi_sR, Gi_sI, if_neg (fun z => q2 z.2)]
    · rw [Gr_sR, if_neg (fun z => q2 z.2)]; rfl
    · exfalso
      rw [Hn_nO] at q1
      rw [Kd_sR, Kd_sI, Kd_nO, if_neg (by omega), z4 b (by omega)] at q2
      omega
    · rw [Hn_sR, Hn_sI, Hn_nO] at hb
      rw [Kd_sR, Kd_sI, Kd_nO, if_neg (by omega)]; exact z4 b (by omega)
  refine ⟨k3, fun g4 hg4 => k4 g4 hg4 ?_ (fun f hf => ?_)⟩
  · rw [hg4]; exact c1.tr (CNw.sR c1.2.2.2.2.2.2)
  · rw [hg4, Gr_sR, if_neg (fun z => hf z.1), hg3, Gr_sR, if_neg (fun z => by omega), e2]; rfl
theorem SL.arrP {Γ : GAM} {kd th F n : Nat} {g0 g : GH} {ls as : List (Nat × Nat)} {V : Nat → Int32} (h : SL Γ kd th g0 ls as V g) (hF : 128 ≤ F ∧ (F < 998 ∨ 1000 < F)) (hl : ∀ x ∈ ls, x.1 ≠ F) (ha : ∀ x ∈ as, x.1 ≠ F) (r1 : Hn g + 1 ≤ gB Γ + NCC) (r2 : Hu g + n ≤ NSS) {R : GH → Prop} (hR : ∀ g4, SL Γ kd th g0 ls ((F, n) :: as) V g4 → (Hn g4 = Hn g + 1 ∧ Hu g4 = Hu g + n) → CNw th g g4 → (∀ f, f ≠ F → Gr g4 f th = Gr g f th) → R g4) :
    th < Hn g ∧ free g F th ∧ Hn g + 1 ≤ gB Γ + NCC ∧ Hu g + n ≤ NSS ∧ ∀ (a1 : Nat) (g2 : GH), a1 = Hn g → g2 = nA g 20 F th n → Kd g2 th = kd ∧ ∀ g3 : GH, g3 = sR g2 F th (some a1) → R g3 := by
  obtain ⟨r0, r3, r1, r2, k⟩ := SL.arr h hF hl ha r1 r2 (R := fun g4 => CNw th g g4 → (∀ f, f ≠ F → Gr g4 f th = Gr g f th) → R g4) (fun g4 S e c1 c2 => hR g4 S e c1 c2)
  refine ⟨r0, r3, r1, r2, fun a1 g2 e1 e2 => ?_⟩
  obtain ⟨k1, k2⟩ := k a1 g2 e1 e2
  refine ⟨k1, fun g3 hg3 => k2 g3 hg3 ?_ (fun f hf => ?_)⟩
  · rw [hg3, e2]
    have := CNw.nA (th := th) (n := n) h.2.1 hF
    exact this.tr (CNw.sR this.2.2.2.2.2.2)
  · rw [hg3, Gr_sR, if_neg (fun z => hf z.1), e2]; rfl
/-- what a new object's arrays come to -/
theorem MADE.cn {fl : List (Nat × Nat × Nat)} {th : Nat} {g g' : GH} (h : MADE fl th g g') : CNw th g g' := by
  obtain ⟨⟨c1, c2, c3, c4, c5, c6, c7⟩, hE, -, -, h5⟩ := h
  exact ⟨fun f a _ q => ⟨c1 f a q, c2 f a q⟩, fun c o _ q => c3 c o q, c4, fun b q1 q2 => ⟨.inl (c5 b q1 q2), h5 b q1 q2⟩, c6, c7, hE⟩
theorem SE.cn {Γ : GAM} {th : Nat} {g g' : GH} (h : SE Γ g) (k : CNw th g g') : SE Γ g' := by
  obtain ⟨h1, h2, h3, h4⟩ := h
  obtain ⟨z1, z2, z3, z4, z5⟩ := k.2.2.1 _ h1
  exact ⟨Nat.lt_of_lt_of_le h1 k.2.2.2.2.1, z1.trans h2, z4.trans h3, z2.trans h4⟩
theorem NT.cn {th : Nat} {g g' : GH} (h : NT g) (k : CNw th g g') : NT g' := fun b hb => by
  by_cases q : b < Hn g
  · obtain ⟨z1, z2, z3, z4, z5⟩ := k.2.2.1 b q
    rw [z2]; exact h b (by rw [← z1]; exact hb)
  · have := (k.2.2.2.1 b (by omega) hb).2
    omega
theorem AI.cn {th c o n : Nat} {g g' : GH} (h : AI g c o n) (k : CNw th g g') (ho : o ≠ th) : AI g' c o n := by
  obtain ⟨h1, d, h2, h3, h4, h5, h6, h7⟩ := h
  obtain ⟨z1, z2, z3, z4, z5⟩ := k.2.2.1 d h3
  have := k.2.2.2.2.1
  exact ⟨by omega, d, by rw [(k.1 c o h1 ho).2]; exact h2, by omega, z1.trans h4, z2.trans h5, z3.trans h6, z4.trans h7⟩
theorem AC.cn {Γ : GAM} {th al : Nat} {xs : List Nat} {g g' : GH} (h : AC Γ g al xs) (k : CNw th g g') (ho : al ≠ th) : AC Γ g' al xs := by
  obtain ⟨⟨h1, h2⟩, h3, h4, d, ⟨h5, h6, h7⟩, h8, h9, h10, h11⟩ := h
  obtain ⟨k1, k2, k3, k4, k5, k6, k7⟩ := k
  obtain ⟨z1, z2, z3, z4, z5⟩ := k3 d h6
  refine ⟨⟨by omega, (k3 al h1).1.trans h2⟩, by rw [(k1 2 al h1 ho).1]; exact h3, h4, d, ⟨by rw [(k1 1 al h1 ho).2]; exact h5, by omega, z1.trans h7⟩, by rw [z4]; exact h8, by rw [z4]; exact h9, ?_, fun i x hx => by rw [(k2 1 al h1 ho).2]; exact h11 i x hx⟩
  rcases h10 with ⟨q1, q2, q3, q4⟩ | ⟨q1, q2, q3⟩
  · refine .inl ⟨q1, z4.trans q2, z2.trans q3, fun b hb hb1 hb2 => ?_⟩
    by_cases q : b < Hn g
    · obtain ⟨y1, y2, y3, y4, y5⟩ := k3 b q
      exact q4 b (by rw [← y1]; exact hb) (by rw [← y2]; exact hb1) (by rw [← y3]; exact hb2)
    · have := (k4 b (by omega) hb).2
      omega
  · exact .inr ⟨by rw [z4]; exact q1, z2.trans q2, z3.trans q3⟩
/-- the same under new names of lists -/
theorem AC.sm {Γ : GAM} {al : Nat} {xs : List Nat} {g g' : GH} (h : AC Γ g al xs) (e : SMB g g') (hc : ∀ b, 20 ≤ Kd g b → Co g' b = Co g b ∧ Ow g' b = Ow g b) : AC Γ g' al xs := by
  obtain ⟨⟨h1, h2⟩, h3, h4, d, ⟨h5, h6, h7⟩, h8, h9, h10, h11⟩ := h
  obtain ⟨e1, e2, e3, e4, e5, e6, e7, e8, e9⟩ := e
  have hd := hc d (by omega)
  refine ⟨⟨by omega, by rw [e6]; exact h2⟩, by rw [e1]; exact h3, h4, d, ⟨by rw [e2]; exact h5, by omega, by rw [e6]; exact h7⟩, by rw [e7]; exact h8, by rw [e7]; exact h9, ?_, fun i x hx => by rw [e4]; exact h11 i x hx⟩
  rcases h10 with ⟨q1, q2, q3, q4⟩ | ⟨q1, q2, q3⟩
  · refine .inl ⟨q1, by rw [e7]; exact q2, hd.1.trans q3, fun b hb hb1 hb2 => ?_⟩
    rw [e6] at hb
    have := hc b hb
    exact q4 b hb (by rw [← this.1]; exact hb1) (by rw [← this.2]; exact hb2)
  · exact .inr ⟨by rw [e7]; exact q1, hd.1.trans q2, hd.2.trans q3⟩
theorem AI.sm {c o n : Nat} {g g' : GH} (h : AI g c o n) (e : SMB g g') (hc : ∀ b, 20 ≤ Kd g b → Co g' b = Co g b ∧ Ow g' b = Ow g b) : AI g' c o n := by
  obtain ⟨h1, d, h2, h3, h4, h5, h6, h7⟩ := h
  obtain ⟨e1, e2, e3, e4, e5, e6, e7, e8, e9⟩ := e
  have hd := hc d (by omega)
  exact ⟨by omega, d, by rw [e2]; exact h2, by omega, by rw [e6]; exact h4, hd.1.trans h5, hd.2.trans h6, by rw [e7]; exact h7⟩
theorem JuI.cn {Γ : GAM} {g g' : GH} {ju th : Nat} (h : JuI Γ g ju []) (k : CNw th g g') (h1 : ju ≠ th) (h2 : Kd g th ≠ 1) : JuI Γ g' ju [] := by
  obtain ⟨⟨j1, j2⟩, j3, al, xs, ⟨l1, l2, l3⟩, hA, hl, hr⟩ := h
  have kj := k.2.2.1 ju j1
  have kl := k.2.2.1 al hA.1.1
  have hx : xs = [] := List.eq_nil_of_length_eq_zero hl
  subst hx
  exact ⟨⟨Nat.lt_of_lt_of_le j1 k.2.2.2.2.1, kj.1.trans j2⟩, j3.cn k h1, al, [], ⟨by rw [(k.1 _ ju j1 h1).2]; exact l1, kl.2.1.trans l2, kl.2.2.1.trans l3⟩, hA.cn k (fun z => h2 (by rw [← z]; exact hA.1.2)), rfl, fun i x y hx => by simp at hx⟩
theorem JuI.sm {Γ : GAM} {g g' : GH} {ju al : Nat} (h : JuI Γ g ju []) (hal : Gr g 384 ju = some al) (e : SMB g g') (hc : ∀ b, b = al ∨ 20 ≤ Kd g b → Co g' b = Co g b ∧ Ow g' b = Ow g b) : JuI Γ g' ju [] := by
  obtain ⟨⟨j1, j2⟩, j3, al', xs, ⟨l1, l2, l3⟩, hA, hl, hr⟩ := h
  have hx : xs = [] := List.eq_nil_of_length_eq_zero hl
  subst hx
  rw [hal] at l1; cases l1
  have e' := e
  obtain ⟨e1, e2, e3, e4, e5, e6, e7, e8, e9⟩ := e
  have hd := hc al (.inl rfl)
  exact ⟨⟨by omega, by rw [e6]; exact j2⟩, j3.sm e' (fun b hb => hc b (.inr hb)), al, [], ⟨by rw [e2]; exact hal, hd.1.trans l2, hd.2.trans l3⟩, hA.sm e' (fun b hb => hc b (.inr hb)), rfl, fun i x y hx => by simp at hx⟩
