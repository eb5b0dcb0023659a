/-! constructors of objects that own lists -/
theorem MetA.ghV {Γ : GAM} {l : Launch} {y : MethodName} {cc : ByteArray} {nL : Nat} {ret : Option FieldType} {fr lo : Nat} {av : List Value} {g : GH} {K : GH → Prop} (h : MetA Γ l y cc nL ret fr lo av g (fun r g' => r = none ∧ ∃ g2, (∀ H, Rep Γ g' H → Rep Γ g2 H) ∧ K g2)) : MetA Γ l y cc nL ret fr lo av g (fun r g' => r = none ∧ K g') := by
  refine MetA.gh ?_
  unfold MetA Met MetFree at h ⊢
  intro p e ha hc hk s m args below h1 h2 h3 h4
  obtain ⟨n, o, k1, k2, k3, ⟨r, g1, e1, ⟨ex, g2, hr, hK⟩, hR⟩, hL⟩ := h p e ha hc hk s m args below h1 h2 h3 h4
  exact ⟨n, o, k1, k2, k3, ⟨r, g1, e1, ⟨g2, hr, ex, hK⟩, hR⟩, hL⟩
/-- what a constructor leaves of all but its own object -/
def CNw (th : Nat) (g0 g : GH) : Prop :=
  (∀ f a, a < Hn g0 → a ≠ th → Gi g f a = Gi g0 f a ∧ Gr g f a = Gr g0 f a) ∧ (∀ c o, o < Hn g0 → o ≠ th → Ia g c o = Ia g0 c o ∧ Ra g c o = Ra g0 c o) ∧
  (∀ a, a < Hn g0 → Kd g a = Kd g0 a ∧ Co g a = Co g0 a ∧ Ow g a = Ow g0 a ∧ Ln g a = Ln g0 a ∧ La g a = La g0 a) ∧
  (∀ b, Hn g0 ≤ b → 20 ≤ Kd g b → (Ow g b = th ∨ Hn g0 ≤ Ow g b) ∧ 128 ≤ Co g b ∧ (Co g b < 998 ∨ 1000 < Co g b)) ∧ Hn g0 ≤ Hn g ∧ Hu g0 ≤ Hu g ∧ EN g
theorem CNw.fr {h g : GH} {ci N th : Nat} (c : CNw th (nO h ci N) g) (ht : th = Hn h) (hci : ci < 19) : Fr [] [] [] h g := by
  obtain ⟨c1, c2, c3, c4, c5, c6, c7⟩ := c
  rw [Hn_nO] at c1 c2 c3 c4 c5
  have e1 : ∀ a, a < Hn h → Kd (nO h ci N) a = Kd h a := fun a ha => by rw [Kd_nO, if_neg (by omega)]
  refine ⟨fun f a q1 _ _ => (c1 f a (by omega) (by omega)).1, fun f a q1 _ => (c1 f a (by omega) (by omega)).2, fun c o q1 _ _ _ => c2 c o (by omega) (by omega), fun a q1 => .inr ?_, by omega, by rw [Hu_nO] at c6; omega, ⟨fun hn b hb => ?_, fun _ => c7⟩, fun b q1 q2 q3 => ?_⟩
  · obtain ⟨z1, z2, z3, z4, z5⟩ := c3 a (by omega)
    exact ⟨z1.trans (e1 a q1), z2, z3, z4, z5⟩
  · by_cases q : b < Hn h
    · obtain ⟨z1, z2, z3, z4, z5⟩ := c3 b (by omega)
      rw [z2]; exact hn b (by rw [← e1 b q, ← z1]; exact hb)
    · by_cases q2 : b = Hn h
      · exfalso
        have := (c3 b (by omega)).1
        rw [Kd_nO, if_pos q2] at this
        omega
      · have := (c4 b (by omega) hb).2
        exact ⟨by omega, by omega⟩
  · by_cases q : b = Hn h
    · exfalso
      have := (c3 b (by omega)).1
      rw [Kd_nO, if_pos q] at this
      omega
    · have := (c4 b (by omega) q2).2
      omega
/-- a constructor's way: lists made, arrays made -/
def SL (Γ : GAM) (kd th : Nat) (g0 : GH) (ls as : List (Nat × Nat)) (V : Nat → Int32) (g : GH) : Prop :=
  ((th < Hn g0 ∧ Kd g0 th = kd ∧ kd < 20) ∧ EN g0 ∧ (∀ F, free g0 F th) ∧ (∀ b, 20 ≤ Kd g0 b → Ow g0 b < Hn g0) ∧ SE Γ g0) ∧ EN g ∧ Hn g0 ≤ Hn g ∧ Hu g0 ≤ Hu g ∧
  (∀ f a, a < Hn g0 → a ≠ th → Gi g f a = Gi g0 f a ∧ Gr g f a = Gr g0 f a) ∧ (∀ c o, o < Hn g0 → o ≠ th → Ia g c o = Ia g0 c o ∧ Ra g c o = Ra g0 c o) ∧
  (∀ a, a < Hn g0 → Kd g a = Kd g0 a ∧ Co g a = Co g0 a ∧ Ow g a = Ow g0 a ∧ Ln g a = Ln g0 a ∧ La g a = La g0 a) ∧
  (∀ b, Hn g0 ≤ b → 20 ≤ Kd g b → ((Ow g b = th ∧ Co g b ∈ as.map (·.1)) ∨ Hn g0 ≤ Ow g b) ∧ 128 ≤ Co g b ∧ (Co g b < 998 ∨ 1000 < Co g b)) ∧
  (∀ x ∈ ls, (Hn g0 ≤ x.2 ∧ x.2 < Hn g) ∧ Kd g x.2 = 1 ∧ Gi g 2 x.2 = 0 ∧ Gr g 1 x.2 = some Γ.2.2.2 ∧ Gr g x.1 th = some x.2) ∧
  (∀ x ∈ as, AI g x.1 th x.2 ∧ Ia g x.1 th = fun _ => 0) ∧ (∀ f, 128 ≤ f → Gi g f th = V f)
theorem SL.kd {Γ : GAM} {kd th : Nat} {g0 g : GH} {ls as : List (Nat × Nat)} {V : Nat → Int32} (h : SL Γ kd th g0 ls as V g) : Kd g th = kd := by
  obtain ⟨⟨⟨h1, h2, h3⟩, -⟩, -, -, -, -, -, c3, -⟩ := h
  rw [(c3 th h1).1]; exact h2
theorem SL.ini {Γ : GAM} {kd th : Nat} {g : GH} (h1 : th < Hn g) (h2 : Kd g th = kd) (h3 : kd < 20) (h4 : ∀ F, free g F th) (hs : SE Γ g) (hR : ∃ H, Rep Γ g H) : SL Γ kd th g [] [] (fun f => Gi g f th) g := by
  have hen := EN.of hR
  obtain ⟨H, hR⟩ := hR
  exact ⟨⟨⟨h1, h2, h3⟩, hen, h4, hR.2.2.2.2.2.2.2, hs⟩, hen, Nat.le_refl _, Nat.le_refl _, fun _ _ _ _ => ⟨rfl, rfl⟩, fun _ _ _ _ => ⟨rfl, rfl⟩, fun _ _ => ⟨rfl, rfl, rfl, rfl, rfl⟩, fun b hb h20 => by rw [hen b hb] at h20; omega, fun x hx => absurd hx (by simp), fun x hx => absurd hx (by simp), fun _ _ => rfl⟩
theorem SL.setI {Γ : GAM} {kd th f : Nat} {v : Int32} {g0 g : GH} {ls as : List (Nat × Nat)} {V : Nat → Int32} (h : SL Γ kd th g0 ls as V g) (hf : 128 ≤ f) : SL Γ kd th g0 ls as (fun f' => if f' = f then v else V f') (sI g f th v) := by
  obtain ⟨h0, h1, h2, h3, h4, h5, h6, h7, h8, h9, h10⟩ := h
  refine ⟨h0, h1, h2, h3, fun f' a q1 q2 => ⟨?_, (h4 f' a q1 q2).2⟩, h5, h6, h7, fun x hx => ?_, h9, fun f' q => ?_⟩
  · rw [Gi_sI, if_neg (fun z => q2 z.2)]; exact (h4 f' a q1 q2).1
  · obtain ⟨a1, a2, a3, a4, a5⟩ := h8 x hx
    refine ⟨a1, a2, ?_, a4, a5⟩
    rw [Gi_sI, if_neg (fun z => by omega)]; exact a3
  · rw [Gi_sI, h10 f' q]; simp
theorem SL.setR {Γ : GAM} {kd th F : Nat} {v : Option Nat} {g0 g : GH} {ls as : List (Nat × Nat)} {V : Nat → Int32} (h : SL Γ kd th g0 ls as V g) (hF : 128 ≤ F) (h1 : ∀ x ∈ ls, x.1 ≠ F) (h2 : ∀ x ∈ as, x.1 ≠ F) : SL Γ kd th g0 ls as V (sR g F th v) := by
  obtain ⟨h0, k1, k2, k3, h4, h5, h6, h7, h8, h9, h10⟩ := h
  refine ⟨h0, k1, k2, k3, fun f' a q1 q2 => ⟨(h4 f' a q1 q2).1, ?_⟩, h5, h6, h7, fun x hx => ?_, fun x hx => ?_, h10⟩
  · rw [Gr_sR, if_neg (fun z => q2 z.2)]; exact (h4 f' a q1 q2).2
  · obtain ⟨a1, a2, a3, a4, a5⟩ := h8 x hx
    refine ⟨a1, a2, a3, ?_, ?_⟩
    · rw [Gr_sR, if_neg (fun z => by omega)]; exact a4
    · rw [Gr_sR, if_neg (fun z => h1 x hx z.1)]; exact a5
  · obtain ⟨⟨a1, d, b1, b2⟩, b3⟩ := h9 x hx
    refine ⟨⟨a1, d, ?_, b2⟩, b3⟩
    rw [Gr_sR, if_neg (fun z => h2 x hx z.1)]; exact b1
/-- another object made whole -/
theorem SL.inner {Γ : GAM} {kd th ci N : Nat} {g0 g g' : GH} {ls as : List (Nat × Nat)} {V : Nat → Int32} (h : SL Γ kd th g0 ls as V g) (c : CNw (Hn g) (nO g ci N) g') (hci : ci < 19) : SL Γ kd th g0 ls as V g' := by
  obtain ⟨h0, k1, k2, k3, h4, h5, h6, h7, h8, h9, h10⟩ := h
  obtain ⟨c1, c2, c3, c4, c5, c6, c7⟩ := c
  rw [Hn_nO] at c1 c2 c3 c4 c5
  have e1 : ∀ a, a < Hn g → Kd (nO g ci N) a = Kd g a := fun a ha => by rw [Kd_nO, if_neg (by omega)]
  have hk : ∀ a, a < Hn g → Kd g' a = Kd g a ∧ Co g' a = Co g a ∧ Ow g' a = Ow g a ∧ Ln g' a = Ln g a ∧ La g' a = La g a := fun a ha => by
    obtain ⟨z1, z2, z3, z4, z5⟩ := c3 a (by omega)
    exact ⟨z1.trans (e1 a ha), z2, z3, z4, z5⟩
  have hg : ∀ f a, a < Hn g → Gi g' f a = Gi g f a ∧ Gr g' f a = Gr g f a := fun f a ha => c1 f a (by omega) (by omega)
  have hth : th < Hn g := by have := h0.1.1; omega
  refine ⟨h0, c7, by omega, by rw [Hu_nO] at c6; omega, fun f a q1 q2 => ?_, fun c o q1 q2 => ?_, fun a q1 => ?_, fun b q1 q2 => ?_, fun x hx => ?_, fun x hx => ?_, fun f hf => ?_⟩
  · have a := hg f a (by omega)
    exact ⟨a.1.trans (h4 f _ q1 q2).1, a.2.trans (h4 f _ q1 q2).2⟩
  · have a := c2 c o (by omega) (by omega)
    exact ⟨a.1.trans (h5 c o q1 q2).1, a.2.trans (h5 c o q1 q2).2⟩
  · obtain ⟨z1, z2, z3, z4, z5⟩ := hk a (by omega)
    obtain ⟨y1, y2, y3, y4, y5⟩ := h6 a q1
    exact ⟨z1.trans y1, z2.trans y2, z3.trans y3, z4.trans y4, z5.trans y5⟩
  · by_cases q : b < Hn g
    · obtain ⟨z1, z2, z3, z4, z5⟩ := hk b q
      rw [z2, z3]; exact h7 b q1 (by rw [← z1]; exact q2)
    · by_cases qb : b = Hn g
      · exfalso
        have := (c3 b (by omega)).1
        rw [Kd_nO, if_pos qb] at this
        omega
      · have := c4 b (by omega) q2
        exact ⟨.inr (by omega), this.2⟩
  · obtain ⟨a1, a2, a3, a4, a5⟩ := h8 x hx
    have e := hg 2 x.2 a1.2
    have e' := hg 1 x.2 a1.2
    exact ⟨by omega, by rw [(hk _ a1.2).1]; exact a2, by rw [e.1]; exact a3, by rw [e'.2]; exact a4, by rw [(hg x.1 th hth).2]; exact a5⟩
  · obtain ⟨⟨a1, d, b1, b2, b3, b4, b5, b6⟩, b7⟩ := h9 x hx
    have z := hk d b2
    refine ⟨⟨by omega, d, by rw [(hg x.1 th hth).2]; exact b1, by omega, by rw [z.1]; exact b3, by rw [z.2.1]; exact b4, by rw [z.2.2.1]; exact b5, by rw [z.2.2.2.1]; exact b6⟩, ?_⟩
    rw [(c2 x.1 th (by omega) (by omega)).1]; exact b7
  · rw [(hg f th hth).1]; exact h10 f hf
/-- a list made -/
theorem SL.list {Γ : GAM} {kd th F : Nat} {g0 g : GH} {ls as : List (Nat × Nat)} {V : Nat → Int32} (h : SL Γ kd th g0 ls as V g) (hF : 128 ≤ F) (hl : ∀ x ∈ ls, x.1 ≠ F) (ha : ∀ x ∈ as, x.1 ≠ F) (r1 : Hn g + 1 ≤ gB Γ + NCC) (r2 : Hu g + 3 ≤ NSS) {R : GH → Prop} (hR : ∀ g4, SL Γ kd th g0 ((F, Hn g) :: ls) as V g4 → (Hn g4 = Hn g + 1 ∧ Hu g4 = Hu g + 3) → R g4) :
    Hn g + 1 ≤ gB Γ + NCC ∧ Hu g + 3 ≤ NSS ∧ ∀ (a1 : Nat) (g2 : GH), a1 = Hn g → g2 = nO g 0 3 → (∀ f, Gi g f (Hn g) = 0) → (∀ f, Gr g f (Hn g) = none) → (∀ c, free g c (Hn g)) → (∀ a, Hn g ≤ a → Kd g a = 0) → Sp_AL_init Γ a1 g2 (fun g3 => Kd g3 th = kd ∧ ∀ g4 : GH, g4 = sR g3 F th (some a1) → R g4) := by
  refine ⟨r1, r2, ?_⟩
  rintro _ _ rfl rfl z1 z2 z3 z4
  have hk := h.kd
  have hth : th < Hn g := by have := h.1.1.1; have := h.2.2.1; omega
  have hin : SL Γ kd th g0 ls as V (sR (sI (nO g 0 3) 0 (Hn g) 0) 1 (Hn g) (some Γ.2.2.2)) := by
    refine h.inner (ci := 0) (N := 3) ⟨fun f a q1 q2 => ⟨?_, ?_⟩, fun c o q1 q2 => ⟨rfl, rfl⟩, fun a q1 => ⟨rfl, rfl, rfl, rfl, rfl⟩, fun b q1 q2 => ?_, Nat.le_refl _, Nat.le_refl _, fun b hb => ?_⟩ (by omega)
    · rw [Gi_sR, Gi_sI, if_neg (fun z => q2 z.2)]
    · rw [Gr_sR, if_neg (fun z => q2 z.2)]; rfl
    · exfalso
      rw [Hn_nO] at q1
      rw [Kd_sR, Kd_sI, Kd_nO, if_neg (by omega), z4 b (by omega)] at q2
      omega
    · rw [Hn_sR, Hn_sI, Hn_nO] at hb
      rw [Kd_sR, Kd_sI, Kd_nO, if_neg (by omega)]; exact z4 b (by omega)
  refine ⟨by rw [Kd_nO, if_pos rfl], fun g3 hg3 => ?_⟩
  rw [← hg3] at hin
  refine ⟨hin.kd, ?_⟩
  rintro g4 rfl
  have hin2 := hin.setR (F := F) (v := some (Hn g)) hF hl ha
  have e1 : Hn g3 = Hn g + 1 ∧ Hu g3 = Hu g + 3 := by rw [hg3]; exact ⟨rfl, rfl⟩
  refine hR _ ?_ e1
  obtain ⟨h0, k1, k2, k3, h4, h5, h6, h7, h8, h9, h10⟩ := hin2
  refine ⟨h0, k1, k2, k3, h4, h5, h6, h7, fun x hx => ?_, h9, h10⟩
  rcases List.mem_cons.mp hx with rfl | hx
  · have hg0 := h.2.2.1
    refine ⟨⟨hg0, by rw [Hn_sR, e1.1]; omega⟩, ?_, ?_, ?_, by rw [Gr_sR, if_pos ⟨rfl, rfl⟩]⟩
    · rw [Kd_sR, hg3, Kd_sR, Kd_sI, Kd_nO, if_pos rfl]
    · rw [Gi_sR, hg3, Gi_sR, Gi_sI, if_neg (fun z => absurd z.1 (by decide))]; exact z1 2
    · rw [Gr_sR, if_neg (fun z => by omega), hg3, Gr_sR, if_pos ⟨rfl, rfl⟩]
  · exact h8 x hx
/-- an array of ints made -/
theorem SL.arr {Γ : GAM} {kd th F n : Nat} {g0 g : GH} {ls as : List (Nat × Nat)} {V : Nat → Int32} (h : SL Γ kd th g0 ls as V g) (hF : 128 ≤ F ∧ (F < 998 ∨ 1000 < F)) (hl : ∀ x ∈ ls, x.1 ≠ F) (ha : ∀ x ∈ as, x.1 ≠ F) (r1 : Hn g + 1 ≤ gB Γ + NCC) (r2 : Hu g + n ≤ NSS) {R : GH → Prop} (hR : ∀ g4, SL Γ kd th g0 ls ((F, n) :: as) V g4 → (Hn g4 = Hn g + 1 ∧ Hu g4 = Hu g + n) → R g4) :
    th < Hn g ∧ free g F th ∧ Hn g + 1 ≤ gB Γ + NCC ∧ Hu g + n ≤ NSS ∧ ∀ (a1 : Nat) (g2 : GH), a1 = Hn g → g2 = nA g 20 F th n → Kd g2 th = kd ∧ ∀ g3 : GH, g3 = sR g2 F th (some a1) → R g3 := by
  have hk := h.kd
  obtain ⟨h0, k1, k2, k3, h4, h5, h6, h7, h8, h9, h10⟩ := id h
  have hth : th < Hn g := by have := h0.1.1; omega
  refine ⟨hth, fun b hb hc ho => ?_, r1, r2, ?_⟩
  · by_cases q : b < Hn g0
    · obtain ⟨z1, z2, z3, _⟩ := h6 b q
      exact h0.2.2.1 F b (by rw [← z1]; exact hb) (by rw [← z2]; exact hc) (by rw [← z3]; exact ho)
    · rcases (h7 b (by omega) hb).1 with ⟨_, z⟩ | z
      · rw [hc] at z
        obtain ⟨x, hx, hx2⟩ := List.mem_map.mp z
        exact ha x hx hx2
      · have := h0.1.1; omega
  rintro _ _ rfl rfl
  have hne : Hn g ≠ th := by omega
  refine ⟨by rw [Kd_nA, if_neg (Ne.symm hne)]; exact hk, ?_⟩
  rintro _ rfl
  refine hR _ ⟨h0, fun b hb => ?_, ?_, ?_, fun f a q1 q2 => ⟨(h4 f a q1 q2).1, ?_⟩, fun c o q1 q2 => ?_, fun a q1 => ?_, fun b q1 q2 => ?_, fun x hx => ?_, fun x hx => ?_, h10⟩ ⟨rfl, rfl⟩
  · rw [Hn_sR, Hn_nA] at hb
    rw [Kd_sR, Kd_nA, if_neg (by omega)]; exact k1 b (by omega)
  · rw [Hn_sR, Hn_nA]; omega
  · rw [Hu_sR, Hu_nA]; omega
  · rw [Gr_sR, if_neg (fun z => q2 z.2)]; exact (h4 f a q1 q2).2
  · rw [Ia_sR, Ra_sR, Ia_nA, Ra_nA, if_neg (fun z => q2 z.2), if_neg (fun z => q2 z.2)]; exact h5 c o q1 q2
  · have z : ¬ a = Hn g := by omega
    rw [Kd_sR, Co_sR, Ow_sR, Ln_sR, La_sR, Kd_nA, Co_nA, Ow_nA, Ln_nA, La_nA, if_neg z, if_neg z, if_neg z, if_neg z, if_neg z]; exact h6 a q1
  · rw [Kd_sR, Kd_nA] at q2
    rw [Co_sR, Ow_sR, Co_nA, Ow_nA]
    by_cases z : b = Hn g
    · rw [if_pos z, if_pos z]
      exact ⟨.inl ⟨rfl, List.mem_cons_self⟩, hF⟩
    · rw [if_neg z] at q2
      rw [if_neg z, if_neg z]
      obtain ⟨y1, y2⟩ := h7 b q1 q2
      exact ⟨y1.imp (fun y => ⟨y.1, List.mem_cons_of_mem _ y.2⟩) id, y2⟩
  · obtain ⟨a1, a2, a3, a4, a5⟩ := h8 x hx
    have z : ¬ x.2 = Hn g := by omega
    refine ⟨⟨a1.1, by rw [Hn_sR, Hn_nA]; omega⟩, by rw [Kd_sR, Kd_nA, if_neg z]; exact a2, a3, ?_, ?_⟩
    · rw [Gr_sR, if_neg (fun z => by omega)]; exact a4
    · rw [Gr_sR, if_neg (fun z => hl x hx z.1)]; exact a5
  · rcases List.mem_cons.mp hx with rfl | hx
    · refine ⟨⟨by rw [Hn_sR, Hn_nA]; omega, Hn g, by rw [Gr_sR, if_pos ⟨rfl, rfl⟩], by rw [Hn_sR, Hn_nA]; omega, by rw [Kd_sR, Kd_nA, if_pos rfl], by rw [Co_sR, Co_nA, if_pos rfl], by rw [Ow_sR, Ow_nA, if_pos rfl], by rw [Ln_sR, Ln_nA, if_pos rfl]⟩, ?_⟩
      rw [Ia_sR, Ia_nA, if_pos ⟨rfl, rfl⟩]
    · obtain ⟨⟨a1, d, b1, b2, b3, b4, b5, b6⟩, b7⟩ := h9 x hx
      have z : ¬ d = Hn g := by omega
      refine ⟨⟨by rw [Hn_sR, Hn_nA]; omega, d, by rw [Gr_sR, if_neg (fun z => ha x hx z.1)]; exact b1, by rw [Hn_sR, Hn_nA]; omega, by rw [Kd_sR, Kd_nA, if_neg z]; exact b3, by rw [Co_sR, Co_nA, if_neg z]; exact b4, by rw [Ow_sR, Ow_nA, if_neg z]; exact b5, by rw [Ln_sR, Ln_nA, if_neg z]; exact b6⟩, ?_⟩
      rw [Ia_sR, Ia_nA, if_neg (fun z => ha x hx z.1)]; exact b7
abbrev SMB (g g' : GH) : Prop := Gi g' = Gi g ∧ Gr g' = Gr g ∧ Ia g' = Ia g ∧ Ra g' = Ra g ∧ La g' = La g ∧ Kd g' = Kd g ∧ Ln g' = Ln g ∧ Hn g' = Hn g ∧ Hu g' = Hu g
theorem SL.cn {Γ : GAM} {kd th : Nat} {g0 g g' : GH} {ls as : List (Nat × Nat)} {V : Nat → Int32} (h : SL Γ kd th g0 ls as V g) (e : SMB g g') (hc : ∀ b, b < Hn g0 ∨ 20 ≤ Kd g b → Co g' b = Co g b ∧ Ow g' b = Ow g b) : CNw th g0 g' := by
  obtain ⟨h0, k1, k2, k3, h4, h5, h6, h7, h8, h9, h10⟩ := h
  obtain ⟨e1, e2, e3, e4, e5, e6, e7, e8, e9⟩ := e
  refine ⟨fun f a q1 q2 => by rw [e1, e2]; exact h4 f a q1 q2, fun c o q1 q2 => by rw [e3, e4]; exact h5 c o q1 q2, fun a q1 => ?_, fun b q1 q2 => ?_, by omega, by omega, fun b hb => by rw [e6]; exact k1 b (by omega)⟩
  · rw [e5, e6, e7, (hc a (.inl q1)).1, (hc a (.inl q1)).2]; exact h6 a q1
  · rw [e6] at q2
    rw [(hc b (.inr q2)).1, (hc b (.inr q2)).2]
    obtain ⟨y1, y2⟩ := h7 b q1 q2
    exact ⟨y1.imp (fun y => y.1) id, y2⟩
/-- an empty list -/
theorem SL.ac {Γ : GAM} {kd th F al : Nat} {g0 g g' : GH} {ls as : List (Nat × Nat)} {V : Nat → Int32} (h : SL Γ kd th g0 ls as V g) (hm : (F, al) ∈ ls) (e : SMB g g') (hc : ∀ b, b < Hn g0 ∨ 20 ≤ Kd g b → Co g' b = Co g b ∧ Ow g' b = Ow g b) : AC Γ g' al [] ∧ Gr g' F th = some al := by
  obtain ⟨h0, k1, k2, k3, h4, h5, h6, h7, h8, h9, h10⟩ := h
  obtain ⟨e1, e2, e3, e4, e5, e6, e7, e8, e9⟩ := e
  obtain ⟨a1, a2, a3, a4, a5⟩ := h8 _ hm
  obtain ⟨s1, s2, s3, s4⟩ := h0.2.2.2.2
  obtain ⟨z1, z2, z3, z4, z5⟩ := h6 _ s1
  refine ⟨⟨⟨by rw [e8]; exact a1.2, by rw [e6]; exact a2⟩, by rw [e1]; exact a3, Nat.zero_le _, Γ.2.2.2, ⟨by rw [e2]; exact a4, by rw [e8]; omega, by rw [e6, z1]; exact s2⟩, Nat.zero_le _, by rw [e7, z4, s3]; omega, .inl ⟨rfl, by rw [e7, z4, s3], by rw [(hc _ (.inl s1)).1, z2]; exact s4, fun b hb hb1 hb2 => ?_⟩, fun i x hi => by simp at hi⟩, by rw [e2]; exact a5⟩
  rw [e6] at hb
  rw [(hc b (.inr hb)).1] at hb1
  rw [(hc b (.inr hb)).2] at hb2
  have a1' : Hn g0 ≤ al := a1.1
  by_cases q : b < Hn g0
  · obtain ⟨y1, y2, y3, y4, y5⟩ := h6 b q
    rw [y1] at hb
    rw [y3] at hb2
    have := h0.2.2.2.1 b hb
    omega
  · have := (h7 b (by omega) hb).2
    omega
theorem SL.ai {Γ : GAM} {kd th F n : Nat} {g0 g g' : GH} {ls as : List (Nat × Nat)} {V : Nat → Int32} (h : SL Γ kd th g0 ls as V g) (hm : (F, n) ∈ as) (e : SMB g g') (hc : ∀ b, b < Hn g0 ∨ 20 ≤ Kd g b → Co g' b = Co g b ∧ Ow g' b = Ow g b) : AI g' F th n := by
  obtain ⟨h0, k1, k2, k3, h4, h5, h6, h7, h8, h9, h10⟩ := h
  obtain ⟨e1, e2, e3, e4, e5, e6, e7, e8, e9⟩ := e
  obtain ⟨⟨a1, d, b1, b2, b3, b4, b5, b6⟩, -⟩ := h9 _ hm
  have z := hc d (.inr (by show 20 ≤ Kd g d; omega))
  exact ⟨by rw [e8]; exact a1, d, by rw [e2]; exact b1, by rw [e8]; exact b2, by rw [e6]; exact b3, by rw [z.1]; exact b4, by rw [z.2]; exact b5, by rw [e7]; exact b6⟩
def lbs (g : GH) (th : Nat) : List (Nat × Nat) → GH
  | [] => g
  | x :: l => lb (lbs g th l) x.2 x.1 th
theorem lbs_smb (g : GH) (th : Nat) : ∀ l, SMB g (lbs g th l)
  | [] => ⟨rfl, rfl, rfl, rfl, rfl, rfl, rfl, rfl, rfl⟩
  | x :: l => lbs_smb g th l
theorem lbs_co (g : GH) (th b : Nat) : ∀ l : List (Nat × Nat), (∀ x ∈ l, x.2 ≠ b) → Co (lbs g th l) b = Co g b ∧ Ow (lbs g th l) b = Ow g b
  | [], _ => ⟨rfl, rfl⟩
  | x :: l, h => by
    have hx : ¬ b = x.2 := fun e => h x List.mem_cons_self e.symm
    have ih := lbs_co g th b l (fun y hy => h y (List.mem_cons_of_mem _ hy))
    refine ⟨?_, ?_⟩
    · show Co (lb _ _ _ _) b = _
      rw [Co_lb, if_neg hx]; exact ih.1
    · show Ow (lb _ _ _ _) b = _
      rw [Ow_lb, if_neg hx]; exact ih.2
theorem lbs_in (g : GH) (th : Nat) : ∀ l : List (Nat × Nat), (l.map (·.2)).Nodup → ∀ x ∈ l, Co (lbs g th l) x.2 = x.1 ∧ Ow (lbs g th l) x.2 = th
  | [], _, x, hx => absurd hx (by simp)
  | y :: l, h, x, hx => by
    rw [List.map_cons, List.nodup_cons] at h
    rcases List.mem_cons.mp hx with rfl | hx
    · refine ⟨?_, ?_⟩
      · show Co (lb _ _ _ _) _ = _
        rw [Co_lb, if_pos rfl]
      · show Ow (lb _ _ _ _) _ = _
        rw [Ow_lb, if_pos rfl]
    · have hne : ¬ x.2 = y.2 := fun e => h.1 (by rw [← e]; exact List.mem_map_of_mem hx)
      have ih := lbs_in g th l h.2 x hx
      refine ⟨?_, ?_⟩
      · show Co (lb _ _ _ _) _ = _
        rw [Co_lb, if_neg hne]; exact ih.1
      · show Ow (lb _ _ _ _) _ = _
        rw [Ow_lb, if_neg hne]; exact ih.2
theorem Rep_lbs {Γ : GAM} {g : GH} {th : Nat} {H : Heap} (hR : Rep Γ g H) : ∀ l : List (Nat × Nat), (∀ x ∈ l, Kd g x.2 < 20) → Rep Γ (lbs g th l) H
  | [], _ => hR
  | x :: l, h => Rep_lb (by rw [(lbs_smb g th l).2.2.2.2.2.1]; exact h x List.mem_cons_self) H (Rep_lbs hR l (fun y hy => h y (List.mem_cons_of_mem _ hy)))
theorem SL.fin {Γ : GAM} {kd th : Nat} {g0 g : GH} {ls as : List (Nat × Nat)} {V : Nat → Int32} (h : SL Γ kd th g0 ls as V g) (hn : (ls.map (·.2)).Nodup) : (∀ H, Rep Γ g H → Rep Γ (lbs g th ls) H) ∧ CNw th g0 (lbs g th ls) ∧ SMB g (lbs g th ls) ∧ (∀ x ∈ ls, AC Γ (lbs g th ls) x.2 [] ∧ Gr (lbs g th ls) x.1 th = some x.2 ∧ Co (lbs g th ls) x.2 = x.1 ∧ Ow (lbs g th ls) x.2 = th) ∧ (∀ x ∈ as, AI (lbs g th ls) x.1 th x.2) := by
  have hls := h.2.2.2.2.2.2.2.2.1
  have hc : ∀ b, b < Hn g0 ∨ 20 ≤ Kd g b → Co (lbs g th ls) b = Co g b ∧ Ow (lbs g th ls) b = Ow g b := fun b hb => lbs_co g th b ls (fun x hx e => by
    obtain ⟨a1, a2, _⟩ := hls x hx
    rw [e] at a1 a2
    omega)
  have he := lbs_smb g th ls
  refine ⟨fun H hR => Rep_lbs hR ls (fun x hx => by have := (hls x hx).2.1; omega), h.cn he hc, he, fun x hx => ?_, fun x hx => h.ai (F := x.1) (n := x.2) hx he hc⟩
  obtain ⟨a1, a2⟩ := h.ac (F := x.1) (al := x.2) hx he hc
  exact ⟨a1, a2, lbs_in g th ls hn x hx⟩
def NEWL (Γ : GAM) (kd th : Nat) (g : GH) (n m : Nat) : Prop := (th < Hn g ∧ Kd g th = kd) ∧ (∀ F, free g F th) ∧ SE Γ g ∧ Hn g + n ≤ gB Γ + NCC ∧ Hu g + m ≤ NSS
def Sp_Vo_init (Γ : GAM) (th : Nat) (a b c : Int32) (g : GH) (K : GH → Prop) : Prop := NEWL Γ 11 th g 2 6 ∧ ∀ g', CNw th g g' → VOB Γ g' th (a, b, c) [] [] → (Hn g' = Hn g + 2 ∧ Hu g' = Hu g + 6) → K g'
-- the walk of Vo_init
set_option maxRecDepth 100000 in
def B_Vo_init_0 (Γ : GAM) (K : GH → Prop) (th : Nat) (p0 : Int32) (p1 : Int32) (p2 : Int32) (g : GH) : Prop :=
  Hn g + 1 ≤ gB Γ + NCC ∧ Hu g + 3 ≤ NSS ∧ ∀ (a1 : Nat) (g2 : GH), a1 = Hn g → g2 = nO g 0 3 → (∀ f, Gi g f (Hn g) = 0) → (∀ f, Gr g f (Hn g) = none) → (∀ c, free g c (Hn g)) → (∀ a, Hn g ≤ a → Kd g a = 0) → Sp_AL_init Γ a1 g2 (fun (g3 : GH) => Kd g3 th = 11 ∧ ∀ g4 : GH, g4 = sR g3 1283 th (some a1) → Hn g4 + 1 ≤ gB Γ + NCC ∧ Hu g4 + 3 ≤ NSS ∧ ∀ (a5 : Nat) (g6 : GH), a5 = Hn g4 → g6 = nO g4 0 3 → (∀ f, Gi g4 f (Hn g4) = 0) → (∀ f, Gr g4 f (Hn g4) = none) → (∀ c, free g4 c (Hn g4)) → (∀ a, Hn g4 ≤ a → Kd g4 a = 0) → Sp_AL_init Γ a5 g6 (fun (g7 : GH) => Kd g7 th = 11 ∧ ∀ g8 : GH, g8 = sR g7 1284 th (some a5) → Kd g8 th = 11 ∧ ∀ g9 : GH, g9 = sI g8 1287 th (-1 : Int32) → Kd g9 th = 11 ∧ ∀ g10 : GH, g10 = sI g9 1288 th (-1 : Int32) → Kd g10 th = 11 ∧ ∀ g11 : GH, g11 = sI g10 1280 th p0 → Kd g11 th = 11 ∧ ∀ g12 : GH, g12 = sI g11 1281 th p1 → Kd g12 th = 11 ∧ ∀ g13 : GH, g13 = sI g12 1282 th p2 → K g13))
set_option maxHeartbeats 4000000 in
set_option maxRecDepth 100000 in
theorem S_Vo_init_0 {Γ : GAM} {E : EV} {K : GH → Prop} (hE : GE Γ E cX9_init 4 RX9 none 4 80 (fun r g' => r = none ∧ K g')) (hnm : E.2.2.2.2.2.2.2.2.1.name = "<init>") (th : Nat) (p0 : Int32) (p1 : Int32) (p2 : Int32) (g : GH) (h : B_Vo_init_0 Γ K th p0 p1 p2 g) : JW Γ E 0 [some (.ref th), some (.int p0), some (.int p1), some (.int p2)] [] g := by
  unfold B_Vo_init_0 at h
  refine j_aload_n hE (by decide +kernel : decode cX9_init 0 = .ok (.aload_n 0, 1)) rfl rfl ?_
  refine j_objInit hE rfl ol_X9 oi_in oi_code (Nat.le_of_ble_eq_true rfl) (by omega) (by omega) (by decide +kernel : decode cX9_init 1 = .ok (.invokespecial 3, 3)) ?_
  refine j_aload_n hE (by decide +kernel : decode cX9_init 4 = .ok (.aload_n 0, 1)) rfl rfl ?_
  obtain ⟨hn1, hn2, h⟩ := h
  refine j_new hE cf_0 ck_X9_9 in_Jx4a65c (by decide +kernel : decode cX9_init 5 = .ok (.new 9, 3)) hn1 hn2 (fun f1 f2 f3 f4 => ?_)
  obtain ⟨a1, ha⟩ : ∃ z, z = Hn g := ⟨_, rfl⟩; obtain ⟨g2, hg⟩ : ∃ z, z = nO g 0 3 := ⟨_, rfl⟩; replace h := h a1 g2 ha hg f1 f2 f3 f4; rw [← hg, ← ha]
  refine j_dup hE (by decide +kernel : decode cX9_init 8 = .ok (.dup, 1)) rfl ?_
  refine j_callI hE rfl cl_X9_11 im_Jx4a65c_init_da8c8 rfl ⟨by omega, by omega⟩ (As := []) (rest := [.ref a1, .ref th]) (b := a1) rfl rfl (Nat.le_of_ble_eq_true rfl) (by decide +kernel : decode cX9_init 9 = .ok (.invokespecial 11, 3)) (mt_AL_init _ _ _ h) ?_
  rintro _ g3 ⟨rfl, h⟩
  obtain ⟨hk, h⟩ := h
  obtain ⟨g4, hg⟩ : ∃ z, z = sR g3 1283 th (some a1) := ⟨_, rfl⟩; replace h := h g4 hg
  refine j_putR (v := (some a1)) hE fa_X9_12 hk (fun _ => hnm) (by decide +kernel : decode cX9_init 12 = .ok (.putfield 12, 3)) ?_
  rw [← hg]
  refine j_aload_n hE (by decide +kernel : decode cX9_init 15 = .ok (.aload_n 0, 1)) rfl rfl ?_
  obtain ⟨hn1, hn2, h⟩ := h
  refine j_new hE cf_0 ck_X9_9 in_Jx4a65c (by decide +kernel : decode cX9_init 16 = .ok (.new 9, 3)) hn1 hn2 (fun f1 f2 f3 f4 => ?_)
  obtain ⟨a5, ha⟩ : ∃ z, z = Hn g4 := ⟨_, rfl⟩; obtain ⟨g6, hg⟩ : ∃ z, z = nO g4 0 3 := ⟨_, rfl⟩; replace h := h a5 g6 ha hg f1 f2 f3 f4; rw [← hg, ← ha]
  refine j_dup hE (by decide +kernel : decode cX9_init 19 = .ok (.dup, 1)) rfl ?_
  refine j_callI hE rfl cl_X9_11 im_Jx4a65c_init_da8c8 rfl ⟨by omega, by omega⟩ (As := []) (rest := [.ref a5, .ref th]) (b := a5) rfl rfl (Nat.le_of_ble_eq_true rfl) (by decide +kernel : decode cX9_init 20 = .ok (.invokespecial 11, 3)) (mt_AL_init _ _ _ h) ?_
  rintro _ g7 ⟨rfl, h⟩
  obtain ⟨hk, h⟩ := h
  obtain ⟨g8, hg⟩ : ∃ z, z = sR g7 1284 th (some a5) := ⟨_, rfl⟩; replace h := h g8 hg
  refine j_putR (v := (some a5)) hE fa_X9_18 hk (fun _ => hnm) (by decide +kernel : decode cX9_init 23 = .ok (.putfield 18, 3)) ?_
  rw [← hg]
  refine j_aload_n hE (by decide +kernel : decode cX9_init 26 = .ok (.aload_n 0, 1)) rfl rfl ?_
  refine j_iconst hE (by decide +kernel : decode cX9_init 27 = .ok (.iconst (-1), 1)) (v := (-1 : Int32)) (by decide) ?_
  obtain ⟨hk, h⟩ := h
  obtain ⟨g9, hg⟩ : ∃ z, z = sI g8 1287 th (-1 : Int32) := ⟨_, rfl⟩; replace h := h g9 hg
  refine j_putI hE fa_X9_21 hk (fun q => by cases q) (by decide +kernel : decode cX9_init 28 = .ok (.putfield 21, 3)) ?_
  rw [← hg]
  refine j_aload_n hE (by decide +kernel : decode cX9_init 31 = .ok (.aload_n 0, 1)) rfl rfl ?_
  refine j_iconst hE (by decide +kernel : decode cX9_init 32 = .ok (.iconst (-1), 1)) (v := (-1 : Int32)) (by decide) ?_
  obtain ⟨hk, h⟩ := h
  obtain ⟨g10, hg⟩ : ∃ z, z = sI g9 1288 th (-1 : Int32) := ⟨_, rfl⟩; replace h := h g10 hg
  refine j_putI hE fa_X9_25 hk (fun q => by cases q) (by decide +kernel : decode cX9_init 33 = .ok (.putfield 25, 3)) ?_
  rw [← hg]
  refine j_aload_n hE (by decide +kernel : decode cX9_init 36 = .ok (.aload_n 0, 1)) rfl rfl ?_
  refine j_iload_n hE (by decide +kernel : decode cX9_init 37 = .ok (.iload_n 1, 1)) rfl rfl ?_
  obtain ⟨hk, h⟩ := h
  obtain ⟨g11, hg⟩ : ∃ z, z = sI g10 1280 th p0 := ⟨_, rfl⟩; replace h := h g11 hg
  refine j_putI hE fa_X9_28 hk (fun _ => hnm) (by decide +kernel : decode cX9_init 38 = .ok (.putfield 28, 3)) ?_
  rw [← hg]
  refine j_aload_n hE (by decide +kernel : decode cX9_init 41 = .ok (.aload_n 0, 1)) rfl rfl ?_
  refine j_iload_n hE (by decide +kernel : decode cX9_init 42 = .ok (.iload_n 2, 1)) rfl rfl ?_
  obtain ⟨hk, h⟩ := h
  obtain ⟨g12, hg⟩ : ∃ z, z = sI g11 1281 th p1 := ⟨_, rfl⟩; replace h := h g12 hg
  refine j_putI hE fa_X9_31 hk (fun _ => hnm) (by decide +kernel : decode cX9_init 43 = .ok (.putfield 31, 3)) ?_
  rw [← hg]
  refine j_aload_n hE (by decide +kernel : decode cX9_init 46 = .ok (.aload_n 0, 1)) rfl rfl ?_
  refine j_iload_n hE (by decide +kernel : decode cX9_init 47 = .ok (.iload_n 3, 1)) rfl rfl ?_
  obtain ⟨hk, h⟩ := h
  obtain ⟨g13, hg⟩ : ∃ z, z = sI g12 1282 th p2 := ⟨_, rfl⟩; replace h := h g13 hg
  refine j_putI hE fa_X9_34 hk (fun _ => hnm) (by decide +kernel : decode cX9_init 48 = .ok (.putfield 34, 3)) ?_
  rw [← hg]
  exact j_vret hE (by decide +kernel : decode cX9_init 51 = .ok (.return_, 1)) ⟨rfl, h⟩
set_option maxHeartbeats 4000000 in
set_option maxRecDepth 100000 in
theorem rl_Vo_init {Γ : GAM} {l : Launch} {th : Nat} {p0 : Int32} {p1 : Int32} {p2 : Int32} {g : GH} {K : GH → Prop} (h0 : B_Vo_init_0 Γ K th p0 p1 p2 g) : MetA Γ l yX9_init cX9_init 4 none 4 80 [.ref th, .int p0, .int p1, .int p2] g (fun r g' => r = none ∧ K g') := by
  refine MetA.introL (Lx := [some (.ref th), some (.int p0), some (.int p1), some (.int p2)]) (by decide) (Nat.le_of_ble_eq_true rfl) rfl rfl ?_
  intro E hEl hE hnm
  exact S_Vo_init_0 hE hnm th p0 p1 p2 g h0
theorem mt_Vo_init {Γ : GAM} {l : Launch} (th : Nat) (p0 : Int32) (p1 : Int32) (p2 : Int32) (g : GH) (K : GH → Prop) (h : Sp_Vo_init Γ th p0 p1 p2 g K) : MetA Γ l yX9_init cX9_init 4 none 4 80 [.ref th, .int p0, .int p1, .int p2] g (fun r g' => r = none ∧ K g') := by
  obtain ⟨⟨⟨n1, n2⟩, n3, n4, n5, n6⟩, hK⟩ := h
  refine MetA.rep (fun hR => MetA.ghV (rl_Vo_init ?_))
  have S0 := SL.ini n1 n2 (by decide) n3 n4 hR
  unfold B_Vo_init_0
  refine S0.list (F := 1283) (by decide) (by simp) (by simp) (by omega) (by omega) (fun g4 S1 e1 => ?_)
  refine S1.list (F := 1284) (by decide) (by simp) (by simp) (by omega) (by omega) (fun g8 S2 e2 => ?_)
  refine ⟨S2.kd, ?_⟩
  rintro _ rfl
  replace S2 := S2.setI (f := 1287) (v := -1) (by decide)
  refine ⟨S2.kd, ?_⟩
  rintro _ rfl
  replace S2 := S2.setI (f := 1288) (v := -1) (by decide)
  refine ⟨S2.kd, ?_⟩
  rintro _ rfl
  replace S2 := S2.setI (f := 1280) (v := p0) (by decide)
  refine ⟨S2.kd, ?_⟩
  rintro _ rfl
  replace S2 := S2.setI (f := 1281) (v := p1) (by decide)
  refine ⟨S2.kd, ?_⟩
  rintro g13 hg13
  replace S2 := S2.setI (f := 1282) (v := p2) (by decide)
  rw [← hg13] at S2
  have eh : Hn g13 = Hn g + 2 ∧ Hu g13 = Hu g + 6 := by
    rw [hg13]
    simp only [Hn_sI, Hu_sI]
    omega
  obtain ⟨f1, f2, f3, f4, f5⟩ := S2.fin (by simp; omega)
  obtain ⟨A1, A2, A3, A4⟩ := f4 (1283, Hn g) (by simp)
  obtain ⟨C1, C2, C3, C4⟩ := f4 (1284, Hn g4) (by simp)
  have V := S2.2.2.2.2.2.2.2.2.2.2
  have hkd := S2.kd
  refine ⟨_, f1, hK _ f2 ⟨⟨by rw [f3.2.2.2.2.2.2.2.1]; omega, by rw [f3.2.2.2.2.2.1]; exact hkd⟩, ⟨by rw [f3.1, V _ (by decide)]; rfl, by rw [f3.1, V _ (by decide)]; rfl, by rw [f3.1, V _ (by decide)]; rfl⟩, Hn g, Hn g4, ⟨A2, A3, A4⟩, ⟨C2, C3, C4⟩, ⟨[], A1, rfl, fun i x y hx => by simp at hx⟩, C1⟩ ⟨by rw [f3.2.2.2.2.2.2.2.1]; exact eh.1, by rw [f3.2.2.2.2.2.2.2.2]; exact eh.2⟩⟩
def Sp_En_init (Γ : GAM) (th : Nat) (n : Int32) (v : Nat) (sent ch told : Int32) (g : GH) (K : GH → Prop) : Prop := NEWL Γ 2 th g 3 35 ∧ (v < Hn g ∧ Kd g v = 11) ∧ ∀ g', CNw th g g' → (∀ k x, n = nI k → EOB Γ g' th k v (x, sent, told, ch) []) → Gi g' 134 th = -1 → (Hn g' = Hn g + 3 ∧ Hu g' = Hu g + 35) → K g'
-- the walk of En_init
set_option maxRecDepth 100000 in
def B_En_init_0 (Γ : GAM) (K : GH → Prop) (th : Nat) (p0 : Int32) (p1 : Nat) (p2 : Int32) (p3 : Int32) (p4 : Int32) (g : GH) : Prop :=
  Hn g + 1 ≤ gB Γ + NCC ∧ Hu g + 3 ≤ NSS ∧ ∀ (a1 : Nat) (g2 : GH), a1 = Hn g → g2 = nO g 0 3 → (∀ f, Gi g f (Hn g) = 0) → (∀ f, Gr g f (Hn g) = none) → (∀ c, free g c (Hn g)) → (∀ a, Hn g ≤ a → Kd g a = 0) → Sp_AL_init Γ a1 g2 (fun (g3 : GH) => Kd g3 th = 2 ∧ ∀ g4 : GH, g4 = sR g3 133 th (some a1) → Kd g4 th = 2 ∧ ∀ g5 : GH, g5 = sI g4 134 th (-1 : Int32) → th < Hn g5 ∧ free g5 135 th ∧ Hn g5 + 1 ≤ gB Γ + NCC ∧ Hu g5 + 16 ≤ NSS ∧ ∀ (a6 : Nat) (g7 : GH), a6 = Hn g5 → g7 = nA g5 20 135 th (16) → Kd g7 th = 2 ∧ ∀ g8 : GH, g8 = sR g7 135 th (some a6) → th < Hn g8 ∧ free g8 136 th ∧ Hn g8 + 1 ≤ gB Γ + NCC ∧ Hu g8 + 16 ≤ NSS ∧ ∀ (a9 : Nat) (g10 : GH), a9 = Hn g8 → g10 = nA g8 20 136 th (16) → Kd g10 th = 2 ∧ ∀ g11 : GH, g11 = sR g10 136 th (some a9) → Kd g11 th = 2 ∧ ∀ g12 : GH, g12 = sI g11 137 th (-1 : Int32) → Kd g12 th = 2 ∧ ∀ g13 : GH, g13 = sI g12 138 th (-1 : Int32) → Kd g13 th = 2 ∧ ∀ g14 : GH, g14 = sI g13 140 th (-1 : Int32) → Kd g14 th = 2 ∧ ∀ g15 : GH, g15 = sI g14 141 th (-1 : Int32) → Kd g15 th = 2 ∧ ∀ g16 : GH, g16 = sI g15 142 th (-1 : Int32) → Kd g16 th = 2 ∧ ∀ g17 : GH, g17 = sI g16 128 th p0 → Kd g17 th = 2 ∧ ∀ g18 : GH, g18 = sR g17 129 th (some p1) → Kd g18 th = 2 ∧ ∀ g19 : GH, g19 = sI g18 130 th p2 → Kd g19 th = 2 ∧ ∀ g20 : GH, g20 = sI g19 131 th p3 → Kd g20 th = 2 ∧ ∀ g21 : GH, g21 = sI g20 132 th p4 → K g21)
set_option maxHeartbeats 4000000 in
set_option maxRecDepth 100000 in
theorem S_En_init_0 {Γ : GAM} {E : EV} {K : GH → Prop} (hE : GE Γ E cX0_init 6 RX0 none 4 80 (fun r g' => r = none ∧ K g')) (hnm : E.2.2.2.2.2.2.2.2.1.name = "<init>") (th : Nat) (p0 : Int32) (p1 : Nat) (p2 : Int32) (p3 : Int32) (p4 : Int32) (g : GH) (h : B_En_init_0 Γ K th p0 p1 p2 p3 p4 g) : JW Γ E 0 [some (.ref th), some (.int p0), some (.ref p1), some (.int p2), some (.int p3), some (.int p4)] [] g := by
  unfold B_En_init_0 at h
  refine j_aload_n hE (by decide +kernel : decode cX0_init 0 = .ok (.aload_n 0, 1)) rfl rfl ?_
  refine j_objInit hE rfl ol_X0 oi_in oi_code (Nat.le_of_ble_eq_true rfl) (by omega) (by omega) (by decide +kernel : decode cX0_init 1 = .ok (.invokespecial 3, 3)) ?_
  refine j_aload_n hE (by decide +kernel : decode cX0_init 4 = .ok (.aload_n 0, 1)) rfl rfl ?_
  obtain ⟨hn1, hn2, h⟩ := h
  refine j_new hE cf_0 ck_X0_9 in_Jx4a65c (by decide +kernel : decode cX0_init 5 = .ok (.new 9, 3)) hn1 hn2 (fun f1 f2 f3 f4 => ?_)
  obtain ⟨a1, ha⟩ : ∃ z, z = Hn g := ⟨_, rfl⟩; obtain ⟨g2, hg⟩ : ∃ z, z = nO g 0 3 := ⟨_, rfl⟩; replace h := h a1 g2 ha hg f1 f2 f3 f4; rw [← hg, ← ha]
  refine j_dup hE (by decide +kernel : decode cX0_init 8 = .ok (.dup, 1)) rfl ?_
  refine j_callI hE rfl cl_X0_11 im_Jx4a65c_init_da8c8 rfl ⟨by omega, by omega⟩ (As := []) (rest := [.ref a1, .ref th]) (b := a1) rfl rfl (Nat.le_of_ble_eq_true rfl) (by decide +kernel : decode cX0_init 9 = .ok (.invokespecial 11, 3)) (mt_AL_init _ _ _ h) ?_
  rintro _ g3 ⟨rfl, h⟩
  obtain ⟨hk, h⟩ := h
  obtain ⟨g4, hg⟩ : ∃ z, z = sR g3 133 th (some a1) := ⟨_, rfl⟩; replace h := h g4 hg
  refine j_putR (v := (some a1)) hE fa_X0_12 hk (fun _ => hnm) (by decide +kernel : decode cX0_init 12 = .ok (.putfield 12, 3)) ?_
  rw [← hg]
  refine j_aload_n hE (by decide +kernel : decode cX0_init 15 = .ok (.aload_n 0, 1)) rfl rfl ?_
  refine j_iconst hE (by decide +kernel : decode cX0_init 16 = .ok (.iconst (-1), 1)) (v := (-1 : Int32)) (by decide) ?_
  obtain ⟨hk, h⟩ := h
  obtain ⟨g5, hg⟩ : ∃ z, z = sI g4 134 th (-1 : Int32) := ⟨_, rfl⟩; replace h := h g5 hg
  refine j_putI hE fa_X0_18 hk (fun q => by cases q) (by decide +kernel : decode cX0_init 17 = .ok (.putfield 18, 3)) ?_
  rw [← hg]
  refine j_aload_n hE (by decide +kernel : decode cX0_init 20 = .ok (.aload_n 0, 1)) rfl rfl ?_
  refine j_bipush hE (by decide +kernel : decode cX0_init 21 = .ok (.bipush 16, 2)) (v := (16 : Int32)) (by decide) ?_
  obtain ⟨ho1, hf1, hn1, hn2, h⟩ := h
  obtain ⟨a6, ha⟩ : ∃ z, z = Hn g5 := ⟨_, rfl⟩; obtain ⟨g7, hg⟩ : ∃ z, z = nA g5 20 135 th (16) := ⟨_, rfl⟩; replace h := h a6 g7 ha hg
  refine j_newarray (k := 20) (co := 135) (ow := th) (n := (16)) (atype := .int) hE ac_int (Or.inl ⟨rfl, rfl⟩) (by decide) (by decide) (by decide) ho1 hf1 (by decide +kernel : decode cX0_init 23 = .ok (.newarray .int, 2)) hn1 hn2 ?_
  rw [← hg, ← ha]
  obtain ⟨hk, h⟩ := h
  obtain ⟨g8, hg⟩ : ∃ z, z = sR g7 135 th (some a6) := ⟨_, rfl⟩; replace h := h g8 hg
  refine j_putR (v := (some a6)) hE fa_X0_22 hk (fun _ => hnm) (by decide +kernel : decode cX0_init 25 = .ok (.putfield 22, 3)) ?_
  rw [← hg]
  refine j_aload_n hE (by decide +kernel : decode cX0_init 28 = .ok (.aload_n 0, 1)) rfl rfl ?_
  refine j_bipush hE (by decide +kernel : decode cX0_init 29 = .ok (.bipush 16, 2)) (v := (16 : Int32)) (by decide) ?_
  obtain ⟨ho1, hf1, hn1, hn2, h⟩ := h
  obtain ⟨a9, ha⟩ : ∃ z, z = Hn g8 := ⟨_, rfl⟩; obtain ⟨g10, hg⟩ : ∃ z, z = nA g8 20 136 th (16) := ⟨_, rfl⟩; replace h := h a9 g10 ha hg
  refine j_newarray (k := 20) (co := 136) (ow := th) (n := (16)) (atype := .int) hE ac_int (Or.inl ⟨rfl, rfl⟩) (by decide) (by decide) (by decide) ho1 hf1 (by decide +kernel : decode cX0_init 31 = .ok (.newarray .int, 2)) hn1 hn2 ?_
  rw [← hg, ← ha]
  obtain ⟨hk, h⟩ := h
  obtain ⟨g11, hg⟩ : ∃ z, z = sR g10 136 th (some a9) := ⟨_, rfl⟩; replace h := h g11 hg
  refine j_putR (v := (some a9)) hE fa_X0_26 hk (fun _ => hnm) (by decide +kernel : decode cX0_init 33 = .ok (.putfield 26, 3)) ?_
  rw [← hg]
  refine j_aload_n hE (by decide +kernel : decode cX0_init 36 = .ok (.aload_n 0, 1)) rfl rfl ?_
  refine j_iconst hE (by decide +kernel : decode cX0_init 37 = .ok (.iconst (-1), 1)) (v := (-1 : Int32)) (by decide) ?_
  obtain ⟨hk, h⟩ := h
  obtain ⟨g12, hg⟩ : ∃ z, z = sI g11 137 th (-1 : Int32) := ⟨_, rfl⟩; replace h := h g12 hg
  refine j_putI hE fa_X0_29 hk (fun q => by cases q) (by decide +kernel : decode cX0_init 38 = .ok (.putfield 29, 3)) ?_
  rw [← hg]
  refine j_aload_n hE (by decide +kernel : decode cX0_init 41 = .ok (.aload_n 0, 1)) rfl rfl ?_
  refine j_iconst hE (by decide +kernel : decode cX0_init 42 = .ok (.iconst (-1), 1)) (v := (-1 : Int32)) (by decide) ?_
  obtain ⟨hk, h⟩ := h
  obtain ⟨g13, hg⟩ : ∃ z, z = sI g12 138 th (-1 : Int32) := ⟨_, rfl⟩; replace h := h g13 hg
  refine j_putI hE fa_X0_32 hk (fun q => by cases q) (by decide +kernel : decode cX0_init 43 = .ok (.putfield 32, 3)) ?_
  rw [← hg]
  refine j_aload_n hE (by decide +kernel : decode cX0_init 46 = .ok (.aload_n 0, 1)) rfl rfl ?_
  refine j_iconst hE (by decide +kernel : decode cX0_init 47 = .ok (.iconst (-1), 1)) (v := (-1 : Int32)) (by decide) ?_
  obtain ⟨hk, h⟩ := h
  obtain ⟨g14, hg⟩ : ∃ z, z = sI g13 140 th (-1 : Int32) := ⟨_, rfl⟩; replace h := h g14 hg
  refine j_putI hE fa_X0_35 hk (fun q => by cases q) (by decide +kernel : decode cX0_init 48 = .ok (.putfield 35, 3)) ?_
  rw [← hg]
  refine j_aload_n hE (by decide +kernel : decode cX0_init 51 = .ok (.aload_n 0, 1)) rfl rfl ?_
  refine j_iconst hE (by decide +kernel : decode cX0_init 52 = .ok (.iconst (-1), 1)) (v := (-1 : Int32)) (by decide) ?_
  obtain ⟨hk, h⟩ := h
  obtain ⟨g15, hg⟩ : ∃ z, z = sI g14 141 th (-1 : Int32) := ⟨_, rfl⟩; replace h := h g15 hg
  refine j_putI hE fa_X0_38 hk (fun q => by cases q) (by decide +kernel : decode cX0_init 53 = .ok (.putfield 38, 3)) ?_
  rw [← hg]
  refine j_aload_n hE (by decide +kernel : decode cX0_init 56 = .ok (.aload_n 0, 1)) rfl rfl ?_
  refine j_iconst hE (by decide +kernel : decode cX0_init 57 = .ok (.iconst (-1), 1)) (v := (-1 : Int32)) (by decide) ?_
  obtain ⟨hk, h⟩ := h
  obtain ⟨g16, hg⟩ : ∃ z, z = sI g15 142 th (-1 : Int32) := ⟨_, rfl⟩; replace h := h g16 hg
  refine j_putI hE fa_X0_41 hk (fun q => by cases q) (by decide +kernel : decode cX0_init 58 = .ok (.putfield 41, 3)) ?_
  rw [← hg]
  refine j_aload_n hE (by decide +kernel : decode cX0_init 61 = .ok (.aload_n 0, 1)) rfl rfl ?_
  refine j_iload_n hE (by decide +kernel : decode cX0_init 62 = .ok (.iload_n 1, 1)) rfl rfl ?_
  obtain ⟨hk, h⟩ := h
  obtain ⟨g17, hg⟩ : ∃ z, z = sI g16 128 th p0 := ⟨_, rfl⟩; replace h := h g17 hg
  refine j_putI hE fa_X0_44 hk (fun _ => hnm) (by decide +kernel : decode cX0_init 63 = .ok (.putfield 44, 3)) ?_
  rw [← hg]
  refine j_aload_n hE (by decide +kernel : decode cX0_init 66 = .ok (.aload_n 0, 1)) rfl rfl ?_
  refine j_aload_n hE (by decide +kernel : decode cX0_init 67 = .ok (.aload_n 2, 1)) rfl rfl ?_
  obtain ⟨hk, h⟩ := h
  obtain ⟨g18, hg⟩ : ∃ z, z = sR g17 129 th (some p1) := ⟨_, rfl⟩; replace h := h g18 hg
  refine j_putR (v := (some p1)) hE fa_X0_47 hk (fun _ => hnm) (by decide +kernel : decode cX0_init 68 = .ok (.putfield 47, 3)) ?_
  rw [← hg]
  refine j_aload_n hE (by decide +kernel : decode cX0_init 71 = .ok (.aload_n 0, 1)) rfl rfl ?_
  refine j_iload_n hE (by decide +kernel : decode cX0_init 72 = .ok (.iload_n 3, 1)) rfl rfl ?_
  obtain ⟨hk, h⟩ := h
  obtain ⟨g19, hg⟩ : ∃ z, z = sI g18 130 th p2 := ⟨_, rfl⟩; replace h := h g19 hg
  refine j_putI hE fa_X0_51 hk (fun _ => hnm) (by decide +kernel : decode cX0_init 73 = .ok (.putfield 51, 3)) ?_
  rw [← hg]
  refine j_aload_n hE (by decide +kernel : decode cX0_init 76 = .ok (.aload_n 0, 1)) rfl rfl ?_
  refine j_iload hE (by decide +kernel : decode cX0_init 77 = .ok (.iload 4, 2)) rfl ?_
  obtain ⟨hk, h⟩ := h
  obtain ⟨g20, hg⟩ : ∃ z, z = sI g19 131 th p3 := ⟨_, rfl⟩; replace h := h g20 hg
  refine j_putI hE fa_X0_54 hk (fun _ => hnm) (by decide +kernel : decode cX0_init 79 = .ok (.putfield 54, 3)) ?_
  rw [← hg]
  refine j_aload_n hE (by decide +kernel : decode cX0_init 82 = .ok (.aload_n 0, 1)) rfl rfl ?_
  refine j_iload hE (by decide +kernel : decode cX0_init 83 = .ok (.iload 5, 2)) rfl ?_
  obtain ⟨hk, h⟩ := h
  obtain ⟨g21, hg⟩ : ∃ z, z = sI g20 132 th p4 := ⟨_, rfl⟩; replace h := h g21 hg
  refine j_putI hE fa_X0_57 hk (fun _ => hnm) (by decide +kernel : decode cX0_init 85 = .ok (.putfield 57, 3)) ?_
  rw [← hg]
  exact j_vret hE (by decide +kernel : decode cX0_init 88 = .ok (.return_, 1)) ⟨rfl, h⟩
set_option maxHeartbeats 4000000 in
set_option maxRecDepth 100000 in
theorem rl_En_init {Γ : GAM} {l : Launch} {th : Nat} {p0 : Int32} {p1 : Nat} {p2 : Int32} {p3 : Int32} {p4 : Int32} {g : GH} {K : GH → Prop} (h0 : B_En_init_0 Γ K th p0 p1 p2 p3 p4 g) : MetA Γ l yX0_init cX0_init 6 none 4 80 [.ref th, .int p0, .ref p1, .int p2, .int p3, .int p4] g (fun r g' => r = none ∧ K g') := by
  refine MetA.introL (Lx := [some (.ref th), some (.int p0), some (.ref p1), some (.int p2), some (.int p3), some (.int p4)]) (by decide) (Nat.le_of_ble_eq_true rfl) rfl rfl ?_
  intro E hEl hE hnm
  exact S_En_init_0 hE hnm th p0 p1 p2 p3 p4 g h0
theorem mt_En_init {Γ : GAM} {l : Launch} (th : Nat) (p0 : Int32) (p1 : Nat) (p2 : Int32) (p3 : Int32) (p4 : Int32) (g : GH) (K : GH → Prop) (h : Sp_En_init Γ th p0 p1 p2 p3 p4 g K) : MetA Γ l yX0_init cX0_init 6 none 4 80 [.ref th, .int p0, .ref p1, .int p2, .int p3, .int p4] g (fun r g' => r = none ∧ K g') := by
  obtain ⟨⟨⟨n1, n2⟩, n3, n4, n5, n6⟩, ⟨v1, v2⟩, hK⟩ := h
  refine MetA.rep (fun hR => MetA.ghV (rl_En_init ?_))
  have S0 := SL.ini n1 n2 (by decide) n3 n4 hR
  unfold B_En_init_0
  refine S0.list (F := 133) (by decide) (by simp) (by simp) (by omega) (by omega) (fun g4 S1 e1 => ?_)
  refine ⟨S1.kd, ?_⟩
  rintro g5 hg5
  replace S1 := S1.setI (f := 134) (v := -1) (by decide)
  rw [← hg5] at S1
  have e5 : Hn g5 = Hn g4 ∧ Hu g5 = Hu g4 := by rw [hg5]; exact ⟨rfl, rfl⟩
  refine S1.arr (F := 135) (by decide) (by simp) (by simp) (by omega) (by omega) (fun g8 S2 e2 => ?_)
  refine S2.arr (F := 136) (by decide) (by simp) (by simp) (by omega) (by omega) (fun g11 S3 e3 => ?_)
  refine ⟨S3.kd, ?_⟩
  rintro _ rfl
  replace S3 := S3.setI (f := 137) (v := -1) (by decide)
  refine ⟨S3.kd, ?_⟩
  rintro _ rfl
  replace S3 := S3.setI (f := 138) (v := -1) (by decide)
  refine ⟨S3.kd, ?_⟩
  rintro _ rfl
  replace S3 := S3.setI (f := 140) (v := -1) (by decide)
  refine ⟨S3.kd, ?_⟩
  rintro _ rfl
  replace S3 := S3.setI (f := 141) (v := -1) (by decide)
  refine ⟨S3.kd, ?_⟩
  rintro _ rfl
  replace S3 := S3.setI (f := 142) (v := -1) (by decide)
  refine ⟨S3.kd, ?_⟩
  rintro _ rfl
  replace S3 := S3.setI (f := 128) (v := p0) (by decide)
  refine ⟨S3.kd, ?_⟩
  rintro _ rfl
  replace S3 := S3.setR (F := 129) (v := some p1) (by decide) (by simp) (by simp)
  refine ⟨S3.kd, ?_⟩
  rintro _ rfl
  replace S3 := S3.setI (f := 130) (v := p2) (by decide)
  refine ⟨S3.kd, ?_⟩
  rintro _ rfl
  replace S3 := S3.setI (f := 131) (v := p3) (by decide)
  refine ⟨S3.kd, ?_⟩
  rintro g21 hg21
  replace S3 := S3.setI (f := 132) (v := p4) (by decide)
  rw [← hg21] at S3
  have eh : Hn g21 = Hn g + 3 ∧ Hu g21 = Hu g + 35 := by
    rw [hg21]
    simp only [Hn_sI, Hu_sI, Hn_sR, Hu_sR]
    omega
  have hv : Gr g21 129 th = some p1 := by
    rw [hg21]
    simp only [Gr_sI, Gr_sR, and_self, if_true]
  obtain ⟨f1, f2, f3, f4, f5⟩ := S3.fin (by simp)
  obtain ⟨A1, A2, A3, A4⟩ := f4 (133, Hn g) (by simp)
  have V := S3.2.2.2.2.2.2.2.2.2.2
  have hkd := S3.kd
  have hkv : Kd g21 p1 = 11 := by
    rw [(S3.2.2.2.2.2.2.1 p1 v1).1]; exact v2
  refine ⟨_, f1, hK _ f2 (fun k x hk => ⟨⟨by rw [f3.2.2.2.2.2.2.2.1]; omega, by rw [f3.2.2.2.2.2.1]; exact hkd⟩, ⟨by rw [f3.2.2.2.2.2.2.2.1]; omega, by rw [f3.2.2.2.2.2.1]; exact hkv, by rw [f3.2.1]; exact hv⟩, ⟨by rw [f3.1, V _ (by decide), ← hk]; rfl, by rw [f3.1, V _ (by decide)]; rfl, by rw [f3.1, V _ (by decide)]; rfl, by rw [f3.1, V _ (by decide)]; rfl⟩, f5 (135, 16) (by simp), f5 (136, 16) (by simp), Hn g, ⟨A2, A3, A4⟩, [], A1, rfl, fun i x y hx => by simp at hx⟩) (by rw [f3.1, V _ (by decide)]; rfl) ⟨by rw [f3.2.2.2.2.2.2.2.1]; exact eh.1, by rw [f3.2.2.2.2.2.2.2.2]; exact eh.2⟩⟩
def Sp_Ju_init (Γ : GAM) (th : Nat) (g : GH) (K : GH → Prop) : Prop := NEWL Γ 4 th g 2 203 ∧ ∀ g', CNw th g g' → JuI Γ g' th [] → (∃ al, Hn g ≤ al ∧ Gr g' 384 th = some al) → (Hn g' = Hn g + 2 ∧ Hu g' = Hu g + 203) → K g'
-- the walk of Ju_init
set_option maxRecDepth 100000 in
def B_Ju_init_0 (Γ : GAM) (K : GH → Prop) (th : Nat) (g : GH) : Prop :=
  Hn g + 1 ≤ gB Γ + NCC ∧ Hu g + 3 ≤ NSS ∧ ∀ (a1 : Nat) (g2 : GH), a1 = Hn g → g2 = nO g 0 3 → (∀ f, Gi g f (Hn g) = 0) → (∀ f, Gr g f (Hn g) = none) → (∀ c, free g c (Hn g)) → (∀ a, Hn g ≤ a → Kd g a = 0) → Sp_AL_init Γ a1 g2 (fun (g3 : GH) => Kd g3 th = 4 ∧ ∀ g4 : GH, g4 = sR g3 384 th (some a1) → th < Hn g4 ∧ free g4 385 th ∧ Hn g4 + 1 ≤ gB Γ + NCC ∧ Hu g4 + 200 ≤ NSS ∧ ∀ (a5 : Nat) (g6 : GH), a5 = Hn g4 → g6 = nA g4 20 385 th (200) → Kd g6 th = 4 ∧ ∀ g7 : GH, g7 = sR g6 385 th (some a5) → K g7)
set_option maxHeartbeats 4000000 in
set_option maxRecDepth 100000 in
theorem S_Ju_init_0 {Γ : GAM} {E : EV} {K : GH → Prop} (hE : GE Γ E cX2_init 1 RX2 none 4 80 (fun r g' => r = none ∧ K g')) (hnm : E.2.2.2.2.2.2.2.2.1.name = "<init>") (th : Nat) (g : GH) (h : B_Ju_init_0 Γ K th g) : JW Γ E 0 [some (.ref th)] [] g := by
  unfold B_Ju_init_0 at h
  refine j_aload_n hE (by decide +kernel : decode cX2_init 0 = .ok (.aload_n 0, 1)) rfl rfl ?_
  refine j_objInit hE rfl ol_X2 oi_in oi_code (Nat.le_of_ble_eq_true rfl) (by omega) (by omega) (by decide +kernel : decode cX2_init 1 = .ok (.invokespecial 3, 3)) ?_
  refine j_aload_n hE (by decide +kernel : decode cX2_init 4 = .ok (.aload_n 0, 1)) rfl rfl ?_
  obtain ⟨hn1, hn2, h⟩ := h
  refine j_new hE cf_0 ck_X2_9 in_Jx4a65c (by decide +kernel : decode cX2_init 5 = .ok (.new 9, 3)) hn1 hn2 (fun f1 f2 f3 f4 => ?_)
  obtain ⟨a1, ha⟩ : ∃ z, z = Hn g := ⟨_, rfl⟩; obtain ⟨g2, hg⟩ : ∃ z, z = nO g 0 3 := ⟨_, rfl⟩; replace h := h a1 g2 ha hg f1 f2 f3 f4; rw [← hg, ← ha]
  refine j_dup hE (by decide +kernel : decode cX2_init 8 = .ok (.dup, 1)) rfl ?_
  refine j_callI hE rfl cl_X2_11 im_Jx4a65c_init_da8c8 rfl ⟨by omega, by omega⟩ (As := []) (rest := [.ref a1, .ref th]) (b := a1) rfl rfl (Nat.le_of_ble_eq_true rfl) (by decide +kernel : decode cX2_init 9 = .ok (.invokespecial 11, 3)) (mt_AL_init _ _ _ h) ?_
  rintro _ g3 ⟨rfl, h⟩
  obtain ⟨hk, h⟩ := h
  obtain ⟨g4, hg⟩ : ∃ z, z = sR g3 384 th (some a1) := ⟨_, rfl⟩; replace h := h g4 hg
  refine j_putR (v := (some a1)) hE fa_X2_12 hk (fun _ => hnm) (by decide +kernel : decode cX2_init 12 = .ok (.putfield 12, 3)) ?_
  rw [← hg]
  refine j_aload_n hE (by decide +kernel : decode cX2_init 15 = .ok (.aload_n 0, 1)) rfl rfl ?_
  refine j_sipush hE (by decide +kernel : decode cX2_init 16 = .ok (.sipush 200, 3)) (v := (200 : Int32)) (by decide) ?_
  obtain ⟨ho1, hf1, hn1, hn2, h⟩ := h
  obtain ⟨a5, ha⟩ : ∃ z, z = Hn g4 := ⟨_, rfl⟩; obtain ⟨g6, hg⟩ : ∃ z, z = nA g4 20 385 th (200) := ⟨_, rfl⟩; replace h := h a5 g6 ha hg
  refine j_newarray (k := 20) (co := 385) (ow := th) (n := (200)) (atype := .int) hE ac_int (Or.inl ⟨rfl, rfl⟩) (by decide) (by decide) (by decide) ho1 hf1 (by decide +kernel : decode cX2_init 19 = .ok (.newarray .int, 2)) hn1 hn2 ?_
  rw [← hg, ← ha]
  obtain ⟨hk, h⟩ := h
  obtain ⟨g7, hg⟩ : ∃ z, z = sR g6 385 th (some a5) := ⟨_, rfl⟩; replace h := h g7 hg
  refine j_putR (v := (some a5)) hE fa_X2_18 hk (fun _ => hnm) (by decide +kernel : decode cX2_init 21 = .ok (.putfield 18, 3)) ?_
  rw [← hg]
  exact j_vret hE (by decide +kernel : decode cX2_init 24 = .ok (.return_, 1)) ⟨rfl, h⟩
set_option maxHeartbeats 4000000 in
set_option maxRecDepth 100000 in
theorem rl_Ju_init {Γ : GAM} {l : Launch} {th : Nat} {g : GH} {K : GH → Prop} (h0 : B_Ju_init_0 Γ K th g) : MetA Γ l yX2_init cX2_init 1 none 4 80 [.ref th] g (fun r g' => r = none ∧ K g') := by
  refine MetA.introL (Lx := [some (.ref th)]) (by decide) (Nat.le_of_ble_eq_true rfl) rfl rfl ?_
  intro E hEl hE hnm
  exact S_Ju_init_0 hE hnm th g h0
theorem mt_Ju_init {Γ : GAM} {l : Launch} (th : Nat) (g : GH) (K : GH → Prop) (h : Sp_Ju_init Γ th g K) : MetA Γ l yX2_init cX2_init 1 none 4 80 [.ref th] g (fun r g' => r = none ∧ K g') := by
  obtain ⟨⟨⟨n1, n2⟩, n3, n4, n5, n6⟩, hK⟩ := h
  refine MetA.rep (fun hR => MetA.ghV (rl_Ju_init ?_))
  have S0 := SL.ini n1 n2 (by decide) n3 n4 hR
  unfold B_Ju_init_0
  refine S0.list (F := 384) (by decide) (by simp) (by simp) (by omega) (by omega) (fun g4 S1 e1 => ?_)
  refine S1.arr (F := 385) (by decide) (by simp) (by simp) (by omega) (by omega) (fun g7 S2 e2 => ?_)
  obtain ⟨f1, f2, f3, f4, f5⟩ := S2.fin (by simp)
  obtain ⟨A1, A2, A3, A4⟩ := f4 (384, Hn g) (by simp)
  have hkd := S2.kd
  have h8 := f3.2.2.2.2.2.2.2.1
  have h9 := f3.2.2.2.2.2.2.2.2
  refine ⟨_, f1, hK _ f2 ⟨⟨by omega, by rw [f3.2.2.2.2.2.1]; exact hkd⟩, f5 (385, 200) (by simp), Hn g, [], ⟨A2, A3, A4⟩, A1, rfl, fun i x y hx => by simp at hx⟩ ⟨_, Nat.le_refl _, A2⟩ ⟨by omega, by omega⟩⟩
