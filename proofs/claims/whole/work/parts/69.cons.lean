/-! constructors of objects that own arrays -/
def ktot (fl : List (Nat × Nat × Nat)) (n : Nat) : Nat := ((fl.take n).map (fun x => x.2.2)).sum
theorem ktot_s {fl : List (Nat × Nat × Nat)} {n : Nat} {x : Nat × Nat × Nat} (h : fl[n]? = some x) : ktot fl (n + 1) = ktot fl n + x.2.2 := by
  unfold ktot
  rw [List.take_succ, h, List.map_append, List.sum_append]
  simp
theorem sum_take (l : List Nat) : ∀ n, (l.take n).sum ≤ l.sum := by
  induction l with
  | nil => intro n; simp
  | cons a l ih =>
    intro n
    cases n with
    | zero => simp
    | succ n => rw [List.take_succ_cons, List.sum_cons, List.sum_cons]; have := ih n; omega
theorem ktot_le (fl : List (Nat × Nat × Nat)) (n : Nat) : ktot fl n ≤ (fl.map (fun x => x.2.2)).sum := by
  unfold ktot
  rw [List.map_take]
  exact sum_take _ n
abbrev gdF (fl : List (Nat × Nat × Nat)) : Prop := (∀ i, i < fl.length → ∀ j, j < fl.length → (fl[i]?.getD default).1 = (fl[j]?.getD default).1 → i = j) ∧ ∀ x ∈ fl, 20 ≤ x.2.1 ∧ x.2.1 ≤ 23
def StK (Γ : GAM) (kd0 : Nat) (fl : List (Nat × Nat × Nat)) (th : Nat) (g0 : GH) (n : Nat) (V : Nat → Int32) (W : Nat → Nat → Int32) (g : GH) : Prop :=
  CO th g0 g ∧ EN g ∧ th < Hn g0 ∧ Kd g0 th = kd0 ∧ Hn g = Hn g0 + n ∧ Hu g = Hu g0 + ktot fl n ∧ (Hn g0 + fl.length ≤ gB Γ + NCC ∧ Hu g0 + (fl.map (fun x => x.2.2)).sum ≤ NSS) ∧ (∀ F, free g0 F th) ∧
  (∀ f, Gi g f th = V f) ∧ (∀ i x, i < n → fl[i]? = some x → Gr g x.1 th = some (Hn g0 + i) ∧ Kd g (Hn g0 + i) = x.2.1 ∧ Co g (Hn g0 + i) = x.1 ∧ Ow g (Hn g0 + i) = th ∧ Ln g (Hn g0 + i) = x.2.2 ∧ Ia g x.1 th = W x.1) ∧
  n ≤ fl.length ∧ EN g0 ∧ (kd0 < 20 ∧ gdF fl) ∧ (∀ f, (∀ i x, i < n → fl[i]? = some x → x.1 ≠ f) → Gr g f th = none)
theorem StK.kd {Γ : GAM} {kd0 : Nat} {fl : List (Nat × Nat × Nat)} {th : Nat} {g0 g : GH} {n : Nat} {V : Nat → Int32} {W : Nat → Nat → Int32} (h : StK Γ kd0 fl th g0 n V W g) : Kd g th = kd0 := by
  obtain ⟨⟨c1, c2, c3, c4, c5, c6, c7⟩, e1, h1, h2, _⟩ := h
  rw [(c4 th h1).1]; exact h2
theorem StK.ini {Γ : GAM} {kd0 : Nat} {fl : List (Nat × Nat × Nat)} {th : Nat} {g : GH} {W : Nat → Nat → Int32} (h1 : th < Hn g) (h2 : Kd g th = kd0) (h3 : EN g) (h4 : ∀ F, free g F th) (h5 : ∀ f, Gi g f th = 0) (h5' : ∀ f, Gr g f th = none) (h6 : Hn g + fl.length ≤ gB Γ + NCC ∧ Hu g + (fl.map (fun x => x.2.2)).sum ≤ NSS) (h7 : kd0 < 20 ∧ gdF fl) : StK Γ kd0 fl th g 0 (fun _ => 0) W g :=
  ⟨⟨fun _ _ _ => rfl, fun _ _ _ => rfl, fun _ _ _ => ⟨rfl, rfl⟩, fun _ _ => ⟨rfl, rfl, rfl, rfl, rfl⟩, fun a ha hb => by rw [h3 a ha] at hb; omega, Nat.le_refl _, Nat.le_refl _⟩, h3, h1, h2, rfl, rfl, h6, h4, h5, fun _ _ hi => absurd hi (Nat.not_lt_zero _), Nat.zero_le _, h3, h7, fun f _ => h5' f⟩
theorem StK.step {Γ : GAM} {kd0 : Nat} {fl : List (Nat × Nat × Nat)} {th : Nat} {g0 g : GH} {n F kd len : Nat} {V : Nat → Int32} (h : StK Γ kd0 fl th g0 n V (fun _ _ => 0) g) (hm : fl[n]? = some (F, kd, len)) {R : GH → Prop} (hR : ∀ g', StK Γ kd0 fl th g0 (n + 1) V (fun _ _ => 0) g' → R g') :
    th < Hn g ∧ free g F th ∧ Hn g + 1 ≤ gB Γ + NCC ∧ Hu g + len ≤ NSS ∧ ∀ (a1 : Nat) (g2), a1 = Hn g → g2 = nA g kd F th len → Kd g2 th = kd0 ∧ ∀ g3 : GH, g3 = sR g2 F th (some a1) → R g3 := by
  have hk := h.kd
  obtain ⟨⟨c1, c2, c3, c4, c5, c6, c7⟩, e1, h1, h2, h3, h4, ⟨r1, r2⟩, h5, h6, h7, h8, h9, ⟨h10, hg1, hg2⟩, h11⟩ := h
  have hn := (List.getElem?_eq_some_iff.mp hm).1
  have t1 := ktot_s hm
  have t2 := ktot_le fl (n + 1)
  have t3 := hg2 _ (List.mem_of_getElem? hm)
  simp only at t1 t3
  have inj : ∀ i x, fl[i]? = some x → x.1 = F → i = n := fun i x hx e => by
    have hi := (List.getElem?_eq_some_iff.mp hx).1
    exact hg1 i hi n hn (by rw [hx, hm]; exact e)
  refine ⟨by omega, fun b hb hc ho => ?_, by omega, by omega, ?_⟩
  · by_cases q : b < Hn g0
    · obtain ⟨z1, z2, z3, _⟩ := c4 b q
      exact h5 F b (by rw [← z1]; exact hb) (by rw [← z2]; exact hc) (by rw [← z3]; exact ho)
    · by_cases q2 : b < Hn g
      · obtain ⟨x, hi⟩ := get_lt (show b - Hn g0 < fl.length by omega)
        have z := h7 (b - Hn g0) _ (by omega) hi
        rw [Nat.add_sub_cancel' (by omega)] at z
        have := inj _ _ hi (z.2.2.1.symm.trans hc)
        omega
      · have := e1 b (by omega); omega
  rintro _ _ rfl rfl
  have hne : Hn g ≠ th := by omega
  refine ⟨?_, ?_⟩
  · rw [Kd_nA, if_neg (Ne.symm hne)]; exact hk
  rintro _ rfl
  refine hR _ ⟨⟨c1, fun f a ha => ?_, fun c o ho => ?_, fun a ha => ?_, fun a ha hb => ?_, ?_, ?_⟩, fun b hb => ?_, h1, h2, ?_, ?_, ⟨r1, r2⟩, h5, h6, fun i x hi hx => ?_, by omega, h9, ⟨h10, hg1, hg2⟩, fun f hf => ?_⟩
  · rw [Gr_sR, if_neg (fun q => ha q.2), Gr_nA]; exact c2 f a ha
  · rw [Ia_sR, Ra_sR, Ia_nA, Ra_nA, if_neg (fun q => ho q.2), if_neg (fun q => ho q.2)]; exact c3 c o ho
  · have hz : ¬ a = Hn g := by omega
    rw [Kd_sR, Co_sR, Ow_sR, Ln_sR, La_sR, Kd_nA, Co_nA, Ow_nA, Ln_nA, La_nA, if_neg hz, if_neg hz, if_neg hz, if_neg hz, if_neg hz]; exact c4 a ha
  · rw [Kd_sR, Kd_nA] at hb
    rw [Ow_sR, Ow_nA]
    split
    · rfl
    · rename_i q; rw [if_neg q] at hb; exact c5 a ha hb
  · rw [Hn_sR, Hn_nA]; omega
  · rw [Hu_sR, Hu_nA]; omega
  · rw [Hn_sR, Hn_nA] at hb
    rw [Kd_sR, Kd_nA, if_neg (by omega)]; exact e1 b (by omega)
  · rw [Hn_sR, Hn_nA]; omega
  · rw [Hu_sR, Hu_nA]; omega
  · rw [Gr_sR, Kd_sR, Co_sR, Ow_sR, Ln_sR, Ia_sR, Gr_nA, Kd_nA, Co_nA, Ow_nA, Ln_nA, Ia_nA]
    by_cases q : i = n
    · subst q
      rw [hm] at hx; cases hx
      rw [← h3]
      simp
    · have hz : ¬ Hn g0 + i = Hn g := by omega
      have hf : ¬ x.1 = F := fun e => q (inj i x hx e)
      rw [if_neg (fun q => hf q.1), if_neg hz, if_neg hz, if_neg hz, if_neg hz, if_neg (fun q => hf q.1)]
      exact h7 i x (by omega) hx
  · rw [Gr_sR, if_neg (fun q => hf n _ (by omega) hm q.1.symm), Gr_nA]
    exact h11 f (fun i x hi hx => hf i x (by omega) hx)
theorem StK.setI {Γ : GAM} {kd0 : Nat} {fl : List (Nat × Nat × Nat)} {th : Nat} {g0 g : GH} {n f : Nat} {v : Int32} {V : Nat → Int32} {W : Nat → Nat → Int32} (h : StK Γ kd0 fl th g0 n V W g) : StK Γ kd0 fl th g0 n (fun f' => if f' = f then v else V f') W (sI g f th v) := by
  obtain ⟨⟨c1, c2, c3, c4, c5, c6, c7⟩, e1, h1, h2, h3, h4, h10, h5, h6, h7, h8⟩ := h
  refine ⟨⟨fun f' a ha => ?_, c2, c3, c4, c5, c6, c7⟩, e1, h1, h2, h3, h4, h10, h5, fun f' => ?_, h7, h8⟩
  · rw [Gi_sI, if_neg (fun q => ha q.2)]; exact c1 f' a ha
  · rw [Gi_sI, h6 f']; simp
/-- what a new object that owns arrays starts from, and what is left of the rest -/
def NEW (Γ : GAM) (kd0 : Nat) (fl : List (Nat × Nat × Nat)) (th : Nat) (g : GH) : Prop := th < Hn g ∧ Kd g th = kd0 ∧ EN g ∧ (∀ F, free g F th) ∧ (∀ f, Gi g f th = 0) ∧ (∀ f, Gr g f th = none) ∧ (Hn g + fl.length ≤ gB Γ + NCC ∧ Hu g + (fl.map (fun x => x.2.2)).sum ≤ NSS)
theorem EN.lt0 {g : GH} (h : EN g) {a : Nat} (ha : Kd g a ≠ 0) : a < Hn g := Classical.byContradiction (fun z => ha (h a (by omega)))
def MADE (fl : List (Nat × Nat × Nat)) (th : Nat) (g g' : GH) : Prop := CO th g g' ∧ EN g' ∧ Hn g' = Hn g + fl.length ∧ Hu g' ≤ Hu g + (fl.map (fun x => x.2.2)).sum ∧ ∀ b, Hn g ≤ b → 20 ≤ Kd g' b → 128 ≤ Co g' b ∧ (Co g' b < 998 ∨ 1000 < Co g' b)
theorem StK.made {Γ : GAM} {kd0 : Nat} {fl : List (Nat × Nat × Nat)} {th : Nat} {g0 g : GH} {V : Nat → Int32} {W : Nat → Nat → Int32} (h : StK Γ kd0 fl th g0 fl.length V W g) (hfl : ∀ x ∈ fl, 128 ≤ x.1 ∧ (x.1 < 998 ∨ 1000 < x.1)) : MADE fl th g0 g := by
  obtain ⟨c, e1, h1, h2, h3, h4, _, _, _, h7, _⟩ := h
  refine ⟨c, e1, h3, by rw [h4]; have := ktot_le fl fl.length; omega, fun b q1 q2 => ?_⟩
  have hb := e1.lt0 (a := b) (by omega)
  obtain ⟨x, hi⟩ := get_lt (show b - Hn g0 < fl.length by omega)
  have z := h7 (b - Hn g0) _ (by omega) hi
  rw [Nat.add_sub_cancel' (by omega)] at z
  rw [z.2.2.1]
  exact hfl x (List.mem_of_getElem? hi)
def flTa : List (Nat × Nat × Nat) := [(896, 20, 200), (898, 20, 200), (900, 20, 81), (901, 20, 40)]
def Sp_Ta_init (Γ : GAM) (th : Nat) (g : GH) (K : GH → Prop) : Prop := NEW Γ 8 flTa th g ∧ ∀ g', MADE flTa th g g' → TT th g' [] → K g'
-- the walk of Ta_init
set_option maxRecDepth 100000 in
def B_Ta_init_0 (Γ : GAM) (K : GH → Prop) (th : Nat) (g : GH) : Prop :=
  th < Hn g ∧ free g 896 th ∧ Hn g + 1 ≤ gB Γ + NCC ∧ Hu g + 200 ≤ NSS ∧ ∀ (a1 : Nat) (g2 : GH), a1 = Hn g → g2 = nA g 20 896 th (200) → Kd g2 th = 8 ∧ ∀ g3 : GH, g3 = sR g2 896 th (some a1) → th < Hn g3 ∧ free g3 898 th ∧ Hn g3 + 1 ≤ gB Γ + NCC ∧ Hu g3 + 200 ≤ NSS ∧ ∀ (a4 : Nat) (g5 : GH), a4 = Hn g3 → g5 = nA g3 20 898 th (200) → Kd g5 th = 8 ∧ ∀ g6 : GH, g6 = sR g5 898 th (some a4) → th < Hn g6 ∧ free g6 900 th ∧ Hn g6 + 1 ≤ gB Γ + NCC ∧ Hu g6 + 81 ≤ NSS ∧ ∀ (a7 : Nat) (g8 : GH), a7 = Hn g6 → g8 = nA g6 20 900 th (81) → Kd g8 th = 8 ∧ ∀ g9 : GH, g9 = sR g8 900 th (some a7) → th < Hn g9 ∧ free g9 901 th ∧ Hn g9 + 1 ≤ gB Γ + NCC ∧ Hu g9 + 40 ≤ NSS ∧ ∀ (a10 : Nat) (g11 : GH), a10 = Hn g9 → g11 = nA g9 20 901 th (40) → Kd g11 th = 8 ∧ ∀ g12 : GH, g12 = sR g11 901 th (some a10) → K g12
set_option maxHeartbeats 4000000 in
set_option maxRecDepth 100000 in
theorem S_Ta_init_0 {Γ : GAM} {E : EV} {K : GH → Prop} (hE : GE Γ E cX6_init 1 RX6 none 1 20 (fun r g' => r = none ∧ K g')) (hnm : E.2.2.2.2.2.2.2.2.1.name = "<init>") (th : Nat) (g : GH) (h : B_Ta_init_0 Γ K th g) : JW Γ E 0 [some (.ref th)] [] g := by
  unfold B_Ta_init_0 at h
  refine j_aload_n hE (by decide +kernel : decode cX6_init 0 = .ok (.aload_n 0, 1)) rfl rfl ?_
  refine j_objInit hE rfl ol_X6 oi_in oi_code (Nat.le_of_ble_eq_true rfl) (by omega) (by omega) (by decide +kernel : decode cX6_init 1 = .ok (.invokespecial 3, 3)) ?_
  refine j_aload_n hE (by decide +kernel : decode cX6_init 4 = .ok (.aload_n 0, 1)) rfl rfl ?_
  refine j_sipush hE (by decide +kernel : decode cX6_init 5 = .ok (.sipush 200, 3)) (v := (200 : Int32)) (by decide) ?_
  obtain ⟨ho1, hf1, hn1, hn2, h⟩ := h
  obtain ⟨a1, ha⟩ : ∃ z, z = Hn g := ⟨_, rfl⟩; obtain ⟨g2, hg⟩ : ∃ z, z = nA g 20 896 th (200) := ⟨_, rfl⟩; replace h := h a1 g2 ha hg
  refine j_newarray (k := 20) (co := 896) (ow := th) (n := (200)) (atype := .int) hE ac_int (Or.inl ⟨rfl, rfl⟩) (by decide) (by decide) (by decide) ho1 hf1 (by decide +kernel : decode cX6_init 8 = .ok (.newarray .int, 2)) hn1 hn2 ?_
  rw [← hg, ← ha]
  obtain ⟨hk, h⟩ := h
  obtain ⟨g3, hg⟩ : ∃ z, z = sR g2 896 th (some a1) := ⟨_, rfl⟩; replace h := h g3 hg
  refine j_putR (v := (some a1)) hE fa_X6_9 hk (fun _ => hnm) (by decide +kernel : decode cX6_init 10 = .ok (.putfield 9, 3)) ?_
  rw [← hg]
  refine j_aload_n hE (by decide +kernel : decode cX6_init 13 = .ok (.aload_n 0, 1)) rfl rfl ?_
  refine j_sipush hE (by decide +kernel : decode cX6_init 14 = .ok (.sipush 200, 3)) (v := (200 : Int32)) (by decide) ?_
  obtain ⟨ho1, hf1, hn1, hn2, h⟩ := h
  obtain ⟨a4, ha⟩ : ∃ z, z = Hn g3 := ⟨_, rfl⟩; obtain ⟨g5, hg⟩ : ∃ z, z = nA g3 20 898 th (200) := ⟨_, rfl⟩; replace h := h a4 g5 ha hg
  refine j_newarray (k := 20) (co := 898) (ow := th) (n := (200)) (atype := .int) hE ac_int (Or.inl ⟨rfl, rfl⟩) (by decide) (by decide) (by decide) ho1 hf1 (by decide +kernel : decode cX6_init 17 = .ok (.newarray .int, 2)) hn1 hn2 ?_
  rw [← hg, ← ha]
  obtain ⟨hk, h⟩ := h
  obtain ⟨g6, hg⟩ : ∃ z, z = sR g5 898 th (some a4) := ⟨_, rfl⟩; replace h := h g6 hg
  refine j_putR (v := (some a4)) hE fa_X6_15 hk (fun _ => hnm) (by decide +kernel : decode cX6_init 19 = .ok (.putfield 15, 3)) ?_
  rw [← hg]
  refine j_aload_n hE (by decide +kernel : decode cX6_init 22 = .ok (.aload_n 0, 1)) rfl rfl ?_
  refine j_bipush hE (by decide +kernel : decode cX6_init 23 = .ok (.bipush 81, 2)) (v := (81 : Int32)) (by decide) ?_
  obtain ⟨ho1, hf1, hn1, hn2, h⟩ := h
  obtain ⟨a7, ha⟩ : ∃ z, z = Hn g6 := ⟨_, rfl⟩; obtain ⟨g8, hg⟩ : ∃ z, z = nA g6 20 900 th (81) := ⟨_, rfl⟩; replace h := h a7 g8 ha hg
  refine j_newarray (k := 20) (co := 900) (ow := th) (n := (81)) (atype := .int) hE ac_int (Or.inl ⟨rfl, rfl⟩) (by decide) (by decide) (by decide) ho1 hf1 (by decide +kernel : decode cX6_init 25 = .ok (.newarray .int, 2)) hn1 hn2 ?_
  rw [← hg, ← ha]
  obtain ⟨hk, h⟩ := h
  obtain ⟨g9, hg⟩ : ∃ z, z = sR g8 900 th (some a7) := ⟨_, rfl⟩; replace h := h g9 hg
  refine j_putR (v := (some a7)) hE fa_X6_18 hk (fun _ => hnm) (by decide +kernel : decode cX6_init 27 = .ok (.putfield 18, 3)) ?_
  rw [← hg]
  refine j_aload_n hE (by decide +kernel : decode cX6_init 30 = .ok (.aload_n 0, 1)) rfl rfl ?_
  refine j_bipush hE (by decide +kernel : decode cX6_init 31 = .ok (.bipush 40, 2)) (v := (40 : Int32)) (by decide) ?_
  obtain ⟨ho1, hf1, hn1, hn2, h⟩ := h
  obtain ⟨a10, ha⟩ : ∃ z, z = Hn g9 := ⟨_, rfl⟩; obtain ⟨g11, hg⟩ : ∃ z, z = nA g9 20 901 th (40) := ⟨_, rfl⟩; replace h := h a10 g11 ha hg
  refine j_newarray (k := 20) (co := 901) (ow := th) (n := (40)) (atype := .int) hE ac_int (Or.inl ⟨rfl, rfl⟩) (by decide) (by decide) (by decide) ho1 hf1 (by decide +kernel : decode cX6_init 33 = .ok (.newarray .int, 2)) hn1 hn2 ?_
  rw [← hg, ← ha]
  obtain ⟨hk, h⟩ := h
  obtain ⟨g12, hg⟩ : ∃ z, z = sR g11 901 th (some a10) := ⟨_, rfl⟩; replace h := h g12 hg
  refine j_putR (v := (some a10)) hE fa_X6_21 hk (fun _ => hnm) (by decide +kernel : decode cX6_init 35 = .ok (.putfield 21, 3)) ?_
  rw [← hg]
  exact j_vret hE (by decide +kernel : decode cX6_init 38 = .ok (.return_, 1)) ⟨rfl, h⟩
set_option maxHeartbeats 4000000 in
set_option maxRecDepth 100000 in
theorem rl_Ta_init {Γ : GAM} {l : Launch} {th : Nat} {g : GH} {K : GH → Prop} (h0 : B_Ta_init_0 Γ K th g) : MetA Γ l yX6_init cX6_init 1 none 1 20 [.ref th] g (fun r g' => r = none ∧ K g') := by
  refine MetA.introL (Lx := [some (.ref th)]) (by decide) (Nat.le_of_ble_eq_true rfl) rfl rfl ?_
  intro E hEl hE hnm
  exact S_Ta_init_0 hE hnm th g h0
theorem mt_Ta_init {Γ : GAM} {l : Launch} (th : Nat) (g : GH) (K : GH → Prop) (h : Sp_Ta_init Γ th g K) : MetA Γ l yX6_init cX6_init 1 none 1 20 [.ref th] g (fun r g' => r = none ∧ K g') := by
  obtain ⟨⟨h1, h2, h3, h4, h5, h5', h6⟩, hK⟩ := h
  have S := StK.ini (W := fun _ _ => 0) h1 h2 h3 h4 h5 h5' h6 ⟨by decide, by decide +kernel⟩
  refine rl_Ta_init ?_
  unfold B_Ta_init_0
  refine S.step (n := 0) rfl ?_
  clear S; intro _ S
  refine S.step (n := 1) rfl ?_
  clear S; intro _ S
  refine S.step (n := 2) rfl ?_
  clear S; intro _ S
  refine S.step (n := 3) rfl ?_
  clear S; intro _ S
  refine hK _ (StK.made S (by decide)) ?_
  have hkd := S.kd
  obtain ⟨_, _, _, _, _, _, _, _, hV, hA, _⟩ := S
  obtain ⟨p1, p2, p3, p4, p5, _⟩ := hA 0 _ (by decide) rfl
  obtain ⟨q1, q2, q3, q4, q5, _⟩ := hA 1 _ (by decide) rfl
  obtain ⟨r1, r2, r3, r4, r5, _⟩ := hA 2 _ (by decide) rfl
  obtain ⟨t1, t2, t3, t4, t5, _⟩ := hA 3 _ (by decide) rfl
  exact ⟨⟨hkd, _, _, _, _, ⟨p1, p2, p3, p4, p5⟩, ⟨q1, q2, q3, q4, q5⟩, ⟨r1, r2, r3, r4, r5⟩, ⟨t1, t2, t3, t4, t5⟩⟩, hV _, Nat.zero_le _, fun k x hx => by simp at hx, fun x hx => by simp at hx⟩
def flPr : List (Nat × Nat × Nat) := [(768, 20, 12), (769, 20, 12), (770, 20, 12), (771, 20, 12), (772, 20, 12)]
def Sp_Pr_init (Γ : GAM) (th : Nat) (g : GH) (K : GH → Prop) : Prop := NEW Γ 7 flPr th g ∧ ∀ g', MADE flPr th g g' → (∀ s, s_wav s = [] → s_prs s = 100 → PrI th g' s) → K g'
-- the walk of Pr_init
set_option maxRecDepth 100000 in
def B_Pr_init_0 (Γ : GAM) (K : GH → Prop) (th : Nat) (g : GH) : Prop :=
  th < Hn g ∧ free g 768 th ∧ Hn g + 1 ≤ gB Γ + NCC ∧ Hu g + 12 ≤ NSS ∧ ∀ (a1 : Nat) (g2 : GH), a1 = Hn g → g2 = nA g 20 768 th (12) → Kd g2 th = 7 ∧ ∀ g3 : GH, g3 = sR g2 768 th (some a1) → th < Hn g3 ∧ free g3 769 th ∧ Hn g3 + 1 ≤ gB Γ + NCC ∧ Hu g3 + 12 ≤ NSS ∧ ∀ (a4 : Nat) (g5 : GH), a4 = Hn g3 → g5 = nA g3 20 769 th (12) → Kd g5 th = 7 ∧ ∀ g6 : GH, g6 = sR g5 769 th (some a4) → th < Hn g6 ∧ free g6 770 th ∧ Hn g6 + 1 ≤ gB Γ + NCC ∧ Hu g6 + 12 ≤ NSS ∧ ∀ (a7 : Nat) (g8 : GH), a7 = Hn g6 → g8 = nA g6 20 770 th (12) → Kd g8 th = 7 ∧ ∀ g9 : GH, g9 = sR g8 770 th (some a7) → th < Hn g9 ∧ free g9 771 th ∧ Hn g9 + 1 ≤ gB Γ + NCC ∧ Hu g9 + 12 ≤ NSS ∧ ∀ (a10 : Nat) (g11 : GH), a10 = Hn g9 → g11 = nA g9 20 771 th (12) → Kd g11 th = 7 ∧ ∀ g12 : GH, g12 = sR g11 771 th (some a10) → th < Hn g12 ∧ free g12 772 th ∧ Hn g12 + 1 ≤ gB Γ + NCC ∧ Hu g12 + 12 ≤ NSS ∧ ∀ (a13 : Nat) (g14 : GH), a13 = Hn g12 → g14 = nA g12 20 772 th (12) → Kd g14 th = 7 ∧ ∀ g15 : GH, g15 = sR g14 772 th (some a13) → Kd g15 th = 7 ∧ ∀ g16 : GH, g16 = sI g15 774 th (100 : Int32) → K g16
set_option maxHeartbeats 4000000 in
set_option maxRecDepth 100000 in
theorem S_Pr_init_0 {Γ : GAM} {E : EV} {K : GH → Prop} (hE : GE Γ E cX5_init 1 RX5 none 1 20 (fun r g' => r = none ∧ K g')) (hnm : E.2.2.2.2.2.2.2.2.1.name = "<init>") (th : Nat) (g : GH) (h : B_Pr_init_0 Γ K th g) : JW Γ E 0 [some (.ref th)] [] g := by
  unfold B_Pr_init_0 at h
  refine j_aload_n hE (by decide +kernel : decode cX5_init 0 = .ok (.aload_n 0, 1)) rfl rfl ?_
  refine j_objInit hE rfl ol_X5 oi_in oi_code (Nat.le_of_ble_eq_true rfl) (by omega) (by omega) (by decide +kernel : decode cX5_init 1 = .ok (.invokespecial 3, 3)) ?_
  refine j_aload_n hE (by decide +kernel : decode cX5_init 4 = .ok (.aload_n 0, 1)) rfl rfl ?_
  refine j_bipush hE (by decide +kernel : decode cX5_init 5 = .ok (.bipush 12, 2)) (v := (12 : Int32)) (by decide) ?_
  obtain ⟨ho1, hf1, hn1, hn2, h⟩ := h
  obtain ⟨a1, ha⟩ : ∃ z, z = Hn g := ⟨_, rfl⟩; obtain ⟨g2, hg⟩ : ∃ z, z = nA g 20 768 th (12) := ⟨_, rfl⟩; replace h := h a1 g2 ha hg
  refine j_newarray (k := 20) (co := 768) (ow := th) (n := (12)) (atype := .int) hE ac_int (Or.inl ⟨rfl, rfl⟩) (by decide) (by decide) (by decide) ho1 hf1 (by decide +kernel : decode cX5_init 7 = .ok (.newarray .int, 2)) hn1 hn2 ?_
  rw [← hg, ← ha]
  obtain ⟨hk, h⟩ := h
  obtain ⟨g3, hg⟩ : ∃ z, z = sR g2 768 th (some a1) := ⟨_, rfl⟩; replace h := h g3 hg
  refine j_putR (v := (some a1)) hE fa_X5_9 hk (fun _ => hnm) (by decide +kernel : decode cX5_init 9 = .ok (.putfield 9, 3)) ?_
  rw [← hg]
  refine j_aload_n hE (by decide +kernel : decode cX5_init 12 = .ok (.aload_n 0, 1)) rfl rfl ?_
  refine j_bipush hE (by decide +kernel : decode cX5_init 13 = .ok (.bipush 12, 2)) (v := (12 : Int32)) (by decide) ?_
  obtain ⟨ho1, hf1, hn1, hn2, h⟩ := h
  obtain ⟨a4, ha⟩ : ∃ z, z = Hn g3 := ⟨_, rfl⟩; obtain ⟨g5, hg⟩ : ∃ z, z = nA g3 20 769 th (12) := ⟨_, rfl⟩; replace h := h a4 g5 ha hg
  refine j_newarray (k := 20) (co := 769) (ow := th) (n := (12)) (atype := .int) hE ac_int (Or.inl ⟨rfl, rfl⟩) (by decide) (by decide) (by decide) ho1 hf1 (by decide +kernel : decode cX5_init 15 = .ok (.newarray .int, 2)) hn1 hn2 ?_
  rw [← hg, ← ha]
  obtain ⟨hk, h⟩ := h
  obtain ⟨g6, hg⟩ : ∃ z, z = sR g5 769 th (some a4) := ⟨_, rfl⟩; replace h := h g6 hg
  refine j_putR (v := (some a4)) hE fa_X5_15 hk (fun _ => hnm) (by decide +kernel : decode cX5_init 17 = .ok (.putfield 15, 3)) ?_
  rw [← hg]
  refine j_aload_n hE (by decide +kernel : decode cX5_init 20 = .ok (.aload_n 0, 1)) rfl rfl ?_
  refine j_bipush hE (by decide +kernel : decode cX5_init 21 = .ok (.bipush 12, 2)) (v := (12 : Int32)) (by decide) ?_
  obtain ⟨ho1, hf1, hn1, hn2, h⟩ := h
  obtain ⟨a7, ha⟩ : ∃ z, z = Hn g6 := ⟨_, rfl⟩; obtain ⟨g8, hg⟩ : ∃ z, z = nA g6 20 770 th (12) := ⟨_, rfl⟩; replace h := h a7 g8 ha hg
  refine j_newarray (k := 20) (co := 770) (ow := th) (n := (12)) (atype := .int) hE ac_int (Or.inl ⟨rfl, rfl⟩) (by decide) (by decide) (by decide) ho1 hf1 (by decide +kernel : decode cX5_init 23 = .ok (.newarray .int, 2)) hn1 hn2 ?_
  rw [← hg, ← ha]
  obtain ⟨hk, h⟩ := h
  obtain ⟨g9, hg⟩ : ∃ z, z = sR g8 770 th (some a7) := ⟨_, rfl⟩; replace h := h g9 hg
  refine j_putR (v := (some a7)) hE fa_X5_18 hk (fun _ => hnm) (by decide +kernel : decode cX5_init 25 = .ok (.putfield 18, 3)) ?_
  rw [← hg]
  refine j_aload_n hE (by decide +kernel : decode cX5_init 28 = .ok (.aload_n 0, 1)) rfl rfl ?_
  refine j_bipush hE (by decide +kernel : decode cX5_init 29 = .ok (.bipush 12, 2)) (v := (12 : Int32)) (by decide) ?_
  obtain ⟨ho1, hf1, hn1, hn2, h⟩ := h
  obtain ⟨a10, ha⟩ : ∃ z, z = Hn g9 := ⟨_, rfl⟩; obtain ⟨g11, hg⟩ : ∃ z, z = nA g9 20 771 th (12) := ⟨_, rfl⟩; replace h := h a10 g11 ha hg
  refine j_newarray (k := 20) (co := 771) (ow := th) (n := (12)) (atype := .int) hE ac_int (Or.inl ⟨rfl, rfl⟩) (by decide) (by decide) (by decide) ho1 hf1 (by decide +kernel : decode cX5_init 31 = .ok (.newarray .int, 2)) hn1 hn2 ?_
  rw [← hg, ← ha]
  obtain ⟨hk, h⟩ := h
  obtain ⟨g12, hg⟩ : ∃ z, z = sR g11 771 th (some a10) := ⟨_, rfl⟩; replace h := h g12 hg
  refine j_putR (v := (some a10)) hE fa_X5_21 hk (fun _ => hnm) (by decide +kernel : decode cX5_init 33 = .ok (.putfield 21, 3)) ?_
  rw [← hg]
  refine j_aload_n hE (by decide +kernel : decode cX5_init 36 = .ok (.aload_n 0, 1)) rfl rfl ?_
  refine j_bipush hE (by decide +kernel : decode cX5_init 37 = .ok (.bipush 12, 2)) (v := (12 : Int32)) (by decide) ?_
  obtain ⟨ho1, hf1, hn1, hn2, h⟩ := h
  obtain ⟨a13, ha⟩ : ∃ z, z = Hn g12 := ⟨_, rfl⟩; obtain ⟨g14, hg⟩ : ∃ z, z = nA g12 20 772 th (12) := ⟨_, rfl⟩; replace h := h a13 g14 ha hg
  refine j_newarray (k := 20) (co := 772) (ow := th) (n := (12)) (atype := .int) hE ac_int (Or.inl ⟨rfl, rfl⟩) (by decide) (by decide) (by decide) ho1 hf1 (by decide +kernel : decode cX5_init 39 = .ok (.newarray .int, 2)) hn1 hn2 ?_
  rw [← hg, ← ha]
  obtain ⟨hk, h⟩ := h
  obtain ⟨g15, hg⟩ : ∃ z, z = sR g14 772 th (some a13) := ⟨_, rfl⟩; replace h := h g15 hg
  refine j_putR (v := (some a13)) hE fa_X5_24 hk (fun _ => hnm) (by decide +kernel : decode cX5_init 41 = .ok (.putfield 24, 3)) ?_
  rw [← hg]
  refine j_aload_n hE (by decide +kernel : decode cX5_init 44 = .ok (.aload_n 0, 1)) rfl rfl ?_
  refine j_bipush hE (by decide +kernel : decode cX5_init 45 = .ok (.bipush 100, 2)) (v := (100 : Int32)) (by decide) ?_
  obtain ⟨hk, h⟩ := h
  obtain ⟨g16, hg⟩ : ∃ z, z = sI g15 774 th (100 : Int32) := ⟨_, rfl⟩; replace h := h g16 hg
  refine j_putI hE fa_X5_27 hk (fun q => by cases q) (by decide +kernel : decode cX5_init 47 = .ok (.putfield 27, 3)) ?_
  rw [← hg]
  exact j_vret hE (by decide +kernel : decode cX5_init 50 = .ok (.return_, 1)) ⟨rfl, h⟩
set_option maxHeartbeats 4000000 in
set_option maxRecDepth 100000 in
theorem rl_Pr_init {Γ : GAM} {l : Launch} {th : Nat} {g : GH} {K : GH → Prop} (h0 : B_Pr_init_0 Γ K th g) : MetA Γ l yX5_init cX5_init 1 none 1 20 [.ref th] g (fun r g' => r = none ∧ K g') := by
  refine MetA.introL (Lx := [some (.ref th)]) (by decide) (Nat.le_of_ble_eq_true rfl) rfl rfl ?_
  intro E hEl hE hnm
  exact S_Pr_init_0 hE hnm th g h0
theorem mt_Pr_init {Γ : GAM} {l : Launch} (th : Nat) (g : GH) (K : GH → Prop) (h : Sp_Pr_init Γ th g K) : MetA Γ l yX5_init cX5_init 1 none 1 20 [.ref th] g (fun r g' => r = none ∧ K g') := by
  obtain ⟨⟨h1, h2, h3, h4, h5, h5', h6⟩, hK⟩ := h
  have S := StK.ini (W := fun _ _ => 0) h1 h2 h3 h4 h5 h5' h6 ⟨by decide, by decide +kernel⟩
  refine rl_Pr_init ?_
  unfold B_Pr_init_0
  refine S.step (n := 0) rfl ?_
  clear S; intro _ S
  refine S.step (n := 1) rfl ?_
  clear S; intro _ S
  refine S.step (n := 2) rfl ?_
  clear S; intro _ S
  refine S.step (n := 3) rfl ?_
  clear S; intro _ S
  refine S.step (n := 4) rfl ?_
  clear S; intro _ S
  refine ⟨S.kd, ?_⟩
  rintro _ rfl
  replace S := S.setI (f := 774) (v := 100)
  refine hK _ (StK.made S (by decide)) (fun s hs1 hs2 => ?_)
  have hkd := S.kd
  obtain ⟨_, _, _, _, _, _, _, _, hV, hA, _⟩ := S
  obtain ⟨p1, p2, p3, p4, p5, _⟩ := hA 0 _ (by decide) rfl
  obtain ⟨q1, q2, q3, q4, q5, _⟩ := hA 1 _ (by decide) rfl
  obtain ⟨r1, r2, r3, r4, r5, _⟩ := hA 2 _ (by decide) rfl
  obtain ⟨t1, t2, t3, t4, t5, _⟩ := hA 3 _ (by decide) rfl
  obtain ⟨u1, u2, u3, u4, u5, _⟩ := hA 4 _ (by decide) rfl
  refine ⟨⟨hkd, _, _, _, _, _, ⟨p1, p2, p3, p4, p5⟩, ⟨q1, q2, q3, q4, q5⟩, ⟨r1, r2, r3, r4, r5⟩, ⟨t1, t2, t3, t4, t5⟩, ⟨u1, u2, u3, u4, u5⟩⟩, ?_, ?_, fun k x hx => ?_⟩
  · rw [hs1]; exact hV _
  · rw [hs2]; exact hV _
  · rw [hs1] at hx; simp at hx
def Sp_Pr_order (Γ : GAM) (m : Nat) (a b c : Int32) (g : GH) (K : Int32 → GH → Prop) : Prop := ∃ s, PrI m g s ∧ (s_wav s).length ≤ 12 ∧ ((s_wav s).length = 12 → K (-1) g) ∧ ((s_wav s).length < 12 → ∀ g', FrX m [773] [768, 769, 770] g g' → PrI m g' (u_wav s (s_wav s ++ [(a, b, c)])) → K (nI (s_wav s).length) g')
-- the walk of Pr_order
set_option maxRecDepth 100000 in
def B_Pr_order_0 (Γ : GAM) (K : Int32 → GH → Prop) (th : Nat) (p0 : Int32) (p1 : Int32) (p2 : Int32) (g : GH) : Prop :=
  Kd g th = 7 ∧ (((Gi g 773 th) < (12 : Int32) → Kd g th = 7 ∧ ∃ a1 : Nat, Gr g 768 th = some a1 ∧ Kd g th = 7 ∧ Kd g a1 = 20 ∧ inB (Gi g 773 th) (Ln g a1) ∧ ∀ g2 : GH, g2 = sA g (Co g a1) (Ow g a1) (Gi g 773 th).toNatClampNeg p0 → Kd g2 th = 7 ∧ ∃ a3 : Nat, Gr g2 769 th = some a3 ∧ Kd g2 th = 7 ∧ Kd g2 a3 = 20 ∧ inB (Gi g2 773 th) (Ln g2 a3) ∧ ∀ g4 : GH, g4 = sA g2 (Co g2 a3) (Ow g2 a3) (Gi g2 773 th).toNatClampNeg p1 → Kd g4 th = 7 ∧ ∃ a5 : Nat, Gr g4 770 th = some a5 ∧ Kd g4 th = 7 ∧ Kd g4 a5 = 20 ∧ inB (Gi g4 773 th) (Ln g4 a5) ∧ ∀ g6 : GH, g6 = sA g4 (Co g4 a5) (Ow g4 a5) (Gi g4 773 th).toNatClampNeg p2 → Kd g6 th = 7 ∧ Kd g6 th = 7 ∧ ∀ g7 : GH, g7 = sI g6 773 th ((Gi g6 773 th) + (1 : Int32)) → Kd g7 th = 7 ∧ K ((Gi g7 773 th) - (1 : Int32)) g7) ∧ (¬ ((Gi g 773 th) < (12 : Int32)) → K (-1 : Int32) g))
set_option maxHeartbeats 4000000 in
set_option maxRecDepth 100000 in
theorem S_Pr_order_0 {Γ : GAM} {E : EV} {K : Int32 → GH → Prop} (hE : GE Γ E cX5_order 4 RX5 (some (.int)) 0 0 (fun r g' => ∃ x, r = some (.int x) ∧ K x g')) (th : Nat) (p0 : Int32) (p1 : Int32) (p2 : Int32) (g : GH) (h : B_Pr_order_0 Γ K th p0 p1 p2 g) : JW Γ E 0 [some (.ref th), some (.int p0), some (.int p1), some (.int p2)] [] g := by
  unfold B_Pr_order_0 at h
  refine j_aload_n hE (by decide +kernel : decode cX5_order 0 = .ok (.aload_n 0, 1)) rfl rfl ?_
  obtain ⟨hk, h⟩ := h
  refine j_getI hE fg_X5_31 hk (by decide +kernel : decode cX5_order 1 = .ok (.getfield 31, 3)) ?_
  refine j_bipush hE (by decide +kernel : decode cX5_order 4 = .ok (.bipush 12, 2)) (v := (12 : Int32)) (by decide) ?_
  refine j_icmp_lt hE (by decide +kernel : decode cX5_order 6 = .ok (.if_icmp .lt 5, 3)) (tgt := 11) (by decide) (fun q => ?_) (fun q => ?_)
  · replace h := h.1 q
    refine j_aload_n hE (by decide +kernel : decode cX5_order 11 = .ok (.aload_n 0, 1)) rfl rfl ?_
    obtain ⟨hk, h⟩ := h
    obtain ⟨a1, ha, h⟩ := h
    refine j_getRn hE fg_X5_9 hk ha (by decide +kernel : decode cX5_order 12 = .ok (.getfield 9, 3)) ?_
    refine j_aload_n hE (by decide +kernel : decode cX5_order 15 = .ok (.aload_n 0, 1)) rfl rfl ?_
    obtain ⟨hk, h⟩ := h
    refine j_getI hE fg_X5_31 hk (by decide +kernel : decode cX5_order 16 = .ok (.getfield 31, 3)) ?_
    refine j_iload_n hE (by decide +kernel : decode cX5_order 19 = .ok (.iload_n 1, 1)) rfl rfl ?_
    obtain ⟨hk, hb, h⟩ := h
    obtain ⟨g2, hg⟩ : ∃ z, z = sA g (Co g a1) (Ow g a1) (Gi g 773 th).toNatClampNeg p0 := ⟨_, rfl⟩; replace h := h g2 hg
    refine j_iast hE hk hb (by decide +kernel : decode cX5_order 20 = .ok (.iastore, 1)) ?_
    rw [← hg]
    refine j_aload_n hE (by decide +kernel : decode cX5_order 21 = .ok (.aload_n 0, 1)) rfl rfl ?_
    obtain ⟨hk, h⟩ := h
    obtain ⟨a3, ha, h⟩ := h
    refine j_getRn hE fg_X5_15 hk ha (by decide +kernel : decode cX5_order 22 = .ok (.getfield 15, 3)) ?_
    refine j_aload_n hE (by decide +kernel : decode cX5_order 25 = .ok (.aload_n 0, 1)) rfl rfl ?_
    obtain ⟨hk, h⟩ := h
    refine j_getI hE fg_X5_31 hk (by decide +kernel : decode cX5_order 26 = .ok (.getfield 31, 3)) ?_
    refine j_iload_n hE (by decide +kernel : decode cX5_order 29 = .ok (.iload_n 2, 1)) rfl rfl ?_
    obtain ⟨hk, hb, h⟩ := h
    obtain ⟨g4, hg⟩ : ∃ z, z = sA g2 (Co g2 a3) (Ow g2 a3) (Gi g2 773 th).toNatClampNeg p1 := ⟨_, rfl⟩; replace h := h g4 hg
    refine j_iast hE hk hb (by decide +kernel : decode cX5_order 30 = .ok (.iastore, 1)) ?_
    rw [← hg]
    refine j_aload_n hE (by decide +kernel : decode cX5_order 31 = .ok (.aload_n 0, 1)) rfl rfl ?_
    obtain ⟨hk, h⟩ := h
    obtain ⟨a5, ha, h⟩ := h
    refine j_getRn hE fg_X5_18 hk ha (by decide +kernel : decode cX5_order 32 = .ok (.getfield 18, 3)) ?_
    refine j_aload_n hE (by decide +kernel : decode cX5_order 35 = .ok (.aload_n 0, 1)) rfl rfl ?_
    obtain ⟨hk, h⟩ := h
    refine j_getI hE fg_X5_31 hk (by decide +kernel : decode cX5_order 36 = .ok (.getfield 31, 3)) ?_
    refine j_iload_n hE (by decide +kernel : decode cX5_order 39 = .ok (.iload_n 3, 1)) rfl rfl ?_
    obtain ⟨hk, hb, h⟩ := h
    obtain ⟨g6, hg⟩ : ∃ z, z = sA g4 (Co g4 a5) (Ow g4 a5) (Gi g4 773 th).toNatClampNeg p2 := ⟨_, rfl⟩; replace h := h g6 hg
    refine j_iast hE hk hb (by decide +kernel : decode cX5_order 40 = .ok (.iastore, 1)) ?_
    rw [← hg]
    refine j_aload_n hE (by decide +kernel : decode cX5_order 41 = .ok (.aload_n 0, 1)) rfl rfl ?_
    refine j_dup hE (by decide +kernel : decode cX5_order 42 = .ok (.dup, 1)) rfl ?_
    obtain ⟨hk, h⟩ := h
    refine j_getI hE fg_X5_31 hk (by decide +kernel : decode cX5_order 43 = .ok (.getfield 31, 3)) ?_
    refine j_iconst hE (by decide +kernel : decode cX5_order 46 = .ok (.iconst 1, 1)) (v := (1 : Int32)) (by decide) ?_
    refine j_iadd hE (by decide +kernel : decode cX5_order 47 = .ok (.iadd, 1)) ?_
    obtain ⟨hk, h⟩ := h
    obtain ⟨g7, hg⟩ : ∃ z, z = sI g6 773 th ((Gi g6 773 th) + (1 : Int32)) := ⟨_, rfl⟩; replace h := h g7 hg
    refine j_putI hE fa_X5_31 hk (fun q => by cases q) (by decide +kernel : decode cX5_order 48 = .ok (.putfield 31, 3)) ?_
    rw [← hg]
    refine j_aload_n hE (by decide +kernel : decode cX5_order 51 = .ok (.aload_n 0, 1)) rfl rfl ?_
    obtain ⟨hk, h⟩ := h
    refine j_getI hE fg_X5_31 hk (by decide +kernel : decode cX5_order 52 = .ok (.getfield 31, 3)) ?_
    refine j_iconst hE (by decide +kernel : decode cX5_order 55 = .ok (.iconst 1, 1)) (v := (1 : Int32)) (by decide) ?_
    refine j_isub hE (by decide +kernel : decode cX5_order 56 = .ok (.isub, 1)) ?_
    exact j_iret hE (by decide +kernel : decode cX5_order 57 = .ok (.ireturn, 1)) ⟨_, rfl, h⟩
  · replace h := h.2 q
    refine j_iconst hE (by decide +kernel : decode cX5_order 9 = .ok (.iconst (-1), 1)) (v := (-1 : Int32)) (by decide) ?_
    exact j_iret hE (by decide +kernel : decode cX5_order 10 = .ok (.ireturn, 1)) ⟨_, rfl, h⟩
set_option maxHeartbeats 4000000 in
set_option maxRecDepth 100000 in
theorem rl_Pr_order {Γ : GAM} {l : Launch} {th : Nat} {p0 : Int32} {p1 : Int32} {p2 : Int32} {g : GH} {K : Int32 → GH → Prop} (h0 : B_Pr_order_0 Γ K th p0 p1 p2 g) : MetA Γ l yX5_order cX5_order 4 (some (.int)) 0 0 [.ref th, .int p0, .int p1, .int p2] g (fun r g' => ∃ x, r = some (.int x) ∧ K x g') := by
  refine MetA.introL (Lx := [some (.ref th), some (.int p0), some (.int p1), some (.int p2)]) (by decide) (Nat.le_of_ble_eq_true rfl) rfl rfl ?_
  intro E hEl hE hnm
  exact S_Pr_order_0 hE th p0 p1 p2 g h0
theorem mt_Pr_order {Γ : GAM} {l : Launch} (th : Nat) (p0 : Int32) (p1 : Int32) (p2 : Int32) (g : GH) (K : Int32 → GH → Prop) (h : Sp_Pr_order Γ th p0 p1 p2 g K) : MetA Γ l yX5_order cX5_order 4 (some (.int)) 0 0 [.ref th, .int p0, .int p1, .int p2] g (fun r g' => ∃ x, r = some (.int x) ∧ K x g') := by
  obtain ⟨s, hI, hlen, hK1, hK2⟩ := h
  obtain ⟨⟨hkd, a1, a2, a3, a4, a5, ⟨b1, b2, b3, b4, b5⟩, ⟨c1, c2, c3, c4, c5⟩, ⟨d1, d2, d3, d4, d5⟩, e1, e2⟩, f1, f2, f3⟩ := id hI
  refine rl_Pr_order ?_
  unfold B_Pr_order_0
  rw [f1, show ((12 : Int32) = nI 12) from rfl, nj_lt (by omega) (by omega)]
  refine ⟨hkd, fun u => ?_, fun u => hK1 (by omega)⟩
  have hb := inB_nI u (by omega)
  refine ⟨hkd, a1, b1, hkd, b2, by rw [b5]; exact hb, ?_⟩
  rw [b3, b4, nj_cl (by omega)]
  rintro _ rfl
  refine ⟨hkd, a2, c1, hkd, c2, by rw [Gi_sA, f1]; show inB _ (Ln g a2); rw [c5]; exact hb, ?_⟩
  rw [Gi_sA, f1, Co_sA, Ow_sA, c3, c4, nj_cl (by omega)]
  rintro _ rfl
  refine ⟨hkd, a3, d1, hkd, d2, by rw [Gi_sA, Gi_sA, f1]; show inB _ (Ln g a3); rw [d5]; exact hb, ?_⟩
  rw [Gi_sA, Gi_sA, f1, Co_sA, Co_sA, Ow_sA, Ow_sA, d3, d4, nj_cl (by omega)]
  rintro _ rfl
  refine ⟨hkd, hkd, ?_⟩
  rintro _ rfl
  refine ⟨hkd, ?_⟩
  rw [Gi_sA, Gi_sA, Gi_sA, f1, Gi_sI, if_pos ⟨rfl, rfl⟩, Int32.add_sub_cancel, nj_s]
  have hx : FrX th [773] [768, 769, 770] g (sI (sA (sA (sA g 768 th (s_wav s).length p0) 769 th (s_wav s).length p1) 770 th (s_wav s).length p2) 773 th (nI ((s_wav s).length + 1))) := (FrX.sA (by decide)).tr ((FrX.sA (by decide)).tr ((FrX.sA (by decide)).tr (FrX.sI (by decide))))
  refine hK2 u _ hx ⟨hI.1.x hx, ?_, ?_, fun k x hk => ?_⟩
  · rw [Gi_sI, if_pos ⟨rfl, rfl⟩]
    show _ = nI (s_wav s ++ [(p0, p1, p2)]).length
    rw [List.length_append]; rfl
  · exact (hx.2.1 _ (by decide)).trans f2
  · have hk' : (s_wav s ++ [(p0, p1, p2)])[k]? = some x := hk
    rw [List.getElem?_append] at hk'
    simp only [Ia_sI, Ia_sA]
    split at hk'
    · rename_i hlt
      have := f3 k x hk'
      have hne : ¬ k = (s_wav s).length := by omega
      simp [hne, this]
    · have hj := (List.getElem?_eq_some_iff.mp hk').1
      simp at hj
      have e : k = (s_wav s).length := by omega
      subst e
      simp at hk'
      subst hk'
      simp
