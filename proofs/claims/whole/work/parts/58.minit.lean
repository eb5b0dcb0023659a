/-! the reference's constructor -/
def mfl : List (Nat × Nat × Nat) := [(1549, 20, 60), (1550, 20, 60), (1551, 20, 60), (1552, 20, 60), (1553, 20, 60), (1554, 20, 60), (1555, 20, 60), (1556, 20, 200), (1557, 20, 200), (1558, 20, 200), (1559, 20, 200), (1560, 20, 600), (1561, 20, 600), (1562, 20, 600), (1563, 20, 600), (1564, 20, 600), (1565, 20, 200), (1566, 20, 200), (1567, 20, 200), (1568, 20, 200), (1571, 20, 400), (1572, 20, 400), (1573, 20, 400), (1574, 20, 600), (1575, 20, 600), (1576, 20, 600), (1577, 21, 600), (1578, 20, 100), (1579, 20, 100), (1580, 20, 100), (1581, 20, 200), (1582, 20, 15600), (1583, 20, 520), (1584, 20, 30), (1585, 20, 30), (1586, 20, 30), (1587, 20, 30), (1594, 20, 260), (1596, 20, 200), (1597, 20, 200), (1598, 20, 200), (1599, 20, 200), (1600, 20, 200), (1601, 20, 200), (1607, 21, 200), (1608, 20, 200), (1609, 20, 200), (1610, 20, 12), (1611, 20, 12), (1612, 20, 12), (1613, 20, 12), (1614, 20, 12), (1616, 20, 81), (1617, 21, 8), (1618, 20, 8), (1619, 20, 8), (1620, 21, 8), (1621, 20, 8), (1622, 20, 8), (1626, 20, 4), (1627, 20, 200), (1628, 20, 200), (1629, 20, 40), (1630, 20, 40)]
def mtot (n : Nat) : Nat := ((mfl.take n).map (fun x => x.2.2)).sum
theorem mtot_le : ∀ n, n < 65 → mtot n ≤ 30000 := by decide +kernel
theorem mtot_s : ∀ n, n < 64 → mtot (n + 1) = mtot n + (mfl[n]?.getD default).2.2 := by decide +kernel
theorem mfl_inj : ∀ i, i < 64 → ∀ j, j < 64 → (mfl[i]?.getD default).1 = (mfl[j]?.getD default).1 → i = j := by decide +kernel
theorem mfl_20 : ∀ i, i < 64 → 20 ≤ (mfl[i]?.getD default).2.1 ∧ (mfl[i]?.getD default).2.1 ≤ 21 ∧ 1549 ≤ (mfl[i]?.getD default).1 ∧ (mfl[i]?.getD default).1 ≤ 1630 := by decide +kernel
theorem mfl_lt {n : Nat} {x : Nat × Nat × Nat} (h : mfl[n]? = some x) : n < 64 := (List.getElem?_eq_some_iff.mp h).1
theorem mtab_mfl (F kd n : Nat) (h : mtab F = some (kd, n)) : ∃ i, i < 64 ∧ mfl[i]? = some (F, kd, n) := by
  unfold mtab at h
  split at h
  · cases h; exact ⟨0, by omega, rfl⟩
  · cases h; exact ⟨1, by omega, rfl⟩
  · cases h; exact ⟨2, by omega, rfl⟩
  · cases h; exact ⟨3, by omega, rfl⟩
  · cases h; exact ⟨4, by omega, rfl⟩
  · cases h; exact ⟨5, by omega, rfl⟩
  · cases h; exact ⟨6, by omega, rfl⟩
  · cases h; exact ⟨7, by omega, rfl⟩
  · cases h; exact ⟨8, by omega, rfl⟩
  · cases h; exact ⟨9, by omega, rfl⟩
  · cases h; exact ⟨10, by omega, rfl⟩
  · cases h; exact ⟨11, by omega, rfl⟩
  · cases h; exact ⟨12, by omega, rfl⟩
  · cases h; exact ⟨13, by omega, rfl⟩
  · cases h; exact ⟨14, by omega, rfl⟩
  · cases h; exact ⟨15, by omega, rfl⟩
  · cases h; exact ⟨16, by omega, rfl⟩
  · cases h; exact ⟨17, by omega, rfl⟩
  · cases h; exact ⟨18, by omega, rfl⟩
  · cases h; exact ⟨19, by omega, rfl⟩
  · cases h; exact ⟨20, by omega, rfl⟩
  · cases h; exact ⟨21, by omega, rfl⟩
  · cases h; exact ⟨22, by omega, rfl⟩
  · cases h; exact ⟨23, by omega, rfl⟩
  · cases h; exact ⟨24, by omega, rfl⟩
  · cases h; exact ⟨25, by omega, rfl⟩
  · cases h; exact ⟨26, by omega, rfl⟩
  · cases h; exact ⟨27, by omega, rfl⟩
  · cases h; exact ⟨28, by omega, rfl⟩
  · cases h; exact ⟨29, by omega, rfl⟩
  · cases h; exact ⟨30, by omega, rfl⟩
  · cases h; exact ⟨31, by omega, rfl⟩
  · cases h; exact ⟨32, by omega, rfl⟩
  · cases h; exact ⟨33, by omega, rfl⟩
  · cases h; exact ⟨34, by omega, rfl⟩
  · cases h; exact ⟨35, by omega, rfl⟩
  · cases h; exact ⟨36, by omega, rfl⟩
  · cases h; exact ⟨37, by omega, rfl⟩
  · cases h; exact ⟨38, by omega, rfl⟩
  · cases h; exact ⟨39, by omega, rfl⟩
  · cases h; exact ⟨40, by omega, rfl⟩
  · cases h; exact ⟨41, by omega, rfl⟩
  · cases h; exact ⟨42, by omega, rfl⟩
  · cases h; exact ⟨43, by omega, rfl⟩
  · cases h; exact ⟨44, by omega, rfl⟩
  · cases h; exact ⟨45, by omega, rfl⟩
  · cases h; exact ⟨46, by omega, rfl⟩
  · cases h; exact ⟨47, by omega, rfl⟩
  · cases h; exact ⟨48, by omega, rfl⟩
  · cases h; exact ⟨49, by omega, rfl⟩
  · cases h; exact ⟨50, by omega, rfl⟩
  · cases h; exact ⟨51, by omega, rfl⟩
  · cases h; exact ⟨52, by omega, rfl⟩
  · cases h; exact ⟨53, by omega, rfl⟩
  · cases h; exact ⟨54, by omega, rfl⟩
  · cases h; exact ⟨55, by omega, rfl⟩
  · cases h; exact ⟨56, by omega, rfl⟩
  · cases h; exact ⟨57, by omega, rfl⟩
  · cases h; exact ⟨58, by omega, rfl⟩
  · cases h; exact ⟨59, by omega, rfl⟩
  · cases h; exact ⟨60, by omega, rfl⟩
  · cases h; exact ⟨61, by omega, rfl⟩
  · cases h; exact ⟨62, by omega, rfl⟩
  · cases h; exact ⟨63, by omega, rfl⟩
  · cases h
/-- what an object's own methods leave of the rest -/
def CO (th : Nat) (g0 g : GH) : Prop :=
  (∀ f a, a ≠ th → Gi g f a = Gi g0 f a) ∧ (∀ f a, a ≠ th → Gr g f a = Gr g0 f a) ∧ (∀ c o, o ≠ th → Ia g c o = Ia g0 c o ∧ Ra g c o = Ra g0 c o) ∧
  (∀ a, a < Hn g0 → Kd g a = Kd g0 a ∧ Co g a = Co g0 a ∧ Ow g a = Ow g0 a ∧ Ln g a = Ln g0 a ∧ La g a = La g0 a) ∧
  (∀ a, Hn g0 ≤ a → 20 ≤ Kd g a → Ow g a = th) ∧ Hn g0 ≤ Hn g ∧ Hu g0 ≤ Hu g
/-- the constructor's way: n arrays made -/
def StN (Γ : GAM) (th : Nat) (g0 : GH) (n : Nat) (V : Nat → Int32) (W : Nat → Nat → Int32) (g : GH) : Prop :=
  CO th g0 g ∧ EN g ∧ th < Hn g0 ∧ Kd g0 th = 13 ∧ Hn g = Hn g0 + n ∧ Hu g = Hu g0 + mtot n ∧ (Hn g0 + 64 ≤ gB Γ + NCC ∧ Hu g0 + 30000 ≤ NSS) ∧ (∀ F, 1549 ≤ F → free g0 F th) ∧
  (∀ f, Gi g f th = V f) ∧ (∀ i x, i < n → mfl[i]? = some x → Gr g x.1 th = some (Hn g0 + i) ∧ Kd g (Hn g0 + i) = x.2.1 ∧ Co g (Hn g0 + i) = x.1 ∧ Ow g (Hn g0 + i) = th ∧ Ln g (Hn g0 + i) = x.2.2 ∧ Ia g x.1 th = W x.1) ∧
  n ≤ 64 ∧ EN g0
theorem StN.kd {Γ : GAM} {th : Nat} {g0 g : GH} {n : Nat} {V : Nat → Int32} {W : Nat → Nat → Int32} (h : StN Γ th g0 n V W g) : Kd g th = 13 := by
  obtain ⟨⟨c1, c2, c3, c4, c5, c6, c7⟩, e1, h1, h2, _⟩ := h
  rw [(c4 th h1).1]; exact h2
theorem StN.step {Γ : GAM} {th : Nat} {g0 g : GH} {n F kd len : Nat} {V : Nat → Int32} (h : StN Γ th g0 n V (fun _ _ => 0) g) (hm : mfl[n]? = some (F, kd, len)) {R : GH → Prop} (hR : ∀ g', StN Γ th g0 (n + 1) V (fun _ _ => 0) g' → R g') :
    th < Hn g ∧ free g F th ∧ Hn g + 1 ≤ gB Γ + NCC ∧ Hu g + len ≤ NSS ∧ ∀ (a1 : Nat) (g2), a1 = Hn g → g2 = nA g kd F th len → Kd g2 th = 13 ∧ ∀ g3 : GH, g3 = sR g2 F th (some a1) → R g3 := by
  have hk := h.kd
  obtain ⟨⟨c1, c2, c3, c4, c5, c6, c7⟩, e1, h1, h2, h3, h4, ⟨r1, r2⟩, h5, h6, h7, h8, h9⟩ := h
  have hn := mfl_lt hm
  have t1 := mtot_s n hn
  have t2 := mtot_le (n + 1) (by omega)
  have t3 := mfl_20 n hn
  rw [hm] at t1 t3
  simp only [Option.getD_some] at t1 t3
  refine ⟨by omega, fun b hb hc ho => ?_, by omega, by omega, ?_⟩
  · by_cases q : b < Hn g0
    · obtain ⟨z1, z2, z3, _⟩ := c4 b q
      exact h5 F t3.2.2.1 b (by rw [← z1]; exact hb) (by rw [← z2]; exact hc) (by rw [← z3]; exact ho)
    · by_cases q2 : b < Hn g
      · have hi : mfl[b - Hn g0]? = some (mfl[b - Hn g0]?.getD default) := by
          rw [List.getElem?_eq_getElem (by show b - Hn g0 < 64; omega)]; rfl
        have z := h7 (b - Hn g0) _ (by omega) hi
        rw [Nat.add_sub_cancel' (by omega)] at z
        have := mfl_inj (b - Hn g0) (by omega) n hn (by rw [hm]; exact z.2.2.1.symm.trans hc)
        omega
      · have := e1 b (by omega); omega
  rintro _ _ rfl rfl
  have hne : Hn g ≠ th := by omega
  refine ⟨?_, ?_⟩
  · rw [Kd_nA, if_neg (Ne.symm hne)]; exact hk
  rintro _ rfl
  refine hR _ ⟨⟨c1, fun f a ha => ?_, fun c o ho => ?_, fun a ha => ?_, fun a ha hb => ?_, ?_, ?_⟩, fun b hb => ?_, h1, h2, ?_, ?_, ⟨r1, r2⟩, h5, h6, fun i x hi hx => ?_, by omega, h9⟩
  · rw [Gr_sR, if_neg (fun q => ha q.2), Gr_nA]; exact c2 f a ha
  · rw [Ia_sR, Ra_sR, Ia_nA, Ra_nA, if_neg (fun q => ho q.2), if_neg (fun q => ho q.2)]; exact c3 c o ho
  · have hz : ¬ a = Hn g := by omega
    rw [Kd_sR, Co_sR, Ow_sR, Ln_sR, La_sR, Kd_nA, Co_nA, Ow_nA, Ln_nA, La_nA, if_neg hz, if_neg hz, if_neg hz, if_neg hz, if_neg hz]; exact c4 a ha
  · rw [Kd_sR, Kd_nA] at hb
    rw [Ow_sR, Ow_nA]
    split
    · rfl
    · rename_i q; rw [if_neg q] at hb; exact c5 a ha hb
  · rw [Hn_sR, Hn_nA]; omega
  · rw [Hu_sR, Hu_nA]; omega
  · rw [Hn_sR, Hn_nA] at hb
    rw [Kd_sR, Kd_nA, if_neg (by omega)]; exact e1 b (by omega)
  · rw [Hn_sR, Hn_nA]; omega
  · rw [Hu_sR, Hu_nA]; omega
  · rw [Gr_sR, Kd_sR, Co_sR, Ow_sR, Ln_sR, Ia_sR, Gr_nA, Kd_nA, Co_nA, Ow_nA, Ln_nA, Ia_nA]
    by_cases q : i = n
    · subst q
      rw [hm] at hx; cases hx
      rw [← h3]
      simp
    · have hz : ¬ Hn g0 + i = Hn g := by omega
      have hx2 := mfl_lt hx
      have hf : ¬ x.1 = F := fun e => q (mfl_inj i hx2 n hn (by rw [hx, hm]; exact e))
      rw [if_neg (fun q => hf q.1), if_neg hz, if_neg hz, if_neg hz, if_neg hz, if_neg (fun q => hf q.1)]
      exact h7 i x (by omega) hx
theorem StN.setI {Γ : GAM} {th : Nat} {g0 g : GH} {n f : Nat} {v : Int32} {V : Nat → Int32} {W : Nat → Nat → Int32} (h : StN Γ th g0 n V W g) : StN Γ th g0 n (fun f' => if f' = f then v else V f') W (sI g f th v) := by
  obtain ⟨⟨c1, c2, c3, c4, c5, c6, c7⟩, e1, h1, h2, h3, h4, h10, h5, h6, h7, h8⟩ := h
  refine ⟨⟨fun f' a ha => ?_, c2, c3, c4, c5, c6, c7⟩, e1, h1, h2, h3, h4, h10, h5, fun f' => ?_, h7, h8⟩
  · rw [Gi_sI, if_neg (fun q => ha q.2)]; exact c1 f' a ha
  · rw [Gi_sI, h6 f']; simp
theorem StN.setA {Γ : GAM} {th : Nat} {g0 g : GH} {n c k : Nat} {v : Int32} {V : Nat → Int32} {W : Nat → Nat → Int32} (h : StN Γ th g0 n V W g) : StN Γ th g0 n V (fun c' i' => if c' = c ∧ i' = k then v else W c' i') (sA g c th k v) := by
  obtain ⟨⟨c1, c2, c3, c4, c5, c6, c7⟩, e1, h1, h2, h3, h4, h10, h5, h6, h7, h8⟩ := h
  refine ⟨⟨c1, c2, fun c' o ho => ⟨?_, (c3 c' o ho).2⟩, c4, c5, c6, c7⟩, e1, h1, h2, h3, h4, h10, h5, h6, fun i x hi hx => ?_, h8⟩
  · funext j; rw [Ia_sA, if_neg (fun q => ho q.2.1), (c3 c' o ho).1]
  · obtain ⟨z1, z2, z3, z4, z5, z6⟩ := h7 i x hi hx
    refine ⟨z1, z2, z3, z4, z5, ?_⟩
    funext j; rw [Ia_sA, z6]; simp
def st0 : ST := (0, 5, [], [], [], [], [], [], [], [], [], [], [], 100, (fun _ => none), (fun _ => 30), 5, (fun _ => 300), [], (fun _ => 0))
def Sp_M_init (Γ : GAM) (th : Nat) (g : GH) (K : GH → Prop) : Prop := th < Hn g ∧ Kd g th = 13 ∧ EN g ∧ (∀ F, 1549 ≤ F → free g F th) ∧ (∀ f, Gi g f th = 0) ∧ (Hn g + 64 ≤ gB Γ + NCC ∧ Hu g + 30000 ≤ NSS) ∧ ∀ ma g', CO th g g' → EN g' → Hn g' = Hn g + 64 → Hu g' ≤ Hu g + 30000 → (∀ b, Hn g ≤ b → 20 ≤ Kd g' b → 1549 ≤ Co g' b ∧ Co g' b ≤ 1630) → RefI th ma g' st0 → K g'
theorem StN.gi {Γ : GAM} {th : Nat} {g0 g : GH} {n : Nat} {V V' : Nat → Int32} {W : Nat → Nat → Int32} (h : StN Γ th g0 n V W g) (hV : ∀ f, V f = V' f) : StN Γ th g0 n V' W g := by
  rw [← show V = V' from funext hV]; exact h
def VMi (f : Nat) : Int32 := if f = 1623 then 5 else if f = 1615 then 100 else if f = 1548 then 5 else 0
theorem minit_end {Γ : GAM} {th : Nat} {g gg : GH} {W : Nat → Nat → Int32} {K : GH → Prop} (hS : StN Γ th g 64 VMi W gg) (hW : ∀ i, i < 4 → W 1626 i = 300) (hW1 : ∀ a b, a < 9 → b < 9 → a ≠ b → W 1616 (9 * a + b) = 30) (hW2 : ∀ c i, c ≠ 1626 → c ≠ 1616 → W c i = 0) (h2 : Kd g th = 13)
    (hK : ∀ ma g', CO th g g' → EN g' → Hn g' = Hn g + 64 → Hu g' ≤ Hu g + 30000 → (∀ b, Hn g ≤ b → 20 ≤ Kd g' b → 1549 ≤ Co g' b ∧ Co g' b ≤ 1630) → RefI th ma g' st0 → K g') : K gg := by
  have hkd := hS.kd
  obtain ⟨c, e1, h1, h2, h3, h4, h10, h5, h6, h7, h8⟩ := hS
  have ia : ∀ F kd n, mtab F = some (kd, n) → Ia gg F th = W F := fun F kd n h => by
    obtain ⟨i, hi, hm⟩ := mtab_mfl F kd n h
    exact (h7 i _ hi hm).2.2.2.2.2
  refine hK (fun F => (Gr gg F th).getD 0) gg c e1 h3 (by rw [h4]; have := mtot_le 64 (by omega); omega) (fun b q1 q2 => ?_) ⟨⟨hkd, fun F kd n h => ?_⟩, ?_⟩
  · have hb : b < Hn gg := Classical.byContradiction (fun z => by rw [e1 b (by omega)] at q2; omega)
    have hl : mfl.length = 64 := by decide
    have hi : b - Hn g < 64 := by omega
    have hm : mfl[b - Hn g]? = some mfl[b - Hn g] := List.getElem?_eq_getElem (by omega)
    have z := h7 (b - Hn g) _ hi hm
    have m := mfl_20 (b - Hn g) hi
    rw [hm] at m
    rw [Nat.add_sub_cancel' q1] at z
    rw [z.2.2.1]
    exact ⟨m.2.2.1, m.2.2.2⟩
  · obtain ⟨i, hi, hm⟩ := mtab_mfl F kd n h
    obtain ⟨z1, z2, z3, z4, z5, _⟩ := h7 i _ hi hm
    have z1' : (Gr gg F th).getD 0 = Hn g + i := by rw [z1]; rfl
    show Gr gg F th = some ((Gr gg F th).getD 0) ∧ Kd gg ((Gr gg F th).getD 0) = kd ∧ Co gg ((Gr gg F th).getD 0) = F ∧ Ow gg ((Gr gg F th).getD 0) = th ∧ Ln gg ((Gr gg F th).getD 0) = n
    rw [z1']
    exact ⟨z1, z2, z3, z4, z5⟩
  refine ⟨h6 _, h6 _, h6 _, h6 _, ⟨h6 _, Nat.zero_le _, fun k x hx => by cases hx⟩, ⟨h6 _, Nat.zero_le _, fun k x hx => by cases hx⟩, ⟨h6 _, Nat.zero_le _, fun k x hx => by cases hx⟩, ⟨h6 _, Nat.zero_le _, fun k x hx => by cases hx⟩, ⟨h6 _, Nat.zero_le _, fun k x hx => by cases hx⟩, ⟨h6 _, Nat.zero_le _, fun k x hx => by cases hx⟩, ⟨h6 _, Nat.zero_le _, fun k x hx => by cases hx⟩, ⟨h6 _, Nat.zero_le _, fun k x hx => by cases hx⟩, ⟨h6 _, Nat.zero_le _, fun k x hx => by cases hx⟩, ⟨h6 _, Nat.zero_le _, fun k x hx => by cases hx⟩, ⟨h6 _, Nat.zero_le _, fun k x hx => by cases hx⟩, ⟨h6 _, Nat.zero_le _, fun k x hx => by cases hx⟩, fun k _ => ?_, fun k _ => ⟨fun _ => ?_, fun x hx => by cases hx⟩, fun a b ha hb hab => ?_, fun k hk => ?_⟩
  · rw [ia 1628 20 200 rfl, hW2 1628 k (by omega) (by omega)]; rfl
  · rw [ia 1617 21 8 rfl, hW2 1617 k (by omega) (by omega)]
  · rw [ia 1616 20 81 rfl, hW1 a b ha hb hab]; rfl
  · rw [ia 1626 20 4 rfl, hW k hk]; rfl
theorem nI_add9 (a b : Nat) : nI a + nI b = nI (a + b) := (Int32.ofNat_add a b).symm
-- the walk of M_init
set_option maxRecDepth 100000 in
def B_M_init_625 (Γ : GAM) (K568 : Nat → Int32 → GH → Prop) (K590 : Nat → Int32 → GH → Prop) (K598 : Nat → Int32 → Int32 → GH → Prop) (K : GH → Prop) (l0 : Nat) (l1 : Int32) (l2 : Int32) (s0 : Int32) (s1 : Int32) (s2 : Nat) (g : GH) : Prop :=
  Kd g s2 = 20 ∧ inB s1 (Ln g s2) ∧ ∀ g1 : GH, g1 = sA g (Co g s2) (Ow g s2) s1.toNatClampNeg s0 → K598 l0 l1 (l2 + (1 : Int32)) g1
set_option maxHeartbeats 4000000 in
set_option maxRecDepth 100000 in
theorem S_M_init_625 {Γ : GAM} {E : EV} {K : GH → Prop} (hE : GE Γ E cX11_init 3 RX11 none 1 20 (fun r g' => r = none ∧ K g')) (hnm : E.2.2.2.2.2.2.2.2.1.name = "<init>") {K568 : Nat → Int32 → GH → Prop} {K590 : Nat → Int32 → GH → Prop} {K598 : Nat → Int32 → Int32 → GH → Prop} (hK568 : ∀ (l0 : Nat) (l1 : Int32) (g : GH), K568 l0 l1 g → JW Γ E 568 [some (.ref l0), some (.int l1), none] [] g) (hK590 : ∀ (l0 : Nat) (l1 : Int32) (g : GH), K590 l0 l1 g → JW Γ E 590 [some (.ref l0), some (.int l1), none] [] g) (hK598 : ∀ (l0 : Nat) (l1 : Int32) (l2 : Int32) (g : GH), K598 l0 l1 l2 g → JW Γ E 598 [some (.ref l0), some (.int l1), some (.int l2)] [] g) (l0 : Nat) (l1 : Int32) (l2 : Int32) (s0 : Int32) (s1 : Int32) (s2 : Nat) (g : GH) (h : B_M_init_625 Γ K568 K590 K598 K l0 l1 l2 s0 s1 s2 g) : JW Γ E 625 [some (.ref l0), some (.int l1), some (.int l2)] [.int s0, .int s1, .ref s2] g := by
  unfold B_M_init_625 at h
  obtain ⟨hk, hb, h⟩ := h
  obtain ⟨g1, hg⟩ : ∃ z, z = sA g (Co g s2) (Ow g s2) s1.toNatClampNeg s0 := ⟨_, rfl⟩; replace h := h g1 hg
  refine j_iast hE hk hb (by decide +kernel : decode cX11_init 625 = .ok (.iastore, 1)) ?_
  rw [← hg]
  refine j_iinc hE (by decide +kernel : decode cX11_init 626 = .ok (.iinc 2 1, 3)) (v := (1 : Int32)) (by decide) rfl (Nat.le_of_ble_eq_true rfl) rfl ?_
  refine j_goto hE (by decide +kernel : decode cX11_init 629 = .ok (.goto (-31), 3)) (tgt := 598) (by decide) ?_
  exact hK598 _ _ _ _ h
set_option maxRecDepth 100000 in
def B_M_init_598 (Γ : GAM) (K568 : Nat → Int32 → GH → Prop) (K590 : Nat → Int32 → GH → Prop) (K598 : Nat → Int32 → Int32 → GH → Prop) (K : GH → Prop) (l0 : Nat) (l1 : Int32) (l2 : Int32) (g : GH) : Prop :=
  (((8 : Int32) < l2 → K590 l0 (l1 + (1 : Int32)) g) ∧ (¬ ((8 : Int32) < l2) → Kd g l0 = 13 ∧ ∃ a1 : Nat, Gr g 1616 l0 = some a1 ∧ ((¬ (l1 = l2) → B_M_init_625 Γ K568 K590 K598 K l0 l1 l2 (30 : Int32) (((9 : Int32) * l1) + l2) a1 g) ∧ (l1 = l2 → B_M_init_625 Γ K568 K590 K598 K l0 l1 l2 (0 : Int32) (((9 : Int32) * l1) + l2) a1 g))))
set_option maxHeartbeats 4000000 in
set_option maxRecDepth 100000 in
theorem S_M_init_598 {Γ : GAM} {E : EV} {K : GH → Prop} (hE : GE Γ E cX11_init 3 RX11 none 1 20 (fun r g' => r = none ∧ K g')) (hnm : E.2.2.2.2.2.2.2.2.1.name = "<init>") {K568 : Nat → Int32 → GH → Prop} {K590 : Nat → Int32 → GH → Prop} {K598 : Nat → Int32 → Int32 → GH → Prop} (hK568 : ∀ (l0 : Nat) (l1 : Int32) (g : GH), K568 l0 l1 g → JW Γ E 568 [some (.ref l0), some (.int l1), none] [] g) (hK590 : ∀ (l0 : Nat) (l1 : Int32) (g : GH), K590 l0 l1 g → JW Γ E 590 [some (.ref l0), some (.int l1), none] [] g) (hK598 : ∀ (l0 : Nat) (l1 : Int32) (l2 : Int32) (g : GH), K598 l0 l1 l2 g → JW Γ E 598 [some (.ref l0), some (.int l1), some (.int l2)] [] g) (l0 : Nat) (l1 : Int32) (l2 : Int32) (g : GH) (h : B_M_init_598 Γ K568 K590 K598 K l0 l1 l2 g) : JW Γ E 598 [some (.ref l0), some (.int l1), some (.int l2)] [] g := by
  unfold B_M_init_598 at h
  refine j_iload_n hE (by decide +kernel : decode cX11_init 598 = .ok (.iload_n 2, 1)) rfl rfl ?_
  refine j_bipush hE (by decide +kernel : decode cX11_init 599 = .ok (.bipush 8, 2)) (v := (8 : Int32)) (by decide) ?_
  refine j_icmp_gt hE (by decide +kernel : decode cX11_init 601 = .ok (.if_icmp .gt 31, 3)) (tgt := 632) (by decide) (fun q => ?_) (fun q => ?_)
  · replace h := h.1 q
    refine j_iinc hE (by decide +kernel : decode cX11_init 632 = .ok (.iinc 1 1, 3)) (v := (1 : Int32)) (by decide) rfl (Nat.le_of_ble_eq_true rfl) rfl ?_
    refine j_goto hE (by decide +kernel : decode cX11_init 635 = .ok (.goto (-45), 3)) (tgt := 590) (by decide) ?_
    refine j_weak [some (.ref l0), some (.int (l1 + (1 : Int32))), none] ⟨rfl, ⟨rfl, trivial⟩⟩ ?_
    exact hK590 _ _ _ h
  · replace h := h.2 q
    refine j_aload_n hE (by decide +kernel : decode cX11_init 604 = .ok (.aload_n 0, 1)) rfl rfl ?_
    obtain ⟨hk, h⟩ := h
    obtain ⟨a1, ha, h⟩ := h
    refine j_getRn hE fg_X11_174 hk ha (by decide +kernel : decode cX11_init 605 = .ok (.getfield 174, 3)) ?_
    refine j_bipush hE (by decide +kernel : decode cX11_init 608 = .ok (.bipush 9, 2)) (v := (9 : Int32)) (by decide) ?_
    refine j_iload_n hE (by decide +kernel : decode cX11_init 610 = .ok (.iload_n 1, 1)) rfl rfl ?_
    refine j_imul hE (by decide +kernel : decode cX11_init 611 = .ok (.imul, 1)) ?_
    refine j_iload_n hE (by decide +kernel : decode cX11_init 612 = .ok (.iload_n 2, 1)) rfl rfl ?_
    refine j_iadd hE (by decide +kernel : decode cX11_init 613 = .ok (.iadd, 1)) ?_
    refine j_iload_n hE (by decide +kernel : decode cX11_init 614 = .ok (.iload_n 1, 1)) rfl rfl ?_
    refine j_iload_n hE (by decide +kernel : decode cX11_init 615 = .ok (.iload_n 2, 1)) rfl rfl ?_
    refine j_icmp_ne hE (by decide +kernel : decode cX11_init 616 = .ok (.if_icmp .ne 7, 3)) (tgt := 623) (by decide) (fun q => ?_) (fun q => ?_)
    · replace h := h.1 q
      refine j_bipush hE (by decide +kernel : decode cX11_init 623 = .ok (.bipush 30, 2)) (v := (30 : Int32)) (by decide) ?_
      exact S_M_init_625 hE hnm hK568 hK590 hK598 _ _ _ _ _ _ _ h
    · replace h := h.2 q
      refine j_iconst hE (by decide +kernel : decode cX11_init 619 = .ok (.iconst 0, 1)) (v := (0 : Int32)) (by decide) ?_
      refine j_goto hE (by decide +kernel : decode cX11_init 620 = .ok (.goto 5, 3)) (tgt := 625) (by decide) ?_
      exact S_M_init_625 hE hnm hK568 hK590 hK598 _ _ _ _ _ _ _ h
set_option maxRecDepth 100000 in
def B_M_init_590 (Γ : GAM) (K568 : Nat → Int32 → GH → Prop) (K590 : Nat → Int32 → GH → Prop) (K598 : Nat → Int32 → Int32 → GH → Prop) (K : GH → Prop) (l0 : Nat) (l1 : Int32) (g : GH) : Prop :=
  (((8 : Int32) < l1 → K g) ∧ (¬ ((8 : Int32) < l1) → K598 l0 l1 (0 : Int32) g))
set_option maxHeartbeats 4000000 in
set_option maxRecDepth 100000 in
theorem S_M_init_590 {Γ : GAM} {E : EV} {K : GH → Prop} (hE : GE Γ E cX11_init 3 RX11 none 1 20 (fun r g' => r = none ∧ K g')) (hnm : E.2.2.2.2.2.2.2.2.1.name = "<init>") {K568 : Nat → Int32 → GH → Prop} {K590 : Nat → Int32 → GH → Prop} {K598 : Nat → Int32 → Int32 → GH → Prop} (hK568 : ∀ (l0 : Nat) (l1 : Int32) (g : GH), K568 l0 l1 g → JW Γ E 568 [some (.ref l0), some (.int l1), none] [] g) (hK590 : ∀ (l0 : Nat) (l1 : Int32) (g : GH), K590 l0 l1 g → JW Γ E 590 [some (.ref l0), some (.int l1), none] [] g) (hK598 : ∀ (l0 : Nat) (l1 : Int32) (l2 : Int32) (g : GH), K598 l0 l1 l2 g → JW Γ E 598 [some (.ref l0), some (.int l1), some (.int l2)] [] g) (l0 : Nat) (l1 : Int32) (g : GH) (h : B_M_init_590 Γ K568 K590 K598 K l0 l1 g) : JW Γ E 590 [some (.ref l0), some (.int l1), none] [] g := by
  unfold B_M_init_590 at h
  refine j_iload_n hE (by decide +kernel : decode cX11_init 590 = .ok (.iload_n 1, 1)) rfl rfl ?_
  refine j_bipush hE (by decide +kernel : decode cX11_init 591 = .ok (.bipush 8, 2)) (v := (8 : Int32)) (by decide) ?_
  refine j_icmp_gt hE (by decide +kernel : decode cX11_init 593 = .ok (.if_icmp .gt 45, 3)) (tgt := 638) (by decide) (fun q => ?_) (fun q => ?_)
  · replace h := h.1 q
    exact j_vret hE (by decide +kernel : decode cX11_init 638 = .ok (.return_, 1)) ⟨rfl, h⟩
  · replace h := h.2 q
    refine j_iconst hE (by decide +kernel : decode cX11_init 596 = .ok (.iconst 0, 1)) (v := (0 : Int32)) (by decide) ?_
    refine j_istore_n hE (by decide +kernel : decode cX11_init 597 = .ok (.istore_n 2, 1)) rfl (Nat.le_of_ble_eq_true rfl) rfl ?_
    exact hK598 _ _ _ _ h
set_option maxRecDepth 100000 in
def B_M_init_568 (Γ : GAM) (K568 : Nat → Int32 → GH → Prop) (K590 : Nat → Int32 → GH → Prop) (K598 : Nat → Int32 → Int32 → GH → Prop) (K : GH → Prop) (l0 : Nat) (l1 : Int32) (g : GH) : Prop :=
  (((4 : Int32) ≤ l1 → K590 l0 (0 : Int32) g) ∧ (¬ ((4 : Int32) ≤ l1) → Kd g l0 = 13 ∧ ∃ a1 : Nat, Gr g 1626 l0 = some a1 ∧ Kd g a1 = 20 ∧ inB l1 (Ln g a1) ∧ ∀ g2 : GH, g2 = sA g (Co g a1) (Ow g a1) l1.toNatClampNeg (300 : Int32) → K568 l0 (l1 + (1 : Int32)) g2))
set_option maxHeartbeats 4000000 in
set_option maxRecDepth 100000 in
theorem S_M_init_568 {Γ : GAM} {E : EV} {K : GH → Prop} (hE : GE Γ E cX11_init 3 RX11 none 1 20 (fun r g' => r = none ∧ K g')) (hnm : E.2.2.2.2.2.2.2.2.1.name = "<init>") {K568 : Nat → Int32 → GH → Prop} {K590 : Nat → Int32 → GH → Prop} {K598 : Nat → Int32 → Int32 → GH → Prop} (hK568 : ∀ (l0 : Nat) (l1 : Int32) (g : GH), K568 l0 l1 g → JW Γ E 568 [some (.ref l0), some (.int l1), none] [] g) (hK590 : ∀ (l0 : Nat) (l1 : Int32) (g : GH), K590 l0 l1 g → JW Γ E 590 [some (.ref l0), some (.int l1), none] [] g) (hK598 : ∀ (l0 : Nat) (l1 : Int32) (l2 : Int32) (g : GH), K598 l0 l1 l2 g → JW Γ E 598 [some (.ref l0), some (.int l1), some (.int l2)] [] g) (l0 : Nat) (l1 : Int32) (g : GH) (h : B_M_init_568 Γ K568 K590 K598 K l0 l1 g) : JW Γ E 568 [some (.ref l0), some (.int l1), none] [] g := by
  unfold B_M_init_568 at h
  refine j_iload_n hE (by decide +kernel : decode cX11_init 568 = .ok (.iload_n 1, 1)) rfl rfl ?_
  refine j_iconst hE (by decide +kernel : decode cX11_init 569 = .ok (.iconst 4, 1)) (v := (4 : Int32)) (by decide) ?_
  refine j_icmp_ge hE (by decide +kernel : decode cX11_init 570 = .ok (.if_icmp .ge 18, 3)) (tgt := 588) (by decide) (fun q => ?_) (fun q => ?_)
  · replace h := h.1 q
    refine j_iconst hE (by decide +kernel : decode cX11_init 588 = .ok (.iconst 0, 1)) (v := (0 : Int32)) (by decide) ?_
    refine j_istore_n hE (by decide +kernel : decode cX11_init 589 = .ok (.istore_n 1, 1)) rfl (Nat.le_of_ble_eq_true rfl) rfl ?_
    exact hK590 _ _ _ h
  · replace h := h.2 q
    refine j_aload_n hE (by decide +kernel : decode cX11_init 573 = .ok (.aload_n 0, 1)) rfl rfl ?_
    obtain ⟨hk, h⟩ := h
    obtain ⟨a1, ha, h⟩ := h
    refine j_getRn hE fg_X11_198 hk ha (by decide +kernel : decode cX11_init 574 = .ok (.getfield 198, 3)) ?_
    refine j_iload_n hE (by decide +kernel : decode cX11_init 577 = .ok (.iload_n 1, 1)) rfl rfl ?_
    refine j_sipush hE (by decide +kernel : decode cX11_init 578 = .ok (.sipush 300, 3)) (v := (300 : Int32)) (by decide) ?_
    obtain ⟨hk, hb, h⟩ := h
    obtain ⟨g2, hg⟩ : ∃ z, z = sA g (Co g a1) (Ow g a1) l1.toNatClampNeg (300 : Int32) := ⟨_, rfl⟩; replace h := h g2 hg
    refine j_iast hE hk hb (by decide +kernel : decode cX11_init 581 = .ok (.iastore, 1)) ?_
    rw [← hg]
    refine j_iinc hE (by decide +kernel : decode cX11_init 582 = .ok (.iinc 1 1, 3)) (v := (1 : Int32)) (by decide) rfl (Nat.le_of_ble_eq_true rfl) rfl ?_
    refine j_goto hE (by decide +kernel : decode cX11_init 585 = .ok (.goto (-17), 3)) (tgt := 568) (by decide) ?_
    exact hK568 _ _ _ h
set_option maxRecDepth 100000 in
def B_M_init_464 (Γ : GAM) (K568 : Nat → Int32 → GH → Prop) (K590 : Nat → Int32 → GH → Prop) (K598 : Nat → Int32 → Int32 → GH → Prop) (K : GH → Prop) (l0 : Nat) (g : GH) : Prop :=
  l0 < Hn g ∧ free g 1616 l0 ∧ Hn g + 1 ≤ gB Γ + NCC ∧ Hu g + 81 ≤ NSS ∧ ∀ (a1 : Nat) (g2 : GH), a1 = Hn g → g2 = nA g 20 1616 l0 (81) → Kd g2 l0 = 13 ∧ ∀ g3 : GH, g3 = sR g2 1616 l0 (some a1) → l0 < Hn g3 ∧ free g3 1617 l0 ∧ Hn g3 + 1 ≤ gB Γ + NCC ∧ Hu g3 + 8 ≤ NSS ∧ ∀ (a4 : Nat) (g5 : GH), a4 = Hn g3 → g5 = nA g3 21 1617 l0 (8) → Kd g5 l0 = 13 ∧ ∀ g6 : GH, g6 = sR g5 1617 l0 (some a4) → l0 < Hn g6 ∧ free g6 1618 l0 ∧ Hn g6 + 1 ≤ gB Γ + NCC ∧ Hu g6 + 8 ≤ NSS ∧ ∀ (a7 : Nat) (g8 : GH), a7 = Hn g6 → g8 = nA g6 20 1618 l0 (8) → Kd g8 l0 = 13 ∧ ∀ g9 : GH, g9 = sR g8 1618 l0 (some a7) → l0 < Hn g9 ∧ free g9 1619 l0 ∧ Hn g9 + 1 ≤ gB Γ + NCC ∧ Hu g9 + 8 ≤ NSS ∧ ∀ (a10 : Nat) (g11 : GH), a10 = Hn g9 → g11 = nA g9 20 1619 l0 (8) → Kd g11 l0 = 13 ∧ ∀ g12 : GH, g12 = sR g11 1619 l0 (some a10) → l0 < Hn g12 ∧ free g12 1620 l0 ∧ Hn g12 + 1 ≤ gB Γ + NCC ∧ Hu g12 + 8 ≤ NSS ∧ ∀ (a13 : Nat) (g14 : GH), a13 = Hn g12 → g14 = nA g12 21 1620 l0 (8) → Kd g14 l0 = 13 ∧ ∀ g15 : GH, g15 = sR g14 1620 l0 (some a13) → l0 < Hn g15 ∧ free g15 1621 l0 ∧ Hn g15 + 1 ≤ gB Γ + NCC ∧ Hu g15 + 8 ≤ NSS ∧ ∀ (a16 : Nat) (g17 : GH), a16 = Hn g15 → g17 = nA g15 20 1621 l0 (8) → Kd g17 l0 = 13 ∧ ∀ g18 : GH, g18 = sR g17 1621 l0 (some a16) → l0 < Hn g18 ∧ free g18 1622 l0 ∧ Hn g18 + 1 ≤ gB Γ + NCC ∧ Hu g18 + 8 ≤ NSS ∧ ∀ (a19 : Nat) (g20 : GH), a19 = Hn g18 → g20 = nA g18 20 1622 l0 (8) → Kd g20 l0 = 13 ∧ ∀ g21 : GH, g21 = sR g20 1622 l0 (some a19) → Kd g21 l0 = 13 ∧ ∀ g22 : GH, g22 = sI g21 1623 l0 (5 : Int32) → l0 < Hn g22 ∧ free g22 1626 l0 ∧ Hn g22 + 1 ≤ gB Γ + NCC ∧ Hu g22 + 4 ≤ NSS ∧ ∀ (a23 : Nat) (g24 : GH), a23 = Hn g22 → g24 = nA g22 20 1626 l0 (4) → Kd g24 l0 = 13 ∧ ∀ g25 : GH, g25 = sR g24 1626 l0 (some a23) → l0 < Hn g25 ∧ free g25 1627 l0 ∧ Hn g25 + 1 ≤ gB Γ + NCC ∧ Hu g25 + 200 ≤ NSS ∧ ∀ (a26 : Nat) (g27 : GH), a26 = Hn g25 → g27 = nA g25 20 1627 l0 (200) → Kd g27 l0 = 13 ∧ ∀ g28 : GH, g28 = sR g27 1627 l0 (some a26) → l0 < Hn g28 ∧ free g28 1628 l0 ∧ Hn g28 + 1 ≤ gB Γ + NCC ∧ Hu g28 + 200 ≤ NSS ∧ ∀ (a29 : Nat) (g30 : GH), a29 = Hn g28 → g30 = nA g28 20 1628 l0 (200) → Kd g30 l0 = 13 ∧ ∀ g31 : GH, g31 = sR g30 1628 l0 (some a29) → l0 < Hn g31 ∧ free g31 1629 l0 ∧ Hn g31 + 1 ≤ gB Γ + NCC ∧ Hu g31 + 40 ≤ NSS ∧ ∀ (a32 : Nat) (g33 : GH), a32 = Hn g31 → g33 = nA g31 20 1629 l0 (40) → Kd g33 l0 = 13 ∧ ∀ g34 : GH, g34 = sR g33 1629 l0 (some a32) → l0 < Hn g34 ∧ free g34 1630 l0 ∧ Hn g34 + 1 ≤ gB Γ + NCC ∧ Hu g34 + 40 ≤ NSS ∧ ∀ (a35 : Nat) (g36 : GH), a35 = Hn g34 → g36 = nA g34 20 1630 l0 (40) → Kd g36 l0 = 13 ∧ ∀ g37 : GH, g37 = sR g36 1630 l0 (some a35) → K568 l0 (0 : Int32) g37
set_option maxHeartbeats 4000000 in
set_option maxRecDepth 100000 in
theorem S_M_init_464 {Γ : GAM} {E : EV} {K : GH → Prop} (hE : GE Γ E cX11_init 3 RX11 none 1 20 (fun r g' => r = none ∧ K g')) (hnm : E.2.2.2.2.2.2.2.2.1.name = "<init>") {K568 : Nat → Int32 → GH → Prop} {K590 : Nat → Int32 → GH → Prop} {K598 : Nat → Int32 → Int32 → GH → Prop} (hK568 : ∀ (l0 : Nat) (l1 : Int32) (g : GH), K568 l0 l1 g → JW Γ E 568 [some (.ref l0), some (.int l1), none] [] g) (hK590 : ∀ (l0 : Nat) (l1 : Int32) (g : GH), K590 l0 l1 g → JW Γ E 590 [some (.ref l0), some (.int l1), none] [] g) (hK598 : ∀ (l0 : Nat) (l1 : Int32) (l2 : Int32) (g : GH), K598 l0 l1 l2 g → JW Γ E 598 [some (.ref l0), some (.int l1), some (.int l2)] [] g) (l0 : Nat) (g : GH) (h : B_M_init_464 Γ K568 K590 K598 K l0 g) : JW Γ E 464 [some (.ref l0), none, none] [] g := by
  unfold B_M_init_464 at h
  refine j_aload_n hE (by decide +kernel : decode cX11_init 464 = .ok (.aload_n 0, 1)) rfl rfl ?_
  refine j_bipush hE (by decide +kernel : decode cX11_init 465 = .ok (.bipush 81, 2)) (v := (81 : Int32)) (by decide) ?_
  obtain ⟨ho1, hf1, hn1, hn2, h⟩ := h
  obtain ⟨a1, ha⟩ : ∃ z, z = Hn g := ⟨_, rfl⟩; obtain ⟨g2, hg⟩ : ∃ z, z = nA g 20 1616 l0 (81) := ⟨_, rfl⟩; replace h := h a1 g2 ha hg
  refine j_newarray (k := 20) (co := 1616) (ow := l0) (n := (81)) (atype := .int) hE ac_int (Or.inl ⟨rfl, rfl⟩) (by decide) (by decide) (by decide) ho1 hf1 (by decide +kernel : decode cX11_init 467 = .ok (.newarray .int, 2)) hn1 hn2 ?_
  rw [← hg, ← ha]
  obtain ⟨hk, h⟩ := h
  obtain ⟨g3, hg⟩ : ∃ z, z = sR g2 1616 l0 (some a1) := ⟨_, rfl⟩; replace h := h g3 hg
  refine j_putR (v := (some a1)) hE fa_X11_174 hk (fun _ => hnm) (by decide +kernel : decode cX11_init 469 = .ok (.putfield 174, 3)) ?_
  rw [← hg]
  refine j_aload_n hE (by decide +kernel : decode cX11_init 472 = .ok (.aload_n 0, 1)) rfl rfl ?_
  refine j_bipush hE (by decide +kernel : decode cX11_init 473 = .ok (.bipush 8, 2)) (v := (8 : Int32)) (by decide) ?_
  obtain ⟨ho1, hf1, hn1, hn2, h⟩ := h
  obtain ⟨a4, ha⟩ : ∃ z, z = Hn g3 := ⟨_, rfl⟩; obtain ⟨g5, hg⟩ : ∃ z, z = nA g3 21 1617 l0 (8) := ⟨_, rfl⟩; replace h := h a4 g5 ha hg
  refine j_newarray (k := 21) (co := 1617) (ow := l0) (n := (8)) (atype := .boolean) hE ac_boolean (Or.inr (Or.inl ⟨rfl, rfl⟩)) (by decide) (by decide) (by decide) ho1 hf1 (by decide +kernel : decode cX11_init 475 = .ok (.newarray .boolean, 2)) hn1 hn2 ?_
  rw [← hg, ← ha]
  obtain ⟨hk, h⟩ := h
  obtain ⟨g6, hg⟩ : ∃ z, z = sR g5 1617 l0 (some a4) := ⟨_, rfl⟩; replace h := h g6 hg
  refine j_putR (v := (some a4)) hE fa_X11_177 hk (fun _ => hnm) (by decide +kernel : decode cX11_init 477 = .ok (.putfield 177, 3)) ?_
  rw [← hg]
  refine j_aload_n hE (by decide +kernel : decode cX11_init 480 = .ok (.aload_n 0, 1)) rfl rfl ?_
  refine j_bipush hE (by decide +kernel : decode cX11_init 481 = .ok (.bipush 8, 2)) (v := (8 : Int32)) (by decide) ?_
  obtain ⟨ho1, hf1, hn1, hn2, h⟩ := h
  obtain ⟨a7, ha⟩ : ∃ z, z = Hn g6 := ⟨_, rfl⟩; obtain ⟨g8, hg⟩ : ∃ z, z = nA g6 20 1618 l0 (8) := ⟨_, rfl⟩; replace h := h a7 g8 ha hg
  refine j_newarray (k := 20) (co := 1618) (ow := l0) (n := (8)) (atype := .int) hE ac_int (Or.inl ⟨rfl, rfl⟩) (by decide) (by decide) (by decide) ho1 hf1 (by decide +kernel : decode cX11_init 483 = .ok (.newarray .int, 2)) hn1 hn2 ?_
  rw [← hg, ← ha]
  obtain ⟨hk, h⟩ := h
  obtain ⟨g9, hg⟩ : ∃ z, z = sR g8 1618 l0 (some a7) := ⟨_, rfl⟩; replace h := h g9 hg
  refine j_putR (v := (some a7)) hE fa_X11_180 hk (fun _ => hnm) (by decide +kernel : decode cX11_init 485 = .ok (.putfield 180, 3)) ?_
  rw [← hg]
  refine j_aload_n hE (by decide +kernel : decode cX11_init 488 = .ok (.aload_n 0, 1)) rfl rfl ?_
  refine j_bipush hE (by decide +kernel : decode cX11_init 489 = .ok (.bipush 8, 2)) (v := (8 : Int32)) (by decide) ?_
  obtain ⟨ho1, hf1, hn1, hn2, h⟩ := h
  obtain ⟨a10, ha⟩ : ∃ z, z = Hn g9 := ⟨_, rfl⟩; obtain ⟨g11, hg⟩ : ∃ z, z = nA g9 20 1619 l0 (8) := ⟨_, rfl⟩; replace h := h a10 g11 ha hg
  refine j_newarray (k := 20) (co := 1619) (ow := l0) (n := (8)) (atype := .int) hE ac_int (Or.inl ⟨rfl, rfl⟩) (by decide) (by decide) (by decide) ho1 hf1 (by decide +kernel : decode cX11_init 491 = .ok (.newarray .int, 2)) hn1 hn2 ?_
  rw [← hg, ← ha]
  obtain ⟨hk, h⟩ := h
  obtain ⟨g12, hg⟩ : ∃ z, z = sR g11 1619 l0 (some a10) := ⟨_, rfl⟩; replace h := h g12 hg
  refine j_putR (v := (some a10)) hE fa_X11_183 hk (fun _ => hnm) (by decide +kernel : decode cX11_init 493 = .ok (.putfield 183, 3)) ?_
  rw [← hg]
  refine j_aload_n hE (by decide +kernel : decode cX11_init 496 = .ok (.aload_n 0, 1)) rfl rfl ?_
  refine j_bipush hE (by decide +kernel : decode cX11_init 497 = .ok (.bipush 8, 2)) (v := (8 : Int32)) (by decide) ?_
  obtain ⟨ho1, hf1, hn1, hn2, h⟩ := h
  obtain ⟨a13, ha⟩ : ∃ z, z = Hn g12 := ⟨_, rfl⟩; obtain ⟨g14, hg⟩ : ∃ z, z = nA g12 21 1620 l0 (8) := ⟨_, rfl⟩; replace h := h a13 g14 ha hg
  refine j_newarray (k := 21) (co := 1620) (ow := l0) (n := (8)) (atype := .boolean) hE ac_boolean (Or.inr (Or.inl ⟨rfl, rfl⟩)) (by decide) (by decide) (by decide) ho1 hf1 (by decide +kernel : decode cX11_init 499 = .ok (.newarray .boolean, 2)) hn1 hn2 ?_
  rw [← hg, ← ha]
  obtain ⟨hk, h⟩ := h
  obtain ⟨g15, hg⟩ : ∃ z, z = sR g14 1620 l0 (some a13) := ⟨_, rfl⟩; replace h := h g15 hg
  refine j_putR (v := (some a13)) hE fa_X11_186 hk (fun _ => hnm) (by decide +kernel : decode cX11_init 501 = .ok (.putfield 186, 3)) ?_
  rw [← hg]
  refine j_aload_n hE (by decide +kernel : decode cX11_init 504 = .ok (.aload_n 0, 1)) rfl rfl ?_
  refine j_bipush hE (by decide +kernel : decode cX11_init 505 = .ok (.bipush 8, 2)) (v := (8 : Int32)) (by decide) ?_
  obtain ⟨ho1, hf1, hn1, hn2, h⟩ := h
  obtain ⟨a16, ha⟩ : ∃ z, z = Hn g15 := ⟨_, rfl⟩; obtain ⟨g17, hg⟩ : ∃ z, z = nA g15 20 1621 l0 (8) := ⟨_, rfl⟩; replace h := h a16 g17 ha hg
  refine j_newarray (k := 20) (co := 1621) (ow := l0) (n := (8)) (atype := .int) hE ac_int (Or.inl ⟨rfl, rfl⟩) (by decide) (by decide) (by decide) ho1 hf1 (by decide +kernel : decode cX11_init 507 = .ok (.newarray .int, 2)) hn1 hn2 ?_
  rw [← hg, ← ha]
  obtain ⟨hk, h⟩ := h
  obtain ⟨g18, hg⟩ : ∃ z, z = sR g17 1621 l0 (some a16) := ⟨_, rfl⟩; replace h := h g18 hg
  refine j_putR (v := (some a16)) hE fa_X11_189 hk (fun _ => hnm) (by decide +kernel : decode cX11_init 509 = .ok (.putfield 189, 3)) ?_
  rw [← hg]
  refine j_aload_n hE (by decide +kernel : decode cX11_init 512 = .ok (.aload_n 0, 1)) rfl rfl ?_
  refine j_bipush hE (by decide +kernel : decode cX11_init 513 = .ok (.bipush 8, 2)) (v := (8 : Int32)) (by decide) ?_
  obtain ⟨ho1, hf1, hn1, hn2, h⟩ := h
  obtain ⟨a19, ha⟩ : ∃ z, z = Hn g18 := ⟨_, rfl⟩; obtain ⟨g20, hg⟩ : ∃ z, z = nA g18 20 1622 l0 (8) := ⟨_, rfl⟩; replace h := h a19 g20 ha hg
  refine j_newarray (k := 20) (co := 1622) (ow := l0) (n := (8)) (atype := .int) hE ac_int (Or.inl ⟨rfl, rfl⟩) (by decide) (by decide) (by decide) ho1 hf1 (by decide +kernel : decode cX11_init 515 = .ok (.newarray .int, 2)) hn1 hn2 ?_
  rw [← hg, ← ha]
  obtain ⟨hk, h⟩ := h
  obtain ⟨g21, hg⟩ : ∃ z, z = sR g20 1622 l0 (some a19) := ⟨_, rfl⟩; replace h := h g21 hg
  refine j_putR (v := (some a19)) hE fa_X11_192 hk (fun _ => hnm) (by decide +kernel : decode cX11_init 517 = .ok (.putfield 192, 3)) ?_
  rw [← hg]
  refine j_aload_n hE (by decide +kernel : decode cX11_init 520 = .ok (.aload_n 0, 1)) rfl rfl ?_
  refine j_iconst hE (by decide +kernel : decode cX11_init 521 = .ok (.iconst 5, 1)) (v := (5 : Int32)) (by decide) ?_
  obtain ⟨hk, h⟩ := h
  obtain ⟨g22, hg⟩ : ∃ z, z = sI g21 1623 l0 (5 : Int32) := ⟨_, rfl⟩; replace h := h g22 hg
  refine j_putI hE fa_X11_195 hk (fun q => by cases q) (by decide +kernel : decode cX11_init 522 = .ok (.putfield 195, 3)) ?_
  rw [← hg]
  refine j_aload_n hE (by decide +kernel : decode cX11_init 525 = .ok (.aload_n 0, 1)) rfl rfl ?_
  refine j_iconst hE (by decide +kernel : decode cX11_init 526 = .ok (.iconst 4, 1)) (v := (4 : Int32)) (by decide) ?_
  obtain ⟨ho1, hf1, hn1, hn2, h⟩ := h
  obtain ⟨a23, ha⟩ : ∃ z, z = Hn g22 := ⟨_, rfl⟩; obtain ⟨g24, hg⟩ : ∃ z, z = nA g22 20 1626 l0 (4) := ⟨_, rfl⟩; replace h := h a23 g24 ha hg
  refine j_newarray (k := 20) (co := 1626) (ow := l0) (n := (4)) (atype := .int) hE ac_int (Or.inl ⟨rfl, rfl⟩) (by decide) (by decide) (by decide) ho1 hf1 (by decide +kernel : decode cX11_init 527 = .ok (.newarray .int, 2)) hn1 hn2 ?_
  rw [← hg, ← ha]
  obtain ⟨hk, h⟩ := h
  obtain ⟨g25, hg⟩ : ∃ z, z = sR g24 1626 l0 (some a23) := ⟨_, rfl⟩; replace h := h g25 hg
  refine j_putR (v := (some a23)) hE fa_X11_198 hk (fun _ => hnm) (by decide +kernel : decode cX11_init 529 = .ok (.putfield 198, 3)) ?_
  rw [← hg]
  refine j_aload_n hE (by decide +kernel : decode cX11_init 532 = .ok (.aload_n 0, 1)) rfl rfl ?_
  refine j_sipush hE (by decide +kernel : decode cX11_init 533 = .ok (.sipush 200, 3)) (v := (200 : Int32)) (by decide) ?_
  obtain ⟨ho1, hf1, hn1, hn2, h⟩ := h
  obtain ⟨a26, ha⟩ : ∃ z, z = Hn g25 := ⟨_, rfl⟩; obtain ⟨g27, hg⟩ : ∃ z, z = nA g25 20 1627 l0 (200) := ⟨_, rfl⟩; replace h := h a26 g27 ha hg
  refine j_newarray (k := 20) (co := 1627) (ow := l0) (n := (200)) (atype := .int) hE ac_int (Or.inl ⟨rfl, rfl⟩) (by decide) (by decide) (by decide) ho1 hf1 (by decide +kernel : decode cX11_init 536 = .ok (.newarray .int, 2)) hn1 hn2 ?_
  rw [← hg, ← ha]
  obtain ⟨hk, h⟩ := h
  obtain ⟨g28, hg⟩ : ∃ z, z = sR g27 1627 l0 (some a26) := ⟨_, rfl⟩; replace h := h g28 hg
  refine j_putR (v := (some a26)) hE fa_X11_201 hk (fun _ => hnm) (by decide +kernel : decode cX11_init 538 = .ok (.putfield 201, 3)) ?_
  rw [← hg]
  refine j_aload_n hE (by decide +kernel : decode cX11_init 541 = .ok (.aload_n 0, 1)) rfl rfl ?_
  refine j_sipush hE (by decide +kernel : decode cX11_init 542 = .ok (.sipush 200, 3)) (v := (200 : Int32)) (by decide) ?_
  obtain ⟨ho1, hf1, hn1, hn2, h⟩ := h
  obtain ⟨a29, ha⟩ : ∃ z, z = Hn g28 := ⟨_, rfl⟩; obtain ⟨g30, hg⟩ : ∃ z, z = nA g28 20 1628 l0 (200) := ⟨_, rfl⟩; replace h := h a29 g30 ha hg
  refine j_newarray (k := 20) (co := 1628) (ow := l0) (n := (200)) (atype := .int) hE ac_int (Or.inl ⟨rfl, rfl⟩) (by decide) (by decide) (by decide) ho1 hf1 (by decide +kernel : decode cX11_init 545 = .ok (.newarray .int, 2)) hn1 hn2 ?_
  rw [← hg, ← ha]
  obtain ⟨hk, h⟩ := h
  obtain ⟨g31, hg⟩ : ∃ z, z = sR g30 1628 l0 (some a29) := ⟨_, rfl⟩; replace h := h g31 hg
  refine j_putR (v := (some a29)) hE fa_X11_204 hk (fun _ => hnm) (by decide +kernel : decode cX11_init 547 = .ok (.putfield 204, 3)) ?_
  rw [← hg]
  refine j_aload_n hE (by decide +kernel : decode cX11_init 550 = .ok (.aload_n 0, 1)) rfl rfl ?_
  refine j_bipush hE (by decide +kernel : decode cX11_init 551 = .ok (.bipush 40, 2)) (v := (40 : Int32)) (by decide) ?_
  obtain ⟨ho1, hf1, hn1, hn2, h⟩ := h
  obtain ⟨a32, ha⟩ : ∃ z, z = Hn g31 := ⟨_, rfl⟩; obtain ⟨g33, hg⟩ : ∃ z, z = nA g31 20 1629 l0 (40) := ⟨_, rfl⟩; replace h := h a32 g33 ha hg
  refine j_newarray (k := 20) (co := 1629) (ow := l0) (n := (40)) (atype := .int) hE ac_int (Or.inl ⟨rfl, rfl⟩) (by decide) (by decide) (by decide) ho1 hf1 (by decide +kernel : decode cX11_init 553 = .ok (.newarray .int, 2)) hn1 hn2 ?_
  rw [← hg, ← ha]
  obtain ⟨hk, h⟩ := h
  obtain ⟨g34, hg⟩ : ∃ z, z = sR g33 1629 l0 (some a32) := ⟨_, rfl⟩; replace h := h g34 hg
  refine j_putR (v := (some a32)) hE fa_X11_207 hk (fun _ => hnm) (by decide +kernel : decode cX11_init 555 = .ok (.putfield 207, 3)) ?_
  rw [← hg]
  refine j_aload_n hE (by decide +kernel : decode cX11_init 558 = .ok (.aload_n 0, 1)) rfl rfl ?_
  refine j_bipush hE (by decide +kernel : decode cX11_init 559 = .ok (.bipush 40, 2)) (v := (40 : Int32)) (by decide) ?_
  obtain ⟨ho1, hf1, hn1, hn2, h⟩ := h
  obtain ⟨a35, ha⟩ : ∃ z, z = Hn g34 := ⟨_, rfl⟩; obtain ⟨g36, hg⟩ : ∃ z, z = nA g34 20 1630 l0 (40) := ⟨_, rfl⟩; replace h := h a35 g36 ha hg
  refine j_newarray (k := 20) (co := 1630) (ow := l0) (n := (40)) (atype := .int) hE ac_int (Or.inl ⟨rfl, rfl⟩) (by decide) (by decide) (by decide) ho1 hf1 (by decide +kernel : decode cX11_init 561 = .ok (.newarray .int, 2)) hn1 hn2 ?_
  rw [← hg, ← ha]
  obtain ⟨hk, h⟩ := h
  obtain ⟨g37, hg⟩ : ∃ z, z = sR g36 1630 l0 (some a35) := ⟨_, rfl⟩; replace h := h g37 hg
  refine j_putR (v := (some a35)) hE fa_X11_210 hk (fun _ => hnm) (by decide +kernel : decode cX11_init 563 = .ok (.putfield 210, 3)) ?_
  rw [← hg]
  refine j_iconst hE (by decide +kernel : decode cX11_init 566 = .ok (.iconst 0, 1)) (v := (0 : Int32)) (by decide) ?_
  refine j_istore_n hE (by decide +kernel : decode cX11_init 567 = .ok (.istore_n 1, 1)) rfl (Nat.le_of_ble_eq_true rfl) rfl ?_
  exact hK568 _ _ _ h
set_option maxRecDepth 100000 in
def B_M_init_312 (Γ : GAM) (K568 : Nat → Int32 → GH → Prop) (K590 : Nat → Int32 → GH → Prop) (K598 : Nat → Int32 → Int32 → GH → Prop) (K : GH → Prop) (l0 : Nat) (g : GH) : Prop :=
  l0 < Hn g ∧ free g 1586 l0 ∧ Hn g + 1 ≤ gB Γ + NCC ∧ Hu g + 30 ≤ NSS ∧ ∀ (a1 : Nat) (g2 : GH), a1 = Hn g → g2 = nA g 20 1586 l0 (30) → Kd g2 l0 = 13 ∧ ∀ g3 : GH, g3 = sR g2 1586 l0 (some a1) → l0 < Hn g3 ∧ free g3 1587 l0 ∧ Hn g3 + 1 ≤ gB Γ + NCC ∧ Hu g3 + 30 ≤ NSS ∧ ∀ (a4 : Nat) (g5 : GH), a4 = Hn g3 → g5 = nA g3 20 1587 l0 (30) → Kd g5 l0 = 13 ∧ ∀ g6 : GH, g6 = sR g5 1587 l0 (some a4) → l0 < Hn g6 ∧ free g6 1594 l0 ∧ Hn g6 + 1 ≤ gB Γ + NCC ∧ Hu g6 + 260 ≤ NSS ∧ ∀ (a7 : Nat) (g8 : GH), a7 = Hn g6 → g8 = nA g6 20 1594 l0 (260) → Kd g8 l0 = 13 ∧ ∀ g9 : GH, g9 = sR g8 1594 l0 (some a7) → l0 < Hn g9 ∧ free g9 1596 l0 ∧ Hn g9 + 1 ≤ gB Γ + NCC ∧ Hu g9 + 200 ≤ NSS ∧ ∀ (a10 : Nat) (g11 : GH), a10 = Hn g9 → g11 = nA g9 20 1596 l0 (200) → Kd g11 l0 = 13 ∧ ∀ g12 : GH, g12 = sR g11 1596 l0 (some a10) → l0 < Hn g12 ∧ free g12 1597 l0 ∧ Hn g12 + 1 ≤ gB Γ + NCC ∧ Hu g12 + 200 ≤ NSS ∧ ∀ (a13 : Nat) (g14 : GH), a13 = Hn g12 → g14 = nA g12 20 1597 l0 (200) → Kd g14 l0 = 13 ∧ ∀ g15 : GH, g15 = sR g14 1597 l0 (some a13) → l0 < Hn g15 ∧ free g15 1598 l0 ∧ Hn g15 + 1 ≤ gB Γ + NCC ∧ Hu g15 + 200 ≤ NSS ∧ ∀ (a16 : Nat) (g17 : GH), a16 = Hn g15 → g17 = nA g15 20 1598 l0 (200) → Kd g17 l0 = 13 ∧ ∀ g18 : GH, g18 = sR g17 1598 l0 (some a16) → l0 < Hn g18 ∧ free g18 1599 l0 ∧ Hn g18 + 1 ≤ gB Γ + NCC ∧ Hu g18 + 200 ≤ NSS ∧ ∀ (a19 : Nat) (g20 : GH), a19 = Hn g18 → g20 = nA g18 20 1599 l0 (200) → Kd g20 l0 = 13 ∧ ∀ g21 : GH, g21 = sR g20 1599 l0 (some a19) → l0 < Hn g21 ∧ free g21 1600 l0 ∧ Hn g21 + 1 ≤ gB Γ + NCC ∧ Hu g21 + 200 ≤ NSS ∧ ∀ (a22 : Nat) (g23 : GH), a22 = Hn g21 → g23 = nA g21 20 1600 l0 (200) → Kd g23 l0 = 13 ∧ ∀ g24 : GH, g24 = sR g23 1600 l0 (some a22) → l0 < Hn g24 ∧ free g24 1601 l0 ∧ Hn g24 + 1 ≤ gB Γ + NCC ∧ Hu g24 + 200 ≤ NSS ∧ ∀ (a25 : Nat) (g26 : GH), a25 = Hn g24 → g26 = nA g24 20 1601 l0 (200) → Kd g26 l0 = 13 ∧ ∀ g27 : GH, g27 = sR g26 1601 l0 (some a25) → l0 < Hn g27 ∧ free g27 1607 l0 ∧ Hn g27 + 1 ≤ gB Γ + NCC ∧ Hu g27 + 200 ≤ NSS ∧ ∀ (a28 : Nat) (g29 : GH), a28 = Hn g27 → g29 = nA g27 21 1607 l0 (200) → Kd g29 l0 = 13 ∧ ∀ g30 : GH, g30 = sR g29 1607 l0 (some a28) → l0 < Hn g30 ∧ free g30 1608 l0 ∧ Hn g30 + 1 ≤ gB Γ + NCC ∧ Hu g30 + 200 ≤ NSS ∧ ∀ (a31 : Nat) (g32 : GH), a31 = Hn g30 → g32 = nA g30 20 1608 l0 (200) → Kd g32 l0 = 13 ∧ ∀ g33 : GH, g33 = sR g32 1608 l0 (some a31) → l0 < Hn g33 ∧ free g33 1609 l0 ∧ Hn g33 + 1 ≤ gB Γ + NCC ∧ Hu g33 + 200 ≤ NSS ∧ ∀ (a34 : Nat) (g35 : GH), a34 = Hn g33 → g35 = nA g33 20 1609 l0 (200) → Kd g35 l0 = 13 ∧ ∀ g36 : GH, g36 = sR g35 1609 l0 (some a34) → l0 < Hn g36 ∧ free g36 1610 l0 ∧ Hn g36 + 1 ≤ gB Γ + NCC ∧ Hu g36 + 12 ≤ NSS ∧ ∀ (a37 : Nat) (g38 : GH), a37 = Hn g36 → g38 = nA g36 20 1610 l0 (12) → Kd g38 l0 = 13 ∧ ∀ g39 : GH, g39 = sR g38 1610 l0 (some a37) → l0 < Hn g39 ∧ free g39 1611 l0 ∧ Hn g39 + 1 ≤ gB Γ + NCC ∧ Hu g39 + 12 ≤ NSS ∧ ∀ (a40 : Nat) (g41 : GH), a40 = Hn g39 → g41 = nA g39 20 1611 l0 (12) → Kd g41 l0 = 13 ∧ ∀ g42 : GH, g42 = sR g41 1611 l0 (some a40) → l0 < Hn g42 ∧ free g42 1612 l0 ∧ Hn g42 + 1 ≤ gB Γ + NCC ∧ Hu g42 + 12 ≤ NSS ∧ ∀ (a43 : Nat) (g44 : GH), a43 = Hn g42 → g44 = nA g42 20 1612 l0 (12) → Kd g44 l0 = 13 ∧ ∀ g45 : GH, g45 = sR g44 1612 l0 (some a43) → l0 < Hn g45 ∧ free g45 1613 l0 ∧ Hn g45 + 1 ≤ gB Γ + NCC ∧ Hu g45 + 12 ≤ NSS ∧ ∀ (a46 : Nat) (g47 : GH), a46 = Hn g45 → g47 = nA g45 20 1613 l0 (12) → Kd g47 l0 = 13 ∧ ∀ g48 : GH, g48 = sR g47 1613 l0 (some a46) → l0 < Hn g48 ∧ free g48 1614 l0 ∧ Hn g48 + 1 ≤ gB Γ + NCC ∧ Hu g48 + 12 ≤ NSS ∧ ∀ (a49 : Nat) (g50 : GH), a49 = Hn g48 → g50 = nA g48 20 1614 l0 (12) → Kd g50 l0 = 13 ∧ ∀ g51 : GH, g51 = sR g50 1614 l0 (some a49) → Kd g51 l0 = 13 ∧ ∀ g52 : GH, g52 = sI g51 1615 l0 (100 : Int32) → B_M_init_464 Γ K568 K590 K598 K l0 g52
set_option maxHeartbeats 4000000 in
set_option maxRecDepth 100000 in
theorem S_M_init_312 {Γ : GAM} {E : EV} {K : GH → Prop} (hE : GE Γ E cX11_init 3 RX11 none 1 20 (fun r g' => r = none ∧ K g')) (hnm : E.2.2.2.2.2.2.2.2.1.name = "<init>") {K568 : Nat → Int32 → GH → Prop} {K590 : Nat → Int32 → GH → Prop} {K598 : Nat → Int32 → Int32 → GH → Prop} (hK568 : ∀ (l0 : Nat) (l1 : Int32) (g : GH), K568 l0 l1 g → JW Γ E 568 [some (.ref l0), some (.int l1), none] [] g) (hK590 : ∀ (l0 : Nat) (l1 : Int32) (g : GH), K590 l0 l1 g → JW Γ E 590 [some (.ref l0), some (.int l1), none] [] g) (hK598 : ∀ (l0 : Nat) (l1 : Int32) (l2 : Int32) (g : GH), K598 l0 l1 l2 g → JW Γ E 598 [some (.ref l0), some (.int l1), some (.int l2)] [] g) (l0 : Nat) (g : GH) (h : B_M_init_312 Γ K568 K590 K598 K l0 g) : JW Γ E 312 [some (.ref l0), none, none] [] g := by
  unfold B_M_init_312 at h
  refine j_aload_n hE (by decide +kernel : decode cX11_init 312 = .ok (.aload_n 0, 1)) rfl rfl ?_
  refine j_bipush hE (by decide +kernel : decode cX11_init 313 = .ok (.bipush 30, 2)) (v := (30 : Int32)) (by decide) ?_
  obtain ⟨ho1, hf1, hn1, hn2, h⟩ := h
  obtain ⟨a1, ha⟩ : ∃ z, z = Hn g := ⟨_, rfl⟩; obtain ⟨g2, hg⟩ : ∃ z, z = nA g 20 1586 l0 (30) := ⟨_, rfl⟩; replace h := h a1 g2 ha hg
  refine j_newarray (k := 20) (co := 1586) (ow := l0) (n := (30)) (atype := .int) hE ac_int (Or.inl ⟨rfl, rfl⟩) (by decide) (by decide) (by decide) ho1 hf1 (by decide +kernel : decode cX11_init 315 = .ok (.newarray .int, 2)) hn1 hn2 ?_
  rw [← hg, ← ha]
  obtain ⟨hk, h⟩ := h
  obtain ⟨g3, hg⟩ : ∃ z, z = sR g2 1586 l0 (some a1) := ⟨_, rfl⟩; replace h := h g3 hg
  refine j_putR (v := (some a1)) hE fa_X11_120 hk (fun _ => hnm) (by decide +kernel : decode cX11_init 317 = .ok (.putfield 120, 3)) ?_
  rw [← hg]
  refine j_aload_n hE (by decide +kernel : decode cX11_init 320 = .ok (.aload_n 0, 1)) rfl rfl ?_
  refine j_bipush hE (by decide +kernel : decode cX11_init 321 = .ok (.bipush 30, 2)) (v := (30 : Int32)) (by decide) ?_
  obtain ⟨ho1, hf1, hn1, hn2, h⟩ := h
  obtain ⟨a4, ha⟩ : ∃ z, z = Hn g3 := ⟨_, rfl⟩; obtain ⟨g5, hg⟩ : ∃ z, z = nA g3 20 1587 l0 (30) := ⟨_, rfl⟩; replace h := h a4 g5 ha hg
  refine j_newarray (k := 20) (co := 1587) (ow := l0) (n := (30)) (atype := .int) hE ac_int (Or.inl ⟨rfl, rfl⟩) (by decide) (by decide) (by decide) ho1 hf1 (by decide +kernel : decode cX11_init 323 = .ok (.newarray .int, 2)) hn1 hn2 ?_
  rw [← hg, ← ha]
  obtain ⟨hk, h⟩ := h
  obtain ⟨g6, hg⟩ : ∃ z, z = sR g5 1587 l0 (some a4) := ⟨_, rfl⟩; replace h := h g6 hg
  refine j_putR (v := (some a4)) hE fa_X11_123 hk (fun _ => hnm) (by decide +kernel : decode cX11_init 325 = .ok (.putfield 123, 3)) ?_
  rw [← hg]
  refine j_aload_n hE (by decide +kernel : decode cX11_init 328 = .ok (.aload_n 0, 1)) rfl rfl ?_
  refine j_sipush hE (by decide +kernel : decode cX11_init 329 = .ok (.sipush 260, 3)) (v := (260 : Int32)) (by decide) ?_
  obtain ⟨ho1, hf1, hn1, hn2, h⟩ := h
  obtain ⟨a7, ha⟩ : ∃ z, z = Hn g6 := ⟨_, rfl⟩; obtain ⟨g8, hg⟩ : ∃ z, z = nA g6 20 1594 l0 (260) := ⟨_, rfl⟩; replace h := h a7 g8 ha hg
  refine j_newarray (k := 20) (co := 1594) (ow := l0) (n := (260)) (atype := .int) hE ac_int (Or.inl ⟨rfl, rfl⟩) (by decide) (by decide) (by decide) ho1 hf1 (by decide +kernel : decode cX11_init 332 = .ok (.newarray .int, 2)) hn1 hn2 ?_
  rw [← hg, ← ha]
  obtain ⟨hk, h⟩ := h
  obtain ⟨g9, hg⟩ : ∃ z, z = sR g8 1594 l0 (some a7) := ⟨_, rfl⟩; replace h := h g9 hg
  refine j_putR (v := (some a7)) hE fa_X11_126 hk (fun _ => hnm) (by decide +kernel : decode cX11_init 334 = .ok (.putfield 126, 3)) ?_
  rw [← hg]
  refine j_aload_n hE (by decide +kernel : decode cX11_init 337 = .ok (.aload_n 0, 1)) rfl rfl ?_
  refine j_sipush hE (by decide +kernel : decode cX11_init 338 = .ok (.sipush 200, 3)) (v := (200 : Int32)) (by decide) ?_
  obtain ⟨ho1, hf1, hn1, hn2, h⟩ := h
  obtain ⟨a10, ha⟩ : ∃ z, z = Hn g9 := ⟨_, rfl⟩; obtain ⟨g11, hg⟩ : ∃ z, z = nA g9 20 1596 l0 (200) := ⟨_, rfl⟩; replace h := h a10 g11 ha hg
  refine j_newarray (k := 20) (co := 1596) (ow := l0) (n := (200)) (atype := .int) hE ac_int (Or.inl ⟨rfl, rfl⟩) (by decide) (by decide) (by decide) ho1 hf1 (by decide +kernel : decode cX11_init 341 = .ok (.newarray .int, 2)) hn1 hn2 ?_
  rw [← hg, ← ha]
  obtain ⟨hk, h⟩ := h
  obtain ⟨g12, hg⟩ : ∃ z, z = sR g11 1596 l0 (some a10) := ⟨_, rfl⟩; replace h := h g12 hg
  refine j_putR (v := (some a10)) hE fa_X11_129 hk (fun _ => hnm) (by decide +kernel : decode cX11_init 343 = .ok (.putfield 129, 3)) ?_
  rw [← hg]
  refine j_aload_n hE (by decide +kernel : decode cX11_init 346 = .ok (.aload_n 0, 1)) rfl rfl ?_
  refine j_sipush hE (by decide +kernel : decode cX11_init 347 = .ok (.sipush 200, 3)) (v := (200 : Int32)) (by decide) ?_
  obtain ⟨ho1, hf1, hn1, hn2, h⟩ := h
  obtain ⟨a13, ha⟩ : ∃ z, z = Hn g12 := ⟨_, rfl⟩; obtain ⟨g14, hg⟩ : ∃ z, z = nA g12 20 1597 l0 (200) := ⟨_, rfl⟩; replace h := h a13 g14 ha hg
  refine j_newarray (k := 20) (co := 1597) (ow := l0) (n := (200)) (atype := .int) hE ac_int (Or.inl ⟨rfl, rfl⟩) (by decide) (by decide) (by decide) ho1 hf1 (by decide +kernel : decode cX11_init 350 = .ok (.newarray .int, 2)) hn1 hn2 ?_
  rw [← hg, ← ha]
  obtain ⟨hk, h⟩ := h
  obtain ⟨g15, hg⟩ : ∃ z, z = sR g14 1597 l0 (some a13) := ⟨_, rfl⟩; replace h := h g15 hg
  refine j_putR (v := (some a13)) hE fa_X11_132 hk (fun _ => hnm) (by decide +kernel : decode cX11_init 352 = .ok (.putfield 132, 3)) ?_
  rw [← hg]
  refine j_aload_n hE (by decide +kernel : decode cX11_init 355 = .ok (.aload_n 0, 1)) rfl rfl ?_
  refine j_sipush hE (by decide +kernel : decode cX11_init 356 = .ok (.sipush 200, 3)) (v := (200 : Int32)) (by decide) ?_
  obtain ⟨ho1, hf1, hn1, hn2, h⟩ := h
  obtain ⟨a16, ha⟩ : ∃ z, z = Hn g15 := ⟨_, rfl⟩; obtain ⟨g17, hg⟩ : ∃ z, z = nA g15 20 1598 l0 (200) := ⟨_, rfl⟩; replace h := h a16 g17 ha hg
  refine j_newarray (k := 20) (co := 1598) (ow := l0) (n := (200)) (atype := .int) hE ac_int (Or.inl ⟨rfl, rfl⟩) (by decide) (by decide) (by decide) ho1 hf1 (by decide +kernel : decode cX11_init 359 = .ok (.newarray .int, 2)) hn1 hn2 ?_
  rw [← hg, ← ha]
  obtain ⟨hk, h⟩ := h
  obtain ⟨g18, hg⟩ : ∃ z, z = sR g17 1598 l0 (some a16) := ⟨_, rfl⟩; replace h := h g18 hg
  refine j_putR (v := (some a16)) hE fa_X11_135 hk (fun _ => hnm) (by decide +kernel : decode cX11_init 361 = .ok (.putfield 135, 3)) ?_
  rw [← hg]
  refine j_aload_n hE (by decide +kernel : decode cX11_init 364 = .ok (.aload_n 0, 1)) rfl rfl ?_
  refine j_sipush hE (by decide +kernel : decode cX11_init 365 = .ok (.sipush 200, 3)) (v := (200 : Int32)) (by decide) ?_
  obtain ⟨ho1, hf1, hn1, hn2, h⟩ := h
  obtain ⟨a19, ha⟩ : ∃ z, z = Hn g18 := ⟨_, rfl⟩; obtain ⟨g20, hg⟩ : ∃ z, z = nA g18 20 1599 l0 (200) := ⟨_, rfl⟩; replace h := h a19 g20 ha hg
  refine j_newarray (k := 20) (co := 1599) (ow := l0) (n := (200)) (atype := .int) hE ac_int (Or.inl ⟨rfl, rfl⟩) (by decide) (by decide) (by decide) ho1 hf1 (by decide +kernel : decode cX11_init 368 = .ok (.newarray .int, 2)) hn1 hn2 ?_
  rw [← hg, ← ha]
  obtain ⟨hk, h⟩ := h
  obtain ⟨g21, hg⟩ : ∃ z, z = sR g20 1599 l0 (some a19) := ⟨_, rfl⟩; replace h := h g21 hg
  refine j_putR (v := (some a19)) hE fa_X11_138 hk (fun _ => hnm) (by decide +kernel : decode cX11_init 370 = .ok (.putfield 138, 3)) ?_
  rw [← hg]
  refine j_aload_n hE (by decide +kernel : decode cX11_init 373 = .ok (.aload_n 0, 1)) rfl rfl ?_
  refine j_sipush hE (by decide +kernel : decode cX11_init 374 = .ok (.sipush 200, 3)) (v := (200 : Int32)) (by decide) ?_
  obtain ⟨ho1, hf1, hn1, hn2, h⟩ := h
  obtain ⟨a22, ha⟩ : ∃ z, z = Hn g21 := ⟨_, rfl⟩; obtain ⟨g23, hg⟩ : ∃ z, z = nA g21 20 1600 l0 (200) := ⟨_, rfl⟩; replace h := h a22 g23 ha hg
  refine j_newarray (k := 20) (co := 1600) (ow := l0) (n := (200)) (atype := .int) hE ac_int (Or.inl ⟨rfl, rfl⟩) (by decide) (by decide) (by decide) ho1 hf1 (by decide +kernel : decode cX11_init 377 = .ok (.newarray .int, 2)) hn1 hn2 ?_
  rw [← hg, ← ha]
  obtain ⟨hk, h⟩ := h
  obtain ⟨g24, hg⟩ : ∃ z, z = sR g23 1600 l0 (some a22) := ⟨_, rfl⟩; replace h := h g24 hg
  refine j_putR (v := (some a22)) hE fa_X11_141 hk (fun _ => hnm) (by decide +kernel : decode cX11_init 379 = .ok (.putfield 141, 3)) ?_
  rw [← hg]
  refine j_aload_n hE (by decide +kernel : decode cX11_init 382 = .ok (.aload_n 0, 1)) rfl rfl ?_
  refine j_sipush hE (by decide +kernel : decode cX11_init 383 = .ok (.sipush 200, 3)) (v := (200 : Int32)) (by decide) ?_
  obtain ⟨ho1, hf1, hn1, hn2, h⟩ := h
  obtain ⟨a25, ha⟩ : ∃ z, z = Hn g24 := ⟨_, rfl⟩; obtain ⟨g26, hg⟩ : ∃ z, z = nA g24 20 1601 l0 (200) := ⟨_, rfl⟩; replace h := h a25 g26 ha hg
  refine j_newarray (k := 20) (co := 1601) (ow := l0) (n := (200)) (atype := .int) hE ac_int (Or.inl ⟨rfl, rfl⟩) (by decide) (by decide) (by decide) ho1 hf1 (by decide +kernel : decode cX11_init 386 = .ok (.newarray .int, 2)) hn1 hn2 ?_
  rw [← hg, ← ha]
  obtain ⟨hk, h⟩ := h
  obtain ⟨g27, hg⟩ : ∃ z, z = sR g26 1601 l0 (some a25) := ⟨_, rfl⟩; replace h := h g27 hg
  refine j_putR (v := (some a25)) hE fa_X11_144 hk (fun _ => hnm) (by decide +kernel : decode cX11_init 388 = .ok (.putfield 144, 3)) ?_
  rw [← hg]
  refine j_aload_n hE (by decide +kernel : decode cX11_init 391 = .ok (.aload_n 0, 1)) rfl rfl ?_
  refine j_sipush hE (by decide +kernel : decode cX11_init 392 = .ok (.sipush 200, 3)) (v := (200 : Int32)) (by decide) ?_
  obtain ⟨ho1, hf1, hn1, hn2, h⟩ := h
  obtain ⟨a28, ha⟩ : ∃ z, z = Hn g27 := ⟨_, rfl⟩; obtain ⟨g29, hg⟩ : ∃ z, z = nA g27 21 1607 l0 (200) := ⟨_, rfl⟩; replace h := h a28 g29 ha hg
  refine j_newarray (k := 21) (co := 1607) (ow := l0) (n := (200)) (atype := .boolean) hE ac_boolean (Or.inr (Or.inl ⟨rfl, rfl⟩)) (by decide) (by decide) (by decide) ho1 hf1 (by decide +kernel : decode cX11_init 395 = .ok (.newarray .boolean, 2)) hn1 hn2 ?_
  rw [← hg, ← ha]
  obtain ⟨hk, h⟩ := h
  obtain ⟨g30, hg⟩ : ∃ z, z = sR g29 1607 l0 (some a28) := ⟨_, rfl⟩; replace h := h g30 hg
  refine j_putR (v := (some a28)) hE fa_X11_147 hk (fun _ => hnm) (by decide +kernel : decode cX11_init 397 = .ok (.putfield 147, 3)) ?_
  rw [← hg]
  refine j_aload_n hE (by decide +kernel : decode cX11_init 400 = .ok (.aload_n 0, 1)) rfl rfl ?_
  refine j_sipush hE (by decide +kernel : decode cX11_init 401 = .ok (.sipush 200, 3)) (v := (200 : Int32)) (by decide) ?_
  obtain ⟨ho1, hf1, hn1, hn2, h⟩ := h
  obtain ⟨a31, ha⟩ : ∃ z, z = Hn g30 := ⟨_, rfl⟩; obtain ⟨g32, hg⟩ : ∃ z, z = nA g30 20 1608 l0 (200) := ⟨_, rfl⟩; replace h := h a31 g32 ha hg
  refine j_newarray (k := 20) (co := 1608) (ow := l0) (n := (200)) (atype := .int) hE ac_int (Or.inl ⟨rfl, rfl⟩) (by decide) (by decide) (by decide) ho1 hf1 (by decide +kernel : decode cX11_init 404 = .ok (.newarray .int, 2)) hn1 hn2 ?_
  rw [← hg, ← ha]
  obtain ⟨hk, h⟩ := h
  obtain ⟨g33, hg⟩ : ∃ z, z = sR g32 1608 l0 (some a31) := ⟨_, rfl⟩; replace h := h g33 hg
  refine j_putR (v := (some a31)) hE fa_X11_150 hk (fun _ => hnm) (by decide +kernel : decode cX11_init 406 = .ok (.putfield 150, 3)) ?_
  rw [← hg]
  refine j_aload_n hE (by decide +kernel : decode cX11_init 409 = .ok (.aload_n 0, 1)) rfl rfl ?_
  refine j_sipush hE (by decide +kernel : decode cX11_init 410 = .ok (.sipush 200, 3)) (v := (200 : Int32)) (by decide) ?_
  obtain ⟨ho1, hf1, hn1, hn2, h⟩ := h
  obtain ⟨a34, ha⟩ : ∃ z, z = Hn g33 := ⟨_, rfl⟩; obtain ⟨g35, hg⟩ : ∃ z, z = nA g33 20 1609 l0 (200) := ⟨_, rfl⟩; replace h := h a34 g35 ha hg
  refine j_newarray (k := 20) (co := 1609) (ow := l0) (n := (200)) (atype := .int) hE ac_int (Or.inl ⟨rfl, rfl⟩) (by decide) (by decide) (by decide) ho1 hf1 (by decide +kernel : decode cX11_init 413 = .ok (.newarray .int, 2)) hn1 hn2 ?_
  rw [← hg, ← ha]
  obtain ⟨hk, h⟩ := h
  obtain ⟨g36, hg⟩ : ∃ z, z = sR g35 1609 l0 (some a34) := ⟨_, rfl⟩; replace h := h g36 hg
  refine j_putR (v := (some a34)) hE fa_X11_153 hk (fun _ => hnm) (by decide +kernel : decode cX11_init 415 = .ok (.putfield 153, 3)) ?_
  rw [← hg]
  refine j_aload_n hE (by decide +kernel : decode cX11_init 418 = .ok (.aload_n 0, 1)) rfl rfl ?_
  refine j_bipush hE (by decide +kernel : decode cX11_init 419 = .ok (.bipush 12, 2)) (v := (12 : Int32)) (by decide) ?_
  obtain ⟨ho1, hf1, hn1, hn2, h⟩ := h
  obtain ⟨a37, ha⟩ : ∃ z, z = Hn g36 := ⟨_, rfl⟩; obtain ⟨g38, hg⟩ : ∃ z, z = nA g36 20 1610 l0 (12) := ⟨_, rfl⟩; replace h := h a37 g38 ha hg
  refine j_newarray (k := 20) (co := 1610) (ow := l0) (n := (12)) (atype := .int) hE ac_int (Or.inl ⟨rfl, rfl⟩) (by decide) (by decide) (by decide) ho1 hf1 (by decide +kernel : decode cX11_init 421 = .ok (.newarray .int, 2)) hn1 hn2 ?_
  rw [← hg, ← ha]
  obtain ⟨hk, h⟩ := h
  obtain ⟨g39, hg⟩ : ∃ z, z = sR g38 1610 l0 (some a37) := ⟨_, rfl⟩; replace h := h g39 hg
  refine j_putR (v := (some a37)) hE fa_X11_156 hk (fun _ => hnm) (by decide +kernel : decode cX11_init 423 = .ok (.putfield 156, 3)) ?_
  rw [← hg]
  refine j_aload_n hE (by decide +kernel : decode cX11_init 426 = .ok (.aload_n 0, 1)) rfl rfl ?_
  refine j_bipush hE (by decide +kernel : decode cX11_init 427 = .ok (.bipush 12, 2)) (v := (12 : Int32)) (by decide) ?_
  obtain ⟨ho1, hf1, hn1, hn2, h⟩ := h
  obtain ⟨a40, ha⟩ : ∃ z, z = Hn g39 := ⟨_, rfl⟩; obtain ⟨g41, hg⟩ : ∃ z, z = nA g39 20 1611 l0 (12) := ⟨_, rfl⟩; replace h := h a40 g41 ha hg
  refine j_newarray (k := 20) (co := 1611) (ow := l0) (n := (12)) (atype := .int) hE ac_int (Or.inl ⟨rfl, rfl⟩) (by decide) (by decide) (by decide) ho1 hf1 (by decide +kernel : decode cX11_init 429 = .ok (.newarray .int, 2)) hn1 hn2 ?_
  rw [← hg, ← ha]
  obtain ⟨hk, h⟩ := h
  obtain ⟨g42, hg⟩ : ∃ z, z = sR g41 1611 l0 (some a40) := ⟨_, rfl⟩; replace h := h g42 hg
  refine j_putR (v := (some a40)) hE fa_X11_159 hk (fun _ => hnm) (by decide +kernel : decode cX11_init 431 = .ok (.putfield 159, 3)) ?_
  rw [← hg]
  refine j_aload_n hE (by decide +kernel : decode cX11_init 434 = .ok (.aload_n 0, 1)) rfl rfl ?_
  refine j_bipush hE (by decide +kernel : decode cX11_init 435 = .ok (.bipush 12, 2)) (v := (12 : Int32)) (by decide) ?_
  obtain ⟨ho1, hf1, hn1, hn2, h⟩ := h
  obtain ⟨a43, ha⟩ : ∃ z, z = Hn g42 := ⟨_, rfl⟩; obtain ⟨g44, hg⟩ : ∃ z, z = nA g42 20 1612 l0 (12) := ⟨_, rfl⟩; replace h := h a43 g44 ha hg
  refine j_newarray (k := 20) (co := 1612) (ow := l0) (n := (12)) (atype := .int) hE ac_int (Or.inl ⟨rfl, rfl⟩) (by decide) (by decide) (by decide) ho1 hf1 (by decide +kernel : decode cX11_init 437 = .ok (.newarray .int, 2)) hn1 hn2 ?_
  rw [← hg, ← ha]
  obtain ⟨hk, h⟩ := h
  obtain ⟨g45, hg⟩ : ∃ z, z = sR g44 1612 l0 (some a43) := ⟨_, rfl⟩; replace h := h g45 hg
  refine j_putR (v := (some a43)) hE fa_X11_162 hk (fun _ => hnm) (by decide +kernel : decode cX11_init 439 = .ok (.putfield 162, 3)) ?_
  rw [← hg]
  refine j_aload_n hE (by decide +kernel : decode cX11_init 442 = .ok (.aload_n 0, 1)) rfl rfl ?_
  refine j_bipush hE (by decide +kernel : decode cX11_init 443 = .ok (.bipush 12, 2)) (v := (12 : Int32)) (by decide) ?_
  obtain ⟨ho1, hf1, hn1, hn2, h⟩ := h
  obtain ⟨a46, ha⟩ : ∃ z, z = Hn g45 := ⟨_, rfl⟩; obtain ⟨g47, hg⟩ : ∃ z, z = nA g45 20 1613 l0 (12) := ⟨_, rfl⟩; replace h := h a46 g47 ha hg
  refine j_newarray (k := 20) (co := 1613) (ow := l0) (n := (12)) (atype := .int) hE ac_int (Or.inl ⟨rfl, rfl⟩) (by decide) (by decide) (by decide) ho1 hf1 (by decide +kernel : decode cX11_init 445 = .ok (.newarray .int, 2)) hn1 hn2 ?_
  rw [← hg, ← ha]
  obtain ⟨hk, h⟩ := h
  obtain ⟨g48, hg⟩ : ∃ z, z = sR g47 1613 l0 (some a46) := ⟨_, rfl⟩; replace h := h g48 hg
  refine j_putR (v := (some a46)) hE fa_X11_165 hk (fun _ => hnm) (by decide +kernel : decode cX11_init 447 = .ok (.putfield 165, 3)) ?_
  rw [← hg]
  refine j_aload_n hE (by decide +kernel : decode cX11_init 450 = .ok (.aload_n 0, 1)) rfl rfl ?_
  refine j_bipush hE (by decide +kernel : decode cX11_init 451 = .ok (.bipush 12, 2)) (v := (12 : Int32)) (by decide) ?_
  obtain ⟨ho1, hf1, hn1, hn2, h⟩ := h
  obtain ⟨a49, ha⟩ : ∃ z, z = Hn g48 := ⟨_, rfl⟩; obtain ⟨g50, hg⟩ : ∃ z, z = nA g48 20 1614 l0 (12) := ⟨_, rfl⟩; replace h := h a49 g50 ha hg
  refine j_newarray (k := 20) (co := 1614) (ow := l0) (n := (12)) (atype := .int) hE ac_int (Or.inl ⟨rfl, rfl⟩) (by decide) (by decide) (by decide) ho1 hf1 (by decide +kernel : decode cX11_init 453 = .ok (.newarray .int, 2)) hn1 hn2 ?_
  rw [← hg, ← ha]
  obtain ⟨hk, h⟩ := h
  obtain ⟨g51, hg⟩ : ∃ z, z = sR g50 1614 l0 (some a49) := ⟨_, rfl⟩; replace h := h g51 hg
  refine j_putR (v := (some a49)) hE fa_X11_168 hk (fun _ => hnm) (by decide +kernel : decode cX11_init 455 = .ok (.putfield 168, 3)) ?_
  rw [← hg]
  refine j_aload_n hE (by decide +kernel : decode cX11_init 458 = .ok (.aload_n 0, 1)) rfl rfl ?_
  refine j_bipush hE (by decide +kernel : decode cX11_init 459 = .ok (.bipush 100, 2)) (v := (100 : Int32)) (by decide) ?_
  obtain ⟨hk, h⟩ := h
  obtain ⟨g52, hg⟩ : ∃ z, z = sI g51 1615 l0 (100 : Int32) := ⟨_, rfl⟩; replace h := h g52 hg
  refine j_putI hE fa_X11_171 hk (fun q => by cases q) (by decide +kernel : decode cX11_init 461 = .ok (.putfield 171, 3)) ?_
  rw [← hg]
  exact S_M_init_464 hE hnm hK568 hK590 hK598 _ _ h
set_option maxRecDepth 100000 in
def B_M_init_155 (Γ : GAM) (K568 : Nat → Int32 → GH → Prop) (K590 : Nat → Int32 → GH → Prop) (K598 : Nat → Int32 → Int32 → GH → Prop) (K : GH → Prop) (l0 : Nat) (g : GH) : Prop :=
  l0 < Hn g ∧ free g 1566 l0 ∧ Hn g + 1 ≤ gB Γ + NCC ∧ Hu g + 200 ≤ NSS ∧ ∀ (a1 : Nat) (g2 : GH), a1 = Hn g → g2 = nA g 20 1566 l0 (200) → Kd g2 l0 = 13 ∧ ∀ g3 : GH, g3 = sR g2 1566 l0 (some a1) → l0 < Hn g3 ∧ free g3 1567 l0 ∧ Hn g3 + 1 ≤ gB Γ + NCC ∧ Hu g3 + 200 ≤ NSS ∧ ∀ (a4 : Nat) (g5 : GH), a4 = Hn g3 → g5 = nA g3 20 1567 l0 (200) → Kd g5 l0 = 13 ∧ ∀ g6 : GH, g6 = sR g5 1567 l0 (some a4) → l0 < Hn g6 ∧ free g6 1568 l0 ∧ Hn g6 + 1 ≤ gB Γ + NCC ∧ Hu g6 + 200 ≤ NSS ∧ ∀ (a7 : Nat) (g8 : GH), a7 = Hn g6 → g8 = nA g6 20 1568 l0 (200) → Kd g8 l0 = 13 ∧ ∀ g9 : GH, g9 = sR g8 1568 l0 (some a7) → l0 < Hn g9 ∧ free g9 1571 l0 ∧ Hn g9 + 1 ≤ gB Γ + NCC ∧ Hu g9 + 400 ≤ NSS ∧ ∀ (a10 : Nat) (g11 : GH), a10 = Hn g9 → g11 = nA g9 20 1571 l0 (400) → Kd g11 l0 = 13 ∧ ∀ g12 : GH, g12 = sR g11 1571 l0 (some a10) → l0 < Hn g12 ∧ free g12 1572 l0 ∧ Hn g12 + 1 ≤ gB Γ + NCC ∧ Hu g12 + 400 ≤ NSS ∧ ∀ (a13 : Nat) (g14 : GH), a13 = Hn g12 → g14 = nA g12 20 1572 l0 (400) → Kd g14 l0 = 13 ∧ ∀ g15 : GH, g15 = sR g14 1572 l0 (some a13) → l0 < Hn g15 ∧ free g15 1573 l0 ∧ Hn g15 + 1 ≤ gB Γ + NCC ∧ Hu g15 + 400 ≤ NSS ∧ ∀ (a16 : Nat) (g17 : GH), a16 = Hn g15 → g17 = nA g15 20 1573 l0 (400) → Kd g17 l0 = 13 ∧ ∀ g18 : GH, g18 = sR g17 1573 l0 (some a16) → l0 < Hn g18 ∧ free g18 1574 l0 ∧ Hn g18 + 1 ≤ gB Γ + NCC ∧ Hu g18 + 600 ≤ NSS ∧ ∀ (a19 : Nat) (g20 : GH), a19 = Hn g18 → g20 = nA g18 20 1574 l0 (600) → Kd g20 l0 = 13 ∧ ∀ g21 : GH, g21 = sR g20 1574 l0 (some a19) → l0 < Hn g21 ∧ free g21 1575 l0 ∧ Hn g21 + 1 ≤ gB Γ + NCC ∧ Hu g21 + 600 ≤ NSS ∧ ∀ (a22 : Nat) (g23 : GH), a22 = Hn g21 → g23 = nA g21 20 1575 l0 (600) → Kd g23 l0 = 13 ∧ ∀ g24 : GH, g24 = sR g23 1575 l0 (some a22) → l0 < Hn g24 ∧ free g24 1576 l0 ∧ Hn g24 + 1 ≤ gB Γ + NCC ∧ Hu g24 + 600 ≤ NSS ∧ ∀ (a25 : Nat) (g26 : GH), a25 = Hn g24 → g26 = nA g24 20 1576 l0 (600) → Kd g26 l0 = 13 ∧ ∀ g27 : GH, g27 = sR g26 1576 l0 (some a25) → l0 < Hn g27 ∧ free g27 1577 l0 ∧ Hn g27 + 1 ≤ gB Γ + NCC ∧ Hu g27 + 600 ≤ NSS ∧ ∀ (a28 : Nat) (g29 : GH), a28 = Hn g27 → g29 = nA g27 21 1577 l0 (600) → Kd g29 l0 = 13 ∧ ∀ g30 : GH, g30 = sR g29 1577 l0 (some a28) → l0 < Hn g30 ∧ free g30 1578 l0 ∧ Hn g30 + 1 ≤ gB Γ + NCC ∧ Hu g30 + 100 ≤ NSS ∧ ∀ (a31 : Nat) (g32 : GH), a31 = Hn g30 → g32 = nA g30 20 1578 l0 (100) → Kd g32 l0 = 13 ∧ ∀ g33 : GH, g33 = sR g32 1578 l0 (some a31) → l0 < Hn g33 ∧ free g33 1579 l0 ∧ Hn g33 + 1 ≤ gB Γ + NCC ∧ Hu g33 + 100 ≤ NSS ∧ ∀ (a34 : Nat) (g35 : GH), a34 = Hn g33 → g35 = nA g33 20 1579 l0 (100) → Kd g35 l0 = 13 ∧ ∀ g36 : GH, g36 = sR g35 1579 l0 (some a34) → l0 < Hn g36 ∧ free g36 1580 l0 ∧ Hn g36 + 1 ≤ gB Γ + NCC ∧ Hu g36 + 100 ≤ NSS ∧ ∀ (a37 : Nat) (g38 : GH), a37 = Hn g36 → g38 = nA g36 20 1580 l0 (100) → Kd g38 l0 = 13 ∧ ∀ g39 : GH, g39 = sR g38 1580 l0 (some a37) → l0 < Hn g39 ∧ free g39 1581 l0 ∧ Hn g39 + 1 ≤ gB Γ + NCC ∧ Hu g39 + 200 ≤ NSS ∧ ∀ (a40 : Nat) (g41 : GH), a40 = Hn g39 → g41 = nA g39 20 1581 l0 (200) → Kd g41 l0 = 13 ∧ ∀ g42 : GH, g42 = sR g41 1581 l0 (some a40) → l0 < Hn g42 ∧ free g42 1582 l0 ∧ Hn g42 + 1 ≤ gB Γ + NCC ∧ Hu g42 + 15600 ≤ NSS ∧ ∀ (a43 : Nat) (g44 : GH), a43 = Hn g42 → g44 = nA g42 20 1582 l0 (15600) → Kd g44 l0 = 13 ∧ ∀ g45 : GH, g45 = sR g44 1582 l0 (some a43) → l0 < Hn g45 ∧ free g45 1583 l0 ∧ Hn g45 + 1 ≤ gB Γ + NCC ∧ Hu g45 + 520 ≤ NSS ∧ ∀ (a46 : Nat) (g47 : GH), a46 = Hn g45 → g47 = nA g45 20 1583 l0 (520) → Kd g47 l0 = 13 ∧ ∀ g48 : GH, g48 = sR g47 1583 l0 (some a46) → l0 < Hn g48 ∧ free g48 1584 l0 ∧ Hn g48 + 1 ≤ gB Γ + NCC ∧ Hu g48 + 30 ≤ NSS ∧ ∀ (a49 : Nat) (g50 : GH), a49 = Hn g48 → g50 = nA g48 20 1584 l0 (30) → Kd g50 l0 = 13 ∧ ∀ g51 : GH, g51 = sR g50 1584 l0 (some a49) → l0 < Hn g51 ∧ free g51 1585 l0 ∧ Hn g51 + 1 ≤ gB Γ + NCC ∧ Hu g51 + 30 ≤ NSS ∧ ∀ (a52 : Nat) (g53 : GH), a52 = Hn g51 → g53 = nA g51 20 1585 l0 (30) → Kd g53 l0 = 13 ∧ ∀ g54 : GH, g54 = sR g53 1585 l0 (some a52) → B_M_init_312 Γ K568 K590 K598 K l0 g54
set_option maxHeartbeats 4000000 in
set_option maxRecDepth 100000 in
theorem S_M_init_155 {Γ : GAM} {E : EV} {K : GH → Prop} (hE : GE Γ E cX11_init 3 RX11 none 1 20 (fun r g' => r = none ∧ K g')) (hnm : E.2.2.2.2.2.2.2.2.1.name = "<init>") {K568 : Nat → Int32 → GH → Prop} {K590 : Nat → Int32 → GH → Prop} {K598 : Nat → Int32 → Int32 → GH → Prop} (hK568 : ∀ (l0 : Nat) (l1 : Int32) (g : GH), K568 l0 l1 g → JW Γ E 568 [some (.ref l0), some (.int l1), none] [] g) (hK590 : ∀ (l0 : Nat) (l1 : Int32) (g : GH), K590 l0 l1 g → JW Γ E 590 [some (.ref l0), some (.int l1), none] [] g) (hK598 : ∀ (l0 : Nat) (l1 : Int32) (l2 : Int32) (g : GH), K598 l0 l1 l2 g → JW Γ E 598 [some (.ref l0), some (.int l1), some (.int l2)] [] g) (l0 : Nat) (g : GH) (h : B_M_init_155 Γ K568 K590 K598 K l0 g) : JW Γ E 155 [some (.ref l0), none, none] [] g := by
  unfold B_M_init_155 at h
  refine j_aload_n hE (by decide +kernel : decode cX11_init 155 = .ok (.aload_n 0, 1)) rfl rfl ?_
  refine j_sipush hE (by decide +kernel : decode cX11_init 156 = .ok (.sipush 200, 3)) (v := (200 : Int32)) (by decide) ?_
  obtain ⟨ho1, hf1, hn1, hn2, h⟩ := h
  obtain ⟨a1, ha⟩ : ∃ z, z = Hn g := ⟨_, rfl⟩; obtain ⟨g2, hg⟩ : ∃ z, z = nA g 20 1566 l0 (200) := ⟨_, rfl⟩; replace h := h a1 g2 ha hg
  refine j_newarray (k := 20) (co := 1566) (ow := l0) (n := (200)) (atype := .int) hE ac_int (Or.inl ⟨rfl, rfl⟩) (by decide) (by decide) (by decide) ho1 hf1 (by decide +kernel : decode cX11_init 159 = .ok (.newarray .int, 2)) hn1 hn2 ?_
  rw [← hg, ← ha]
  obtain ⟨hk, h⟩ := h
  obtain ⟨g3, hg⟩ : ∃ z, z = sR g2 1566 l0 (some a1) := ⟨_, rfl⟩; replace h := h g3 hg
  refine j_putR (v := (some a1)) hE fa_X11_65 hk (fun _ => hnm) (by decide +kernel : decode cX11_init 161 = .ok (.putfield 65, 3)) ?_
  rw [← hg]
  refine j_aload_n hE (by decide +kernel : decode cX11_init 164 = .ok (.aload_n 0, 1)) rfl rfl ?_
  refine j_sipush hE (by decide +kernel : decode cX11_init 165 = .ok (.sipush 200, 3)) (v := (200 : Int32)) (by decide) ?_
  obtain ⟨ho1, hf1, hn1, hn2, h⟩ := h
  obtain ⟨a4, ha⟩ : ∃ z, z = Hn g3 := ⟨_, rfl⟩; obtain ⟨g5, hg⟩ : ∃ z, z = nA g3 20 1567 l0 (200) := ⟨_, rfl⟩; replace h := h a4 g5 ha hg
  refine j_newarray (k := 20) (co := 1567) (ow := l0) (n := (200)) (atype := .int) hE ac_int (Or.inl ⟨rfl, rfl⟩) (by decide) (by decide) (by decide) ho1 hf1 (by decide +kernel : decode cX11_init 168 = .ok (.newarray .int, 2)) hn1 hn2 ?_
  rw [← hg, ← ha]
  obtain ⟨hk, h⟩ := h
  obtain ⟨g6, hg⟩ : ∃ z, z = sR g5 1567 l0 (some a4) := ⟨_, rfl⟩; replace h := h g6 hg
  refine j_putR (v := (some a4)) hE fa_X11_68 hk (fun _ => hnm) (by decide +kernel : decode cX11_init 170 = .ok (.putfield 68, 3)) ?_
  rw [← hg]
  refine j_aload_n hE (by decide +kernel : decode cX11_init 173 = .ok (.aload_n 0, 1)) rfl rfl ?_
  refine j_sipush hE (by decide +kernel : decode cX11_init 174 = .ok (.sipush 200, 3)) (v := (200 : Int32)) (by decide) ?_
  obtain ⟨ho1, hf1, hn1, hn2, h⟩ := h
  obtain ⟨a7, ha⟩ : ∃ z, z = Hn g6 := ⟨_, rfl⟩; obtain ⟨g8, hg⟩ : ∃ z, z = nA g6 20 1568 l0 (200) := ⟨_, rfl⟩; replace h := h a7 g8 ha hg
  refine j_newarray (k := 20) (co := 1568) (ow := l0) (n := (200)) (atype := .int) hE ac_int (Or.inl ⟨rfl, rfl⟩) (by decide) (by decide) (by decide) ho1 hf1 (by decide +kernel : decode cX11_init 177 = .ok (.newarray .int, 2)) hn1 hn2 ?_
  rw [← hg, ← ha]
  obtain ⟨hk, h⟩ := h
  obtain ⟨g9, hg⟩ : ∃ z, z = sR g8 1568 l0 (some a7) := ⟨_, rfl⟩; replace h := h g9 hg
  refine j_putR (v := (some a7)) hE fa_X11_71 hk (fun _ => hnm) (by decide +kernel : decode cX11_init 179 = .ok (.putfield 71, 3)) ?_
  rw [← hg]
  refine j_aload_n hE (by decide +kernel : decode cX11_init 182 = .ok (.aload_n 0, 1)) rfl rfl ?_
  refine j_sipush hE (by decide +kernel : decode cX11_init 183 = .ok (.sipush 400, 3)) (v := (400 : Int32)) (by decide) ?_
  obtain ⟨ho1, hf1, hn1, hn2, h⟩ := h
  obtain ⟨a10, ha⟩ : ∃ z, z = Hn g9 := ⟨_, rfl⟩; obtain ⟨g11, hg⟩ : ∃ z, z = nA g9 20 1571 l0 (400) := ⟨_, rfl⟩; replace h := h a10 g11 ha hg
  refine j_newarray (k := 20) (co := 1571) (ow := l0) (n := (400)) (atype := .int) hE ac_int (Or.inl ⟨rfl, rfl⟩) (by decide) (by decide) (by decide) ho1 hf1 (by decide +kernel : decode cX11_init 186 = .ok (.newarray .int, 2)) hn1 hn2 ?_
  rw [← hg, ← ha]
  obtain ⟨hk, h⟩ := h
  obtain ⟨g12, hg⟩ : ∃ z, z = sR g11 1571 l0 (some a10) := ⟨_, rfl⟩; replace h := h g12 hg
  refine j_putR (v := (some a10)) hE fa_X11_74 hk (fun _ => hnm) (by decide +kernel : decode cX11_init 188 = .ok (.putfield 74, 3)) ?_
  rw [← hg]
  refine j_aload_n hE (by decide +kernel : decode cX11_init 191 = .ok (.aload_n 0, 1)) rfl rfl ?_
  refine j_sipush hE (by decide +kernel : decode cX11_init 192 = .ok (.sipush 400, 3)) (v := (400 : Int32)) (by decide) ?_
  obtain ⟨ho1, hf1, hn1, hn2, h⟩ := h
  obtain ⟨a13, ha⟩ : ∃ z, z = Hn g12 := ⟨_, rfl⟩; obtain ⟨g14, hg⟩ : ∃ z, z = nA g12 20 1572 l0 (400) := ⟨_, rfl⟩; replace h := h a13 g14 ha hg
  refine j_newarray (k := 20) (co := 1572) (ow := l0) (n := (400)) (atype := .int) hE ac_int (Or.inl ⟨rfl, rfl⟩) (by decide) (by decide) (by decide) ho1 hf1 (by decide +kernel : decode cX11_init 195 = .ok (.newarray .int, 2)) hn1 hn2 ?_
  rw [← hg, ← ha]
  obtain ⟨hk, h⟩ := h
  obtain ⟨g15, hg⟩ : ∃ z, z = sR g14 1572 l0 (some a13) := ⟨_, rfl⟩; replace h := h g15 hg
  refine j_putR (v := (some a13)) hE fa_X11_77 hk (fun _ => hnm) (by decide +kernel : decode cX11_init 197 = .ok (.putfield 77, 3)) ?_
  rw [← hg]
  refine j_aload_n hE (by decide +kernel : decode cX11_init 200 = .ok (.aload_n 0, 1)) rfl rfl ?_
  refine j_sipush hE (by decide +kernel : decode cX11_init 201 = .ok (.sipush 400, 3)) (v := (400 : Int32)) (by decide) ?_
  obtain ⟨ho1, hf1, hn1, hn2, h⟩ := h
  obtain ⟨a16, ha⟩ : ∃ z, z = Hn g15 := ⟨_, rfl⟩; obtain ⟨g17, hg⟩ : ∃ z, z = nA g15 20 1573 l0 (400) := ⟨_, rfl⟩; replace h := h a16 g17 ha hg
  refine j_newarray (k := 20) (co := 1573) (ow := l0) (n := (400)) (atype := .int) hE ac_int (Or.inl ⟨rfl, rfl⟩) (by decide) (by decide) (by decide) ho1 hf1 (by decide +kernel : decode cX11_init 204 = .ok (.newarray .int, 2)) hn1 hn2 ?_
  rw [← hg, ← ha]
  obtain ⟨hk, h⟩ := h
  obtain ⟨g18, hg⟩ : ∃ z, z = sR g17 1573 l0 (some a16) := ⟨_, rfl⟩; replace h := h g18 hg
  refine j_putR (v := (some a16)) hE fa_X11_80 hk (fun _ => hnm) (by decide +kernel : decode cX11_init 206 = .ok (.putfield 80, 3)) ?_
  rw [← hg]
  refine j_aload_n hE (by decide +kernel : decode cX11_init 209 = .ok (.aload_n 0, 1)) rfl rfl ?_
  refine j_sipush hE (by decide +kernel : decode cX11_init 210 = .ok (.sipush 600, 3)) (v := (600 : Int32)) (by decide) ?_
  obtain ⟨ho1, hf1, hn1, hn2, h⟩ := h
  obtain ⟨a19, ha⟩ : ∃ z, z = Hn g18 := ⟨_, rfl⟩; obtain ⟨g20, hg⟩ : ∃ z, z = nA g18 20 1574 l0 (600) := ⟨_, rfl⟩; replace h := h a19 g20 ha hg
  refine j_newarray (k := 20) (co := 1574) (ow := l0) (n := (600)) (atype := .int) hE ac_int (Or.inl ⟨rfl, rfl⟩) (by decide) (by decide) (by decide) ho1 hf1 (by decide +kernel : decode cX11_init 213 = .ok (.newarray .int, 2)) hn1 hn2 ?_
  rw [← hg, ← ha]
  obtain ⟨hk, h⟩ := h
  obtain ⟨g21, hg⟩ : ∃ z, z = sR g20 1574 l0 (some a19) := ⟨_, rfl⟩; replace h := h g21 hg
  refine j_putR (v := (some a19)) hE fa_X11_83 hk (fun _ => hnm) (by decide +kernel : decode cX11_init 215 = .ok (.putfield 83, 3)) ?_
  rw [← hg]
  refine j_aload_n hE (by decide +kernel : decode cX11_init 218 = .ok (.aload_n 0, 1)) rfl rfl ?_
  refine j_sipush hE (by decide +kernel : decode cX11_init 219 = .ok (.sipush 600, 3)) (v := (600 : Int32)) (by decide) ?_
  obtain ⟨ho1, hf1, hn1, hn2, h⟩ := h
  obtain ⟨a22, ha⟩ : ∃ z, z = Hn g21 := ⟨_, rfl⟩; obtain ⟨g23, hg⟩ : ∃ z, z = nA g21 20 1575 l0 (600) := ⟨_, rfl⟩; replace h := h a22 g23 ha hg
  refine j_newarray (k := 20) (co := 1575) (ow := l0) (n := (600)) (atype := .int) hE ac_int (Or.inl ⟨rfl, rfl⟩) (by decide) (by decide) (by decide) ho1 hf1 (by decide +kernel : decode cX11_init 222 = .ok (.newarray .int, 2)) hn1 hn2 ?_
  rw [← hg, ← ha]
  obtain ⟨hk, h⟩ := h
  obtain ⟨g24, hg⟩ : ∃ z, z = sR g23 1575 l0 (some a22) := ⟨_, rfl⟩; replace h := h g24 hg
  refine j_putR (v := (some a22)) hE fa_X11_86 hk (fun _ => hnm) (by decide +kernel : decode cX11_init 224 = .ok (.putfield 86, 3)) ?_
  rw [← hg]
  refine j_aload_n hE (by decide +kernel : decode cX11_init 227 = .ok (.aload_n 0, 1)) rfl rfl ?_
  refine j_sipush hE (by decide +kernel : decode cX11_init 228 = .ok (.sipush 600, 3)) (v := (600 : Int32)) (by decide) ?_
  obtain ⟨ho1, hf1, hn1, hn2, h⟩ := h
  obtain ⟨a25, ha⟩ : ∃ z, z = Hn g24 := ⟨_, rfl⟩; obtain ⟨g26, hg⟩ : ∃ z, z = nA g24 20 1576 l0 (600) := ⟨_, rfl⟩; replace h := h a25 g26 ha hg
  refine j_newarray (k := 20) (co := 1576) (ow := l0) (n := (600)) (atype := .int) hE ac_int (Or.inl ⟨rfl, rfl⟩) (by decide) (by decide) (by decide) ho1 hf1 (by decide +kernel : decode cX11_init 231 = .ok (.newarray .int, 2)) hn1 hn2 ?_
  rw [← hg, ← ha]
  obtain ⟨hk, h⟩ := h
  obtain ⟨g27, hg⟩ : ∃ z, z = sR g26 1576 l0 (some a25) := ⟨_, rfl⟩; replace h := h g27 hg
  refine j_putR (v := (some a25)) hE fa_X11_89 hk (fun _ => hnm) (by decide +kernel : decode cX11_init 233 = .ok (.putfield 89, 3)) ?_
  rw [← hg]
  refine j_aload_n hE (by decide +kernel : decode cX11_init 236 = .ok (.aload_n 0, 1)) rfl rfl ?_
  refine j_sipush hE (by decide +kernel : decode cX11_init 237 = .ok (.sipush 600, 3)) (v := (600 : Int32)) (by decide) ?_
  obtain ⟨ho1, hf1, hn1, hn2, h⟩ := h
  obtain ⟨a28, ha⟩ : ∃ z, z = Hn g27 := ⟨_, rfl⟩; obtain ⟨g29, hg⟩ : ∃ z, z = nA g27 21 1577 l0 (600) := ⟨_, rfl⟩; replace h := h a28 g29 ha hg
  refine j_newarray (k := 21) (co := 1577) (ow := l0) (n := (600)) (atype := .boolean) hE ac_boolean (Or.inr (Or.inl ⟨rfl, rfl⟩)) (by decide) (by decide) (by decide) ho1 hf1 (by decide +kernel : decode cX11_init 240 = .ok (.newarray .boolean, 2)) hn1 hn2 ?_
  rw [← hg, ← ha]
  obtain ⟨hk, h⟩ := h
  obtain ⟨g30, hg⟩ : ∃ z, z = sR g29 1577 l0 (some a28) := ⟨_, rfl⟩; replace h := h g30 hg
  refine j_putR (v := (some a28)) hE fa_X11_92 hk (fun _ => hnm) (by decide +kernel : decode cX11_init 242 = .ok (.putfield 92, 3)) ?_
  rw [← hg]
  refine j_aload_n hE (by decide +kernel : decode cX11_init 245 = .ok (.aload_n 0, 1)) rfl rfl ?_
  refine j_bipush hE (by decide +kernel : decode cX11_init 246 = .ok (.bipush 100, 2)) (v := (100 : Int32)) (by decide) ?_
  obtain ⟨ho1, hf1, hn1, hn2, h⟩ := h
  obtain ⟨a31, ha⟩ : ∃ z, z = Hn g30 := ⟨_, rfl⟩; obtain ⟨g32, hg⟩ : ∃ z, z = nA g30 20 1578 l0 (100) := ⟨_, rfl⟩; replace h := h a31 g32 ha hg
  refine j_newarray (k := 20) (co := 1578) (ow := l0) (n := (100)) (atype := .int) hE ac_int (Or.inl ⟨rfl, rfl⟩) (by decide) (by decide) (by decide) ho1 hf1 (by decide +kernel : decode cX11_init 248 = .ok (.newarray .int, 2)) hn1 hn2 ?_
  rw [← hg, ← ha]
  obtain ⟨hk, h⟩ := h
  obtain ⟨g33, hg⟩ : ∃ z, z = sR g32 1578 l0 (some a31) := ⟨_, rfl⟩; replace h := h g33 hg
  refine j_putR (v := (some a31)) hE fa_X11_96 hk (fun _ => hnm) (by decide +kernel : decode cX11_init 250 = .ok (.putfield 96, 3)) ?_
  rw [← hg]
  refine j_aload_n hE (by decide +kernel : decode cX11_init 253 = .ok (.aload_n 0, 1)) rfl rfl ?_
  refine j_bipush hE (by decide +kernel : decode cX11_init 254 = .ok (.bipush 100, 2)) (v := (100 : Int32)) (by decide) ?_
  obtain ⟨ho1, hf1, hn1, hn2, h⟩ := h
  obtain ⟨a34, ha⟩ : ∃ z, z = Hn g33 := ⟨_, rfl⟩; obtain ⟨g35, hg⟩ : ∃ z, z = nA g33 20 1579 l0 (100) := ⟨_, rfl⟩; replace h := h a34 g35 ha hg
  refine j_newarray (k := 20) (co := 1579) (ow := l0) (n := (100)) (atype := .int) hE ac_int (Or.inl ⟨rfl, rfl⟩) (by decide) (by decide) (by decide) ho1 hf1 (by decide +kernel : decode cX11_init 256 = .ok (.newarray .int, 2)) hn1 hn2 ?_
  rw [← hg, ← ha]
  obtain ⟨hk, h⟩ := h
  obtain ⟨g36, hg⟩ : ∃ z, z = sR g35 1579 l0 (some a34) := ⟨_, rfl⟩; replace h := h g36 hg
  refine j_putR (v := (some a34)) hE fa_X11_99 hk (fun _ => hnm) (by decide +kernel : decode cX11_init 258 = .ok (.putfield 99, 3)) ?_
  rw [← hg]
  refine j_aload_n hE (by decide +kernel : decode cX11_init 261 = .ok (.aload_n 0, 1)) rfl rfl ?_
  refine j_bipush hE (by decide +kernel : decode cX11_init 262 = .ok (.bipush 100, 2)) (v := (100 : Int32)) (by decide) ?_
  obtain ⟨ho1, hf1, hn1, hn2, h⟩ := h
  obtain ⟨a37, ha⟩ : ∃ z, z = Hn g36 := ⟨_, rfl⟩; obtain ⟨g38, hg⟩ : ∃ z, z = nA g36 20 1580 l0 (100) := ⟨_, rfl⟩; replace h := h a37 g38 ha hg
  refine j_newarray (k := 20) (co := 1580) (ow := l0) (n := (100)) (atype := .int) hE ac_int (Or.inl ⟨rfl, rfl⟩) (by decide) (by decide) (by decide) ho1 hf1 (by decide +kernel : decode cX11_init 264 = .ok (.newarray .int, 2)) hn1 hn2 ?_
  rw [← hg, ← ha]
  obtain ⟨hk, h⟩ := h
  obtain ⟨g39, hg⟩ : ∃ z, z = sR g38 1580 l0 (some a37) := ⟨_, rfl⟩; replace h := h g39 hg
  refine j_putR (v := (some a37)) hE fa_X11_102 hk (fun _ => hnm) (by decide +kernel : decode cX11_init 266 = .ok (.putfield 102, 3)) ?_
  rw [← hg]
  refine j_aload_n hE (by decide +kernel : decode cX11_init 269 = .ok (.aload_n 0, 1)) rfl rfl ?_
  refine j_sipush hE (by decide +kernel : decode cX11_init 270 = .ok (.sipush 200, 3)) (v := (200 : Int32)) (by decide) ?_
  obtain ⟨ho1, hf1, hn1, hn2, h⟩ := h
  obtain ⟨a40, ha⟩ : ∃ z, z = Hn g39 := ⟨_, rfl⟩; obtain ⟨g41, hg⟩ : ∃ z, z = nA g39 20 1581 l0 (200) := ⟨_, rfl⟩; replace h := h a40 g41 ha hg
  refine j_newarray (k := 20) (co := 1581) (ow := l0) (n := (200)) (atype := .int) hE ac_int (Or.inl ⟨rfl, rfl⟩) (by decide) (by decide) (by decide) ho1 hf1 (by decide +kernel : decode cX11_init 273 = .ok (.newarray .int, 2)) hn1 hn2 ?_
  rw [← hg, ← ha]
  obtain ⟨hk, h⟩ := h
  obtain ⟨g42, hg⟩ : ∃ z, z = sR g41 1581 l0 (some a40) := ⟨_, rfl⟩; replace h := h g42 hg
  refine j_putR (v := (some a40)) hE fa_X11_105 hk (fun _ => hnm) (by decide +kernel : decode cX11_init 275 = .ok (.putfield 105, 3)) ?_
  rw [← hg]
  refine j_aload_n hE (by decide +kernel : decode cX11_init 278 = .ok (.aload_n 0, 1)) rfl rfl ?_
  refine j_sipush hE (by decide +kernel : decode cX11_init 279 = .ok (.sipush 15600, 3)) (v := (15600 : Int32)) (by decide) ?_
  obtain ⟨ho1, hf1, hn1, hn2, h⟩ := h
  obtain ⟨a43, ha⟩ : ∃ z, z = Hn g42 := ⟨_, rfl⟩; obtain ⟨g44, hg⟩ : ∃ z, z = nA g42 20 1582 l0 (15600) := ⟨_, rfl⟩; replace h := h a43 g44 ha hg
  refine j_newarray (k := 20) (co := 1582) (ow := l0) (n := (15600)) (atype := .int) hE ac_int (Or.inl ⟨rfl, rfl⟩) (by decide) (by decide) (by decide) ho1 hf1 (by decide +kernel : decode cX11_init 282 = .ok (.newarray .int, 2)) hn1 hn2 ?_
  rw [← hg, ← ha]
  obtain ⟨hk, h⟩ := h
  obtain ⟨g45, hg⟩ : ∃ z, z = sR g44 1582 l0 (some a43) := ⟨_, rfl⟩; replace h := h g45 hg
  refine j_putR (v := (some a43)) hE fa_X11_108 hk (fun _ => hnm) (by decide +kernel : decode cX11_init 284 = .ok (.putfield 108, 3)) ?_
  rw [← hg]
  refine j_aload_n hE (by decide +kernel : decode cX11_init 287 = .ok (.aload_n 0, 1)) rfl rfl ?_
  refine j_sipush hE (by decide +kernel : decode cX11_init 288 = .ok (.sipush 520, 3)) (v := (520 : Int32)) (by decide) ?_
  obtain ⟨ho1, hf1, hn1, hn2, h⟩ := h
  obtain ⟨a46, ha⟩ : ∃ z, z = Hn g45 := ⟨_, rfl⟩; obtain ⟨g47, hg⟩ : ∃ z, z = nA g45 20 1583 l0 (520) := ⟨_, rfl⟩; replace h := h a46 g47 ha hg
  refine j_newarray (k := 20) (co := 1583) (ow := l0) (n := (520)) (atype := .int) hE ac_int (Or.inl ⟨rfl, rfl⟩) (by decide) (by decide) (by decide) ho1 hf1 (by decide +kernel : decode cX11_init 291 = .ok (.newarray .int, 2)) hn1 hn2 ?_
  rw [← hg, ← ha]
  obtain ⟨hk, h⟩ := h
  obtain ⟨g48, hg⟩ : ∃ z, z = sR g47 1583 l0 (some a46) := ⟨_, rfl⟩; replace h := h g48 hg
  refine j_putR (v := (some a46)) hE fa_X11_111 hk (fun _ => hnm) (by decide +kernel : decode cX11_init 293 = .ok (.putfield 111, 3)) ?_
  rw [← hg]
  refine j_aload_n hE (by decide +kernel : decode cX11_init 296 = .ok (.aload_n 0, 1)) rfl rfl ?_
  refine j_bipush hE (by decide +kernel : decode cX11_init 297 = .ok (.bipush 30, 2)) (v := (30 : Int32)) (by decide) ?_
  obtain ⟨ho1, hf1, hn1, hn2, h⟩ := h
  obtain ⟨a49, ha⟩ : ∃ z, z = Hn g48 := ⟨_, rfl⟩; obtain ⟨g50, hg⟩ : ∃ z, z = nA g48 20 1584 l0 (30) := ⟨_, rfl⟩; replace h := h a49 g50 ha hg
  refine j_newarray (k := 20) (co := 1584) (ow := l0) (n := (30)) (atype := .int) hE ac_int (Or.inl ⟨rfl, rfl⟩) (by decide) (by decide) (by decide) ho1 hf1 (by decide +kernel : decode cX11_init 299 = .ok (.newarray .int, 2)) hn1 hn2 ?_
  rw [← hg, ← ha]
  obtain ⟨hk, h⟩ := h
  obtain ⟨g51, hg⟩ : ∃ z, z = sR g50 1584 l0 (some a49) := ⟨_, rfl⟩; replace h := h g51 hg
  refine j_putR (v := (some a49)) hE fa_X11_114 hk (fun _ => hnm) (by decide +kernel : decode cX11_init 301 = .ok (.putfield 114, 3)) ?_
  rw [← hg]
  refine j_aload_n hE (by decide +kernel : decode cX11_init 304 = .ok (.aload_n 0, 1)) rfl rfl ?_
  refine j_bipush hE (by decide +kernel : decode cX11_init 305 = .ok (.bipush 30, 2)) (v := (30 : Int32)) (by decide) ?_
  obtain ⟨ho1, hf1, hn1, hn2, h⟩ := h
  obtain ⟨a52, ha⟩ : ∃ z, z = Hn g51 := ⟨_, rfl⟩; obtain ⟨g53, hg⟩ : ∃ z, z = nA g51 20 1585 l0 (30) := ⟨_, rfl⟩; replace h := h a52 g53 ha hg
  refine j_newarray (k := 20) (co := 1585) (ow := l0) (n := (30)) (atype := .int) hE ac_int (Or.inl ⟨rfl, rfl⟩) (by decide) (by decide) (by decide) ho1 hf1 (by decide +kernel : decode cX11_init 307 = .ok (.newarray .int, 2)) hn1 hn2 ?_
  rw [← hg, ← ha]
  obtain ⟨hk, h⟩ := h
  obtain ⟨g54, hg⟩ : ∃ z, z = sR g53 1585 l0 (some a52) := ⟨_, rfl⟩; replace h := h g54 hg
  refine j_putR (v := (some a52)) hE fa_X11_117 hk (fun _ => hnm) (by decide +kernel : decode cX11_init 309 = .ok (.putfield 117, 3)) ?_
  rw [← hg]
  exact S_M_init_312 hE hnm hK568 hK590 hK598 _ _ h
set_option maxRecDepth 100000 in
def B_M_init_0 (Γ : GAM) (K568 : Nat → Int32 → GH → Prop) (K590 : Nat → Int32 → GH → Prop) (K598 : Nat → Int32 → Int32 → GH → Prop) (K : GH → Prop) (th : Nat) (g : GH) : Prop :=
  Kd g th = 13 ∧ ∀ g1 : GH, g1 = sI g 1548 th (5 : Int32) → th < Hn g1 ∧ free g1 1549 th ∧ Hn g1 + 1 ≤ gB Γ + NCC ∧ Hu g1 + 60 ≤ NSS ∧ ∀ (a2 : Nat) (g3 : GH), a2 = Hn g1 → g3 = nA g1 20 1549 th (60) → Kd g3 th = 13 ∧ ∀ g4 : GH, g4 = sR g3 1549 th (some a2) → th < Hn g4 ∧ free g4 1550 th ∧ Hn g4 + 1 ≤ gB Γ + NCC ∧ Hu g4 + 60 ≤ NSS ∧ ∀ (a5 : Nat) (g6 : GH), a5 = Hn g4 → g6 = nA g4 20 1550 th (60) → Kd g6 th = 13 ∧ ∀ g7 : GH, g7 = sR g6 1550 th (some a5) → th < Hn g7 ∧ free g7 1551 th ∧ Hn g7 + 1 ≤ gB Γ + NCC ∧ Hu g7 + 60 ≤ NSS ∧ ∀ (a8 : Nat) (g9 : GH), a8 = Hn g7 → g9 = nA g7 20 1551 th (60) → Kd g9 th = 13 ∧ ∀ g10 : GH, g10 = sR g9 1551 th (some a8) → th < Hn g10 ∧ free g10 1552 th ∧ Hn g10 + 1 ≤ gB Γ + NCC ∧ Hu g10 + 60 ≤ NSS ∧ ∀ (a11 : Nat) (g12 : GH), a11 = Hn g10 → g12 = nA g10 20 1552 th (60) → Kd g12 th = 13 ∧ ∀ g13 : GH, g13 = sR g12 1552 th (some a11) → th < Hn g13 ∧ free g13 1553 th ∧ Hn g13 + 1 ≤ gB Γ + NCC ∧ Hu g13 + 60 ≤ NSS ∧ ∀ (a14 : Nat) (g15 : GH), a14 = Hn g13 → g15 = nA g13 20 1553 th (60) → Kd g15 th = 13 ∧ ∀ g16 : GH, g16 = sR g15 1553 th (some a14) → th < Hn g16 ∧ free g16 1554 th ∧ Hn g16 + 1 ≤ gB Γ + NCC ∧ Hu g16 + 60 ≤ NSS ∧ ∀ (a17 : Nat) (g18 : GH), a17 = Hn g16 → g18 = nA g16 20 1554 th (60) → Kd g18 th = 13 ∧ ∀ g19 : GH, g19 = sR g18 1554 th (some a17) → th < Hn g19 ∧ free g19 1555 th ∧ Hn g19 + 1 ≤ gB Γ + NCC ∧ Hu g19 + 60 ≤ NSS ∧ ∀ (a20 : Nat) (g21 : GH), a20 = Hn g19 → g21 = nA g19 20 1555 th (60) → Kd g21 th = 13 ∧ ∀ g22 : GH, g22 = sR g21 1555 th (some a20) → th < Hn g22 ∧ free g22 1556 th ∧ Hn g22 + 1 ≤ gB Γ + NCC ∧ Hu g22 + 200 ≤ NSS ∧ ∀ (a23 : Nat) (g24 : GH), a23 = Hn g22 → g24 = nA g22 20 1556 th (200) → Kd g24 th = 13 ∧ ∀ g25 : GH, g25 = sR g24 1556 th (some a23) → th < Hn g25 ∧ free g25 1557 th ∧ Hn g25 + 1 ≤ gB Γ + NCC ∧ Hu g25 + 200 ≤ NSS ∧ ∀ (a26 : Nat) (g27 : GH), a26 = Hn g25 → g27 = nA g25 20 1557 th (200) → Kd g27 th = 13 ∧ ∀ g28 : GH, g28 = sR g27 1557 th (some a26) → th < Hn g28 ∧ free g28 1558 th ∧ Hn g28 + 1 ≤ gB Γ + NCC ∧ Hu g28 + 200 ≤ NSS ∧ ∀ (a29 : Nat) (g30 : GH), a29 = Hn g28 → g30 = nA g28 20 1558 th (200) → Kd g30 th = 13 ∧ ∀ g31 : GH, g31 = sR g30 1558 th (some a29) → th < Hn g31 ∧ free g31 1559 th ∧ Hn g31 + 1 ≤ gB Γ + NCC ∧ Hu g31 + 200 ≤ NSS ∧ ∀ (a32 : Nat) (g33 : GH), a32 = Hn g31 → g33 = nA g31 20 1559 th (200) → Kd g33 th = 13 ∧ ∀ g34 : GH, g34 = sR g33 1559 th (some a32) → th < Hn g34 ∧ free g34 1560 th ∧ Hn g34 + 1 ≤ gB Γ + NCC ∧ Hu g34 + 600 ≤ NSS ∧ ∀ (a35 : Nat) (g36 : GH), a35 = Hn g34 → g36 = nA g34 20 1560 th (600) → Kd g36 th = 13 ∧ ∀ g37 : GH, g37 = sR g36 1560 th (some a35) → th < Hn g37 ∧ free g37 1561 th ∧ Hn g37 + 1 ≤ gB Γ + NCC ∧ Hu g37 + 600 ≤ NSS ∧ ∀ (a38 : Nat) (g39 : GH), a38 = Hn g37 → g39 = nA g37 20 1561 th (600) → Kd g39 th = 13 ∧ ∀ g40 : GH, g40 = sR g39 1561 th (some a38) → th < Hn g40 ∧ free g40 1562 th ∧ Hn g40 + 1 ≤ gB Γ + NCC ∧ Hu g40 + 600 ≤ NSS ∧ ∀ (a41 : Nat) (g42 : GH), a41 = Hn g40 → g42 = nA g40 20 1562 th (600) → Kd g42 th = 13 ∧ ∀ g43 : GH, g43 = sR g42 1562 th (some a41) → th < Hn g43 ∧ free g43 1563 th ∧ Hn g43 + 1 ≤ gB Γ + NCC ∧ Hu g43 + 600 ≤ NSS ∧ ∀ (a44 : Nat) (g45 : GH), a44 = Hn g43 → g45 = nA g43 20 1563 th (600) → Kd g45 th = 13 ∧ ∀ g46 : GH, g46 = sR g45 1563 th (some a44) → th < Hn g46 ∧ free g46 1564 th ∧ Hn g46 + 1 ≤ gB Γ + NCC ∧ Hu g46 + 600 ≤ NSS ∧ ∀ (a47 : Nat) (g48 : GH), a47 = Hn g46 → g48 = nA g46 20 1564 th (600) → Kd g48 th = 13 ∧ ∀ g49 : GH, g49 = sR g48 1564 th (some a47) → th < Hn g49 ∧ free g49 1565 th ∧ Hn g49 + 1 ≤ gB Γ + NCC ∧ Hu g49 + 200 ≤ NSS ∧ ∀ (a50 : Nat) (g51 : GH), a50 = Hn g49 → g51 = nA g49 20 1565 th (200) → Kd g51 th = 13 ∧ ∀ g52 : GH, g52 = sR g51 1565 th (some a50) → B_M_init_155 Γ K568 K590 K598 K th g52
set_option maxHeartbeats 4000000 in
set_option maxRecDepth 100000 in
theorem S_M_init_0 {Γ : GAM} {E : EV} {K : GH → Prop} (hE : GE Γ E cX11_init 3 RX11 none 1 20 (fun r g' => r = none ∧ K g')) (hnm : E.2.2.2.2.2.2.2.2.1.name = "<init>") {K568 : Nat → Int32 → GH → Prop} {K590 : Nat → Int32 → GH → Prop} {K598 : Nat → Int32 → Int32 → GH → Prop} (hK568 : ∀ (l0 : Nat) (l1 : Int32) (g : GH), K568 l0 l1 g → JW Γ E 568 [some (.ref l0), some (.int l1), none] [] g) (hK590 : ∀ (l0 : Nat) (l1 : Int32) (g : GH), K590 l0 l1 g → JW Γ E 590 [some (.ref l0), some (.int l1), none] [] g) (hK598 : ∀ (l0 : Nat) (l1 : Int32) (l2 : Int32) (g : GH), K598 l0 l1 l2 g → JW Γ E 598 [some (.ref l0), some (.int l1), some (.int l2)] [] g) (th : Nat) (g : GH) (h : B_M_init_0 Γ K568 K590 K598 K th g) : JW Γ E 0 [some (.ref th), none, none] [] g := by
  unfold B_M_init_0 at h
  refine j_aload_n hE (by decide +kernel : decode cX11_init 0 = .ok (.aload_n 0, 1)) rfl rfl ?_
  refine j_objInit hE rfl ol_X11 oi_in oi_code (Nat.le_of_ble_eq_true rfl) (by omega) (by omega) (by decide +kernel : decode cX11_init 1 = .ok (.invokespecial 1, 3)) ?_
  refine j_aload_n hE (by decide +kernel : decode cX11_init 4 = .ok (.aload_n 0, 1)) rfl rfl ?_
  refine j_iconst hE (by decide +kernel : decode cX11_init 5 = .ok (.iconst 5, 1)) (v := (5 : Int32)) (by decide) ?_
  obtain ⟨hk, h⟩ := h
  obtain ⟨g1, hg⟩ : ∃ z, z = sI g 1548 th (5 : Int32) := ⟨_, rfl⟩; replace h := h g1 hg
  refine j_putI hE fa_X11_7 hk (fun q => by cases q) (by decide +kernel : decode cX11_init 6 = .ok (.putfield 7, 3)) ?_
  rw [← hg]
  refine j_aload_n hE (by decide +kernel : decode cX11_init 9 = .ok (.aload_n 0, 1)) rfl rfl ?_
  refine j_bipush hE (by decide +kernel : decode cX11_init 10 = .ok (.bipush 60, 2)) (v := (60 : Int32)) (by decide) ?_
  obtain ⟨ho1, hf1, hn1, hn2, h⟩ := h
  obtain ⟨a2, ha⟩ : ∃ z, z = Hn g1 := ⟨_, rfl⟩; obtain ⟨g3, hg⟩ : ∃ z, z = nA g1 20 1549 th (60) := ⟨_, rfl⟩; replace h := h a2 g3 ha hg
  refine j_newarray (k := 20) (co := 1549) (ow := th) (n := (60)) (atype := .int) hE ac_int (Or.inl ⟨rfl, rfl⟩) (by decide) (by decide) (by decide) ho1 hf1 (by decide +kernel : decode cX11_init 12 = .ok (.newarray .int, 2)) hn1 hn2 ?_
  rw [← hg, ← ha]
  obtain ⟨hk, h⟩ := h
  obtain ⟨g4, hg⟩ : ∃ z, z = sR g3 1549 th (some a2) := ⟨_, rfl⟩; replace h := h g4 hg
  refine j_putR (v := (some a2)) hE fa_X11_13 hk (fun _ => hnm) (by decide +kernel : decode cX11_init 14 = .ok (.putfield 13, 3)) ?_
  rw [← hg]
  refine j_aload_n hE (by decide +kernel : decode cX11_init 17 = .ok (.aload_n 0, 1)) rfl rfl ?_
  refine j_bipush hE (by decide +kernel : decode cX11_init 18 = .ok (.bipush 60, 2)) (v := (60 : Int32)) (by decide) ?_
  obtain ⟨ho1, hf1, hn1, hn2, h⟩ := h
  obtain ⟨a5, ha⟩ : ∃ z, z = Hn g4 := ⟨_, rfl⟩; obtain ⟨g6, hg⟩ : ∃ z, z = nA g4 20 1550 th (60) := ⟨_, rfl⟩; replace h := h a5 g6 ha hg
  refine j_newarray (k := 20) (co := 1550) (ow := th) (n := (60)) (atype := .int) hE ac_int (Or.inl ⟨rfl, rfl⟩) (by decide) (by decide) (by decide) ho1 hf1 (by decide +kernel : decode cX11_init 20 = .ok (.newarray .int, 2)) hn1 hn2 ?_
  rw [← hg, ← ha]
  obtain ⟨hk, h⟩ := h
  obtain ⟨g7, hg⟩ : ∃ z, z = sR g6 1550 th (some a5) := ⟨_, rfl⟩; replace h := h g7 hg
  refine j_putR (v := (some a5)) hE fa_X11_17 hk (fun _ => hnm) (by decide +kernel : decode cX11_init 22 = .ok (.putfield 17, 3)) ?_
  rw [← hg]
  refine j_aload_n hE (by decide +kernel : decode cX11_init 25 = .ok (.aload_n 0, 1)) rfl rfl ?_
  refine j_bipush hE (by decide +kernel : decode cX11_init 26 = .ok (.bipush 60, 2)) (v := (60 : Int32)) (by decide) ?_
  obtain ⟨ho1, hf1, hn1, hn2, h⟩ := h
  obtain ⟨a8, ha⟩ : ∃ z, z = Hn g7 := ⟨_, rfl⟩; obtain ⟨g9, hg⟩ : ∃ z, z = nA g7 20 1551 th (60) := ⟨_, rfl⟩; replace h := h a8 g9 ha hg
  refine j_newarray (k := 20) (co := 1551) (ow := th) (n := (60)) (atype := .int) hE ac_int (Or.inl ⟨rfl, rfl⟩) (by decide) (by decide) (by decide) ho1 hf1 (by decide +kernel : decode cX11_init 28 = .ok (.newarray .int, 2)) hn1 hn2 ?_
  rw [← hg, ← ha]
  obtain ⟨hk, h⟩ := h
  obtain ⟨g10, hg⟩ : ∃ z, z = sR g9 1551 th (some a8) := ⟨_, rfl⟩; replace h := h g10 hg
  refine j_putR (v := (some a8)) hE fa_X11_20 hk (fun _ => hnm) (by decide +kernel : decode cX11_init 30 = .ok (.putfield 20, 3)) ?_
  rw [← hg]
  refine j_aload_n hE (by decide +kernel : decode cX11_init 33 = .ok (.aload_n 0, 1)) rfl rfl ?_
  refine j_bipush hE (by decide +kernel : decode cX11_init 34 = .ok (.bipush 60, 2)) (v := (60 : Int32)) (by decide) ?_
  obtain ⟨ho1, hf1, hn1, hn2, h⟩ := h
  obtain ⟨a11, ha⟩ : ∃ z, z = Hn g10 := ⟨_, rfl⟩; obtain ⟨g12, hg⟩ : ∃ z, z = nA g10 20 1552 th (60) := ⟨_, rfl⟩; replace h := h a11 g12 ha hg
  refine j_newarray (k := 20) (co := 1552) (ow := th) (n := (60)) (atype := .int) hE ac_int (Or.inl ⟨rfl, rfl⟩) (by decide) (by decide) (by decide) ho1 hf1 (by decide +kernel : decode cX11_init 36 = .ok (.newarray .int, 2)) hn1 hn2 ?_
  rw [← hg, ← ha]
  obtain ⟨hk, h⟩ := h
  obtain ⟨g13, hg⟩ : ∃ z, z = sR g12 1552 th (some a11) := ⟨_, rfl⟩; replace h := h g13 hg
  refine j_putR (v := (some a11)) hE fa_X11_23 hk (fun _ => hnm) (by decide +kernel : decode cX11_init 38 = .ok (.putfield 23, 3)) ?_
  rw [← hg]
  refine j_aload_n hE (by decide +kernel : decode cX11_init 41 = .ok (.aload_n 0, 1)) rfl rfl ?_
  refine j_bipush hE (by decide +kernel : decode cX11_init 42 = .ok (.bipush 60, 2)) (v := (60 : Int32)) (by decide) ?_
  obtain ⟨ho1, hf1, hn1, hn2, h⟩ := h
  obtain ⟨a14, ha⟩ : ∃ z, z = Hn g13 := ⟨_, rfl⟩; obtain ⟨g15, hg⟩ : ∃ z, z = nA g13 20 1553 th (60) := ⟨_, rfl⟩; replace h := h a14 g15 ha hg
  refine j_newarray (k := 20) (co := 1553) (ow := th) (n := (60)) (atype := .int) hE ac_int (Or.inl ⟨rfl, rfl⟩) (by decide) (by decide) (by decide) ho1 hf1 (by decide +kernel : decode cX11_init 44 = .ok (.newarray .int, 2)) hn1 hn2 ?_
  rw [← hg, ← ha]
  obtain ⟨hk, h⟩ := h
  obtain ⟨g16, hg⟩ : ∃ z, z = sR g15 1553 th (some a14) := ⟨_, rfl⟩; replace h := h g16 hg
  refine j_putR (v := (some a14)) hE fa_X11_26 hk (fun _ => hnm) (by decide +kernel : decode cX11_init 46 = .ok (.putfield 26, 3)) ?_
  rw [← hg]
  refine j_aload_n hE (by decide +kernel : decode cX11_init 49 = .ok (.aload_n 0, 1)) rfl rfl ?_
  refine j_bipush hE (by decide +kernel : decode cX11_init 50 = .ok (.bipush 60, 2)) (v := (60 : Int32)) (by decide) ?_
  obtain ⟨ho1, hf1, hn1, hn2, h⟩ := h
  obtain ⟨a17, ha⟩ : ∃ z, z = Hn g16 := ⟨_, rfl⟩; obtain ⟨g18, hg⟩ : ∃ z, z = nA g16 20 1554 th (60) := ⟨_, rfl⟩; replace h := h a17 g18 ha hg
  refine j_newarray (k := 20) (co := 1554) (ow := th) (n := (60)) (atype := .int) hE ac_int (Or.inl ⟨rfl, rfl⟩) (by decide) (by decide) (by decide) ho1 hf1 (by decide +kernel : decode cX11_init 52 = .ok (.newarray .int, 2)) hn1 hn2 ?_
  rw [← hg, ← ha]
  obtain ⟨hk, h⟩ := h
  obtain ⟨g19, hg⟩ : ∃ z, z = sR g18 1554 th (some a17) := ⟨_, rfl⟩; replace h := h g19 hg
  refine j_putR (v := (some a17)) hE fa_X11_29 hk (fun _ => hnm) (by decide +kernel : decode cX11_init 54 = .ok (.putfield 29, 3)) ?_
  rw [← hg]
  refine j_aload_n hE (by decide +kernel : decode cX11_init 57 = .ok (.aload_n 0, 1)) rfl rfl ?_
  refine j_bipush hE (by decide +kernel : decode cX11_init 58 = .ok (.bipush 60, 2)) (v := (60 : Int32)) (by decide) ?_
  obtain ⟨ho1, hf1, hn1, hn2, h⟩ := h
  obtain ⟨a20, ha⟩ : ∃ z, z = Hn g19 := ⟨_, rfl⟩; obtain ⟨g21, hg⟩ : ∃ z, z = nA g19 20 1555 th (60) := ⟨_, rfl⟩; replace h := h a20 g21 ha hg
  refine j_newarray (k := 20) (co := 1555) (ow := th) (n := (60)) (atype := .int) hE ac_int (Or.inl ⟨rfl, rfl⟩) (by decide) (by decide) (by decide) ho1 hf1 (by decide +kernel : decode cX11_init 60 = .ok (.newarray .int, 2)) hn1 hn2 ?_
  rw [← hg, ← ha]
  obtain ⟨hk, h⟩ := h
  obtain ⟨g22, hg⟩ : ∃ z, z = sR g21 1555 th (some a20) := ⟨_, rfl⟩; replace h := h g22 hg
  refine j_putR (v := (some a20)) hE fa_X11_32 hk (fun _ => hnm) (by decide +kernel : decode cX11_init 62 = .ok (.putfield 32, 3)) ?_
  rw [← hg]
  refine j_aload_n hE (by decide +kernel : decode cX11_init 65 = .ok (.aload_n 0, 1)) rfl rfl ?_
  refine j_sipush hE (by decide +kernel : decode cX11_init 66 = .ok (.sipush 200, 3)) (v := (200 : Int32)) (by decide) ?_
  obtain ⟨ho1, hf1, hn1, hn2, h⟩ := h
  obtain ⟨a23, ha⟩ : ∃ z, z = Hn g22 := ⟨_, rfl⟩; obtain ⟨g24, hg⟩ : ∃ z, z = nA g22 20 1556 th (200) := ⟨_, rfl⟩; replace h := h a23 g24 ha hg
  refine j_newarray (k := 20) (co := 1556) (ow := th) (n := (200)) (atype := .int) hE ac_int (Or.inl ⟨rfl, rfl⟩) (by decide) (by decide) (by decide) ho1 hf1 (by decide +kernel : decode cX11_init 69 = .ok (.newarray .int, 2)) hn1 hn2 ?_
  rw [← hg, ← ha]
  obtain ⟨hk, h⟩ := h
  obtain ⟨g25, hg⟩ : ∃ z, z = sR g24 1556 th (some a23) := ⟨_, rfl⟩; replace h := h g25 hg
  refine j_putR (v := (some a23)) hE fa_X11_35 hk (fun _ => hnm) (by decide +kernel : decode cX11_init 71 = .ok (.putfield 35, 3)) ?_
  rw [← hg]
  refine j_aload_n hE (by decide +kernel : decode cX11_init 74 = .ok (.aload_n 0, 1)) rfl rfl ?_
  refine j_sipush hE (by decide +kernel : decode cX11_init 75 = .ok (.sipush 200, 3)) (v := (200 : Int32)) (by decide) ?_
  obtain ⟨ho1, hf1, hn1, hn2, h⟩ := h
  obtain ⟨a26, ha⟩ : ∃ z, z = Hn g25 := ⟨_, rfl⟩; obtain ⟨g27, hg⟩ : ∃ z, z = nA g25 20 1557 th (200) := ⟨_, rfl⟩; replace h := h a26 g27 ha hg
  refine j_newarray (k := 20) (co := 1557) (ow := th) (n := (200)) (atype := .int) hE ac_int (Or.inl ⟨rfl, rfl⟩) (by decide) (by decide) (by decide) ho1 hf1 (by decide +kernel : decode cX11_init 78 = .ok (.newarray .int, 2)) hn1 hn2 ?_
  rw [← hg, ← ha]
  obtain ⟨hk, h⟩ := h
  obtain ⟨g28, hg⟩ : ∃ z, z = sR g27 1557 th (some a26) := ⟨_, rfl⟩; replace h := h g28 hg
  refine j_putR (v := (some a26)) hE fa_X11_38 hk (fun _ => hnm) (by decide +kernel : decode cX11_init 80 = .ok (.putfield 38, 3)) ?_
  rw [← hg]
  refine j_aload_n hE (by decide +kernel : decode cX11_init 83 = .ok (.aload_n 0, 1)) rfl rfl ?_
  refine j_sipush hE (by decide +kernel : decode cX11_init 84 = .ok (.sipush 200, 3)) (v := (200 : Int32)) (by decide) ?_
  obtain ⟨ho1, hf1, hn1, hn2, h⟩ := h
  obtain ⟨a29, ha⟩ : ∃ z, z = Hn g28 := ⟨_, rfl⟩; obtain ⟨g30, hg⟩ : ∃ z, z = nA g28 20 1558 th (200) := ⟨_, rfl⟩; replace h := h a29 g30 ha hg
  refine j_newarray (k := 20) (co := 1558) (ow := th) (n := (200)) (atype := .int) hE ac_int (Or.inl ⟨rfl, rfl⟩) (by decide) (by decide) (by decide) ho1 hf1 (by decide +kernel : decode cX11_init 87 = .ok (.newarray .int, 2)) hn1 hn2 ?_
  rw [← hg, ← ha]
  obtain ⟨hk, h⟩ := h
  obtain ⟨g31, hg⟩ : ∃ z, z = sR g30 1558 th (some a29) := ⟨_, rfl⟩; replace h := h g31 hg
  refine j_putR (v := (some a29)) hE fa_X11_41 hk (fun _ => hnm) (by decide +kernel : decode cX11_init 89 = .ok (.putfield 41, 3)) ?_
  rw [← hg]
  refine j_aload_n hE (by decide +kernel : decode cX11_init 92 = .ok (.aload_n 0, 1)) rfl rfl ?_
  refine j_sipush hE (by decide +kernel : decode cX11_init 93 = .ok (.sipush 200, 3)) (v := (200 : Int32)) (by decide) ?_
  obtain ⟨ho1, hf1, hn1, hn2, h⟩ := h
  obtain ⟨a32, ha⟩ : ∃ z, z = Hn g31 := ⟨_, rfl⟩; obtain ⟨g33, hg⟩ : ∃ z, z = nA g31 20 1559 th (200) := ⟨_, rfl⟩; replace h := h a32 g33 ha hg
  refine j_newarray (k := 20) (co := 1559) (ow := th) (n := (200)) (atype := .int) hE ac_int (Or.inl ⟨rfl, rfl⟩) (by decide) (by decide) (by decide) ho1 hf1 (by decide +kernel : decode cX11_init 96 = .ok (.newarray .int, 2)) hn1 hn2 ?_
  rw [← hg, ← ha]
  obtain ⟨hk, h⟩ := h
  obtain ⟨g34, hg⟩ : ∃ z, z = sR g33 1559 th (some a32) := ⟨_, rfl⟩; replace h := h g34 hg
  refine j_putR (v := (some a32)) hE fa_X11_44 hk (fun _ => hnm) (by decide +kernel : decode cX11_init 98 = .ok (.putfield 44, 3)) ?_
  rw [← hg]
  refine j_aload_n hE (by decide +kernel : decode cX11_init 101 = .ok (.aload_n 0, 1)) rfl rfl ?_
  refine j_sipush hE (by decide +kernel : decode cX11_init 102 = .ok (.sipush 600, 3)) (v := (600 : Int32)) (by decide) ?_
  obtain ⟨ho1, hf1, hn1, hn2, h⟩ := h
  obtain ⟨a35, ha⟩ : ∃ z, z = Hn g34 := ⟨_, rfl⟩; obtain ⟨g36, hg⟩ : ∃ z, z = nA g34 20 1560 th (600) := ⟨_, rfl⟩; replace h := h a35 g36 ha hg
  refine j_newarray (k := 20) (co := 1560) (ow := th) (n := (600)) (atype := .int) hE ac_int (Or.inl ⟨rfl, rfl⟩) (by decide) (by decide) (by decide) ho1 hf1 (by decide +kernel : decode cX11_init 105 = .ok (.newarray .int, 2)) hn1 hn2 ?_
  rw [← hg, ← ha]
  obtain ⟨hk, h⟩ := h
  obtain ⟨g37, hg⟩ : ∃ z, z = sR g36 1560 th (some a35) := ⟨_, rfl⟩; replace h := h g37 hg
  refine j_putR (v := (some a35)) hE fa_X11_47 hk (fun _ => hnm) (by decide +kernel : decode cX11_init 107 = .ok (.putfield 47, 3)) ?_
  rw [← hg]
  refine j_aload_n hE (by decide +kernel : decode cX11_init 110 = .ok (.aload_n 0, 1)) rfl rfl ?_
  refine j_sipush hE (by decide +kernel : decode cX11_init 111 = .ok (.sipush 600, 3)) (v := (600 : Int32)) (by decide) ?_
  obtain ⟨ho1, hf1, hn1, hn2, h⟩ := h
  obtain ⟨a38, ha⟩ : ∃ z, z = Hn g37 := ⟨_, rfl⟩; obtain ⟨g39, hg⟩ : ∃ z, z = nA g37 20 1561 th (600) := ⟨_, rfl⟩; replace h := h a38 g39 ha hg
  refine j_newarray (k := 20) (co := 1561) (ow := th) (n := (600)) (atype := .int) hE ac_int (Or.inl ⟨rfl, rfl⟩) (by decide) (by decide) (by decide) ho1 hf1 (by decide +kernel : decode cX11_init 114 = .ok (.newarray .int, 2)) hn1 hn2 ?_
  rw [← hg, ← ha]
  obtain ⟨hk, h⟩ := h
  obtain ⟨g40, hg⟩ : ∃ z, z = sR g39 1561 th (some a38) := ⟨_, rfl⟩; replace h := h g40 hg
  refine j_putR (v := (some a38)) hE fa_X11_50 hk (fun _ => hnm) (by decide +kernel : decode cX11_init 116 = .ok (.putfield 50, 3)) ?_
  rw [← hg]
  refine j_aload_n hE (by decide +kernel : decode cX11_init 119 = .ok (.aload_n 0, 1)) rfl rfl ?_
  refine j_sipush hE (by decide +kernel : decode cX11_init 120 = .ok (.sipush 600, 3)) (v := (600 : Int32)) (by decide) ?_
  obtain ⟨ho1, hf1, hn1, hn2, h⟩ := h
  obtain ⟨a41, ha⟩ : ∃ z, z = Hn g40 := ⟨_, rfl⟩; obtain ⟨g42, hg⟩ : ∃ z, z = nA g40 20 1562 th (600) := ⟨_, rfl⟩; replace h := h a41 g42 ha hg
  refine j_newarray (k := 20) (co := 1562) (ow := th) (n := (600)) (atype := .int) hE ac_int (Or.inl ⟨rfl, rfl⟩) (by decide) (by decide) (by decide) ho1 hf1 (by decide +kernel : decode cX11_init 123 = .ok (.newarray .int, 2)) hn1 hn2 ?_
  rw [← hg, ← ha]
  obtain ⟨hk, h⟩ := h
  obtain ⟨g43, hg⟩ : ∃ z, z = sR g42 1562 th (some a41) := ⟨_, rfl⟩; replace h := h g43 hg
  refine j_putR (v := (some a41)) hE fa_X11_53 hk (fun _ => hnm) (by decide +kernel : decode cX11_init 125 = .ok (.putfield 53, 3)) ?_
  rw [← hg]
  refine j_aload_n hE (by decide +kernel : decode cX11_init 128 = .ok (.aload_n 0, 1)) rfl rfl ?_
  refine j_sipush hE (by decide +kernel : decode cX11_init 129 = .ok (.sipush 600, 3)) (v := (600 : Int32)) (by decide) ?_
  obtain ⟨ho1, hf1, hn1, hn2, h⟩ := h
  obtain ⟨a44, ha⟩ : ∃ z, z = Hn g43 := ⟨_, rfl⟩; obtain ⟨g45, hg⟩ : ∃ z, z = nA g43 20 1563 th (600) := ⟨_, rfl⟩; replace h := h a44 g45 ha hg
  refine j_newarray (k := 20) (co := 1563) (ow := th) (n := (600)) (atype := .int) hE ac_int (Or.inl ⟨rfl, rfl⟩) (by decide) (by decide) (by decide) ho1 hf1 (by decide +kernel : decode cX11_init 132 = .ok (.newarray .int, 2)) hn1 hn2 ?_
  rw [← hg, ← ha]
  obtain ⟨hk, h⟩ := h
  obtain ⟨g46, hg⟩ : ∃ z, z = sR g45 1563 th (some a44) := ⟨_, rfl⟩; replace h := h g46 hg
  refine j_putR (v := (some a44)) hE fa_X11_56 hk (fun _ => hnm) (by decide +kernel : decode cX11_init 134 = .ok (.putfield 56, 3)) ?_
  rw [← hg]
  refine j_aload_n hE (by decide +kernel : decode cX11_init 137 = .ok (.aload_n 0, 1)) rfl rfl ?_
  refine j_sipush hE (by decide +kernel : decode cX11_init 138 = .ok (.sipush 600, 3)) (v := (600 : Int32)) (by decide) ?_
  obtain ⟨ho1, hf1, hn1, hn2, h⟩ := h
  obtain ⟨a47, ha⟩ : ∃ z, z = Hn g46 := ⟨_, rfl⟩; obtain ⟨g48, hg⟩ : ∃ z, z = nA g46 20 1564 th (600) := ⟨_, rfl⟩; replace h := h a47 g48 ha hg
  refine j_newarray (k := 20) (co := 1564) (ow := th) (n := (600)) (atype := .int) hE ac_int (Or.inl ⟨rfl, rfl⟩) (by decide) (by decide) (by decide) ho1 hf1 (by decide +kernel : decode cX11_init 141 = .ok (.newarray .int, 2)) hn1 hn2 ?_
  rw [← hg, ← ha]
  obtain ⟨hk, h⟩ := h
  obtain ⟨g49, hg⟩ : ∃ z, z = sR g48 1564 th (some a47) := ⟨_, rfl⟩; replace h := h g49 hg
  refine j_putR (v := (some a47)) hE fa_X11_59 hk (fun _ => hnm) (by decide +kernel : decode cX11_init 143 = .ok (.putfield 59, 3)) ?_
  rw [← hg]
  refine j_aload_n hE (by decide +kernel : decode cX11_init 146 = .ok (.aload_n 0, 1)) rfl rfl ?_
  refine j_sipush hE (by decide +kernel : decode cX11_init 147 = .ok (.sipush 200, 3)) (v := (200 : Int32)) (by decide) ?_
  obtain ⟨ho1, hf1, hn1, hn2, h⟩ := h
  obtain ⟨a50, ha⟩ : ∃ z, z = Hn g49 := ⟨_, rfl⟩; obtain ⟨g51, hg⟩ : ∃ z, z = nA g49 20 1565 th (200) := ⟨_, rfl⟩; replace h := h a50 g51 ha hg
  refine j_newarray (k := 20) (co := 1565) (ow := th) (n := (200)) (atype := .int) hE ac_int (Or.inl ⟨rfl, rfl⟩) (by decide) (by decide) (by decide) ho1 hf1 (by decide +kernel : decode cX11_init 150 = .ok (.newarray .int, 2)) hn1 hn2 ?_
  rw [← hg, ← ha]
  obtain ⟨hk, h⟩ := h
  obtain ⟨g52, hg⟩ : ∃ z, z = sR g51 1565 th (some a50) := ⟨_, rfl⟩; replace h := h g52 hg
  refine j_putR (v := (some a50)) hE fa_X11_62 hk (fun _ => hnm) (by decide +kernel : decode cX11_init 152 = .ok (.putfield 62, 3)) ?_
  rw [← hg]
  exact S_M_init_155 hE hnm hK568 hK590 hK598 _ _ h
set_option maxHeartbeats 4000000 in
set_option maxRecDepth 100000 in
theorem rl_M_init {Γ : GAM} {l : Launch} {th : Nat} {g : GH} {K : GH → Prop} (I568 : Nat → Nat → Int32 → GH → Prop) (I590 : Nat → Nat → Int32 → GH → Prop) (I598 : Nat → Nat → Int32 → Int32 → GH → Prop) (hh568 : ∀ n (l0 : Nat) (l1 : Int32) (g : GH), I568 n l0 l1 g → B_M_init_568 Γ (fun l0 l1 g => ∃ m, m < n ∧ I568 m l0 l1 g) (fun l0 l1 g => ∃ m, m < n ∧ I590 m l0 l1 g) (fun l0 l1 l2 g => ∃ m, m < n ∧ I598 m l0 l1 l2 g) K l0 l1 g) (hh590 : ∀ n (l0 : Nat) (l1 : Int32) (g : GH), I590 n l0 l1 g → B_M_init_590 Γ (fun l0 l1 g => ∃ m, m < n ∧ I568 m l0 l1 g) (fun l0 l1 g => ∃ m, m < n ∧ I590 m l0 l1 g) (fun l0 l1 l2 g => ∃ m, m < n ∧ I598 m l0 l1 l2 g) K l0 l1 g) (hh598 : ∀ n (l0 : Nat) (l1 : Int32) (l2 : Int32) (g : GH), I598 n l0 l1 l2 g → B_M_init_598 Γ (fun l0 l1 g => ∃ m, m < n ∧ I568 m l0 l1 g) (fun l0 l1 g => ∃ m, m < n ∧ I590 m l0 l1 g) (fun l0 l1 l2 g => ∃ m, m < n ∧ I598 m l0 l1 l2 g) K l0 l1 l2 g) (h0 : B_M_init_0 Γ (fun l0 l1 g => ∃ m, I568 m l0 l1 g) (fun l0 l1 g => ∃ m, I590 m l0 l1 g) (fun l0 l1 l2 g => ∃ m, I598 m l0 l1 l2 g) K th g) : MetA Γ l yX11_init cX11_init 3 none 1 20 [.ref th] g (fun r g' => r = none ∧ K g') := by
  refine MetA.introL (Lx := [some (.ref th), none, none]) (by decide) (Nat.le_of_ble_eq_true rfl) rfl rfl ?_
  intro E hEl hE hnm
  have hall : ∀ n, (∀ (l0 : Nat) (l1 : Int32) (g : GH), I568 n l0 l1 g → JW Γ E 568 [some (.ref l0), some (.int l1), none] [] g) ∧ (∀ (l0 : Nat) (l1 : Int32) (g : GH), I590 n l0 l1 g → JW Γ E 590 [some (.ref l0), some (.int l1), none] [] g) ∧ (∀ (l0 : Nat) (l1 : Int32) (l2 : Int32) (g : GH), I598 n l0 l1 l2 g → JW Γ E 598 [some (.ref l0), some (.int l1), some (.int l2)] [] g) := by
    intro n
    induction n using Nat.strongRecOn with
    | ind n ih =>
      exact ⟨fun l0 l1 g hi => S_M_init_568 hE hnm (fun l0 l1 g hm => by obtain ⟨m, hm, h⟩ := hm; exact (ih m hm).1 l0 l1 g h) (fun l0 l1 g hm => by obtain ⟨m, hm, h⟩ := hm; exact (ih m hm).2.1 l0 l1 g h) (fun l0 l1 l2 g hm => by obtain ⟨m, hm, h⟩ := hm; exact (ih m hm).2.2 l0 l1 l2 g h) l0 l1 g (hh568 n l0 l1 g hi), fun l0 l1 g hi => S_M_init_590 hE hnm (fun l0 l1 g hm => by obtain ⟨m, hm, h⟩ := hm; exact (ih m hm).1 l0 l1 g h) (fun l0 l1 g hm => by obtain ⟨m, hm, h⟩ := hm; exact (ih m hm).2.1 l0 l1 g h) (fun l0 l1 l2 g hm => by obtain ⟨m, hm, h⟩ := hm; exact (ih m hm).2.2 l0 l1 l2 g h) l0 l1 g (hh590 n l0 l1 g hi), fun l0 l1 l2 g hi => S_M_init_598 hE hnm (fun l0 l1 g hm => by obtain ⟨m, hm, h⟩ := hm; exact (ih m hm).1 l0 l1 g h) (fun l0 l1 g hm => by obtain ⟨m, hm, h⟩ := hm; exact (ih m hm).2.1 l0 l1 g h) (fun l0 l1 l2 g hm => by obtain ⟨m, hm, h⟩ := hm; exact (ih m hm).2.2 l0 l1 l2 g h) l0 l1 l2 g (hh598 n l0 l1 l2 g hi)⟩
  exact S_M_init_0 hE hnm (fun l0 l1 g hm => by obtain ⟨m, h⟩ := hm; exact (hall m).1 l0 l1 g h) (fun l0 l1 g hm => by obtain ⟨m, h⟩ := hm; exact (hall m).2.1 l0 l1 g h) (fun l0 l1 l2 g hm => by obtain ⟨m, h⟩ := hm; exact (hall m).2.2 l0 l1 l2 g h) th g h0
theorem mt_M_init {Γ : GAM} {l : Launch} (th : Nat) (g : GH) (K : GH → Prop) (h : Sp_M_init Γ th g K) : MetA Γ l yX11_init cX11_init 3 none 1 20 [.ref th] g (fun r g' => r = none ∧ K g') := by
  obtain ⟨h1, h2, h3, h4, h5, h6, hK⟩ := h
  have S0 : StN Γ th g 0 (fun _ => 0) (fun _ _ => 0) g := ⟨⟨fun _ _ _ => rfl, fun _ _ _ => rfl, fun _ _ _ => ⟨rfl, rfl⟩, fun _ _ => ⟨rfl, rfl, rfl, rfl, rfl⟩, fun a ha hb => by rw [h3 a ha] at hb; omega, Nat.le_refl _, Nat.le_refl _⟩, h3, h1, h2, rfl, rfl, h6, h4, h5, fun _ _ hi => absurd hi (Nat.not_lt_zero _), Nat.zero_le _, h3⟩
  refine rl_M_init (I568 := fun n l0 l1 gg => th = l0 ∧ ∃ k, k ≤ 4 ∧ l1 = nI k ∧ n + k = 300 ∧ ∃ W, StN Γ th g 64 VMi W gg ∧ (∀ i, i < k → W 1626 i = 300) ∧ (∀ c i, c ≠ 1626 → W c i = 0))
    (I590 := fun n l0 l1 gg => th = l0 ∧ ∃ k, k ≤ 9 ∧ l1 = nI k ∧ n + 20 * k = 200 ∧ ∃ W, StN Γ th g 64 VMi W gg ∧ (∀ i, i < 4 → W 1626 i = 300) ∧ (∀ a b, a < k → b < 9 → a ≠ b → W 1616 (9 * a + b) = 30) ∧ (∀ c i, c ≠ 1626 → c ≠ 1616 → W c i = 0))
    (I598 := fun n l0 l1 l2 gg => th = l0 ∧ ∃ k j, k < 9 ∧ j ≤ 9 ∧ l1 = nI k ∧ l2 = nI j ∧ n + 20 * k + j = 199 ∧ ∃ W, StN Γ th g 64 VMi W gg ∧ (∀ i, i < 4 → W 1626 i = 300) ∧ (∀ a b, a < k → b < 9 → a ≠ b → W 1616 (9 * a + b) = 30) ∧ (∀ b, b < j → k ≠ b → W 1616 (9 * k + b) = 30) ∧ (∀ c i, c ≠ 1626 → c ≠ 1616 → W c i = 0)) ?_ ?_ ?_ ?_
  · rintro n _ _ gg ⟨rfl, k, hk, rfl, hn, W, hS, hW, hW2⟩
    unfold B_M_init_568
    refine ⟨fun q => ?_, fun q => ?_⟩
    · have q2 : k = 4 := by
        have := (nj_le (a := 4) (b := k) (by omega) (by omega)).mp q; omega
      exact ⟨200, by omega, rfl, 0, by omega, rfl, by omega, W, hS, fun i hi => hW i (by omega), fun a b ha => absurd ha (Nat.not_lt_zero _), fun c i hc _ => hW2 c i hc⟩
    · have q2 : k < 4 := by
        refine Nat.lt_of_not_le (fun z => q ?_)
        exact (nj_le (a := 4) (b := k) (by omega) (by omega)).mpr z
      obtain ⟨z1, z2, z3, z4, z5, z6⟩ := hS.2.2.2.2.2.2.2.2.2.1 59 (1626, 20, 4) (by omega) rfl
      refine ⟨hS.kd, _, z1, z2, ?_, ?_⟩
      · rw [z5]; exact inB_nI (n := 4) q2 (by omega)
      rintro _ rfl
      rw [z3, z4, nj_cl (by omega)]
      refine ⟨n - 1, by omega, rfl, k + 1, by omega, nj_s k, by omega, _, hS.setA, fun i hi => ?_, fun c i hc => ?_⟩
      · by_cases e : i = k
        · simp [e]
        · simp only [e, and_false, if_false]; exact hW i (by omega)
      · simp only [hc, false_and, if_false]; exact hW2 c i hc
  · rintro n _ _ gg ⟨rfl, k, hk, rfl, hn, W, hS, hW, hW1, hW2⟩
    unfold B_M_init_590
    refine ⟨fun q => ?_, fun q => ?_⟩
    · have q2 : k = 9 := by
        have := (nj_lt (a := 8) (b := k) (by omega) (by omega)).mp q; omega
      subst q2
      exact minit_end hS hW hW1 hW2 h2 hK
    · have q2 : k < 9 := by
        refine Nat.lt_of_not_le (fun z => q ?_)
        exact (nj_lt (a := 8) (b := k) (by omega) (by omega)).mpr z
      exact ⟨199 - 20 * k, by omega, rfl, k, 0, q2, by omega, rfl, rfl, by omega, W, hS, hW, hW1, fun b hb => absurd hb (Nat.not_lt_zero _), hW2⟩
  · rintro n _ _ _ gg ⟨rfl, k, j, hk, hj, rfl, rfl, hn, W, hS, hW, hW1, hWj, hW2⟩
    unfold B_M_init_598
    refine ⟨fun q => ?_, fun q => ?_⟩
    · have q2 : j = 9 := by
        have := (nj_lt (a := 8) (b := j) (by omega) (by omega)).mp q; omega
      subst q2
      refine ⟨200 - 20 * (k + 1), by omega, rfl, k + 1, by omega, nj_s k, by omega, W, hS, hW, fun a b ha hb hab => ?_, hW2⟩
      by_cases e : a = k
      · subst e; exact hWj b hb hab
      · exact hW1 a b (by omega) hb hab
    · have q2 : j < 9 := by
        refine Nat.lt_of_not_le (fun z => q ?_)
        exact (nj_lt (a := 8) (b := j) (by omega) (by omega)).mpr z
      obtain ⟨z1, z2, z3, z4, z5, z6⟩ := hS.2.2.2.2.2.2.2.2.2.1 52 (1616, 20, 81) (by omega) rfl
      refine ⟨hS.kd, _, z1, ?_⟩
      have key : ∀ v : Int32, (k ≠ j → v = 30) → B_M_init_625 Γ (fun l0 l1 g_1 => ∃ m, m < n ∧ th = l0 ∧ ∃ k, k ≤ 4 ∧ l1 = nI k ∧ m + k = 300 ∧ ∃ W, StN Γ th g 64 VMi W g_1 ∧ (∀ i, i < k → W 1626 i = 300) ∧ (∀ c i, c ≠ 1626 → W c i = 0)) (fun l0 l1 g_1 => ∃ m, m < n ∧ th = l0 ∧ ∃ k, k ≤ 9 ∧ l1 = nI k ∧ m + 20 * k = 200 ∧ ∃ W, StN Γ th g 64 VMi W g_1 ∧ (∀ i, i < 4 → W 1626 i = 300) ∧ (∀ a b, a < k → b < 9 → a ≠ b → W 1616 (9 * a + b) = 30) ∧ (∀ c i, c ≠ 1626 → c ≠ 1616 → W c i = 0)) (fun l0 l1 l2 g_1 => ∃ m, m < n ∧ th = l0 ∧ ∃ k j, k < 9 ∧ j ≤ 9 ∧ l1 = nI k ∧ l2 = nI j ∧ m + 20 * k + j = 199 ∧ ∃ W, StN Γ th g 64 VMi W g_1 ∧ (∀ i, i < 4 → W 1626 i = 300) ∧ (∀ a b, a < k → b < 9 → a ≠ b → W 1616 (9 * a + b) = 30) ∧ (∀ b, b < j → k ≠ b → W 1616 (9 * k + b) = 30) ∧ (∀ c i, c ≠ 1626 → c ≠ 1616 → W c i = 0)) K th (nI k) (nI j) v ((9 * nI k) + nI j) (Hn g + 52) gg := by
        intro v hv
        unfold B_M_init_625
        have e9 : (9 * nI k) + nI j = nI (9 * k + j) := by
          rw [show (9 : Int32) = nI 9 from rfl, nj_mul, nI_add9]
        rw [e9]
        refine ⟨z2, ?_, ?_⟩
        · rw [z5]; exact inB_nI (n := 81) (by omega) (by omega)
        rintro _ rfl
        rw [z3, z4, nj_cl (by omega)]
        refine ⟨n - 1, by omega, rfl, k, j + 1, hk, by omega, rfl, nj_s j, by omega, _, hS.setA, fun i hi => ?_, fun a b ha hb hab => ?_, fun b hb hkb => ?_, fun c i hc hc2 => ?_⟩
        · simp; exact hW i hi
        · have : ¬ 9 * a + b = 9 * k + j := by omega
          simp only [this, and_false, if_false]; exact hW1 a b ha hb hab
        · by_cases e : b = j
          · subst e; simp; exact hv hkb
          · have : ¬ 9 * k + b = 9 * k + j := by omega
            simp only [this, and_false, if_false]; exact hWj b (by omega) hkb
        · simp only [hc2, false_and, if_false]; exact hW2 c i hc hc2
      exact ⟨fun _ => key 30 (fun _ => rfl), fun e => key 0 (fun z => absurd ((nj_eq (by omega) (by omega)).mp e) z)⟩
  · unfold B_M_init_0
    refine ⟨S0.kd, ?_⟩
    rintro _ rfl
    have S := S0.setI (f := 1548) (v := 5)
    refine StN.step (n := 0) S rfl ?_
    clear S
    intro _ S
    refine StN.step (n := 1) S rfl ?_
    clear S
    intro _ S
    refine StN.step (n := 2) S rfl ?_
    clear S
    intro _ S
    refine StN.step (n := 3) S rfl ?_
    clear S
    intro _ S
    refine StN.step (n := 4) S rfl ?_
    clear S
    intro _ S
    refine StN.step (n := 5) S rfl ?_
    clear S
    intro _ S
    refine StN.step (n := 6) S rfl ?_
    clear S
    intro _ S
    refine StN.step (n := 7) S rfl ?_
    clear S
    intro _ S
    refine StN.step (n := 8) S rfl ?_
    clear S
    intro _ S
    refine StN.step (n := 9) S rfl ?_
    clear S
    intro _ S
    refine StN.step (n := 10) S rfl ?_
    clear S
    intro _ S
    refine StN.step (n := 11) S rfl ?_
    clear S
    intro _ S
    refine StN.step (n := 12) S rfl ?_
    clear S
    intro _ S
    refine StN.step (n := 13) S rfl ?_
    clear S
    intro _ S
    refine StN.step (n := 14) S rfl ?_
    clear S
    intro _ S
    refine StN.step (n := 15) S rfl ?_
    clear S
    intro _ S
    refine StN.step (n := 16) S rfl ?_
    clear S
    intro _ S
    unfold B_M_init_155
    refine StN.step (n := 17) S rfl ?_
    clear S
    intro _ S
    refine StN.step (n := 18) S rfl ?_
    clear S
    intro _ S
    refine StN.step (n := 19) S rfl ?_
    clear S
    intro _ S
    refine StN.step (n := 20) S rfl ?_
    clear S
    intro _ S
    refine StN.step (n := 21) S rfl ?_
    clear S
    intro _ S
    refine StN.step (n := 22) S rfl ?_
    clear S
    intro _ S
    refine StN.step (n := 23) S rfl ?_
    clear S
    intro _ S
    refine StN.step (n := 24) S rfl ?_
    clear S
    intro _ S
    refine StN.step (n := 25) S rfl ?_
    clear S
    intro _ S
    refine StN.step (n := 26) S rfl ?_
    clear S
    intro _ S
    refine StN.step (n := 27) S rfl ?_
    clear S
    intro _ S
    refine StN.step (n := 28) S rfl ?_
    clear S
    intro _ S
    refine StN.step (n := 29) S rfl ?_
    clear S
    intro _ S
    refine StN.step (n := 30) S rfl ?_
    clear S
    intro _ S
    refine StN.step (n := 31) S rfl ?_
    clear S
    intro _ S
    refine StN.step (n := 32) S rfl ?_
    clear S
    intro _ S
    refine StN.step (n := 33) S rfl ?_
    clear S
    intro _ S
    refine StN.step (n := 34) S rfl ?_
    clear S
    intro _ S
    unfold B_M_init_312
    refine StN.step (n := 35) S rfl ?_
    clear S
    intro _ S
    refine StN.step (n := 36) S rfl ?_
    clear S
    intro _ S
    refine StN.step (n := 37) S rfl ?_
    clear S
    intro _ S
    refine StN.step (n := 38) S rfl ?_
    clear S
    intro _ S
    refine StN.step (n := 39) S rfl ?_
    clear S
    intro _ S
    refine StN.step (n := 40) S rfl ?_
    clear S
    intro _ S
    refine StN.step (n := 41) S rfl ?_
    clear S
    intro _ S
    refine StN.step (n := 42) S rfl ?_
    clear S
    intro _ S
    refine StN.step (n := 43) S rfl ?_
    clear S
    intro _ S
    refine StN.step (n := 44) S rfl ?_
    clear S
    intro _ S
    refine StN.step (n := 45) S rfl ?_
    clear S
    intro _ S
    refine StN.step (n := 46) S rfl ?_
    clear S
    intro _ S
    refine StN.step (n := 47) S rfl ?_
    clear S
    intro _ S
    refine StN.step (n := 48) S rfl ?_
    clear S
    intro _ S
    refine StN.step (n := 49) S rfl ?_
    clear S
    intro _ S
    refine StN.step (n := 50) S rfl ?_
    clear S
    intro _ S
    refine StN.step (n := 51) S rfl ?_
    clear S
    intro _ S
    refine ⟨S.kd, ?_⟩
    rintro _ rfl
    replace S := S.setI (f := 1615) (v := 100)
    unfold B_M_init_464
    refine StN.step (n := 52) S rfl ?_
    clear S
    intro _ S
    refine StN.step (n := 53) S rfl ?_
    clear S
    intro _ S
    refine StN.step (n := 54) S rfl ?_
    clear S
    intro _ S
    refine StN.step (n := 55) S rfl ?_
    clear S
    intro _ S
    refine StN.step (n := 56) S rfl ?_
    clear S
    intro _ S
    refine StN.step (n := 57) S rfl ?_
    clear S
    intro _ S
    refine StN.step (n := 58) S rfl ?_
    clear S
    intro _ S
    refine ⟨S.kd, ?_⟩
    rintro _ rfl
    replace S := S.setI (f := 1623) (v := 5)
    refine StN.step (n := 59) S rfl ?_
    clear S
    intro _ S
    refine StN.step (n := 60) S rfl ?_
    clear S
    intro _ S
    refine StN.step (n := 61) S rfl ?_
    clear S
    intro _ S
    refine StN.step (n := 62) S rfl ?_
    clear S
    intro _ S
    refine StN.step (n := 63) S rfl ?_
    clear S
    intro _ S
    refine ⟨300, rfl, 0, by omega, rfl, by omega, _, ?_, fun i hi => absurd hi (Nat.not_lt_zero _), fun _ _ _ => rfl⟩
    refine S.gi (fun f => ?_)
    rfl
