/-! the law's entry: two objects and a row of one -/
theorem Fr.row {g : GH} {o : Nat} (he : EN g) : Fr [] [1535] [] g (nA g 23 1535 o 1) := by
  refine ⟨fun _ _ _ _ _ => rfl, fun _ _ _ _ => rfl, fun c o' q1 q2 q3 q4 => ⟨?_, ?_⟩, fun a q => .inr ?_, Nat.le_succ _, Nat.le_add_right _ _, ⟨fun z b hb => ?_, fun z b hb => ?_⟩, fun b q1 q2 q3 => ?_⟩
  · rw [Ia_nA, if_neg (fun z => q2 (by rw [z.1]; simp))]
  · rw [Ra_nA, if_neg (fun z => q2 (by rw [z.1]; simp))]
  · have z : ¬ a = Hn g := by omega
    rw [Kd_nA, Co_nA, Ow_nA, Ln_nA, La_nA, if_neg z, if_neg z, if_neg z, if_neg z, if_neg z]; exact ⟨rfl, rfl, rfl, rfl, rfl⟩
  · rw [Kd_nA] at hb
    rw [Co_nA]
    by_cases w : b = Hn g
    · rw [if_pos w]; decide
    · rw [if_neg w] at hb ⊢; exact z b hb
  · rw [Hn_nA] at hb
    rw [Kd_nA, if_neg (by omega)]; exact z b (by omega)
  · rw [Co_nA] at q3
    rw [Kd_nA] at q2
    by_cases w : b = Hn g
    · rw [if_pos w] at q3; omega
    · rw [if_neg w] at q2
      rw [he b q1] at q2; omega
theorem law_entry {Γ : GAM} {Z : SCRT} (h : Γ.2.2.2 < Γ.2.2.1.size) (hz : z_n Z ≤ 3072) : B_LAW_law_0 Γ Z (fun l0 l1 l2 l3 l4 g => ∃ m, LI Γ Z m l0 l1 l2 l3 l4 g) KE (z_b Z) (g00 Γ) := by
  have hN : 601000 ≤ NCC := by decide +kernel
  have hS : 7290000 ≤ NSS := by decide +kernel
  have e0 : Hn (g00 Γ) = gB Γ := rfl
  have u0 : Hu (g00 Γ) = 0 := rfl
  have hen := g00_en h
  have hse := g00_se h
  unfold B_LAW_law_0
  refine ⟨by omega, by omega, ?_⟩
  rintro _ g2 rfl hg2 z1 z2 z3 z4
  have e2 : Hn g2 = gB Γ + 1 ∧ Hu g2 = 10 := by rw [hg2, Hn_nO, Hu_nO, e0, u0]; exact ⟨rfl, rfl⟩
  have hN1 := NEW.nO (Γ := Γ) (ci := 11) (N := 10) (fl := []) z1 z2 z3 z4 ⟨by show Hn (g00 Γ) + 1 + 0 ≤ _; omega, by show Hu (g00 Γ) + 10 + 0 ≤ _; omega⟩ (by decide)
  rw [← hg2] at hN1
  refine ⟨⟨⟨hN1.1, hN1.2.1⟩, hN1.2.2.2.1, by rw [hg2]; exact hse.nO, by omega, by omega⟩, by rw [hg2]; exact g00_nt.nO (by decide), fun f _ => hN1.2.2.2.2.1 f, fun C g3 hcn hx hI hh => ?_⟩
  refine ⟨by omega, by omega, ?_⟩
  rintro _ g5 rfl hg5 y1 y2 y3 y4
  have e5 : Hn g5 = Hn g3 + 1 ∧ Hu g5 = Hu g3 + 95 := by rw [hg5]; exact ⟨rfl, rfl⟩
  have hN2 := NEW.nO (Γ := Γ) (ci := 12) (N := 95) (fl := []) y1 y2 y3 y4 ⟨by show Hn g3 + 1 + 0 ≤ _; omega, by show Hu g3 + 95 + 0 ≤ _; omega⟩ (by decide)
  rw [← hg5] at hN2
  refine ⟨hN2.1, hN2.2.1, hN2.2.2.1, fun F _ => hN2.2.2.2.1 F, hN2.2.2.2.2.1, ⟨by omega, by omega⟩, fun ma g6 hco hE hn6 hu6 hlab hM => ?_⟩
  rw [hg5] at hco
  have k6 : Fr [] [] [] g3 g6 := hco.fr hE hI.en rfl (fun b q1 q2 => by have := hlab b (by omega) q2; omega) (by decide)
  have hI6 := hI.fr0 k6 (fun f hf z => by cases z) (fun f hf z => by cases z)
  have hml : Hn g3 < Hn g6 := by omega
  refine ⟨hml, fun b hb hc ho => ?_, by omega, by omega, ?_⟩
  · by_cases q : b < Hn g5
    · obtain ⟨c1, c2, c3, c4, -⟩ := hco
      rw [← hg5] at c4
      obtain ⟨w1, w2, w3, -⟩ := c4 b q
      exact hN2.2.2.2.1 1535 b (by rw [← w1]; exact hb) (by rw [← w2]; exact hc) (by rw [← w3]; exact ho)
    · have := hlab b (by omega) hb; omega
  · rintro _ g8 rfl hg8
    have k8 : Fr [] [1535] [] g6 g8 := by rw [hg8]; exact Fr.row hE
    have e8 : Hn g8 = Hn g6 + 1 ∧ Hu g8 = Hu g6 + 1 := by rw [hg8]; exact ⟨rfl, rfl⟩
    have hphi : phi (c_D C) g8 ≤ 200 := Nat.sub_le _ _
    refine ⟨512, rfl, C, ma, st0, 0, ⟨by omega, rfl, rfl⟩, hx, hI6.fr0 k8 (fun f hf z => by cases z) (by decide), WF.st0, ⟨by omega, by omega, by decide⟩, hM.frc (FrC.of k8 (by simp) (by simp)) hE, ⟨by rw [hg8, Kd_nA, if_pos rfl], by rw [hg8, Ln_nA, if_pos rfl]⟩, hz⟩
