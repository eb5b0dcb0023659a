/-! the class's face: a heap is opened, the call -/
theorem Hp_made {g1 g2 : GH} {sh d n : Int32} {ch : Nat → Int32} (he : EN g1) (hf : ∀ F, free (nO g1 2 4) F (Hn g1)) (h : MADE flHp (Hn g1) (nO g1 2 4) g2) (hH : HpI (Hn g1) g2 sh d ch n) : Fr [] [] [] g1 g2 ∧ Hn g2 = Hn g1 + 2 ∧ Hu g2 ≤ Hu g1 + 9 := by
  obtain ⟨c, hE, hn, hu⟩ := h
  obtain ⟨hk, ⟨a, a1, a2, a3, a4, a5⟩, -⟩ := hH
  have hn' : Hn g2 = Hn g1 + 2 := by rw [hn, Hn_nO]; rfl
  refine ⟨c.fr hE he rfl (fun b q1 q2 => ?_) (by decide), hn', by rw [Hu_nO] at hu; exact hu⟩
  have hb : b < Hn g2 := hE.lt (by omega)
  have ha : a < Hn g2 := hE.lt (by omega)
  obtain ⟨c1, c2, c3, c4, c5, c6, c7⟩ := c
  have hna : ¬ a < Hn (nO g1 2 4) := fun z => by
    obtain ⟨z1, z2, z3, -⟩ := c4 a z
    exact hf 258 a (by rw [← z1]; omega) (by rw [← z2]; exact a3) (by rw [← z3]; exact a4)
  rw [Hn_nO] at hna
  have : b = a := by omega
  rw [this, a3]; decide
theorem opU_no {s : ST} {p0 : Int32} {k : Nat} (h : ¬ opC s p0 k) : opU s p0 (k + 1) = opU s p0 k := by
  unfold opU
  congr 1
  funext e
  unfold opF
  by_cases z : e < k ∧ opC s p0 e
  · rw [if_pos z, if_pos ⟨by omega, z.2⟩]
  · rw [if_neg z, if_neg (fun q => z ⟨?_, q.2⟩)]
    have : e ≠ k := fun w => h (by rw [← w]; exact q.2)
    omega
/-- where the laying of a heap stands -/
def OPI (Γ : GAM) (D : DIR) (s : ST) (p0 : Int32) (k : Nat) (g1 g' : GH) : Prop := Fr [134] [] [] g1 g' ∧ (Hn g' = Hn g1 + 2 ∧ Hu g' ≤ Hu g1 + 9) ∧ PoH D g' (opU s p0 k) ∧ JA D s (s_now s) (s_vot s).length g' ∧ HpI (Hn g1) g' p0 (s_now s) (fun c => sHp (opU s p0 k) (s_hea s).length (nI c)) (sHp (opU s p0 k) (s_hea s).length 5)
theorem OPI.po {Γ : GAM} {D : DIR} {s : ST} {p0 : Int32} {k : Nat} {g1 g' : GH} (h : OPI Γ D s p0 k g1 g') (hP : PoI Γ D g1 s) : PoI Γ D g' (opU s p0 k) := hP.hof h.1 ⟨by decide, by decide⟩ (by decide) h.2.2.1
theorem OPI.ini {Γ : GAM} {D : DIR} {s : ST} {p0 : Int32} {g1 g2 : GH} (hP : PoI Γ D g1 s) (hW : WF s) (hJ : JA D s (s_now s) (s_vot s).length g1) (hf : ∀ F, free (nO g1 2 4) F (Hn g1)) (h : MADE flHp (Hn g1) (nO g1 2 4) g2) (hH : HpI (Hn g1) g2 p0 (s_now s) (fun _ => 0) 0) : OPI Γ D s p0 0 g1 g2 := by
  obtain ⟨k1, k2, k3⟩ := Hp_made hP.1.1 hf h hH
  have hc : ∀ c, sHp (opU s p0 0) (s_hea s).length c = 0 := fun c => by rw [sHp_op hW]; rfl
  refine ⟨k1.up (by simp) (by simp) (by simp), ⟨k2, k3⟩, fun e x hx => ?_, ?_, ?_⟩
  · obtain ⟨_, _, _, _, _, hE, _⟩ := hP.2.2.2.2.1.2.2 e x hx
    rw [k1.gi hE.1.1 (by simp) (by decide), hsh_op hW, if_neg (fun z => by have := z.1; omega)]
    exact hP.2.2.2.2.2.1 e x hx
  · intro v hv
    obtain ⟨j1, j2⟩ := hJ v hv
    refine ⟨fun w hw => ?_, fun e y x he hy hx => ?_⟩
    · obtain ⟨_, _, _, hV, _⟩ := hP.2.2.2.1.2.2.1 v w hw
      have := hV.1.1
      rw [k1.gi this (by simp) (by decide), k1.gi this (by simp) (by decide), k1.gi this (by simp) (by decide), k1.gi this (by simp) (by decide)]
      exact j1 w hw
    · obtain ⟨_, _, _, _, _, hE, _⟩ := hP.2.2.2.2.1.2.2 e x hx
      exact (j2 e y x he hy hx).sam (k1.sam hE.1.1)
  · rw [hc, show (fun c => sHp (opU s p0 0) (s_hea s).length (nI c)) = fun _ => 0 from funext fun c => hc _]
    exact hH
theorem OPI.no {Γ : GAM} {D : DIR} {s : ST} {p0 : Int32} {k : Nat} {g1 g' : GH} (h : OPI Γ D s p0 k g1 g') (hn : ¬ opC s p0 k) : OPI Γ D s p0 (k + 1) g1 g' := by
  unfold OPI at h ⊢
  rw [opU_no hn]; exact h
theorem OPI.yes {Γ : GAM} {D : DIR} {s : ST} {p0 : Int32} {k a j : Nat} {g1 g' : GH} {y : Em} (h : OPI Γ D s p0 k g1 g') (hP : PoI Γ D g1 s) (hW : WF s) (ho : opC s p0 k) (hy : (s_env s)[k]? = some y) (ha : (d_es D)[k]? = some a) (hj : y.2.2.2 = nI j) (hj5 : j < 5) :
    OPI Γ D s p0 (k + 1) g1 (sI (sA (sI g' 134 a p0) 258 (Hn g1) j (sHp (opU s p0 k) (s_hea s).length (nI j) + 1)) 259 (Hn g1) (sHp (opU s p0 k) (s_hea s).length 5 + 1)) := by
  obtain ⟨k1, k2, hH, hJ, ⟨b0, ⟨b, b1⟩, b2, b3, b4, b5⟩⟩ := h
  have he1 := hP.1.1
  have he' := k1.en he1
  have hl := hW.len.2.2.1
  have hkl := (List.getElem?_eq_some_iff.mp hy).1
  obtain ⟨_, _, _, _, _, hEa, _⟩ := hP.2.2.2.2.1.2.2 k a ha
  have hal := hEa.1.1
  have hk1 := k1.hn
  have f2 : Fr [134] [] [] g1 (sI g' 134 a p0) := k1.tr (Fr.sI he' (.inl (by simp)))
  have hs : ∀ c, sHp (opU s p0 (k + 1)) (s_hea s).length c = sHp (opU s p0 k) (s_hea s).length c + if c = 5 ∨ nI j = c then 1 else 0 := fun c => by
    rw [sHp_op hW, sHp_op hW]
    unfold sS
    rw [fold_take _ _ _ (show (s_env s).zipIdx[k]? = some (y, k) by rw [List.getElem?_zipIdx, hy]; simp)]
    congr 1
    unfold hpG
    rw [hj]
    by_cases z : c = 5 ∨ nI j = c
    · rw [if_pos z, if_pos ⟨ho, z⟩]
    · rw [if_neg z, if_neg (fun q => z q.2)]
  refine ⟨f2.out (m := Hn g1) (fs' := [259]) (cs' := [258]) ((FrX.sA (by decide)).tr (FrX.sI (by decide))) (Nat.le_refl _), k2, fun e x hx => ?_, ?_, ⟨b0, ⟨b, b1⟩, ?_, ?_, ?_, fun i hi => ?_⟩⟩
  · rw [Gi_sI, if_neg (fun z => absurd z.1 (by decide)), Gi_sA, Gi_sI, hsh_op hW]
    by_cases z : x = a
    · have hek := hP.einj hl hx (by rw [z]; exact ha)
      subst hek
      rw [if_pos ⟨rfl, z⟩, if_pos ⟨by omega, ho⟩]
    · have hek : e ≠ k := fun q => by
        subst q
        rw [hx] at ha; cases ha
        exact z rfl
      rw [if_neg (fun q => z q.2), hH e x hx, hsh_op hW]
      by_cases w : e < k ∧ opC s p0 e
      · rw [if_pos w, if_pos ⟨by omega, w.2⟩]
      · rw [if_neg w, if_neg (fun q => w ⟨by omega, q.2⟩)]
  · refine hJ.g (fun f a' z1 z2 => ?_) (fun c o z => ?_)
    · rw [Gi_sI, if_neg (fun q => z2 q.1), Gi_sA, Gi_sI, if_neg (fun q => z1 q.1)]
    · funext i
      rw [Ia_sI, Ia_sA, if_neg (fun q => z q.1), Ia_sI]
  · rw [Gi_sI, if_neg (fun z => absurd z.1 (by decide)), Gi_sA, Gi_sI, if_neg (fun z => absurd z.1 (by decide))]; exact b2
  · rw [Gi_sI, if_neg (fun z => absurd z.1 (by decide)), Gi_sA, Gi_sI, if_neg (fun z => absurd z.1 (by decide))]; exact b3
  · rw [Gi_sI, if_pos ⟨rfl, rfl⟩, hs, if_pos (.inl rfl)]
  · show _ = sHp (opU s p0 (k + 1)) (s_hea s).length (nI i)
    rw [hs, Ia_sI, Ia_sA]
    by_cases z : i = j
    · subst z
      rw [if_pos ⟨rfl, rfl, rfl⟩, if_pos (.inr rfl)]
    · rw [if_neg (fun q => z q.2.2), Ia_sI, if_neg (fun q => q.elim (fun q => absurd ((nj_eq (b := 5) (by omega) (by omega)).mp q) (by omega)) (fun q => z ((nj_eq (by omega) (by omega)).mp q).symm)), Int32.add_zero]
      exact b5 i hi
/-- the list of heaps grown -/
theorem OPI.fin {Γ : GAM} {C : CDR} {s : ST} {p0 : Int32} {n : Nat} {g g1 g' g2 : GH} (hI : ClsI Γ C g s) (hW : WF s) (hR : RM Γ C g s (n + 1)) (hF : FC (c_D C) g g1) (hC : COM Γ (c_D C) g1) (h : OPI Γ (c_D C) s p0 (s_env s).length g1 g') (hf : Fr [] [] [c_hl C] g' g2) (hA : AC Γ g2 (c_hl C) (c_hs C ++ [Hn g1])) (hh : Hn g2 ≤ Hn g' + 1 ∧ Hu g2 ≤ Hu g' + 2000) :
    FrC g g2 ∧ ClsI Γ (C.1, c_D C, c_hs C ++ [Hn g1]) g2 (opU s p0 (s_env s).length) ∧ RM Γ (C.1, c_D C, c_hs C ++ [Hn g1]) g2 (opU s p0 (s_env s).length) n := by
  have hI1 := hI.fc hF hC
  have hR1 := hR.fc0 hF
  have hP' := h.po hI1.2.2.2.2.2.2.1
  obtain ⟨k1, k2, hH, hJ, hHp⟩ := h
  have he1 := hI1.en
  have kk : Fr [134] [] [c_hl C] g1 g2 := (k1.up (fun f hf => hf) (by simp) (by simp)).tr (hf.up (by simp) (by simp) (by simp))
  obtain ⟨a1, a2, a3, a4, a5, a6, a7, a8⟩ := hI1
  obtain ⟨-, -, ⟨l0, l1, l2, l3⟩, -⟩ := id a1
  have hc := a7.2.1.2.2.2.2.1
  have n2 : d_cl (c_D C) ∉ [c_hl C] := fun z => by
    have hc2 := hc.2.1
    rw [List.mem_singleton] at z
    rw [z, l2] at hc2
    exact absurd hc2 (by decide)
  obtain ⟨cs, hcs, -⟩ := id a8
  have hphi : phi (c_D C) g2 = phi (c_D C) g1 := by unfold phi; rw [cpA.fr hcs kk n2]
  have hP2 : PoI Γ (c_D C) g2 (opU s p0 (s_env s).length) := hP'.fr2 hf ⟨by decide, by decide⟩ (by decide) (fun al ha => by
    rw [List.mem_singleton] at ha
    subst ha
    have hw := (k1.kd l0 (by omega)).2.2.1.trans l3
    rw [hw]
    have hx := a1.1.2
    have hp := a7.2.1.1.2
    have hj := a7.2.2.2.2.2.2.2.1.2
    refine ⟨fun z => ?_, fun z => ?_, fun x hx' z => ?_, fun x hx' z => ?_⟩
    · rw [z] at hx; omega
    · rw [z] at hx; omega
    · obtain ⟨i, hi⟩ := List.getElem?_of_mem hx'
      obtain ⟨_, _, _, hV, _⟩ := a7.2.2.2.1.2.2.1 i x hi
      have := hV.1.2
      rw [z] at hx; omega
    · obtain ⟨i, hi⟩ := List.getElem?_of_mem hx'
      obtain ⟨_, _, _, _, _, hE, _⟩ := a7.2.2.2.2.1.2.2 i x hi
      have := hE.1.2
      rw [z] at hx; omega)
  refine ⟨hF.c.tr (FrC.of kk (by decide) (by simp)), ⟨a1.fr kk, (CV.fr (s := s) a2 a1 kk (by decide) (by decide) : CV C g2 s), a3.fr kk he1 (by decide) (by decide), (PrI.fr (s := s) a4 kk he1 (by decide) (by decide) : PrI (c_pr C) g2 s), (a5.fr kk he1 (by decide) (by decide)).cg rfl rfl rfl, ⟨hA, ?_, fun i x hx => ?_⟩, hP2, a8.fr2 kk n2 (by decide) (by decide)⟩, hR1.up (C := C) (s := s) (by show phi (c_D C) g2 ≤ _; rw [hphi]; exact Nat.le_refl _) (by omega) (by omega) (Nat.le_succ _)⟩
  · show (c_hs C ++ [Hn g1]).length = (s_hea s ++ [(p0, s_now s)]).length
    rw [List.length_append, List.length_append, a6.2.1]; rfl
  · have hx2 : (c_hs C ++ [Hn g1])[i]? = some x := hx
    rw [List.getElem?_append] at hx2
    show ∃ y, (s_hea s ++ [(p0, s_now s)])[i]? = some y ∧ _
    split at hx2
    · rename_i hlt
      obtain ⟨y, hy, hHi⟩ := a6.2.2 i x hx2
      have hil := (List.getElem?_eq_some_iff.mp hy).1
      refine ⟨y, by rw [List.getElem?_append_left hil]; exact hy, ?_⟩
      rw [sHp_ol hW hil, show (fun c => sHp (opU s p0 (s_env s).length) i (nI c)) = fun c => sHp s i (nI c) from funext fun c => sHp_ol hW hil]
      exact hHi.fr kk he1 (by decide) (by decide)
    · rename_i hlt
      have hj1 := (List.getElem?_eq_some_iff.mp hx2).1
      simp only [List.length_cons, List.length_nil] at hj1
      have e0 : i - (c_hs C).length = 0 := by omega
      have ee : i = (s_hea s).length := by rw [← a6.2.1]; omega
      rw [e0] at hx2
      simp at hx2
      subst hx2
      subst ee
      refine ⟨(p0, s_now s), by rw [List.getElem?_append_right (Nat.le_refl _)]; simp, ?_⟩
      exact hHp.fr hf (k1.en he1) (by decide) (by decide)
