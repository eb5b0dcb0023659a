/-! the class's face: a heap is opened, the call -/
theorem Hp_made {g1 g2 : GH} {sh d n : Int32} {ch : Nat → Int32} (he : EN g1) (hf : ∀ F, free (nO g1 2 4) F (Hn g1)) (h : MADE flHp (Hn g1) (nO g1 2 4) g2) (hH : HpI (Hn g1) g2 sh d ch n) : Fr [] [] [] g1 g2 ∧ Hn g2 = Hn g1 + 2 ∧ Hu g2 ≤ Hu g1 + 9 := by
  obtain ⟨c, hE, hn, hu, -⟩ := h
  obtain ⟨hk, ⟨a, a1, a2, a3, a4, a5⟩, -⟩ := hH
  have hn' : Hn g2 = Hn g1 + 2 := by rw [hn, Hn_nO]; rfl
  refine ⟨c.fr hE he rfl (fun b q1 q2 => ?_) (by decide), hn', by rw [Hu_nO] at hu; exact hu⟩
  have hb : b < Hn g2 := hE.lt (by omega)
  have ha : a < Hn g2 := hE.lt (by omega)
  obtain ⟨c1, c2, c3, c4, c5, c6, c7⟩ := c
  have hna : ¬ a < Hn (nO g1 2 4) := fun z => by
    obtain ⟨z1, z2, z3, -⟩ := c4 a z
    exact hf 258 a (by rw [← z1]; omega) (by rw [← z2]; exact a3) (by rw [← z3]; exact a4)
  rw [Hn_nO] at hna
  have : b = a := by omega
  rw [this, a3]; decide
theorem opU_no {s : ST} {p0 : Int32} {k : Nat} (h : ¬ opC s p0 k) : opU s p0 (k + 1) = opU s p0 k := by
  unfold opU
  congr 1
  funext e
  unfold opF
  by_cases z : e < k ∧ opC s p0 e
  · rw [if_pos z, if_pos ⟨by omega, z.2⟩]
  · rw [if_neg z, if_neg (fun q => z ⟨?_, q.2⟩)]
    have : e ≠ k := fun w => h (by rw [← w]; exact q.2)
    omega
/-- where the laying of a heap stands -/
def OPI (Γ : GAM) (D : DIR) (s : ST) (p0 : Int32) (k : Nat) (g1 g' : GH) : Prop := Fr [134] [] [] g1 g' ∧ (Hn g' = Hn g1 + 2 ∧ Hu g' ≤ Hu g1 + 9) ∧ PoH D g' (opU s p0 k) ∧ JA D s (s_now s) (s_vot s).length g' ∧ HpI (Hn g1) g' p0 (s_now s) (fun c => sHp (opU s p0 k) (s_hea s).length (nI c)) (sHp (opU s p0 k) (s_hea s).length 5)
theorem OPI.po {Γ : GAM} {D : DIR} {s : ST} {p0 : Int32} {k : Nat} {g1 g' : GH} (h : OPI Γ D s p0 k g1 g') (hP : PoI Γ D g1 s) : PoI Γ D g' (opU s p0 k) := hP.hof h.1 ⟨by decide, by decide⟩ (by decide) h.2.2.1
theorem OPI.ini {Γ : GAM} {D : DIR} {s : ST} {p0 : Int32} {g1 g2 : GH} (hP : PoI Γ D g1 s) (hW : WF s) (hJ : JA D s (s_now s) (s_vot s).length g1) (hf : ∀ F, free (nO g1 2 4) F (Hn g1)) (h : MADE flHp (Hn g1) (nO g1 2 4) g2) (hH : HpI (Hn g1) g2 p0 (s_now s) (fun _ => 0) 0) : OPI Γ D s p0 0 g1 g2 := by
  obtain ⟨k1, k2, k3⟩ := Hp_made hP.1.1 hf h hH
  have hc : ∀ c, sHp (opU s p0 0) (s_hea s).length c = 0 := fun c => by rw [sHp_op hW]; rfl
  refine ⟨k1.up (by simp) (by simp) (by simp), ⟨k2, k3⟩, fun e x hx => ?_, ?_, ?_⟩
  · obtain ⟨_, _, _, _, _, hE, _⟩ := hP.2.2.2.2.1.2.2 e x hx
    rw [k1.gi hE.1.1 (by simp) (by decide), hsh_op hW, if_neg (fun z => by have := z.1; omega)]
    exact hP.2.2.2.2.2.1 e x hx
  · intro v hv
    obtain ⟨j1, j2⟩ := hJ v hv
    refine ⟨fun w hw => ?_, fun e y x he hy hx => ?_⟩
    · obtain ⟨_, _, _, hV, _⟩ := hP.2.2.2.1.2.2.1 v w hw
      have := hV.1.1
      rw [k1.gi this (by simp) (by decide), k1.gi this (by simp) (by decide), k1.gi this (by simp) (by decide), k1.gi this (by simp) (by decide)]
      exact j1 w hw
    · obtain ⟨_, _, _, _, _, hE, _⟩ := hP.2.2.2.2.1.2.2 e x hx
      exact (j2 e y x he hy hx).sam (k1.sam hE.1.1)
  · rw [hc, show (fun c => sHp (opU s p0 0) (s_hea s).length (nI c)) = fun _ => 0 from funext fun c => hc _]
    exact hH
theorem OPI.no {Γ : GAM} {D : DIR} {s : ST} {p0 : Int32} {k : Nat} {g1 g' : GH} (h : OPI Γ D s p0 k g1 g') (hn : ¬ opC s p0 k) : OPI Γ D s p0 (k + 1) g1 g' := by
  unfold OPI at h ⊢
  rw [opU_no hn]; exact h
theorem OPI.yes {Γ : GAM} {D : DIR} {s : ST} {p0 : Int32} {k a j : Nat} {g1 g' : GH} {y : Em} (h : OPI Γ D s p0 k g1 g') (hP : PoI Γ D g1 s) (hW : WF s) (ho : opC s p0 k) (hy : (s_env s)[k]? = some y) (ha : (d_es D)[k]? = some a) (hj : y.2.2.2 = nI j) (hj5 : j < 5) :
    OPI Γ D s p0 (k + 1) g1 (sI (sA (sI g' 134 a p0) 258 (Hn g1) j (sHp (opU s p0 k) (s_hea s).length (nI j) + 1)) 259 (Hn g1) (sHp (opU s p0 k) (s_hea s).length 5 + 1)) := by
  obtain ⟨k1, k2, hH, hJ, ⟨b0, ⟨b, b1⟩, b2, b3, b4, b5⟩⟩ := h
  have he1 := hP.1.1
  have he' := k1.en he1
  have hl := hW.len.2.2.1
  have hkl := (List.getElem?_eq_some_iff.mp hy).1
  obtain ⟨_, _, _, _, _, hEa, _⟩ := hP.2.2.2.2.1.2.2 k a ha
  have hal := hEa.1.1
  have hk1 := k1.hn
  have f2 : Fr [134] [] [] g1 (sI g' 134 a p0) := k1.tr (Fr.sI he' (.inl (by simp)))
  have hs : ∀ c, sHp (opU s p0 (k + 1)) (s_hea s).length c = sHp (opU s p0 k) (s_hea s).length c + if c = 5 ∨ nI j = c then 1 else 0 := fun c => by
    rw [sHp_op hW, sHp_op hW]
    unfold sS
    rw [fold_take _ _ _ (show (s_env s).zipIdx[k]? = some (y, k) by rw [List.getElem?_zipIdx, hy]; simp)]
    congr 1
    unfold hpG
    rw [hj]
    by_cases z : c = 5 ∨ nI j = c
    · rw [if_pos z, if_pos ⟨ho, z⟩]
    · rw [if_neg z, if_neg (fun q => z q.2)]
  refine ⟨f2.out (m := Hn g1) (fs' := [259]) (cs' := [258]) ((FrX.sA (by decide)).tr (FrX.sI (by decide))) (Nat.le_refl _), k2, fun e x hx => ?_, ?_, ⟨b0, ⟨b, b1⟩, ?_, ?_, ?_, fun i hi => ?_⟩⟩
  · rw [Gi_sI, if_neg (fun z => absurd z.1 (by decide)), Gi_sA, Gi_sI, hsh_op hW]
    by_cases z : x = a
    · have hek := hP.einj hl hx (by rw [z]; exact ha)
      subst hek
      rw [if_pos ⟨rfl, z⟩, if_pos ⟨by omega, ho⟩]
    · have hek : e ≠ k := fun q => by
        subst q
        rw [hx] at ha; cases ha
        exact z rfl
      rw [if_neg (fun q => z q.2), hH e x hx, hsh_op hW]
      by_cases w : e < k ∧ opC s p0 e
      · rw [if_pos w, if_pos ⟨by omega, w.2⟩]
      · rw [if_neg w, if_neg (fun q => w ⟨by omega, q.2⟩)]
  · refine hJ.g (fun f a' z1 z2 => ?_) (fun c o z => ?_)
    · rw [Gi_sI, if_neg (fun q => z2 q.1), Gi_sA, Gi_sI, if_neg (fun q => z1 q.1)]
    · funext i
      rw [Ia_sI, Ia_sA, if_neg (fun q => z q.1), Ia_sI]
  · rw [Gi_sI, if_neg (fun z => absurd z.1 (by decide)), Gi_sA, Gi_sI, if_neg (fun z => absurd z.1 (by decide))]; exact b2
  · rw [Gi_sI, if_neg (fun z => absurd z.1 (by decide)), Gi_sA, Gi_sI, if_neg (fun z => absurd z.1 (by decide))]; exact b3
  · rw [Gi_sI, if_pos ⟨rfl, rfl⟩, hs, if_pos (.inl rfl)]
  · show _ = sHp (opU s p0 (k + 1)) (s_hea s).length (nI i)
    rw [hs, Ia_sI, Ia_sA]
    by_cases z : i = j
    · subst z
      rw [if_pos ⟨rfl, rfl, rfl⟩, if_pos (.inr rfl)]
    · rw [if_neg (fun q => z q.2.2), Ia_sI, if_neg (fun q => q.elim (fun q => absurd ((nj_eq (b := 5) (by omega) (by omega)).mp q) (by omega)) (fun q => z ((nj_eq (by omega) (by omega)).mp q).symm)), Int32.add_zero]
      exact b5 i hi
/-- the list of heaps grown -/
theorem OPI.fin {Γ : GAM} {C : CDR} {s : ST} {p0 : Int32} {n : Nat} {g g1 g' g2 : GH} (hI : ClsI Γ C g s) (hW : WF s) (hR : RM Γ C g s (n + 1)) (hF : FC (c_D C) g g1) (hC : COM Γ (c_D C) g1) (h : OPI Γ (c_D C) s p0 (s_env s).length g1 g') (hf : Fr [] [] [c_hl C] g' g2) (hA : AC Γ g2 (c_hl C) (c_hs C ++ [Hn g1])) (hh : Hn g2 ≤ Hn g' + 1 ∧ Hu g2 ≤ Hu g' + 2000) :
    FrC g g2 ∧ ClsI Γ (C.1, c_D C, c_hs C ++ [Hn g1]) g2 (opU s p0 (s_env s).length) ∧ RM Γ (C.1, c_D C, c_hs C ++ [Hn g1]) g2 (opU s p0 (s_env s).length) n := by
  have hI1 := hI.fc hF hC
  have hR1 := hR.fc0 hF
  have hP' := h.po hI1.2.2.2.2.2.2.1
  obtain ⟨k1, k2, hH, hJ, hHp⟩ := h
  have he1 := hI1.en
  have kk : Fr [134] [] [c_hl C] g1 g2 := (k1.up (fun f hf => hf) (by simp) (by simp)).tr (hf.up (by simp) (by simp) (by simp))
  obtain ⟨a1, a2, a3, a4, a5, a6, a7, a8⟩ := hI1
  obtain ⟨-, -, ⟨l0, l1, l2, l3⟩, -⟩ := id a1
  have hc := a7.2.1.2.2.2.2.1
  have n2 : d_cl (c_D C) ∉ [c_hl C] := fun z => by
    have hc2 := hc.2.1
    rw [List.mem_singleton] at z
    rw [z, l2] at hc2
    exact absurd hc2 (by decide)
  obtain ⟨cs, hcs, -⟩ := id a8
  have hphi : phi (c_D C) g2 = phi (c_D C) g1 := by unfold phi; rw [cpA.fr hcs kk n2]
  have hP2 : PoI Γ (c_D C) g2 (opU s p0 (s_env s).length) := hP'.fr2 hf ⟨by decide, by decide⟩ (by decide) (fun al ha => by
    rw [List.mem_singleton] at ha
    subst ha
    have hw := (k1.kd l0 (by omega)).2.2.1.trans l3
    rw [hw]
    have hx := a1.1.2
    have hp := a7.2.1.1.2
    have hj := a7.2.2.2.2.2.2.2.1.2
    refine ⟨fun z => ?_, fun z => ?_, fun x hx' z => ?_, fun x hx' z => ?_⟩
    · rw [z] at hx; omega
    · rw [z] at hx; omega
    · obtain ⟨i, hi⟩ := List.getElem?_of_mem hx'
      obtain ⟨_, _, _, hV, _⟩ := a7.2.2.2.1.2.2.1 i x hi
      have := hV.1.2
      rw [z] at hx; omega
    · obtain ⟨i, hi⟩ := List.getElem?_of_mem hx'
      obtain ⟨_, _, _, _, _, hE, _⟩ := a7.2.2.2.2.1.2.2 i x hi
      have := hE.1.2
      rw [z] at hx; omega)
  refine ⟨hF.c.tr (FrC.of kk (by decide) (by simp)), ⟨a1.fr kk, (CV.fr (s := s) a2 a1 kk (by decide) (by decide) : CV C g2 s), a3.fr kk he1 (by decide) (by decide), (PrI.fr (s := s) a4 kk he1 (by decide) (by decide) : PrI (c_pr C) g2 s), (a5.fr kk he1 (by decide) (by decide)).cg rfl rfl rfl, ⟨hA, ?_, fun i x hx => ?_⟩, hP2, a8.fr2 kk n2 (by decide) (by decide)⟩, hR1.up (C := C) (s := s) (by show phi (c_D C) g2 ≤ _; rw [hphi]; exact Nat.le_refl _) (by omega) (by omega) (Nat.le_succ _)⟩
  · show (c_hs C ++ [Hn g1]).length = (s_hea s ++ [(p0, s_now s)]).length
    rw [List.length_append, List.length_append, a6.2.1]; rfl
  · have hx2 : (c_hs C ++ [Hn g1])[i]? = some x := hx
    rw [List.getElem?_append] at hx2
    show ∃ y, (s_hea s ++ [(p0, s_now s)])[i]? = some y ∧ _
    split at hx2
    · rename_i hlt
      obtain ⟨y, hy, hHi⟩ := a6.2.2 i x hx2
      have hil := (List.getElem?_eq_some_iff.mp hy).1
      refine ⟨y, by rw [List.getElem?_append_left hil]; exact hy, ?_⟩
      rw [sHp_ol hW hil, show (fun c => sHp (opU s p0 (s_env s).length) i (nI c)) = fun c => sHp s i (nI c) from funext fun c => sHp_ol hW hil]
      exact hHi.fr kk he1 (by decide) (by decide)
    · rename_i hlt
      have hj1 := (List.getElem?_eq_some_iff.mp hx2).1
      simp only [List.length_cons, List.length_nil] at hj1
      have e0 : i - (c_hs C).length = 0 := by omega
      have ee : i = (s_hea s).length := by rw [← a6.2.1]; omega
      rw [e0] at hx2
      simp at hx2
      subst hx2
      subst ee
      refine ⟨(p0, s_now s), by rw [List.getElem?_append_right (Nat.le_refl _)]; simp, ?_⟩
      exact hHp.fr hf (k1.en he1) (by decide) (by decide)
def Sp_PV_open (Γ : GAM) (x : Nat) (p0 : Int32) (g : GH) (K : Int32 → GH → Prop) : Prop := PVC Γ x g K (fun s => p_open s p0) (fun s => q_open s p0)
-- the walk of PV_open
set_option maxRecDepth 100000 in
def B_PV_open_155 (Γ : GAM) (K36 : Nat → Int32 → Int32 → Int32 → GH → Prop) (K107 : Nat → Int32 → Nat → Int32 → GH → Prop) (K : Int32 → GH → Prop) (l0 : Nat) (l1 : Int32) (l3 : Nat) (l4 : Int32) (g : GH) : Prop :=
  K107 l0 l1 l3 (l4 + (1 : Int32)) g
set_option maxHeartbeats 4000000 in
set_option maxRecDepth 100000 in
theorem S_PV_open_155 {Γ : GAM} {E : EV} {K : Int32 → GH → Prop} (hE : GE Γ E cX10_open 6 RX10 (some (.int)) 10 398 (fun r g' => ∃ x, r = some (.int x) ∧ K x g')) {K36 : Nat → Int32 → Int32 → Int32 → GH → Prop} {K107 : Nat → Int32 → Nat → Int32 → GH → Prop} (hK36 : ∀ (l0 : Nat) (l1 : Int32) (l2 : Int32) (l3 : Int32) (g : GH), K36 l0 l1 l2 l3 g → JW Γ E 36 [some (.ref l0), some (.int l1), some (.int l2), some (.int l3), none, none] [] g) (hK107 : ∀ (l0 : Nat) (l1 : Int32) (l3 : Nat) (l4 : Int32) (g : GH), K107 l0 l1 l3 l4 g → JW Γ E 107 [some (.ref l0), some (.int l1), none, some (.ref l3), some (.int l4), none] [] g) (l0 : Nat) (l1 : Int32) (l3 : Nat) (l4 : Int32) (g : GH) (h : B_PV_open_155 Γ K36 K107 K l0 l1 l3 l4 g) : JW Γ E 155 [some (.ref l0), some (.int l1), none, some (.ref l3), some (.int l4), none] [] g := by
  unfold B_PV_open_155 at h
  refine j_iinc hE (by decide +kernel : decode cX10_open 155 = .ok (.iinc 4 1, 3)) (v := (1 : Int32)) (by decide) rfl (Nat.le_of_ble_eq_true rfl) rfl ?_
  refine j_goto hE (by decide +kernel : decode cX10_open 158 = .ok (.goto (-51), 3)) (tgt := 107) (by decide) ?_
  exact hK107 _ _ _ _ _ h
set_option maxRecDepth 100000 in
def B_PV_open_107 (Γ : GAM) (K36 : Nat → Int32 → Int32 → Int32 → GH → Prop) (K107 : Nat → Int32 → Nat → Int32 → GH → Prop) (K : Int32 → GH → Prop) (l0 : Nat) (l1 : Int32) (l3 : Nat) (l4 : Int32) (g : GH) : Prop :=
  Kd g l0 = 12 ∧ ∃ a1 : Nat, Gr g 1410 l0 = some a1 ∧ Kd g a1 = 6 ∧ ∃ a2 : Nat, Gr g 641 a1 = some a2 ∧ Kd g a2 = 1 ∧ Sp_AL_size Γ a2 g (fun (x4 : Int32) (g3 : GH) => ((x4 ≤ l4 → Kd g3 l0 = 12 ∧ ∃ a5 : Nat, Gr g3 1414 l0 = some a5 ∧ Kd g3 a5 = 1 ∧ Sp_AL_add_1 Γ a5 l3 g3 (fun (x7 : Int32) (g6 : GH) => Kd g6 l0 = 12 ∧ ∃ a8 : Nat, Gr g6 1414 l0 = some a8 ∧ Kd g6 a8 = 1 ∧ Sp_AL_size Γ a8 g6 (fun (x10 : Int32) (g9 : GH) => K (x10 - (1 : Int32)) g9))) ∧ (¬ (x4 ≤ l4) → Kd g3 l0 = 12 ∧ ∃ a11 : Nat, Gr g3 1410 l0 = some a11 ∧ Kd g3 a11 = 6 ∧ ∃ a12 : Nat, Gr g3 641 a11 = some a12 ∧ Kd g3 a12 = 1 ∧ Sp_AL_get Γ a12 l4 g3 (fun (a14 : Nat) (g13 : GH) => Kd g13 a14 = 2 ∧ Kd g13 l0 = 12 ∧ Sp_PV_fitsHeap Γ l0 a14 l1 g13 (fun (x16 : Int32) (g15 : GH) => ((x16 = 0 → B_PV_open_155 Γ K36 K107 K l0 l1 l3 l4 g15) ∧ (¬ (x16 = 0) → Kd g15 l3 = 3 ∧ Sp_Hp_lay Γ l3 a14 g15 (fun (g17 : GH) => B_PV_open_155 Γ K36 K107 K l0 l1 l3 l4 g17))))))))
set_option maxHeartbeats 4000000 in
set_option maxRecDepth 100000 in
theorem S_PV_open_107 {Γ : GAM} {E : EV} {K : Int32 → GH → Prop} (hE : GE Γ E cX10_open 6 RX10 (some (.int)) 10 398 (fun r g' => ∃ x, r = some (.int x) ∧ K x g')) {K36 : Nat → Int32 → Int32 → Int32 → GH → Prop} {K107 : Nat → Int32 → Nat → Int32 → GH → Prop} (hK36 : ∀ (l0 : Nat) (l1 : Int32) (l2 : Int32) (l3 : Int32) (g : GH), K36 l0 l1 l2 l3 g → JW Γ E 36 [some (.ref l0), some (.int l1), some (.int l2), some (.int l3), none, none] [] g) (hK107 : ∀ (l0 : Nat) (l1 : Int32) (l3 : Nat) (l4 : Int32) (g : GH), K107 l0 l1 l3 l4 g → JW Γ E 107 [some (.ref l0), some (.int l1), none, some (.ref l3), some (.int l4), none] [] g) (l0 : Nat) (l1 : Int32) (l3 : Nat) (l4 : Int32) (g : GH) (h : B_PV_open_107 Γ K36 K107 K l0 l1 l3 l4 g) : JW Γ E 107 [some (.ref l0), some (.int l1), none, some (.ref l3), some (.int l4), none] [] g := by
  unfold B_PV_open_107 at h
  refine j_iload hE (by decide +kernel : decode cX10_open 107 = .ok (.iload 4, 2)) rfl ?_
  refine j_aload_n hE (by decide +kernel : decode cX10_open 109 = .ok (.aload_n 0, 1)) rfl rfl ?_
  obtain ⟨hk, h⟩ := h
  obtain ⟨a1, ha, h⟩ := h
  refine j_getRn hE fg_X10_16 hk ha (by decide +kernel : decode cX10_open 110 = .ok (.getfield 16, 3)) ?_
  obtain ⟨hk, h⟩ := h
  obtain ⟨a2, ha, h⟩ := h
  refine j_getRn hE fg_X10_124 hk ha (by decide +kernel : decode cX10_open 113 = .ok (.getfield 124, 3)) ?_
  obtain ⟨hk, h⟩ := h
  refine j_callV hE rfl cl_X10_84 cf_0 im_Jx4a65c_size_8abf5 se_Jx4a65c_size_8abf5 ⟨by omega, by omega⟩ (As := []) (rest := [.int l4]) rfl rfl (Nat.le_of_ble_eq_true rfl) hk (by decide +kernel : decode cX10_open 116 = .ok (.invokevirtual 84, 3)) (mt_AL_size _ _ _ h) ?_
  rintro _ g3 ⟨x4, rfl, h⟩
  refine j_icmp_ge hE (by decide +kernel : decode cX10_open 119 = .ok (.if_icmp .ge 42, 3)) (tgt := 161) (by decide) (fun q => ?_) (fun q => ?_)
  · replace h := h.1 q
    refine j_aload_n hE (by decide +kernel : decode cX10_open 161 = .ok (.aload_n 0, 1)) rfl rfl ?_
    obtain ⟨hk, h⟩ := h
    obtain ⟨a5, ha, h⟩ := h
    refine j_getRn hE fg_X10_44 hk ha (by decide +kernel : decode cX10_open 162 = .ok (.getfield 44, 3)) ?_
    refine j_aload_n hE (by decide +kernel : decode cX10_open 165 = .ok (.aload_n 3, 1)) rfl rfl ?_
    obtain ⟨hk, h⟩ := h
    refine j_callV hE rfl cl_X10_92 cf_0 im_Jx4a65c_add_9ea2d se_Jx4a65c_add_9ea2d ⟨by omega, by omega⟩ (As := [.ref l3]) (rest := []) rfl rfl (Nat.le_of_ble_eq_true rfl) hk (by decide +kernel : decode cX10_open 166 = .ok (.invokevirtual 92, 3)) (mt_AL_add_1 _ _ _ _ h) ?_
    rintro _ g6 ⟨x7, rfl, h⟩
    refine j_pop hE (by decide +kernel : decode cX10_open 169 = .ok (.pop, 1)) rfl ?_
    refine j_aload_n hE (by decide +kernel : decode cX10_open 170 = .ok (.aload_n 0, 1)) rfl rfl ?_
    obtain ⟨hk, h⟩ := h
    obtain ⟨a8, ha, h⟩ := h
    refine j_getRn hE fg_X10_44 hk ha (by decide +kernel : decode cX10_open 171 = .ok (.getfield 44, 3)) ?_
    obtain ⟨hk, h⟩ := h
    refine j_callV hE rfl cl_X10_84 cf_0 im_Jx4a65c_size_8abf5 se_Jx4a65c_size_8abf5 ⟨by omega, by omega⟩ (As := []) (rest := []) rfl rfl (Nat.le_of_ble_eq_true rfl) hk (by decide +kernel : decode cX10_open 174 = .ok (.invokevirtual 84, 3)) (mt_AL_size _ _ _ h) ?_
    rintro _ g9 ⟨x10, rfl, h⟩
    refine j_iconst hE (by decide +kernel : decode cX10_open 177 = .ok (.iconst 1, 1)) (v := (1 : Int32)) (by decide) ?_
    refine j_isub hE (by decide +kernel : decode cX10_open 178 = .ok (.isub, 1)) ?_
    exact j_iret hE (by decide +kernel : decode cX10_open 179 = .ok (.ireturn, 1)) ⟨_, rfl, h⟩
  · replace h := h.2 q
    refine j_aload_n hE (by decide +kernel : decode cX10_open 122 = .ok (.aload_n 0, 1)) rfl rfl ?_
    obtain ⟨hk, h⟩ := h
    obtain ⟨a11, ha, h⟩ := h
    refine j_getRn hE fg_X10_16 hk ha (by decide +kernel : decode cX10_open 123 = .ok (.getfield 16, 3)) ?_
    obtain ⟨hk, h⟩ := h
    obtain ⟨a12, ha, h⟩ := h
    refine j_getRn hE fg_X10_124 hk ha (by decide +kernel : decode cX10_open 126 = .ok (.getfield 124, 3)) ?_
    refine j_iload hE (by decide +kernel : decode cX10_open 129 = .ok (.iload 4, 2)) rfl ?_
    obtain ⟨hk, h⟩ := h
    refine j_callV hE rfl cl_X10_147 cf_0 im_Jx4a65c_get_915e3 se_Jx4a65c_get_915e3 ⟨by omega, by omega⟩ (As := [.int l4]) (rest := []) rfl rfl (Nat.le_of_ble_eq_true rfl) hk (by decide +kernel : decode cX10_open 131 = .ok (.invokevirtual 147, 3)) (mt_AL_get _ _ _ _ h) ?_
    rintro _ g13 ⟨a14, rfl, h⟩
    obtain ⟨hk, h⟩ := h
    refine j_cast hE cf_1 ck_X10_127 hk (by decide +kernel : decode cX10_open 134 = .ok (.checkcast 127, 3)) ?_
    refine j_astore hE (by decide +kernel : decode cX10_open 137 = .ok (.astore 5, 2)) (Nat.le_of_ble_eq_true rfl) rfl ?_
    refine j_aload_n hE (by decide +kernel : decode cX10_open 139 = .ok (.aload_n 0, 1)) rfl rfl ?_
    refine j_aload hE (by decide +kernel : decode cX10_open 140 = .ok (.aload 5, 2)) rfl ?_
    refine j_iload_n hE (by decide +kernel : decode cX10_open 142 = .ok (.iload_n 1, 1)) rfl rfl ?_
    obtain ⟨hk, h⟩ := h
    refine j_callV hE rfl cl_X10_323 cf_11 im_X10_fitsHeap se_X10_fitsHeap ⟨by omega, by omega⟩ (As := [.ref a14, .int l1]) (rest := []) rfl rfl (Nat.le_of_ble_eq_true rfl) hk (by decide +kernel : decode cX10_open 143 = .ok (.invokevirtual 323, 3)) (mt_PV_fitsHeap _ _ _ _ _ h) ?_
    rintro _ g15 ⟨x16, rfl, h⟩
    refine j_if_eq hE (by decide +kernel : decode cX10_open 146 = .ok (.ifCond .eq 9, 3)) (tgt := 155) (by decide) (fun q => ?_) (fun q => ?_)
    · replace h := h.1 q
      refine j_weak [some (.ref l0), some (.int l1), none, some (.ref l3), some (.int l4), none] ⟨rfl, ⟨rfl, ⟨rfl, ⟨rfl, trivial⟩⟩⟩⟩ ?_
      exact S_PV_open_155 hE hK36 hK107 _ _ _ _ _ h
    · replace h := h.2 q
      refine j_aload_n hE (by decide +kernel : decode cX10_open 149 = .ok (.aload_n 3, 1)) rfl rfl ?_
      refine j_aload hE (by decide +kernel : decode cX10_open 150 = .ok (.aload 5, 2)) rfl ?_
      obtain ⟨hk, h⟩ := h
      refine j_callV hE rfl cl_X10_332 cf_2 im_X1_lay se_X1_lay ⟨by omega, by omega⟩ (As := [.ref a14]) (rest := []) rfl rfl (Nat.le_of_ble_eq_true rfl) hk (by decide +kernel : decode cX10_open 152 = .ok (.invokevirtual 332, 3)) (mt_Hp_lay _ _ _ _ h) ?_
      rintro _ g17 ⟨rfl, h⟩
      refine j_weak [some (.ref l0), some (.int l1), none, some (.ref l3), some (.int l4), none] ⟨rfl, ⟨rfl, ⟨rfl, ⟨rfl, trivial⟩⟩⟩⟩ ?_
      exact S_PV_open_155 hE hK36 hK107 _ _ _ _ _ h
set_option maxRecDepth 100000 in
def B_PV_open_75 (Γ : GAM) (K36 : Nat → Int32 → Int32 → Int32 → GH → Prop) (K107 : Nat → Int32 → Nat → Int32 → GH → Prop) (K : Int32 → GH → Prop) (l0 : Nat) (l1 : Int32) (l2 : Int32) (l3 : Int32) (g : GH) : Prop :=
  K36 l0 l1 l2 (l3 + (1 : Int32)) g
set_option maxHeartbeats 4000000 in
set_option maxRecDepth 100000 in
theorem S_PV_open_75 {Γ : GAM} {E : EV} {K : Int32 → GH → Prop} (hE : GE Γ E cX10_open 6 RX10 (some (.int)) 10 398 (fun r g' => ∃ x, r = some (.int x) ∧ K x g')) {K36 : Nat → Int32 → Int32 → Int32 → GH → Prop} {K107 : Nat → Int32 → Nat → Int32 → GH → Prop} (hK36 : ∀ (l0 : Nat) (l1 : Int32) (l2 : Int32) (l3 : Int32) (g : GH), K36 l0 l1 l2 l3 g → JW Γ E 36 [some (.ref l0), some (.int l1), some (.int l2), some (.int l3), none, none] [] g) (hK107 : ∀ (l0 : Nat) (l1 : Int32) (l3 : Nat) (l4 : Int32) (g : GH), K107 l0 l1 l3 l4 g → JW Γ E 107 [some (.ref l0), some (.int l1), none, some (.ref l3), some (.int l4), none] [] g) (l0 : Nat) (l1 : Int32) (l2 : Int32) (l3 : Int32) (g : GH) (h : B_PV_open_75 Γ K36 K107 K l0 l1 l2 l3 g) : JW Γ E 75 [some (.ref l0), some (.int l1), some (.int l2), some (.int l3), none, none] [] g := by
  unfold B_PV_open_75 at h
  refine j_iinc hE (by decide +kernel : decode cX10_open 75 = .ok (.iinc 3 1, 3)) (v := (1 : Int32)) (by decide) rfl (Nat.le_of_ble_eq_true rfl) rfl ?_
  refine j_goto hE (by decide +kernel : decode cX10_open 78 = .ok (.goto (-42), 3)) (tgt := 36) (by decide) ?_
  exact hK36 _ _ _ _ _ h
set_option maxRecDepth 100000 in
def B_PV_open_36 (Γ : GAM) (K36 : Nat → Int32 → Int32 → Int32 → GH → Prop) (K107 : Nat → Int32 → Nat → Int32 → GH → Prop) (K : Int32 → GH → Prop) (l0 : Nat) (l1 : Int32) (l2 : Int32) (l3 : Int32) (g : GH) : Prop :=
  Kd g l0 = 12 ∧ ∃ a1 : Nat, Gr g 1410 l0 = some a1 ∧ Kd g a1 = 6 ∧ ∃ a2 : Nat, Gr g 641 a1 = some a2 ∧ Kd g a2 = 1 ∧ Sp_AL_size Γ a2 g (fun (x4 : Int32) (g3 : GH) => ((x4 ≤ l3 → Kd g3 l0 = 12 ∧ (((Gi g3 1409 l0) ≤ l2 → Hn g3 + 1 ≤ gB Γ + NCC ∧ Hu g3 + 4 ≤ NSS ∧ ∀ (a5 : Nat) (g6 : GH), a5 = Hn g3 → g6 = nO g3 2 4 → (∀ f, Gi g3 f (Hn g3) = 0) → (∀ f, Gr g3 f (Hn g3) = none) → (∀ c, free g3 c (Hn g3)) → (∀ a, Hn g3 ≤ a → Kd g3 a = 0) → Kd g6 l0 = 12 ∧ Sp_Hp_init Γ a5 l1 (Gi g6 1408 l0) g6 (fun (g7 : GH) => K107 l0 l1 a5 (0 : Int32) g7)) ∧ (¬ ((Gi g3 1409 l0) ≤ l2) → K (-1 : Int32) g3))) ∧ (¬ (x4 ≤ l3) → Kd g3 l0 = 12 ∧ ∃ a8 : Nat, Gr g3 1410 l0 = some a8 ∧ Kd g3 a8 = 6 ∧ ∃ a9 : Nat, Gr g3 641 a8 = some a9 ∧ Kd g3 a9 = 1 ∧ Sp_AL_get Γ a9 l3 g3 (fun (a11 : Nat) (g10 : GH) => Kd g10 a11 = 2 ∧ Kd g10 l0 = 12 ∧ Sp_PV_fitsHeap Γ l0 a11 l1 g10 (fun (x13 : Int32) (g12 : GH) => ((x13 = 0 → B_PV_open_75 Γ K36 K107 K l0 l1 l2 l3 g12) ∧ (¬ (x13 = 0) → B_PV_open_75 Γ K36 K107 K l0 l1 (l2 + (1 : Int32)) l3 g12)))))))
set_option maxHeartbeats 4000000 in
set_option maxRecDepth 100000 in
theorem S_PV_open_36 {Γ : GAM} {E : EV} {K : Int32 → GH → Prop} (hE : GE Γ E cX10_open 6 RX10 (some (.int)) 10 398 (fun r g' => ∃ x, r = some (.int x) ∧ K x g')) {K36 : Nat → Int32 → Int32 → Int32 → GH → Prop} {K107 : Nat → Int32 → Nat → Int32 → GH → Prop} (hK36 : ∀ (l0 : Nat) (l1 : Int32) (l2 : Int32) (l3 : Int32) (g : GH), K36 l0 l1 l2 l3 g → JW Γ E 36 [some (.ref l0), some (.int l1), some (.int l2), some (.int l3), none, none] [] g) (hK107 : ∀ (l0 : Nat) (l1 : Int32) (l3 : Nat) (l4 : Int32) (g : GH), K107 l0 l1 l3 l4 g → JW Γ E 107 [some (.ref l0), some (.int l1), none, some (.ref l3), some (.int l4), none] [] g) (l0 : Nat) (l1 : Int32) (l2 : Int32) (l3 : Int32) (g : GH) (h : B_PV_open_36 Γ K36 K107 K l0 l1 l2 l3 g) : JW Γ E 36 [some (.ref l0), some (.int l1), some (.int l2), some (.int l3), none, none] [] g := by
  unfold B_PV_open_36 at h
  refine j_iload_n hE (by decide +kernel : decode cX10_open 36 = .ok (.iload_n 3, 1)) rfl rfl ?_
  refine j_aload_n hE (by decide +kernel : decode cX10_open 37 = .ok (.aload_n 0, 1)) rfl rfl ?_
  obtain ⟨hk, h⟩ := h
  obtain ⟨a1, ha, h⟩ := h
  refine j_getRn hE fg_X10_16 hk ha (by decide +kernel : decode cX10_open 38 = .ok (.getfield 16, 3)) ?_
  obtain ⟨hk, h⟩ := h
  obtain ⟨a2, ha, h⟩ := h
  refine j_getRn hE fg_X10_124 hk ha (by decide +kernel : decode cX10_open 41 = .ok (.getfield 124, 3)) ?_
  obtain ⟨hk, h⟩ := h
  refine j_callV hE rfl cl_X10_84 cf_0 im_Jx4a65c_size_8abf5 se_Jx4a65c_size_8abf5 ⟨by omega, by omega⟩ (As := []) (rest := [.int l3]) rfl rfl (Nat.le_of_ble_eq_true rfl) hk (by decide +kernel : decode cX10_open 44 = .ok (.invokevirtual 84, 3)) (mt_AL_size _ _ _ h) ?_
  rintro _ g3 ⟨x4, rfl, h⟩
  refine j_icmp_ge hE (by decide +kernel : decode cX10_open 47 = .ok (.if_icmp .ge 34, 3)) (tgt := 81) (by decide) (fun q => ?_) (fun q => ?_)
  · replace h := h.1 q
    refine j_iload_n hE (by decide +kernel : decode cX10_open 81 = .ok (.iload_n 2, 1)) rfl rfl ?_
    refine j_aload_n hE (by decide +kernel : decode cX10_open 82 = .ok (.aload_n 0, 1)) rfl rfl ?_
    obtain ⟨hk, h⟩ := h
    refine j_getI hE fg_X10_9 hk (by decide +kernel : decode cX10_open 83 = .ok (.getfield 9, 3)) ?_
    refine j_icmp_ge hE (by decide +kernel : decode cX10_open 86 = .ok (.if_icmp .ge 5, 3)) (tgt := 91) (by decide) (fun q => ?_) (fun q => ?_)
    · replace h := h.1 q
      obtain ⟨hn1, hn2, h⟩ := h
      refine j_new hE cf_2 ck_X10_327 in_X1 (by decide +kernel : decode cX10_open 91 = .ok (.new 327, 3)) hn1 hn2 (fun f1 f2 f3 f4 => ?_)
      obtain ⟨a5, ha⟩ : ∃ z, z = Hn g3 := ⟨_, rfl⟩; obtain ⟨g6, hg⟩ : ∃ z, z = nO g3 2 4 := ⟨_, rfl⟩; replace h := h a5 g6 ha hg f1 f2 f3 f4; rw [← hg, ← ha]
      refine j_dup hE (by decide +kernel : decode cX10_open 94 = .ok (.dup, 1)) rfl ?_
      refine j_iload_n hE (by decide +kernel : decode cX10_open 95 = .ok (.iload_n 1, 1)) rfl rfl ?_
      refine j_aload_n hE (by decide +kernel : decode cX10_open 96 = .ok (.aload_n 0, 1)) rfl rfl ?_
      obtain ⟨hk, h⟩ := h
      refine j_getI hE fg_X10_68 hk (by decide +kernel : decode cX10_open 97 = .ok (.getfield 68, 3)) ?_
      refine j_callI hE rfl cl_X10_329 im_X1_init rfl ⟨by omega, by omega⟩ (As := [.int l1, .int (Gi g6 1408 l0)]) (rest := [.ref a5]) (b := a5) rfl rfl (Nat.le_of_ble_eq_true rfl) (by decide +kernel : decode cX10_open 100 = .ok (.invokespecial 329, 3)) (mt_Hp_init _ _ _ _ _ h) ?_
      rintro _ g7 ⟨rfl, h⟩
      refine j_astore_n hE (by decide +kernel : decode cX10_open 103 = .ok (.astore_n 3, 1)) rfl (Nat.le_of_ble_eq_true rfl) rfl ?_
      refine j_iconst hE (by decide +kernel : decode cX10_open 104 = .ok (.iconst 0, 1)) (v := (0 : Int32)) (by decide) ?_
      refine j_istore hE (by decide +kernel : decode cX10_open 105 = .ok (.istore 4, 2)) (Nat.le_of_ble_eq_true rfl) rfl ?_
      refine j_weak [some (.ref l0), some (.int l1), none, some (.ref a5), some (.int (0 : Int32)), none] ⟨rfl, ⟨rfl, ⟨rfl, ⟨rfl, trivial⟩⟩⟩⟩ ?_
      exact hK107 _ _ _ _ _ h
    · replace h := h.2 q
      refine j_iconst hE (by decide +kernel : decode cX10_open 89 = .ok (.iconst (-1), 1)) (v := (-1 : Int32)) (by decide) ?_
      exact j_iret hE (by decide +kernel : decode cX10_open 90 = .ok (.ireturn, 1)) ⟨_, rfl, h⟩
  · replace h := h.2 q
    refine j_aload_n hE (by decide +kernel : decode cX10_open 50 = .ok (.aload_n 0, 1)) rfl rfl ?_
    refine j_aload_n hE (by decide +kernel : decode cX10_open 51 = .ok (.aload_n 0, 1)) rfl rfl ?_
    obtain ⟨hk, h⟩ := h
    obtain ⟨a8, ha, h⟩ := h
    refine j_getRn hE fg_X10_16 hk ha (by decide +kernel : decode cX10_open 52 = .ok (.getfield 16, 3)) ?_
    obtain ⟨hk, h⟩ := h
    obtain ⟨a9, ha, h⟩ := h
    refine j_getRn hE fg_X10_124 hk ha (by decide +kernel : decode cX10_open 55 = .ok (.getfield 124, 3)) ?_
    refine j_iload_n hE (by decide +kernel : decode cX10_open 58 = .ok (.iload_n 3, 1)) rfl rfl ?_
    obtain ⟨hk, h⟩ := h
    refine j_callV hE rfl cl_X10_147 cf_0 im_Jx4a65c_get_915e3 se_Jx4a65c_get_915e3 ⟨by omega, by omega⟩ (As := [.int l3]) (rest := [.ref l0]) rfl rfl (Nat.le_of_ble_eq_true rfl) hk (by decide +kernel : decode cX10_open 59 = .ok (.invokevirtual 147, 3)) (mt_AL_get _ _ _ _ h) ?_
    rintro _ g10 ⟨a11, rfl, h⟩
    obtain ⟨hk, h⟩ := h
    refine j_cast hE cf_1 ck_X10_127 hk (by decide +kernel : decode cX10_open 62 = .ok (.checkcast 127, 3)) ?_
    refine j_iload_n hE (by decide +kernel : decode cX10_open 65 = .ok (.iload_n 1, 1)) rfl rfl ?_
    obtain ⟨hk, h⟩ := h
    refine j_callV hE rfl cl_X10_323 cf_11 im_X10_fitsHeap se_X10_fitsHeap ⟨by omega, by omega⟩ (As := [.ref a11, .int l1]) (rest := []) rfl rfl (Nat.le_of_ble_eq_true rfl) hk (by decide +kernel : decode cX10_open 66 = .ok (.invokevirtual 323, 3)) (mt_PV_fitsHeap _ _ _ _ _ h) ?_
    rintro _ g12 ⟨x13, rfl, h⟩
    refine j_if_eq hE (by decide +kernel : decode cX10_open 69 = .ok (.ifCond .eq 6, 3)) (tgt := 75) (by decide) (fun q => ?_) (fun q => ?_)
    · replace h := h.1 q
      exact S_PV_open_75 hE hK36 hK107 _ _ _ _ _ h
    · replace h := h.2 q
      refine j_iinc hE (by decide +kernel : decode cX10_open 72 = .ok (.iinc 2 1, 3)) (v := (1 : Int32)) (by decide) rfl (Nat.le_of_ble_eq_true rfl) rfl ?_
      exact S_PV_open_75 hE hK36 hK107 _ _ _ _ _ h
set_option maxRecDepth 100000 in
def B_PV_open_19 (Γ : GAM) (K36 : Nat → Int32 → Int32 → Int32 → GH → Prop) (K107 : Nat → Int32 → Nat → Int32 → GH → Prop) (K : Int32 → GH → Prop)  (g : GH) : Prop :=
  K (-1 : Int32) g
set_option maxHeartbeats 4000000 in
set_option maxRecDepth 100000 in
theorem S_PV_open_19 {Γ : GAM} {E : EV} {K : Int32 → GH → Prop} (hE : GE Γ E cX10_open 6 RX10 (some (.int)) 10 398 (fun r g' => ∃ x, r = some (.int x) ∧ K x g')) {K36 : Nat → Int32 → Int32 → Int32 → GH → Prop} {K107 : Nat → Int32 → Nat → Int32 → GH → Prop} (hK36 : ∀ (l0 : Nat) (l1 : Int32) (l2 : Int32) (l3 : Int32) (g : GH), K36 l0 l1 l2 l3 g → JW Γ E 36 [some (.ref l0), some (.int l1), some (.int l2), some (.int l3), none, none] [] g) (hK107 : ∀ (l0 : Nat) (l1 : Int32) (l3 : Nat) (l4 : Int32) (g : GH), K107 l0 l1 l3 l4 g → JW Γ E 107 [some (.ref l0), some (.int l1), none, some (.ref l3), some (.int l4), none] [] g)  (g : GH) (h : B_PV_open_19 Γ K36 K107 K  g) : JW Γ E 19 [none, none, none, none, none, none] [] g := by
  unfold B_PV_open_19 at h
  refine j_iconst hE (by decide +kernel : decode cX10_open 19 = .ok (.iconst (-1), 1)) (v := (-1 : Int32)) (by decide) ?_
  exact j_iret hE (by decide +kernel : decode cX10_open 20 = .ok (.ireturn, 1)) ⟨_, rfl, h⟩
set_option maxRecDepth 100000 in
def B_PV_open_0 (Γ : GAM) (K36 : Nat → Int32 → Int32 → Int32 → GH → Prop) (K107 : Nat → Int32 → Nat → Int32 → GH → Prop) (K : Int32 → GH → Prop) (th : Nat) (p0 : Int32) (g : GH) : Prop :=
  Sp_PV_isShire Γ p0 g (fun (x2 : Int32) (g1 : GH) => ((x2 = 0 → B_PV_open_19 Γ K36 K107 K g1) ∧ (¬ (x2 = 0) → Kd g1 th = 12 ∧ ∃ a3 : Nat, Gr g1 1414 th = some a3 ∧ Kd g1 a3 = 1 ∧ Sp_AL_size Γ a3 g1 (fun (x5 : Int32) (g4 : GH) => ((x5 < (40 : Int32) → Kd g4 th = 12 ∧ ∃ a6 : Nat, Gr g4 1410 th = some a6 ∧ Kd g4 th = 12 ∧ Kd g4 a6 = 6 ∧ Sp_Po_judgeAll Γ a6 (Gi g4 1408 th) g4 (fun (g7 : GH) => K36 th p0 (0 : Int32) (0 : Int32) g7)) ∧ (¬ (x5 < (40 : Int32)) → B_PV_open_19 Γ K36 K107 K g4))))))
set_option maxHeartbeats 4000000 in
set_option maxRecDepth 100000 in
theorem S_PV_open_0 {Γ : GAM} {E : EV} {K : Int32 → GH → Prop} (hE : GE Γ E cX10_open 6 RX10 (some (.int)) 10 398 (fun r g' => ∃ x, r = some (.int x) ∧ K x g')) {K36 : Nat → Int32 → Int32 → Int32 → GH → Prop} {K107 : Nat → Int32 → Nat → Int32 → GH → Prop} (hK36 : ∀ (l0 : Nat) (l1 : Int32) (l2 : Int32) (l3 : Int32) (g : GH), K36 l0 l1 l2 l3 g → JW Γ E 36 [some (.ref l0), some (.int l1), some (.int l2), some (.int l3), none, none] [] g) (hK107 : ∀ (l0 : Nat) (l1 : Int32) (l3 : Nat) (l4 : Int32) (g : GH), K107 l0 l1 l3 l4 g → JW Γ E 107 [some (.ref l0), some (.int l1), none, some (.ref l3), some (.int l4), none] [] g) (th : Nat) (p0 : Int32) (g : GH) (h : B_PV_open_0 Γ K36 K107 K th p0 g) : JW Γ E 0 [some (.ref th), some (.int p0), none, none, none, none] [] g := by
  unfold B_PV_open_0 at h
  refine j_iload_n hE (by decide +kernel : decode cX10_open 0 = .ok (.iload_n 1, 1)) rfl rfl ?_
  refine j_callS hE rfl cl_X10_71 st_X10_isShire ⟨by omega, by omega⟩ (As := [.int p0]) (rest := []) rfl rfl (Nat.le_of_ble_eq_true rfl) (by decide +kernel : decode cX10_open 1 = .ok (.invokestatic 71, 3)) (mt_PV_isShire _ _ _ h) ?_
  rintro _ g1 ⟨x2, rfl, h⟩
  refine j_if_eq hE (by decide +kernel : decode cX10_open 4 = .ok (.ifCond .eq 15, 3)) (tgt := 19) (by decide) (fun q => ?_) (fun q => ?_)
  · replace h := h.1 q
    refine j_weak [none, none, none, none, none, none] trivial ?_
    exact S_PV_open_19 hE hK36 hK107 _ h
  · replace h := h.2 q
    refine j_aload_n hE (by decide +kernel : decode cX10_open 7 = .ok (.aload_n 0, 1)) rfl rfl ?_
    obtain ⟨hk, h⟩ := h
    obtain ⟨a3, ha, h⟩ := h
    refine j_getRn hE fg_X10_44 hk ha (by decide +kernel : decode cX10_open 8 = .ok (.getfield 44, 3)) ?_
    obtain ⟨hk, h⟩ := h
    refine j_callV hE rfl cl_X10_84 cf_0 im_Jx4a65c_size_8abf5 se_Jx4a65c_size_8abf5 ⟨by omega, by omega⟩ (As := []) (rest := []) rfl rfl (Nat.le_of_ble_eq_true rfl) hk (by decide +kernel : decode cX10_open 11 = .ok (.invokevirtual 84, 3)) (mt_AL_size _ _ _ h) ?_
    rintro _ g4 ⟨x5, rfl, h⟩
    refine j_bipush hE (by decide +kernel : decode cX10_open 14 = .ok (.bipush 40, 2)) (v := (40 : Int32)) (by decide) ?_
    refine j_icmp_lt hE (by decide +kernel : decode cX10_open 16 = .ok (.if_icmp .lt 5, 3)) (tgt := 21) (by decide) (fun q => ?_) (fun q => ?_)
    · replace h := h.1 q
      refine j_aload_n hE (by decide +kernel : decode cX10_open 21 = .ok (.aload_n 0, 1)) rfl rfl ?_
      obtain ⟨hk, h⟩ := h
      obtain ⟨a6, ha, h⟩ := h
      refine j_getRn hE fg_X10_16 hk ha (by decide +kernel : decode cX10_open 22 = .ok (.getfield 16, 3)) ?_
      refine j_aload_n hE (by decide +kernel : decode cX10_open 25 = .ok (.aload_n 0, 1)) rfl rfl ?_
      obtain ⟨hk, h⟩ := h
      refine j_getI hE fg_X10_68 hk (by decide +kernel : decode cX10_open 26 = .ok (.getfield 68, 3)) ?_
      obtain ⟨hk, h⟩ := h
      refine j_callV hE rfl cl_X10_237 cf_5 im_X4_judgeAll se_X4_judgeAll ⟨by omega, by omega⟩ (As := [.int (Gi g4 1408 th)]) (rest := []) rfl rfl (Nat.le_of_ble_eq_true rfl) hk (by decide +kernel : decode cX10_open 29 = .ok (.invokevirtual 237, 3)) (mt_Po_judgeAll _ _ _ _ h) ?_
      rintro _ g7 ⟨rfl, h⟩
      refine j_iconst hE (by decide +kernel : decode cX10_open 32 = .ok (.iconst 0, 1)) (v := (0 : Int32)) (by decide) ?_
      refine j_istore_n hE (by decide +kernel : decode cX10_open 33 = .ok (.istore_n 2, 1)) rfl (Nat.le_of_ble_eq_true rfl) rfl ?_
      refine j_iconst hE (by decide +kernel : decode cX10_open 34 = .ok (.iconst 0, 1)) (v := (0 : Int32)) (by decide) ?_
      refine j_istore_n hE (by decide +kernel : decode cX10_open 35 = .ok (.istore_n 3, 1)) rfl (Nat.le_of_ble_eq_true rfl) rfl ?_
      exact hK36 _ _ _ _ _ h
    · replace h := h.2 q
      refine j_weak [none, none, none, none, none, none] trivial ?_
      exact S_PV_open_19 hE hK36 hK107 _ h
set_option maxHeartbeats 4000000 in
set_option maxRecDepth 100000 in
theorem rl_PV_open {Γ : GAM} {l : Launch} {th : Nat} {p0 : Int32} {g : GH} {K : Int32 → GH → Prop} (I36 : Nat → Nat → Int32 → Int32 → Int32 → GH → Prop) (I107 : Nat → Nat → Int32 → Nat → Int32 → GH → Prop) (hh36 : ∀ n (l0 : Nat) (l1 : Int32) (l2 : Int32) (l3 : Int32) (g : GH), I36 n l0 l1 l2 l3 g → B_PV_open_36 Γ (fun l0 l1 l2 l3 g => ∃ m, m < n ∧ I36 m l0 l1 l2 l3 g) (fun l0 l1 l3 l4 g => ∃ m, m < n ∧ I107 m l0 l1 l3 l4 g) K l0 l1 l2 l3 g) (hh107 : ∀ n (l0 : Nat) (l1 : Int32) (l3 : Nat) (l4 : Int32) (g : GH), I107 n l0 l1 l3 l4 g → B_PV_open_107 Γ (fun l0 l1 l2 l3 g => ∃ m, m < n ∧ I36 m l0 l1 l2 l3 g) (fun l0 l1 l3 l4 g => ∃ m, m < n ∧ I107 m l0 l1 l3 l4 g) K l0 l1 l3 l4 g) (h0 : B_PV_open_0 Γ (fun l0 l1 l2 l3 g => ∃ m, I36 m l0 l1 l2 l3 g) (fun l0 l1 l3 l4 g => ∃ m, I107 m l0 l1 l3 l4 g) K th p0 g) : MetA Γ l yX10_open cX10_open 6 (some (.int)) 10 398 [.ref th, .int p0] g (fun r g' => ∃ x, r = some (.int x) ∧ K x g') := by
  refine MetA.introL (Lx := [some (.ref th), some (.int p0), none, none, none, none]) (by decide) (Nat.le_of_ble_eq_true rfl) rfl rfl ?_
  intro E hEl hE hnm
  have hall : ∀ n, (∀ (l0 : Nat) (l1 : Int32) (l2 : Int32) (l3 : Int32) (g : GH), I36 n l0 l1 l2 l3 g → JW Γ E 36 [some (.ref l0), some (.int l1), some (.int l2), some (.int l3), none, none] [] g) ∧ (∀ (l0 : Nat) (l1 : Int32) (l3 : Nat) (l4 : Int32) (g : GH), I107 n l0 l1 l3 l4 g → JW Γ E 107 [some (.ref l0), some (.int l1), none, some (.ref l3), some (.int l4), none] [] g) := by
    intro n
    induction n using Nat.strongRecOn with
    | ind n ih =>
      exact ⟨fun l0 l1 l2 l3 g hi => S_PV_open_36 hE (fun l0 l1 l2 l3 g hm => by obtain ⟨m, hm, h⟩ := hm; exact (ih m hm).1 l0 l1 l2 l3 g h) (fun l0 l1 l3 l4 g hm => by obtain ⟨m, hm, h⟩ := hm; exact (ih m hm).2 l0 l1 l3 l4 g h) l0 l1 l2 l3 g (hh36 n l0 l1 l2 l3 g hi), fun l0 l1 l3 l4 g hi => S_PV_open_107 hE (fun l0 l1 l2 l3 g hm => by obtain ⟨m, hm, h⟩ := hm; exact (ih m hm).1 l0 l1 l2 l3 g h) (fun l0 l1 l3 l4 g hm => by obtain ⟨m, hm, h⟩ := hm; exact (ih m hm).2 l0 l1 l3 l4 g h) l0 l1 l3 l4 g (hh107 n l0 l1 l3 l4 g hi)⟩
  exact S_PV_open_0 hE (fun l0 l1 l2 l3 g hm => by obtain ⟨m, h⟩ := hm; exact (hall m).1 l0 l1 l2 l3 g h) (fun l0 l1 l3 l4 g hm => by obtain ⟨m, h⟩ := hm; exact (hall m).2 l0 l1 l3 l4 g h) th p0 g h0
theorem mt_PV_open {Γ : GAM} {l : Launch} (th : Nat) (p0 : Int32) (g : GH) (K : Int32 → GH → Prop) (h : Sp_PV_open Γ th p0 g K) : MetA Γ l yX10_open cX10_open 6 (some (.int)) 10 398 [.ref th, .int p0] g (fun r g' => ∃ x, r = some (.int x) ∧ K x g') := by
  obtain ⟨C, s, n, rfl, hI, hW, hR, hK⟩ := PVC.e h
  have he := hI.en
  obtain ⟨hkd, ⟨h1, h2⟩, -, -, -, -, hnow, hsiz⟩ := hI.pk
  have hP := hI.2.2.2.2.2.2.1
  have hlen := hW.len
  obtain ⟨i1, i2⟩ := hI.pk.2.2.2.2.2.1
  have hCH := hI.2.2.2.2.2.1
  have hcl : c_hl C < Hn g := hI.1.2.2.1.1
  have h200 := hlen.2.2.1
  have h40 : (s_hea s).length ≤ 40 := by omega
  have hR' := hR
  obtain ⟨r1, r2, r3⟩ := hR'
  unfold p_open q_open at hK
  have hno : ¬ ok_open s p0 → ∀ g', FC (c_D C) g g' → COM Γ (c_D C) g' → K (-1) g' := fun u g' hF hC => hK C g' _ _ (if_neg u) (if_neg u) hF.c rfl (hI.fc hF hC) (hR.fc hF)
  have hno0 : ¬ ok_open s p0 → K (-1) g := fun u => hno u g (FC.rf he) hI.2.2.2.2.2.2.2
  refine rl_PV_open (fun n l0 l1 l2 l3 g' => c_x C = l0 ∧ p0 = l1 ∧ (0 ≤ p0 ∧ p0 ≤ 3) ∧ (s_hea s).length ≠ 40 ∧ FC (c_D C) g g' ∧ COM Γ (c_D C) g' ∧ JA (c_D C) s (s_now s) (s_vot s).length g' ∧ ∃ k, k ≤ (s_env s).length ∧ n = 1000 + ((s_env s).length - k) ∧ l3 = nI k ∧ l2 = nI (opN s p0 k))
    (fun n l0 l1 l3 l4 g' => c_x C = l0 ∧ p0 = l1 ∧ ok_open s p0 ∧ ∃ k g1, k ≤ (s_env s).length ∧ n = (s_env s).length - k ∧ l4 = nI k ∧ l3 = Hn g1 ∧ FC (c_D C) g g1 ∧ COM Γ (c_D C) g1 ∧ OPI Γ (c_D C) s p0 k g1 g') ?_ ?_ ?_
  · rintro n l0 l1 l2 l3 g' ⟨rfl, rfl, hp, h40', hF, hC, hJ, k, hk, rfl, rfl, rfl⟩
    have hI' := hI.fc hF hC
    obtain ⟨kkd, ⟨k1, k2⟩, -, -, -, -, know, ksiz⟩ := hI'.pk
    have hP' := hI'.2.2.2.2.2.2.1
    obtain ⟨q1, m2, m3⟩ := hP'.2.1.2.2.1
    have hkm := hP'.2.1.2.2.2.2.2.2.1.2.1
    have hle := opN_le (s := s) (p0 := p0) k
    suffices H : ∀ (K36 : Nat → Int32 → Int32 → Int32 → GH → Prop) (K107 : Nat → Int32 → Nat → Int32 → GH → Prop), (k < (s_env s).length → K36 (c_x C) p0 (nI (opN s p0 (k + 1))) (nI (k + 1)) g') → (∀ g2, ok_open s p0 → OPI Γ (c_D C) s p0 0 g' g2 → K107 (c_x C) p0 (Hn g') 0 g2) → B_PV_open_36 Γ K36 K107 K (c_x C) p0 (nI (opN s p0 k)) (nI k) g' from
      H _ _ (fun hlt => ⟨1000 + ((s_env s).length - (k + 1)), by omega, rfl, rfl, hp, h40', hF, hC, hJ, k + 1, hlt, rfl, rfl, rfl⟩) (fun g2 ok ho => ⟨(s_env s).length - 0, by omega, rfl, rfl, ok, 0, g', Nat.zero_le _, rfl, nj_0, rfl, hF, hC, ho⟩)
    intro K36 K107 hn36 hn107
    unfold B_PV_open_36 B_PV_open_75
    refine ⟨kkd, _, k1, k2, _, q1, hkm, hP'.esz ?_⟩
    rw [nj_le (by omega) (by omega)]
    refine ⟨fun u => ⟨kkd, ?_⟩, fun u => ⟨kkd, _, k1, k2, _, q1, hkm, hP'.eget (by omega) (fun a ha hE => ?_)⟩⟩
    · have hke : k = (s_env s).length := by omega
      subst hke
      rw [ksiz]
      refine ⟨fun u2 => ?_, fun u2 => hno (fun z => u2 z.2.2) g' hF hC⟩
      obtain ⟨f0, f1, f2⟩ := hF
      refine ⟨by omega, by omega, ?_⟩
      rintro _ g6 rfl hg6 z1 z2 z3 z4
      have e6 : Kd g6 (c_x C) = 12 := by rw [hg6, Kd_nO, if_neg (by have := hI'.1.1.1; omega)]; exact kkd
      have e7 : Gi g6 1408 (c_x C) = s_now s := by rw [hg6]; exact know
      have hfr : ∀ F, free (nO g' 2 4) F (Hn g') := fun F b hb hc ho => by
        by_cases zb : b = Hn g'
        · rw [Kd_nO, if_pos zb] at hb; omega
        · rw [Kd_nO, if_neg zb] at hb
          exact z3 F b hb hc ho
      refine ⟨e6, ?_⟩
      rw [e7, hg6]
      refine ⟨⟨by rw [Hn_nO]; omega, by rw [Kd_nO, if_pos rfl], fun b hb => ?_, hfr, fun f => z1 f, fun f => z2 f, ?_, ?_⟩, fun g2 hm hH => ?_⟩
      · rw [Hn_nO] at hb
        rw [Kd_nO, if_neg (by omega)]; exact z4 b (by omega)
      · rw [Hn_nO]; show Hn g' + 1 + 1 ≤ _; omega
      · rw [Hu_nO]; show Hu g' + 4 + 5 ≤ _; omega
      · exact hn107 g2 ⟨hp, h40', u2⟩ (OPI.ini hP' hW hJ hfr hm hH)
    · obtain ⟨_, _, _, _, _, hEa, _⟩ := id hE
      refine ⟨hEa.1.2, kkd, c_D C, s, s, k, kkd, know, hP', rfl, rfl, fun _ _ _ z => z, hW, hJ, ha, rfl, ?_⟩
      have hs := opN_s (s := s) (p0 := p0) (show k < (s_env s).length by omega)
      rw [nj_s]
      refine pv_ite (fun u2 => ?_) (fun u2 => ?_)
      · rw [if_neg u2] at hs
        have := hn36 (by omega)
        rw [hs] at this; exact this
      · rw [if_pos u2] at hs
        have := hn36 (by omega)
        rw [hs, ← nj_s] at this; exact this
  · rintro n l0 l1 l3 l4 g' ⟨rfl, rfl, ok, k, g1, hk, rfl, rfl, rfl, hF, hC, hO⟩
    have hI1 := hI.fc hF hC
    have hP1 := hI1.2.2.2.2.2.2.1
    have hP' := hO.po hP1
    have hk0 := hO.1
    have hx1 := hk0.kd hI1.1.1.1 (by have := hI1.1.1.2; omega)
    have hx2 := hx1.1.trans hI1.1.1.2
    have hd1 := hk0.kd hP1.2.1.1.1 (by have := hP1.2.1.1.2; omega)
    have hd2 := hd1.1.trans hP1.2.1.1.2
    have hpo : Gr g' 1410 (c_x C) = some (d_p (c_D C)) := by rw [hk0.gr hI1.1.1.1 (by decide)]; exact hI1.1.2.1.1
    have hhe : Gr g' 1414 (c_x C) = some (c_hl C) := by rw [hk0.gr hI1.1.1.1 (by decide)]; exact hI1.1.2.1.2.2.2.2
    have hnw : Gi g' 1408 (c_x C) = s_now s := by rw [hk0.gi hI1.1.1.1 (by decide) (by decide)]; exact hI1.2.1.1
    obtain ⟨q1, m2, m3⟩ := hP'.2.1.2.2.1
    have hkm := hP'.2.1.2.2.2.2.2.2.1.2.1
    have hkl := hk0.kd hI1.1.2.2.1.1 (by have := hI1.1.2.2.1.2.1; omega)
    have hkl2 := hkl.1.trans hI1.1.2.2.1.2.1
    have hle : (s_env (opU s p0 k)).length = (s_env s).length := rfl
    suffices H : ∀ (K36 : Nat → Int32 → Int32 → Int32 → GH → Prop) (K107 : Nat → Int32 → Nat → Int32 → GH → Prop), (∀ g2, k < (s_env s).length → OPI Γ (c_D C) s p0 (k + 1) g1 g2 → K107 (c_x C) p0 (Hn g1) (nI (k + 1)) g2) → B_PV_open_107 Γ K36 K107 K (c_x C) p0 (Hn g1) (nI k) g' from
      H _ _ (fun g2 hlt ho => ⟨(s_env s).length - (k + 1), by omega, rfl, rfl, ok, k + 1, g1, hlt, rfl, rfl, rfl, hF, hC, ho⟩)
    intro K36 K107 hn
    unfold B_PV_open_107 B_PV_open_155
    refine ⟨hx2, _, hpo, hd2, _, q1, hkm, hP'.esz ?_⟩
    rw [hle, nj_le (by omega) (by omega)]
    refine ⟨fun u => ⟨hx2, _, hhe, hkl2, ?_⟩, fun u => ⟨hx2, _, hpo, hd2, _, q1, hkm, hP'.eget (k := k) (by rw [hle]; omega) (fun a ha hE => ?_)⟩⟩
    · have hke : k = (s_env s).length := by omega
      subst hke
      have hCH1 := hI1.2.2.2.2.2.1
      have hA' := hCH1.1.fr hk0 (by simp) (by decide) (by simp)
      have hhl := hCH1.2.1
      obtain ⟨f0, f1, f2⟩ := id hF
      obtain ⟨o0, ⟨o1, o2⟩, o3⟩ := id hO
      refine ⟨_, hA', hP'.1.2.2, hP'.1.2.1, fun x hx => ?_, ⟨by omega, 2, hO.2.2.2.2.1, by omega⟩, by omega, ⟨by omega, by omega⟩, fun g2 hf hA hG => ?_⟩
      · obtain ⟨i, hi⟩ := List.getElem?_of_mem hx
        obtain ⟨y, hy, hHi⟩ := hCH1.2.2 i x hi
        exact isO.fr ⟨hI1.en.lt (by have := hHi.1; omega), 2, hHi.1, by omega⟩ hk0
      · obtain ⟨e1, e2, e3⟩ := hO.fin hI hW hR hF hC hf hA hG.hn
        have hxl : c_x C < Hn g' := Nat.lt_of_lt_of_le hI1.1.1.1 hk0.hn
        have y1 := hf.kd hxl (by omega)
        refine ⟨y1.1.trans hx2, _, by rw [hf.gr hxl (by decide)]; exact hhe, hA.1.2, ?_⟩
        refine hA.sz (n := (s_hea s).length + 1) (by rw [List.length_append, hhl]; rfl) ?_
        rw [show nI ((s_hea s).length + 1) - 1 = nI (s_hea s).length from nj_sub (b := 1) (by omega)]
        exact hK (C.1, c_D C, c_hs C ++ [Hn g1]) g2 _ _ (if_pos ok) (if_pos ok) e1 rfl e2 e3
    · have hklt : k < (s_env s).length := by omega
      obtain ⟨y, hy⟩ := get_lt hklt
      obtain ⟨y', w', L', y1, w1, hEa, -⟩ := id hE
      have hyy : (s_env s)[k]? = some y' := y1
      rw [hy] at hyy; cases hyy
      refine ⟨hEa.1.2, hx2, c_D C, s, opU s p0 k, k, hx2, hnw, hP', rfl, rfl, fun _ _ _ z => z, hW, hO.2.2.2.1, ha, by rw [hsh_op hW, if_neg (fun z => by have := z.1; omega)], ?_⟩
      rw [nj_s]
      refine pv_ite (fun u2 => hn g' hklt (hO.no u2)) (fun u2 => ⟨hO.2.2.2.2.1, _, _, _, _, hO.2.2.2.2, hEa.1.2, fun z => ?_, fun j hj hjj => ?_⟩)
      · exact absurd (by rw [hEa.2.2.1.2.2.1]; exact (hW.envx hy).2.2.2) z
      · exact hn _ hklt (hO.yes hP1 hW u2 hy ha (by rw [← hjj, hEa.2.2.1.2.2.1]) hj)
  · unfold B_PV_open_0 B_PV_open_19
    refine pv_ite (fun u => hno0 (fun z => u z.1)) (fun u => ⟨hkd, _, i1, i2, hCH.sz ?_⟩)
    rw [show ((40 : Int32) = nI 40) from rfl, nj_lt (by omega) (by omega)]
    refine ⟨fun u2 => ⟨hkd, _, h1, hkd, h2, c_D C, s, rfl, hP, hW, by rw [hnow]; exact ⟨hW.now.1, Int32.le_refl _⟩, hI.2.2.2.2.2.2.2, hR.rc, fun g1 hF hC hJ => ?_⟩, fun u2 => hno0 (fun z => z.2.1 (by omega))⟩
    rw [hnow] at hJ
    exact ⟨_, rfl, rfl, u, by omega, hF.1, hC, hJ, 0, Nat.zero_le _, rfl, nj_0, nj_0⟩
