/-! how the world moves: writes, new cells -/
theorem foldl_size (l : List Cell) : ∀ n : Nat, l.foldl (fun n c => n + c.slots.size) n = n + (l.map (fun c => c.slots.size)).sum := by
  induction l with
  | nil => intro n; simp
  | cons a l ih => intro n; rw [List.foldl_cons, ih, List.map_cons, List.sum_cons]; omega
theorem ssum_eq (H : Heap) : ssum H = (H.toList.map (fun c => c.slots.size)).sum := by
  unfold ssum
  rw [← Array.foldl_toList, foldl_size, Nat.zero_add]
theorem ssum_congr {H H' : Heap} (h : ∀ q : Nat, (H'[q]?).map (fun c => c.slots.size) = (H[q]?).map (fun c => c.slots.size)) : ssum H' = ssum H := by
  rw [ssum_eq, ssum_eq]
  congr 1
  apply List.ext_getElem?
  intro i
  rw [List.getElem?_map, List.getElem?_map, Array.getElem?_toList, Array.getElem?_toList]
  exact h i
theorem ssum_push (H : Heap) (c : Cell) : ssum (H.push c) = ssum H + c.slots.size := by
  rw [ssum_eq, ssum_eq]
  simp
/-- one cell written: its slots as many as before -/
theorem Rep.write {Γ : GAM} {g g' : GH} {H H' : Heap} {a : Nat} {c c' : Cell} (hR : Rep Γ g H) (ha : gB Γ ≤ a) (hc : H[a]? = some c) (hc' : H'[a]? = some c') (hs : c'.slots.size = c.slots.size) (hz : H'.size = H.size) (ho : ∀ q, q ≠ a → H'[q]? = H[q]?)
    (e1 : Hn g' = Hn g) (e2 : Hu g' = Hu g) (e3 : Kd g' = Kd g) (e4 : Co g' = Co g) (e5 : Ow g' = Ow g) (e6 : Ln g' = Ln g)
    (hob : ∀ b ci, Kd g b = ci + 1 → ci < 13 → b ≠ a → ∀ k, k < nF ci → VF g' ci b k = VF g ci b k) (hoa : ∀ ci, Kd g a = ci + 1 → ci < 13 → t_OB a (Γ.1.1 ci) (nF ci) (Γ.1.2 ci) H' (VF g' ci a))
    (hab : ∀ b, 20 ≤ Kd g b → Kd g b < 24 → b ≠ a → acell Γ g' b = acell Γ g b) (haa : 20 ≤ Kd g a → Kd g a < 24 → H'[a]? = acell Γ g' a)
    (hfr : ∀ b, Hn g ≤ b → (∀ f, Gi g' f b = 0) ∧ (∀ f, Gr g' f b = none)) : Rep Γ g' H' := by
  obtain ⟨⟨r1, r2, r3, r4, r5⟩, r6, r7, r8, r9, r10, r11, r12⟩ := hR
  refine ⟨⟨by rw [e1, hz]; exact r1, by rw [e1]; exact r2, by rw [e1]; exact r3, by rw [e2]; exact r4, ?_⟩, fun q hq => ?_, fun b hb => ?_, fun b ci hb hci => ?_, fun b h1 h2 => ?_, fun b b' => ?_, fun b hb => ?_, fun b hb => ?_⟩
  · rw [e2, ← r5]
    refine ssum_congr fun q => ?_
    by_cases hq : q = a
    · subst hq; rw [hc, hc']; simp [hs]
    · rw [ho q hq]
  · rw [ho q (by omega)]; exact r6 q hq
  · rw [e3] at hb ⊢; rw [e1, e6]; exact r7 b hb
  · rw [e3] at hb
    by_cases hq : b = a
    · subst hq; exact hoa ci hb hci
    · exact ((r8 b ci hb hci).kept (ho b hq)).to (fun k hk => (hob b ci hb hci hq k hk).symm)
  · rw [e3] at h1 h2
    by_cases hq : b = a
    · subst hq; exact haa h1 h2
    · rw [ho b hq, hab b h1 h2 hq]; exact r9 b h1 h2
  · rw [e3, e4, e5]; exact r10 b b'
  · rw [e1] at hb; exact hfr b hb
  · rw [e3] at hb; rw [e1, e5]; exact r12 b hb
theorem nF_le : ∀ ci, ci < 13 → nF ci ≤ 128 := by decide +kernel
theorem VF_sI {g : GH} {ci k a : Nat} {v : Int32} {ci' b k' : Nat} (hk : k < 128) (hk' : k' < 128) (h : ¬ (ci' = ci ∧ k' = k ∧ b = a)) : VF (sI g (ci * 128 + k) a v) ci' b k' = VF g ci' b k' := by
  unfold VF
  have e : ¬ (ci' * 128 + k' = ci * 128 + k ∧ b = a) := by
    rintro ⟨h1, h2⟩
    exact h ⟨by omega, by omega, h2⟩
  rw [Gr_sI, Gi_sI, if_neg e]
theorem VF_sI_self {g : GH} {ci k a : Nat} {v : Int32} (hr : rfF ci k = false) : VF (sI g (ci * 128 + k) a v) ci a k = .int v := by
  unfold VF
  rw [hr, Gi_sI]
  simp
theorem VF_sR {g : GH} {ci k a : Nat} {v : Option Nat} {ci' b k' : Nat} (hk : k < 128) (hk' : k' < 128) (h : ¬ (ci' = ci ∧ k' = k ∧ b = a)) : VF (sR g (ci * 128 + k) a v) ci' b k' = VF g ci' b k' := by
  unfold VF
  have e : ¬ (ci' * 128 + k' = ci * 128 + k ∧ b = a) := by
    rintro ⟨h1, h2⟩
    exact h ⟨by omega, by omega, h2⟩
  rw [Gr_sR, Gi_sR, if_neg e]
theorem VF_sR_self {g : GH} {ci k a : Nat} {v : Option Nat} (hr : rfF ci k = true) : VF (sR g (ci * 128 + k) a v) ci a k = va_rf v := by
  unfold VF
  rw [hr, Gr_sR]
  simp
theorem acell_of {Γ : GAM} {g g' : GH} {a : Nat} (e3 : Kd g' a = Kd g a) (e4 : Co g' a = Co g a) (e5 : Ow g' a = Ow g a) (e6 : Ln g' a = Ln g a) (i : Ia g' (Co g a) (Ow g a) = Ia g (Co g a) (Ow g a)) (r : Ra g' (Co g a) (Ow g a) = Ra g (Co g a) (Ow g a)) (l : La g' a = La g a) : acell Γ g' a = acell Γ g a := by
  unfold acell
  rw [e3, e4, e5, e6, i, r, l]
theorem nat_cases4 {n : Nat} (h1 : 20 ≤ n) (h2 : n < 24) : n = 20 ∨ n = 21 ∨ n = 22 ∨ n = 23 := by omega
theorem Rep.obj {Γ : GAM} {g : GH} {H : Heap} (hR : Rep Γ g H) {a ci : Nat} (h : Kd g a = ci + 1) (hci : ci < 13) : gB Γ ≤ a ∧ a < Hn g ∧ t_OB a (Γ.1.1 ci) (nF ci) (Γ.1.2 ci) H (VF g ci a) := by
  have h7 := hR.2.2.1 a (by omega)
  refine ⟨?_, h7.1, hR.2.2.2.1 a ci h hci⟩
  rcases h7.2 with h | h
  · exact h
  · omega
theorem Rep.arr {Γ : GAM} {g : GH} {H : Heap} (hR : Rep Γ g H) {a : Nat} (h1 : 20 ≤ Kd g a) (h2 : Kd g a < 24) : a < Hn g ∧ (0 < Ln g a → gB Γ ≤ a) ∧ H[a]? = acell Γ g a := by
  have h7 := hR.2.2.1 a (by omega)
  refine ⟨h7.1, fun hl => ?_, hR.2.2.2.2.1 a h1 h2⟩
  rcases h7.2 with h | h
  · exact h
  · omega
theorem Rep.arrB {Γ : GAM} {g : GH} {H : Heap} (hR : Rep Γ g H) {a : Nat} (h1 : 20 ≤ Kd g a) (h2 : Kd g a ≠ 22) : gB Γ ≤ a := by
  have h7 := hR.2.2.1 a (by omega)
  rcases h7.2 with h | h
  · exact h
  · omega
theorem Rep_sI {Γ : GAM} {g : GH} {H H' : Heap} {a ci k : Nat} {v : Int32} {c c' : Cell} (hR : Rep Γ g H) (hkd : Kd g a = ci + 1) (hci : ci < 13) (hk : k < nF ci) (hc : H[a]? = some c) (hc' : H'[a]? = some c') (hs : c'.slots.size = c.slots.size) (hz : H'.size = H.size) (ho : ∀ q, q ≠ a → H'[q]? = H[q]?)
    (hob : t_OB a (Γ.1.1 ci) (nF ci) (Γ.1.2 ci) H' (VF (sI g (ci * 128 + k) a v) ci a)) : Rep Γ (sI g (ci * 128 + k) a v) H' := by
  have hO := hR.obj hkd hci
  have h128 := nF_le ci hci
  refine hR.write hO.1 hc hc' hs hz ho rfl rfl rfl rfl rfl rfl (fun b ci' hb hci' hba k' hk' => VF_sI (by omega) (by have := nF_le ci' hci'; omega) (fun h => hba h.2.2)) (fun ci' h h' => ?_) (fun b h1 h2 hb => acell_of rfl rfl rfl rfl rfl rfl rfl) (fun h1 _ => by omega) (fun b hb => ⟨fun f => ?_, (hR.2.2.2.2.2.2.1 b hb).2⟩)
  · have : ci' = ci := by omega
    subst this; exact hob
  · rw [Gi_sI, if_neg (by intro h; have := hO.2.1; omega)]
    exact (hR.2.2.2.2.2.2.1 b hb).1 f
theorem Rep_sR {Γ : GAM} {g : GH} {H H' : Heap} {a ci k : Nat} {v : Option Nat} {c c' : Cell} (hR : Rep Γ g H) (hkd : Kd g a = ci + 1) (hci : ci < 13) (hk : k < nF ci) (hc : H[a]? = some c) (hc' : H'[a]? = some c') (hs : c'.slots.size = c.slots.size) (hz : H'.size = H.size) (ho : ∀ q, q ≠ a → H'[q]? = H[q]?)
    (hob : t_OB a (Γ.1.1 ci) (nF ci) (Γ.1.2 ci) H' (VF (sR g (ci * 128 + k) a v) ci a)) : Rep Γ (sR g (ci * 128 + k) a v) H' := by
  have hO := hR.obj hkd hci
  have h128 := nF_le ci hci
  refine hR.write hO.1 hc hc' hs hz ho rfl rfl rfl rfl rfl rfl (fun b ci' hb hci' hba k' hk' => VF_sR (by omega) (by have := nF_le ci' hci'; omega) (fun h => hba h.2.2)) (fun ci' h h' => ?_) (fun b h1 h2 hb => acell_of rfl rfl rfl rfl rfl rfl rfl) (fun h1 _ => by omega) (fun b hb => ⟨(hR.2.2.2.2.2.2.1 b hb).1, fun f => ?_⟩)
  · have : ci' = ci := by omega
    subst this; exact hob
  · rw [Gr_sR, if_neg (by intro h; have := hO.2.1; omega)]
    exact (hR.2.2.2.2.2.2.1 b hb).2 f
theorem Rep.apart {Γ : GAM} {g : GH} {H : Heap} (hR : Rep Γ g H) {a b : Nat} (ha : 20 ≤ Kd g a) (hb : 20 ≤ Kd g b) (hne : b ≠ a) : ¬ (Co g b = Co g a ∧ Ow g b = Ow g a) := fun h => hne (hR.2.2.2.2.2.1 b a hb ha h.1 h.2)
/-- an array written: the ghost row of its owner -/
theorem Rep.aw {Γ : GAM} {g g' : GH} {H H' : Heap} {a : Nat} {c c' : Cell} (hR : Rep Γ g H) (h1 : 20 ≤ Kd g a) (h2 : Kd g a < 24) (hl : 0 < Ln g a) (hc : H[a]? = some c) (hc' : H'[a]? = some c') (hs : c'.slots.size = c.slots.size) (hz : H'.size = H.size) (ho : ∀ q, q ≠ a → H'[q]? = H[q]?)
    (e0 : Gi g' = Gi g) (e0' : Gr g' = Gr g) (e1 : Hn g' = Hn g) (e2 : Hu g' = Hu g) (e3 : Kd g' = Kd g) (e4 : Co g' = Co g) (e5 : Ow g' = Ow g) (e6 : Ln g' = Ln g)
    (hi : ∀ co ow, ¬ (co = Co g a ∧ ow = Ow g a) → Ia g' co ow = Ia g co ow) (hr : ∀ co ow, ¬ (co = Co g a ∧ ow = Ow g a) → Ra g' co ow = Ra g co ow) (hla : ∀ b, b ≠ a → La g' b = La g b) (haa : H'[a]? = acell Γ g' a) : Rep Γ g' H' := by
  have hA := hR.arr h1 h2
  refine hR.write (hA.2.1 hl) hc hc' hs hz ho e1 e2 e3 e4 e5 e6 (fun b ci' hb hci' hba k' hk' => by unfold VF; rw [e0, e0']) (fun ci' h h' => by omega) (fun b hb1 hb2 hb => ?_) (fun _ _ => haa) (fun b hb => by rw [e0, e0']; exact hR.2.2.2.2.2.2.1 b hb)
  exact acell_of (by rw [e3]) (by rw [e4]) (by rw [e5]) (by rw [e6]) (hi _ _ (hR.apart h1 hb1 hb)) (hr _ _ (hR.apart h1 hb1 hb)) (hla b hb)
/-- a new object -/
theorem Rep_nO {Γ : GAM} {g : GH} {H : Heap} {ci N : Nat} {c : Cell} (hR : Rep Γ g H) (hci : ci < 13) (hn : Hn g + 1 ≤ gB Γ + NCC) (hu : Hu g + N ≤ NSS) (hs : c.slots.size = N) (hob : t_OB (Hn g) (Γ.1.1 ci) (nF ci) (Γ.1.2 ci) (H.push c) (VF g ci (Hn g))) : Rep Γ (nO g ci N) (H.push c) := by
  have h0 : Kd g (Hn g) = 0 := Classical.byContradiction fun h => by have := (hR.2.2.1 _ h).1; omega
  obtain ⟨⟨r1, r2, r3, r4, r5⟩, r6, r7, r8, r9, r10, r11, r12⟩ := hR
  have old : ∀ q, q < Hn g → (H.push c)[q]? = H[q]? := fun q hq => by rw [Array.getElem?_push]; rw [if_neg (by omega)]
  refine ⟨⟨by rw [Hn_nO, Array.size_push, r1], by rw [Hn_nO]; omega, by rw [Hn_nO]; omega, by rw [Hu_nO]; omega, by rw [ssum_push, Hu_nO, r5, hs]; omega⟩, fun q hq => by rw [old q (by omega)]; exact r6 q hq, fun b hb => ?_, fun b ci' hb hci' => ?_, fun b h1 h2 => ?_, fun b b' => ?_, fun b hb => ?_, fun b hb => ?_⟩
  · rw [Kd_nO] at hb ⊢
    rw [Hn_nO, Ln_nO]
    by_cases h : b = Hn g
    · rw [if_pos h]; exact ⟨by omega, Or.inl (by omega)⟩
    · rw [if_neg h] at hb ⊢
      exact ⟨by have := (r7 b hb).1; omega, (r7 b hb).2⟩
  · rw [Kd_nO] at hb
    by_cases h : b = Hn g
    · rw [if_pos h] at hb
      have : ci' = ci := by omega
      subst this; subst h; exact hob
    · rw [if_neg h] at hb
      exact (r8 b ci' hb hci').kept (old b (r7 b (by omega)).1)
  · rw [Kd_nO] at h1 h2
    by_cases h : b = Hn g
    · rw [if_pos h] at h1; omega
    · rw [if_neg h] at h1 h2
      rw [old b (r7 b (by omega)).1, r9 b h1 h2]
      exact (acell_of (g := g) (g' := nO g ci N) (by rw [Kd_nO g ci N, if_neg h]) rfl rfl rfl rfl rfl rfl).symm
  · rw [Kd_nO, Kd_nO]
    intro h1 h2
    have hb : b ≠ Hn g := fun h => by rw [if_pos h] at h1; omega
    have hb' : b' ≠ Hn g := fun h => by rw [if_pos h] at h2; omega
    rw [if_neg hb] at h1; rw [if_neg hb'] at h2
    exact r10 b b' h1 h2
  · rw [Hn_nO] at hb; exact r11 b (by omega)
  · rw [Kd_nO] at hb
    have h : b ≠ Hn g := fun h => by rw [if_pos h] at hb; omega
    rw [if_neg h] at hb
    rw [Hn_nO, Ow_nO]
    have := r12 b hb
    omega
/-- a new cell of which nothing is said -/
theorem Rep_nX {Γ : GAM} {g : GH} {H : Heap} {N : Nat} {c : Cell} (hR : Rep Γ g H) (hn : Hn g + 1 ≤ gB Γ + NCC) (hu : Hu g + N ≤ NSS) (hs : c.slots.size = N) : Rep Γ (nX g N) (H.push c) := by
  obtain ⟨⟨r1, r2, r3, r4, r5⟩, r6, r7, r8, r9, r10, r11, r12⟩ := hR
  have old : ∀ q, q < Hn g → (H.push c)[q]? = H[q]? := fun q hq => by rw [Array.getElem?_push]; rw [if_neg (by omega)]
  refine ⟨⟨by rw [Hn_nX, Array.size_push, r1], by rw [Hn_nX]; omega, by rw [Hn_nX]; omega, by rw [Hu_nX]; omega, by rw [ssum_push, Hu_nX, r5, hs]; omega⟩, fun q hq => by rw [old q (by omega)]; exact r6 q hq, fun b hb => ?_, fun b ci' hb hci' => ?_, fun b h1 h2 => ?_, fun b b' => r10 b b', fun b hb => ?_, fun b hb => ?_⟩
  · rw [Hn_nX]; have := r7 b hb; exact ⟨by omega, this.2⟩
  · exact (r8 b ci' hb hci').kept (old b (r7 b (by rw [Kd_nX] at hb; omega)).1)
  · rw [old b (r7 b (by rw [Kd_nX] at h1; omega)).1, r9 b h1 h2]; rfl
  · rw [Hn_nX] at hb; exact r11 b (by omega)
  · rw [Hn_nX, Ow_nX]; have := r12 b hb; omega
def free (g : GH) (c o : Nat) : Prop := ∀ b, 20 ≤ Kd g b → Co g b = c → Ow g b ≠ o
/-- a new array -/
theorem Rep_nA {Γ : GAM} {g : GH} {H : Heap} {k co ow n : Nat} {c : Cell} (hR : Rep Γ g H) (hk : 20 ≤ k) (hk2 : k < 24) (hn : Hn g + 1 ≤ gB Γ + NCC) (hu : Hu g + n ≤ NSS) (how : ow < Hn g) (hf : free g co ow) (hs : c.slots.size = n) (hc : some c = acell Γ (nA g k co ow n) (Hn g)) : Rep Γ (nA g k co ow n) (H.push c) := by
  obtain ⟨⟨r1, r2, r3, r4, r5⟩, r6, r7, r8, r9, r10, r11, r12⟩ := hR
  have old : ∀ q, q < Hn g → (H.push c)[q]? = H[q]? := fun q hq => by rw [Array.getElem?_push]; rw [if_neg (by omega)]
  refine ⟨⟨by rw [Hn_nA, Array.size_push, r1], by rw [Hn_nA]; omega, by rw [Hn_nA]; omega, by rw [Hu_nA]; omega, by rw [ssum_push, Hu_nA, r5, hs]; omega⟩, fun q hq => by rw [old q (by omega)]; exact r6 q hq, fun b hb => ?_, fun b ci' hb hci' => ?_, fun b h1 h2 => ?_, fun b b' h1 h2 h3 h4 => ?_, fun b hb => ?_, fun b hb => ?_⟩
  · rw [Kd_nA] at hb ⊢
    rw [Hn_nA, Ln_nA]
    by_cases h : b = Hn g
    · rw [if_pos h]; exact ⟨by omega, Or.inl (by omega)⟩
    · rw [if_neg h] at hb ⊢
      rw [if_neg h]
      exact ⟨by have := (r7 b hb).1; omega, (r7 b hb).2⟩
  · rw [Kd_nA] at hb
    by_cases h : b = Hn g
    · rw [if_pos h] at hb; omega
    · rw [if_neg h] at hb
      exact (r8 b ci' hb hci').kept (old b (r7 b (by omega)).1)
  · by_cases h : b = Hn g
    · subst h; rw [← hc, r1]; simp
    · rw [Kd_nA, if_neg h] at h1 h2
      rw [old b (r7 b (by omega)).1, r9 b h1 h2]
      have hx : ¬ (Co g b = co ∧ Ow g b = ow) := fun h => hf b h1 h.1 h.2
      refine (acell_of (by rw [Kd_nA, if_neg h]) (by rw [Co_nA, if_neg h]) (by rw [Ow_nA, if_neg h]) (by rw [Ln_nA, if_neg h]) ?_ ?_ ?_).symm
      · rw [Ia_nA, if_neg hx]
      · rw [Ra_nA, if_neg hx]
      · rw [La_nA, if_neg h]
  · rw [Kd_nA] at h1 h2
    rw [Co_nA, Co_nA] at h3
    rw [Ow_nA, Ow_nA] at h4
    by_cases hb : b = Hn g <;> by_cases hb' : b' = Hn g
    · omega
    · rw [if_pos hb, if_neg hb'] at h3 h4
      rw [if_neg hb'] at h2
      exact absurd h4.symm (hf b' h2 h3.symm)
    · rw [if_neg hb, if_pos hb'] at h3 h4
      rw [if_neg hb] at h1
      exact absurd h4 (hf b h1 h3)
    · rw [if_neg hb, if_neg hb'] at h3 h4
      rw [if_neg hb] at h1; rw [if_neg hb'] at h2
      exact r10 b b' h1 h2 h3 h4
  · rw [Hn_nA] at hb; exact r11 b (by omega)
  · rw [Kd_nA] at hb
    rw [Hn_nA, Ow_nA]
    by_cases h : b = Hn g
    · rw [if_pos h]; omega
    · rw [if_neg h] at hb ⊢
      have := r12 b hb
      omega
