/-! ghost moves at a method's end; what stays when lists, caches and new objects are written -/
theorem MetA.gh {Γ : GAM} {l : Launch} {y : MethodName} {cc : ByteArray} {nL : Nat} {ret : Option FieldType} {fr lo : Nat} {av : List Value} {g : GH} {K : Option Value → GH → Prop} (h : MetA Γ l y cc nL ret fr lo av g (fun r g1 => ∃ g2, (∀ H, Rep Γ g1 H → Rep Γ g2 H) ∧ K r g2)) : MetA Γ l y cc nL ret fr lo av g K := by
  unfold MetA Met MetFree at h ⊢
  intro p e ha hc hk s m args below h1 h2 h3 h4
  obtain ⟨n, o, k1, k2, k3, ⟨r, g1, e1, ⟨g2, hr, hK⟩, hR⟩, hL⟩ := h p e ha hc hk s m args below h1 h2 h3 h4
  exact ⟨n, o, k1, k2, k3, ⟨r, g2, e1, hK, hr _ hR⟩, hL⟩
/-- what the world says of a ghost heap may be used ahead of a method -/
theorem MetA.rep {Γ : GAM} {l : Launch} {y : MethodName} {cc : ByteArray} {nL : Nat} {ret : Option FieldType} {fr lo : Nat} {av : List Value} {g : GH} {K : Option Value → GH → Prop} (h : (∃ H, Rep Γ g H) → MetA Γ l y cc nL ret fr lo av g K) : MetA Γ l y cc nL ret fr lo av g K := by
  unfold MetA Met MetFree at h ⊢
  intro p e ha hc hk s m args below h1 h2 h3 h4
  exact h ⟨s.heap, h3.2.1⟩ p e ha hc hk s m args below h1 h2 h3 h4
def rl2 (g : GH) (a c o : Nat) : GH := (Gi g, Gr g, (fun c' o' => if c' = c ∧ o' = o then Ia g (Co g a) (Ow g a) else Ia g c' o'), (fun c' o' => if c' = c ∧ o' = o then Ra g (Co g a) (Ow g a) else Ra g c' o'), La g, Kd g, (fun a' => if a' = a then c else Co g a'), (fun a' => if a' = a then o else Ow g a'), Ln g, Lq g, Hn g, Hu g)
theorem Gi_rl2 (g : GH) (a c o : Nat) : Gi (rl2 g a c o) = Gi g := rfl
theorem Gr_rl2 (g : GH) (a c o : Nat) : Gr (rl2 g a c o) = Gr g := rfl
theorem Ia_rl2 (g : GH) (a c o c' o' : Nat) : Ia (rl2 g a c o) c' o' = if c' = c ∧ o' = o then Ia g (Co g a) (Ow g a) else Ia g c' o' := rfl
theorem Ra_rl2 (g : GH) (a c o c' o' : Nat) : Ra (rl2 g a c o) c' o' = if c' = c ∧ o' = o then Ra g (Co g a) (Ow g a) else Ra g c' o' := rfl
theorem La_rl2 (g : GH) (a c o : Nat) : La (rl2 g a c o) = La g := rfl
theorem Kd_rl2 (g : GH) (a c o : Nat) : Kd (rl2 g a c o) = Kd g := rfl
theorem Co_rl2 (g : GH) (a c o a' : Nat) : Co (rl2 g a c o) a' = if a' = a then c else Co g a' := rfl
theorem Ow_rl2 (g : GH) (a c o a' : Nat) : Ow (rl2 g a c o) a' = if a' = a then o else Ow g a' := rfl
theorem Ln_rl2 (g : GH) (a c o : Nat) : Ln (rl2 g a c o) = Ln g := rfl
theorem Hn_rl2 (g : GH) (a c o : Nat) : Hn (rl2 g a c o) = Hn g := rfl
theorem Hu_rl2 (g : GH) (a c o : Nat) : Hu (rl2 g a c o) = Hu g := rfl
def kl (g : GH) (b : Nat) : GH := (Gi g, Gr g, Ia g, Ra g, La g, (fun a' => if a' = b then 0 else Kd g a'), Co g, Ow g, Ln g, Lq g, Hn g, Hu g)
theorem Gi_kl (g : GH) (b : Nat) : Gi (kl g b) = Gi g := rfl
theorem Gr_kl (g : GH) (b : Nat) : Gr (kl g b) = Gr g := rfl
theorem Ia_kl (g : GH) (b : Nat) : Ia (kl g b) = Ia g := rfl
theorem Ra_kl (g : GH) (b : Nat) : Ra (kl g b) = Ra g := rfl
theorem La_kl (g : GH) (b : Nat) : La (kl g b) = La g := rfl
theorem Kd_kl (g : GH) (b a' : Nat) : Kd (kl g b) a' = if a' = b then 0 else Kd g a' := rfl
theorem Co_kl (g : GH) (b : Nat) : Co (kl g b) = Co g := rfl
theorem Ow_kl (g : GH) (b : Nat) : Ow (kl g b) = Ow g := rfl
theorem Ln_kl (g : GH) (b : Nat) : Ln (kl g b) = Ln g := rfl
theorem Hn_kl (g : GH) (b : Nat) : Hn (kl g b) = Hn g := rfl
theorem Hu_kl (g : GH) (b : Nat) : Hu (kl g b) = Hu g := rfl
theorem Rep_rl2 {Γ : GAM} {g : GH} {a c o : Nat} (ho : o < Hn g) (hf : ∀ b, b ≠ a → 20 ≤ Kd g b → Co g b = c → Ow g b ≠ o) (H : Heap) (hR : Rep Γ g H) : Rep Γ (rl2 g a c o) H := by
  obtain ⟨r1, r6, r7, r8, r9, r10, r11, r12⟩ := hR
  refine ⟨r1, r6, r7, r8, fun b h1 h2 => ?_, fun b b' h1 h2 h3 h4 => ?_, r11, fun b hb => ?_⟩
  · rw [Kd_rl2] at h1 h2
    rw [r9 b h1 h2]
    by_cases e : b = a
    · subst e
      unfold acell
      by_cases hq : b < gB Γ
      · rw [if_pos hq, if_pos hq]
      rw [if_neg hq, if_neg hq]
      rcases nat_cases4 h1 h2 with z | z | z | z <;> (simp only [Kd_rl2, z, Co_rl2, Ow_rl2, Ln_rl2, Ia_rl2, Ra_rl2, La_rl2, if_true, and_self])
    · have hne : ¬ (Co g b = c ∧ Ow g b = o) := fun q => hf b e h1 q.1 q.2
      unfold acell
      by_cases hq : b < gB Γ
      · rw [if_pos hq, if_pos hq]
      rw [if_neg hq, if_neg hq]
      rcases nat_cases4 h1 h2 with z | z | z | z <;> (simp only [Kd_rl2, z, Co_rl2, Ow_rl2, Ln_rl2, Ia_rl2, Ra_rl2, La_rl2, if_neg e, if_neg hne])
  · rw [Co_rl2, Co_rl2] at h3
    rw [Ow_rl2, Ow_rl2] at h4
    by_cases e : b = a
    · by_cases e' : b' = a
      · rw [e, e']
      · rw [if_pos e, if_neg e'] at h3 h4
        exact absurd h4.symm (hf b' e' h2 h3.symm)
    · by_cases e' : b' = a
      · rw [if_neg e, if_pos e'] at h3 h4
        exact absurd h4 (hf b e h1 h3)
      · rw [if_neg e, if_neg e'] at h3 h4
        exact r10 b b' h1 h2 h3 h4
  · rw [Ow_rl2]
    split
    · exact ho
    · exact r12 b hb
theorem Rep_kl {Γ : GAM} {g : GH} {x : Nat} (H : Heap) (hR : Rep Γ g H) : Rep Γ (kl g x) H := by
  obtain ⟨r1, r6, r7, r8, r9, r10, r11, r12⟩ := hR
  have hk : ∀ b, Kd (kl g x) b ≠ 0 → b ≠ x ∧ Kd (kl g x) b = Kd g b := fun b hb => by
    rw [Kd_kl] at hb ⊢
    by_cases e : b = x
    · rw [if_pos e] at hb; exact absurd rfl hb
    · exact ⟨e, if_neg e⟩
  refine ⟨r1, r6, fun b hb => ?_, fun b ci hb hci => ?_, fun b h1 h2 => ?_, fun b b' h1 h2 h3 h4 => ?_, r11, fun b hb => ?_⟩
  · have e := (hk b hb).2
    rw [e] at hb ⊢
    exact r7 b hb
  · rw [(hk b (by omega)).2] at hb; exact r8 b ci hb hci
  · have e := (hk b (by omega)).2
    rw [e] at h1 h2
    rw [r9 b h1 h2]
    exact (acell_of (g := g) (g' := kl g x) e rfl rfl rfl rfl rfl rfl).symm
  · rw [(hk b (by omega)).2] at h1
    rw [(hk b' (by omega)).2] at h2
    exact r10 b b' h1 h2 h3 h4
  · rw [(hk b (by omega)).2] at hb; exact r12 b hb
/-- no array stands at a place for a while -/
def NT (g : GH) : Prop := ∀ b, 20 ≤ Kd g b → Co g b ≠ 1000 ∧ Co g b ≠ 999
/-- nothing beyond the heap's end (as every world has it) -/
def EN (g : GH) : Prop := ∀ b, Hn g ≤ b → Kd g b = 0
theorem EN.of {Γ : GAM} {g : GH} (h : ∃ H, Rep Γ g H) : EN g := by
  obtain ⟨H, hR⟩ := h
  intro b hb
  refine Classical.byContradiction (fun q => ?_)
  have := (hR.2.2.1 b q).1
  omega
/-- what stays: fs the int fields, cs the arrays' colours, als the lists that may have been written -/
def Fr (fs cs als : List Nat) (g g' : GH) : Prop :=
  (∀ f a, a < Hn g → f ∉ fs → ¬ (a ∈ als ∧ f < 128) → Gi g' f a = Gi g f a) ∧
  (∀ f a, a < Hn g → ¬ (a ∈ als ∧ f < 128) → Gr g' f a = Gr g f a) ∧
  (∀ c o, o < Hn g → c ∉ cs → (c < 998 ∨ 1000 < c) → ¬ (c < 128 ∧ o ∈ als) → Ia g' c o = Ia g c o ∧ Ra g' c o = Ra g c o) ∧
  (∀ a, a < Hn g → (Kd g a = 22 ∧ Co g a < 128 ∧ Ow g a ∈ als ∧ Kd g' a = 0) ∨ (Kd g' a = Kd g a ∧ Co g' a = Co g a ∧ Ow g' a = Ow g a ∧ Ln g' a = Ln g a ∧ La g' a = La g a)) ∧
  Hn g ≤ Hn g' ∧ Hu g ≤ Hu g' ∧ ((NT g → NT g') ∧ (EN g → EN g')) ∧
  (∀ b, Hn g ≤ b → 20 ≤ Kd g' b → Co g' b < 128 → Ow g' b ∈ als ∨ Hn g ≤ Ow g' b)
theorem Fr.rf {fs cs als : List Nat} {g : GH} (hk : ∀ b, Hn g ≤ b → Kd g b = 0) : Fr fs cs als g g := ⟨fun _ _ _ _ _ => rfl, fun _ _ _ _ => rfl, fun _ _ _ _ _ _ => ⟨rfl, rfl⟩, fun _ _ => .inr ⟨rfl, rfl, rfl, rfl, rfl⟩, Nat.le_refl _, Nat.le_refl _, ⟨fun h => h, fun h => h⟩, fun b h1 h2 => by rw [hk b h1] at h2; omega⟩
theorem Fr.tr {fs cs als : List Nat} {g g1 g2 : GH} (h : Fr fs cs als g g1) (k : Fr fs cs als g1 g2) : Fr fs cs als g g2 := by
  obtain ⟨h1, h2, h3, h4, h5, h6, h7, h8⟩ := h
  obtain ⟨k1, k2, k3, k4, k5, k6, k7, k8⟩ := k
  refine ⟨fun f a q1 q2 q3 => (k1 f a (by omega) q2 q3).trans (h1 f a q1 q2 q3), fun f a q1 q3 => (k2 f a (by omega) q3).trans (h2 f a q1 q3), fun c o q1 q2 q3 q4 => ?_, fun a q1 => ?_, by omega, by omega, ⟨fun q => k7.1 (h7.1 q), fun q => k7.2 (h7.2 q)⟩, fun b q1 q2 q3 => ?_⟩
  · have a := h3 c o q1 q2 q3 q4
    have b := k3 c o (by omega) q2 q3 q4
    exact ⟨b.1.trans a.1, b.2.trans a.2⟩
  · rcases h4 a q1 with ⟨w1, w2, w3, w4⟩ | ⟨z1, z2, z3, z4, z5⟩
    · refine .inl ⟨w1, w2, w3, ?_⟩
      rcases k4 a (by omega) with ⟨y1, _⟩ | y
      · omega
      · rw [y.1]; exact w4
    · rcases k4 a (by omega) with y | ⟨y1, y2, y3, y4, y5⟩
      · rw [z1, z2, z3] at y; exact .inl y
      · exact .inr ⟨y1.trans z1, y2.trans z2, y3.trans z3, y4.trans z4, y5.trans z5⟩
  · by_cases hb : b < Hn g1
    · rcases k4 b hb with ⟨y1, y2, y3, y4⟩ | ⟨y1, y2, y3, y4, y5⟩
      · omega
      · rw [y3]
        exact h8 b q1 (by rw [← y1]; exact q2) (by rw [← y2]; exact q3)
    · rcases k8 b (by omega) q2 q3 with z | z
      · exact .inl z
      · exact .inr (by omega)
theorem Fr.up {fs cs als fs' cs' als' : List Nat} {g g' : GH} (h : Fr fs cs als g g') (k1 : ∀ f ∈ fs, f ∈ fs') (k2 : ∀ c ∈ cs, c ∈ cs') (k3 : ∀ a ∈ als, a ∈ als') : Fr fs' cs' als' g g' := by
  obtain ⟨h1, h2, h3, h4, h5, h6, h7, h8⟩ := h
  refine ⟨fun f a q1 q2 q3 => h1 f a q1 (fun z => q2 (k1 f z)) (fun z => q3 ⟨k3 a z.1, z.2⟩), fun f a q1 q3 => h2 f a q1 (fun z => q3 ⟨k3 a z.1, z.2⟩), fun c o q1 q2 q3 q4 => h3 c o q1 (fun z => q2 (k2 c z)) q3 (fun z => q4 ⟨z.1, k3 o z.2⟩), fun a q1 => ?_, h5, h6, h7, fun b q1 q2 q3 => ?_⟩
  · rcases h4 a q1 with ⟨a1, a2, a3, a4⟩ | z
    · exact .inl ⟨a1, a2, k3 _ a3, a4⟩
    · exact .inr z
  · rcases h8 b q1 q2 q3 with z | z
    · exact .inl (k3 _ z)
    · exact .inr z
theorem Fr.of {fs cs als : List Nat} {g g' : GH} (hk : EN g) (h1 : ∀ f a, a < Hn g → f ∉ fs → ¬ (a ∈ als ∧ f < 128) → Gi g' f a = Gi g f a) (h2 : Gr g' = Gr g) (h3 : ∀ c o, c ∉ cs → ¬ (c < 128 ∧ o ∈ als) → Ia g' c o = Ia g c o ∧ Ra g' c o = Ra g c o) (h4 : Kd g' = Kd g) (h5 : Co g' = Co g) (h6 : Ow g' = Ow g) (h7 : Ln g' = Ln g) (h8 : La g' = La g) (h9 : Hn g' = Hn g) (h10 : Hu g' = Hu g) : Fr fs cs als g g' := by
  refine ⟨h1, fun _ _ _ _ => by rw [h2], fun c o _ q2 _ q4 => h3 c o q2 q4, fun a _ => .inr ⟨by rw [h4], by rw [h5], by rw [h6], by rw [h7], by rw [h8]⟩, by rw [h9]; exact Nat.le_refl _, by rw [h10]; exact Nat.le_refl _, ⟨fun q => ?_, fun q => ?_⟩, fun b q1 q2 => ?_⟩
  · unfold NT; rw [h4, h5]; exact q
  · unfold EN; rw [h4, h9]; exact q
  · rw [h4, hk b q1] at q2; omega
theorem Fr.sI {fs cs als : List Nat} {g : GH} {f a : Nat} {v : Int32} (hk : EN g) (hf : f ∈ fs ∨ (a ∈ als ∧ f < 128)) : Fr fs cs als g (sI g f a v) := by
  refine Fr.of hk (fun f' a' _ q2 q3 => ?_) rfl (fun _ _ _ _ => ⟨rfl, rfl⟩) rfl rfl rfl rfl rfl rfl rfl
  rw [Gi_sI, if_neg]
  rintro ⟨rfl, rfl⟩
  rcases hf with z | z
  · exact q2 z
  · exact q3 z
theorem Fr.sA {fs cs als : List Nat} {g : GH} {c o i : Nat} {v : Int32} (hk : EN g) (hc : c ∈ cs) : Fr fs cs als g (sA g c o i v) := by
  refine Fr.of hk (fun _ _ _ _ _ => rfl) rfl (fun c' o' q2 _ => ⟨?_, rfl⟩) rfl rfl rfl rfl rfl rfl rfl
  funext j
  rw [Ia_sA, if_neg (fun q => q2 (by rw [q.1]; exact hc))]
theorem Fr.sAf {fs cs als : List Nat} {g : GH} {c o : Nat} {v : Nat → Int32} (hk : EN g) (hc : c ∈ cs) : Fr fs cs als g (sAf g c o v) := by
  refine Fr.of hk (fun _ _ _ _ _ => rfl) rfl (fun c' o' q2 _ => ⟨?_, rfl⟩) rfl rfl rfl rfl rfl rfl rfl
  rw [Ia_sAf, if_neg (fun q => q2 (by rw [q.1]; exact hc))]
theorem Fr.sRA {fs cs als : List Nat} {g : GH} {c o i : Nat} {v : Option Nat} (hk : EN g) (hc : c < 128 ∧ o ∈ als) : Fr fs cs als g (sRA g c o i v) := by
  refine Fr.of hk (fun _ _ _ _ _ => rfl) rfl (fun c' o' _ q2 => ⟨rfl, ?_⟩) rfl rfl rfl rfl rfl rfl rfl
  funext j
  rw [Ra_sRA, if_neg (fun q => q2 ⟨by rw [q.1]; exact hc.1, by rw [q.2.1]; exact hc.2⟩)]
theorem Fr.sRAf {fs cs als : List Nat} {g : GH} {c o : Nat} {v : Nat → Option Nat} (hk : EN g) (hc : c < 128 ∧ o ∈ als) : Fr fs cs als g (sRAf g c o v) := by
  refine Fr.of hk (fun _ _ _ _ _ => rfl) rfl (fun c' o' _ q2 => ⟨rfl, ?_⟩) rfl rfl rfl rfl rfl rfl rfl
  rw [Ra_sRAf, if_neg (fun q => q2 ⟨by rw [q.1]; exact hc.1, by rw [q.2]; exact hc.2⟩)]
/-- a list of objects: its cell, its array -/
def AC (Γ : GAM) (g : GH) (al : Nat) (xs : List Nat) : Prop := (al < Hn g ∧ Kd g al = 1) ∧ Gi g 2 al = nI xs.length ∧ xs.length ≤ 1000 ∧ ∃ d, (Gr g 1 al = some d ∧ d < Hn g ∧ Kd g d = 22) ∧ xs.length ≤ Ln g d ∧ Ln g d ≤ 2000 ∧ ((d = Γ.2.2.2 ∧ Ln g d = 0 ∧ Co g d = 998 ∧ free g 1 al) ∨ (1 ≤ Ln g d ∧ Co g d = 1 ∧ Ow g d = al)) ∧ ∀ i x, xs[i]? = some x → Ra g 1 al i = some x
theorem free.fr {g g' : GH} {al : Nat} {fs cs als : List Nat} (h : free g 1 al) (hl : al < Hn g) (k : Fr fs cs als g g') (hn : al ∉ als) : free g' 1 al := by
  obtain ⟨k1, k2, k3, k4, k5, k6, k7, k8⟩ := k
  intro b h1 h2
  by_cases hb : b < Hn g
  · rcases k4 b hb with ⟨_, _, _, z⟩ | ⟨z1, z2, z3, _⟩
    · omega
    · rw [z3]; exact h b (by rw [← z1]; exact h1) (by rw [← z2]; exact h2)
  · rcases k8 b (by omega) h1 (by omega) with z | z
    · intro e; rw [e] at z; exact hn z
    · omega
theorem AC.fr {Γ : GAM} {g g' : GH} {al : Nat} {xs : List Nat} {fs cs als : List Nat} (h : AC Γ g al xs) (k : Fr fs cs als g g') (hn : al ∉ als) (hfs : 2 ∉ fs) (hcs : 1 ∉ cs) : AC Γ g' al xs := by
  obtain ⟨⟨h1, h2⟩, h3, h4, d, ⟨h5, h6, h7⟩, h8, h9, h10, h11⟩ := h
  have kk := k
  obtain ⟨k1, k2, k3, k4, k5, k6, k7, k8⟩ := k
  have a1 : Kd g' al = 1 := by
    rcases k4 al h1 with z | z
    · omega
    · rw [z.1]; exact h2
  have a2 : Kd g' d = Kd g d ∧ Co g' d = Co g d ∧ Ow g' d = Ow g d ∧ Ln g' d = Ln g d := by
    rcases k4 d h6 with ⟨z1, z2, z3, z4⟩ | z
    · exfalso
      rcases h10 with ⟨_, _, q, _⟩ | ⟨_, _, q⟩
      · omega
      · rw [q] at z3; exact hn z3
    · exact ⟨z.1, z.2.1, z.2.2.1, z.2.2.2.1⟩
  refine ⟨⟨by omega, a1⟩, by rw [k1 2 al h1 hfs (fun q => hn q.1)]; exact h3, h4, d, ⟨by rw [k2 1 al h1 (fun q => hn q.1)]; exact h5, by omega, by rw [a2.1]; exact h7⟩, by rw [a2.2.2.2]; exact h8, by rw [a2.2.2.2]; exact h9, ?_, fun i x hx => ?_⟩
  · rw [a2.2.1, a2.2.2.1, a2.2.2.2]
    rcases h10 with ⟨q1, q2, q3, q4⟩ | q
    · exact .inl ⟨q1, q2, q3, q4.fr h1 kk hn⟩
    · exact .inr q
  · rw [(k3 1 al h1 hcs (by omega) (fun q => hn q.2)).2]
    exact h11 i x hx
/-- the shared empty array stands -/
def SE (Γ : GAM) (g : GH) : Prop := Γ.2.2.2 < Hn g ∧ Kd g Γ.2.2.2 = 22 ∧ Ln g Γ.2.2.2 = 0 ∧ Co g Γ.2.2.2 = 998
theorem SE.fr {Γ : GAM} {g g' : GH} {fs cs als : List Nat} (h : SE Γ g) (k : Fr fs cs als g g') : SE Γ g' := by
  obtain ⟨h1, h2, h3, h4⟩ := h
  obtain ⟨k1, k2, k3, k4, k5, k6, k7, k8⟩ := k
  rcases k4 _ h1 with ⟨_, z, _⟩ | z
  · omega
  · exact ⟨by omega, z.1.trans h2, z.2.2.2.1.trans h3, z.2.1.trans h4⟩
/-- an object of a class of ours -/
def isO (g : GH) (a : Nat) : Prop := a < Hn g ∧ ∃ ci, Kd g a = ci + 1 ∧ ci < 13
theorem isO.fr {g g' : GH} {a : Nat} {fs cs als : List Nat} (h : isO g a) (k : Fr fs cs als g g') : isO g' a := by
  obtain ⟨h1, ci, h2, h3⟩ := h
  rcases k.2.2.2.1 a h1 with z | z
  · omega
  · exact ⟨by have := k.2.2.2.2.1; omega, ci, z.1.trans h2, h3⟩
/-- an object of the class k - 1 -/
def iK (g : GH) (a k : Nat) : Prop := a < Hn g ∧ Kd g a = k
theorem iK.fr {g g' : GH} {a kd : Nat} {fs cs als : List Nat} (h : iK g a kd) (k : Fr fs cs als g g') (hk : kd < 20) : iK g' a kd := by
  obtain ⟨h1, h2⟩ := h
  rcases k.2.2.2.1 a h1 with z | z
  · omega
  · exact ⟨by have := k.2.2.2.2.1; omega, z.1.trans h2⟩
/-- an array of ints of an object: its colour, its owner, its length -/
def AI (g : GH) (c o n : Nat) : Prop := o < Hn g ∧ ∃ d, Gr g c o = some d ∧ d < Hn g ∧ Kd g d = 20 ∧ Co g d = c ∧ Ow g d = o ∧ Ln g d = n
theorem AI.fr {g g' : GH} {c o n : Nat} {fs cs als : List Nat} (h : AI g c o n) (k : Fr fs cs als g g') (hc : 128 ≤ c) : AI g' c o n := by
  obtain ⟨h1, d, h2, h3, h4, h5, h6, h7⟩ := h
  have hh := k.2.2.2.2.1
  rcases k.2.2.2.1 d h3 with z | ⟨z1, z2, z3, z4, _⟩
  · omega
  · exact ⟨by omega, d, by rw [k.2.1 c o h1 (by omega)]; exact h2, by omega, z1.trans h4, z2.trans h5, z3.trans h6, z4.trans h7⟩
