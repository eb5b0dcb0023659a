/-! the class: what its post holds, by heap alone; how it stays -/
/-- a list's label: the field that holds it, its owner -/
def lb (g : GH) (a c o : Nat) : GH := (Gi g, Gr g, Ia g, Ra g, La g, Kd g, (fun a' => if a' = a then c else Co g a'), (fun a' => if a' = a then o else Ow g a'), Ln g, Lq g, Hn g, Hu g)
theorem Gi_lb (g : GH) (a c o : Nat) : Gi (lb g a c o) = Gi g := rfl
theorem Gr_lb (g : GH) (a c o : Nat) : Gr (lb g a c o) = Gr g := rfl
theorem Ia_lb (g : GH) (a c o : Nat) : Ia (lb g a c o) = Ia g := rfl
theorem Ra_lb (g : GH) (a c o : Nat) : Ra (lb g a c o) = Ra g := rfl
theorem La_lb (g : GH) (a c o : Nat) : La (lb g a c o) = La g := rfl
theorem Kd_lb (g : GH) (a c o : Nat) : Kd (lb g a c o) = Kd g := rfl
theorem Co_lb (g : GH) (a c o a' : Nat) : Co (lb g a c o) a' = if a' = a then c else Co g a' := rfl
theorem Ow_lb (g : GH) (a c o a' : Nat) : Ow (lb g a c o) a' = if a' = a then o else Ow g a' := rfl
theorem Ln_lb (g : GH) (a c o : Nat) : Ln (lb g a c o) = Ln g := rfl
theorem Hn_lb (g : GH) (a c o : Nat) : Hn (lb g a c o) = Hn g := rfl
theorem Hu_lb (g : GH) (a c o : Nat) : Hu (lb g a c o) = Hu g := rfl
theorem Rep_lb {Γ : GAM} {g : GH} {a c o : Nat} (ha : Kd g a < 20) (H : Heap) (hR : Rep Γ g H) : Rep Γ (lb g a c o) H := by
  obtain ⟨r1, r6, r7, r8, r9, r10, r11, r12⟩ := hR
  have hne : ∀ b, 20 ≤ Kd g b → b ≠ a := fun b hb e => by rw [e] at hb; omega
  refine ⟨r1, r6, r7, r8, fun b h1 h2 => ?_, fun b b' h1 h2 h3 h4 => ?_, r11, fun b hb => ?_⟩
  · rw [Kd_lb] at h1 h2
    rw [r9 b h1 h2]
    exact (acell_of (g := g) (g' := lb g a c o) rfl (by rw [Co_lb, if_neg (hne b h1)]) (by rw [Ow_lb, if_neg (hne b h1)]) rfl rfl rfl rfl).symm
  · rw [Kd_lb] at h1 h2
    rw [Co_lb, Co_lb, if_neg (hne b h1), if_neg (hne b' h2)] at h3
    rw [Ow_lb, Ow_lb, if_neg (hne b h1), if_neg (hne b' h2)] at h4
    exact r10 b b' h1 h2 h3 h4
  · rw [Kd_lb] at hb
    rw [Ow_lb, if_neg (hne b hb)]; exact r12 b hb
/-- the fields and the arrays that what is told lies in -/
abbrev pFS : List Nat := [2, 1024, 1025, 1026, 1027, 1280, 1281, 1282, 128, 130, 131, 132, 512, 513, 514, 515]
abbrev pCS : List Nat := [1, 516, 517, 518]
/-- the class's caches -/
abbrev cFS : List Nat := [1285, 1286, 1287, 1288, 137, 138, 139, 140, 141, 142, 386]
abbrev cCS : List Nat := [135, 136, 385]
def PF (fs cs : List Nat) : Prop := (∀ f ∈ pFS, f ∉ fs) ∧ ∀ c ∈ pCS, c ∉ cs
theorem PF.c : PF cFS cCS := ⟨by decide, by decide⟩
theorem PF.n : PF [] [] := ⟨by decide, by decide⟩
theorem Fr.gi {fs cs als : List Nat} {g g' : GH} (k : Fr fs cs als g g') {f a : Nat} (ha : a < Hn g) (hf : f ∉ fs) (h : 128 ≤ f) : Gi g' f a = Gi g f a := k.1 f a ha hf (fun z => by omega)
theorem Fr.gr {fs cs als : List Nat} {g g' : GH} (k : Fr fs cs als g g') {f a : Nat} (ha : a < Hn g) (h : 128 ≤ f) : Gr g' f a = Gr g f a := k.2.1 f a ha (fun z => by omega)
theorem Fr.kd {fs cs als : List Nat} {g g' : GH} (k : Fr fs cs als g g') {a : Nat} (ha : a < Hn g) (h : Kd g a ≠ 22) : Kd g' a = Kd g a ∧ Co g' a = Co g a ∧ Ow g' a = Ow g a ∧ Ln g' a = Ln g a := by
  rcases k.2.2.2.1 a ha with z | z
  · exact absurd z.1 h
  · exact ⟨z.1, z.2.1, z.2.2.1, z.2.2.2.1⟩
theorem Fr.hn {fs cs als : List Nat} {g g' : GH} (k : Fr fs cs als g g') : Hn g ≤ Hn g' := k.2.2.2.2.1
theorem Fr.en {fs cs als : List Nat} {g g' : GH} (k : Fr fs cs als g g') (h : EN g) : EN g' := k.2.2.2.2.2.2.1.2 h
theorem Fr.nt {fs cs als : List Nat} {g g' : GH} (k : Fr fs cs als g g') (h : NT g) : NT g' := k.2.2.2.2.2.2.1.1 h
/-- what one object's caches leave is what all leave -/
theorem FrX.fr {m : Nat} {fs cs als : List Nat} {g g' : GH} (h : FrX m fs cs g g') (hk : EN g) : Fr fs cs als g g' := by
  obtain ⟨⟨x1, x2, x3, x4, x5, x6, x7, x8, x9, x10, x11, x12⟩, y1, y2⟩ := h
  refine Fr.of hk (fun f a _ q2 _ => ?_) x2 (fun c o q1 _ => ⟨?_, by rw [x4]⟩) x6 x7 x8 x9 x5 x11 x12
  · by_cases e : a = m
    · rw [e]; exact y1 f q2
    · exact x1 f a e
  · by_cases e : o = m
    · rw [e]; exact y2 c q1
    · exact x3 c o e
theorem TD.fr {fs cs als : List Nat} {g g' : GH} {a : Nat} {y : Tl} (h : TD g a y) (k : Fr fs cs als g g') (hp : PF fs cs) : TD g' a y := by
  obtain ⟨⟨h1, h2⟩, h3, h4, h5, h6⟩ := h
  have hk := k.kd h1 (by omega)
  exact ⟨⟨by have := k.hn; omega, by rw [hk.1]; exact h2⟩, by rw [k.gi h1 (hp.1 _ (by decide)) (by decide)]; exact h3, by rw [k.gi h1 (hp.1 _ (by decide)) (by decide)]; exact h4, by rw [k.gi h1 (hp.1 _ (by decide)) (by decide)]; exact h5, by rw [k.gi h1 (hp.1 _ (by decide)) (by decide)]; exact h6⟩
theorem LOG.fr {Γ : GAM} {fs cs als : List Nat} {g g' : GH} {al : Nat} {L : List Tl} (h : LOG Γ g al L) (k : Fr fs cs als g g') (hp : PF fs cs) (hn : al ∉ als) : LOG Γ g' al L := by
  obtain ⟨xs, h1, h2, h3⟩ := h
  exact ⟨xs, h1.fr k hn (hp.1 _ (by decide)) (hp.2 _ (by decide)), h2, fun i x y hx hy => (h3 i x y hx hy).fr k hp⟩
theorem LOG.push {Γ : GAM} {cs fs : List Nat} {g g' : GH} {al t : Nat} {L : List Tl} {y : Tl} (h : LOG Γ g al L) (ht : TD g t y) (k : Fr fs cs [al] g g') (hp : PF fs cs) (hA : ∀ xs, AC Γ g al xs → xs.length = L.length → (∀ (i x : Nat) (z : Tl), xs[i]? = some x → L[i]? = some z → TD g x z) → AC Γ g' al (xs ++ [t])) : LOG Γ g' al (L ++ [y]) := by
  obtain ⟨xs, h1, h2, h3⟩ := h
  refine ⟨xs ++ [t], hA xs h1 h2 h3, by simp [h2], fun i x z hx hz => ?_⟩
  rw [List.getElem?_append] at hx hz
  by_cases hi : i < xs.length
  · rw [if_pos hi] at hx
    rw [if_pos (by omega)] at hz
    exact (h3 i x z hx hz).fr k hp
  · rw [if_neg hi] at hx
    rw [if_neg (by omega)] at hz
    have : i = xs.length := by
      have := (List.getElem?_eq_some_iff.mp hx).1
      simp at this; omega
    subst this
    rw [h2] at hz
    simp at hx hz
    subst hx hz
    exact ht.fr k hp
/-- a voter's object -/
def VOB (Γ : GAM) (g : GH) (x : Nat) (y : Int32 × Int32 × Int32) (L : List Tl) (xs : List Nat) : Prop :=
  (x < Hn g ∧ Kd g x = 11) ∧ (Gi g 1280 x = y.1 ∧ Gi g 1281 x = y.2.1 ∧ Gi g 1282 x = y.2.2) ∧
  ∃ lo eo, (Gr g 1283 x = some lo ∧ Co g lo = 1283 ∧ Ow g lo = x) ∧ (Gr g 1284 x = some eo ∧ Co g eo = 1284 ∧ Ow g eo = x) ∧ LOG Γ g lo L ∧ AC Γ g eo xs
theorem LOG.lt {Γ : GAM} {g : GH} {al : Nat} {L : List Tl} (h : LOG Γ g al L) : al < Hn g ∧ Kd g al = 1 := by
  obtain ⟨xs, h1, _⟩ := h
  exact h1.1
theorem VOB.fr {Γ : GAM} {fs cs als : List Nat} {g g' : GH} {x : Nat} {y : Int32 × Int32 × Int32} {L : List Tl} {xs : List Nat} (h : VOB Γ g x y L xs) (k : Fr fs cs als g g') (hp : PF fs cs) (hn : ∀ al ∈ als, ¬ (Ow g al = x ∧ (Co g al = 1283 ∨ Co g al = 1284))) : VOB Γ g' x y L xs := by
  obtain ⟨⟨h1, h2⟩, ⟨h3, h4, h5⟩, lo, eo, ⟨l1, l2, l3⟩, ⟨e1, e2, e3⟩, hL, hA⟩ := h
  have hk := k.kd h1 (by omega)
  have hkl := k.kd hL.lt.1 (by have := hL.lt.2; omega)
  have hke := k.kd hA.1.1 (by have := hA.1.2; omega)
  refine ⟨⟨by have := k.hn; omega, by rw [hk.1]; exact h2⟩, ⟨by rw [k.gi h1 (hp.1 _ (by decide)) (by decide)]; exact h3, by rw [k.gi h1 (hp.1 _ (by decide)) (by decide)]; exact h4, by rw [k.gi h1 (hp.1 _ (by decide)) (by decide)]; exact h5⟩, lo, eo, ⟨by rw [k.gr h1 (by decide)]; exact l1, by rw [hkl.2.1]; exact l2, by rw [hkl.2.2.1]; exact l3⟩, ⟨by rw [k.gr h1 (by decide)]; exact e1, by rw [hke.2.1]; exact e2, by rw [hke.2.2.1]; exact e3⟩, hL.fr k hp (fun z => hn lo z ⟨l3, .inl l2⟩), hA.fr k (fun z => hn eo z ⟨e3, .inr e2⟩) (hp.1 _ (by decide)) (hp.2 _ (by decide))⟩
/-- an envelope's object -/
def EOB (Γ : GAM) (g : GH) (x n w : Nat) (y : Em) (L : List Tl) : Prop :=
  (x < Hn g ∧ Kd g x = 2) ∧ (w < Hn g ∧ Kd g w = 11 ∧ Gr g 129 x = some w) ∧ (Gi g 128 x = nI n ∧ Gi g 130 x = y.2.1 ∧ Gi g 131 x = y.2.2.2 ∧ Gi g 132 x = y.2.2.1) ∧
  AI g 135 x 16 ∧ AI g 136 x 16 ∧ ∃ lo, (Gr g 133 x = some lo ∧ Co g lo = 133 ∧ Ow g lo = x) ∧ LOG Γ g lo L
theorem EOB.fr {Γ : GAM} {fs cs als : List Nat} {g g' : GH} {x n w : Nat} {y : Em} {L : List Tl} (h : EOB Γ g x n w y L) (k : Fr fs cs als g g') (hp : PF fs cs) (hn : ∀ al ∈ als, ¬ (Ow g al = x ∧ Co g al = 133)) : EOB Γ g' x n w y L := by
  obtain ⟨⟨h1, h2⟩, ⟨w1, w2, w3⟩, ⟨h3, h4, h5, h6⟩, ha, hb, lo, ⟨l1, l2, l3⟩, hL⟩ := h
  have hk := k.kd h1 (by omega)
  have hkw := k.kd w1 (by omega)
  have hkl := k.kd hL.lt.1 (by have := hL.lt.2; omega)
  have hh := k.hn
  exact ⟨⟨by omega, by rw [hk.1]; exact h2⟩, ⟨by omega, by rw [hkw.1]; exact w2, by rw [k.gr h1 (by decide)]; exact w3⟩, ⟨by rw [k.gi h1 (hp.1 _ (by decide)) (by decide)]; exact h3, by rw [k.gi h1 (hp.1 _ (by decide)) (by decide)]; exact h4, by rw [k.gi h1 (hp.1 _ (by decide)) (by decide)]; exact h5, by rw [k.gi h1 (hp.1 _ (by decide)) (by decide)]; exact h6⟩, ha.fr k (by decide), hb.fr k (by decide), lo, ⟨by rw [k.gr h1 (by decide)]; exact l1, by rw [hkl.2.1]; exact l2, by rw [hkl.2.2.1]; exact l3⟩, hL.fr k hp (fun z => hn lo z ⟨l3, l2⟩)⟩
theorem AI.e {g : GH} {c o n : Nat} (h : AI g c o n) : ∃ a, Gr g c o = some a ∧ Kd g a = 20 ∧ Co g a = c ∧ Ow g a = o ∧ Ln g a = n := by
  obtain ⟨_, d, h1, h2, h3, h4, h5, h6⟩ := h
  exact ⟨d, h1, h3, h4, h5, h6⟩
theorem EOB.e2 {Γ : GAM} {g : GH} {x n w : Nat} {y : Em} {L : List Tl} (h : EOB Γ g x n w y L) : E2 x g := ⟨h.1.2, h.2.2.2.1.e, h.2.2.2.2.1.e⟩
/-- a law's object -/
def LWX (g : GH) (a : Nat) (y : La5) : Prop := LW g a y ∧ Gi g 515 a = nI y.2.2.2.length ∧ (∃ n, y.2.2.2.length ≤ n ∧ n ≤ 1000 ∧ AI g 518 a n) ∧ (∃ n, n ≤ 199 ∧ AI g 516 a n) ∧ ∀ k r, y.2.2.2[k]? = some r → Ia g 518 a k = r.2.1 ∧ LC g a (2 * k) r.1 ∧ LC g a (2 * k + 1) r.2.2
theorem LC.fr {fs cs als : List Nat} {g g' : GH} {a j : Nat} {c : List Int32} (h : LC g a j c) (k : Fr fs cs als g g') (hp : PF fs cs) (hk : EN g) : LC g' a j c := by
  obtain ⟨h1, b0, nw, nb, w, x, ⟨w1, w2, w3, w4, w5⟩, ⟨x1, x2, x3, x4, x5⟩, c1, c2, c3, c4, c5, c6, c7⟩ := h
  have lt : ∀ b, Kd g b ≠ 0 → b < Hn g := fun b hb => Classical.byContradiction (fun z => hb (hk b (by omega)))
  have la := lt a (by omega)
  have ka := k.kd la (by omega)
  have kw := k.kd (lt w (by omega)) (by omega)
  have kx := k.kd (lt x (by omega)) (by omega)
  have ia : ∀ c, c ∈ pCS → (c < 998 ∨ 1000 < c) → 128 ≤ c → Ia g' c a = Ia g c a := fun c hc h1 h2 => (k.2.2.1 c a la (hp.2 c hc) h1 (fun z => by omega)).1
  refine ⟨by rw [ka.1]; exact h1, b0, nw, nb, w, x, ⟨by rw [k.gr la (by decide)]; exact w1, by rw [kw.1]; exact w2, by rw [kw.2.1]; exact w3, by rw [kw.2.2.1]; exact w4, by rw [kw.2.2.2]; exact w5⟩, ⟨by rw [k.gr la (by decide)]; exact x1, by rw [kx.1]; exact x2, by rw [kx.2.1]; exact x3, by rw [kx.2.2.1]; exact x4, by rw [kx.2.2.2]; exact x5⟩, c1, c2, c3, c4, ?_, ?_, fun i v hv => ?_⟩
  · rw [ia _ (by decide) (by decide) (by decide)]; exact c5
  · rw [ia _ (by decide) (by decide) (by decide)]; exact c6
  · rw [ia _ (by decide) (by decide) (by decide)]; exact c7 i v hv
theorem LWX.fr {fs cs als : List Nat} {g g' : GH} {a : Nat} {y : La5} (h : LWX g a y) (k : Fr fs cs als g g') (hp : PF fs cs) (hk : EN g) : LWX g' a y := by
  obtain ⟨⟨⟨h1, h2⟩, h3, h4, h5⟩, h6, ⟨n, h7, h8, h9⟩, ⟨n2, w1, w2⟩, h10⟩ := h
  have ka := k.kd h1 (by omega)
  refine ⟨⟨⟨by have := k.hn; omega, by rw [ka.1]; exact h2⟩, by rw [k.gi h1 (hp.1 _ (by decide)) (by decide)]; exact h3, by rw [k.gi h1 (hp.1 _ (by decide)) (by decide)]; exact h4, by rw [k.gi h1 (hp.1 _ (by decide)) (by decide)]; exact h5⟩, by rw [k.gi h1 (hp.1 _ (by decide)) (by decide)]; exact h6, ⟨n, h7, h8, h9.fr k (by decide)⟩, ⟨n2, w1, w2.fr k (by decide)⟩, fun i r hr => ?_⟩
  obtain ⟨r1, r2, r3⟩ := h10 i r hr
  exact ⟨by rw [(k.2.2.1 _ a h1 (hp.2 _ (by decide)) (by decide) (fun z => absurd z.1 (by decide))).1]; exact r1, r2.fr k hp hk, r3.fr k hp hk⟩
/-- the judge's object -/
def JuI (Γ : GAM) (g : GH) (ju : Nat) (laws : List La5) : Prop := (ju < Hn g ∧ Kd g ju = 4) ∧ AI g 385 ju 200 ∧ ∃ al xs, (Gr g 384 ju = some al ∧ Co g al = 384 ∧ Ow g al = ju) ∧ AC Γ g al xs ∧ xs.length = laws.length ∧ ∀ (i x : Nat) (y : La5), xs[i]? = some x → laws[i]? = some y → LWX g x y
theorem JuI.fr {Γ : GAM} {fs cs als : List Nat} {g g' : GH} {ju : Nat} {laws : List La5} (h : JuI Γ g ju laws) (k : Fr fs cs als g g') (hp : PF fs cs) (hk : EN g) (hn : ∀ al ∈ als, ¬ (Ow g al = ju ∧ Co g al = 384)) : JuI Γ g' ju laws := by
  obtain ⟨⟨h1, h2⟩, h3, al, xs, ⟨l1, l2, l3⟩, hA, hl, hr⟩ := h
  have ka := k.kd h1 (by omega)
  have kl := k.kd hA.1.1 (by have := hA.1.2; omega)
  exact ⟨⟨by have := k.hn; omega, by rw [ka.1]; exact h2⟩, h3.fr k (by decide), al, xs, ⟨by rw [k.gr h1 (by decide)]; exact l1, by rw [kl.2.1]; exact l2, by rw [kl.2.2.1]; exact l3⟩, hA.fr k (fun z => hn al z ⟨l3, l2⟩) (hp.1 _ (by decide)) (hp.2 _ (by decide)), hl, fun i x y hx hy => (hr i x y hx hy).fr k hp hk⟩
theorem JuI.jl {Γ : GAM} {g : GH} {ju : Nat} {s : ST} (h : JuI Γ g ju (s_law s)) : JL Γ ju g s := by
  obtain ⟨⟨h1, h2⟩, h3, al, xs, ⟨l1, l2, l3⟩, hA, hl, hr⟩ := h
  exact ⟨h2, al, xs, l1, hA, hl, fun i x y hx hy => (hr i x y hx hy).1⟩
