/-! the class: its own object, and what stays of its parts -/
abbrev AV (l fs : List Nat) : Prop := ∀ f ∈ l, f ∉ fs
theorem EN.lt {g : GH} (h : EN g) {a : Nat} (ha : Kd g a ≠ 0) : a < Hn g := Classical.byContradiction (fun z => ha (h a (by omega)))
theorem Fr.ar {fs cs als : List Nat} {g g' : GH} (k : Fr fs cs als g g') (he : EN g) {m F a c o n : Nat} (hm : m < Hn g) (hF : 128 ≤ F) (h : Gr g F m = some a ∧ Kd g a = 20 ∧ Co g a = c ∧ Ow g a = o ∧ Ln g a = n) : Gr g' F m = some a ∧ Kd g' a = 20 ∧ Co g' a = c ∧ Ow g' a = o ∧ Ln g' a = n := by
  obtain ⟨h1, h2, h3, h4, h5⟩ := h
  obtain ⟨k1, k2, k3, k4⟩ := k.kd (a := a) (he.lt (by omega)) (by omega)
  exact ⟨by rw [k.gr hm hF]; exact h1, k1.trans h2, k2.trans h3, k3.trans h4, k4.trans h5⟩
theorem Fr.ia {fs cs als : List Nat} {g g' : GH} (k : Fr fs cs als g g') {c o : Nat} (ho : o < Hn g) (hc : c ∉ cs) (h : 128 ≤ c ∧ (c < 998 ∨ 1000 < c)) : Ia g' c o = Ia g c o := (k.2.2.1 c o ho hc h.2 (fun z => by omega)).1
theorem TA.fr {fs cs als : List Nat} {g g' : GH} {m : Nat} (h : TA m g) (k : Fr fs cs als g g') (he : EN g) : TA m g' := by
  obtain ⟨h0, a, b, c, d, h1, h2, h3, h4⟩ := h
  have hm : m < Hn g := he.lt (by omega)
  exact ⟨(k.kd hm (by omega)).1.trans h0, a, b, c, d, k.ar he hm (by decide) h1, k.ar he hm (by decide) h2, k.ar he hm (by decide) h3, k.ar he hm (by decide) h4⟩
theorem TT.fr {fs cs als : List Nat} {g g' : GH} {m : Nat} {t : List Int32} (h : TT m g t) (k : Fr fs cs als g g') (he : EN g) (h1 : AV [897] fs) (h2 : AV [896] cs) : TT m g' t := by
  obtain ⟨a, b, c, d, e⟩ := h
  have hm : m < Hn g := he.lt (by have := a.1; omega)
  refine ⟨a.fr k he, by rw [k.gi hm (h1 _ (by simp)) (by decide)]; exact b, c, fun i x hx => ?_, e⟩
  rw [k.ia hm (h2 _ (by simp)) (by decide)]
  exact d i x hx
theorem P5.fr {fs cs als : List Nat} {g g' : GH} {m : Nat} (h : P5 m g) (k : Fr fs cs als g g') (he : EN g) : P5 m g' := by
  obtain ⟨h0, a, b, c, d, e, h1, h2, h3, h4, h5⟩ := h
  have hm : m < Hn g := he.lt (by omega)
  exact ⟨(k.kd hm (by omega)).1.trans h0, a, b, c, d, e, k.ar he hm (by decide) h1, k.ar he hm (by decide) h2, k.ar he hm (by decide) h3, k.ar he hm (by decide) h4, k.ar he hm (by decide) h5⟩
abbrev rFS : List Nat := [773, 774]
abbrev rCS : List Nat := [768, 769, 770]
theorem PrI.fr {fs cs als : List Nat} {g g' : GH} {m : Nat} {s : ST} (h : PrI m g s) (k : Fr fs cs als g g') (he : EN g) (h1 : AV rFS fs) (h2 : AV rCS cs) : PrI m g' s := by
  obtain ⟨a, b, c, d⟩ := h
  have hm : m < Hn g := he.lt (by have := a.1; omega)
  refine ⟨a.fr k he, by rw [k.gi hm (h1 _ (by simp)) (by decide)]; exact b, by rw [k.gi hm (h1 _ (by simp)) (by decide)]; exact c, fun i x hx => ?_⟩
  rw [k.ia hm (h2 _ (by simp)) (by decide), k.ia hm (h2 _ (by simp)) (by decide), k.ia hm (h2 _ (by simp)) (by decide)]
  exact d i x hx
theorem V6.fr {fs cs als : List Nat} {g g' : GH} {m : Nat} (h : V6 m g) (k : Fr fs cs als g g') (he : EN g) : V6 m g' := by
  obtain ⟨h0, a, b, c, d, e, f, h1, h2, h3, h4, h5, h6⟩ := h
  have hm : m < Hn g := he.lt (by omega)
  exact ⟨(k.kd hm (by omega)).1.trans h0, a, b, c, d, e, f, k.ar he hm (by decide) h1, k.ar he hm (by decide) h2, k.ar he hm (by decide) h3, k.ar he hm (by decide) h4, k.ar he hm (by decide) h5, k.ar he hm (by decide) h6⟩
abbrev wFS : List Nat := [1158, 1159, 1160, 1161, 1162]
abbrev wCS : List Nat := [1152, 1153, 1154, 1157]
theorem VnI.fr {fs cs als : List Nat} {g g' : GH} {m : Nat} {s : ST} (h : VnI m g s) (k : Fr fs cs als g g') (he : EN g) (h1 : AV wFS fs) (h2 : AV wCS cs) : VnI m g' s := by
  obtain ⟨⟨a, b, c, d, e, f⟩, h⟩ := h
  have hm : m < Hn g := he.lt (by have := a.1; omega)
  have gi : ∀ f ∈ wFS, Gi g' f m = Gi g f m := fun f hf => k.gi hm (h1 f hf) (by simp at hf; omega)
  have ia : ∀ c ∈ wCS, Ia g' c m = Ia g c m := fun c hc => k.ia hm (h2 c hc) (by simp at hc; omega)
  unfold VnI VnB VD
  rw [gi _ (by decide), gi _ (by decide), gi _ (by decide), gi _ (by decide), gi _ (by decide), ia _ (by decide), ia _ (by decide), ia _ (by decide), ia _ (by decide)]
  exact ⟨⟨a.fr k he, b, c, d, e, f⟩, h⟩
abbrev hFS : List Nat := [256, 257, 259]
theorem HpI.fr {fs cs als : List Nat} {g g' : GH} {m : Nat} {sh d n : Int32} {ch : Nat → Int32} (h : HpI m g sh d ch n) (k : Fr fs cs als g g') (he : EN g) (h1 : AV hFS fs) (h2 : AV [258] cs) : HpI m g' sh d ch n := by
  obtain ⟨h0, ⟨a, ha⟩, b, c, d, e⟩ := h
  have hm : m < Hn g := he.lt (by omega)
  refine ⟨(k.kd hm (by omega)).1.trans h0, ⟨a, k.ar he hm (by decide) ha⟩, by rw [k.gi hm (h1 _ (by simp)) (by decide)]; exact b, by rw [k.gi hm (h1 _ (by simp)) (by decide)]; exact c, by rw [k.gi hm (h1 _ (by simp)) (by decide)]; exact d, ?_⟩
  rw [k.ia hm (h2 _ (by simp)) (by decide)]
  exact e
/-- a heap's object, next to the state -/
def HPX (g : GH) (h : Nat) (s : ST) (i : Nat) : Prop := ∃ y, (s_hea s)[i]? = some y ∧ HpI h g y.1 y.2 (fun c => sHp s i (nI c)) (sHp s i 5)
abbrev CDR : Type := (Nat × Nat × Nat × Nat × Nat) × DIR × List Nat
def c_x (C : CDR) : Nat := C.1.1
def c_ta (C : CDR) : Nat := C.1.2.1
def c_pr (C : CDR) : Nat := C.1.2.2.1
def c_vn (C : CDR) : Nat := C.1.2.2.2.1
def c_hl (C : CDR) : Nat := C.1.2.2.2.2
def c_D (C : CDR) : DIR := C.2.1
def c_hs (C : CDR) : List Nat := C.2.2
/-- its object: what it refers to -/
def CX (C : CDR) (g : GH) : Prop := (c_x C < Hn g ∧ Kd g (c_x C) = 12) ∧ (Gr g 1410 (c_x C) = some (d_p (c_D C)) ∧ Gr g 1411 (c_x C) = some (c_ta C) ∧ Gr g 1412 (c_x C) = some (c_pr C) ∧ Gr g 1413 (c_x C) = some (c_vn C) ∧ Gr g 1414 (c_x C) = some (c_hl C)) ∧ (c_hl C < Hn g ∧ Kd g (c_hl C) = 1 ∧ Co g (c_hl C) = 1414 ∧ Ow g (c_hl C) = c_x C) ∧ AI g 1415 (c_x C) 4 ∧ AI g 1416 (c_x C) 401 ∧ AI g 1417 (c_x C) 200
def CV (C : CDR) (g : GH) (s : ST) : Prop := Gi g 1408 (c_x C) = s_now s ∧ Gi g 1409 (c_x C) = s_siz s ∧ ∀ k, k < 4 → Ia g 1415 (c_x C) k = s_las s k
def CH (Γ : GAM) (C : CDR) (g : GH) (s : ST) : Prop := AC Γ g (c_hl C) (c_hs C) ∧ (c_hs C).length = (s_hea s).length ∧ ∀ i h, (c_hs C)[i]? = some h → HPX g h s i
def ClsI (Γ : GAM) (C : CDR) (g : GH) (s : ST) : Prop := CX C g ∧ CV C g s ∧ TT (c_ta C) g (s_tap s) ∧ PrI (c_pr C) g s ∧ VnI (c_vn C) g s ∧ CH Γ C g s ∧ PoI Γ (c_D C) g s ∧ COM Γ (c_D C) g
theorem ClsI.en {Γ : GAM} {C : CDR} {g : GH} {s : ST} (h : ClsI Γ C g s) : EN g := h.2.2.2.2.2.2.1.1.1
theorem CX.fr {fs cs als : List Nat} {g g' : GH} {C : CDR} (h : CX C g) (k : Fr fs cs als g g') : CX C g' := by
  obtain ⟨⟨h1, h2⟩, ⟨r1, r2, r3, r4, r5⟩, ⟨l0, l1, l2, l3⟩, a1, a2, a3⟩ := h
  have hk := k.kd h1 (by omega)
  have hl := k.kd l0 (by omega)
  have hh := k.hn
  unfold CX
  rw [k.gr h1 (by decide), k.gr h1 (by decide), k.gr h1 (by decide), k.gr h1 (by decide), k.gr h1 (by decide), hk.1, hl.1, hl.2.1, hl.2.2.1]
  exact ⟨⟨by omega, h2⟩, ⟨r1, r2, r3, r4, r5⟩, ⟨by omega, l1, l2, l3⟩, a1.fr k (by decide), a2.fr k (by decide), a3.fr k (by decide)⟩
theorem CV.fr {fs cs als : List Nat} {g g' : GH} {C : CDR} {s : ST} (h : CV C g s) (hx : CX C g) (k : Fr fs cs als g g') (h1 : AV [1408, 1409] fs) (h2 : AV [1415] cs) : CV C g' s := by
  obtain ⟨a, b, c⟩ := h
  have hm := hx.1.1
  unfold CV
  rw [k.gi hm (h1 _ (by simp)) (by decide), k.gi hm (h1 _ (by simp)) (by decide), k.ia hm (h2 _ (by simp)) (by decide)]
  exact ⟨a, b, c⟩
theorem CH.fr {Γ : GAM} {fs cs als : List Nat} {g g' : GH} {C : CDR} {s : ST} (h : CH Γ C g s) (k : Fr fs cs als g g') (he : EN g) (hn : c_hl C ∉ als) (h1 : AV (2 :: hFS) fs) (h2 : AV [1, 258] cs) : CH Γ C g' s := by
  obtain ⟨a, b, c⟩ := h
  refine ⟨a.fr k hn (h1 _ (by simp)) (h2 _ (by simp)), b, fun i x hx => ?_⟩
  obtain ⟨y, hy, hI⟩ := c i x hx
  exact ⟨y, hy, hI.fr k he (fun f hf => h1 f (List.mem_cons_of_mem _ hf)) (fun c hc => h2 c (List.mem_cons_of_mem _ hc))⟩
theorem COM.fr2 {Γ : GAM} {fs cs als : List Nat} {g g' : GH} {D : DIR} (h : COM Γ D g) (k : Fr fs cs als g g') (hn : d_cl D ∉ als) (h1 : AV [2] fs) (h2 : AV [1] cs) : COM Γ D g' := by
  obtain ⟨xs, a, b⟩ := h
  refine ⟨xs, a.fr k hn (h1 _ (by simp)) (h2 _ (by simp)), fun x hx => ?_⟩
  obtain ⟨c, d⟩ := b x hx
  exact ⟨Nat.lt_of_lt_of_le c k.hn, (k.kd c (by omega)).1.trans d⟩
theorem cpA.fr {Γ : GAM} {fs cs als xs : List Nat} {g g' : GH} {al : Nat} (h : AC Γ g al xs) (k : Fr fs cs als g g') (hn : al ∉ als) : cpA g' al = cpA g al := by
  obtain ⟨⟨h1, h2⟩, h3, h4, d, ⟨h5, h6, h7⟩, h8, h9, h10, h11⟩ := h
  unfold cpA
  rw [k.2.1 1 al h1 (fun q => hn q.1), h5]
  rcases k.2.2.2.1 d h6 with ⟨z1, z2, z3, z4⟩ | z
  · exfalso
    rcases h10 with ⟨_, _, q, _⟩ | ⟨_, _, q⟩
    · omega
    · rw [q] at z3; exact hn z3
  · exact z.2.2.2.1
/-- the post, when none of its lists is written -/
abbrev qFS : List Nat := [645, 646, 647, 648, 649, 134]
theorem PF.av {fs cs : List Nat} (h1 : AV pFS fs) (h2 : AV pCS cs) : PF fs cs := ⟨h1, h2⟩
theorem PoI.fr2 {Γ : GAM} {D : DIR} {g g' : GH} {s : ST} {fs cs als : List Nat} (h : PoI Γ D g s) (k : Fr fs cs als g g') (hp : PF fs cs) (h1 : AV qFS fs) (ho : ∀ al ∈ als, Ow g al ≠ d_p D ∧ Ow g al ≠ d_ju D ∧ (∀ x ∈ d_vs D, Ow g al ≠ x) ∧ ∀ x ∈ d_es D, Ow g al ≠ x) : PoI Γ D g' s := by
  obtain ⟨⟨he, ht, hs⟩, hl, ⟨c1, c2, c3, c4, c5⟩, ⟨v1, v2, v3, v4⟩, ⟨e1, e2, e3⟩, hh, hm, hj⟩ := h
  obtain ⟨⟨p1, p2⟩, ⟨_, lv2, lv3⟩, ⟨_, le2, le3⟩, ⟨_, lm2, lm3⟩, ⟨_, lc2, lc3⟩, -, -, -⟩ := id hl
  have nv : d_vl D ∉ als := fun z => (ho _ z).1 lv3
  have ne : d_el D ∉ als := fun z => (ho _ z).1 le3
  have nm : d_ml D ∉ als := fun z => (ho _ z).1 lm3
  refine ⟨⟨k.en he, k.nt ht, hs.fr k⟩, hl.fr k, ⟨by rw [k.gi p1 (h1 _ (by simp)) (by decide)]; exact c1, by rw [k.gi p1 (h1 _ (by simp)) (by decide)]; exact c2, by rw [k.gi p1 (h1 _ (by simp)) (by decide)]; exact c3, by rw [k.gi p1 (h1 _ (by simp)) (by decide)]; exact c4, by rw [k.gi p1 (h1 _ (by simp)) (by decide)]; exact c5⟩,
    ⟨v1.fr k nv (hp.1 _ (by decide)) (hp.2 _ (by decide)), v2, fun v x hx => ?_, v4⟩, ⟨e1.fr k ne (hp.1 _ (by decide)) (hp.2 _ (by decide)), e2, fun e x hx => ?_⟩, fun e x hx => ?_, hm.fr k hp nm, hj.fr k hp he (fun al ha z => (ho al ha).2.1 z.1)⟩
  · obtain ⟨y, L, q1, q2, q3, q4⟩ := v3 v x hx
    exact ⟨y, L, q1, q2.fr k hp (fun al ha z => (ho al ha).2.2.1 x (List.mem_of_getElem? hx) z.1), q3, q4⟩
  · obtain ⟨y, w, L, q1, q2, q3, q4, q5⟩ := e3 e x hx
    exact ⟨y, w, L, q1, q2, q3.fr k hp (fun al ha z => (ho al ha).2.2.2 x (List.mem_of_getElem? hx) z.1), q4, q5⟩
  · obtain ⟨y, w, L, q1, q2, q3, q4, q5⟩ := e3 e x hx
    rw [k.gi q3.1.1 (h1 _ (by simp)) (by decide)]
    exact hh e x hx
/-- nothing written but what no part reads -/
theorem ClsI.fr0 {Γ : GAM} {C : CDR} {g g' : GH} {s : ST} {fs cs : List Nat} (h : ClsI Γ C g s) (k : Fr fs cs [] g g') (h1 : AV ([1408, 1409, 897] ++ rFS ++ wFS ++ hFS ++ pFS ++ qFS) fs) (h2 : AV ([1415, 896, 258] ++ rCS ++ wCS ++ pCS) cs) : ClsI Γ C g' s := by
  obtain ⟨a1, a2, a3, a4, a5, a6, a7, a8⟩ := h
  have he := a7.1.1
  have m1 : ∀ l, (∀ f ∈ l, f ∈ ([1408, 1409, 897] ++ rFS ++ wFS ++ hFS ++ pFS ++ qFS)) → AV l fs := fun l hl f hf => h1 f (hl f hf)
  have m2 : ∀ l, (∀ f ∈ l, f ∈ ([1415, 896, 258] ++ rCS ++ wCS ++ pCS)) → AV l cs := fun l hl f hf => h2 f (hl f hf)
  exact ⟨a1.fr k, a2.fr a1 k (m1 _ (by decide)) (m2 _ (by decide)), a3.fr k he (m1 _ (by decide)) (m2 _ (by decide)), a4.fr k he (m1 _ (by decide)) (m2 _ (by decide)), a5.fr k he (m1 _ (by decide)) (m2 _ (by decide)), a6.fr k he (by simp) (m1 _ (by decide)) (m2 _ (by decide)), a7.fr2 k ⟨m1 _ (by decide), m2 _ (by decide)⟩ (m1 _ (by decide)) (fun al ha => by cases ha), a8.fr2 k (by simp) (m1 _ (by decide)) (m2 _ (by decide))⟩
/-! frames: what the class writes, what the reference writes -/
def FrC (g g' : GH) : Prop := ∃ fs cs als, (∀ f ∈ fs, f < 1536) ∧ (∀ c ∈ cs, c < 1536) ∧ Fr fs cs als g g'
theorem FrC.rf {g : GH} (h : EN g) : FrC g g := ⟨[], [], [], by simp, by simp, Fr.rf h⟩
theorem FrC.of {fs cs als : List Nat} {g g' : GH} (h : Fr fs cs als g g') (h1 : ∀ f ∈ fs, f < 1536) (h2 : ∀ c ∈ cs, c < 1536) : FrC g g' := ⟨fs, cs, als, h1, h2, h⟩
theorem FrC.tr {g g1 g2 : GH} (h : FrC g g1) (k : FrC g1 g2) : FrC g g2 := by
  obtain ⟨fs, cs, als, h1, h2, h3⟩ := h
  obtain ⟨fs', cs', als', k1, k2, k3⟩ := k
  refine ⟨fs ++ fs', cs ++ cs', als ++ als', fun f hf => ?_, fun f hf => ?_, (h3.up (fun f hf => List.mem_append_left _ hf) (fun f hf => List.mem_append_left _ hf) (fun f hf => List.mem_append_left _ hf)).tr (k3.up (fun f hf => List.mem_append_right _ hf) (fun f hf => List.mem_append_right _ hf) (fun f hf => List.mem_append_right _ hf))⟩
  · exact (List.mem_append.mp hf).elim (h1 f) (k1 f)
  · exact (List.mem_append.mp hf).elim (h2 f) (k2 f)
theorem RefI.cg {m : Nat} {ma : Nat → Nat} {g g' : GH} {s : ST} (h : RefI m ma g s) (hS : RefS m ma g') (hF : ∀ f ∈ mPF, Gi g' f m = Gi g f m) (hA : ∀ c ∈ mPA, Ia g' c m = Ia g c m) : RefI m ma g' s := by
  have f1536 := hF 1536 (by decide)
  have f1548 := hF 1548 (by decide)
  have f1615 := hF 1615 (by decide)
  have f1623 := hF 1623 (by decide)
  have f1537 := hF 1537 (by decide)
  have f1538 := hF 1538 (by decide)
  have f1539 := hF 1539 (by decide)
  have f1540 := hF 1540 (by decide)
  have f1541 := hF 1541 (by decide)
  have f1542 := hF 1542 (by decide)
  have f1543 := hF 1543 (by decide)
  have f1544 := hF 1544 (by decide)
  have f1546 := hF 1546 (by decide)
  have f1547 := hF 1547 (by decide)
  have f1588 := hF 1588 (by decide)
  have f1545 := hF 1545 (by decide)
  have c1549 := hA 1549 (by decide)
  have c1550 := hA 1550 (by decide)
  have c1551 := hA 1551 (by decide)
  have c1552 := hA 1552 (by decide)
  have c1553 := hA 1553 (by decide)
  have c1554 := hA 1554 (by decide)
  have c1555 := hA 1555 (by decide)
  have c1556 := hA 1556 (by decide)
  have c1557 := hA 1557 (by decide)
  have c1558 := hA 1558 (by decide)
  have c1559 := hA 1559 (by decide)
  have c1560 := hA 1560 (by decide)
  have c1561 := hA 1561 (by decide)
  have c1562 := hA 1562 (by decide)
  have c1563 := hA 1563 (by decide)
  have c1564 := hA 1564 (by decide)
  have c1565 := hA 1565 (by decide)
  have c1566 := hA 1566 (by decide)
  have c1567 := hA 1567 (by decide)
  have c1568 := hA 1568 (by decide)
  have c1571 := hA 1571 (by decide)
  have c1572 := hA 1572 (by decide)
  have c1573 := hA 1573 (by decide)
  have c1574 := hA 1574 (by decide)
  have c1575 := hA 1575 (by decide)
  have c1576 := hA 1576 (by decide)
  have c1577 := hA 1577 (by decide)
  have c1578 := hA 1578 (by decide)
  have c1579 := hA 1579 (by decide)
  have c1580 := hA 1580 (by decide)
  have c1610 := hA 1610 (by decide)
  have c1611 := hA 1611 (by decide)
  have c1612 := hA 1612 (by decide)
  have c1629 := hA 1629 (by decide)
  have c1630 := hA 1630 (by decide)
  have c1581 := hA 1581 (by decide)
  have c1584 := hA 1584 (by decide)
  have c1585 := hA 1585 (by decide)
  have c1586 := hA 1586 (by decide)
  have c1587 := hA 1587 (by decide)
  have c1582 := hA 1582 (by decide)
  have c1628 := hA 1628 (by decide)
  have c1617 := hA 1617 (by decide)
  have c1618 := hA 1618 (by decide)
  have c1619 := hA 1619 (by decide)
  have c1616 := hA 1616 (by decide)
  have c1626 := hA 1626 (by decide)
  refine ⟨hS, ?_, ?_, ?_, ?_, ?_, ?_, ?_, ?_, ?_, ?_, ?_, ?_, ?_, ?_, ?_, ?_, ?_, ?_, ?_, ?_⟩
  · rw [f1536]; exact h.now
  · rw [f1548]; exact h.siz
  · rw [f1615]; exact h.prs
  · rw [f1623]; exact h.stp
  · unfold R_vot; rw [f1537, c1549, c1550, c1551]; exact h.vot
  · unfold R_mov; rw [f1538, c1552, c1553, c1554, c1555]; exact h.mov
  · unfold R_env; rw [f1539, c1556, c1557, c1558, c1559]; exact h.env
  · unfold R_evt; rw [f1540, c1560, c1561, c1562, c1563, c1564]; exact h.evt
  · unfold R_emp; rw [f1541, c1565, c1566, c1567, c1568]; exact h.emp
  · unfold R_rea; rw [f1542, c1571, c1572, c1573]; exact h.rea
  · unfold R_tel; rw [f1543, c1574, c1575, c1576, c1577]; exact h.tel
  · unfold R_boo; rw [f1544, c1578, c1579, c1580]; exact h.boo
  · unfold R_wav; rw [f1546, c1610, c1611, c1612]; exact h.wav
  · unfold R_hea; rw [f1547, c1629, c1630]; exact h.hea
  · unfold R_tap; rw [f1588, c1581]; exact h.tap
  · unfold R_law; rw [f1545, c1584, c1585, c1586, c1587, c1582]; exact h.law
  · unfold R_hof; rw [c1628]; exact h.hof
  · unfold R_box; rw [c1617, c1618, c1619]; exact h.box
  · unfold R_roa; rw [c1616]; exact h.roa
  · unfold R_las; rw [c1626]; exact h.las
theorem RefI.frc {m : Nat} {ma : Nat → Nat} {g g' : GH} {s : ST} (h : RefI m ma g s) (k : FrC g g') (he : EN g) : RefI m ma g' s := by
  obtain ⟨fs, cs, als, h1, h2, k⟩ := k
  obtain ⟨r1, r2⟩ := h.1
  have hm : m < Hn g := he.lt (by omega)
  have hf : ∀ f, 1536 ≤ f → f ∉ fs := fun f hf z => by have := h1 f z; omega
  have hc : ∀ f, 1536 ≤ f → f ∉ cs := fun f hf z => by have := h2 f z; omega
  refine h.cg ⟨(k.kd hm (by omega)).1.trans r1, fun F kd n hF => ?_⟩ (fun f hf' => k.gi hm (hf f ((by decide : ∀ f ∈ mPF, 1536 ≤ f) f hf')) (by have := (by decide : ∀ f ∈ mPF, 1536 ≤ f) f hf'; omega)) (fun c hc' => k.ia hm (hc c ((by decide : ∀ f ∈ mPA, 1536 ≤ f) c hc')) (by have := (by decide : ∀ f ∈ mPA, 1536 ≤ f) c hc'; omega))
  obtain ⟨i, hi, hx⟩ := mtab_mfl F kd n hF
  have hz := mfl_20 i hi
  rw [hx] at hz
  have hz' : (20 ≤ kd ∧ kd ≤ 21) ∧ 1549 ≤ F := ⟨⟨hz.1, hz.2.1⟩, hz.2.2.1⟩
  obtain ⟨q1, q2, q3, q4, q5⟩ := r2 F kd n hF
  obtain ⟨k1, k2, k3, k4⟩ := k.kd (a := ma F) (he.lt (by omega)) (by omega)
  exact ⟨by rw [k.gr hm (by omega)]; exact q1, k1.trans q2, k2.trans q3, k3.trans q4, k4.trans q5⟩
abbrev MFl : List Nat := List.range' 1536 128
theorem FrL.fr {m : Nat} {g g' : GH} (h : FrL m g g') (he : EN g) : Fr MFl MFl [] g g' := by
  obtain ⟨x1, x2, x3, x4, x5, x6, x7, x8, x9, x10, x11, x12⟩ := h
  have hn : ∀ f, f ∉ MFl → f < 1536 ∨ 1664 ≤ f := fun f hf => Classical.byContradiction (fun z => hf (List.mem_range'.mpr ⟨f - 1536, by omega, by omega⟩))
  exact Fr.of he (fun f a _ q _ => x1 f a (.inr (hn f q))) x2 (fun c o q _ => ⟨x3 c o (.inr (hn c q)), by rw [x4]⟩) x6 x7 x8 x9 x5 x11 x12
theorem ClsI.frl {Γ : GAM} {C : CDR} {g g' : GH} {s : ST} {m : Nat} (h : ClsI Γ C g s) (k : FrL m g g') : ClsI Γ C g' s := h.fr0 (k.fr h.en) (by decide +kernel) (by decide +kernel)
/-- room for n calls more -/
def RM (Γ : GAM) (C : CDR) (g : GH) (s : ST) (n : Nat) : Prop := Hn g + phi (c_D C) g + 20 * n + 1 ≤ gB Γ + NCC ∧ Hu g + 2000 * phi (c_D C) g + 6000 * n + 2000 ≤ NSS ∧ (s_evt s).length + (s_rea s).length + (s_tel s).length + n ≤ 900
theorem RM.rc {Γ : GAM} {C : CDR} {g : GH} {s : ST} {n : Nat} (h : RM Γ C g s n) : RC Γ (c_D C) g := by
  obtain ⟨h1, h2, h3⟩ := h
  unfold RC
  omega
theorem RM.frl {Γ : GAM} {C : CDR} {g g' : GH} {s : ST} {n m : Nat} (h : RM Γ C g s n) (k : FrL m g g') : RM Γ C g' s n := by
  obtain ⟨x1, x2, x3, x4, x5, x6, x7, x8, x9, x10, x11, x12⟩ := k
  unfold RM phi cpA at h ⊢
  rw [x2, x9, x11, x12]
  exact h
