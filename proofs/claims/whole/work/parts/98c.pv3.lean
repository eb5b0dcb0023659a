/-! the class's face: what is told of voters and envelopes goes into their logs -/
theorem Fr.newX {h g' : GH} {ci N th : Nat} {fs : List Nat} (hx : FrX th fs [] (nO h ci N) g') (ht : th = Hn h) (he : EN h) (hci : ci < 19) : Fr [] [] [] h g' := by
  obtain ⟨⟨x1, x2, x3, x4, x5, x6, x7, x8, x9, x10, x11, x12⟩, y1, y2⟩ := hx
  refine CNw.fr (ci := ci) (N := N) (th := th) ⟨fun f a _ q => ⟨x1 f a q, by rw [x2]⟩, fun c o _ q => ⟨x3 c o q, by rw [x4]⟩, fun a _ => ⟨by rw [x6], by rw [x7], by rw [x8], by rw [x9], by rw [x5]⟩, fun b q1 q2 => ?_, by rw [x11]; exact Nat.le_refl _, by rw [x12]; exact Nat.le_refl _, fun b hb => ?_⟩ ht hci
  · rw [Hn_nO] at q1
    rw [x6, Kd_nO, if_neg (by omega), he b (by omega)] at q2
    omega
  · rw [x11, Hn_nO] at hb
    rw [x6, Kd_nO, if_neg (by omega)]; exact he b (by omega)
theorem RM.up {Γ : GAM} {C C' : CDR} {g g' : GH} {s s' : ST} {n : Nat} (h : RM Γ C g s (n + 1)) (hphi : phi (c_D C') g' ≤ phi (c_D C) g) (hn : Hn g' ≤ Hn g + 20) (hu : Hu g' ≤ Hu g + 6000) (hl : (s_evt s').length + (s_rea s').length + (s_tel s').length ≤ (s_evt s).length + (s_rea s).length + (s_tel s).length + 1) : RM Γ C' g' s' n := by
  obtain ⟨h1, h2, h3⟩ := h
  unfold RM
  omega
/-- all but the post -/
theorem ClsI.post {Γ : GAM} {C : CDR} {D' : DIR} {g g' : GH} {s s' : ST} {fs cs als : List Nat} (h : ClsI Γ C g s) (k : Fr fs cs als g g') (hn : c_hl C ∉ als) (h1 : AV ([1408, 1409, 897] ++ rFS ++ wFS ++ (2 :: hFS)) fs) (h2 : AV ([1415, 896] ++ rCS ++ wCS ++ [1, 258]) cs) (hd : d_p D' = d_p (c_D C)) (e0 : CV C g s → CV C g s') (e1 : s_tap s' = s_tap s) (e2 : PrI (c_pr C) g s → PrI (c_pr C) g s') (e3 : VnI (c_vn C) g s → VnI (c_vn C) g s') (e4 : CH Γ C g s → CH Γ C g s') (hP : PoI Γ D' g' s') (hC : COM Γ D' g') : ClsI Γ (C.1, D', C.2.2) g' s' := by
  obtain ⟨a1, a2, a3, a4, a5, a6, a7, a8⟩ := h
  have he := a7.1.1
  have m1 : ∀ l, (∀ f ∈ l, f ∈ ([1408, 1409, 897] ++ rFS ++ wFS ++ (2 :: hFS))) → AV l fs := fun l hl f hf => h1 f (hl f hf)
  have m2 : ∀ l, (∀ f ∈ l, f ∈ ([1415, 896] ++ rCS ++ wCS ++ [1, 258])) → AV l cs := fun l hl f hf => h2 f (hl f hf)
  have b1 : CX C g' := a1.fr k
  have b1' : CX (C.1, D', C.2.2) g' := by
    unfold CX at b1 ⊢
    rw [← hd] at b1
    exact b1
  have b2 : CV C g' s' := (e0 a2).fr a1 k (m1 _ (by decide)) (m2 _ (by decide))
  have b6 : CH Γ C g' s' := (e4 a6).fr k he hn (m1 _ (by decide)) (m2 _ (by decide))
  exact ⟨b1', b2, by rw [e1]; exact a3.fr k he (m1 _ (by decide)) (m2 _ (by decide)), (e2 a4).fr k he (m1 _ (by decide)) (m2 _ (by decide)), (e3 a5).fr k he (m1 _ (by decide)) (m2 _ (by decide)), b6, hP, hC⟩
theorem VOB.log {Γ : GAM} {fs : List Nat} {g g' : GH} {x lo : Nat} {y : Int32 × Int32 × Int32} {L L' : List Tl} {xs : List Nat} (h : VOB Γ g x y L xs) (hlo : Gr g 1283 x = some lo) (k : Fr fs [] [lo] g g') (hp : PF fs []) (hL : LOG Γ g lo L → LOG Γ g' lo L') : VOB Γ g' x y L' xs := by
  obtain ⟨⟨h1, h2⟩, ⟨h3, h4, h5⟩, lo', eo, ⟨l1, l2, l3⟩, ⟨e1, e2, e3⟩, hLo, hA⟩ := h
  rw [hlo] at l1; cases l1
  have hk := k.kd h1 (by omega)
  have hkl := k.kd hLo.lt.1 (by have := hLo.lt.2; omega)
  have hke := k.kd hA.1.1 (by have := hA.1.2; omega)
  refine ⟨⟨by have := k.hn; omega, by rw [hk.1]; exact h2⟩, ⟨by rw [k.gi h1 (hp.1 _ (by decide)) (by decide)]; exact h3, by rw [k.gi h1 (hp.1 _ (by decide)) (by decide)]; exact h4, by rw [k.gi h1 (hp.1 _ (by decide)) (by decide)]; exact h5⟩, lo, eo, ⟨by rw [k.gr h1 (by decide)]; exact hlo, by rw [hkl.2.1]; exact l2, by rw [hkl.2.2.1]; exact l3⟩, ⟨by rw [k.gr h1 (by decide)]; exact e1, by rw [hke.2.1]; exact e2, by rw [hke.2.2.1]; exact e3⟩, hL hLo, hA.fr k (fun z => ?_) (hp.1 _ (by decide)) (by simp)⟩
  rw [List.mem_singleton] at z
  rw [z, l2] at e2
  exact absurd e2 (by decide)
theorem EOB.log {Γ : GAM} {fs : List Nat} {g g' : GH} {x n w lo : Nat} {y : Em} {L L' : List Tl} (h : EOB Γ g x n w y L) (hlo : Gr g 133 x = some lo) (k : Fr fs [] [lo] g g') (hp : PF fs []) (hL : LOG Γ g lo L → LOG Γ g' lo L') : EOB Γ g' x n w y L' := by
  obtain ⟨⟨h1, h2⟩, ⟨w1, w2, w3⟩, ⟨h3, h4, h5, h6⟩, ha, hb, lo', ⟨l1, l2, l3⟩, hLo⟩ := h
  rw [hlo] at l1; cases l1
  have hk := k.kd h1 (by omega)
  have hkw := k.kd w1 (by omega)
  have hkl := k.kd hLo.lt.1 (by have := hLo.lt.2; omega)
  have hh := k.hn
  exact ⟨⟨by omega, by rw [hk.1]; exact h2⟩, ⟨by omega, by rw [hkw.1]; exact w2, by rw [k.gr h1 (by decide)]; exact w3⟩, ⟨by rw [k.gi h1 (hp.1 _ (by decide)) (by decide)]; exact h3, by rw [k.gi h1 (hp.1 _ (by decide)) (by decide)]; exact h4, by rw [k.gi h1 (hp.1 _ (by decide)) (by decide)]; exact h5, by rw [k.gi h1 (hp.1 _ (by decide)) (by decide)]; exact h6⟩, ha.fr k (by decide), hb.fr k (by decide), lo, ⟨by rw [k.gr h1 (by decide)]; exact hlo, by rw [hkl.2.1]; exact l2, by rw [hkl.2.2.1]; exact l3⟩, hL hLo⟩
theorem evOf_cg {s s' : ST} {v : Nat} (h : s_env s' = s_env s) : evOf s' v = evOf s v := by unfold evOf; rw [h]
/-- a row more in a voter's log -/
theorem PoI.logV {Γ : GAM} {D : DIR} {g g' : GH} {s s' : ST} {fs : List Nat} {v x lo : Nat} {y : Tl} (h : PoI Γ D g s) (hv : (d_vs D)[v]? = some x) (hlo : Gr g 1283 x = some lo) (k : Fr fs [] [lo] g g') (hp : PF fs []) (hf : 134 ∉ fs) (hcnt : PoC D g' s') (hL : ∀ L, L.length ≤ (s_mov s).length + (s_boo s).length → LOG Γ g lo L → LOG Γ g' lo (L ++ [y]))
    (e1 : s_vot s' = s_vot s) (e2 : s_env s' = s_env s) (e3 : s_emp s' = s_emp s) (e4 : s_law s' = s_law s) (hE : ∀ e L, ELG s e L → ELG s' e L) (hEl : (s_evt s').length + (s_rea s').length + (s_tel s').length = (s_evt s).length + (s_rea s).length + (s_tel s).length) (hH : ∀ e, hsh s' e = hsh s e)
    (hV : ∀ v' sh L, v' < (d_vs D).length → VLG s v' sh L → VLG s' v' sh (if v' = v then L ++ [y] else L)) (hlen : (s_mov s').length + (s_boo s').length = (s_mov s).length + (s_boo s).length + 1) : PoI Γ D g' s' := by
  obtain ⟨⟨he, ht, hs⟩, hl, hc, ⟨v1, v2, v3, v4⟩, ⟨a1, a2, a3⟩, hh, hm, hj⟩ := h
  obtain ⟨⟨p1, p2⟩, ⟨_, lv2, lv3⟩, ⟨_, le2, le3⟩, ⟨_, lm2, lm3⟩, ⟨_, lc2, lc3⟩, -, -, -⟩ := id hl
  obtain ⟨yv, Lv, q1, q2, q3, q4⟩ := v3 v x hv
  have hq2 := q2
  obtain ⟨⟨hx1, hx2⟩, -, lo', eo, ⟨l1, l2, l3⟩, -⟩ := hq2
  rw [hlo] at l1; cases l1
  have nl : ∀ al, Co g al ≠ 1283 → al ∉ [lo] := fun al ha z => ha (by rw [List.mem_singleton.mp z]; exact l2)
  refine ⟨⟨k.en he, k.nt ht, hs.fr k⟩, hl.fr k, hcnt, ⟨v1.fr k (nl _ (by rw [lv2]; decide)) (hp.1 _ (by decide)) (by simp), by rw [e1]; exact v2, fun v' x' hx' => ?_, v4⟩, ⟨a1.fr k (nl _ (by rw [le2]; decide)) (hp.1 _ (by decide)) (by simp), by rw [e2]; exact a2, fun e x' hx' => ?_⟩, fun e x' hx' => ?_, by rw [e3]; exact hm.fr k hp (nl _ (by rw [lm2]; decide)), ?_⟩
  · obtain ⟨y', L', r1, r2, r3, r4⟩ := v3 v' x' hx'
    have hlt := (List.getElem?_eq_some_iff.mp hx').1
    refine ⟨y', if v' = v then L' ++ [y] else L', by rw [e1]; exact r1, ?_, hV v' y'.1 L' hlt r3, ?_⟩
    · rw [evOf_cg e2]
      by_cases z : v' = v
      · rw [if_pos z]
        subst z
        rw [hv] at hx'; cases hx'
        exact r2.log hlo k hp (hL L' r4)
      · rw [if_neg z]
        refine r2.fr k hp (fun al ha w => z (v4 v' v x' hx' ?_))
        rw [List.mem_singleton.mp ha, l3] at w
        rw [← w.1]; exact hv
    · rw [hlen]
      split
      · rw [List.length_append]; simp only [List.length_cons, List.length_nil]; omega
      · omega
  · obtain ⟨y', w', L', r1, r2, r3, r4, r5⟩ := a3 e x' hx'
    refine ⟨y', w', L', by rw [e2]; exact r1, r2, r3.fr k hp (fun al ha w => ?_), hE e L' r4, by rw [hEl]; exact r5⟩
    rw [List.mem_singleton.mp ha, l2] at w
    exact absurd w.2 (by decide)
  · obtain ⟨y', w', L', r1, r2, r3, r4, r5⟩ := a3 e x' hx'
    rw [k.gi r3.1.1 hf (by decide), hH]
    exact hh e x' hx'
  · rw [e4]
    refine hj.fr k hp he (fun al ha z => ?_)
    rw [List.mem_singleton.mp ha, l2] at z
    exact absurd z.2 (by decide)
/-- a row more in an envelope's log -/
theorem PoI.logE {Γ : GAM} {D : DIR} {g g' : GH} {s s' : ST} {fs : List Nat} {v x lo : Nat} {y : Tl} (h : PoI Γ D g s) (h200 : (s_env s).length ≤ 200) (hv : (d_es D)[v]? = some x) (hlo : Gr g 133 x = some lo) (k : Fr fs [] [lo] g g') (hp : PF fs []) (hf : 134 ∉ fs) (hcnt : PoC D g' s') (hL : ∀ L, L.length ≤ (s_evt s).length + (s_rea s).length + (s_tel s).length → LOG Γ g lo L → LOG Γ g' lo (L ++ [y]))
    (e1 : s_vot s' = s_vot s) (e2 : s_env s' = s_env s) (e3 : s_emp s' = s_emp s) (e4 : s_law s' = s_law s) (hV : ∀ v sh L, VLG s v sh L → VLG s' v sh L) (hVl : (s_mov s').length + (s_boo s').length = (s_mov s).length + (s_boo s).length) (hH : ∀ e, hsh s' e = hsh s e)
    (hE : ∀ e L, e < (d_es D).length → ELG s e L → ELG s' e (if e = v then L ++ [y] else L)) (hlen : (s_evt s').length + (s_rea s').length + (s_tel s').length = (s_evt s).length + (s_rea s).length + (s_tel s).length + 1) : PoI Γ D g' s' := by
  have hinj : ∀ {e e' x : Nat}, (d_es D)[e]? = some x → (d_es D)[e']? = some x → e = e' := fun a b => h.einj h200 a b
  obtain ⟨⟨he, ht, hs⟩, hl, hc, ⟨v1, v2, v3, v4⟩, ⟨a1, a2, a3⟩, hh, hm, hj⟩ := h
  obtain ⟨⟨p1, p2⟩, ⟨_, lv2, lv3⟩, ⟨_, le2, le3⟩, ⟨_, lm2, lm3⟩, ⟨_, lc2, lc3⟩, -, -, -⟩ := id hl
  obtain ⟨yv, wv, Lv, q1, q2, q3, q4, q5⟩ := a3 v x hv
  have hq3 := q3
  obtain ⟨⟨hx1, hx2⟩, -, -, -, -, lo', ⟨l1, l2, l3⟩, -⟩ := hq3
  rw [hlo] at l1; cases l1
  have nl : ∀ al, Co g al ≠ 133 → al ∉ [lo] := fun al ha z => ha (by rw [List.mem_singleton.mp z]; exact l2)
  refine ⟨⟨k.en he, k.nt ht, hs.fr k⟩, hl.fr k, hcnt, ⟨v1.fr k (nl _ (by rw [lv2]; decide)) (hp.1 _ (by decide)) (by simp), by rw [e1]; exact v2, fun v' x' hx' => ?_, v4⟩, ⟨a1.fr k (nl _ (by rw [le2]; decide)) (hp.1 _ (by decide)) (by simp), by rw [e2]; exact a2, fun e x' hx' => ?_⟩, fun e x' hx' => ?_, by rw [e3]; exact hm.fr k hp (nl _ (by rw [lm2]; decide)), ?_⟩
  · obtain ⟨y', L', r1, r2, r3, r4⟩ := v3 v' x' hx'
    refine ⟨y', L', by rw [e1]; exact r1, ?_, hV v' y'.1 L' r3, by rw [hVl]; exact r4⟩
    rw [evOf_cg e2]
    refine r2.fr k hp (fun al ha w => ?_)
    rw [List.mem_singleton.mp ha, l2] at w
    rcases w.2 with w | w <;> exact absurd w (by decide)
  · obtain ⟨y', w', L', r1, r2, r3, r4, r5⟩ := a3 e x' hx'
    have hlt := (List.getElem?_eq_some_iff.mp hx').1
    refine ⟨y', w', if e = v then L' ++ [y] else L', by rw [e2]; exact r1, r2, ?_, hE e L' hlt r4, ?_⟩
    · by_cases z : e = v
      · rw [if_pos z]
        subst z
        rw [hv] at hx'; cases hx'
        exact r3.log hlo k hp (hL L' r5)
      · rw [if_neg z]
        refine r3.fr k hp (fun al ha w => z (hinj hx' ?_))
        rw [List.mem_singleton.mp ha, l3] at w
        rw [← w.1]; exact hv
    · rw [hlen]
      split
      · rw [List.length_append]; simp only [List.length_cons, List.length_nil]; omega
      · omega
  · obtain ⟨y', w', L', r1, r2, r3, r4, r5⟩ := a3 e x' hx'
    rw [k.gi r3.1.1 hf (by decide), hH]
    exact hh e x' hx'
  · rw [e4]
    refine hj.fr k hp he (fun al ha z => ?_)
    rw [List.mem_singleton.mp ha, l2] at z
    exact absurd z.2 (by decide)
theorem AC.uniq {Γ : GAM} {g : GH} {al : Nat} {xs ys : List Nat} (h : AC Γ g al xs) (k : AC Γ g al ys) : xs = ys := by
  obtain ⟨-, h3, h4, _, _, _, _, _, h11⟩ := h
  obtain ⟨-, k3, k4, _, _, _, _, _, k11⟩ := k
  have hl : xs.length = ys.length := (nj_eq (by omega) (by omega)).mp (h3.symm.trans k3)
  refine List.ext_getElem? (fun i => ?_)
  by_cases hi : i < xs.length
  · obtain ⟨x, hx⟩ := get_lt hi
    obtain ⟨y, hy⟩ := get_lt (show i < ys.length by omega)
    have := (h11 i x hx).symm.trans (k11 i y hy)
    rw [hx, hy, this]
  · rw [List.getElem?_eq_none (by omega), List.getElem?_eq_none (by omega)]
/-- a thing told is made and put into a list: what stands then -/
theorem told_push {Γ : GAM} {g : GH} {lo : Nat} {kd dy vl td : Int32} {N : Nat} (he : EN g) (hse : SE Γ g) (hnt : NT g) (hr : Hn g + 2 ≤ gB Γ + NCC ∧ Hu g + 2010 ≤ NSS) {L : List Tl} (hL : LOG Γ g lo L) (hl : L.length < 1000) {K : Int32 → GH → Prop} (hN : N = 4)
    (hK : ∀ g', Fr [] [] [lo] g g' → (∀ L, LOG Γ g lo L → LOG Γ g' lo (L ++ [(kd, dy, vl, td)])) → (Hn g' ≤ Hn g + 20 ∧ Hu g' ≤ Hu g + 6000) → K 1 g') :
    Sp_To_init Γ (Hn g) kd dy vl td (nO g 8 N) (fun g15 => Kd g15 lo = 1 ∧ Sp_AL_add_1 Γ lo (Hn g) g15 K) := by
  subst hN
  refine ⟨by rw [Kd_nO, if_pos rfl], fun g15 hx h1 h2 h3 h4 => ?_⟩
  have f1 : Fr [] [] [] g g15 := Fr.newX hx rfl he (by omega)
  have he15 := f1.en he
  have e15 : Hn g15 = Hn g + 1 ∧ Hu g15 = Hu g + 4 := by
    obtain ⟨⟨x1, x2, x3, x4, x5, x6, x7, x8, x9, x10, x11, x12⟩, -⟩ := hx
    rw [x11, x12]; exact ⟨rfl, rfl⟩
  have hL15 := hL.fr f1 PF.n (by simp)
  have hk9 : Kd g15 (Hn g) = 9 := by
    obtain ⟨⟨x1, x2, x3, x4, x5, x6, x7, x8, x9, x10, x11, x12⟩, -⟩ := hx
    rw [x6, Kd_nO, if_pos rfl]
  have ht : TD g15 (Hn g) (kd, dy, vl, td) := ⟨⟨by omega, hk9⟩, h1, h2, h3, h4⟩
  have hLK := hL15
  obtain ⟨xs, hA, hxl, hT⟩ := hLK
  refine ⟨hA.1.2, xs, hA, hse.fr f1, f1.nt hnt, fun x hx => ?_, ⟨by omega, 8, hk9, by omega⟩, by omega, ⟨by omega, by omega⟩, fun g' hf hA' hG => ?_⟩
  · obtain ⟨i, hi⟩ := List.getElem?_of_mem hx
    obtain ⟨z, hz⟩ := get_lt (show i < L.length by rw [← hxl]; exact (List.getElem?_eq_some_iff.mp hi).1)
    obtain ⟨⟨t1, t2⟩, -⟩ := hT i x z hi hz
    exact ⟨t1, 8, t2, by omega⟩
  · refine hK g' ((f1.up (by simp) (by simp) (by simp)).tr hf) (fun L2 hL2 => ?_) ?_
    · obtain ⟨ys, hB, hyl, hT2⟩ := hL2.fr f1 PF.n (by simp)
      have := hA.uniq hB
      subst this
      refine ⟨xs ++ [Hn g], hA', by simp [hyl], fun i x z hx hz => ?_⟩
      rw [List.getElem?_append] at hx hz
      by_cases hi : i < xs.length
      · rw [if_pos hi] at hx
        rw [if_pos (by omega)] at hz
        exact (hT2 i x z hx hz).fr hf PF.n
      · rw [if_neg hi] at hx
        rw [if_neg (by omega)] at hz
        have : i = xs.length := by
          have := (List.getElem?_eq_some_iff.mp hx).1
          simp at this; omega
        subst this
        rw [hyl] at hz
        simp at hx hz
        subst hx hz
        exact ht.fr hf PF.n
    · have := hG.hn
      omega
