/-! the class: a law kept -/
theorem fl6 {t : List Int32} (hT : t.length ≤ 200) {p p2 : Nat} {r : Rl} (hp : p ≤ t.length) (h : pRu t p = .inr (p2, r)) : (r.1.length + r.2.2.length + p + 2 ≤ p2 ∧ p2 ≤ t.length) ∧ 3 ≤ r.1.length := by
  have := pRu_ok hT p hp
  rw [h] at this
  obtain ⟨r1, r2, r3, r4, r5⟩ := this
  exact ⟨⟨r5, r2⟩, tyC_3 (by have := r4.1; unfold okC at this; exact this.1)⟩
theorem pRs_fl {t : List Int32} (hT : t.length ≤ 200) : ∀ f p (rs : List Rl), p ≤ t.length → (flR rs).length + 2 ≤ p → 6 * rs.length ≤ p + 1 → ∀ x, pRs t f p rs = .inr x → (flR x).length + 2 ≤ t.length ∧ 6 * x.length ≤ t.length + 1 := by
  intro f
  induction f with
  | zero =>
    intro p rs h1 h2 h3 x hx
    unfold pRs at hx
    split at hx
    · cases hx
    · cases hx; omega
  | succ f ih =>
    intro p rs h1 h2 h3 x hx
    unfold pRs at hx
    split at hx
    · rename_i hc
      have hlt := chr_in (t := t) (p := skp t p) (by rw [hc]; decide)
      have g1 := skp_ge t p
      cases hru : pRu t (skp t p + 1) with
      | inl e => rw [hru] at hx; cases hx
      | inr y =>
        obtain ⟨p2, r⟩ := y
        rw [hru] at hx
        obtain ⟨⟨r1, r2⟩, r3⟩ := fl6 hT (by omega) hru
        refine ih p2 (rs ++ [r]) r2 ?_ ?_ x hx
        · rw [flR_app, List.length_append, List.length_append]; omega
        · rw [List.length_append]; simp only [List.length_cons, List.length_nil]; omega
    · split at hx
      · cases hx
      · cases hx; omega
theorem pAll_fl {t : List Int32} (hT : t.length ≤ 200) {x : List Rl} (h : pAll t = .inr x) : (1 ≤ (flR x).length ∧ (flR x).length ≤ 198) ∧ 1 ≤ x.length ∧ x.length ≤ 33 := by
  obtain ⟨a1, a2, a3, a4⟩ := pAll_ok hT h
  unfold pAll at h
  cases hru : pRu t 0 with
  | inl e => rw [hru] at h; cases h
  | inr y =>
    obtain ⟨p1, r⟩ := y
    rw [hru] at h
    obtain ⟨⟨r1, r2⟩, r3⟩ := fl6 hT (Nat.zero_le _) hru
    have hf : (flR [r]).length = r.1.length + r.2.2.length := by unfold flR; simp
    have := pRs_fl hT _ p1 [r] r2 (by omega) (by simp only [List.length_cons, List.length_nil]; omega) x h
    refine ⟨⟨?_, by omega⟩, a2, by omega⟩
    match x, a2, a4 with
    | q :: l, _, a4 =>
      have := tyC_3 (by have := (a4 q List.mem_cons_self).1; unfold okC at this; exact this.1)
      unfold flR
      simp only [List.flatMap_cons, List.length_append]; omega
theorem flR_at {rs : List Rl} {k : Nat} {r : Rl} (h : rs[k]? = some r) : flR rs = flR (rs.take k) ++ (r.1 ++ r.2.2) ++ flR (rs.drop (k + 1)) := by
  have : rs = rs.take k ++ (r :: rs.drop (k + 1)) := by
    obtain ⟨hk, he⟩ := List.getElem?_eq_some_iff.mp h
    rw [← he, ← List.drop_eq_getElem_cons hk, List.take_append_drop]
  conv => lhs; rw [this]
  unfold flR
  rw [List.flatMap_append, List.flatMap_cons, ← List.append_assoc]
/-- an array copied and labelled -/
def cpG (g : GH) (n : Nat) (f : Nat → Int32) (c o : Nat) : GH := rl2 (sAf (nA g 20 999 0 n) 999 0 f) (Hn g) c o
theorem cpG_Ia {g : GH} {n c o : Nat} {f : Nat → Int32} {c' o' : Nat} (h : c' < 998 ∨ 1000 < c') : Ia (cpG g n f c o) c' o' = if c' = c ∧ o' = o then f else Ia g c' o' := by
  unfold cpG
  rw [Ia_rl2]
  split
  · rw [Co_sAf, Ow_sAf, Co_nA, Ow_nA, if_pos rfl, if_pos rfl, Ia_sAf, if_pos ⟨rfl, rfl⟩]
  · rw [Ia_sAf, if_neg (fun z => by omega), Ia_nA, if_neg (fun z => by omega)]
theorem cpG_k {g : GH} {n c o : Nat} {f : Nat → Int32} (a : Nat) : Kd (cpG g n f c o) a = (if a = Hn g then 20 else Kd g a) ∧ Co (cpG g n f c o) a = (if a = Hn g then c else Co g a) ∧ Ow (cpG g n f c o) a = (if a = Hn g then o else Ow g a) ∧ Ln (cpG g n f c o) a = (if a = Hn g then n else Ln g a) := by
  unfold cpG
  rw [Kd_rl2, Kd_sAf, Kd_nA, Co_rl2, Co_sAf, Co_nA, Ow_rl2, Ow_sAf, Ow_nA, Ln_rl2, Ln_sAf, Ln_nA]
  refine ⟨rfl, ?_, ?_, rfl⟩ <;> split <;> rfl
theorem Fr.cp {h g : GH} {n c o : Nat} {f : Nat → Int32} (k : Fr [] [] [] h g) (ho : Hn h ≤ o) (hc : 128 ≤ c ∧ (c < 998 ∨ 1000 < c)) : Fr [] [] [] h (cpG g n f c o) := by
  obtain ⟨h1, h2, h3, h4, h5, h6, ⟨h7, h7'⟩, h8⟩ := k
  have hh : Hn (cpG g n f c o) = Hn g + 1 := rfl
  refine ⟨h1, h2, fun c' o' q1 q2 q3 q4 => ?_, fun a q1 => .inr ?_, by omega, Nat.le_trans h6 (Nat.le_add_right _ _), ⟨fun z b hb => ?_, fun z b hb => ?_⟩, fun b q1 q2 q3 => ?_⟩
  · refine ⟨?_, ?_⟩
    · rw [cpG_Ia q3, if_neg (fun z => by omega)]; exact (h3 c' o' q1 q2 q3 q4).1
    · unfold cpG
      rw [Ra_rl2, if_neg (fun z => by omega), Ra_sAf, Ra_nA, if_neg (fun z => by omega)]
      exact (h3 c' o' q1 q2 q3 q4).2
  · have hne : a ≠ Hn g := by omega
    obtain ⟨k1, k2, k3, k4⟩ := cpG_k (g := g) (n := n) (c := c) (o := o) (f := f) a
    rw [k1, k2, k3, k4, if_neg hne, if_neg hne, if_neg hne, if_neg hne]
    have hLa : La (cpG g n f c o) a = La g a := by
      unfold cpG
      rw [La_rl2, La_sAf, La_nA, if_neg hne]
    rw [hLa]
    rcases h4 a q1 with ⟨_, _, q, _⟩ | z
    · simp at q
    · exact z
  · obtain ⟨k1, k2, k3, k4⟩ := cpG_k (g := g) (n := n) (c := c) (o := o) (f := f) b
    rw [k1] at hb
    rw [k2]
    by_cases w : b = Hn g
    · rw [if_pos w]; omega
    · rw [if_neg w] at hb ⊢; exact h7 z b hb
  · rw [hh] at hb
    rw [(cpG_k b).1, if_neg (by omega)]; exact h7' z b (by omega)
  · obtain ⟨k1, k2, k3, k4⟩ := cpG_k (g := g) (n := n) (c := c) (o := o) (f := f) b
    rw [k1] at q2
    rw [k2] at q3
    rw [k3]
    by_cases w : b = Hn g
    · rw [if_pos w] at q3; omega
    · rw [if_neg w] at q2 q3 ⊢; exact h8 b q1 q2 q3
theorem Fr.outR {h g : GH} {f a : Nat} {v : Option Nat} (k : Fr [] [] [] h g) (ho : Hn h ≤ a) : Fr [] [] [] h (sR g f a v) := by
  obtain ⟨h1, h2, h3, h4, h5, h6, h7, h8⟩ := k
  refine ⟨h1, fun f' a' q1 q2 => ?_, h3, h4, h5, h6, h7, h8⟩
  rw [Gr_sR, if_neg (fun z => by omega)]; exact h2 f' a' q1 q2
/-- a law on the way: its ints, its arrays -/
def LWS (h g : GH) (th : Nat) (V : Nat → Int32) (ls : List (Nat × Nat × (Nat → Int32))) : Prop :=
  (Fr [] [] [] h g ∧ EN g ∧ NT g ∧ th = Hn h) ∧ (Hn g = Hn h + 1 + ls.length ∧ Hu g = Hu h + 7 + (ls.map (fun x => x.2.1)).sum) ∧ Kd g th = 5 ∧ (∀ f, Gi g f th = V f) ∧ (∀ x ∈ ls, ∃ a, Gr g x.1 th = some a ∧ Kd g a = 20 ∧ Co g a = x.1 ∧ Ow g a = th ∧ Ln g a = x.2.1 ∧ a < Hn g ∧ Ia g x.1 th = x.2.2) ∧ (∀ b, 20 ≤ Kd g b → Ow g b = th → ∃ x ∈ ls, Co g b = x.1)
theorem LWS.ini {h : GH} (he : EN h) (hn : NT h) (hf : ∀ F, free h F (Hn h)) : LWS h (nO h 4 7) (Hn h) (fun f => Gi (nO h 4 7) f (Hn h)) [] := by
  have k : Fr [] [] [] h (nO h 4 7) := Fr.newX (th := Hn h) (fs := []) FrX.rf rfl he (by decide)
  refine ⟨⟨k, k.en he, k.nt hn, rfl⟩, ⟨rfl, rfl⟩, by rw [Kd_nO, if_pos rfl], fun f => rfl, fun x hx => (by cases hx), fun b q1 q2 => ?_⟩
  by_cases z : b = Hn h
  · rw [Kd_nO, if_pos z] at q1; omega
  · rw [Kd_nO, if_neg z] at q1
    exact absurd q2 (hf _ b q1 rfl)
theorem LWS.setI {h g : GH} {th f : Nat} {v : Int32} {V : Nat → Int32} {ls : List (Nat × Nat × (Nat → Int32))} (S : LWS h g th V ls) : LWS h (sI g f th v) th (fun f' => if f' = f then v else V f') ls := by
  obtain ⟨⟨a1, a2, a3, a4⟩, b, c, d, e, k⟩ := S
  refine ⟨⟨a1.out (m := th) (fs' := [f]) (cs' := []) (FrX.sI (by simp)) (by omega), a2, a3, a4⟩, b, c, fun f' => ?_, e, k⟩
  rw [Gi_sI, d f']; simp
theorem LWS.cp {h g : GH} {th c n : Nat} {f : Nat → Int32} {V : Nat → Int32} {ls : List (Nat × Nat × (Nat → Int32))} (S : LWS h g th V ls) (hc : 128 ≤ c ∧ (c < 998 ∨ 1000 < c)) (hn : ∀ x ∈ ls, x.1 ≠ c ∧ (x.1 < 998 ∨ 1000 < x.1)) : LWS h (sR (cpG g n f c th) c th (some (Hn g))) th V (ls ++ [(c, n, f)]) := by
  obtain ⟨⟨a1, a2, a3, a4⟩, ⟨b1, b2⟩, c1, d, e, k⟩ := S
  have hth : th < Hn g := by omega
  refine ⟨⟨(a1.cp (by omega) hc).outR (by omega), ?_, ?_, a4⟩, ⟨?_, ?_⟩, ?_, d, fun x hx => ?_, fun b q1 q2 => ?_⟩
  · intro b hb
    have hb' : Hn g + 1 ≤ b := hb
    show Kd (cpG g n f c th) b = 0
    rw [(cpG_k b).1, if_neg (by omega)]; exact a2 b (by omega)
  · intro b hb
    obtain ⟨k1, k2, k3, k4⟩ := cpG_k (g := g) (n := n) (c := c) (o := th) (f := f) b
    have hb' : 20 ≤ Kd (cpG g n f c th) b := hb
    show Co (cpG g n f c th) b ≠ 1000 ∧ Co (cpG g n f c th) b ≠ 999
    rw [k1] at hb'
    rw [k2]
    by_cases w : b = Hn g
    · rw [if_pos w]; omega
    · rw [if_neg w] at hb' ⊢; exact a3 b hb'
  · show Hn g + 1 = _
    rw [List.length_append]; simp only [List.length_cons, List.length_nil]; omega
  · show Hu g + n = _
    rw [List.map_append, List.sum_append]; simp only [List.map_cons, List.map_nil, List.sum_cons, List.sum_nil]; omega
  · show Kd (cpG g n f c th) th = 5
    rw [(cpG_k th).1, if_neg (by omega)]; exact c1
  · have hI : ∀ c', (c' < 998 ∨ 1000 < c') → Ia (sR (cpG g n f c th) c th (some (Hn g))) c' th = if c' = c then f else Ia g c' th := fun c' q => by
      show Ia (cpG g n f c th) c' th = _
      rw [cpG_Ia q]; simp
    rcases List.mem_append.mp hx with hx | hx
    · obtain ⟨a, e1, e2, e3, e4, e5, e6, e7⟩ := e x hx
      obtain ⟨k1, k2, k3, k4⟩ := cpG_k (g := g) (n := n) (c := c) (o := th) (f := f) a
      obtain ⟨n1, n2⟩ := hn x hx
      refine ⟨a, by rw [Gr_sR, if_neg (fun z => n1 z.1)]; exact e1, ?_, ?_, ?_, ?_, Nat.lt_succ_of_lt e6, by rw [hI _ n2, if_neg n1]; exact e7⟩
      · show Kd (cpG g n f c th) a = _
        rw [k1, if_neg (by omega)]; exact e2
      · show Co (cpG g n f c th) a = _
        rw [k2, if_neg (by omega)]; exact e3
      · show Ow (cpG g n f c th) a = _
        rw [k3, if_neg (by omega)]; exact e4
      · show Ln (cpG g n f c th) a = _
        rw [k4, if_neg (by omega)]; exact e5
    · rw [List.mem_singleton.mp hx]
      obtain ⟨k1, k2, k3, k4⟩ := cpG_k (g := g) (n := n) (c := c) (o := th) (f := f) (Hn g)
      refine ⟨Hn g, by rw [Gr_sR, if_pos ⟨rfl, rfl⟩], ?_, ?_, ?_, ?_, Nat.lt_succ_self _, by rw [hI _ hc.2, if_pos rfl]⟩
      · show Kd (cpG g n f c th) (Hn g) = _
        rw [k1, if_pos rfl]
      · show Co (cpG g n f c th) (Hn g) = _
        rw [k2, if_pos rfl]
      · show Ow (cpG g n f c th) (Hn g) = _
        rw [k3, if_pos rfl]
      · show Ln (cpG g n f c th) (Hn g) = _
        rw [k4, if_pos rfl]
  · obtain ⟨k1, k2, k3, k4⟩ := cpG_k (g := g) (n := n) (c := c) (o := th) (f := f) b
    have q1' : 20 ≤ Kd (cpG g n f c th) b := q1
    have q2' : Ow (cpG g n f c th) b = th := q2
    show ∃ x ∈ _, Co (cpG g n f c th) b = _
    rw [k1] at q1'
    rw [k3] at q2'
    rw [k2]
    by_cases w : b = Hn g
    · rw [if_pos w]; exact ⟨_, List.mem_append_right _ (List.mem_singleton.mpr rfl), rfl⟩
    · rw [if_neg w] at q1' q2' ⊢
      obtain ⟨x, hx, he⟩ := k b q1' q2'
      exact ⟨x, List.mem_append_left _ hx, he⟩
theorem LWS.step {Γ : GAM} {h g : GH} {th c n a cs os N : Nat} {v : Int32} {V : Nat → Int32} {ls : List (Nat × Nat × (Nat → Int32))} (S : LWS h g th V ls) (hc : 128 ≤ c ∧ (c < 998 ∨ 1000 < c)) (hn : ∀ x ∈ ls, x.1 ≠ c ∧ (x.1 < 998 ∨ 1000 < x.1)) (ha : Kd g a = 20 ∧ Co g a = cs ∧ Ow g a = os ∧ Ln g a = N) (hv : v = nI n) (hn1 : 1 ≤ n) (hnN : n < N) (hN : N ≤ 60000) (hr : Hn g + 1 ≤ gB Γ + NCC ∧ Hu g + n ≤ NSS) {R : GH → Prop} (hR : ∀ g', LWS h g' th V (ls ++ [(c, n, va_cpy (Ia g cs os) (fun _ => 0) 0 0 n)]) → R g') :
    Sp_Arrays_copyOf_0 Γ a v g (fun a7 g6 => Kd g6 th = 5 ∧ ∀ g8 : GH, g8 = sR g6 c th (some a7) → R g8) := by
  have S' := fun f => S.cp (n := n) (f := f) hc hn
  obtain ⟨⟨a1, a2, a3, a4⟩, ⟨b1, b2⟩, c1, d, e, k⟩ := S
  refine ⟨⟨a2.lt (by omega), ha.1⟩, n, hv, hn1, by omega, by omega, a3, hr.1, hr.2, c, th, by omega, fun b q1 q2 q3 => ?_, ?_⟩
  · obtain ⟨x, hx, he⟩ := k b q1 q3
    exact (hn x hx).1 (by rw [← he]; exact q2)
  · rintro _ rfl
    rw [ha.2.1, ha.2.2.1]
    have := S' (va_cpy (Ia g cs os) (fun _ => 0) 0 0 n)
    refine ⟨this.2.2.1, ?_⟩
    rintro _ rfl
    exact hR _ this
