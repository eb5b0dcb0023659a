/-! the reference: the judgement of a line -/
abbrev JR : Type := Int32 × Int32 × Int32 × Int32
def jBase (s : ST) (q : Int32) (e : Nat) : JR := (if sDay s (nI e) 4 q = -1 then 0 else 1, -1, -1, 0)
def jS (s : ST) (q : Int32) (a : (Nat → JR) × Int32) (e : Nat) : (Nat → JR) × Int32 := (fun i => if i = e then ((sOne s (nI e) q a.2).1, (sOne s (nI e) q a.2).2.1, (sOne s (nI e) q a.2).2.2, a.2) else a.1 i, a.2 + (if (sOne s (nI e) q a.2).1 = 2 then 1 else 0))
def sJu (s : ST) (v q : Int32) (k : Nat) : (Nat → JR) × Int32 := ((sRow s v q).take k).foldl (jS s q) (jBase s q, 0)
def sJ (s : ST) (v q : Int32) (e : Nat) : JR := (sJu s v q (sRow s v q).length).1 e
theorem jS_out {s : ST} {q : Int32} {e : Nat} : ∀ (l : List Nat) (a : (Nat → JR) × Int32), e ∉ l → (l.foldl (jS s q) a).1 e = a.1 e := by
  intro l
  induction l with
  | nil => intro a _; rfl
  | cons x t ih =>
    intro a h
    rw [List.foldl_cons, ih _ (fun z => h (List.mem_cons_of_mem _ z))]
    show (if e = x then _ else a.1 e) = _
    rw [if_neg (fun z : e = x => h (by rw [z]; exact List.mem_cons_self))]
theorem sRow_ok (s : ST) (v q : Int32) : (∀ e, e ∈ sRow s v q ↔ e < (s_env s).length ∧ inLn s v q e ∧ ¬ (sCome s (nI e) q).1 = -1) ∧ (sRow s v q).length ≤ (s_env s).length ∧ (sRow s v q).Nodup := by
  obtain ⟨h1, h2, h3⟩ := revT_ok s v q _ (Nat.le_refl _)
  unfold sRow
  refine ⟨fun e => by rw [List.mem_reverse]; exact h1 e, by rw [List.length_reverse]; exact h2, ?_⟩
  exact List.pairwise_reverse.mpr (h3.imp (fun h => Ne.symm h))
theorem nd_take {l : List Nat} {k e : Nat} (h : l.Nodup) (he : l[k]? = some e) : e ∉ l.take k := by
  intro z
  obtain ⟨i, hi, hie⟩ := List.getElem_of_mem z
  have hk := (List.getElem?_eq_some_iff.mp he)
  rw [List.length_take] at hi
  rw [List.getElem_take] at hie
  have := (List.getElem_inj h (h₀ := by omega) (h₁ := hk.1)).mp (hie.trans hk.2.symm)
  omega
/-- what stands when a line has been judged -/
def JM (m : Nat) (g : GH) (s : ST) (v q : Int32) (k : Nat) : Prop := Gi g 1602 m = nI (sRow s v q).length ∧ (∀ i e, (sRow s v q)[i]? = some e → Ia g 1601 m i = nI e) ∧ ∀ e, inLn s v q e → Ia g 1600 m e = (sCome s (nI e) q).1 ∧ Ia g 1597 m e = ((sJu s v q k).1 e).2.1 ∧ Ia g 1598 m e = ((sJu s v q k).1 e).2.2.1 ∧ Ia g 1599 m e = ((sJu s v q k).1 e).2.2.2 ∧ ((sCome s (nI e) q).1 = -1 ∨ e ∈ (sRow s v q).take k → Ia g 1596 m e = ((sJu s v q k).1 e).1)
def JD (m : Nat) (g : GH) (s : ST) (v q : Int32) : Prop := Gi g 1602 m = nI (sRow s v q).length ∧ (∀ i e, (sRow s v q)[i]? = some e → Ia g 1601 m i = nI e) ∧ ∀ e, inLn s v q e → Ia g 1600 m e = (sCome s (nI e) q).1 ∧ Ia g 1596 m e = (sJ s v q e).1 ∧ Ia g 1597 m e = (sJ s v q e).2.1 ∧ Ia g 1598 m e = (sJ s v q e).2.2.1 ∧ Ia g 1599 m e = (sJ s v q e).2.2.2
theorem JM.d {m : Nat} {g : GH} {s : ST} {v q : Int32} (h : JM m g s v q (sRow s v q).length) : JD m g s v q := by
  obtain ⟨h1, h2, h3⟩ := h
  refine ⟨h1, h2, fun e he => ?_⟩
  obtain ⟨a, b, c, d, f⟩ := h3 e he
  refine ⟨a, f ?_, b, c, d⟩
  by_cases z : (sCome s (nI e) q).1 = -1
  · exact .inl z
  · obtain ⟨x, hx, _⟩ := id he
    rw [List.take_length]
    exact .inr (((sRow_ok s v q).1 e).mpr ⟨(List.getElem?_eq_some_iff.mp hx).1, he, z⟩)
theorem JM.st {m : Nat} {g g3 g5 : GH} {s : ST} {v q : Int32} {k e : Nat} (h : JM m g s v q k) (he : (sRow s v q)[k]? = some e) (h3 : g3 = sA g 1599 m e (sJu s v q k).2) (hfx : FrX m [1569, 1570, 1595] [1594, 1596, 1597, 1598] g3 g5) (ho : ∀ c i, c ≠ 1594 → i ≠ e → Ia g5 c m i = Ia g3 c m i) (hv : (Ia g5 1596 m e, Ia g5 1597 m e, Ia g5 1598 m e) = sOne s (nI e) q (sJu s v q k).2) : JM m g5 s v q (k + 1) := by
  obtain ⟨h1, h2, h4⟩ := h
  have hs : sJu s v q (k + 1) = jS s q (sJu s v q k) e := fold_take _ _ _ he
  have ht : (sRow s v q).take (k + 1) = (sRow s v q).take k ++ [e] := by rw [List.take_succ, he]; rfl
  refine ⟨?_, fun i e' hi => ?_, fun e' hl => ?_⟩
  · rw [hfx.2.1 1602 (by decide), h3, Gi_sA]; exact h1
  · rw [hfx.2.2 1601 (by decide), h3]
    have := h2 i e' hi
    simpa [Ia_sA] using this
  · rw [hs, ht]
    unfold jS
    by_cases z : e' = e
    · subst z
      simp only [if_true]
      rw [← hv]
      have hd : Ia g5 1600 m = Ia g 1600 m := by rw [hfx.2.2 1600 (by decide), h3]; funext i; simp [Ia_sA]
      have hg : Ia g5 1599 m e' = (sJu s v q k).2 := by rw [hfx.2.2 1599 (by decide), h3]; simp [Ia_sA]
      exact ⟨by rw [hd]; exact (h4 e' hl).1, rfl, rfl, hg, fun _ => rfl⟩
    · simp only [if_neg z]
      have hg : ∀ c, c ≠ 1594 → Ia g5 c m e' = Ia g c m e' := fun c hc => by rw [ho c e' hc z, h3]; simp [Ia_sA, z]
      rw [hg _ (by decide), hg _ (by decide), hg _ (by decide), hg _ (by decide), hg _ (by decide)]
      obtain ⟨a, b, c, d, f⟩ := h4 e' hl
      refine ⟨a, b, c, d, fun w => f ?_⟩
      rcases w with w | w
      · exact .inl w
      · rcases List.mem_append.mp w with w | w
        · exact .inr w
        · exact absurd (List.mem_singleton.mp w) z
def Sp_M_judge (Γ : GAM) (m : Nat) (v q : Int32) (g : GH) (K : GH → Prop) : Prop := ∃ ma s, RefI m ma g s ∧ WF s ∧ ∀ g', FrX m [1569, 1570, 1595, 1602] [1594, 1596, 1597, 1598, 1599, 1600, 1601] g g' → JD m g' s v q → K g'
-- the walk of M_judge
set_option maxRecDepth 100000 in
def B_M_judge_68 (Γ : GAM) (K11 : Nat → Int32 → Int32 → Int32 → GH → Prop) (K : GH → Prop) (l0 : Nat) (l2 : Int32) (l4 : Int32) (s0 : Int32) (s1 : Int32) (g : GH) : Prop :=
  ∀ x1 : Int32, x1 = (s1 + s0) → K11 l0 l2 x1 (l4 + (1 : Int32)) g
set_option maxHeartbeats 4000000 in
set_option maxRecDepth 100000 in
theorem S_M_judge_68 {Γ : GAM} {E : EV} {K : GH → Prop} (hE : GE Γ E cX11_judge 5 RX11 none 7 179 (fun r g' => r = none ∧ K g')) {K11 : Nat → Int32 → Int32 → Int32 → GH → Prop} (hK11 : ∀ (l0 : Nat) (l2 : Int32) (l3 : Int32) (l4 : Int32) (g : GH), K11 l0 l2 l3 l4 g → JW Γ E 11 [some (.ref l0), none, some (.int l2), some (.int l3), some (.int l4)] [] g) (l0 : Nat) (l2 : Int32) (l4 : Int32) (s0 : Int32) (s1 : Int32) (g : GH) (h : B_M_judge_68 Γ K11 K l0 l2 l4 s0 s1 g) : JW Γ E 68 [some (.ref l0), none, some (.int l2), none, some (.int l4)] [.int s0, .int s1] g := by
  unfold B_M_judge_68 at h
  refine j_iadd hE (by decide +kernel : decode cX11_judge 68 = .ok (.iadd, 1)) ?_
  obtain ⟨x1, hx⟩ : ∃ z, z = (s1 + s0) := ⟨_, rfl⟩; replace h := h x1 hx; rw [← hx]
  refine j_istore_n hE (by decide +kernel : decode cX11_judge 69 = .ok (.istore_n 3, 1)) rfl (Nat.le_of_ble_eq_true rfl) rfl ?_
  refine j_iinc hE (by decide +kernel : decode cX11_judge 70 = .ok (.iinc 4 1, 3)) (v := (1 : Int32)) (by decide) rfl (Nat.le_of_ble_eq_true rfl) rfl ?_
  refine j_goto hE (by decide +kernel : decode cX11_judge 73 = .ok (.goto (-62), 3)) (tgt := 11) (by decide) ?_
  exact hK11 _ _ _ _ _ h
set_option maxRecDepth 100000 in
def B_M_judge_11 (Γ : GAM) (K11 : Nat → Int32 → Int32 → Int32 → GH → Prop) (K : GH → Prop) (l0 : Nat) (l2 : Int32) (l3 : Int32) (l4 : Int32) (g : GH) : Prop :=
  Kd g l0 = 13 ∧ (((Gi g 1602 l0) ≤ l4 → K g) ∧ (¬ ((Gi g 1602 l0) ≤ l4) → Kd g l0 = 13 ∧ ∃ a1 : Nat, Gr g 1599 l0 = some a1 ∧ Kd g l0 = 13 ∧ ∃ a2 : Nat, Gr g 1601 l0 = some a2 ∧ Kd g a2 = 20 ∧ inB l4 (Ln g a2) ∧ Kd g a1 = 20 ∧ inB (Ia g (Co g a2) (Ow g a2) l4.toNatClampNeg) (Ln g a1) ∧ ∀ g3 : GH, g3 = sA g (Co g a1) (Ow g a1) (Ia g (Co g a2) (Ow g a2) l4.toNatClampNeg).toNatClampNeg l3 → Kd g3 l0 = 13 ∧ ∃ a4 : Nat, Gr g3 1601 l0 = some a4 ∧ Kd g3 a4 = 20 ∧ inB l4 (Ln g3 a4) ∧ Kd g3 l0 = 13 ∧ Sp_M_judgeOne Γ l0 (Ia g3 (Co g3 a4) (Ow g3 a4) l4.toNatClampNeg) l2 l3 g3 (fun (g5 : GH) => Kd g5 l0 = 13 ∧ ∃ a6 : Nat, Gr g5 1596 l0 = some a6 ∧ Kd g5 l0 = 13 ∧ ∃ a7 : Nat, Gr g5 1601 l0 = some a7 ∧ Kd g5 a7 = 20 ∧ inB l4 (Ln g5 a7) ∧ Kd g5 a6 = 20 ∧ inB (Ia g5 (Co g5 a7) (Ow g5 a7) l4.toNatClampNeg) (Ln g5 a6) ∧ ((¬ ((Ia g5 (Co g5 a6) (Ow g5 a6) (Ia g5 (Co g5 a7) (Ow g5 a7) l4.toNatClampNeg).toNatClampNeg) = (2 : Int32)) → B_M_judge_68 Γ K11 K l0 l2 l4 (0 : Int32) l3 g5) ∧ ((Ia g5 (Co g5 a6) (Ow g5 a6) (Ia g5 (Co g5 a7) (Ow g5 a7) l4.toNatClampNeg).toNatClampNeg) = (2 : Int32) → B_M_judge_68 Γ K11 K l0 l2 l4 (1 : Int32) l3 g5)))))
set_option maxHeartbeats 4000000 in
set_option maxRecDepth 100000 in
theorem S_M_judge_11 {Γ : GAM} {E : EV} {K : GH → Prop} (hE : GE Γ E cX11_judge 5 RX11 none 7 179 (fun r g' => r = none ∧ K g')) {K11 : Nat → Int32 → Int32 → Int32 → GH → Prop} (hK11 : ∀ (l0 : Nat) (l2 : Int32) (l3 : Int32) (l4 : Int32) (g : GH), K11 l0 l2 l3 l4 g → JW Γ E 11 [some (.ref l0), none, some (.int l2), some (.int l3), some (.int l4)] [] g) (l0 : Nat) (l2 : Int32) (l3 : Int32) (l4 : Int32) (g : GH) (h : B_M_judge_11 Γ K11 K l0 l2 l3 l4 g) : JW Γ E 11 [some (.ref l0), none, some (.int l2), some (.int l3), some (.int l4)] [] g := by
  unfold B_M_judge_11 at h
  refine j_iload hE (by decide +kernel : decode cX11_judge 11 = .ok (.iload 4, 2)) rfl ?_
  refine j_aload_n hE (by decide +kernel : decode cX11_judge 13 = .ok (.aload_n 0, 1)) rfl rfl ?_
  obtain ⟨hk, h⟩ := h
  refine j_getI hE fg_X11_412 hk (by decide +kernel : decode cX11_judge 14 = .ok (.getfield 412, 3)) ?_
  refine j_icmp_ge hE (by decide +kernel : decode cX11_judge 17 = .ok (.if_icmp .ge 59, 3)) (tgt := 76) (by decide) (fun q => ?_) (fun q => ?_)
  · replace h := h.1 q
    exact j_vret hE (by decide +kernel : decode cX11_judge 76 = .ok (.return_, 1)) ⟨rfl, h⟩
  · replace h := h.2 q
    refine j_aload_n hE (by decide +kernel : decode cX11_judge 20 = .ok (.aload_n 0, 1)) rfl rfl ?_
    obtain ⟨hk, h⟩ := h
    obtain ⟨a1, ha, h⟩ := h
    refine j_getRn hE fg_X11_138 hk ha (by decide +kernel : decode cX11_judge 21 = .ok (.getfield 138, 3)) ?_
    refine j_aload_n hE (by decide +kernel : decode cX11_judge 24 = .ok (.aload_n 0, 1)) rfl rfl ?_
    obtain ⟨hk, h⟩ := h
    obtain ⟨a2, ha, h⟩ := h
    refine j_getRn hE fg_X11_144 hk ha (by decide +kernel : decode cX11_judge 25 = .ok (.getfield 144, 3)) ?_
    refine j_iload hE (by decide +kernel : decode cX11_judge 28 = .ok (.iload 4, 2)) rfl ?_
    obtain ⟨hk, hb, h⟩ := h
    refine j_iald hE hk hb (by decide +kernel : decode cX11_judge 30 = .ok (.iaload, 1)) ?_
    refine j_iload_n hE (by decide +kernel : decode cX11_judge 31 = .ok (.iload_n 3, 1)) rfl rfl ?_
    obtain ⟨hk, hb, h⟩ := h
    obtain ⟨g3, hg⟩ : ∃ z, z = sA g (Co g a1) (Ow g a1) (Ia g (Co g a2) (Ow g a2) l4.toNatClampNeg).toNatClampNeg l3 := ⟨_, rfl⟩; replace h := h g3 hg
    refine j_iast hE hk hb (by decide +kernel : decode cX11_judge 32 = .ok (.iastore, 1)) ?_
    rw [← hg]
    refine j_aload_n hE (by decide +kernel : decode cX11_judge 33 = .ok (.aload_n 0, 1)) rfl rfl ?_
    refine j_aload_n hE (by decide +kernel : decode cX11_judge 34 = .ok (.aload_n 0, 1)) rfl rfl ?_
    obtain ⟨hk, h⟩ := h
    obtain ⟨a4, ha, h⟩ := h
    refine j_getRn hE fg_X11_144 hk ha (by decide +kernel : decode cX11_judge 35 = .ok (.getfield 144, 3)) ?_
    refine j_iload hE (by decide +kernel : decode cX11_judge 38 = .ok (.iload 4, 2)) rfl ?_
    obtain ⟨hk, hb, h⟩ := h
    refine j_iald hE hk hb (by decide +kernel : decode cX11_judge 40 = .ok (.iaload, 1)) ?_
    refine j_iload_n hE (by decide +kernel : decode cX11_judge 41 = .ok (.iload_n 2, 1)) rfl rfl ?_
    refine j_iload_n hE (by decide +kernel : decode cX11_judge 42 = .ok (.iload_n 3, 1)) rfl rfl ?_
    obtain ⟨hk, h⟩ := h
    refine j_callV hE rfl cl_X11_421 cf_12 im_X11_judgeOne se_X11_judgeOne ⟨by omega, by omega⟩ (As := [.int (Ia g3 (Co g3 a4) (Ow g3 a4) l4.toNatClampNeg), .int l2, .int l3]) (rest := []) rfl rfl (Nat.le_of_ble_eq_true rfl) hk (by decide +kernel : decode cX11_judge 43 = .ok (.invokevirtual 421, 3)) (mt_M_judgeOne _ _ _ _ _ _ h) ?_
    rintro _ g5 ⟨rfl, h⟩
    refine j_iload_n hE (by decide +kernel : decode cX11_judge 46 = .ok (.iload_n 3, 1)) rfl rfl ?_
    refine j_aload_n hE (by decide +kernel : decode cX11_judge 47 = .ok (.aload_n 0, 1)) rfl rfl ?_
    obtain ⟨hk, h⟩ := h
    obtain ⟨a6, ha, h⟩ := h
    refine j_getRn hE fg_X11_129 hk ha (by decide +kernel : decode cX11_judge 48 = .ok (.getfield 129, 3)) ?_
    refine j_aload_n hE (by decide +kernel : decode cX11_judge 51 = .ok (.aload_n 0, 1)) rfl rfl ?_
    obtain ⟨hk, h⟩ := h
    obtain ⟨a7, ha, h⟩ := h
    refine j_getRn hE fg_X11_144 hk ha (by decide +kernel : decode cX11_judge 52 = .ok (.getfield 144, 3)) ?_
    refine j_iload hE (by decide +kernel : decode cX11_judge 55 = .ok (.iload 4, 2)) rfl ?_
    obtain ⟨hk, hb, h⟩ := h
    refine j_iald hE hk hb (by decide +kernel : decode cX11_judge 57 = .ok (.iaload, 1)) ?_
    obtain ⟨hk, hb, h⟩ := h
    refine j_iald hE hk hb (by decide +kernel : decode cX11_judge 58 = .ok (.iaload, 1)) ?_
    refine j_iconst hE (by decide +kernel : decode cX11_judge 59 = .ok (.iconst 2, 1)) (v := (2 : Int32)) (by decide) ?_
    refine j_icmp_ne hE (by decide +kernel : decode cX11_judge 60 = .ok (.if_icmp .ne 7, 3)) (tgt := 67) (by decide) (fun q => ?_) (fun q => ?_)
    · replace h := h.1 q
      refine j_iconst hE (by decide +kernel : decode cX11_judge 67 = .ok (.iconst 0, 1)) (v := (0 : Int32)) (by decide) ?_
      refine j_weak [some (.ref l0), none, some (.int l2), none, some (.int l4)] ⟨rfl, ⟨rfl, ⟨rfl, trivial⟩⟩⟩ ?_
      exact S_M_judge_68 hE hK11 _ _ _ _ _ _ h
    · replace h := h.2 q
      refine j_iconst hE (by decide +kernel : decode cX11_judge 63 = .ok (.iconst 1, 1)) (v := (1 : Int32)) (by decide) ?_
      refine j_goto hE (by decide +kernel : decode cX11_judge 64 = .ok (.goto 4, 3)) (tgt := 68) (by decide) ?_
      refine j_weak [some (.ref l0), none, some (.int l2), none, some (.int l4)] ⟨rfl, ⟨rfl, ⟨rfl, trivial⟩⟩⟩ ?_
      exact S_M_judge_68 hE hK11 _ _ _ _ _ _ h
set_option maxRecDepth 100000 in
def B_M_judge_0 (Γ : GAM) (K11 : Nat → Int32 → Int32 → Int32 → GH → Prop) (K : GH → Prop) (th : Nat) (p0 : Int32) (p1 : Int32) (g : GH) : Prop :=
  Kd g th = 13 ∧ Sp_M_line Γ th p0 p1 g (fun (g1 : GH) => K11 th p1 (0 : Int32) (0 : Int32) g1)
set_option maxHeartbeats 4000000 in
set_option maxRecDepth 100000 in
theorem S_M_judge_0 {Γ : GAM} {E : EV} {K : GH → Prop} (hE : GE Γ E cX11_judge 5 RX11 none 7 179 (fun r g' => r = none ∧ K g')) {K11 : Nat → Int32 → Int32 → Int32 → GH → Prop} (hK11 : ∀ (l0 : Nat) (l2 : Int32) (l3 : Int32) (l4 : Int32) (g : GH), K11 l0 l2 l3 l4 g → JW Γ E 11 [some (.ref l0), none, some (.int l2), some (.int l3), some (.int l4)] [] g) (th : Nat) (p0 : Int32) (p1 : Int32) (g : GH) (h : B_M_judge_0 Γ K11 K th p0 p1 g) : JW Γ E 0 [some (.ref th), some (.int p0), some (.int p1), none, none] [] g := by
  unfold B_M_judge_0 at h
  refine j_aload_n hE (by decide +kernel : decode cX11_judge 0 = .ok (.aload_n 0, 1)) rfl rfl ?_
  refine j_iload_n hE (by decide +kernel : decode cX11_judge 1 = .ok (.iload_n 1, 1)) rfl rfl ?_
  refine j_iload_n hE (by decide +kernel : decode cX11_judge 2 = .ok (.iload_n 2, 1)) rfl rfl ?_
  obtain ⟨hk, h⟩ := h
  refine j_callV hE rfl cl_X11_418 cf_12 im_X11_line se_X11_line ⟨by omega, by omega⟩ (As := [.int p0, .int p1]) (rest := []) rfl rfl (Nat.le_of_ble_eq_true rfl) hk (by decide +kernel : decode cX11_judge 3 = .ok (.invokevirtual 418, 3)) (mt_M_line _ _ _ _ _ h) ?_
  rintro _ g1 ⟨rfl, h⟩
  refine j_iconst hE (by decide +kernel : decode cX11_judge 6 = .ok (.iconst 0, 1)) (v := (0 : Int32)) (by decide) ?_
  refine j_istore_n hE (by decide +kernel : decode cX11_judge 7 = .ok (.istore_n 3, 1)) rfl (Nat.le_of_ble_eq_true rfl) rfl ?_
  refine j_iconst hE (by decide +kernel : decode cX11_judge 8 = .ok (.iconst 0, 1)) (v := (0 : Int32)) (by decide) ?_
  refine j_istore hE (by decide +kernel : decode cX11_judge 9 = .ok (.istore 4, 2)) (Nat.le_of_ble_eq_true rfl) rfl ?_
  refine j_weak [some (.ref th), none, some (.int p1), some (.int (0 : Int32)), some (.int (0 : Int32))] ⟨rfl, ⟨rfl, ⟨rfl, ⟨rfl, trivial⟩⟩⟩⟩ ?_
  exact hK11 _ _ _ _ _ h
set_option maxHeartbeats 4000000 in
set_option maxRecDepth 100000 in
theorem rl_M_judge {Γ : GAM} {l : Launch} {th : Nat} {p0 : Int32} {p1 : Int32} {g : GH} {K : GH → Prop} (I11 : Nat → Nat → Int32 → Int32 → Int32 → GH → Prop) (hh11 : ∀ n (l0 : Nat) (l2 : Int32) (l3 : Int32) (l4 : Int32) (g : GH), I11 n l0 l2 l3 l4 g → B_M_judge_11 Γ (fun l0 l2 l3 l4 g => ∃ m, m < n ∧ I11 m l0 l2 l3 l4 g) K l0 l2 l3 l4 g) (h0 : B_M_judge_0 Γ (fun l0 l2 l3 l4 g => ∃ m, I11 m l0 l2 l3 l4 g) K th p0 p1 g) : MetA Γ l yX11_judge cX11_judge 5 none 7 179 [.ref th, .int p0, .int p1] g (fun r g' => r = none ∧ K g') := by
  refine MetA.introL (Lx := [some (.ref th), some (.int p0), some (.int p1), none, none]) (by decide) (Nat.le_of_ble_eq_true rfl) rfl rfl ?_
  intro E hEl hE hnm
  have hall : ∀ n, (∀ (l0 : Nat) (l2 : Int32) (l3 : Int32) (l4 : Int32) (g : GH), I11 n l0 l2 l3 l4 g → JW Γ E 11 [some (.ref l0), none, some (.int l2), some (.int l3), some (.int l4)] [] g) := by
    intro n
    induction n using Nat.strongRecOn with
    | ind n ih =>
      exact fun l0 l2 l3 l4 g hi => S_M_judge_11 hE (fun l0 l2 l3 l4 g hm => by obtain ⟨m, hm, h⟩ := hm; exact (ih m hm) l0 l2 l3 l4 g h) l0 l2 l3 l4 g (hh11 n l0 l2 l3 l4 g hi)
  exact S_M_judge_0 hE (fun l0 l2 l3 l4 g hm => by obtain ⟨m, h⟩ := hm; exact (hall m) l0 l2 l3 l4 g h) th p0 p1 g h0
theorem mt_M_judge {Γ : GAM} {l : Launch} (th : Nat) (p0 : Int32) (p1 : Int32) (g : GH) (K : GH → Prop) (h : Sp_M_judge Γ th p0 p1 g K) : MetA Γ l yX11_judge cX11_judge 5 none 7 179 [.ref th, .int p0, .int p1] g (fun r g' => r = none ∧ K g') := by
  obtain ⟨ma, s, hI, hw, hK⟩ := h
  have hN := hw.len.2.2.1
  obtain ⟨hm, hln, hnd⟩ := sRow_ok s p0 p1
  refine rl_M_judge (fun n l0 l2 l3 l4 g' => th = l0 ∧ p1 = l2 ∧ ∃ k, k ≤ (sRow s p0 p1).length ∧ n = (sRow s p0 p1).length - k ∧ l4 = nI k ∧ l3 = (sJu s p0 p1 k).2 ∧ FrX th [1569, 1570, 1595, 1602] [1594, 1596, 1597, 1598, 1599, 1600, 1601] g g' ∧ JM th g' s p0 p1 k) ?_ ?_
  · rintro n l0 l2 l3 l4 g' ⟨rfl, rfl, k, hk, rfl, rfl, rfl, hfx, hJ⟩
    have hI' := hI.x hfx (by decide +kernel)
    obtain ⟨hkd, hS⟩ := hI'.1
    obtain ⟨z_row1, z_row2, z_row3, z_row4, z_row5⟩ := hS 1601 20 200 rfl
    obtain ⟨z_goodAhead1, z_goodAhead2, z_goodAhead3, z_goodAhead4, z_goodAhead5⟩ := hS 1599 20 200 rfl
    obtain ⟨h1, h2, h3⟩ := hJ
    suffices H : ∀ K11 : Nat → Int32 → Int32 → Int32 → GH → Prop, (∀ a g2, k < (sRow s p0 p1).length → a = (sJu s p0 p1 (k + 1)).2 → FrX th [1569, 1570, 1595, 1602] [1594, 1596, 1597, 1598, 1599, 1600, 1601] g g2 → JM th g2 s p0 p1 (k + 1) → K11 th p1 a (nI (k + 1)) g2) → B_M_judge_11 Γ K11 K th p1 (sJu s p0 p1 k).2 (nI k) g' from
      H _ (fun a g2 hlt h1 h2 h3 => ⟨(sRow s p0 p1).length - (k + 1), by omega, rfl, rfl, k + 1, by omega, rfl, rfl, h1, h2, h3⟩)
    intro K11 hnext
    unfold B_M_judge_11
    simp only [hkd, h1, z_row1, z_row2, z_row3, z_row4, z_row5, z_goodAhead1, z_goodAhead2, z_goodAhead3, z_goodAhead4, z_goodAhead5, Option.some.injEq, exists_eq_left', true_and, nj_cl (show k < 2147483648 by omega), nj_le (show (sRow s p0 p1).length < 2147483648 by omega) (show k < 2147483648 by omega)]
    refine ⟨fun q => ?_, fun q => ?_⟩
    · have : k = (sRow s p0 p1).length := by omega
      subst this
      exact hK g' hfx (JM.d ⟨h1, h2, h3⟩)
    · have hlt : k < (sRow s p0 p1).length := by omega
      obtain ⟨e, he⟩ := get_lt hlt
      obtain ⟨he1, he2, he3⟩ := (hm e).mp (List.mem_of_getElem? he)
      have hb := inB_nI (show k < 200 by omega) (by omega)
      have hbe := inB_nI (show e < 200 by omega) (by omega)
      have hec : (nI e).toNatClampNeg = e := nj_cl (by omega)
      have hre := h2 k e he
      have hout := jS_out (s := s) (q := p1) _ (jBase s p1, 0) (nd_take hnd he)
      obtain ⟨d1, d2, d3, d4, d5⟩ := h3 e he2
      obtain ⟨g3, hg3⟩ : ∃ g3, g3 = sA g' 1599 th e (sJu s p0 p1 k).2 := ⟨_, rfl⟩
      have hfg : FrX th [1569, 1570, 1595, 1602] [1594, 1596, 1597, 1598, 1599, 1600, 1601] g' g3 := by rw [hg3]; exact FrX.sA (by decide)
      have hro3 : Ia g3 1601 th k = nI e := by rw [hg3]; simpa [Ia_sA] using hre
      have hI3 := hI'.x hfg (by decide +kernel)
      obtain ⟨hkd3, hS3⟩ := hI3.1
      simp only [hre, hb, hbe, hec, forall_eq, true_and, ← hg3]
      obtain ⟨z_row1, z_row2, z_row3, z_row4, z_row5⟩ := hS3 1601 20 200 rfl
      simp only [hkd3, hb, hro3, z_row1, z_row2, z_row3, z_row4, z_row5, Option.some.injEq, exists_eq_left', true_and, nj_cl (show k < 2147483648 by omega)]
      refine ⟨ma, s, hI3, hw, ⟨nj_nneg (by omega), by rw [hec]; exact he1⟩, ?_, ?_, ?_, fun g5 hx5 ho hv => ?_⟩
      · rw [hec, hg3]; simpa [Ia_sA] using d1
      · rw [hec, hg3]; simpa [Ia_sA] using d2.trans (by unfold sJu; rw [hout]; rfl)
      · rw [hec, hg3]; simpa [Ia_sA] using d3.trans (by unfold sJu; rw [hout]; rfl)
      · rw [hec] at ho hv
        have hJ5 := JM.st ⟨h1, h2, h3⟩ he hg3 hx5 ho hv
        have hf5 := (hfx.tr hfg).tr (hx5.up (fs' := [1569, 1570, 1595, 1602]) (cs' := [1594, 1596, 1597, 1598, 1599, 1600, 1601]) (by decide) (by decide))
        have hI5 := hI.x hf5 (by decide +kernel)
        obtain ⟨hkd5, hS5⟩ := hI5.1
        obtain ⟨z_row1, z_row2, z_row3, z_row4, z_row5⟩ := hS5 1601 20 200 rfl
        obtain ⟨z_states1, z_states2, z_states3, z_states4, z_states5⟩ := hS5 1596 20 200 rfl
        have hro5 := hJ5.2.1 k e he
        have hst : Ia g5 1596 th e = (sOne s (nI e) p1 (sJu s p0 p1 k).2).1 := by rw [← hv]
        have hs2 : (sJu s p0 p1 (k + 1)).2 = (sJu s p0 p1 k).2 + (if (sOne s (nI e) p1 (sJu s p0 p1 k).2).1 = 2 then 1 else 0) := by
          have : sJu s p0 p1 (k + 1) = jS s p1 (sJu s p0 p1 k) e := fold_take _ _ _ he
          rw [this]; rfl
        simp only [B_M_judge_68, hkd5, hb, hro5, hbe, hec, hst, nj_s, z_row1, z_row2, z_row3, z_row4, z_row5, z_states1, z_states2, z_states3, z_states4, z_states5, forall_eq, Option.some.injEq, exists_eq_left', true_and, nj_cl (show k < 2147483648 by omega)]
        exact ⟨fun z => hnext _ g5 hlt (by rw [hs2, if_neg z]) hf5 hJ5, fun z => hnext _ g5 hlt (by rw [hs2, if_pos z]) hf5 hJ5⟩
  · unfold B_M_judge_0
    refine ⟨hI.1.1, ma, s, hI, hw, fun g' hx hJ hrm hP => ?_⟩
    refine ⟨_, rfl, rfl, 0, Nat.zero_le _, rfl, nj_0, by simp [sJu], hx.up (by decide) (by decide), ?_, fun i e hi => ?_, fun e he => ?_⟩
    · rw [hrm]; unfold sRow; rw [List.length_reverse]
    · refine Pil_get hP ?_
      rw [← List.map_reverse, List.getElem?_map]
      have hi' : (sRevT s p0 p1 (s_env s).length).reverse[i]? = some e := hi
      rw [hi']; rfl
    · obtain ⟨x, hx', _⟩ := id he
      obtain ⟨a, b, c, d, f⟩ := hJ e (List.getElem?_eq_some_iff.mp hx').1 he
      refine ⟨a, by rw [c]; simp [sJu, jBase], by rw [d]; simp [sJu, jBase], by rw [b]; simp [sJu, jBase], fun z => ?_⟩
      rcases z with z | z
      · rw [f z]; simp [sJu, jBase]
      · simp at z
