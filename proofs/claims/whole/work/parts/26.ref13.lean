/-! the reference: the line of a voter's envelopes -/
def rIns (d : Nat → Int32) (e : Nat) (l : List Nat) : List Nat := match l with
  | [] => [e]
  | x :: t => if d x ≤ d e then e :: x :: t else x :: rIns d e t
theorem rIns_mem {d : Nat → Int32} {e a : Nat} : ∀ {l : List Nat}, a ∈ rIns d e l ↔ a = e ∨ a ∈ l := by
  intro l
  induction l with
  | nil => simp [rIns]
  | cons x t ih =>
    unfold rIns
    split
    · simp
    · simp only [List.mem_cons, ih]
      grind
theorem rIns_len {d : Nat → Int32} {e : Nat} : ∀ {l : List Nat}, (rIns d e l).length = l.length + 1 := by
  intro l
  induction l with
  | nil => rfl
  | cons x t ih =>
    unfold rIns
    split
    · rfl
    · simp only [List.length_cons, ih]
theorem rIns_nd {d : Nat → Int32} {e : Nat} : ∀ {l : List Nat}, e ∉ l → l.Nodup → (rIns d e l).Nodup := by
  intro l
  induction l with
  | nil => intro _ _; simp [rIns]
  | cons x t ih =>
    intro h k
    unfold rIns
    split
    · exact List.nodup_cons.mpr ⟨h, k⟩
    · rw [List.nodup_cons] at k ⊢
      refine ⟨fun q => ?_, ih (fun q => h (List.mem_cons_of_mem _ q)) k.2⟩
      rcases rIns_mem.mp q with q | q
      · exact h (q ▸ List.mem_cons_self)
      · exact k.1 q
abbrev inLn (s : ST) (v q : Int32) (e : Nat) : Prop := ∃ x, (s_env s)[e]? = some x ∧ x.1 = v ∧ x.2.2.1 ≤ q
def rowS (s : ST) (v q : Int32) (stk : List Nat) (p : Em × Nat) : List Nat := if p.1.1 = v ∧ p.1.2.2.1 ≤ q ∧ ¬ (sCome s (nI p.2) q).1 = -1 then rIns (fun i => (sCome s (nI i) q).1) p.2 stk else stk
def sRevT (s : ST) (v q : Int32) (k : Nat) : List Nat := ((s_env s).zipIdx.take k).foldl (rowS s v q) []
def sRow (s : ST) (v q : Int32) : List Nat := (sRevT s v q (s_env s).length).reverse
theorem revT_s {s : ST} {v q : Int32} {k : Nat} {x : Em} (hx : (s_env s)[k]? = some x) : sRevT s v q (k + 1) = rowS s v q (sRevT s v q k) (x, k) := fold_take _ _ _ (zip_get hx)
theorem revT_ok (s : ST) (v q : Int32) : ∀ k, k ≤ (s_env s).length → (∀ e, e ∈ sRevT s v q k ↔ e < k ∧ inLn s v q e ∧ ¬ (sCome s (nI e) q).1 = -1) ∧ (sRevT s v q k).length ≤ k ∧ (sRevT s v q k).Nodup := by
  intro k
  induction k with
  | zero => intro _; exact ⟨fun e => by simp [sRevT], Nat.le_refl _, by simp [sRevT]⟩
  | succ k ih =>
    intro hk
    obtain ⟨h1, h2, h3⟩ := ih (by omega)
    obtain ⟨x, hx⟩ := get_lt (show k < (s_env s).length by omega)
    rw [revT_s hx]
    unfold rowS
    have hnk : k ∉ sRevT s v q k := fun z => Nat.lt_irrefl _ ((h1 k).mp z).1
    split
    · rename_i hc
      refine ⟨fun e => ?_, by rw [rIns_len]; omega, rIns_nd hnk h3⟩
      rw [rIns_mem, h1]
      constructor
      · rintro (rfl | ⟨z1, z2⟩)
        · exact ⟨Nat.lt_succ_self _, ⟨x, hx, hc.1, hc.2.1⟩, hc.2.2⟩
        · exact ⟨by omega, z2⟩
      · rintro ⟨z1, z2⟩
        by_cases z : e = k
        · exact .inl z
        · exact .inr ⟨by omega, z2⟩
    · rename_i hc
      refine ⟨fun e => ?_, by omega, h3⟩
      rw [h1]
      constructor
      · rintro ⟨z1, z2⟩; exact ⟨by omega, z2⟩
      · rintro ⟨z1, ⟨y, hy, hy1, hy2⟩, z3⟩
        refine ⟨?_, ⟨y, hy, hy1, hy2⟩, z3⟩
        rcases Nat.lt_succ_iff_lt_or_eq.mp z1 with z | rfl
        · exact z
        · rw [hx] at hy; cases hy; exact absurd ⟨hy1, hy2, z3⟩ hc
theorem Pil_ins {a a' : Nat → Int32} {v x : Int32} {t : List Int32} (h1 : a' t.length = x) (h2 : ∀ i, i ≠ t.length → a' i = a i) : ∀ {pre : List Int32}, Pil a (pre ++ v :: t) → Pil a' (pre ++ x :: t) := by
  intro pre
  induction pre with
  | nil => intro h; exact ⟨h1, Pil_set (fun i hi => h2 i (by omega)) h.2⟩
  | cons y pre ih =>
    intro h
    refine ⟨?_, ih h.2⟩
    have this : a (pre ++ v :: t).length = y := h.1
    show a' (pre ++ x :: t).length = y
    rw [List.length_append, List.length_cons] at this ⊢
    rw [h2 _ (by omega)]; exact this
theorem Pil_get {a : Nat → Int32} : ∀ {l : List Int32} {i : Nat} {v : Int32}, Pil a l → l.reverse[i]? = some v → a i = v := by
  intro l
  induction l with
  | nil => intro i v _ h; simp at h
  | cons x t ih =>
    intro i v h hv
    rw [List.reverse_cons, List.getElem?_append] at hv
    split at hv
    · exact ih h.2 hv
    · rename_i hi
      rw [List.length_reverse] at hv hi
      have h0 : i - t.length = 0 := by
        rcases Nat.eq_zero_or_pos (i - t.length) with z | z
        · exact z
        · rw [List.getElem?_eq_none (by simp; omega)] at hv; cases hv
      rw [h0] at hv
      have : i = t.length := by omega
      rw [this]
      simp at hv
      rw [← hv]; exact h.1
/-- the marks on the envelopes of a line, before they are judged -/
def JF (m : Nat) (g : GH) (s : ST) (v q : Int32) (k : Nat) : Prop := ∀ e, e < k → inLn s v q e → Ia g 1600 m e = (sCome s (nI e) q).1 ∧ Ia g 1599 m e = 0 ∧ Ia g 1597 m e = -1 ∧ Ia g 1598 m e = -1 ∧ ((sCome s (nI e) q).1 = -1 → Ia g 1596 m e = if sDay s (nI e) 4 q = -1 then 0 else 1)
theorem JF.cg {m : Nat} {g g' : GH} {s : ST} {v q : Int32} {k : Nat} (h : JF m g s v q k) (hc : ∀ c ∈ [1600, 1599, 1597, 1598, 1596], Ia g' c m = Ia g c m) : JF m g' s v q k := by
  intro e he hl
  rw [hc 1600 (by decide), hc 1599 (by decide), hc 1597 (by decide), hc 1598 (by decide), hc 1596 (by decide)]
  exact h e he hl
theorem JF.st {m : Nat} {g g' : GH} {s : ST} {v q : Int32} {k : Nat} (h : JF m g s v q k) (hs : ∀ c ∈ [1600, 1599, 1597, 1598, 1596], ∀ i, i ≠ k → Ia g' c m i = Ia g c m i) (hk : inLn s v q k → Ia g' 1600 m k = (sCome s (nI k) q).1 ∧ Ia g' 1599 m k = 0 ∧ Ia g' 1597 m k = -1 ∧ Ia g' 1598 m k = -1 ∧ ((sCome s (nI k) q).1 = -1 → Ia g' 1596 m k = if sDay s (nI k) 4 q = -1 then 0 else 1)) : JF m g' s v q (k + 1) := by
  intro e he hl
  by_cases z : e = k
  · rw [z] at hl ⊢; exact hk hl
  · rw [hs 1600 (by decide) e z, hs 1599 (by decide) e z, hs 1597 (by decide) e z, hs 1598 (by decide) e z, hs 1596 (by decide) e z]
    exact h e (by omega) hl
theorem markL {th k : Nat} {g2 gW : GH} {c : Int32} (h : gW = sA (sA (sA (sA g2 1600 th k c) 1599 th k 0) 1597 th k (-1)) 1598 th k (-1)) : FrX th [1569, 1570, 1602] [1600, 1599, 1597, 1598, 1596, 1601] g2 gW ∧ Gi gW = Gi g2 ∧ Ia gW 1601 th = Ia g2 1601 th ∧ (∀ c ∈ [1600, 1599, 1597, 1598, 1596], ∀ i, i ≠ k → Ia gW c th i = Ia g2 c th i) ∧ Ia gW 1600 th k = c ∧ Ia gW 1599 th k = 0 ∧ Ia gW 1597 th k = -1 ∧ Ia gW 1598 th k = -1 := by
  subst h
  refine ⟨(((FrX.sA (by decide)).tr (FrX.sA (by decide))).tr (FrX.sA (by decide))).tr (FrX.sA (by decide)), rfl, ?_, fun c _ i hi => ?_, ?_, ?_, ?_, ?_⟩
  · funext i; simp [Ia_sA]
  · simp [Ia_sA, hi]
  · simp [Ia_sA]
  · simp [Ia_sA]
  · simp [Ia_sA]
  · simp [Ia_sA]
def Sp_M_line (Γ : GAM) (m : Nat) (v q : Int32) (g : GH) (K : GH → Prop) : Prop := ∃ ma s, RefI m ma g s ∧ WF s ∧ ∀ g', FrX m [1569, 1570, 1602] [1600, 1599, 1597, 1598, 1596, 1601] g g' → JF m g' s v q (s_env s).length → Gi g' 1602 m = nI (sRevT s v q (s_env s).length).length → Pil (Ia g' 1601 m) ((sRevT s v q (s_env s).length).map nI) → K g'
-- the walk of M_line
set_option maxRecDepth 100000 in
def B_M_line_179 (Γ : GAM) (K7 : Nat → Int32 → Int32 → Int32 → GH → Prop) (K111 : Nat → Int32 → Int32 → Int32 → Int32 → GH → Prop) (K : GH → Prop) (l0 : Nat) (l1 : Int32) (l2 : Int32) (l3 : Int32) (g : GH) : Prop :=
  K7 l0 l1 l2 (l3 + (1 : Int32)) g
set_option maxHeartbeats 4000000 in
set_option maxRecDepth 100000 in
theorem S_M_line_179 {Γ : GAM} {E : EV} {K : GH → Prop} (hE : GE Γ E cX11_line 5 RX11 none 4 99 (fun r g' => r = none ∧ K g')) {K7 : Nat → Int32 → Int32 → Int32 → GH → Prop} {K111 : Nat → Int32 → Int32 → Int32 → Int32 → GH → Prop} (hK7 : ∀ (l0 : Nat) (l1 : Int32) (l2 : Int32) (l3 : Int32) (g : GH), K7 l0 l1 l2 l3 g → JW Γ E 7 [some (.ref l0), some (.int l1), some (.int l2), some (.int l3), none] [] g) (hK111 : ∀ (l0 : Nat) (l1 : Int32) (l2 : Int32) (l3 : Int32) (l4 : Int32) (g : GH), K111 l0 l1 l2 l3 l4 g → JW Γ E 111 [some (.ref l0), some (.int l1), some (.int l2), some (.int l3), some (.int l4)] [] g) (l0 : Nat) (l1 : Int32) (l2 : Int32) (l3 : Int32) (g : GH) (h : B_M_line_179 Γ K7 K111 K l0 l1 l2 l3 g) : JW Γ E 179 [some (.ref l0), some (.int l1), some (.int l2), some (.int l3), none] [] g := by
  unfold B_M_line_179 at h
  refine j_iinc hE (by decide +kernel : decode cX11_line 179 = .ok (.iinc 3 1, 3)) (v := (1 : Int32)) (by decide) rfl (Nat.le_of_ble_eq_true rfl) rfl ?_
  refine j_goto hE (by decide +kernel : decode cX11_line 182 = .ok (.goto (-175), 3)) (tgt := 7) (by decide) ?_
  exact hK7 _ _ _ _ _ h
set_option maxRecDepth 100000 in
def B_M_line_161 (Γ : GAM) (K7 : Nat → Int32 → Int32 → Int32 → GH → Prop) (K111 : Nat → Int32 → Int32 → Int32 → Int32 → GH → Prop) (K : GH → Prop) (l0 : Nat) (l1 : Int32) (l2 : Int32) (l3 : Int32) (l4 : Int32) (g : GH) : Prop :=
  Kd g l0 = 13 ∧ ∃ a1 : Nat, Gr g 1601 l0 = some a1 ∧ Kd g a1 = 20 ∧ inB l4 (Ln g a1) ∧ ∀ g2 : GH, g2 = sA g (Co g a1) (Ow g a1) l4.toNatClampNeg l3 → Kd g2 l0 = 13 ∧ Kd g2 l0 = 13 ∧ ∀ g3 : GH, g3 = sI g2 1602 l0 ((Gi g2 1602 l0) + (1 : Int32)) → B_M_line_179 Γ K7 K111 K l0 l1 l2 l3 g3
set_option maxHeartbeats 4000000 in
set_option maxRecDepth 100000 in
theorem S_M_line_161 {Γ : GAM} {E : EV} {K : GH → Prop} (hE : GE Γ E cX11_line 5 RX11 none 4 99 (fun r g' => r = none ∧ K g')) {K7 : Nat → Int32 → Int32 → Int32 → GH → Prop} {K111 : Nat → Int32 → Int32 → Int32 → Int32 → GH → Prop} (hK7 : ∀ (l0 : Nat) (l1 : Int32) (l2 : Int32) (l3 : Int32) (g : GH), K7 l0 l1 l2 l3 g → JW Γ E 7 [some (.ref l0), some (.int l1), some (.int l2), some (.int l3), none] [] g) (hK111 : ∀ (l0 : Nat) (l1 : Int32) (l2 : Int32) (l3 : Int32) (l4 : Int32) (g : GH), K111 l0 l1 l2 l3 l4 g → JW Γ E 111 [some (.ref l0), some (.int l1), some (.int l2), some (.int l3), some (.int l4)] [] g) (l0 : Nat) (l1 : Int32) (l2 : Int32) (l3 : Int32) (l4 : Int32) (g : GH) (h : B_M_line_161 Γ K7 K111 K l0 l1 l2 l3 l4 g) : JW Γ E 161 [some (.ref l0), some (.int l1), some (.int l2), some (.int l3), some (.int l4)] [] g := by
  unfold B_M_line_161 at h
  refine j_aload_n hE (by decide +kernel : decode cX11_line 161 = .ok (.aload_n 0, 1)) rfl rfl ?_
  obtain ⟨hk, h⟩ := h
  obtain ⟨a1, ha, h⟩ := h
  refine j_getRn hE fg_X11_144 hk ha (by decide +kernel : decode cX11_line 162 = .ok (.getfield 144, 3)) ?_
  refine j_iload hE (by decide +kernel : decode cX11_line 165 = .ok (.iload 4, 2)) rfl ?_
  refine j_iload_n hE (by decide +kernel : decode cX11_line 167 = .ok (.iload_n 3, 1)) rfl rfl ?_
  obtain ⟨hk, hb, h⟩ := h
  obtain ⟨g2, hg⟩ : ∃ z, z = sA g (Co g a1) (Ow g a1) l4.toNatClampNeg l3 := ⟨_, rfl⟩; replace h := h g2 hg
  refine j_iast hE hk hb (by decide +kernel : decode cX11_line 168 = .ok (.iastore, 1)) ?_
  rw [← hg]
  refine j_aload_n hE (by decide +kernel : decode cX11_line 169 = .ok (.aload_n 0, 1)) rfl rfl ?_
  refine j_dup hE (by decide +kernel : decode cX11_line 170 = .ok (.dup, 1)) rfl ?_
  obtain ⟨hk, h⟩ := h
  refine j_getI hE fg_X11_412 hk (by decide +kernel : decode cX11_line 171 = .ok (.getfield 412, 3)) ?_
  refine j_iconst hE (by decide +kernel : decode cX11_line 174 = .ok (.iconst 1, 1)) (v := (1 : Int32)) (by decide) ?_
  refine j_iadd hE (by decide +kernel : decode cX11_line 175 = .ok (.iadd, 1)) ?_
  obtain ⟨hk, h⟩ := h
  obtain ⟨g3, hg⟩ : ∃ z, z = sI g2 1602 l0 ((Gi g2 1602 l0) + (1 : Int32)) := ⟨_, rfl⟩; replace h := h g3 hg
  refine j_putI hE fa_X11_412 hk (fun q => by cases q) (by decide +kernel : decode cX11_line 176 = .ok (.putfield 412, 3)) ?_
  rw [← hg]
  refine j_weak [some (.ref l0), some (.int l1), some (.int l2), some (.int l3), none] ⟨rfl, ⟨rfl, ⟨rfl, ⟨rfl, trivial⟩⟩⟩⟩ ?_
  exact S_M_line_179 hE hK7 hK111 _ _ _ _ _ h
set_option maxRecDepth 100000 in
def B_M_line_111 (Γ : GAM) (K7 : Nat → Int32 → Int32 → Int32 → GH → Prop) (K111 : Nat → Int32 → Int32 → Int32 → Int32 → GH → Prop) (K : GH → Prop) (l0 : Nat) (l1 : Int32) (l2 : Int32) (l3 : Int32) (l4 : Int32) (g : GH) : Prop :=
  ((l4 ≤ 0 → B_M_line_161 Γ K7 K111 K l0 l1 l2 l3 l4 g) ∧ (¬ (l4 ≤ 0) → Kd g l0 = 13 ∧ ∃ a1 : Nat, Gr g 1600 l0 = some a1 ∧ Kd g l0 = 13 ∧ ∃ a2 : Nat, Gr g 1601 l0 = some a2 ∧ Kd g a2 = 20 ∧ inB (l4 - (1 : Int32)) (Ln g a2) ∧ Kd g a1 = 20 ∧ inB (Ia g (Co g a2) (Ow g a2) (l4 - (1 : Int32)).toNatClampNeg) (Ln g a1) ∧ Kd g l0 = 13 ∧ ∃ a3 : Nat, Gr g 1600 l0 = some a3 ∧ Kd g a3 = 20 ∧ inB l3 (Ln g a3) ∧ (((Ia g (Co g a1) (Ow g a1) (Ia g (Co g a2) (Ow g a2) (l4 - (1 : Int32)).toNatClampNeg).toNatClampNeg) ≤ (Ia g (Co g a3) (Ow g a3) l3.toNatClampNeg) → B_M_line_161 Γ K7 K111 K l0 l1 l2 l3 l4 g) ∧ (¬ ((Ia g (Co g a1) (Ow g a1) (Ia g (Co g a2) (Ow g a2) (l4 - (1 : Int32)).toNatClampNeg).toNatClampNeg) ≤ (Ia g (Co g a3) (Ow g a3) l3.toNatClampNeg)) → Kd g l0 = 13 ∧ ∃ a4 : Nat, Gr g 1601 l0 = some a4 ∧ Kd g l0 = 13 ∧ ∃ a5 : Nat, Gr g 1601 l0 = some a5 ∧ Kd g a5 = 20 ∧ inB (l4 - (1 : Int32)) (Ln g a5) ∧ Kd g a4 = 20 ∧ inB l4 (Ln g a4) ∧ ∀ g6 : GH, g6 = sA g (Co g a4) (Ow g a4) l4.toNatClampNeg (Ia g (Co g a5) (Ow g a5) (l4 - (1 : Int32)).toNatClampNeg) → K111 l0 l1 l2 l3 (l4 + (-1 : Int32)) g6))))
set_option maxHeartbeats 4000000 in
set_option maxRecDepth 100000 in
theorem S_M_line_111 {Γ : GAM} {E : EV} {K : GH → Prop} (hE : GE Γ E cX11_line 5 RX11 none 4 99 (fun r g' => r = none ∧ K g')) {K7 : Nat → Int32 → Int32 → Int32 → GH → Prop} {K111 : Nat → Int32 → Int32 → Int32 → Int32 → GH → Prop} (hK7 : ∀ (l0 : Nat) (l1 : Int32) (l2 : Int32) (l3 : Int32) (g : GH), K7 l0 l1 l2 l3 g → JW Γ E 7 [some (.ref l0), some (.int l1), some (.int l2), some (.int l3), none] [] g) (hK111 : ∀ (l0 : Nat) (l1 : Int32) (l2 : Int32) (l3 : Int32) (l4 : Int32) (g : GH), K111 l0 l1 l2 l3 l4 g → JW Γ E 111 [some (.ref l0), some (.int l1), some (.int l2), some (.int l3), some (.int l4)] [] g) (l0 : Nat) (l1 : Int32) (l2 : Int32) (l3 : Int32) (l4 : Int32) (g : GH) (h : B_M_line_111 Γ K7 K111 K l0 l1 l2 l3 l4 g) : JW Γ E 111 [some (.ref l0), some (.int l1), some (.int l2), some (.int l3), some (.int l4)] [] g := by
  unfold B_M_line_111 at h
  refine j_iload hE (by decide +kernel : decode cX11_line 111 = .ok (.iload 4, 2)) rfl ?_
  refine j_if_le hE (by decide +kernel : decode cX11_line 113 = .ok (.ifCond .le 48, 3)) (tgt := 161) (by decide) (fun q => ?_) (fun q => ?_)
  · replace h := h.1 q
    exact S_M_line_161 hE hK7 hK111 _ _ _ _ _ _ h
  · replace h := h.2 q
    refine j_aload_n hE (by decide +kernel : decode cX11_line 116 = .ok (.aload_n 0, 1)) rfl rfl ?_
    obtain ⟨hk, h⟩ := h
    obtain ⟨a1, ha, h⟩ := h
    refine j_getRn hE fg_X11_141 hk ha (by decide +kernel : decode cX11_line 117 = .ok (.getfield 141, 3)) ?_
    refine j_aload_n hE (by decide +kernel : decode cX11_line 120 = .ok (.aload_n 0, 1)) rfl rfl ?_
    obtain ⟨hk, h⟩ := h
    obtain ⟨a2, ha, h⟩ := h
    refine j_getRn hE fg_X11_144 hk ha (by decide +kernel : decode cX11_line 121 = .ok (.getfield 144, 3)) ?_
    refine j_iload hE (by decide +kernel : decode cX11_line 124 = .ok (.iload 4, 2)) rfl ?_
    refine j_iconst hE (by decide +kernel : decode cX11_line 126 = .ok (.iconst 1, 1)) (v := (1 : Int32)) (by decide) ?_
    refine j_isub hE (by decide +kernel : decode cX11_line 127 = .ok (.isub, 1)) ?_
    obtain ⟨hk, hb, h⟩ := h
    refine j_iald hE hk hb (by decide +kernel : decode cX11_line 128 = .ok (.iaload, 1)) ?_
    obtain ⟨hk, hb, h⟩ := h
    refine j_iald hE hk hb (by decide +kernel : decode cX11_line 129 = .ok (.iaload, 1)) ?_
    refine j_aload_n hE (by decide +kernel : decode cX11_line 130 = .ok (.aload_n 0, 1)) rfl rfl ?_
    obtain ⟨hk, h⟩ := h
    obtain ⟨a3, ha, h⟩ := h
    refine j_getRn hE fg_X11_141 hk ha (by decide +kernel : decode cX11_line 131 = .ok (.getfield 141, 3)) ?_
    refine j_iload_n hE (by decide +kernel : decode cX11_line 134 = .ok (.iload_n 3, 1)) rfl rfl ?_
    obtain ⟨hk, hb, h⟩ := h
    refine j_iald hE hk hb (by decide +kernel : decode cX11_line 135 = .ok (.iaload, 1)) ?_
    refine j_icmp_le hE (by decide +kernel : decode cX11_line 136 = .ok (.if_icmp .le 25, 3)) (tgt := 161) (by decide) (fun q => ?_) (fun q => ?_)
    · replace h := h.1 q
      exact S_M_line_161 hE hK7 hK111 _ _ _ _ _ _ h
    · replace h := h.2 q
      refine j_aload_n hE (by decide +kernel : decode cX11_line 139 = .ok (.aload_n 0, 1)) rfl rfl ?_
      obtain ⟨hk, h⟩ := h
      obtain ⟨a4, ha, h⟩ := h
      refine j_getRn hE fg_X11_144 hk ha (by decide +kernel : decode cX11_line 140 = .ok (.getfield 144, 3)) ?_
      refine j_iload hE (by decide +kernel : decode cX11_line 143 = .ok (.iload 4, 2)) rfl ?_
      refine j_aload_n hE (by decide +kernel : decode cX11_line 145 = .ok (.aload_n 0, 1)) rfl rfl ?_
      obtain ⟨hk, h⟩ := h
      obtain ⟨a5, ha, h⟩ := h
      refine j_getRn hE fg_X11_144 hk ha (by decide +kernel : decode cX11_line 146 = .ok (.getfield 144, 3)) ?_
      refine j_iload hE (by decide +kernel : decode cX11_line 149 = .ok (.iload 4, 2)) rfl ?_
      refine j_iconst hE (by decide +kernel : decode cX11_line 151 = .ok (.iconst 1, 1)) (v := (1 : Int32)) (by decide) ?_
      refine j_isub hE (by decide +kernel : decode cX11_line 152 = .ok (.isub, 1)) ?_
      obtain ⟨hk, hb, h⟩ := h
      refine j_iald hE hk hb (by decide +kernel : decode cX11_line 153 = .ok (.iaload, 1)) ?_
      obtain ⟨hk, hb, h⟩ := h
      obtain ⟨g6, hg⟩ : ∃ z, z = sA g (Co g a4) (Ow g a4) l4.toNatClampNeg (Ia g (Co g a5) (Ow g a5) (l4 - (1 : Int32)).toNatClampNeg) := ⟨_, rfl⟩; replace h := h g6 hg
      refine j_iast hE hk hb (by decide +kernel : decode cX11_line 154 = .ok (.iastore, 1)) ?_
      rw [← hg]
      refine j_iinc hE (by decide +kernel : decode cX11_line 155 = .ok (.iinc 4 (-1), 3)) (v := (-1 : Int32)) (by decide) rfl (Nat.le_of_ble_eq_true rfl) rfl ?_
      refine j_goto hE (by decide +kernel : decode cX11_line 158 = .ok (.goto (-47), 3)) (tgt := 111) (by decide) ?_
      exact hK111 _ _ _ _ _ _ h
set_option maxRecDepth 100000 in
def B_M_line_101 (Γ : GAM) (K7 : Nat → Int32 → Int32 → Int32 → GH → Prop) (K111 : Nat → Int32 → Int32 → Int32 → Int32 → GH → Prop) (K : GH → Prop) (l0 : Nat) (l1 : Int32) (l2 : Int32) (l3 : Int32) (s0 : Int32) (s1 : Int32) (s2 : Nat) (g : GH) : Prop :=
  Kd g s2 = 20 ∧ inB s1 (Ln g s2) ∧ ∀ g1 : GH, g1 = sA g (Co g s2) (Ow g s2) s1.toNatClampNeg s0 → B_M_line_179 Γ K7 K111 K l0 l1 l2 l3 g1
set_option maxHeartbeats 4000000 in
set_option maxRecDepth 100000 in
theorem S_M_line_101 {Γ : GAM} {E : EV} {K : GH → Prop} (hE : GE Γ E cX11_line 5 RX11 none 4 99 (fun r g' => r = none ∧ K g')) {K7 : Nat → Int32 → Int32 → Int32 → GH → Prop} {K111 : Nat → Int32 → Int32 → Int32 → Int32 → GH → Prop} (hK7 : ∀ (l0 : Nat) (l1 : Int32) (l2 : Int32) (l3 : Int32) (g : GH), K7 l0 l1 l2 l3 g → JW Γ E 7 [some (.ref l0), some (.int l1), some (.int l2), some (.int l3), none] [] g) (hK111 : ∀ (l0 : Nat) (l1 : Int32) (l2 : Int32) (l3 : Int32) (l4 : Int32) (g : GH), K111 l0 l1 l2 l3 l4 g → JW Γ E 111 [some (.ref l0), some (.int l1), some (.int l2), some (.int l3), some (.int l4)] [] g) (l0 : Nat) (l1 : Int32) (l2 : Int32) (l3 : Int32) (s0 : Int32) (s1 : Int32) (s2 : Nat) (g : GH) (h : B_M_line_101 Γ K7 K111 K l0 l1 l2 l3 s0 s1 s2 g) : JW Γ E 101 [some (.ref l0), some (.int l1), some (.int l2), some (.int l3), none] [.int s0, .int s1, .ref s2] g := by
  unfold B_M_line_101 at h
  obtain ⟨hk, hb, h⟩ := h
  obtain ⟨g1, hg⟩ : ∃ z, z = sA g (Co g s2) (Ow g s2) s1.toNatClampNeg s0 := ⟨_, rfl⟩; replace h := h g1 hg
  refine j_iast hE hk hb (by decide +kernel : decode cX11_line 101 = .ok (.iastore, 1)) ?_
  rw [← hg]
  refine j_goto hE (by decide +kernel : decode cX11_line 102 = .ok (.goto 77, 3)) (tgt := 179) (by decide) ?_
  exact S_M_line_179 hE hK7 hK111 _ _ _ _ _ h
set_option maxRecDepth 100000 in
def B_M_line_7 (Γ : GAM) (K7 : Nat → Int32 → Int32 → Int32 → GH → Prop) (K111 : Nat → Int32 → Int32 → Int32 → Int32 → GH → Prop) (K : GH → Prop) (l0 : Nat) (l1 : Int32) (l2 : Int32) (l3 : Int32) (g : GH) : Prop :=
  Kd g l0 = 13 ∧ (((Gi g 1539 l0) ≤ l3 → K g) ∧ (¬ ((Gi g 1539 l0) ≤ l3) → Kd g l0 = 13 ∧ ∃ a1 : Nat, Gr g 1556 l0 = some a1 ∧ Kd g a1 = 20 ∧ inB l3 (Ln g a1) ∧ ((¬ ((Ia g (Co g a1) (Ow g a1) l3.toNatClampNeg) = l1) → B_M_line_179 Γ K7 K111 K l0 l1 l2 l3 g) ∧ ((Ia g (Co g a1) (Ow g a1) l3.toNatClampNeg) = l1 → Kd g l0 = 13 ∧ Sp_M_isSent Γ l0 l3 l2 g (fun (x3 : Int32) (g2 : GH) => ((¬ (x3 = 0) → Kd g2 l0 = 13 ∧ ∃ a4 : Nat, Gr g2 1600 l0 = some a4 ∧ Kd g2 l0 = 13 ∧ Sp_M_comesOn Γ l0 l3 l2 g2 (fun (x6 : Int32) (g5 : GH) => Kd g5 a4 = 20 ∧ inB l3 (Ln g5 a4) ∧ ∀ g7 : GH, g7 = sA g5 (Co g5 a4) (Ow g5 a4) l3.toNatClampNeg x6 → Kd g7 l0 = 13 ∧ ∃ a8 : Nat, Gr g7 1599 l0 = some a8 ∧ Kd g7 a8 = 20 ∧ inB l3 (Ln g7 a8) ∧ ∀ g9 : GH, g9 = sA g7 (Co g7 a8) (Ow g7 a8) l3.toNatClampNeg (0 : Int32) → Kd g9 l0 = 13 ∧ ∃ a10 : Nat, Gr g9 1597 l0 = some a10 ∧ Kd g9 a10 = 20 ∧ inB l3 (Ln g9 a10) ∧ ∀ g11 : GH, g11 = sA g9 (Co g9 a10) (Ow g9 a10) l3.toNatClampNeg (-1 : Int32) → Kd g11 l0 = 13 ∧ ∃ a12 : Nat, Gr g11 1598 l0 = some a12 ∧ Kd g11 a12 = 20 ∧ inB l3 (Ln g11 a12) ∧ ∀ g13 : GH, g13 = sA g11 (Co g11 a12) (Ow g11 a12) l3.toNatClampNeg (-1 : Int32) → Kd g13 l0 = 13 ∧ ∃ a14 : Nat, Gr g13 1600 l0 = some a14 ∧ Kd g13 a14 = 20 ∧ inB l3 (Ln g13 a14) ∧ ((¬ ((Ia g13 (Co g13 a14) (Ow g13 a14) l3.toNatClampNeg) = (-1 : Int32)) → Kd g13 l0 = 13 ∧ ∀ x15 : Int32, x15 = (Gi g13 1602 l0) → K111 l0 l1 l2 l3 x15 g13) ∧ ((Ia g13 (Co g13 a14) (Ow g13 a14) l3.toNatClampNeg) = (-1 : Int32) → Kd g13 l0 = 13 ∧ ∃ a16 : Nat, Gr g13 1596 l0 = some a16 ∧ Kd g13 l0 = 13 ∧ Sp_M_dayOf Γ l0 l3 (4 : Int32) l2 g13 (fun (x18 : Int32) (g17 : GH) => ((x18 = (-1 : Int32) → B_M_line_101 Γ K7 K111 K l0 l1 l2 l3 (0 : Int32) l3 a16 g17) ∧ (¬ (x18 = (-1 : Int32)) → B_M_line_101 Γ K7 K111 K l0 l1 l2 l3 (1 : Int32) l3 a16 g17))))))) ∧ (x3 = 0 → B_M_line_179 Γ K7 K111 K l0 l1 l2 l3 g2)))))))
set_option maxHeartbeats 4000000 in
set_option maxRecDepth 100000 in
theorem S_M_line_7 {Γ : GAM} {E : EV} {K : GH → Prop} (hE : GE Γ E cX11_line 5 RX11 none 4 99 (fun r g' => r = none ∧ K g')) {K7 : Nat → Int32 → Int32 → Int32 → GH → Prop} {K111 : Nat → Int32 → Int32 → Int32 → Int32 → GH → Prop} (hK7 : ∀ (l0 : Nat) (l1 : Int32) (l2 : Int32) (l3 : Int32) (g : GH), K7 l0 l1 l2 l3 g → JW Γ E 7 [some (.ref l0), some (.int l1), some (.int l2), some (.int l3), none] [] g) (hK111 : ∀ (l0 : Nat) (l1 : Int32) (l2 : Int32) (l3 : Int32) (l4 : Int32) (g : GH), K111 l0 l1 l2 l3 l4 g → JW Γ E 111 [some (.ref l0), some (.int l1), some (.int l2), some (.int l3), some (.int l4)] [] g) (l0 : Nat) (l1 : Int32) (l2 : Int32) (l3 : Int32) (g : GH) (h : B_M_line_7 Γ K7 K111 K l0 l1 l2 l3 g) : JW Γ E 7 [some (.ref l0), some (.int l1), some (.int l2), some (.int l3), none] [] g := by
  unfold B_M_line_7 at h
  refine j_iload_n hE (by decide +kernel : decode cX11_line 7 = .ok (.iload_n 3, 1)) rfl rfl ?_
  refine j_aload_n hE (by decide +kernel : decode cX11_line 8 = .ok (.aload_n 0, 1)) rfl rfl ?_
  obtain ⟨hk, h⟩ := h
  refine j_getI hE fg_X11_241 hk (by decide +kernel : decode cX11_line 9 = .ok (.getfield 241, 3)) ?_
  refine j_icmp_ge hE (by decide +kernel : decode cX11_line 12 = .ok (.if_icmp .ge 173, 3)) (tgt := 185) (by decide) (fun q => ?_) (fun q => ?_)
  · replace h := h.1 q
    exact j_vret hE (by decide +kernel : decode cX11_line 185 = .ok (.return_, 1)) ⟨rfl, h⟩
  · replace h := h.2 q
    refine j_aload_n hE (by decide +kernel : decode cX11_line 15 = .ok (.aload_n 0, 1)) rfl rfl ?_
    obtain ⟨hk, h⟩ := h
    obtain ⟨a1, ha, h⟩ := h
    refine j_getRn hE fg_X11_35 hk ha (by decide +kernel : decode cX11_line 16 = .ok (.getfield 35, 3)) ?_
    refine j_iload_n hE (by decide +kernel : decode cX11_line 19 = .ok (.iload_n 3, 1)) rfl rfl ?_
    obtain ⟨hk, hb, h⟩ := h
    refine j_iald hE hk hb (by decide +kernel : decode cX11_line 20 = .ok (.iaload, 1)) ?_
    refine j_iload_n hE (by decide +kernel : decode cX11_line 21 = .ok (.iload_n 1, 1)) rfl rfl ?_
    refine j_icmp_ne hE (by decide +kernel : decode cX11_line 22 = .ok (.if_icmp .ne 157, 3)) (tgt := 179) (by decide) (fun q => ?_) (fun q => ?_)
    · replace h := h.1 q
      exact S_M_line_179 hE hK7 hK111 _ _ _ _ _ h
    · replace h := h.2 q
      refine j_aload_n hE (by decide +kernel : decode cX11_line 25 = .ok (.aload_n 0, 1)) rfl rfl ?_
      refine j_iload_n hE (by decide +kernel : decode cX11_line 26 = .ok (.iload_n 3, 1)) rfl rfl ?_
      refine j_iload_n hE (by decide +kernel : decode cX11_line 27 = .ok (.iload_n 2, 1)) rfl rfl ?_
      obtain ⟨hk, h⟩ := h
      refine j_callV hE rfl cl_X11_278 cf_12 im_X11_isSent se_X11_isSent ⟨by omega, by omega⟩ (As := [.int l3, .int l2]) (rest := []) rfl rfl (Nat.le_of_ble_eq_true rfl) hk (by decide +kernel : decode cX11_line 28 = .ok (.invokevirtual 278, 3)) (mt_M_isSent _ _ _ _ _ h) ?_
      rintro _ g2 ⟨x3, rfl, h⟩
      refine j_if_ne hE (by decide +kernel : decode cX11_line 31 = .ok (.ifCond .ne 6, 3)) (tgt := 37) (by decide) (fun q => ?_) (fun q => ?_)
      · replace h := h.1 q
        refine j_aload_n hE (by decide +kernel : decode cX11_line 37 = .ok (.aload_n 0, 1)) rfl rfl ?_
        obtain ⟨hk, h⟩ := h
        obtain ⟨a4, ha, h⟩ := h
        refine j_getRn hE fg_X11_141 hk ha (by decide +kernel : decode cX11_line 38 = .ok (.getfield 141, 3)) ?_
        refine j_iload_n hE (by decide +kernel : decode cX11_line 41 = .ok (.iload_n 3, 1)) rfl rfl ?_
        refine j_aload_n hE (by decide +kernel : decode cX11_line 42 = .ok (.aload_n 0, 1)) rfl rfl ?_
        refine j_iload_n hE (by decide +kernel : decode cX11_line 43 = .ok (.iload_n 3, 1)) rfl rfl ?_
        refine j_iload_n hE (by decide +kernel : decode cX11_line 44 = .ok (.iload_n 2, 1)) rfl rfl ?_
        obtain ⟨hk, h⟩ := h
        refine j_callV hE rfl cl_X11_373 cf_12 im_X11_comesOn se_X11_comesOn ⟨by omega, by omega⟩ (As := [.int l3, .int l2]) (rest := [.int l3, .ref a4]) rfl rfl (Nat.le_of_ble_eq_true rfl) hk (by decide +kernel : decode cX11_line 45 = .ok (.invokevirtual 373, 3)) (mt_M_comesOn _ _ _ _ _ h) ?_
        rintro _ g5 ⟨x6, rfl, h⟩
        obtain ⟨hk, hb, h⟩ := h
        obtain ⟨g7, hg⟩ : ∃ z, z = sA g5 (Co g5 a4) (Ow g5 a4) l3.toNatClampNeg x6 := ⟨_, rfl⟩; replace h := h g7 hg
        refine j_iast hE hk hb (by decide +kernel : decode cX11_line 48 = .ok (.iastore, 1)) ?_
        rw [← hg]
        refine j_aload_n hE (by decide +kernel : decode cX11_line 49 = .ok (.aload_n 0, 1)) rfl rfl ?_
        obtain ⟨hk, h⟩ := h
        obtain ⟨a8, ha, h⟩ := h
        refine j_getRn hE fg_X11_138 hk ha (by decide +kernel : decode cX11_line 50 = .ok (.getfield 138, 3)) ?_
        refine j_iload_n hE (by decide +kernel : decode cX11_line 53 = .ok (.iload_n 3, 1)) rfl rfl ?_
        refine j_iconst hE (by decide +kernel : decode cX11_line 54 = .ok (.iconst 0, 1)) (v := (0 : Int32)) (by decide) ?_
        obtain ⟨hk, hb, h⟩ := h
        obtain ⟨g9, hg⟩ : ∃ z, z = sA g7 (Co g7 a8) (Ow g7 a8) l3.toNatClampNeg (0 : Int32) := ⟨_, rfl⟩; replace h := h g9 hg
        refine j_iast hE hk hb (by decide +kernel : decode cX11_line 55 = .ok (.iastore, 1)) ?_
        rw [← hg]
        refine j_aload_n hE (by decide +kernel : decode cX11_line 56 = .ok (.aload_n 0, 1)) rfl rfl ?_
        obtain ⟨hk, h⟩ := h
        obtain ⟨a10, ha, h⟩ := h
        refine j_getRn hE fg_X11_132 hk ha (by decide +kernel : decode cX11_line 57 = .ok (.getfield 132, 3)) ?_
        refine j_iload_n hE (by decide +kernel : decode cX11_line 60 = .ok (.iload_n 3, 1)) rfl rfl ?_
        refine j_iconst hE (by decide +kernel : decode cX11_line 61 = .ok (.iconst (-1), 1)) (v := (-1 : Int32)) (by decide) ?_
        obtain ⟨hk, hb, h⟩ := h
        obtain ⟨g11, hg⟩ : ∃ z, z = sA g9 (Co g9 a10) (Ow g9 a10) l3.toNatClampNeg (-1 : Int32) := ⟨_, rfl⟩; replace h := h g11 hg
        refine j_iast hE hk hb (by decide +kernel : decode cX11_line 62 = .ok (.iastore, 1)) ?_
        rw [← hg]
        refine j_aload_n hE (by decide +kernel : decode cX11_line 63 = .ok (.aload_n 0, 1)) rfl rfl ?_
        obtain ⟨hk, h⟩ := h
        obtain ⟨a12, ha, h⟩ := h
        refine j_getRn hE fg_X11_135 hk ha (by decide +kernel : decode cX11_line 64 = .ok (.getfield 135, 3)) ?_
        refine j_iload_n hE (by decide +kernel : decode cX11_line 67 = .ok (.iload_n 3, 1)) rfl rfl ?_
        refine j_iconst hE (by decide +kernel : decode cX11_line 68 = .ok (.iconst (-1), 1)) (v := (-1 : Int32)) (by decide) ?_
        obtain ⟨hk, hb, h⟩ := h
        obtain ⟨g13, hg⟩ : ∃ z, z = sA g11 (Co g11 a12) (Ow g11 a12) l3.toNatClampNeg (-1 : Int32) := ⟨_, rfl⟩; replace h := h g13 hg
        refine j_iast hE hk hb (by decide +kernel : decode cX11_line 69 = .ok (.iastore, 1)) ?_
        rw [← hg]
        refine j_aload_n hE (by decide +kernel : decode cX11_line 70 = .ok (.aload_n 0, 1)) rfl rfl ?_
        obtain ⟨hk, h⟩ := h
        obtain ⟨a14, ha, h⟩ := h
        refine j_getRn hE fg_X11_141 hk ha (by decide +kernel : decode cX11_line 71 = .ok (.getfield 141, 3)) ?_
        refine j_iload_n hE (by decide +kernel : decode cX11_line 74 = .ok (.iload_n 3, 1)) rfl rfl ?_
        obtain ⟨hk, hb, h⟩ := h
        refine j_iald hE hk hb (by decide +kernel : decode cX11_line 75 = .ok (.iaload, 1)) ?_
        refine j_iconst hE (by decide +kernel : decode cX11_line 76 = .ok (.iconst (-1), 1)) (v := (-1 : Int32)) (by decide) ?_
        refine j_icmp_ne hE (by decide +kernel : decode cX11_line 77 = .ok (.if_icmp .ne 28, 3)) (tgt := 105) (by decide) (fun q => ?_) (fun q => ?_)
        · replace h := h.1 q
          refine j_aload_n hE (by decide +kernel : decode cX11_line 105 = .ok (.aload_n 0, 1)) rfl rfl ?_
          obtain ⟨hk, h⟩ := h
          refine j_getI hE fg_X11_412 hk (by decide +kernel : decode cX11_line 106 = .ok (.getfield 412, 3)) ?_
          obtain ⟨x15, hx⟩ : ∃ z, z = (Gi g13 1602 l0) := ⟨_, rfl⟩; replace h := h x15 hx; rw [← hx]
          refine j_istore hE (by decide +kernel : decode cX11_line 109 = .ok (.istore 4, 2)) (Nat.le_of_ble_eq_true rfl) rfl ?_
          exact hK111 _ _ _ _ _ _ h
        · replace h := h.2 q
          refine j_aload_n hE (by decide +kernel : decode cX11_line 80 = .ok (.aload_n 0, 1)) rfl rfl ?_
          obtain ⟨hk, h⟩ := h
          obtain ⟨a16, ha, h⟩ := h
          refine j_getRn hE fg_X11_129 hk ha (by decide +kernel : decode cX11_line 81 = .ok (.getfield 129, 3)) ?_
          refine j_iload_n hE (by decide +kernel : decode cX11_line 84 = .ok (.iload_n 3, 1)) rfl rfl ?_
          refine j_aload_n hE (by decide +kernel : decode cX11_line 85 = .ok (.aload_n 0, 1)) rfl rfl ?_
          refine j_iload_n hE (by decide +kernel : decode cX11_line 86 = .ok (.iload_n 3, 1)) rfl rfl ?_
          refine j_iconst hE (by decide +kernel : decode cX11_line 87 = .ok (.iconst 4, 1)) (v := (4 : Int32)) (by decide) ?_
          refine j_iload_n hE (by decide +kernel : decode cX11_line 88 = .ok (.iload_n 2, 1)) rfl rfl ?_
          obtain ⟨hk, h⟩ := h
          refine j_callV hE rfl cl_X11_256 cf_12 im_X11_dayOf se_X11_dayOf ⟨by omega, by omega⟩ (As := [.int l3, .int (4 : Int32), .int l2]) (rest := [.int l3, .ref a16]) rfl rfl (Nat.le_of_ble_eq_true rfl) hk (by decide +kernel : decode cX11_line 89 = .ok (.invokevirtual 256, 3)) (mt_M_dayOf _ _ _ _ _ _ h) ?_
          rintro _ g17 ⟨x18, rfl, h⟩
          refine j_iconst hE (by decide +kernel : decode cX11_line 92 = .ok (.iconst (-1), 1)) (v := (-1 : Int32)) (by decide) ?_
          refine j_icmp_eq hE (by decide +kernel : decode cX11_line 93 = .ok (.if_icmp .eq 7, 3)) (tgt := 100) (by decide) (fun q => ?_) (fun q => ?_)
          · replace h := h.1 q
            refine j_iconst hE (by decide +kernel : decode cX11_line 100 = .ok (.iconst 0, 1)) (v := (0 : Int32)) (by decide) ?_
            exact S_M_line_101 hE hK7 hK111 _ _ _ _ _ _ _ _ h
          · replace h := h.2 q
            refine j_iconst hE (by decide +kernel : decode cX11_line 96 = .ok (.iconst 1, 1)) (v := (1 : Int32)) (by decide) ?_
            refine j_goto hE (by decide +kernel : decode cX11_line 97 = .ok (.goto 4, 3)) (tgt := 101) (by decide) ?_
            exact S_M_line_101 hE hK7 hK111 _ _ _ _ _ _ _ _ h
      · replace h := h.2 q
        refine j_goto hE (by decide +kernel : decode cX11_line 34 = .ok (.goto 145, 3)) (tgt := 179) (by decide) ?_
        exact S_M_line_179 hE hK7 hK111 _ _ _ _ _ h
set_option maxRecDepth 100000 in
def B_M_line_0 (Γ : GAM) (K7 : Nat → Int32 → Int32 → Int32 → GH → Prop) (K111 : Nat → Int32 → Int32 → Int32 → Int32 → GH → Prop) (K : GH → Prop) (th : Nat) (p0 : Int32) (p1 : Int32) (g : GH) : Prop :=
  Kd g th = 13 ∧ ∀ g1 : GH, g1 = sI g 1602 th (0 : Int32) → K7 th p0 p1 (0 : Int32) g1
set_option maxHeartbeats 4000000 in
set_option maxRecDepth 100000 in
theorem S_M_line_0 {Γ : GAM} {E : EV} {K : GH → Prop} (hE : GE Γ E cX11_line 5 RX11 none 4 99 (fun r g' => r = none ∧ K g')) {K7 : Nat → Int32 → Int32 → Int32 → GH → Prop} {K111 : Nat → Int32 → Int32 → Int32 → Int32 → GH → Prop} (hK7 : ∀ (l0 : Nat) (l1 : Int32) (l2 : Int32) (l3 : Int32) (g : GH), K7 l0 l1 l2 l3 g → JW Γ E 7 [some (.ref l0), some (.int l1), some (.int l2), some (.int l3), none] [] g) (hK111 : ∀ (l0 : Nat) (l1 : Int32) (l2 : Int32) (l3 : Int32) (l4 : Int32) (g : GH), K111 l0 l1 l2 l3 l4 g → JW Γ E 111 [some (.ref l0), some (.int l1), some (.int l2), some (.int l3), some (.int l4)] [] g) (th : Nat) (p0 : Int32) (p1 : Int32) (g : GH) (h : B_M_line_0 Γ K7 K111 K th p0 p1 g) : JW Γ E 0 [some (.ref th), some (.int p0), some (.int p1), none, none] [] g := by
  unfold B_M_line_0 at h
  refine j_aload_n hE (by decide +kernel : decode cX11_line 0 = .ok (.aload_n 0, 1)) rfl rfl ?_
  refine j_iconst hE (by decide +kernel : decode cX11_line 1 = .ok (.iconst 0, 1)) (v := (0 : Int32)) (by decide) ?_
  obtain ⟨hk, h⟩ := h
  obtain ⟨g1, hg⟩ : ∃ z, z = sI g 1602 th (0 : Int32) := ⟨_, rfl⟩; replace h := h g1 hg
  refine j_putI hE fa_X11_412 hk (fun q => by cases q) (by decide +kernel : decode cX11_line 2 = .ok (.putfield 412, 3)) ?_
  rw [← hg]
  refine j_iconst hE (by decide +kernel : decode cX11_line 5 = .ok (.iconst 0, 1)) (v := (0 : Int32)) (by decide) ?_
  refine j_istore_n hE (by decide +kernel : decode cX11_line 6 = .ok (.istore_n 3, 1)) rfl (Nat.le_of_ble_eq_true rfl) rfl ?_
  exact hK7 _ _ _ _ _ h
set_option maxHeartbeats 4000000 in
set_option maxRecDepth 100000 in
theorem rl_M_line {Γ : GAM} {l : Launch} {th : Nat} {p0 : Int32} {p1 : Int32} {g : GH} {K : GH → Prop} (I7 : Nat → Nat → Int32 → Int32 → Int32 → GH → Prop) (I111 : Nat → Nat → Int32 → Int32 → Int32 → Int32 → GH → Prop) (hh7 : ∀ n (l0 : Nat) (l1 : Int32) (l2 : Int32) (l3 : Int32) (g : GH), I7 n l0 l1 l2 l3 g → B_M_line_7 Γ (fun l0 l1 l2 l3 g => ∃ m, m < n ∧ I7 m l0 l1 l2 l3 g) (fun l0 l1 l2 l3 l4 g => ∃ m, m < n ∧ I111 m l0 l1 l2 l3 l4 g) K l0 l1 l2 l3 g) (hh111 : ∀ n (l0 : Nat) (l1 : Int32) (l2 : Int32) (l3 : Int32) (l4 : Int32) (g : GH), I111 n l0 l1 l2 l3 l4 g → B_M_line_111 Γ (fun l0 l1 l2 l3 g => ∃ m, m < n ∧ I7 m l0 l1 l2 l3 g) (fun l0 l1 l2 l3 l4 g => ∃ m, m < n ∧ I111 m l0 l1 l2 l3 l4 g) K l0 l1 l2 l3 l4 g) (h0 : B_M_line_0 Γ (fun l0 l1 l2 l3 g => ∃ m, I7 m l0 l1 l2 l3 g) (fun l0 l1 l2 l3 l4 g => ∃ m, I111 m l0 l1 l2 l3 l4 g) K th p0 p1 g) : MetA Γ l yX11_line cX11_line 5 none 4 99 [.ref th, .int p0, .int p1] g (fun r g' => r = none ∧ K g') := by
  refine MetA.introL (Lx := [some (.ref th), some (.int p0), some (.int p1), none, none]) (by decide) (Nat.le_of_ble_eq_true rfl) rfl rfl ?_
  intro E hEl hE hnm
  have hall : ∀ n, (∀ (l0 : Nat) (l1 : Int32) (l2 : Int32) (l3 : Int32) (g : GH), I7 n l0 l1 l2 l3 g → JW Γ E 7 [some (.ref l0), some (.int l1), some (.int l2), some (.int l3), none] [] g) ∧ (∀ (l0 : Nat) (l1 : Int32) (l2 : Int32) (l3 : Int32) (l4 : Int32) (g : GH), I111 n l0 l1 l2 l3 l4 g → JW Γ E 111 [some (.ref l0), some (.int l1), some (.int l2), some (.int l3), some (.int l4)] [] g) := by
    intro n
    induction n using Nat.strongRecOn with
    | ind n ih =>
      exact ⟨fun l0 l1 l2 l3 g hi => S_M_line_7 hE (fun l0 l1 l2 l3 g hm => by obtain ⟨m, hm, h⟩ := hm; exact (ih m hm).1 l0 l1 l2 l3 g h) (fun l0 l1 l2 l3 l4 g hm => by obtain ⟨m, hm, h⟩ := hm; exact (ih m hm).2 l0 l1 l2 l3 l4 g h) l0 l1 l2 l3 g (hh7 n l0 l1 l2 l3 g hi), fun l0 l1 l2 l3 l4 g hi => S_M_line_111 hE (fun l0 l1 l2 l3 g hm => by obtain ⟨m, hm, h⟩ := hm; exact (ih m hm).1 l0 l1 l2 l3 g h) (fun l0 l1 l2 l3 l4 g hm => by obtain ⟨m, hm, h⟩ := hm; exact (ih m hm).2 l0 l1 l2 l3 l4 g h) l0 l1 l2 l3 l4 g (hh111 n l0 l1 l2 l3 l4 g hi)⟩
  exact S_M_line_0 hE (fun l0 l1 l2 l3 g hm => by obtain ⟨m, h⟩ := hm; exact (hall m).1 l0 l1 l2 l3 g h) (fun l0 l1 l2 l3 l4 g hm => by obtain ⟨m, h⟩ := hm; exact (hall m).2 l0 l1 l2 l3 l4 g h) th p0 p1 g h0
theorem mt_M_line {Γ : GAM} {l : Launch} (th : Nat) (p0 : Int32) (p1 : Int32) (g : GH) (K : GH → Prop) (h : Sp_M_line Γ th p0 p1 g K) : MetA Γ l yX11_line cX11_line 5 none 4 99 [.ref th, .int p0, .int p1] g (fun r g' => r = none ∧ K g') := by
  obtain ⟨ma, s, hI, hw, hK⟩ := h
  have hN := hw.len.2.2.1
  refine rl_M_line (fun n l0 l1 l2 l3 g' => th = l0 ∧ p0 = l1 ∧ p1 = l2 ∧ ∃ k, k ≤ (s_env s).length ∧ n = 1000 * ((s_env s).length - k) ∧ l3 = nI k ∧ FrX th [1569, 1570, 1602] [1600, 1599, 1597, 1598, 1596, 1601] g g' ∧ JF th g' s p0 p1 k ∧ Gi g' 1602 th = nI (sRevT s p0 p1 k).length ∧ Pil (Ia g' 1601 th) ((sRevT s p0 p1 k).map nI))
    (fun n l0 l1 l2 l3 l4 g' => th = l0 ∧ p0 = l1 ∧ p1 = l2 ∧ ∃ k x pre t v, (s_env s)[k]? = some x ∧ n = 1000 * ((s_env s).length - (k + 1)) + t.length + 1 ∧ l3 = nI k ∧ l4 = nI t.length ∧ sRevT s p0 p1 k = pre ++ t ∧ sRevT s p0 p1 (k + 1) = pre ++ rIns (fun i => (sCome s (nI i) p1).1) k t ∧ inLn s p0 p1 k ∧ FrX th [1569, 1570, 1602] [1600, 1599, 1597, 1598, 1596, 1601] g g' ∧ JF th g' s p0 p1 (k + 1) ∧ Gi g' 1602 th = nI (sRevT s p0 p1 k).length ∧ Pil (Ia g' 1601 th) (pre.map nI ++ v :: t.map nI)) ?_ ?_ ?_
  · rintro n l0 l1 l2 l3 g' ⟨rfl, rfl, rfl, k, hk, rfl, rfl, hfx, hJ, hrm, hP⟩
    have hln := (revT_ok s p0 p1 k hk).2.1
    suffices H : ∀ (K7 : Nat → Int32 → Int32 → Int32 → GH → Prop) (K111 : Nat → Int32 → Int32 → Int32 → Int32 → GH → Prop), (∀ g2, k < (s_env s).length → FrX th [1569, 1570, 1602] [1600, 1599, 1597, 1598, 1596, 1601] g g2 → JF th g2 s p0 p1 (k + 1) → Gi g2 1602 th = nI (sRevT s p0 p1 (k + 1)).length → Pil (Ia g2 1601 th) ((sRevT s p0 p1 (k + 1)).map nI) → K7 th p0 p1 (nI (k + 1)) g2) → (∀ g2, k < (s_env s).length → ¬ (sCome s (nI k) p1).1 = -1 → inLn s p0 p1 k → FrX th [1569, 1570, 1602] [1600, 1599, 1597, 1598, 1596, 1601] g g2 → JF th g2 s p0 p1 (k + 1) → Gi g2 1602 th = nI (sRevT s p0 p1 k).length → Pil (Ia g2 1601 th) ((sRevT s p0 p1 k).map nI) → K111 th p0 p1 (nI k) (nI (sRevT s p0 p1 k).length) g2) → B_M_line_7 Γ K7 K111 K th p0 p1 (nI k) g' from
      H _ _ (fun g2 hlt h1 h2 h3 h4 => ⟨1000 * ((s_env s).length - (k + 1)), by omega, rfl, rfl, rfl, k + 1, by omega, rfl, rfl, h1, h2, h3, h4⟩)
        (fun g2 hlt h0 hin h1 h2 h3 h4 => by
          obtain ⟨x, hx⟩ := get_lt hlt
          refine ⟨1000 * ((s_env s).length - (k + 1)) + (sRevT s p0 p1 k).length + 1, by omega, rfl, rfl, rfl, k, x, [], sRevT s p0 p1 k, Ia g2 1601 th ((sRevT s p0 p1 k).map nI).length, hx, rfl, rfl, rfl, rfl, ?_, hin, h1, h2, h3, ⟨rfl, h4⟩⟩
          obtain ⟨y, hy, hy1, hy2⟩ := hin
          rw [hx] at hy; cases hy
          rw [revT_s hx]
          unfold rowS
          rw [if_pos ⟨hy1, hy2, h0⟩]; rfl)
    intro K7 K111 h7 h111
    have hI' := hI.x hfx (by decide +kernel)
    obtain ⟨hkd, hS⟩ := hI'.1
    obtain ⟨w1, w2, w3⟩ := hI'.env
    obtain ⟨z_voterOf1, z_voterOf2, z_voterOf3, z_voterOf4, z_voterOf5⟩ := hS 1556 20 200 rfl
    obtain ⟨z_sentTold1, z_sentTold2, z_sentTold3, z_sentTold4, z_sentTold5⟩ := hS 1558 20 200 rfl
    obtain ⟨z_dayFor1, z_dayFor2, z_dayFor3, z_dayFor4, z_dayFor5⟩ := hS 1600 20 200 rfl
    obtain ⟨z_goodAhead1, z_goodAhead2, z_goodAhead3, z_goodAhead4, z_goodAhead5⟩ := hS 1599 20 200 rfl
    obtain ⟨z_reasons1, z_reasons2, z_reasons3, z_reasons4, z_reasons5⟩ := hS 1597 20 200 rfl
    obtain ⟨z_rules1, z_rules2, z_rules3, z_rules4, z_rules5⟩ := hS 1598 20 200 rfl
    obtain ⟨z_states1, z_states2, z_states3, z_states4, z_states5⟩ := hS 1596 20 200 rfl
    unfold B_M_line_7
    simp only [hkd, w1, z_voterOf1, z_voterOf2, z_voterOf3, z_voterOf4, z_voterOf5, z_sentTold1, z_sentTold2, z_sentTold3, z_sentTold4, z_sentTold5, z_dayFor1, z_dayFor2, z_dayFor3, z_dayFor4, z_dayFor5, z_goodAhead1, z_goodAhead2, z_goodAhead3, z_goodAhead4, z_goodAhead5, z_reasons1, z_reasons2, z_reasons3, z_reasons4, z_reasons5, z_rules1, z_rules2, z_rules3, z_rules4, z_rules5, z_states1, z_states2, z_states3, z_states4, z_states5, Option.some.injEq, exists_eq_left', true_and, nj_cl (show k < 2147483648 by omega), nj_le (show (s_env s).length < 2147483648 by omega) (show k < 2147483648 by omega)]
    refine ⟨fun q => ?_, fun q => ?_⟩
    · have : k = (s_env s).length := by omega
      subst this
      exact hK g' hfx hJ hrm hP
    · have hlt : k < (s_env s).length := by omega
      obtain ⟨x, hx⟩ := get_lt hlt
      have hb := inB_nI (show k < 200 by omega) (by omega)
      have hrs := revT_s (v := p0) (q := p1) hx
      have hrow := w3 k x hx
      have hin : inLn s p0 p1 k ↔ x.1 = p0 ∧ x.2.2.1 ≤ p1 := ⟨fun ⟨y, hy, h1, h2⟩ => by rw [hx] at hy; cases hy; exact ⟨h1, h2⟩, fun h => ⟨x, hx, h.1, h.2⟩⟩
      have hno : ¬ inLn s p0 p1 k → B_M_line_179 Γ K7 K111 K th p0 p1 (nI k) g' := by
        intro hn
        unfold B_M_line_179
        rw [nj_s]
        have hrs' : sRevT s p0 p1 (k + 1) = sRevT s p0 p1 k := by rw [hrs]; unfold rowS; rw [if_neg (fun z => hn (hin.mpr ⟨z.1, z.2.1⟩))]
        exact h7 g' hlt hfx (hJ.st (fun _ _ _ _ => rfl) (fun z => absurd z hn)) (by rw [hrs']; exact hrm) (by rw [hrs']; exact hP)
      simp only [Sp_M_isSent, ifz, hkd, hb, hrow, z_voterOf1, z_voterOf2, z_voterOf3, z_voterOf4, z_voterOf5, z_sentTold1, z_sentTold2, z_sentTold3, z_sentTold4, z_sentTold5, z_dayFor1, z_dayFor2, z_dayFor3, z_dayFor4, z_dayFor5, z_goodAhead1, z_goodAhead2, z_goodAhead3, z_goodAhead4, z_goodAhead5, z_reasons1, z_reasons2, z_reasons3, z_reasons4, z_reasons5, z_rules1, z_rules2, z_rules3, z_rules4, z_rules5, z_states1, z_states2, z_states3, z_states4, z_states5, Option.some.injEq, exists_eq_left', true_and, nj_cl (show k < 2147483648 by omega)]
      refine ⟨fun z => hno (fun y => z (hin.mp y).1), fun z1 => ⟨fun z2 => ?_, fun z2 => hno (fun y => z2 (hin.mp y).2)⟩⟩
      have z2 := Classical.not_not.mp z2
      have hinl := hin.mpr ⟨z1, z2⟩
      refine ⟨ma, s, hI', fun g2 hx2 hby => ?_⟩
      have hI2 := hI'.x hx2 (by decide +kernel)
      obtain ⟨hkd2, hS2⟩ := hI2.1
      obtain ⟨z_dayFor1, z_dayFor2, z_dayFor3, z_dayFor4, z_dayFor5⟩ := hS2 1600 20 200 rfl
      obtain ⟨z_goodAhead1, z_goodAhead2, z_goodAhead3, z_goodAhead4, z_goodAhead5⟩ := hS2 1599 20 200 rfl
      obtain ⟨z_reasons1, z_reasons2, z_reasons3, z_reasons4, z_reasons5⟩ := hS2 1597 20 200 rfl
      obtain ⟨z_rules1, z_rules2, z_rules3, z_rules4, z_rules5⟩ := hS2 1598 20 200 rfl
      obtain ⟨z_states1, z_states2, z_states3, z_states4, z_states5⟩ := hS2 1596 20 200 rfl
      simp (decide := true) only [Gi_sI, Gr_sI, Ia_sI, Ra_sI, La_sI, Kd_sI, Co_sI, Ow_sI, Ln_sI, Lq_sI, Hn_sI, Hu_sI, Gi_sR, Gr_sR, Ia_sR, Ra_sR, La_sR, Kd_sR, Co_sR, Ow_sR, Ln_sR, Lq_sR, Hn_sR, Hu_sR, Gi_sA, Gr_sA, Ia_sA, Ra_sA, La_sA, Kd_sA, Co_sA, Ow_sA, Ln_sA, Lq_sA, Hn_sA, Hu_sA, Gi_sRA, Gr_sRA, Ia_sRA, Ra_sRA, La_sRA, Kd_sRA, Co_sRA, Ow_sRA, Ln_sRA, Lq_sRA, Hn_sRA, Hu_sRA, Gi_sLA, Gr_sLA, Ia_sLA, Ra_sLA, La_sLA, Kd_sLA, Co_sLA, Ow_sLA, Ln_sLA, Lq_sLA, Hn_sLA, Hu_sLA, Gi_sAf, Gr_sAf, Ia_sAf, Ra_sAf, La_sAf, Kd_sAf, Co_sAf, Ow_sAf, Ln_sAf, Lq_sAf, Hn_sAf, Hu_sAf, Gi_sRAf, Gr_sRAf, Ia_sRAf, Ra_sRAf, La_sRAf, Kd_sRAf, Co_sRAf, Ow_sRAf, Ln_sRAf, Lq_sRAf, Hn_sRAf, Hu_sRAf, Gi_sLq, Gr_sLq, Ia_sLq, Ra_sLq, La_sLq, Kd_sLq, Co_sLq, Ow_sLq, Ln_sLq, Lq_sLq, Hn_sLq, Hu_sLq, Gi_nO, Gr_nO, Ia_nO, Ra_nO, La_nO, Kd_nO, Co_nO, Ow_nO, Ln_nO, Lq_nO, Hn_nO, Hu_nO, Gi_nX, Gr_nX, Ia_nX, Ra_nX, La_nX, Kd_nX, Co_nX, Ow_nX, Ln_nX, Lq_nX, Hn_nX, Hu_nX, Gi_nA, Gr_nA, Ia_nA, Ra_nA, La_nA, Kd_nA, Co_nA, Ow_nA, Ln_nA, Lq_nA, Hn_nA, Hu_nA, Gi_mv, Gr_mv, Ia_mv, Ra_mv, La_mv, Kd_mv, Co_mv, Ow_mv, Ln_mv, Lq_mv, Hn_mv, Hu_mv, z_dayFor1, z_dayFor2, z_dayFor3, z_dayFor4, z_dayFor5, z_goodAhead1, z_goodAhead2, z_goodAhead3, z_goodAhead4, z_goodAhead5, z_reasons1, z_reasons2, z_reasons3, z_reasons4, z_reasons5, z_rules1, z_rules2, z_rules3, z_rules4, z_rules5, z_states1, z_states2, z_states3, z_states4, z_states5, hkd2, hb, nj_cl (show k < 2147483648 by omega), forall_eq, true_and, Option.some.injEq, exists_eq_left', and_self, if_true, if_false]
      have hJ2 : JF th g2 s p0 p1 k := hJ.cg (fun c hc => hx2.2.2 c (by simp))
      have hrm2 : Gi g2 1602 th = nI (sRevT s p0 p1 k).length := by rw [hx2.2.1 1602 (by decide)]; exact hrm
      have hP2 : Pil (Ia g2 1601 th) ((sRevT s p0 p1 k).map nI) := by rw [hx2.2.2 1601 (by decide)]; exact hP
      obtain ⟨gW, hgW⟩ : ∃ gW, gW = sA (sA (sA (sA g2 1600 th k (sCome s (nI k) p1).1) 1599 th k 0) 1597 th k (-1)) 1598 th k (-1) := ⟨_, rfl⟩
      rw [← hgW]
      obtain ⟨hmW, hgiW, hroW, hJW, hvW⟩ := markL hgW
      have hfW := hfx.tr ((hx2.up (fs' := [1569, 1570, 1602]) (cs' := [1600, 1599, 1597, 1598, 1596, 1601]) (by decide) (by decide)).tr hmW)
      have hrmW : Gi gW 1602 th = nI (sRevT s p0 p1 k).length := by rw [hgiW]; exact hrm2
      have hPW : Pil (Ia gW 1601 th) ((sRevT s p0 p1 k).map nI) := by rw [hroW]; exact hP2
      refine ⟨fun c1 => ?_, fun c1 => ?_⟩
      · rw [hrm2]
        exact h111 gW hlt c1 hinl hfW (hJ2.st hJW (fun _ => ⟨hvW.1, hvW.2.1, hvW.2.2.1, hvW.2.2.2, fun z => absurd z c1⟩)) hrmW hPW
      · have hIW := hI.x hfW (by decide +kernel)
        have hrs' : sRevT s p0 p1 (k + 1) = sRevT s p0 p1 k := by rw [hrs]; unfold rowS; rw [if_neg (fun z => z.2.2 c1)]
        obtain ⟨hkdW, hSW⟩ := hIW.1
        obtain ⟨z_states1, z_states2, z_states3, z_states4, z_states5⟩ := hSW 1596 20 200 rfl
        have hput : ∀ b : Int32, b = (if sDay s (nI k) 4 p1 = -1 then 0 else 1) → B_M_line_101 Γ K7 K111 K th p0 p1 (nI k) b (nI k) (ma 1596) gW := by
          intro b hbv
          unfold B_M_line_101 B_M_line_179
          rw [z_states2, z_states3, z_states4, z_states5, nj_s, nj_cl (show k < 2147483648 by omega)]
          refine ⟨rfl, hb, ?_⟩
          rintro _ rfl
          refine h7 _ hlt (hfW.tr (FrX.sA (by decide))) (hJ2.st (fun c hc i hi => ?_) (fun _ => ⟨?_, ?_, ?_, ?_, fun _ => ?_⟩)) (by rw [hrs', Gi_sA]; exact hrmW) (by rw [hrs']; exact Pil_set (fun i _ => by simp [Ia_sA]) hPW)
          · rw [← hJW c hc i hi]; simp [Ia_sA, hi]
          · rw [← hvW.1]; simp [Ia_sA]
          · rw [← hvW.2.1]; simp [Ia_sA]
          · rw [← hvW.2.2.1]; simp [Ia_sA]
          · rw [← hvW.2.2.2]; simp [Ia_sA]
          · rw [← hbv]; simp [Ia_sA]
        exact ⟨ma, s, hIW, fun z => hput 0 (by rw [if_pos z]), fun z => hput 1 (by rw [if_neg z])⟩
  · rintro n l0 l1 l2 l3 l4 g' ⟨rfl, rfl, rfl, k, x, pre, t, v, hx, rfl, rfl, rfl, hst, hst', hin, hfx, hJ, hrm, hP⟩
    have hlt := (List.getElem?_eq_some_iff.mp hx).1
    obtain ⟨hmem, hln, _⟩ := revT_ok s p0 p1 k (Nat.le_of_lt hlt)
    have hI' := hI.x hfx (by decide +kernel)
    obtain ⟨hkd, hS⟩ := hI'.1
    obtain ⟨z_dayFor1, z_dayFor2, z_dayFor3, z_dayFor4, z_dayFor5⟩ := hS 1600 20 200 rfl
    obtain ⟨z_row1, z_row2, z_row3, z_row4, z_row5⟩ := hS 1601 20 200 rfl
    have hlen : pre.length + t.length ≤ k := by rw [← List.length_append, ← hst]; exact hln
    have hbt := inB_nI (show t.length < 200 by omega) (by omega)
    have hbk := inB_nI (show k < 200 by omega) (by omega)
    suffices H : ∀ (K7 : Nat → Int32 → Int32 → Int32 → GH → Prop) (K111 : Nat → Int32 → Int32 → Int32 → Int32 → GH → Prop), (∀ g2, FrX th [1569, 1570, 1602] [1600, 1599, 1597, 1598, 1596, 1601] g g2 → JF th g2 s p0 p1 (k + 1) → Gi g2 1602 th = nI (sRevT s p0 p1 (k + 1)).length → Pil (Ia g2 1601 th) ((sRevT s p0 p1 (k + 1)).map nI) → K7 th p0 p1 (nI (k + 1)) g2) → (∀ g2 y t', t = y :: t' → pre ++ rIns (fun i => (sCome s (nI i) p1).1) k t = (pre ++ [y]) ++ rIns (fun i => (sCome s (nI i) p1).1) k t' → FrX th [1569, 1570, 1602] [1600, 1599, 1597, 1598, 1596, 1601] g g2 → JF th g2 s p0 p1 (k + 1) → Gi g2 1602 th = nI (sRevT s p0 p1 k).length → Pil (Ia g2 1601 th) ((pre ++ [y]).map nI ++ nI y :: t'.map nI) → K111 th p0 p1 (nI k) (nI t'.length) g2) → B_M_line_111 Γ K7 K111 K th p0 p1 (nI k) (nI t.length) g' from
      H _ _ (fun g2 h1 h2 h3 h4 => ⟨1000 * ((s_env s).length - (k + 1)), by omega, rfl, rfl, rfl, k + 1, by omega, rfl, rfl, h1, h2, h3, h4⟩)
        (fun g2 y t' ht hr h1 h2 h3 h4 => ⟨1000 * ((s_env s).length - (k + 1)) + t'.length + 1, by rw [ht, List.length_cons]; omega, rfl, rfl, rfl, k, x, pre ++ [y], t', nI y, hx, rfl, rfl, rfl, by rw [hst, ht]; simp, by rw [hst', hr], hin, h1, h2, h3, h4⟩)
    intro K7 K111 h7 h111
    have hend : (rIns (fun i => (sCome s (nI i) p1).1) k t = k :: t) → B_M_line_161 Γ K7 K111 K th p0 p1 (nI k) (nI t.length) g' := by
      intro hr
      unfold B_M_line_161 B_M_line_179
      simp (decide := true) only [Gi_sI, Gr_sI, Ia_sI, Ra_sI, La_sI, Kd_sI, Co_sI, Ow_sI, Ln_sI, Lq_sI, Hn_sI, Hu_sI, Gi_sR, Gr_sR, Ia_sR, Ra_sR, La_sR, Kd_sR, Co_sR, Ow_sR, Ln_sR, Lq_sR, Hn_sR, Hu_sR, Gi_sA, Gr_sA, Ia_sA, Ra_sA, La_sA, Kd_sA, Co_sA, Ow_sA, Ln_sA, Lq_sA, Hn_sA, Hu_sA, Gi_sRA, Gr_sRA, Ia_sRA, Ra_sRA, La_sRA, Kd_sRA, Co_sRA, Ow_sRA, Ln_sRA, Lq_sRA, Hn_sRA, Hu_sRA, Gi_sLA, Gr_sLA, Ia_sLA, Ra_sLA, La_sLA, Kd_sLA, Co_sLA, Ow_sLA, Ln_sLA, Lq_sLA, Hn_sLA, Hu_sLA, Gi_sAf, Gr_sAf, Ia_sAf, Ra_sAf, La_sAf, Kd_sAf, Co_sAf, Ow_sAf, Ln_sAf, Lq_sAf, Hn_sAf, Hu_sAf, Gi_sRAf, Gr_sRAf, Ia_sRAf, Ra_sRAf, La_sRAf, Kd_sRAf, Co_sRAf, Ow_sRAf, Ln_sRAf, Lq_sRAf, Hn_sRAf, Hu_sRAf, Gi_sLq, Gr_sLq, Ia_sLq, Ra_sLq, La_sLq, Kd_sLq, Co_sLq, Ow_sLq, Ln_sLq, Lq_sLq, Hn_sLq, Hu_sLq, Gi_nO, Gr_nO, Ia_nO, Ra_nO, La_nO, Kd_nO, Co_nO, Ow_nO, Ln_nO, Lq_nO, Hn_nO, Hu_nO, Gi_nX, Gr_nX, Ia_nX, Ra_nX, La_nX, Kd_nX, Co_nX, Ow_nX, Ln_nX, Lq_nX, Hn_nX, Hu_nX, Gi_nA, Gr_nA, Ia_nA, Ra_nA, La_nA, Kd_nA, Co_nA, Ow_nA, Ln_nA, Lq_nA, Hn_nA, Hu_nA, Gi_mv, Gr_mv, Ia_mv, Ra_mv, La_mv, Kd_mv, Co_mv, Ow_mv, Ln_mv, Lq_mv, Hn_mv, Hu_mv, z_dayFor1, z_dayFor2, z_dayFor3, z_dayFor4, z_dayFor5, z_row1, z_row2, z_row3, z_row4, z_row5, hkd, hbt, hrm, nj_s, nj_cl (show t.length < 2147483648 by omega), forall_eq, true_and, Option.some.injEq, exists_eq_left', and_self, if_true, if_false]
      refine h7 _ (hfx.tr ((FrX.sA (by decide)).tr (FrX.sI (by decide)))) (hJ.cg (fun c hc => ?_)) ?_ ?_
      · have hc' : c ≠ 1601 := by rintro rfl; revert hc; decide
        funext i; simp [Ia_sA, Ia_sI, hc']
      · rw [hst', hst, hr, List.length_append, List.length_append, List.length_cons]; simp only [Gi_sI, and_self, if_true, Nat.add_assoc]
      · rw [hst', hr, List.map_append, List.map_cons]
        refine Pil_ins (v := v) ?_ (fun i hi => ?_) hP
        · simp [Ia_sA, Ia_sI]
        · rw [List.length_map] at hi; simp [Ia_sA, Ia_sI, hi]
    unfold B_M_line_111
    cases t with
    | nil => exact ⟨fun _ => hend rfl, fun q => absurd (show nI 0 ≤ 0 by decide) q⟩
    | cons y t' =>
      simp only [List.length_cons] at hlen hbt ⊢
      have hyin : y ∈ sRevT s p0 p1 k := by rw [hst]; simp
      obtain ⟨hyk, hyl, hyc⟩ := (hmem y).mp hyin
      have hby := inB_nI (show y < 200 by omega) (by omega)
      have hbt' := inB_nI (show t'.length < 200 by omega) (by omega)
      have hry : Ia g' 1601 th t'.length = nI y := by
        have : ∀ (pre : List Int32), Pil (Ia g' 1601 th) (pre ++ v :: (nI y :: t'.map nI)) → Ia g' 1601 th (t'.map nI).length = nI y := by
          intro pre
          induction pre with
          | nil => intro h; exact h.2.1
          | cons a pre ih => intro h; exact ih h.2
        have := this _ hP
        rw [List.length_map] at this; exact this
      have hdy := (hJ y (by omega) hyl).1
      have hdk := (hJ k (by omega) hin).1
      simp (decide := true) only [Gi_sI, Gr_sI, Ia_sI, Ra_sI, La_sI, Kd_sI, Co_sI, Ow_sI, Ln_sI, Lq_sI, Hn_sI, Hu_sI, Gi_sR, Gr_sR, Ia_sR, Ra_sR, La_sR, Kd_sR, Co_sR, Ow_sR, Ln_sR, Lq_sR, Hn_sR, Hu_sR, Gi_sA, Gr_sA, Ia_sA, Ra_sA, La_sA, Kd_sA, Co_sA, Ow_sA, Ln_sA, Lq_sA, Hn_sA, Hu_sA, Gi_sRA, Gr_sRA, Ia_sRA, Ra_sRA, La_sRA, Kd_sRA, Co_sRA, Ow_sRA, Ln_sRA, Lq_sRA, Hn_sRA, Hu_sRA, Gi_sLA, Gr_sLA, Ia_sLA, Ra_sLA, La_sLA, Kd_sLA, Co_sLA, Ow_sLA, Ln_sLA, Lq_sLA, Hn_sLA, Hu_sLA, Gi_sAf, Gr_sAf, Ia_sAf, Ra_sAf, La_sAf, Kd_sAf, Co_sAf, Ow_sAf, Ln_sAf, Lq_sAf, Hn_sAf, Hu_sAf, Gi_sRAf, Gr_sRAf, Ia_sRAf, Ra_sRAf, La_sRAf, Kd_sRAf, Co_sRAf, Ow_sRAf, Ln_sRAf, Lq_sRAf, Hn_sRAf, Hu_sRAf, Gi_sLq, Gr_sLq, Ia_sLq, Ra_sLq, La_sLq, Kd_sLq, Co_sLq, Ow_sLq, Ln_sLq, Lq_sLq, Hn_sLq, Hu_sLq, Gi_nO, Gr_nO, Ia_nO, Ra_nO, La_nO, Kd_nO, Co_nO, Ow_nO, Ln_nO, Lq_nO, Hn_nO, Hu_nO, Gi_nX, Gr_nX, Ia_nX, Ra_nX, La_nX, Kd_nX, Co_nX, Ow_nX, Ln_nX, Lq_nX, Hn_nX, Hu_nX, Gi_nA, Gr_nA, Ia_nA, Ra_nA, La_nA, Kd_nA, Co_nA, Ow_nA, Ln_nA, Lq_nA, Hn_nA, Hu_nA, Gi_mv, Gr_mv, Ia_mv, Ra_mv, La_mv, Kd_mv, Co_mv, Ow_mv, Ln_mv, Lq_mv, Hn_mv, Hu_mv, z_dayFor1, z_dayFor2, z_dayFor3, z_dayFor4, z_dayFor5, z_row1, z_row2, z_row3, z_row4, z_row5, hkd, hbt, hbt', hbk, hby, hry, hdy, hdk, nj_p, nj_m, nj_cl (show t'.length < 2147483648 by omega), nj_cl (show t'.length + 1 < 2147483648 by omega), nj_cl (show y < 2147483648 by omega), nj_cl (show k < 2147483648 by omega), forall_eq, true_and, Option.some.injEq, exists_eq_left', and_self, if_true, if_false]
      refine ⟨fun q => absurd ((nj_le (b := 0) (by omega) (by omega)).mp q) (by omega), fun _ => ⟨fun q => hend (by unfold rIns; rw [if_pos q]), fun q => ?_⟩⟩
      refine h111 _ y t' rfl ?_ (hfx.tr (FrX.sA (by decide))) (hJ.cg (fun c hc => ?_)) (by rw [Gi_sA]; exact hrm) ?_
      · rw [show rIns (fun i => (sCome s (nI i) p1).1) k (y :: t') = y :: rIns (fun i => (sCome s (nI i) p1).1) k t' from by conv => lhs; unfold rIns; rw [if_neg q]]
        simp
      · have hc' : c ≠ 1601 := by rintro rfl; revert hc; decide
        funext i; simp [Ia_sA, hc']
      · rw [List.map_append, List.append_assoc]
        refine Pil_ins (v := v) ?_ (fun i hi => ?_) hP
        · simp [Ia_sA]
        · have hi : i ≠ t'.length + 1 := by simpa using hi
          simp [Ia_sA, hi]
  · unfold B_M_line_0
    refine ⟨hI.1.1, ?_⟩
    rintro _ rfl
    have h0 : sRevT s p0 p1 0 = [] := by simp [sRevT]
    refine ⟨_, rfl, rfl, rfl, 0, Nat.zero_le _, rfl, nj_0, FrX.sI (by decide), fun e he => absurd he (Nat.not_lt_zero _), ?_, ?_⟩
    · rw [h0]; simp only [Gi_sI, and_self, if_true]; exact nj_0
    · rw [h0]; exact trivial
