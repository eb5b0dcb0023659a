/-! the class: its post judges a voter -/
def OUTV (D : DIR) (s : ST) (v a : Nat) : Prop := (d_vs D)[v]? ≠ some a ∧ (∀ (e : Nat) (y : Em), (s_env s)[e]? = some y → y.1 = nI v → (d_es D)[e]? ≠ some a) ∧ a ≠ d_ju D
def SAM (a : Nat) (g g' : GH) : Prop := (∀ f, 128 ≤ f → Gi g' f a = Gi g f a) ∧ ∀ c, 128 ≤ c → (c < 998 ∨ 1000 < c) → Ia g' c a = Ia g c a
theorem SAM.tr {a : Nat} {g g1 g2 : GH} (h : SAM a g g1) (k : SAM a g1 g2) : SAM a g g2 := ⟨fun f hf => (k.1 f hf).trans (h.1 f hf), fun c h1 h2 => (k.2 c h1 h2).trans (h.2 c h1 h2)⟩
theorem SAM.rf {a : Nat} {g : GH} : SAM a g g := ⟨fun _ _ => rfl, fun _ _ _ => rfl⟩
theorem FrX.sam {m a : Nat} {fs cs : List Nat} {g g' : GH} (h : FrX m fs cs g g') (hn : a ≠ m) : SAM a g g' := ⟨fun f _ => h.1.1 f a hn, fun c _ _ => h.1.2.2.1 c a hn⟩
theorem Fr.sam {als : List Nat} {g g' : GH} {a : Nat} (k : Fr [] [] als g g') (ha : a < Hn g) : SAM a g g' := ⟨fun f hf => k.gi ha (by simp) hf, fun c h1 h2 => (k.2.2.1 c a ha (by simp) h2 (fun z => by omega)).1⟩
theorem FrQQ.sam {x ju a : Nat} {g g' : GH} (h : FrQQ (dP x ju) (dQ ju) g g') (h1 : a ≠ x) (h2 : a ≠ ju) : SAM a g g' :=
  ⟨fun f _ => h.1 f a (fun z => z.elim (fun z => h1 z.1) (fun z => h2 z.1)), fun c _ _ => h.2.2.1 c a (fun z => h2 z.1)⟩
def FV (D : DIR) (s : ST) (v : Nat) (g g' : GH) : Prop := FC D g g' ∧ ∀ a, a < Hn g → OUTV D s v a → SAM a g g'
theorem FV.rf {D : DIR} {s : ST} {v : Nat} {g : GH} (h : EN g) : FV D s v g g := ⟨FC.rf h, fun _ _ _ => SAM.rf⟩
theorem FV.tr {D : DIR} {s : ST} {v : Nat} {g g1 g2 : GH} (h : FV D s v g g1) (k : FV D s v g1 g2) : FV D s v g g2 :=
  ⟨h.1.tr k.1, fun a ha ho => (h.2 a ha ho).tr (k.2 a (Nat.lt_of_lt_of_le ha h.1.1.hn) ho)⟩
theorem FV.x {D : DIR} {s : ST} {v m : Nat} {fs cs : List Nat} {g g' : GH} (h : FrX m fs cs g g') (hk : EN g) (h1 : ∀ f ∈ fs, f ∈ cFS) (h2 : ∀ c ∈ cs, c ∈ cCS) (hm : ¬ OUTV D s v m) : FV D s v g g' :=
  ⟨FC.x h hk h1 h2, fun a _ ho => h.sam (fun e => hm (by rw [← e]; exact ho))⟩
theorem AC.x {Γ : GAM} {g g' : GH} {m al : Nat} {xs : List Nat} {fs cs : List Nat} (h : AC Γ g al xs) (k : FrX m fs cs g g') (hk : EN g) (hp : PF fs cs) : AC Γ g' al xs :=
  h.fr (FrX.fr (als := []) k hk) (by simp) (hp.1 _ (by decide)) (hp.2 _ (by decide))
theorem AC.sz {Γ : GAM} {g : GH} {al n : Nat} {xs : List Nat} (h : AC Γ g al xs) (e : xs.length = n) {K : Int32 → GH → Prop} (hK : K (nI n) g) : Sp_AL_size Γ al g K := by
  refine ⟨h.1.2, ?_⟩
  rw [h.2.1, e]; exact hK
/-- an envelope that has been settled, and judged if it is among the first k of the line -/
def EJ (s : ST) (v : Nat) (q : Int32) (k : Nat) (g : GH) (e x : Nat) (y : Em) : Prop := (¬ y.2.2.1 ≤ q → Gi g 140 x = -1) ∧ (y.2.2.1 ≤ q → (ENV s e q x g ∧ ECM s e q x g) ∧ Gi g 141 x = ((sJu s (nI v) q k).1 e).2.1 ∧ Gi g 142 x = ((sJu s (nI v) q k).1 e).2.2.1 ∧ Gi g 139 x = ((sJu s (nI v) q k).1 e).2.2.2 ∧ (cmO s q e = -1 ∨ e ∈ (sRow s (nI v) q).take k → Gi g 140 x = ((sJu s (nI v) q k).1 e).1))
theorem ENV.sam {s : ST} {e x : Nat} {q : Int32} {g g' : GH} (h : ENV s e q x g) (k : SAM x g g') : ENV s e q x g' := by
  unfold ENV at h ⊢
  rw [k.2 _ (by decide) (by decide), k.2 _ (by decide) (by decide)]
  exact h
theorem ECM.sam {s : ST} {e x : Nat} {q : Int32} {g g' : GH} (h : ECM s e q x g) (k : SAM x g g') : ECM s e q x g' := by
  unfold ECM at h ⊢
  rw [k.1 _ (by decide), k.1 _ (by decide)]
  exact h
theorem EJ.sam {s : ST} {v e x k : Nat} {q : Int32} {g g' : GH} {y : Em} (h : EJ s v q k g e x y) (w : SAM x g g') : EJ s v q k g' e x y := by
  obtain ⟨h1, h2⟩ := h
  refine ⟨fun z => by rw [w.1 _ (by decide)]; exact h1 z, fun z => ?_⟩
  obtain ⟨⟨a1, a2⟩, a3, a4, a5, a6⟩ := h2 z
  exact ⟨⟨a1.sam w, a2.sam w⟩, by rw [w.1 _ (by decide)]; exact a3, by rw [w.1 _ (by decide)]; exact a4, by rw [w.1 _ (by decide)]; exact a5, fun u => by rw [w.1 _ (by decide)]; exact a6 u⟩
theorem EJ.ini {s : ST} {v e x : Nat} {q : Int32} {g : GH} {y : Em} (h1 : ENV s e q x g) (h2 : ECM s e q x g) (h3 : Gi g 139 x = 0) (h4 : Gi g 141 x = -1) (h5 : Gi g 142 x = -1) (h6 : cmO s q e = -1 → Gi g 140 x = if sDay s (nI e) 4 q = -1 then 0 else 1) (ht : y.2.2.1 ≤ q) : EJ s v q 0 g e x y :=
  ⟨fun z => absurd ht z, fun _ => ⟨⟨h1, h2⟩, h4, h5, h3, fun u => u.elim h6 (fun z => by rw [List.take_zero] at z; cases z)⟩⟩
theorem EJ.out {s : ST} {v e x k a : Nat} {q : Int32} {g : GH} {y : Em} (h : EJ s v q k g e x y) (ha : (sRow s (nI v) q)[k]? = some a) (hne : e ≠ a) : EJ s v q (k + 1) g e x y := by
  have e1 : (sJu s (nI v) q (k + 1)).1 e = (sJu s (nI v) q k).1 e := by
    rw [sJu_s ha]
    show (if e = a then _ else _) = _
    rw [if_neg hne]
  have ht : (sRow s (nI v) q).take (k + 1) = (sRow s (nI v) q).take k ++ [a] := by rw [List.take_succ, ha]; rfl
  unfold EJ at h ⊢
  rw [e1, ht]
  refine ⟨h.1, fun z => ?_⟩
  obtain ⟨a1, a3, a4, a5, a6⟩ := h.2 z
  refine ⟨a1, a3, a4, a5, fun u => a6 ?_⟩
  rcases u with u | u
  · exact .inl u
  · rcases List.mem_append.mp u with u | u
    · exact .inr u
    · exact absurd (List.mem_singleton.mp u) hne
theorem EJ.one {s : ST} {v e x k : Nat} {q : Int32} {g : GH} {y : Em} (he : (sRow s (nI v) q)[k]? = some e) (h1 : ENV s e q x g) (h2 : ECM s e q x g) (h3 : Gi g 139 x = (sJu s (nI v) q k).2) (h4 : (Gi g 140 x, Gi g 141 x, Gi g 142 x) = sOne s (nI e) q (sJu s (nI v) q k).2) (ht : y.2.2.1 ≤ q) : EJ s v q (k + 1) g e x y := by
  have e1 : (sJu s (nI v) q (k + 1)).1 e = ((sOne s (nI e) q (sJu s (nI v) q k).2).1, (sOne s (nI e) q (sJu s (nI v) q k).2).2.1, (sOne s (nI e) q (sJu s (nI v) q k).2).2.2, (sJu s (nI v) q k).2) := by
    rw [sJu_s he]
    show (if e = e then _ else _) = _
    rw [if_pos rfl]
  unfold EJ
  rw [e1, ← h4]
  exact ⟨fun z => absurd ht z, fun _ => ⟨⟨h1, h2⟩, rfl, rfl, h3, fun _ => rfl⟩⟩
theorem vstk_s {s : ST} {v i : Nat} {q : Int32} {p : Em × Nat} (hp : (VPS s v)[i]? = some p) : vstk s v q (i + 1) = rowS s (nI v) q (vstk s v q i) p := by
  unfold vstk
  rw [fold_take _ _ _ hp]
/-- a voter judged: what stands in its object and its envelopes' -/
def JV (D : DIR) (s : ST) (v : Nat) (q : Int32) (g : GH) : Prop := (∀ w, (d_vs D)[v]? = some w → Gi g 1285 w = sSent s (nI v) q ∧ Gi g 1288 w = sBooth s (nI v) q ∧ Gi g 1286 w = (sJu s (nI v) q (sRow s (nI v) q).length).2 ∧ Gi g 1287 w = oN (sFG s (nI v) q)) ∧
  ∀ (e : Nat) (y : Em) (x : Nat), (s_env s)[e]? = some y → y.1 = nI v → (d_es D)[e]? = some x → EJ s v q (sRow s (nI v) q).length g e x y
theorem JV.fv {D : DIR} {s : ST} {v v' : Nat} {q : Int32} {g g' : GH} (h : JV D s v q g) (k : FV D s v' g g') (hne : v ≠ v') (hvl : v < 60) (hvl' : v' < 60) (hlt : (∀ w, (d_vs D)[v]? = some w → w < Hn g ∧ OUTV D s v' w) ∧ ∀ (e : Nat) (y : Em) (x : Nat), (s_env s)[e]? = some y → y.1 = nI v → (d_es D)[e]? = some x → x < Hn g ∧ OUTV D s v' x) : JV D s v q g' := by
  refine ⟨fun w hw => ?_, fun e y x he hy hx => (h.2 e y x he hy hx).sam (k.2 x (hlt.2 e y x he hy hx).1 (hlt.2 e y x he hy hx).2)⟩
  have := k.2 w (hlt.1 w hw).1 (hlt.1 w hw).2
  rw [this.1 _ (by decide), this.1 _ (by decide), this.1 _ (by decide), this.1 _ (by decide)]
  exact h.1 w hw
theorem PoI.vne {Γ : GAM} {D : DIR} {g : GH} {s : ST} (h : PoI Γ D g s) {v e w x : Nat} (hw : (d_vs D)[v]? = some w) (hx : (d_es D)[e]? = some x) : w ≠ x ∧ w ≠ d_ju D ∧ x ≠ d_ju D := by
  obtain ⟨_, _, _, hV, _⟩ := h.2.2.2.1.2.2.1 v w hw
  obtain ⟨_, _, _, _, _, hE, _⟩ := h.2.2.2.2.1.2.2 e x hx
  have hj := h.2.2.2.2.2.2.2.1.2
  have h1 := hV.1.2
  have h2 := hE.1.2
  refine ⟨fun z => ?_, fun z => ?_, fun z => ?_⟩
  · rw [z] at h1; omega
  · rw [z] at h1; omega
  · rw [z] at h2; omega
theorem PoI.vju {Γ : GAM} {D : DIR} {g : GH} {s : ST} (h : PoI Γ D g s) {v w : Nat} (hw : (d_vs D)[v]? = some w) : w ≠ d_ju D := by
  obtain ⟨_, _, _, hV, _⟩ := h.2.2.2.1.2.2.1 v w hw
  have hj := h.2.2.2.2.2.2.2.1.2
  have h1 := hV.1.2
  intro z
  rw [z] at h1; omega
theorem PoI.einj {Γ : GAM} {D : DIR} {g : GH} {s : ST} (h : PoI Γ D g s) (hl : (s_env s).length ≤ 200) {e e' x : Nat} (hx : (d_es D)[e]? = some x) (hx' : (d_es D)[e']? = some x) : e = e' := (h.2.2.2.2.1.2.2 e x hx).inj (h.2.2.2.2.1.2.2 e' x hx') hl
def Sp_Po_judgeOf (Γ : GAM) (m x : Nat) (q : Int32) (g : GH) (K : GH → Prop) : Prop := ∃ D s v, d_p D = m ∧ PoI Γ D g s ∧ WF s ∧ (0 ≤ q ∧ q ≤ s_now s) ∧ (d_vs D)[v]? = some x ∧ COM Γ D g ∧ RC Γ D g ∧ ∀ g', FV D s v g g' → COM Γ D g' → JV D s v q g' → K g'
-- the walk of Po_judgeOf
set_option maxRecDepth 100000 in
def B_Po_judgeOf_171 (Γ : GAM) (K14 : Nat → Nat → Int32 → Int32 → GH → Prop) (K86 : Nat → Nat → Int32 → Int32 → GH → Prop) (K : GH → Prop) (l0 : Nat) (l1 : Nat) (l2 : Int32) (l3 : Int32) (g : GH) : Prop :=
  K86 l0 l1 l2 (l3 + (1 : Int32)) g
set_option maxHeartbeats 4000000 in
set_option maxRecDepth 100000 in
theorem S_Po_judgeOf_171 {Γ : GAM} {E : EV} {K : GH → Prop} (hE : GE Γ E cX4_judgeOf 5 RX4 none 8 352 (fun r g' => r = none ∧ K g')) {K14 : Nat → Nat → Int32 → Int32 → GH → Prop} {K86 : Nat → Nat → Int32 → Int32 → GH → Prop} (hK14 : ∀ (l0 : Nat) (l1 : Nat) (l2 : Int32) (l3 : Int32) (g : GH), K14 l0 l1 l2 l3 g → JW Γ E 14 [some (.ref l0), some (.ref l1), some (.int l2), some (.int l3), none] [] g) (hK86 : ∀ (l0 : Nat) (l1 : Nat) (l2 : Int32) (l3 : Int32) (g : GH), K86 l0 l1 l2 l3 g → JW Γ E 86 [some (.ref l0), some (.ref l1), some (.int l2), some (.int l3), none] [] g) (l0 : Nat) (l1 : Nat) (l2 : Int32) (l3 : Int32) (g : GH) (h : B_Po_judgeOf_171 Γ K14 K86 K l0 l1 l2 l3 g) : JW Γ E 171 [some (.ref l0), some (.ref l1), some (.int l2), some (.int l3), none] [] g := by
  unfold B_Po_judgeOf_171 at h
  refine j_iinc hE (by decide +kernel : decode cX4_judgeOf 171 = .ok (.iinc 3 1, 3)) (v := (1 : Int32)) (by decide) rfl (Nat.le_of_ble_eq_true rfl) rfl ?_
  refine j_goto hE (by decide +kernel : decode cX4_judgeOf 174 = .ok (.goto (-88), 3)) (tgt := 86) (by decide) ?_
  exact hK86 _ _ _ _ _ h
set_option maxRecDepth 100000 in
def B_Po_judgeOf_158 (Γ : GAM) (K14 : Nat → Nat → Int32 → Int32 → GH → Prop) (K86 : Nat → Nat → Int32 → Int32 → GH → Prop) (K : GH → Prop) (l0 : Nat) (l1 : Nat) (l2 : Int32) (l3 : Int32) (s0 : Int32) (s1 : Nat) (g : GH) : Prop :=
  Kd g s1 = 11 ∧ ∀ g1 : GH, g1 = sI g 1287 s1 s0 → Kd g1 l1 = 11 ∧ Kd g1 l1 = 11 ∧ ∀ g2 : GH, g2 = sI g1 1286 l1 ((Gi g1 1286 l1) + (1 : Int32)) → B_Po_judgeOf_171 Γ K14 K86 K l0 l1 l2 l3 g2
set_option maxHeartbeats 4000000 in
set_option maxRecDepth 100000 in
theorem S_Po_judgeOf_158 {Γ : GAM} {E : EV} {K : GH → Prop} (hE : GE Γ E cX4_judgeOf 5 RX4 none 8 352 (fun r g' => r = none ∧ K g')) {K14 : Nat → Nat → Int32 → Int32 → GH → Prop} {K86 : Nat → Nat → Int32 → Int32 → GH → Prop} (hK14 : ∀ (l0 : Nat) (l1 : Nat) (l2 : Int32) (l3 : Int32) (g : GH), K14 l0 l1 l2 l3 g → JW Γ E 14 [some (.ref l0), some (.ref l1), some (.int l2), some (.int l3), none] [] g) (hK86 : ∀ (l0 : Nat) (l1 : Nat) (l2 : Int32) (l3 : Int32) (g : GH), K86 l0 l1 l2 l3 g → JW Γ E 86 [some (.ref l0), some (.ref l1), some (.int l2), some (.int l3), none] [] g) (l0 : Nat) (l1 : Nat) (l2 : Int32) (l3 : Int32) (s0 : Int32) (s1 : Nat) (g : GH) (h : B_Po_judgeOf_158 Γ K14 K86 K l0 l1 l2 l3 s0 s1 g) : JW Γ E 158 [some (.ref l0), some (.ref l1), some (.int l2), some (.int l3), none] [.int s0, .ref s1] g := by
  unfold B_Po_judgeOf_158 at h
  obtain ⟨hk, h⟩ := h
  obtain ⟨g1, hg⟩ : ∃ z, z = sI g 1287 s1 s0 := ⟨_, rfl⟩; replace h := h g1 hg
  refine j_putI hE fa_X4_128 hk (fun q => by cases q) (by decide +kernel : decode cX4_judgeOf 158 = .ok (.putfield 128, 3)) ?_
  rw [← hg]
  refine j_aload_n hE (by decide +kernel : decode cX4_judgeOf 161 = .ok (.aload_n 1, 1)) rfl rfl ?_
  refine j_dup hE (by decide +kernel : decode cX4_judgeOf 162 = .ok (.dup, 1)) rfl ?_
  obtain ⟨hk, h⟩ := h
  refine j_getI hE fg_X4_113 hk (by decide +kernel : decode cX4_judgeOf 163 = .ok (.getfield 113, 3)) ?_
  refine j_iconst hE (by decide +kernel : decode cX4_judgeOf 166 = .ok (.iconst 1, 1)) (v := (1 : Int32)) (by decide) ?_
  refine j_iadd hE (by decide +kernel : decode cX4_judgeOf 167 = .ok (.iadd, 1)) ?_
  obtain ⟨hk, h⟩ := h
  obtain ⟨g2, hg⟩ : ∃ z, z = sI g1 1286 l1 ((Gi g1 1286 l1) + (1 : Int32)) := ⟨_, rfl⟩; replace h := h g2 hg
  refine j_putI hE fa_X4_113 hk (fun q => by cases q) (by decide +kernel : decode cX4_judgeOf 168 = .ok (.putfield 113, 3)) ?_
  rw [← hg]
  exact S_Po_judgeOf_171 hE hK14 hK86 _ _ _ _ _ h
set_option maxRecDepth 100000 in
def B_Po_judgeOf_86 (Γ : GAM) (K14 : Nat → Nat → Int32 → Int32 → GH → Prop) (K86 : Nat → Nat → Int32 → Int32 → GH → Prop) (K : GH → Prop) (l0 : Nat) (l1 : Nat) (l2 : Int32) (l3 : Int32) (g : GH) : Prop :=
  Kd g l0 = 6 ∧ ∃ a1 : Nat, Gr g 644 l0 = some a1 ∧ Kd g a1 = 1 ∧ Sp_AL_size Γ a1 g (fun (x3 : Int32) (g2 : GH) => ((x3 ≤ l3 → K g2) ∧ (¬ (x3 ≤ l3) → Kd g2 l0 = 6 ∧ ∃ a4 : Nat, Gr g2 644 l0 = some a4 ∧ Kd g2 a4 = 1 ∧ Sp_AL_get Γ a4 l3 g2 (fun (a6 : Nat) (g5 : GH) => Kd g5 a6 = 2 ∧ Kd g5 l1 = 11 ∧ Kd g5 a6 = 2 ∧ ∀ g7 : GH, g7 = sI g5 139 a6 (Gi g5 1286 l1) → Kd g7 l0 = 6 ∧ ∃ a8 : Nat, Gr g7 643 l0 = some a8 ∧ Kd g7 a8 = 4 ∧ Sp_Ju_decide Γ a8 a6 l2 g7 (fun (g9 : GH) => Kd g9 a6 = 2 ∧ ((¬ ((Gi g9 140 a6) = (2 : Int32)) → B_Po_judgeOf_171 Γ K14 K86 K l0 l1 l2 l3 g9) ∧ ((Gi g9 140 a6) = (2 : Int32) → Kd g9 l1 = 11 ∧ ((¬ ((Gi g9 1286 l1) = 0) → Kd g9 l1 = 11 ∧ B_Po_judgeOf_158 Γ K14 K86 K l0 l1 l2 l3 (Gi g9 1287 l1) l1 g9) ∧ ((Gi g9 1286 l1) = 0 → Kd g9 a6 = 2 ∧ B_Po_judgeOf_158 Γ K14 K86 K l0 l1 l2 l3 (Gi g9 128 a6) l1 g9)))))))))
set_option maxHeartbeats 4000000 in
set_option maxRecDepth 100000 in
theorem S_Po_judgeOf_86 {Γ : GAM} {E : EV} {K : GH → Prop} (hE : GE Γ E cX4_judgeOf 5 RX4 none 8 352 (fun r g' => r = none ∧ K g')) {K14 : Nat → Nat → Int32 → Int32 → GH → Prop} {K86 : Nat → Nat → Int32 → Int32 → GH → Prop} (hK14 : ∀ (l0 : Nat) (l1 : Nat) (l2 : Int32) (l3 : Int32) (g : GH), K14 l0 l1 l2 l3 g → JW Γ E 14 [some (.ref l0), some (.ref l1), some (.int l2), some (.int l3), none] [] g) (hK86 : ∀ (l0 : Nat) (l1 : Nat) (l2 : Int32) (l3 : Int32) (g : GH), K86 l0 l1 l2 l3 g → JW Γ E 86 [some (.ref l0), some (.ref l1), some (.int l2), some (.int l3), none] [] g) (l0 : Nat) (l1 : Nat) (l2 : Int32) (l3 : Int32) (g : GH) (h : B_Po_judgeOf_86 Γ K14 K86 K l0 l1 l2 l3 g) : JW Γ E 86 [some (.ref l0), some (.ref l1), some (.int l2), some (.int l3), none] [] g := by
  unfold B_Po_judgeOf_86 at h
  refine j_iload_n hE (by decide +kernel : decode cX4_judgeOf 86 = .ok (.iload_n 3, 1)) rfl rfl ?_
  refine j_aload_n hE (by decide +kernel : decode cX4_judgeOf 87 = .ok (.aload_n 0, 1)) rfl rfl ?_
  obtain ⟨hk, h⟩ := h
  obtain ⟨a1, ha, h⟩ := h
  refine j_getRn hE fg_X4_31 hk ha (by decide +kernel : decode cX4_judgeOf 88 = .ok (.getfield 31, 3)) ?_
  obtain ⟨hk, h⟩ := h
  refine j_callV hE rfl cl_X4_34 cf_0 im_Jx4a65c_size_8abf5 se_Jx4a65c_size_8abf5 ⟨by omega, by omega⟩ (As := []) (rest := [.int l3]) rfl rfl (Nat.le_of_ble_eq_true rfl) hk (by decide +kernel : decode cX4_judgeOf 91 = .ok (.invokevirtual 34, 3)) (mt_AL_size _ _ _ h) ?_
  rintro _ g2 ⟨x3, rfl, h⟩
  refine j_icmp_ge hE (by decide +kernel : decode cX4_judgeOf 94 = .ok (.if_icmp .ge 83, 3)) (tgt := 177) (by decide) (fun q => ?_) (fun q => ?_)
  · replace h := h.1 q
    exact j_vret hE (by decide +kernel : decode cX4_judgeOf 177 = .ok (.return_, 1)) ⟨rfl, h⟩
  · replace h := h.2 q
    refine j_aload_n hE (by decide +kernel : decode cX4_judgeOf 97 = .ok (.aload_n 0, 1)) rfl rfl ?_
    obtain ⟨hk, h⟩ := h
    obtain ⟨a4, ha, h⟩ := h
    refine j_getRn hE fg_X4_31 hk ha (by decide +kernel : decode cX4_judgeOf 98 = .ok (.getfield 31, 3)) ?_
    refine j_iload_n hE (by decide +kernel : decode cX4_judgeOf 101 = .ok (.iload_n 3, 1)) rfl rfl ?_
    obtain ⟨hk, h⟩ := h
    refine j_callV hE rfl cl_X4_42 cf_0 im_Jx4a65c_get_915e3 se_Jx4a65c_get_915e3 ⟨by omega, by omega⟩ (As := [.int l3]) (rest := []) rfl rfl (Nat.le_of_ble_eq_true rfl) hk (by decide +kernel : decode cX4_judgeOf 102 = .ok (.invokevirtual 42, 3)) (mt_AL_get _ _ _ _ h) ?_
    rintro _ g5 ⟨a6, rfl, h⟩
    obtain ⟨hk, h⟩ := h
    refine j_cast hE cf_1 ck_X4_48 hk (by decide +kernel : decode cX4_judgeOf 105 = .ok (.checkcast 48, 3)) ?_
    refine j_astore hE (by decide +kernel : decode cX4_judgeOf 108 = .ok (.astore 4, 2)) (Nat.le_of_ble_eq_true rfl) rfl ?_
    refine j_aload hE (by decide +kernel : decode cX4_judgeOf 110 = .ok (.aload 4, 2)) rfl ?_
    refine j_aload_n hE (by decide +kernel : decode cX4_judgeOf 112 = .ok (.aload_n 1, 1)) rfl rfl ?_
    obtain ⟨hk, h⟩ := h
    refine j_getI hE fg_X4_113 hk (by decide +kernel : decode cX4_judgeOf 113 = .ok (.getfield 113, 3)) ?_
    obtain ⟨hk, h⟩ := h
    obtain ⟨g7, hg⟩ : ∃ z, z = sI g5 139 a6 (Gi g5 1286 l1) := ⟨_, rfl⟩; replace h := h g7 hg
    refine j_putI hE fa_X4_116 hk (fun q => by cases q) (by decide +kernel : decode cX4_judgeOf 116 = .ok (.putfield 116, 3)) ?_
    rw [← hg]
    refine j_aload_n hE (by decide +kernel : decode cX4_judgeOf 119 = .ok (.aload_n 0, 1)) rfl rfl ?_
    obtain ⟨hk, h⟩ := h
    obtain ⟨a8, ha, h⟩ := h
    refine j_getRn hE fg_X4_27 hk ha (by decide +kernel : decode cX4_judgeOf 120 = .ok (.getfield 27, 3)) ?_
    refine j_aload hE (by decide +kernel : decode cX4_judgeOf 123 = .ok (.aload 4, 2)) rfl ?_
    refine j_iload_n hE (by decide +kernel : decode cX4_judgeOf 125 = .ok (.iload_n 2, 1)) rfl rfl ?_
    obtain ⟨hk, h⟩ := h
    refine j_callV hE rfl cl_X4_119 cf_3 im_X2_decide se_X2_decide ⟨by omega, by omega⟩ (As := [.ref a6, .int l2]) (rest := []) rfl rfl (Nat.le_of_ble_eq_true rfl) hk (by decide +kernel : decode cX4_judgeOf 126 = .ok (.invokevirtual 119, 3)) (mt_Ju_decide _ _ _ _ _ h) ?_
    rintro _ g9 ⟨rfl, h⟩
    refine j_aload hE (by decide +kernel : decode cX4_judgeOf 129 = .ok (.aload 4, 2)) rfl ?_
    obtain ⟨hk, h⟩ := h
    refine j_getI hE fg_X4_122 hk (by decide +kernel : decode cX4_judgeOf 131 = .ok (.getfield 122, 3)) ?_
    refine j_iconst hE (by decide +kernel : decode cX4_judgeOf 134 = .ok (.iconst 2, 1)) (v := (2 : Int32)) (by decide) ?_
    refine j_icmp_ne hE (by decide +kernel : decode cX4_judgeOf 135 = .ok (.if_icmp .ne 36, 3)) (tgt := 171) (by decide) (fun q => ?_) (fun q => ?_)
    · replace h := h.1 q
      refine j_weak [some (.ref l0), some (.ref l1), some (.int l2), some (.int l3), none] ⟨rfl, ⟨rfl, ⟨rfl, ⟨rfl, trivial⟩⟩⟩⟩ ?_
      exact S_Po_judgeOf_171 hE hK14 hK86 _ _ _ _ _ h
    · replace h := h.2 q
      refine j_aload_n hE (by decide +kernel : decode cX4_judgeOf 138 = .ok (.aload_n 1, 1)) rfl rfl ?_
      refine j_aload_n hE (by decide +kernel : decode cX4_judgeOf 139 = .ok (.aload_n 1, 1)) rfl rfl ?_
      obtain ⟨hk, h⟩ := h
      refine j_getI hE fg_X4_113 hk (by decide +kernel : decode cX4_judgeOf 140 = .ok (.getfield 113, 3)) ?_
      refine j_if_ne hE (by decide +kernel : decode cX4_judgeOf 143 = .ok (.ifCond .ne 11, 3)) (tgt := 154) (by decide) (fun q => ?_) (fun q => ?_)
      · replace h := h.1 q
        refine j_aload_n hE (by decide +kernel : decode cX4_judgeOf 154 = .ok (.aload_n 1, 1)) rfl rfl ?_
        obtain ⟨hk, h⟩ := h
        refine j_getI hE fg_X4_128 hk (by decide +kernel : decode cX4_judgeOf 155 = .ok (.getfield 128, 3)) ?_
        refine j_weak [some (.ref l0), some (.ref l1), some (.int l2), some (.int l3), none] ⟨rfl, ⟨rfl, ⟨rfl, ⟨rfl, trivial⟩⟩⟩⟩ ?_
        exact S_Po_judgeOf_158 hE hK14 hK86 _ _ _ _ _ _ _ h
      · replace h := h.2 q
        refine j_aload hE (by decide +kernel : decode cX4_judgeOf 146 = .ok (.aload 4, 2)) rfl ?_
        obtain ⟨hk, h⟩ := h
        refine j_getI hE fg_X4_125 hk (by decide +kernel : decode cX4_judgeOf 148 = .ok (.getfield 125, 3)) ?_
        refine j_goto hE (by decide +kernel : decode cX4_judgeOf 151 = .ok (.goto 7, 3)) (tgt := 158) (by decide) ?_
        refine j_weak [some (.ref l0), some (.ref l1), some (.int l2), some (.int l3), none] ⟨rfl, ⟨rfl, ⟨rfl, ⟨rfl, trivial⟩⟩⟩⟩ ?_
        exact S_Po_judgeOf_158 hE hK14 hK86 _ _ _ _ _ _ _ h
set_option maxRecDepth 100000 in
def B_Po_judgeOf_78 (Γ : GAM) (K14 : Nat → Nat → Int32 → Int32 → GH → Prop) (K86 : Nat → Nat → Int32 → Int32 → GH → Prop) (K : GH → Prop) (l0 : Nat) (l1 : Nat) (l2 : Int32) (l3 : Int32) (g : GH) : Prop :=
  K14 l0 l1 l2 (l3 + (1 : Int32)) g
set_option maxHeartbeats 4000000 in
set_option maxRecDepth 100000 in
theorem S_Po_judgeOf_78 {Γ : GAM} {E : EV} {K : GH → Prop} (hE : GE Γ E cX4_judgeOf 5 RX4 none 8 352 (fun r g' => r = none ∧ K g')) {K14 : Nat → Nat → Int32 → Int32 → GH → Prop} {K86 : Nat → Nat → Int32 → Int32 → GH → Prop} (hK14 : ∀ (l0 : Nat) (l1 : Nat) (l2 : Int32) (l3 : Int32) (g : GH), K14 l0 l1 l2 l3 g → JW Γ E 14 [some (.ref l0), some (.ref l1), some (.int l2), some (.int l3), none] [] g) (hK86 : ∀ (l0 : Nat) (l1 : Nat) (l2 : Int32) (l3 : Int32) (g : GH), K86 l0 l1 l2 l3 g → JW Γ E 86 [some (.ref l0), some (.ref l1), some (.int l2), some (.int l3), none] [] g) (l0 : Nat) (l1 : Nat) (l2 : Int32) (l3 : Int32) (g : GH) (h : B_Po_judgeOf_78 Γ K14 K86 K l0 l1 l2 l3 g) : JW Γ E 78 [some (.ref l0), some (.ref l1), some (.int l2), some (.int l3), none] [] g := by
  unfold B_Po_judgeOf_78 at h
  refine j_iinc hE (by decide +kernel : decode cX4_judgeOf 78 = .ok (.iinc 3 1, 3)) (v := (1 : Int32)) (by decide) rfl (Nat.le_of_ble_eq_true rfl) rfl ?_
  refine j_goto hE (by decide +kernel : decode cX4_judgeOf 81 = .ok (.goto (-67), 3)) (tgt := 14) (by decide) ?_
  exact hK14 _ _ _ _ _ h
set_option maxRecDepth 100000 in
def B_Po_judgeOf_14 (Γ : GAM) (K14 : Nat → Nat → Int32 → Int32 → GH → Prop) (K86 : Nat → Nat → Int32 → Int32 → GH → Prop) (K : GH → Prop) (l0 : Nat) (l1 : Nat) (l2 : Int32) (l3 : Int32) (g : GH) : Prop :=
  Kd g l1 = 11 ∧ ∃ a1 : Nat, Gr g 1284 l1 = some a1 ∧ Kd g a1 = 1 ∧ Sp_AL_size Γ a1 g (fun (x3 : Int32) (g2 : GH) => ((x3 ≤ l3 → K86 l0 l1 l2 (0 : Int32) g2) ∧ (¬ (x3 ≤ l3) → Kd g2 l1 = 11 ∧ ∃ a4 : Nat, Gr g2 1284 l1 = some a4 ∧ Kd g2 a4 = 1 ∧ Sp_AL_get Γ a4 l3 g2 (fun (a6 : Nat) (g5 : GH) => Kd g5 a6 = 2 ∧ Kd g5 a6 = 2 ∧ (((Gi g5 132 a6) ≤ l2 → Kd g5 l1 = 11 ∧ Kd g5 l1 = 11 ∧ ∀ g7 : GH, g7 = sI g5 1285 l1 ((Gi g5 1285 l1) + (1 : Int32)) → Kd g7 l0 = 6 ∧ Sp_Po_settle Γ l0 a6 l2 g7 (fun (g8 : GH) => Kd g8 l0 = 6 ∧ Sp_Po_putInOrder Γ l0 a6 g8 (fun (g9 : GH) => B_Po_judgeOf_78 Γ K14 K86 K l0 l1 l2 l3 g9))) ∧ (¬ ((Gi g5 132 a6) ≤ l2) → Kd g5 a6 = 2 ∧ Sp_En_forget Γ a6 g5 (fun (g10 : GH) => B_Po_judgeOf_78 Γ K14 K86 K l0 l1 l2 l3 g10)))))))
set_option maxHeartbeats 4000000 in
set_option maxRecDepth 100000 in
theorem S_Po_judgeOf_14 {Γ : GAM} {E : EV} {K : GH → Prop} (hE : GE Γ E cX4_judgeOf 5 RX4 none 8 352 (fun r g' => r = none ∧ K g')) {K14 : Nat → Nat → Int32 → Int32 → GH → Prop} {K86 : Nat → Nat → Int32 → Int32 → GH → Prop} (hK14 : ∀ (l0 : Nat) (l1 : Nat) (l2 : Int32) (l3 : Int32) (g : GH), K14 l0 l1 l2 l3 g → JW Γ E 14 [some (.ref l0), some (.ref l1), some (.int l2), some (.int l3), none] [] g) (hK86 : ∀ (l0 : Nat) (l1 : Nat) (l2 : Int32) (l3 : Int32) (g : GH), K86 l0 l1 l2 l3 g → JW Γ E 86 [some (.ref l0), some (.ref l1), some (.int l2), some (.int l3), none] [] g) (l0 : Nat) (l1 : Nat) (l2 : Int32) (l3 : Int32) (g : GH) (h : B_Po_judgeOf_14 Γ K14 K86 K l0 l1 l2 l3 g) : JW Γ E 14 [some (.ref l0), some (.ref l1), some (.int l2), some (.int l3), none] [] g := by
  unfold B_Po_judgeOf_14 at h
  refine j_iload_n hE (by decide +kernel : decode cX4_judgeOf 14 = .ok (.iload_n 3, 1)) rfl rfl ?_
  refine j_aload_n hE (by decide +kernel : decode cX4_judgeOf 15 = .ok (.aload_n 1, 1)) rfl rfl ?_
  obtain ⟨hk, h⟩ := h
  obtain ⟨a1, ha, h⟩ := h
  refine j_getRn hE fg_X4_102 hk ha (by decide +kernel : decode cX4_judgeOf 16 = .ok (.getfield 102, 3)) ?_
  obtain ⟨hk, h⟩ := h
  refine j_callV hE rfl cl_X4_34 cf_0 im_Jx4a65c_size_8abf5 se_Jx4a65c_size_8abf5 ⟨by omega, by omega⟩ (As := []) (rest := [.int l3]) rfl rfl (Nat.le_of_ble_eq_true rfl) hk (by decide +kernel : decode cX4_judgeOf 19 = .ok (.invokevirtual 34, 3)) (mt_AL_size _ _ _ h) ?_
  rintro _ g2 ⟨x3, rfl, h⟩
  refine j_icmp_ge hE (by decide +kernel : decode cX4_judgeOf 22 = .ok (.if_icmp .ge 62, 3)) (tgt := 84) (by decide) (fun q => ?_) (fun q => ?_)
  · replace h := h.1 q
    refine j_iconst hE (by decide +kernel : decode cX4_judgeOf 84 = .ok (.iconst 0, 1)) (v := (0 : Int32)) (by decide) ?_
    refine j_istore_n hE (by decide +kernel : decode cX4_judgeOf 85 = .ok (.istore_n 3, 1)) rfl (Nat.le_of_ble_eq_true rfl) rfl ?_
    exact hK86 _ _ _ _ _ h
  · replace h := h.2 q
    refine j_aload_n hE (by decide +kernel : decode cX4_judgeOf 25 = .ok (.aload_n 1, 1)) rfl rfl ?_
    obtain ⟨hk, h⟩ := h
    obtain ⟨a4, ha, h⟩ := h
    refine j_getRn hE fg_X4_102 hk ha (by decide +kernel : decode cX4_judgeOf 26 = .ok (.getfield 102, 3)) ?_
    refine j_iload_n hE (by decide +kernel : decode cX4_judgeOf 29 = .ok (.iload_n 3, 1)) rfl rfl ?_
    obtain ⟨hk, h⟩ := h
    refine j_callV hE rfl cl_X4_42 cf_0 im_Jx4a65c_get_915e3 se_Jx4a65c_get_915e3 ⟨by omega, by omega⟩ (As := [.int l3]) (rest := []) rfl rfl (Nat.le_of_ble_eq_true rfl) hk (by decide +kernel : decode cX4_judgeOf 30 = .ok (.invokevirtual 42, 3)) (mt_AL_get _ _ _ _ h) ?_
    rintro _ g5 ⟨a6, rfl, h⟩
    obtain ⟨hk, h⟩ := h
    refine j_cast hE cf_1 ck_X4_48 hk (by decide +kernel : decode cX4_judgeOf 33 = .ok (.checkcast 48, 3)) ?_
    refine j_astore hE (by decide +kernel : decode cX4_judgeOf 36 = .ok (.astore 4, 2)) (Nat.le_of_ble_eq_true rfl) rfl ?_
    refine j_aload hE (by decide +kernel : decode cX4_judgeOf 38 = .ok (.aload 4, 2)) rfl ?_
    obtain ⟨hk, h⟩ := h
    refine j_getI hE fg_X4_89 hk (by decide +kernel : decode cX4_judgeOf 40 = .ok (.getfield 89, 3)) ?_
    refine j_iload_n hE (by decide +kernel : decode cX4_judgeOf 43 = .ok (.iload_n 2, 1)) rfl rfl ?_
    refine j_icmp_le hE (by decide +kernel : decode cX4_judgeOf 44 = .ok (.if_icmp .le 11, 3)) (tgt := 55) (by decide) (fun q => ?_) (fun q => ?_)
    · replace h := h.1 q
      refine j_aload_n hE (by decide +kernel : decode cX4_judgeOf 55 = .ok (.aload_n 1, 1)) rfl rfl ?_
      refine j_dup hE (by decide +kernel : decode cX4_judgeOf 56 = .ok (.dup, 1)) rfl ?_
      obtain ⟨hk, h⟩ := h
      refine j_getI hE fg_X4_106 hk (by decide +kernel : decode cX4_judgeOf 57 = .ok (.getfield 106, 3)) ?_
      refine j_iconst hE (by decide +kernel : decode cX4_judgeOf 60 = .ok (.iconst 1, 1)) (v := (1 : Int32)) (by decide) ?_
      refine j_iadd hE (by decide +kernel : decode cX4_judgeOf 61 = .ok (.iadd, 1)) ?_
      obtain ⟨hk, h⟩ := h
      obtain ⟨g7, hg⟩ : ∃ z, z = sI g5 1285 l1 ((Gi g5 1285 l1) + (1 : Int32)) := ⟨_, rfl⟩; replace h := h g7 hg
      refine j_putI hE fa_X4_106 hk (fun q => by cases q) (by decide +kernel : decode cX4_judgeOf 62 = .ok (.putfield 106, 3)) ?_
      rw [← hg]
      refine j_aload_n hE (by decide +kernel : decode cX4_judgeOf 65 = .ok (.aload_n 0, 1)) rfl rfl ?_
      refine j_aload hE (by decide +kernel : decode cX4_judgeOf 66 = .ok (.aload 4, 2)) rfl ?_
      refine j_iload_n hE (by decide +kernel : decode cX4_judgeOf 68 = .ok (.iload_n 2, 1)) rfl rfl ?_
      obtain ⟨hk, h⟩ := h
      refine j_callV hE rfl cl_X4_90 cf_5 im_X4_settle se_X4_settle ⟨by omega, by omega⟩ (As := [.ref a6, .int l2]) (rest := []) rfl rfl (Nat.le_of_ble_eq_true rfl) hk (by decide +kernel : decode cX4_judgeOf 69 = .ok (.invokevirtual 90, 3)) (mt_Po_settle _ _ _ _ _ h) ?_
      rintro _ g8 ⟨rfl, h⟩
      refine j_aload_n hE (by decide +kernel : decode cX4_judgeOf 72 = .ok (.aload_n 0, 1)) rfl rfl ?_
      refine j_aload hE (by decide +kernel : decode cX4_judgeOf 73 = .ok (.aload 4, 2)) rfl ?_
      obtain ⟨hk, h⟩ := h
      refine j_callV hE rfl cl_X4_109 cf_5 im_X4_putInOrder se_X4_putInOrder ⟨by omega, by omega⟩ (As := [.ref a6]) (rest := []) rfl rfl (Nat.le_of_ble_eq_true rfl) hk (by decide +kernel : decode cX4_judgeOf 75 = .ok (.invokevirtual 109, 3)) (mt_Po_putInOrder _ _ _ _ h) ?_
      rintro _ g9 ⟨rfl, h⟩
      refine j_weak [some (.ref l0), some (.ref l1), some (.int l2), some (.int l3), none] ⟨rfl, ⟨rfl, ⟨rfl, ⟨rfl, trivial⟩⟩⟩⟩ ?_
      exact S_Po_judgeOf_78 hE hK14 hK86 _ _ _ _ _ h
    · replace h := h.2 q
      refine j_aload hE (by decide +kernel : decode cX4_judgeOf 47 = .ok (.aload 4, 2)) rfl ?_
      obtain ⟨hk, h⟩ := h
      refine j_callV hE rfl cl_X4_103 cf_1 im_X0_forget se_X0_forget ⟨by omega, by omega⟩ (As := []) (rest := []) rfl rfl (Nat.le_of_ble_eq_true rfl) hk (by decide +kernel : decode cX4_judgeOf 49 = .ok (.invokevirtual 103, 3)) (mt_En_forget _ _ _ h) ?_
      rintro _ g10 ⟨rfl, h⟩
      refine j_goto hE (by decide +kernel : decode cX4_judgeOf 52 = .ok (.goto 26, 3)) (tgt := 78) (by decide) ?_
      refine j_weak [some (.ref l0), some (.ref l1), some (.int l2), some (.int l3), none] ⟨rfl, ⟨rfl, ⟨rfl, ⟨rfl, trivial⟩⟩⟩⟩ ?_
      exact S_Po_judgeOf_78 hE hK14 hK86 _ _ _ _ _ h
set_option maxRecDepth 100000 in
def B_Po_judgeOf_0 (Γ : GAM) (K14 : Nat → Nat → Int32 → Int32 → GH → Prop) (K86 : Nat → Nat → Int32 → Int32 → GH → Prop) (K : GH → Prop) (th : Nat) (p0 : Nat) (p1 : Int32) (g : GH) : Prop :=
  Kd g p0 = 11 ∧ Sp_Vo_learn Γ p0 p1 g (fun (g1 : GH) => Kd g1 th = 6 ∧ ∃ a2 : Nat, Gr g1 644 th = some a2 ∧ Kd g1 a2 = 1 ∧ Sp_AL_clear Γ a2 g1 (fun (g3 : GH) => K14 th p0 p1 (0 : Int32) g3))
set_option maxHeartbeats 4000000 in
set_option maxRecDepth 100000 in
theorem S_Po_judgeOf_0 {Γ : GAM} {E : EV} {K : GH → Prop} (hE : GE Γ E cX4_judgeOf 5 RX4 none 8 352 (fun r g' => r = none ∧ K g')) {K14 : Nat → Nat → Int32 → Int32 → GH → Prop} {K86 : Nat → Nat → Int32 → Int32 → GH → Prop} (hK14 : ∀ (l0 : Nat) (l1 : Nat) (l2 : Int32) (l3 : Int32) (g : GH), K14 l0 l1 l2 l3 g → JW Γ E 14 [some (.ref l0), some (.ref l1), some (.int l2), some (.int l3), none] [] g) (hK86 : ∀ (l0 : Nat) (l1 : Nat) (l2 : Int32) (l3 : Int32) (g : GH), K86 l0 l1 l2 l3 g → JW Γ E 86 [some (.ref l0), some (.ref l1), some (.int l2), some (.int l3), none] [] g) (th : Nat) (p0 : Nat) (p1 : Int32) (g : GH) (h : B_Po_judgeOf_0 Γ K14 K86 K th p0 p1 g) : JW Γ E 0 [some (.ref th), some (.ref p0), some (.int p1), none, none] [] g := by
  unfold B_Po_judgeOf_0 at h
  refine j_aload_n hE (by decide +kernel : decode cX4_judgeOf 0 = .ok (.aload_n 1, 1)) rfl rfl ?_
  refine j_iload_n hE (by decide +kernel : decode cX4_judgeOf 1 = .ok (.iload_n 2, 1)) rfl rfl ?_
  obtain ⟨hk, h⟩ := h
  refine j_callV hE rfl cl_X4_98 cf_10 im_X9_learn se_X9_learn ⟨by omega, by omega⟩ (As := [.int p1]) (rest := []) rfl rfl (Nat.le_of_ble_eq_true rfl) hk (by decide +kernel : decode cX4_judgeOf 2 = .ok (.invokevirtual 98, 3)) (mt_Vo_learn _ _ _ _ h) ?_
  rintro _ g1 ⟨rfl, h⟩
  refine j_aload_n hE (by decide +kernel : decode cX4_judgeOf 5 = .ok (.aload_n 0, 1)) rfl rfl ?_
  obtain ⟨hk, h⟩ := h
  obtain ⟨a2, ha, h⟩ := h
  refine j_getRn hE fg_X4_31 hk ha (by decide +kernel : decode cX4_judgeOf 6 = .ok (.getfield 31, 3)) ?_
  obtain ⟨hk, h⟩ := h
  refine j_callV hE rfl cl_X4_99 cf_0 im_Jx4a65c_clear_da8c8 se_Jx4a65c_clear_da8c8 ⟨by omega, by omega⟩ (As := []) (rest := []) rfl rfl (Nat.le_of_ble_eq_true rfl) hk (by decide +kernel : decode cX4_judgeOf 9 = .ok (.invokevirtual 99, 3)) (mt_AL_clear _ _ _ h) ?_
  rintro _ g3 ⟨rfl, h⟩
  refine j_iconst hE (by decide +kernel : decode cX4_judgeOf 12 = .ok (.iconst 0, 1)) (v := (0 : Int32)) (by decide) ?_
  refine j_istore_n hE (by decide +kernel : decode cX4_judgeOf 13 = .ok (.istore_n 3, 1)) rfl (Nat.le_of_ble_eq_true rfl) rfl ?_
  exact hK14 _ _ _ _ _ h
set_option maxHeartbeats 4000000 in
set_option maxRecDepth 100000 in
theorem rl_Po_judgeOf {Γ : GAM} {l : Launch} {th : Nat} {p0 : Nat} {p1 : Int32} {g : GH} {K : GH → Prop} (I14 : Nat → Nat → Nat → Int32 → Int32 → GH → Prop) (I86 : Nat → Nat → Nat → Int32 → Int32 → GH → Prop) (hh14 : ∀ n (l0 : Nat) (l1 : Nat) (l2 : Int32) (l3 : Int32) (g : GH), I14 n l0 l1 l2 l3 g → B_Po_judgeOf_14 Γ (fun l0 l1 l2 l3 g => ∃ m, m < n ∧ I14 m l0 l1 l2 l3 g) (fun l0 l1 l2 l3 g => ∃ m, m < n ∧ I86 m l0 l1 l2 l3 g) K l0 l1 l2 l3 g) (hh86 : ∀ n (l0 : Nat) (l1 : Nat) (l2 : Int32) (l3 : Int32) (g : GH), I86 n l0 l1 l2 l3 g → B_Po_judgeOf_86 Γ (fun l0 l1 l2 l3 g => ∃ m, m < n ∧ I14 m l0 l1 l2 l3 g) (fun l0 l1 l2 l3 g => ∃ m, m < n ∧ I86 m l0 l1 l2 l3 g) K l0 l1 l2 l3 g) (h0 : B_Po_judgeOf_0 Γ (fun l0 l1 l2 l3 g => ∃ m, I14 m l0 l1 l2 l3 g) (fun l0 l1 l2 l3 g => ∃ m, I86 m l0 l1 l2 l3 g) K th p0 p1 g) : MetA Γ l yX4_judgeOf cX4_judgeOf 5 none 8 352 [.ref th, .ref p0, .int p1] g (fun r g' => r = none ∧ K g') := by
  refine MetA.introL (Lx := [some (.ref th), some (.ref p0), some (.int p1), none, none]) (by decide) (Nat.le_of_ble_eq_true rfl) rfl rfl ?_
  intro E hEl hE hnm
  have hall : ∀ n, (∀ (l0 : Nat) (l1 : Nat) (l2 : Int32) (l3 : Int32) (g : GH), I14 n l0 l1 l2 l3 g → JW Γ E 14 [some (.ref l0), some (.ref l1), some (.int l2), some (.int l3), none] [] g) ∧ (∀ (l0 : Nat) (l1 : Nat) (l2 : Int32) (l3 : Int32) (g : GH), I86 n l0 l1 l2 l3 g → JW Γ E 86 [some (.ref l0), some (.ref l1), some (.int l2), some (.int l3), none] [] g) := by
    intro n
    induction n using Nat.strongRecOn with
    | ind n ih =>
      exact ⟨fun l0 l1 l2 l3 g hi => S_Po_judgeOf_14 hE (fun l0 l1 l2 l3 g hm => by obtain ⟨m, hm, h⟩ := hm; exact (ih m hm).1 l0 l1 l2 l3 g h) (fun l0 l1 l2 l3 g hm => by obtain ⟨m, hm, h⟩ := hm; exact (ih m hm).2 l0 l1 l2 l3 g h) l0 l1 l2 l3 g (hh14 n l0 l1 l2 l3 g hi), fun l0 l1 l2 l3 g hi => S_Po_judgeOf_86 hE (fun l0 l1 l2 l3 g hm => by obtain ⟨m, hm, h⟩ := hm; exact (ih m hm).1 l0 l1 l2 l3 g h) (fun l0 l1 l2 l3 g hm => by obtain ⟨m, hm, h⟩ := hm; exact (ih m hm).2 l0 l1 l2 l3 g h) l0 l1 l2 l3 g (hh86 n l0 l1 l2 l3 g hi)⟩
  exact S_Po_judgeOf_0 hE (fun l0 l1 l2 l3 g hm => by obtain ⟨m, h⟩ := hm; exact (hall m).1 l0 l1 l2 l3 g h) (fun l0 l1 l2 l3 g hm => by obtain ⟨m, h⟩ := hm; exact (hall m).2 l0 l1 l2 l3 g h) th p0 p1 g h0
theorem mt_Po_judgeOf {Γ : GAM} {l : Launch} (th : Nat) (p0 : Nat) (p1 : Int32) (g : GH) (K : GH → Prop) (h : Sp_Po_judgeOf Γ th p0 p1 g K) : MetA Γ l yX4_judgeOf cX4_judgeOf 5 none 8 352 [.ref th, .ref p0, .int p1] g (fun r g' => r = none ∧ K g') := by
  obtain ⟨D, s, v, rfl, hP, hW, hq, hv, hCO, hRC, hK⟩ := h
  have hen := hP.1.1
  have hlen := hW.len
  have hvl : v < (s_vot s).length := by rw [← hP.2.2.2.1.2.1]; exact (List.getElem?_eq_some_iff.mp hv).1
  have hv31 : v < 2147483648 := by omega
  have hvn : (nI v).toNatClampNeg = v := nj_cl hv31
  have hPl := VPS_len s v
  obtain ⟨hRm, hRl, hRn⟩ := sRow_ok s (nI v) p1
  have hnoV : ¬ OUTV D s v p0 := fun z => z.1 hv
  have hnoE : ∀ (e : Nat) (y : Em) (x : Nat), (s_env s)[e]? = some y → y.1 = nI v → (d_es D)[e]? = some x → ¬ OUTV D s v x := fun e y x he hy hx z => z.2.1 e y he hy hx
  refine rl_Po_judgeOf
    (fun n l0 l1 l2 l3 g' => d_p D = l0 ∧ p0 = l1 ∧ p1 = l2 ∧ ∃ i, i ≤ (VPS s v).length ∧ n = (VPS s v).length - i + 201 ∧ l3 = nI i ∧ FV D s v g g' ∧ AC Γ g' (d_cl D) ((vstk s v p1 i).reverse.map (dE D)) ∧ (Gi g' 1285 p0 = ((VPS s v).take i).foldl (fun a p => seS (nI v) p1 a p.1) 0 ∧ Gi g' 1288 p0 = sBooth s (nI v) p1 ∧ Gi g' 1286 p0 = 0 ∧ Gi g' 1287 p0 = -1) ∧ ∀ j p, j < i → (VPS s v)[j]? = some p → EJ s v p1 0 g' p.2 (dE D p.2) p.1)
    (fun n l0 l1 l2 l3 g' => d_p D = l0 ∧ p0 = l1 ∧ p1 = l2 ∧ ∃ k, k ≤ (sRow s (nI v) p1).length ∧ n = (sRow s (nI v) p1).length - k ∧ l3 = nI k ∧ FV D s v g g' ∧ AC Γ g' (d_cl D) ((sRow s (nI v) p1).map (dE D)) ∧ (Gi g' 1285 p0 = sSent s (nI v) p1 ∧ Gi g' 1288 p0 = sBooth s (nI v) p1 ∧ Gi g' 1286 p0 = (sJu s (nI v) p1 k).2 ∧ Gi g' 1287 p0 = oN (((sRow s (nI v) p1).take k).find? (gdE s (nI v) p1))) ∧ ∀ (e : Nat) (y : Em) (x : Nat), (s_env s)[e]? = some y → y.1 = nI v → (d_es D)[e]? = some x → EJ s v p1 k g' e x y) ?_ ?_ ?_
  · rintro n l0 l1 l2 l3 g' ⟨rfl, rfl, rfl, i, hi, rfl, rfl, hF, hA, ⟨hm1, hm2, hm3, hm4⟩, hJ⟩
    have hP' := hP.c hF.1
    obtain ⟨-, ⟨⟨_, p2⟩, -, -, -, ⟨c1, _⟩, -, ⟨_, _, _, kc⟩, -⟩, -⟩ := id hP'
    obtain ⟨yv, Lv, vv1, hVO, -, -⟩ := hP'.2.2.2.1.2.2.1 v p0 hv
    obtain ⟨⟨hv1, hv2⟩, -, lo, eo, -, ⟨eo1, _, _⟩, -, hAe⟩ := id hVO
    have hel : ((evOf s v).map (fun e => (d_es D).getD e 0)).length = (VPS s v).length := by rw [List.length_map, ev_ps, List.length_map]
    suffices H : ∀ (K14 : Nat → Nat → Int32 → Int32 → GH → Prop) (K86 : Nat → Nat → Int32 → Int32 → GH → Prop),
        (i = (VPS s v).length → K86 (d_p D) p0 p1 0 g') →
        (∀ g2 p, (VPS s v)[i]? = some p → FV D s v g' g2 → AC Γ g2 (d_cl D) ((rowS s (nI v) p1 (vstk s v p1 i) p).reverse.map (dE D)) → (Gi g2 1285 p0 = seS (nI v) p1 (((VPS s v).take i).foldl (fun a p => seS (nI v) p1 a p.1) 0) p.1 ∧ Gi g2 1288 p0 = sBooth s (nI v) p1 ∧ Gi g2 1286 p0 = 0 ∧ Gi g2 1287 p0 = -1) → (∀ j p', j < i → (VPS s v)[j]? = some p' → EJ s v p1 0 g2 p'.2 (dE D p'.2) p'.1) → EJ s v p1 0 g2 p.2 (dE D p.2) p.1 → K14 (d_p D) p0 p1 (nI (i + 1)) g2) →
        B_Po_judgeOf_14 Γ K14 K86 K (d_p D) p0 p1 (nI i) g' from by
      refine H _ _ (fun hil => ?_) (fun g2 p hp h1 h2 h3 h4 h5 => ?_)
      · subst hil
        refine ⟨(sRow s (nI v) p1).length, by omega, rfl, rfl, rfl, 0, Nat.zero_le _, rfl, nj_0, hF, ?_, ⟨?_, hm2, ?_, ?_⟩, fun e y x he hy hx => ?_⟩
        · rw [vstk_all] at hA; exact hA
        · rw [hm1, List.take_length, sent_all]
        · rw [hm3]; rfl
        · rw [hm4]; rfl
        · obtain ⟨j, hj⟩ := List.getElem?_of_mem (VPS_of he hy)
          have := hJ j (y, e) (List.getElem?_eq_some_iff.mp hj).1 hj
          rw [dE_of hx] at this
          exact this
      · refine ⟨(VPS s v).length - (i + 1) + 201, by have := (List.getElem?_eq_some_iff.mp hp).1; omega, rfl, rfl, rfl, i + 1, (List.getElem?_eq_some_iff.mp hp).1, rfl, rfl, hF.tr h1, ?_, ⟨?_, h3.2⟩, fun j p' hj hp' => ?_⟩
        · rw [vstk_s hp]; exact h2
        · rw [fold_take _ _ _ hp]; exact h3.1
        · rcases Nat.lt_succ_iff_lt_or_eq.mp hj with z | z
          · exact h4 j p' z hp'
          · rw [z, hp] at hp'; cases hp'; exact h5
    intro K14 K86 hEnd hNext
    unfold B_Po_judgeOf_14 B_Po_judgeOf_78
    refine ⟨hv2, eo, eo1, hAe.1.2, hAe.sz hel ?_⟩
    rw [nj_le (by omega) (by omega)]
    refine ⟨fun u => hEnd (by omega), fun u => ⟨hv2, eo, eo1, hAe.1.2, ?_⟩⟩
    obtain ⟨p, hp⟩ := get_lt (show i < (VPS s v).length by omega)
    obtain ⟨he, hev⟩ := VPS_in (List.mem_of_getElem? hp)
    have hel2 := (List.getElem?_eq_some_iff.mp he).1
    obtain ⟨x, hx, hEO⟩ := hP'.eat hel2
    have hdx := dE_of hx
    have hxs : ((evOf s v).map (fun e => (d_es D).getD e 0))[i]? = some x := by
      rw [ev_ps, List.map_map, List.getElem?_map, hp]
      exact congrArg some hdx
    refine ⟨_, i, x, hAe, rfl, hxs, ?_⟩
    obtain ⟨y, w, L, y1, w1, hEB, -, -⟩ := hEO
    rw [he] at y1; cases y1
    obtain ⟨⟨hx1, hx2⟩, -, ⟨_, _, _, htold⟩, -⟩ := id hEB
    have hE2 := hEB.e2
    have hnox := hnoE p.2 p.1 x he hev hx
    obtain ⟨nvx, nvj, nxj⟩ := hP'.vne hv hx
    -- the envelopes ahead have other objects
    have hoth : ∀ j p', j < i → (VPS s v)[j]? = some p' → dE D p'.2 ≠ x ∧ dE D p'.2 ≠ p0 ∧ dE D p'.2 < Hn g' := fun j p' hj hp' => by
      obtain ⟨he', _⟩ := VPS_in (List.mem_of_getElem? hp')
      obtain ⟨x', hx', hEO'⟩ := hP'.eat (List.getElem?_eq_some_iff.mp he').1
      rw [dE_of hx']
      refine ⟨fun z => ?_, fun z => ?_, ?_⟩
      · rw [z] at hx'
        have := VPS_inj hp' hp (hP'.einj hlen.2.2.1 hx' hx)
        omega
      · rw [z] at hx'
        exact (hP'.vne hv hx').1 rfl
      · obtain ⟨_, _, _, _, _, hE', _⟩ := hEO'
        exact hE'.1.1
    rw [htold]
    refine ⟨hx2, hx2, fun u1 => ⟨hv2, hv2, ?_⟩, fun u1 => ⟨hx2, hE2, fun g2 hx2' _ h0 => ?_⟩⟩
    · rintro g7 hg7
      have f7 : FrX p0 [1285] [] g' g7 := by rw [hg7]; exact FrX.sI (by decide)
      have hen' := hP'.1.1
      have F7 : FV D s v g' g7 := FV.x f7 hen' (by decide) (by decide) hnoV
      have hP7 := hP'.c F7.1
      have hA7 := hA.x f7 hen' ⟨by decide, by decide⟩
      have v7 : Gi g7 1285 p0 = Gi g' 1285 p0 + 1 := by rw [hg7, Gi_sI, if_pos ⟨rfl, rfl⟩]
      refine ⟨by rw [f7.1.2.2.2.2.2.1]; exact p2, D, s, p.2, rfl, hP7, hW, hx, fun g8 hx8 hENV hECM hz => ⟨by rw [hx8.1.2.2.2.2.2.1, f7.1.2.2.2.2.2.1]; exact p2, ?_⟩⟩
      have F8 : FV D s v g7 g8 := FV.x hx8 hP7.1.1 (by decide) (by decide) hnox
      have hP8 := hP7.c F8.1
      have hA8 := hA7.x hx8 hP7.1.1 ⟨by decide, by decide⟩
      have F78 := F7.tr F8
      have s8 : ∀ a, a ≠ x → a ≠ p0 → SAM a g' g8 := fun a h1 h2 => (f7.sam h2).tr (hx8.sam h1)
      have v8 : SAM p0 g7 g8 := hx8.sam nvx
      have hms : seS (nI v) p1 (((VPS s v).take i).foldl (fun a p => seS (nI v) p1 a p.1) 0) p.1 = ((VPS s v).take i).foldl (fun a p => seS (nI v) p1 a p.1) 0 + 1 := by
        unfold seS; rw [if_pos ⟨hev, u1⟩]
      have g7o : ∀ f, f ≠ 1285 → Gi g7 f p0 = Gi g' f p0 := fun f hf => f7.2.1 f (by simpa using hf)
      have hvo8 : Gi g8 1285 p0 = seS (nI v) p1 (((VPS s v).take i).foldl (fun a p => seS (nI v) p1 a p.1) 0) p.1 ∧ Gi g8 1288 p0 = sBooth s (nI v) p1 ∧ Gi g8 1286 p0 = 0 ∧ Gi g8 1287 p0 = -1 := by
        rw [hms, v8.1 _ (by decide), v8.1 _ (by decide), v8.1 _ (by decide), v8.1 _ (by decide), v7, hm1, g7o _ (by decide), g7o _ (by decide), g7o _ (by decide)]
        exact ⟨rfl, hm2, hm3, hm4⟩
      obtain ⟨hst1, hst2⟩ := vstk_mem (s := s) (v := v) (q := p1) i hi
      have hRC8 : RC Γ D g8 := (hRC.fc hF.1).fc F78.1
      refine ⟨D, s, p1, p.2, vstk s v p1 i, rfl, hP8, hW, hx, hENV, hECM, hA8, fun k hk => ?_, by omega, hRC8, fun hc g9 hx9 hs9 => ?_, fun hc g9 hf9 hA9 hG9 => ?_⟩
      · obtain ⟨j, p', hj, hp', rfl, ht', hc'⟩ := hst2 k hk
        obtain ⟨he', _⟩ := VPS_in (List.mem_of_getElem? hp')
        obtain ⟨x', hx', _⟩ := hP'.eat (List.getElem?_eq_some_iff.mp he').1
        obtain ⟨o1, o2, o3⟩ := hoth j p' hj hp'
        have hEJ := hJ j p' hj hp'
        rw [dE_of hx'] at o1 o2 hEJ
        refine ⟨x', hx', ?_⟩
        rw [(s8 x' o1 o2).1 _ (by decide)]
        exact (hEJ.2 ht').1.2.1
      · have F9 : FV D s v g8 g9 := FV.x hx9 hP8.1.1 (by decide) (by decide) hnox
        have v9 : SAM p0 g8 g9 := hx9.sam nvx
        rw [nj_s]
        refine hNext g9 p hp (F78.tr F9) ?_ ?_ (fun j p' hj hp' => ?_) ?_
        · have : rowS s (nI v) p1 (vstk s v p1 i) p = vstk s v p1 i := by
            unfold rowS; rw [if_neg (fun z => z.2.2 hc)]
          rw [this]
          exact hA8.x hx9 hP8.1.1 ⟨by decide, by decide⟩
        · rw [v9.1 _ (by decide), v9.1 _ (by decide), v9.1 _ (by decide), v9.1 _ (by decide)]
          exact hvo8
        · obtain ⟨o1, o2, o3⟩ := hoth j p' hj hp'
          exact (hJ j p' hj hp').sam ((s8 _ o1 o2).tr (hx9.sam o1))
        · rw [hdx]
          have g9o : ∀ f, f ≠ 140 → Gi g9 f x = Gi g8 f x := fun f hf => hx9.2.1 f (by simpa using hf)
          have i9 : Ia g9 = Ia g8 := by
            funext c o
            by_cases ho : o = x
            · rw [ho]; exact hx9.2.2 c (by simp)
            · exact hx9.1.2.2.1 c o ho
          refine EJ.ini ?_ ?_ ?_ ?_ ?_ (fun _ => hs9) u1
          · unfold ENV; rw [i9]; exact hENV
          · unfold ECM; rw [g9o _ (by decide), g9o _ (by decide)]; exact hECM
          · rw [g9o _ (by decide)]; exact hz.1
          · rw [g9o _ (by decide)]; exact hz.2.2.1
          · rw [g9o _ (by decide)]; exact hz.2.2.2
      · have hxlt : x < Hn g8 := Nat.lt_of_lt_of_le hx1 F78.1.1.hn
        have hvlt : p0 < Hn g8 := Nat.lt_of_lt_of_le hv1 F78.1.1.hn
        have F9 : FV D s v g8 g9 := ⟨FC.grw hf9 hG9 (by omega), fun a ha _ => hf9.sam ha⟩
        have v9 : SAM p0 g8 g9 := hf9.sam hvlt
        have x9 : SAM x g8 g9 := hf9.sam hxlt
        rw [nj_s]
        refine hNext g9 p hp (F78.tr F9) ?_ ?_ (fun j p' hj hp' => ?_) ?_
        · have : rowS s (nI v) p1 (vstk s v p1 i) p = rIns (cmO s p1) p.2 (vstk s v p1 i) := by
            unfold rowS; rw [if_pos ⟨hev, u1, hc⟩]; rfl
          rw [this]
          exact hA9
        · rw [v9.1 _ (by decide), v9.1 _ (by decide), v9.1 _ (by decide), v9.1 _ (by decide)]
          exact hvo8
        · obtain ⟨o1, o2, o3⟩ := hoth j p' hj hp'
          exact (hJ j p' hj hp').sam ((s8 _ o1 o2).tr (hf9.sam (Nat.lt_of_lt_of_le o3 F78.1.1.hn)))
        · rw [hdx]
          refine EJ.ini (hENV.sam x9) (hECM.sam x9) ?_ ?_ ?_ (fun z => absurd z hc) u1
          · rw [x9.1 _ (by decide)]; exact hz.1
          · rw [x9.1 _ (by decide)]; exact hz.2.2.1
          · rw [x9.1 _ (by decide)]; exact hz.2.2.2
    · have F2 : FV D s v g' g2 := FV.x hx2' hP'.1.1 (by decide) (by decide) hnox
      have v2 : SAM p0 g' g2 := hx2'.sam nvx
      rw [nj_s]
      refine hNext g2 p hp F2 ?_ ?_ (fun j p' hj hp' => ?_) ?_
      · have : rowS s (nI v) p1 (vstk s v p1 i) p = vstk s v p1 i := by
          unfold rowS; rw [if_neg (fun z => u1 z.2.1)]
        rw [this]
        exact hA.x hx2' hP'.1.1 ⟨by decide, by decide⟩
      · have hms : seS (nI v) p1 (((VPS s v).take i).foldl (fun a p => seS (nI v) p1 a p.1) 0) p.1 = ((VPS s v).take i).foldl (fun a p => seS (nI v) p1 a p.1) 0 := by
          unfold seS; rw [if_neg (fun z => u1 z.2)]
        rw [hms, v2.1 _ (by decide), v2.1 _ (by decide), v2.1 _ (by decide), v2.1 _ (by decide)]
        exact ⟨hm1, hm2, hm3, hm4⟩
      · obtain ⟨o1, o2, o3⟩ := hoth j p' hj hp'
        exact (hJ j p' hj hp').sam (hx2'.sam o1)
      · rw [hdx]
        exact ⟨fun _ => h0.2.2.2.1, fun z => absurd z u1⟩
  · rintro n l0 l1 l2 l3 g' ⟨rfl, rfl, rfl, k, hk, rfl, rfl, hF, hA, ⟨hm1, hm2, hm3, hm4⟩, hJ⟩
    have hP' := hP.c hF.1
    have hen' := hP'.1.1
    obtain ⟨-, ⟨⟨_, p2⟩, -, -, -, ⟨c1, _⟩, ju1, ⟨_, _, _, kc⟩, -⟩, -⟩ := id hP'
    have hjk := hP'.2.2.2.2.2.2.2.1.2
    obtain ⟨yv, Lv, vv1, hVO, -, -⟩ := hP'.2.2.2.1.2.2.1 v p0 hv
    obtain ⟨⟨hv1, hv2⟩, -⟩ := id hVO
    have hvj := hP'.vju hv
    have hml : ((sRow s (nI v) p1).map (dE D)).length = (sRow s (nI v) p1).length := List.length_map _
    suffices H : ∀ (K14 : Nat → Nat → Int32 → Int32 → GH → Prop) (K86 : Nat → Nat → Int32 → Int32 → GH → Prop),
        (∀ g2 e, (sRow s (nI v) p1)[k]? = some e → FV D s v g' g2 → AC Γ g2 (d_cl D) ((sRow s (nI v) p1).map (dE D)) → (Gi g2 1285 p0 = sSent s (nI v) p1 ∧ Gi g2 1288 p0 = sBooth s (nI v) p1 ∧ Gi g2 1286 p0 = (sJu s (nI v) p1 (k + 1)).2 ∧ Gi g2 1287 p0 = oN (((sRow s (nI v) p1).take (k + 1)).find? (gdE s (nI v) p1))) → (∀ (e : Nat) (y : Em) (x : Nat), (s_env s)[e]? = some y → y.1 = nI v → (d_es D)[e]? = some x → EJ s v p1 (k + 1) g2 e x y) → K86 (d_p D) p0 p1 (nI (k + 1)) g2) →
        B_Po_judgeOf_86 Γ K14 K86 K (d_p D) p0 p1 (nI k) g' from
      H _ _ (fun g2 e he h1 h2 h3 h4 => ⟨(sRow s (nI v) p1).length - (k + 1), by have := (List.getElem?_eq_some_iff.mp he).1; omega, rfl, rfl, rfl, k + 1, (List.getElem?_eq_some_iff.mp he).1, rfl, rfl, hF.tr h1, h2, h3, h4⟩)
    intro K14 K86 hNext
    unfold B_Po_judgeOf_86
    refine ⟨p2, _, c1, kc, hA.sz hml ?_⟩
    rw [nj_le (by omega) (by omega)]
    refine ⟨fun u => ?_, fun u => ⟨p2, _, c1, kc, ?_⟩⟩
    · have hkl : k = (sRow s (nI v) p1).length := by omega
      subst hkl
      rw [List.take_length] at hm4
      refine hK g' hF ⟨_, hA, fun x hx => ?_⟩ ⟨fun w hw => ?_, hJ⟩
      · obtain ⟨e, he, rfl⟩ := List.mem_map.mp hx
        obtain ⟨e1, e2, e3⟩ := (hRm e).mp he
        obtain ⟨x', hx', hEO'⟩ := hP'.eat e1
        rw [dE_of hx']
        obtain ⟨_, _, _, _, _, hE', _⟩ := hEO'
        exact hE'.1
      · rw [hv] at hw; cases hw
        exact ⟨hm1, hm2, hm3, hm4⟩
    · obtain ⟨e, he⟩ := get_lt (show k < (sRow s (nI v) p1).length by omega)
      obtain ⟨e1, ⟨y, hy, hyv, hyt⟩, e3⟩ := (hRm e).mp (List.mem_of_getElem? he)
      obtain ⟨x, hx, hEO⟩ := hP'.eat e1
      have hdx := dE_of hx
      obtain ⟨y', w, L, y1, w1, hEB, -, -⟩ := hEO
      rw [hy] at y1; cases y1
      obtain ⟨⟨hx1, hx2⟩, -, ⟨hnum, _, _, _⟩, -⟩ := id hEB
      have hnox := hnoE e y x hy hyv hx
      obtain ⟨nvx, nvj, nxj⟩ := hP'.vne hv hx
      have hEJ := hJ e y x hy hyv hx
      obtain ⟨⟨hENV, hECM⟩, hre, hru, hga, hst⟩ := hEJ.2 hyt
      have hbase : (sJu s (nI v) p1 k).1 e = jBase s p1 e := jS_out (s := s) (q := p1) _ (jBase s p1, 0) (nd_take hRn he)
      rw [hbase] at hre hru
      obtain ⟨m, hm, hmn, hm0⟩ := sJu_n (s := s) (v := nI v) (q := p1) k hk
      refine ⟨_, k, x, hA, rfl, by rw [List.getElem?_map, he]; exact congrArg some hdx, hx2, hv2, hx2, ?_⟩
      rintro g7 hg7
      rw [hm3] at hg7
      have f7 : FrX x [139] [] g' g7 := by rw [hg7]; exact FrX.sI (by decide)
      have F7 : FV D s v g' g7 := FV.x f7 hen' (by decide) (by decide) hnox
      have hP7 := hP'.c F7.1
      have g7o : ∀ f, f ≠ 139 → Gi g7 f x = Gi g' f x := fun f hf => f7.2.1 f (by simpa using hf)
      have i7 : Ia g7 = Ia g' := by rw [hg7]; rfl
      have v7 : SAM p0 g' g7 := f7.sam nvx
      have E7 : ENV s e p1 x g7 := by unfold ENV; rw [i7]; exact hENV
      have C7 : ECM s e p1 x g7 := by unfold ECM; rw [g7o _ (by decide), g7o _ (by decide)]; exact hECM
      refine ⟨by rw [f7.1.2.2.2.2.2.1]; exact p2, _, by rw [f7.1.2.1]; exact ju1, by rw [f7.1.2.2.2.2.2.1]; exact hjk, D, s, e, (sJu s (nI v) p1 k).2, y, p0, rfl, hP7, hW, hq, hx, hy, by rw [hyv, hvn]; exact hv, E7, C7, e3, ⟨by rw [hg7, Gi_sI, if_pos ⟨rfl, rfl⟩], by rw [hmn]; exact bd4.n (by omega)⟩, ⟨by rw [g7o _ (by decide)]; exact hre, by rw [g7o _ (by decide)]; exact hru⟩, ⟨by rw [v7.1 _ (by decide), hyv]; exact hm2, by rw [v7.1 _ (by decide), hyv]; exact hm1⟩, fun g9 hx9 hv9 => ?_⟩
      have F9 : FV D s v g7 g9 := ⟨hx9.fc hP7.1.1 dP_c dQ_c, fun a _ ho => hx9.sam (fun z => hnox (by rw [← z]; exact ho)) ho.2.2⟩
      have F79 := F7.tr F9
      have v9 : SAM p0 g7 g9 := hx9.sam nvx nvj
      have k9 : Kd g9 = Kd g' := hx9.2.2.2.2.2.1.trans f7.1.2.2.2.2.2.1
      have g9o : ∀ f, f ≠ 140 → f ≠ 141 → f ≠ 142 → Gi g9 f x = Gi g7 f x := fun f a b c => hx9.1 f x (fun z => z.elim (fun z => z.2.elim a (fun z => z.elim b c)) (fun z => nxj z.1))
      have i9 : ∀ c, Ia g9 c x = Ia g7 c x := fun c => hx9.2.2.1 c x (fun z => nxj z.1)
      have ga7 : Gi g7 139 x = (sJu s (nI v) p1 k).2 := by rw [hg7, Gi_sI, if_pos ⟨rfl, rfl⟩]
      have hA9 : AC Γ g9 (d_cl D) ((sRow s (nI v) p1).map (dE D)) := (hA.x f7 hen' ⟨by decide, by decide⟩).fr (hx9.fr (fs := cFS) (cs := cCS) (als := []) hP7.1.1 dP_c dQ_c) (by simp) (PF.c.1 _ (by decide)) (PF.c.2 _ (by decide))
      have hEe : EJ s v p1 (k + 1) g9 e x y := by
        refine EJ.one he ?_ ?_ ?_ hv9 hyt
        · unfold ENV; rw [i9, i9]; exact E7
        · unfold ECM; rw [g9o _ (by decide) (by decide) (by decide), g9o _ (by decide) (by decide) (by decide)]; exact C7
        · rw [g9o _ (by decide) (by decide) (by decide)]; exact ga7
      have hEa : ∀ (e : Nat) (y : Em) (x : Nat), (s_env s)[e]? = some y → y.1 = nI v → (d_es D)[e]? = some x → EJ s v p1 (k + 1) g9 e x y := fun e' y' x' he' hy' hx' => by
        by_cases z : e' = e
        · subst z
          rw [hy] at he'; cases he'
          rw [hx] at hx'; cases hx'
          exact hEe
        · have nx' : x' ≠ x := fun z2 => z (hP'.einj hlen.2.2.1 (by rw [← z2]; exact hx') hx)
          exact ((hJ e' y' x' he' hy' hx').sam ((f7.sam nx').tr (hx9.sam nx' (hP'.vne hv hx').2.2))).out he z
      have hsj : (sJu s (nI v) p1 (k + 1)).2 = (sJu s (nI v) p1 k).2 + (if (sOne s (nI e) p1 (sJu s (nI v) p1 k).2).1 = 2 then 1 else 0) := by rw [sJu_s he]; rfl
      have hfg := oN_s hlen.2.2.1 he
      have hs9 : Gi g9 140 x = (sOne s (nI e) p1 (sJu s (nI v) p1 k).2).1 := congrArg Prod.fst hv9
      have hv1' : Gi g9 1286 p0 = (sJu s (nI v) p1 k).2 := by rw [v9.1 _ (by decide), v7.1 _ (by decide)]; exact hm3
      have hv2' : Gi g9 1287 p0 = oN (((sRow s (nI v) p1).take k).find? (gdE s (nI v) p1)) := by rw [v9.1 _ (by decide), v7.1 _ (by decide)]; exact hm4
      have hv3' : Gi g9 1285 p0 = sSent s (nI v) p1 := by rw [v9.1 _ (by decide), v7.1 _ (by decide)]; exact hm1
      have hv4' : Gi g9 1288 p0 = sBooth s (nI v) p1 := by rw [v9.1 _ (by decide), v7.1 _ (by decide)]; exact hm2
      have hnm9 : Gi g9 128 x = nI e := by rw [g9o _ (by decide) (by decide) (by decide), g7o _ (by decide)]; exact hnum
      have hx29 : Kd g9 x = 2 := by rw [k9]; exact hx2
      have hv29 : Kd g9 p0 = 11 := by rw [k9]; exact hv2
      have h158 : ∀ f, (sOne s (nI e) p1 (sJu s (nI v) p1 k).2).1 = 2 → f = (if (sJu s (nI v) p1 k).2 = 0 then nI e else oN (((sRow s (nI v) p1).take k).find? (gdE s (nI v) p1))) → B_Po_judgeOf_158 Γ K14 K86 K (d_p D) p0 p1 (nI k) f p0 g9 := fun f h2 hf => by
        unfold B_Po_judgeOf_158 B_Po_judgeOf_171
        refine ⟨hv29, ?_⟩
        rintro g10 hg10
        have f10 : FrX p0 [1287] [] g9 g10 := by rw [hg10]; exact FrX.sI (by decide)
        refine ⟨by rw [f10.1.2.2.2.2.2.1]; exact hv29, by rw [f10.1.2.2.2.2.2.1]; exact hv29, ?_⟩
        rintro g11 hg11
        have f11 : FrX p0 [1287, 1286] [] g9 g11 := (f10.up (by decide) (by decide)).tr (by rw [hg11]; exact FrX.sI (by decide))
        have hP9 := hP'.c F79.1
        have F11 : FV D s v g9 g11 := FV.x f11 hP9.1.1 (by decide) (by decide) hnoV
        rw [nj_s]
        refine hNext g11 e he (F79.tr F11) (hA9.x f11 hP9.1.1 ⟨by decide, by decide⟩) ⟨?_, ?_, ?_, ?_⟩ (fun e' y' x' he' hy' hx' => (hEa e' y' x' he' hy' hx').sam (f11.sam (Ne.symm (hP'.vne hv hx').1)))
        · rw [f11.2.1 _ (by decide)]; exact hv3'
        · rw [f11.2.1 _ (by decide)]; exact hv4'
        · rw [hg11, Gi_sI, if_pos ⟨rfl, rfl⟩, hg10, Gi_sI, if_neg (fun z => absurd z.1 (by decide)), hv1', hsj, if_pos h2]
        · rw [hg11, Gi_sI, if_neg (fun z => absurd z.1 (by decide)), hg10, Gi_sI, if_pos ⟨rfl, rfl⟩, hfg, if_pos h2]
          exact hf
      refine ⟨hx29, ?_⟩
      rw [hs9, hv1']
      refine ⟨fun u1 => ?_, fun u1 => ⟨hv29, fun u2 => ⟨hv29, h158 _ u1 ?_⟩, fun u2 => ⟨hx29, h158 _ u1 ?_⟩⟩⟩
      · unfold B_Po_judgeOf_171
        rw [nj_s]
        refine hNext g9 e he F79 hA9 ⟨hv3', hv4', ?_, ?_⟩ hEa
        · rw [hsj, if_neg u1, Int32.add_zero]; exact hv1'
        · rw [hfg, if_neg u1]; exact hv2'
      · rw [if_neg u2]; exact hv2'
      · rw [if_pos u2]; exact hnm9
  · unfold B_Po_judgeOf_0
    obtain ⟨-, ⟨⟨_, p2⟩, -, -, -, ⟨c1, _⟩, -, ⟨_, _, _, kc⟩, -⟩, -⟩ := id hP
    obtain ⟨yv, Lv, vv1, hVO, hVL, -⟩ := hP.2.2.2.1.2.2.1 v p0 hv
    obtain ⟨⟨hv1, hv2⟩, -, lo, eo, ⟨lo1, _, _⟩, -, hLv, -⟩ := id hVO
    refine ⟨hv2, lo, Lv, hv2, lo1, hLv, fun g1 hx1 m1 m2 m3 m4 => ?_⟩
    have F1 : FV D s v g g1 := FV.x hx1 hen (by decide) (by decide) hnoV
    have hP1 := hP.c F1.1
    have hC1 := hCO.fr hx1 hen ⟨by decide, by decide⟩
    obtain ⟨cs, hcs, -⟩ := hC1
    refine ⟨by rw [hx1.1.2.2.2.2.2.1]; exact p2, _, by rw [hx1.1.2.1]; exact c1, by rw [hx1.1.2.2.2.2.2.1]; exact kc, cs, hcs, fun g3 hf3 hA3 ⟨e1, e2, e3, e4⟩ => ?_⟩
    have F3 : FV D s v g1 g3 := ⟨⟨hf3.up (fun f hf => by cases hf) (fun c hc => by cases hc) (fun a ha => ha), by unfold phi cpA; rw [e1, e3, e4]; exact Nat.le_refl _, by unfold phi cpA; rw [e2, e3, e4]; exact Nat.le_refl _⟩, fun a ha _ => hf3.sam ha⟩
    have v3 : SAM p0 g1 g3 := hf3.sam (Nat.lt_of_lt_of_le hv1 F1.1.1.hn)
    refine ⟨_, rfl, rfl, rfl, 0, Nat.zero_le _, rfl, nj_0, F1.tr F3, hA3, ⟨?_, ?_, ?_, ?_⟩, fun j p hj => absurd hj (Nat.not_lt_zero _)⟩
    · rw [v3.1 _ (by decide)]; exact m1
    · rw [v3.1 _ (by decide), m4]; exact (hVL p1).2
    · rw [v3.1 _ (by decide)]; exact m2
    · rw [v3.1 _ (by decide)]; exact m3
