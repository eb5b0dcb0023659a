/-! the class: its post next to a state -/
/-- an event as an envelope knows it: its day, its value -/
def prj (o : Option (Nat × Ev)) : Int32 × Int32 := match o with
  | none => (-1, -1)
  | some p => (p.2.2.2.1, p.2.2.2.2.1)
theorem prj_d (o : Option (Nat × Ev)) : (prj o).1 = dOf o := by cases o <;> rfl
def VLG (s : ST) (v : Nat) (sh : Int32) (L : List Tl) : Prop := ∀ q, (∀ d, L.foldl (lS d q) (sh, -1) = (s_mov s).foldl (sShS (nI v) d q) (sh, -1)) ∧ L.foldl (lB q) (-1) = sBooth s (nI v) q
def ELG (s : ST) (e : Nat) (L : List Tl) : Prop := ∀ q, (∀ k, 1 ≤ k → k ≤ 8 → L.foldl (lD q k) (-1, -1) = prj (sEv s (nI e) (nI k) q)) ∧ (L.foldl (lD q 9) (-1, -1)).2 = sSign s (nI e) q ∧ ∀ h, h < 6 → (L.foldl (lD q (10 + h)) (-1, -1)).2 = sWord s (nI e) (nI h) q
/-- the numbers of a voter's envelopes -/
def evOf (s : ST) (v : Nat) : List Nat := ((s_env s).zipIdx.filter (fun p => decide (p.1.1 = nI v))).map (·.2)
/-- of which shire's heap an envelope is -/
def hsh (s : ST) (e : Nat) : Int32 := if s_hof s e = 0 then -1 else ((s_hea s)[s_hof s e - 1]?.getD default).1
abbrev DIR : Type := (Nat × Nat × Nat × Nat × Nat × Nat) × List Nat × List Nat
def d_p (D : DIR) : Nat := D.1.1
def d_vl (D : DIR) : Nat := D.1.2.1
def d_el (D : DIR) : Nat := D.1.2.2.1
def d_ml (D : DIR) : Nat := D.1.2.2.2.1
def d_ju (D : DIR) : Nat := D.1.2.2.2.2.1
def d_cl (D : DIR) : Nat := D.1.2.2.2.2.2
def d_vs (D : DIR) : List Nat := D.2.1
def d_es (D : DIR) : List Nat := D.2.2
def VOS (Γ : GAM) (D : DIR) (g : GH) (s : ST) (v x : Nat) : Prop := ∃ y L, (s_vot s)[v]? = some y ∧ VOB Γ g x y L ((evOf s v).map (fun e => (d_es D).getD e 0)) ∧ VLG s v y.1 L ∧ L.length ≤ (s_mov s).length + (s_boo s).length
def EOS (Γ : GAM) (D : DIR) (g : GH) (s : ST) (e x : Nat) : Prop := ∃ y w L, (s_env s)[e]? = some y ∧ (d_vs D)[y.1.toNatClampNeg]? = some w ∧ EOB Γ g x e w y L ∧ ELG s e L ∧ L.length ≤ (s_evt s).length + (s_rea s).length + (s_tel s).length
/-- the post's lists and its judge -/
def PoL (D : DIR) (g : GH) : Prop := (d_p D < Hn g ∧ Kd g (d_p D) = 6) ∧ (Gr g 640 (d_p D) = some (d_vl D) ∧ Co g (d_vl D) = 640 ∧ Ow g (d_vl D) = d_p D) ∧ (Gr g 641 (d_p D) = some (d_el D) ∧ Co g (d_el D) = 641 ∧ Ow g (d_el D) = d_p D) ∧ (Gr g 642 (d_p D) = some (d_ml D) ∧ Co g (d_ml D) = 642 ∧ Ow g (d_ml D) = d_p D) ∧ (Gr g 644 (d_p D) = some (d_cl D) ∧ Co g (d_cl D) = 644 ∧ Ow g (d_cl D) = d_p D) ∧ Gr g 643 (d_p D) = some (d_ju D) ∧ (Kd g (d_vl D) = 1 ∧ Kd g (d_el D) = 1 ∧ Kd g (d_ml D) = 1 ∧ Kd g (d_cl D) = 1) ∧ (d_vl D < Hn g ∧ d_el D < Hn g ∧ d_ml D < Hn g ∧ d_cl D < Hn g)
def PoC (D : DIR) (g : GH) (s : ST) : Prop := Gi g 645 (d_p D) = nI (s_mov s).length ∧ Gi g 646 (d_p D) = nI (s_evt s).length ∧ Gi g 647 (d_p D) = nI (s_rea s).length ∧ Gi g 648 (d_p D) = nI (s_tel s).length ∧ Gi g 649 (d_p D) = nI (s_boo s).length
def PoV (Γ : GAM) (D : DIR) (g : GH) (s : ST) : Prop := AC Γ g (d_vl D) (d_vs D) ∧ (d_vs D).length = (s_vot s).length ∧ (∀ v x, (d_vs D)[v]? = some x → VOS Γ D g s v x) ∧ ∀ (i j x : Nat), (d_vs D)[i]? = some x → (d_vs D)[j]? = some x → i = j
def PoE (Γ : GAM) (D : DIR) (g : GH) (s : ST) : Prop := AC Γ g (d_el D) (d_es D) ∧ (d_es D).length = (s_env s).length ∧ (∀ e x, (d_es D)[e]? = some x → EOS Γ D g s e x)
def PoH (D : DIR) (g : GH) (s : ST) : Prop := ∀ e x, (d_es D)[e]? = some x → Gi g 134 x = hsh s e
def PoI (Γ : GAM) (D : DIR) (g : GH) (s : ST) : Prop := (EN g ∧ NT g ∧ SE Γ g) ∧ PoL D g ∧ PoC D g s ∧ PoV Γ D g s ∧ PoE Γ D g s ∧ PoH D g s ∧ LOG Γ g (d_ml D) (s_emp s) ∧ JuI Γ g (d_ju D) (s_law s)
/-- the list of those that come -/
def COM (Γ : GAM) (D : DIR) (g : GH) : Prop := ∃ cs, AC Γ g (d_cl D) cs ∧ ∀ x ∈ cs, x < Hn g ∧ Kd g x = 2
/-- room for the list of those that come -/
def phi (D : DIR) (g : GH) : Nat := 200 - cpA g (d_cl D)
def RC (Γ : GAM) (D : DIR) (g : GH) : Prop := Hn g + phi D g + 1 ≤ gB Γ + NCC ∧ Hu g + 2000 * phi D g + 2000 ≤ NSS
/-- what the class's own caches leave -/
def FC (D : DIR) (g g' : GH) : Prop := Fr cFS cCS [d_cl D] g g' ∧ Hn g' + phi D g' ≤ Hn g + phi D g ∧ Hu g' + 2000 * phi D g' ≤ Hu g + 2000 * phi D g
theorem FC.rf {D : DIR} {g : GH} (h : EN g) : FC D g g := ⟨Fr.rf h, Nat.le_refl _, Nat.le_refl _⟩
theorem FC.tr {D : DIR} {g g1 g2 : GH} (h : FC D g g1) (k : FC D g1 g2) : FC D g g2 := ⟨h.1.tr k.1, Nat.le_trans k.2.1 h.2.1, Nat.le_trans k.2.2 h.2.2⟩
theorem FC.x {D : DIR} {m : Nat} {fs cs : List Nat} {g g' : GH} (h : FrX m fs cs g g') (hk : EN g) (h1 : ∀ f ∈ fs, f ∈ cFS) (h2 : ∀ c ∈ cs, c ∈ cCS) : FC D g g' := by
  have hc : cpA g' (d_cl D) = cpA g (d_cl D) := by unfold cpA; rw [h.1.2.1, h.1.2.2.2.2.2.2.2.2.1]
  have e1 := h.1.2.2.2.2.2.2.2.2.2.2
  refine ⟨(h.fr hk).up h1 h2 (fun a ha => ha), ?_, ?_⟩
  · unfold phi; rw [hc, e1.1]; exact Nat.le_refl _
  · unfold phi; rw [hc, e1.2]; exact Nat.le_refl _
theorem RC.fc {Γ : GAM} {D : DIR} {g g' : GH} (h : RC Γ D g) (k : FC D g g') : RC Γ D g' := by
  obtain ⟨h1, h2⟩ := h
  obtain ⟨_, k1, k2⟩ := k
  unfold RC
  omega
theorem COM.fr {Γ : GAM} {D : DIR} {g g' : GH} {m : Nat} {fs cs : List Nat} (h : COM Γ D g) (k : FrX m fs cs g g') (hk : EN g) (hp : PF fs cs) : COM Γ D g' := by
  obtain ⟨xs, h1, h2⟩ := h
  refine ⟨xs, h1.fr (FrX.fr (als := []) k hk) (by simp) (hp.1 _ (by decide)) (hp.2 _ (by decide)), fun x hx => ?_⟩
  rw [k.1.2.2.2.2.2.1, k.1.2.2.2.2.2.2.2.2.2.2.1]
  exact h2 x hx
theorem PoL.fr {fs cs als : List Nat} {D : DIR} {g g' : GH} (h : PoL D g) (k : Fr fs cs als g g') : PoL D g' := by
  obtain ⟨⟨h1, h2⟩, ⟨v1, v2, v3⟩, ⟨e1, e2, e3⟩, ⟨m1, m2, m3⟩, ⟨c1, c2, c3⟩, j1, ⟨k1, k2, k3, k4⟩, b1, b2, b3, b4⟩ := h
  have kp := k.kd h1 (by omega)
  have kv := k.kd b1 (by omega)
  have ke := k.kd b2 (by omega)
  have km := k.kd b3 (by omega)
  have kc := k.kd b4 (by omega)
  have hh := k.hn
  have gr : ∀ f, 128 ≤ f → Gr g' f (d_p D) = Gr g f (d_p D) := fun f hf => k.gr h1 hf
  unfold PoL
  rw [gr _ (by decide), gr _ (by decide), gr _ (by decide), gr _ (by decide), gr _ (by decide), kp.1, kv.1, kv.2.1, kv.2.2.1, ke.1, ke.2.1, ke.2.2.1, km.1, km.2.1, km.2.2.1, kc.1, kc.2.1, kc.2.2.1]
  exact ⟨⟨by omega, h2⟩, ⟨v1, v2, v3⟩, ⟨e1, e2, e3⟩, ⟨m1, m2, m3⟩, ⟨c1, c2, c3⟩, j1, ⟨k1, k2, k3, k4⟩, by omega, by omega, by omega, by omega⟩
/-- its lists are not those of voters and envelopes -/
theorem PoI.fc {Γ : GAM} {D : DIR} {g g' : GH} {s : ST} {fs cs : List Nat} (h : PoI Γ D g s) (k : Fr fs cs [d_cl D] g g') (hp : PF fs cs) (h1 : 645 ∉ fs ∧ 646 ∉ fs ∧ 647 ∉ fs ∧ 648 ∉ fs ∧ 649 ∉ fs ∧ 134 ∉ fs) : PoI Γ D g' s := by
  obtain ⟨⟨he, ht, hs⟩, hl, ⟨c1, c2, c3, c4, c5⟩, ⟨v1, v2, v3, v4⟩, ⟨e1, e2, e3⟩, hh, hm, hj⟩ := h
  obtain ⟨⟨p1, p2⟩, ⟨_, lv2, lv3⟩, ⟨_, le2, le3⟩, ⟨_, lm2, lm3⟩, ⟨_, lc2, lc3⟩, -, -, -⟩ := id hl
  have nv : d_vl D ∉ [d_cl D] := fun z => by rw [List.mem_singleton] at z; rw [z, lc2] at lv2; exact absurd lv2 (by decide)
  have ne : d_el D ∉ [d_cl D] := fun z => by rw [List.mem_singleton] at z; rw [z, lc2] at le2; exact absurd le2 (by decide)
  have nm : d_ml D ∉ [d_cl D] := fun z => by rw [List.mem_singleton] at z; rw [z, lc2] at lm2; exact absurd lm2 (by decide)
  refine ⟨⟨k.en he, k.nt ht, hs.fr k⟩, hl.fr k, ⟨by rw [k.gi p1 h1.1 (by decide)]; exact c1, by rw [k.gi p1 h1.2.1 (by decide)]; exact c2, by rw [k.gi p1 h1.2.2.1 (by decide)]; exact c3, by rw [k.gi p1 h1.2.2.2.1 (by decide)]; exact c4, by rw [k.gi p1 h1.2.2.2.2.1 (by decide)]; exact c5⟩,
    ⟨v1.fr k nv (hp.1 _ (by decide)) (hp.2 _ (by decide)), v2, fun v x hx => ?_, v4⟩, ⟨e1.fr k ne (hp.1 _ (by decide)) (hp.2 _ (by decide)), e2, fun e x hx => ?_⟩, fun e x hx => ?_, hm.fr k hp nm, hj.fr k hp he (fun al ha z => ?_)⟩
  · obtain ⟨y, L, q1, q2, q3, q4⟩ := v3 v x hx
    refine ⟨y, L, q1, q2.fr k hp (fun al ha z => ?_), q3, q4⟩
    rw [List.mem_singleton] at ha
    rw [ha, lc2] at z
    rcases z.2 with z | z <;> exact absurd z (by decide)
  · obtain ⟨y, w, L, q1, q2, q3, q4, q5⟩ := e3 e x hx
    refine ⟨y, w, L, q1, q2, q3.fr k hp (fun al ha z => ?_), q4, q5⟩
    rw [List.mem_singleton] at ha
    rw [ha, lc2] at z
    exact absurd z.2 (by decide)
  · obtain ⟨y, w, L, q1, q2, q3, q4, q5⟩ := e3 e x hx
    rw [k.gi q3.1.1 h1.2.2.2.2.2 (by decide)]
    exact hh e x hx
  · rw [List.mem_singleton] at ha
    rw [ha, lc2] at z
    exact absurd z.2 (by decide)
theorem PoI.c {Γ : GAM} {D : DIR} {g g' : GH} {s : ST} (h : PoI Γ D g s) (k : FC D g g') : PoI Γ D g' s := h.fc k.1 PF.c (by decide)
theorem PoI.vat {Γ : GAM} {D : DIR} {g : GH} {s : ST} (h : PoI Γ D g s) {v : Nat} (hv : v < (s_vot s).length) : ∃ x, (d_vs D)[v]? = some x ∧ VOS Γ D g s v x := by
  obtain ⟨-, -, -, ⟨v1, v2, v3, v4⟩, -⟩ := h
  obtain ⟨x, hx⟩ := get_lt (show v < (d_vs D).length by omega)
  exact ⟨x, hx, v3 v x hx⟩
theorem PoI.eat {Γ : GAM} {D : DIR} {g : GH} {s : ST} (h : PoI Γ D g s) {e : Nat} (he : e < (s_env s).length) : ∃ x, (d_es D)[e]? = some x ∧ EOS Γ D g s e x := by
  obtain ⟨-, -, -, -, ⟨v1, v2, v3⟩, -⟩ := h
  obtain ⟨x, hx⟩ := get_lt (show e < (d_es D).length by omega)
  exact ⟨x, hx, v3 e x hx⟩
theorem EOS.inj {Γ : GAM} {D : DIR} {g : GH} {s : ST} {e e' x : Nat} (h : EOS Γ D g s e x) (h' : EOS Γ D g s e' x) (hl : (s_env s).length ≤ 200) : e = e' := by
  obtain ⟨y, w, L, q1, q2, q3, q4, q5⟩ := h
  obtain ⟨y', w', L', q1', q2', q3', q4', q5'⟩ := h'
  have a := q3.2.2.1.1
  rw [q3'.2.2.1.1] at a
  have h1 := (List.getElem?_eq_some_iff.mp q1).1
  have h2 := (List.getElem?_eq_some_iff.mp q1').1
  exact ((nj_eq (by omega) (by omega)).mp a).symm
/-! asking for a voter, an envelope; the emptying that takes a drop -/
def Sp_Po_voterAt (Γ : GAM) (m : Nat) (p0 : Int32) (g : GH) (K : Option Nat → GH → Prop) : Prop := ∃ D s, d_p D = m ∧ PoI Γ D g s ∧ (s_vot s).length ≤ 60 ∧ (¬ (0 ≤ p0 ∧ p0 ≤ nI (s_vot s).length - 1) → K none g) ∧ (∀ v x, p0 = nI v → v < (s_vot s).length → (d_vs D)[v]? = some x → Kd g x = 11 → K (some x) g)
theorem wn_c {n : Int32} {k : Nat} (hk : k ≤ 1000) : (0 ≤ n ∧ n ≤ nI k - 1) ↔ ∃ i, n = nI i ∧ i < k := by
  constructor
  · rintro ⟨h1, h2⟩
    have hn := nj_of h1
    rcases Nat.eq_zero_or_pos k with z | z
    · rw [z] at h2
      exact absurd (Int32.le_trans h1 h2) (by decide)
    · rw [hn.1, show nI k - 1 = nI (k - 1) from nj_sub (b := 1) z, nj_le hn.2 (by omega)] at h2
      exact ⟨_, hn.1, by omega⟩
  · rintro ⟨i, rfl, hi⟩
    rw [show nI k - 1 = nI (k - 1) from nj_sub (b := 1) (by omega), nj_le (by omega) (by omega)]
    exact ⟨nj_nneg (by omega), by omega⟩
-- the walk of Po_voterAt
set_option maxRecDepth 100000 in
def B_Po_voterAt_32 (Γ : GAM) (K : Option Nat → GH → Prop) (s0 : Option Nat) (g : GH) : Prop :=
  K s0 g
set_option maxHeartbeats 4000000 in
set_option maxRecDepth 100000 in
theorem S_Po_voterAt_32 {Γ : GAM} {E : EV} {K : Option Nat → GH → Prop} (hE : GE Γ E cX4_voterAt 2 RX4 (some (.object "PostVotes$Voter")) 3 64 (fun r g' => ∃ x, r = some (va_rf x) ∧ K x g')) (s0 : Option Nat) (g : GH) (h : B_Po_voterAt_32 Γ K s0 g) : JW Γ E 32 [none, none] [va_rf s0] g := by
  unfold B_Po_voterAt_32 at h
  exact j_aret (v := s0) hE (Or.inl ⟨_, rfl⟩) (by decide +kernel : decode cX4_voterAt 32 = .ok (.areturn, 1)) ⟨_, rfl, h⟩
set_option maxRecDepth 100000 in
def B_Po_voterAt_0 (Γ : GAM) (K : Option Nat → GH → Prop) (th : Nat) (p0 : Int32) (g : GH) : Prop :=
  Kd g th = 6 ∧ ∃ a1 : Nat, Gr g 640 th = some a1 ∧ Kd g a1 = 1 ∧ Sp_AL_size Γ a1 g (fun (x3 : Int32) (g2 : GH) => Sp_PV_isWithin Γ p0 (0 : Int32) (x3 - (1 : Int32)) g2 (fun (x5 : Int32) (g4 : GH) => ((x5 = 0 → B_Po_voterAt_32 Γ K none g4) ∧ (¬ (x5 = 0) → Kd g4 th = 6 ∧ ∃ a6 : Nat, Gr g4 640 th = some a6 ∧ Kd g4 a6 = 1 ∧ Sp_AL_get Γ a6 p0 g4 (fun (a8 : Nat) (g7 : GH) => Kd g7 a8 = 11 ∧ B_Po_voterAt_32 Γ K (some a8) g7)))))
set_option maxHeartbeats 4000000 in
set_option maxRecDepth 100000 in
theorem S_Po_voterAt_0 {Γ : GAM} {E : EV} {K : Option Nat → GH → Prop} (hE : GE Γ E cX4_voterAt 2 RX4 (some (.object "PostVotes$Voter")) 3 64 (fun r g' => ∃ x, r = some (va_rf x) ∧ K x g')) (th : Nat) (p0 : Int32) (g : GH) (h : B_Po_voterAt_0 Γ K th p0 g) : JW Γ E 0 [some (.ref th), some (.int p0)] [] g := by
  unfold B_Po_voterAt_0 at h
  refine j_iload_n hE (by decide +kernel : decode cX4_voterAt 0 = .ok (.iload_n 1, 1)) rfl rfl ?_
  refine j_iconst hE (by decide +kernel : decode cX4_voterAt 1 = .ok (.iconst 0, 1)) (v := (0 : Int32)) (by decide) ?_
  refine j_aload_n hE (by decide +kernel : decode cX4_voterAt 2 = .ok (.aload_n 0, 1)) rfl rfl ?_
  obtain ⟨hk, h⟩ := h
  obtain ⟨a1, ha, h⟩ := h
  refine j_getRn hE fg_X4_12 hk ha (by decide +kernel : decode cX4_voterAt 3 = .ok (.getfield 12, 3)) ?_
  obtain ⟨hk, h⟩ := h
  refine j_callV hE rfl cl_X4_34 cf_0 im_Jx4a65c_size_8abf5 se_Jx4a65c_size_8abf5 ⟨by omega, by omega⟩ (As := []) (rest := [.int (0 : Int32), .int p0]) rfl rfl (Nat.le_of_ble_eq_true rfl) hk (by decide +kernel : decode cX4_voterAt 6 = .ok (.invokevirtual 34, 3)) (mt_AL_size _ _ _ h) ?_
  rintro _ g2 ⟨x3, rfl, h⟩
  refine j_iconst hE (by decide +kernel : decode cX4_voterAt 9 = .ok (.iconst 1, 1)) (v := (1 : Int32)) (by decide) ?_
  refine j_isub hE (by decide +kernel : decode cX4_voterAt 10 = .ok (.isub, 1)) ?_
  refine j_callSN hE rfl cl_X4_38 st_X10_isWithin ⟨by omega, by omega⟩ (As := [.int p0, .int (0 : Int32), .int (x3 - (1 : Int32))]) (rest := []) rfl rfl (Nat.le_of_ble_eq_true rfl) (by decide +kernel : decode cX4_voterAt 11 = .ok (.invokestatic 38, 3)) (mt_PV_isWithin _ _ _ _ _ h) ?_
  rintro _ g4 ⟨x5, rfl, h⟩
  refine j_if_eq hE (by decide +kernel : decode cX4_voterAt 14 = .ok (.ifCond .eq 17, 3)) (tgt := 31) (by decide) (fun q => ?_) (fun q => ?_)
  · replace h := h.1 q
    refine j_null hE (by decide +kernel : decode cX4_voterAt 31 = .ok (.aconst_null, 1)) ?_
    refine j_weak [none, none] trivial ?_
    exact S_Po_voterAt_32 hE _ _ h
  · replace h := h.2 q
    refine j_aload_n hE (by decide +kernel : decode cX4_voterAt 17 = .ok (.aload_n 0, 1)) rfl rfl ?_
    obtain ⟨hk, h⟩ := h
    obtain ⟨a6, ha, h⟩ := h
    refine j_getRn hE fg_X4_12 hk ha (by decide +kernel : decode cX4_voterAt 18 = .ok (.getfield 12, 3)) ?_
    refine j_iload_n hE (by decide +kernel : decode cX4_voterAt 21 = .ok (.iload_n 1, 1)) rfl rfl ?_
    obtain ⟨hk, h⟩ := h
    refine j_callV hE rfl cl_X4_42 cf_0 im_Jx4a65c_get_915e3 se_Jx4a65c_get_915e3 ⟨by omega, by omega⟩ (As := [.int p0]) (rest := []) rfl rfl (Nat.le_of_ble_eq_true rfl) hk (by decide +kernel : decode cX4_voterAt 22 = .ok (.invokevirtual 42, 3)) (mt_AL_get _ _ _ _ h) ?_
    rintro _ g7 ⟨a8, rfl, h⟩
    obtain ⟨hk, h⟩ := h
    refine j_cast hE cf_10 ck_X4_46 hk (by decide +kernel : decode cX4_voterAt 25 = .ok (.checkcast 46, 3)) ?_
    refine j_goto hE (by decide +kernel : decode cX4_voterAt 28 = .ok (.goto 4, 3)) (tgt := 32) (by decide) ?_
    refine j_weak [none, none] trivial ?_
    exact S_Po_voterAt_32 hE _ _ h
set_option maxHeartbeats 4000000 in
set_option maxRecDepth 100000 in
theorem rl_Po_voterAt {Γ : GAM} {l : Launch} {th : Nat} {p0 : Int32} {g : GH} {K : Option Nat → GH → Prop} (h0 : B_Po_voterAt_0 Γ K th p0 g) : MetA Γ l yX4_voterAt cX4_voterAt 2 (some (.object "PostVotes$Voter")) 3 64 [.ref th, .int p0] g (fun r g' => ∃ x, r = some (va_rf x) ∧ K x g') := by
  refine MetA.introL (Lx := [some (.ref th), some (.int p0)]) (by decide) (Nat.le_of_ble_eq_true rfl) rfl rfl ?_
  intro E hEl hE hnm
  exact S_Po_voterAt_0 hE th p0 g h0
theorem mt_Po_voterAt {Γ : GAM} {l : Launch} (th : Nat) (p0 : Int32) (g : GH) (K : Option Nat → GH → Prop) (h : Sp_Po_voterAt Γ th p0 g K) : MetA Γ l yX4_voterAt cX4_voterAt 2 (some (.object "PostVotes$Voter")) 3 64 [.ref th, .int p0] g (fun r g' => ∃ x, r = some (va_rf x) ∧ K x g') := by
  obtain ⟨D, s, rfl, hP, hl, hK0, hK1⟩ := h
  obtain ⟨-, ⟨⟨_, p2⟩, ⟨q1, _⟩, -, -, -, -, ⟨k1, -⟩, -⟩, -, ⟨v1, v2, v3, v4⟩, -⟩ := id hP
  refine rl_Po_voterAt ?_
  unfold B_Po_voterAt_0 B_Po_voterAt_32 Sp_PV_isWithin
  refine ⟨p2, _, q1, k1, k1, ?_⟩
  rw [v1.2.1, v2]
  refine ⟨fun u => hK0 (fun z => by rw [if_pos z] at u; exact absurd u (by decide)), fun u => ?_⟩
  have hin := Classical.byContradiction (fun z => u (if_neg z))
  obtain ⟨i, rfl, hi⟩ := (wn_c (by omega)).mp hin
  obtain ⟨x, hx, hV⟩ := hP.vat hi
  obtain ⟨y, L, _, hV, _⟩ := hV
  exact ⟨p2, _, q1, k1, d_vs D, i, x, v1, rfl, hx, hV.1.2, hK1 i x rfl hi hx hV.1.2⟩
def Sp_Po_envelopeAt (Γ : GAM) (m : Nat) (p0 : Int32) (g : GH) (K : Option Nat → GH → Prop) : Prop := ∃ D s, d_p D = m ∧ PoI Γ D g s ∧ (s_env s).length ≤ 200 ∧ (¬ (0 ≤ p0 ∧ p0 ≤ nI (s_env s).length - 1) → K none g) ∧ (∀ v x, p0 = nI v → v < (s_env s).length → (d_es D)[v]? = some x → Kd g x = 2 → K (some x) g)
-- the walk of Po_envelopeAt
set_option maxRecDepth 100000 in
def B_Po_envelopeAt_32 (Γ : GAM) (K : Option Nat → GH → Prop) (s0 : Option Nat) (g : GH) : Prop :=
  K s0 g
set_option maxHeartbeats 4000000 in
set_option maxRecDepth 100000 in
theorem S_Po_envelopeAt_32 {Γ : GAM} {E : EV} {K : Option Nat → GH → Prop} (hE : GE Γ E cX4_envelopeAt 2 RX4 (some (.object "PostVotes$Envelope")) 3 64 (fun r g' => ∃ x, r = some (va_rf x) ∧ K x g')) (s0 : Option Nat) (g : GH) (h : B_Po_envelopeAt_32 Γ K s0 g) : JW Γ E 32 [none, none] [va_rf s0] g := by
  unfold B_Po_envelopeAt_32 at h
  exact j_aret (v := s0) hE (Or.inl ⟨_, rfl⟩) (by decide +kernel : decode cX4_envelopeAt 32 = .ok (.areturn, 1)) ⟨_, rfl, h⟩
set_option maxRecDepth 100000 in
def B_Po_envelopeAt_0 (Γ : GAM) (K : Option Nat → GH → Prop) (th : Nat) (p0 : Int32) (g : GH) : Prop :=
  Kd g th = 6 ∧ ∃ a1 : Nat, Gr g 641 th = some a1 ∧ Kd g a1 = 1 ∧ Sp_AL_size Γ a1 g (fun (x3 : Int32) (g2 : GH) => Sp_PV_isWithin Γ p0 (0 : Int32) (x3 - (1 : Int32)) g2 (fun (x5 : Int32) (g4 : GH) => ((x5 = 0 → B_Po_envelopeAt_32 Γ K none g4) ∧ (¬ (x5 = 0) → Kd g4 th = 6 ∧ ∃ a6 : Nat, Gr g4 641 th = some a6 ∧ Kd g4 a6 = 1 ∧ Sp_AL_get Γ a6 p0 g4 (fun (a8 : Nat) (g7 : GH) => Kd g7 a8 = 2 ∧ B_Po_envelopeAt_32 Γ K (some a8) g7)))))
set_option maxHeartbeats 4000000 in
set_option maxRecDepth 100000 in
theorem S_Po_envelopeAt_0 {Γ : GAM} {E : EV} {K : Option Nat → GH → Prop} (hE : GE Γ E cX4_envelopeAt 2 RX4 (some (.object "PostVotes$Envelope")) 3 64 (fun r g' => ∃ x, r = some (va_rf x) ∧ K x g')) (th : Nat) (p0 : Int32) (g : GH) (h : B_Po_envelopeAt_0 Γ K th p0 g) : JW Γ E 0 [some (.ref th), some (.int p0)] [] g := by
  unfold B_Po_envelopeAt_0 at h
  refine j_iload_n hE (by decide +kernel : decode cX4_envelopeAt 0 = .ok (.iload_n 1, 1)) rfl rfl ?_
  refine j_iconst hE (by decide +kernel : decode cX4_envelopeAt 1 = .ok (.iconst 0, 1)) (v := (0 : Int32)) (by decide) ?_
  refine j_aload_n hE (by decide +kernel : decode cX4_envelopeAt 2 = .ok (.aload_n 0, 1)) rfl rfl ?_
  obtain ⟨hk, h⟩ := h
  obtain ⟨a1, ha, h⟩ := h
  refine j_getRn hE fg_X4_18 hk ha (by decide +kernel : decode cX4_envelopeAt 3 = .ok (.getfield 18, 3)) ?_
  obtain ⟨hk, h⟩ := h
  refine j_callV hE rfl cl_X4_34 cf_0 im_Jx4a65c_size_8abf5 se_Jx4a65c_size_8abf5 ⟨by omega, by omega⟩ (As := []) (rest := [.int (0 : Int32), .int p0]) rfl rfl (Nat.le_of_ble_eq_true rfl) hk (by decide +kernel : decode cX4_envelopeAt 6 = .ok (.invokevirtual 34, 3)) (mt_AL_size _ _ _ h) ?_
  rintro _ g2 ⟨x3, rfl, h⟩
  refine j_iconst hE (by decide +kernel : decode cX4_envelopeAt 9 = .ok (.iconst 1, 1)) (v := (1 : Int32)) (by decide) ?_
  refine j_isub hE (by decide +kernel : decode cX4_envelopeAt 10 = .ok (.isub, 1)) ?_
  refine j_callSN hE rfl cl_X4_38 st_X10_isWithin ⟨by omega, by omega⟩ (As := [.int p0, .int (0 : Int32), .int (x3 - (1 : Int32))]) (rest := []) rfl rfl (Nat.le_of_ble_eq_true rfl) (by decide +kernel : decode cX4_envelopeAt 11 = .ok (.invokestatic 38, 3)) (mt_PV_isWithin _ _ _ _ _ h) ?_
  rintro _ g4 ⟨x5, rfl, h⟩
  refine j_if_eq hE (by decide +kernel : decode cX4_envelopeAt 14 = .ok (.ifCond .eq 17, 3)) (tgt := 31) (by decide) (fun q => ?_) (fun q => ?_)
  · replace h := h.1 q
    refine j_null hE (by decide +kernel : decode cX4_envelopeAt 31 = .ok (.aconst_null, 1)) ?_
    refine j_weak [none, none] trivial ?_
    exact S_Po_envelopeAt_32 hE _ _ h
  · replace h := h.2 q
    refine j_aload_n hE (by decide +kernel : decode cX4_envelopeAt 17 = .ok (.aload_n 0, 1)) rfl rfl ?_
    obtain ⟨hk, h⟩ := h
    obtain ⟨a6, ha, h⟩ := h
    refine j_getRn hE fg_X4_18 hk ha (by decide +kernel : decode cX4_envelopeAt 18 = .ok (.getfield 18, 3)) ?_
    refine j_iload_n hE (by decide +kernel : decode cX4_envelopeAt 21 = .ok (.iload_n 1, 1)) rfl rfl ?_
    obtain ⟨hk, h⟩ := h
    refine j_callV hE rfl cl_X4_42 cf_0 im_Jx4a65c_get_915e3 se_Jx4a65c_get_915e3 ⟨by omega, by omega⟩ (As := [.int p0]) (rest := []) rfl rfl (Nat.le_of_ble_eq_true rfl) hk (by decide +kernel : decode cX4_envelopeAt 22 = .ok (.invokevirtual 42, 3)) (mt_AL_get _ _ _ _ h) ?_
    rintro _ g7 ⟨a8, rfl, h⟩
    obtain ⟨hk, h⟩ := h
    refine j_cast hE cf_1 ck_X4_48 hk (by decide +kernel : decode cX4_envelopeAt 25 = .ok (.checkcast 48, 3)) ?_
    refine j_goto hE (by decide +kernel : decode cX4_envelopeAt 28 = .ok (.goto 4, 3)) (tgt := 32) (by decide) ?_
    refine j_weak [none, none] trivial ?_
    exact S_Po_envelopeAt_32 hE _ _ h
set_option maxHeartbeats 4000000 in
set_option maxRecDepth 100000 in
theorem rl_Po_envelopeAt {Γ : GAM} {l : Launch} {th : Nat} {p0 : Int32} {g : GH} {K : Option Nat → GH → Prop} (h0 : B_Po_envelopeAt_0 Γ K th p0 g) : MetA Γ l yX4_envelopeAt cX4_envelopeAt 2 (some (.object "PostVotes$Envelope")) 3 64 [.ref th, .int p0] g (fun r g' => ∃ x, r = some (va_rf x) ∧ K x g') := by
  refine MetA.introL (Lx := [some (.ref th), some (.int p0)]) (by decide) (Nat.le_of_ble_eq_true rfl) rfl rfl ?_
  intro E hEl hE hnm
  exact S_Po_envelopeAt_0 hE th p0 g h0
theorem mt_Po_envelopeAt {Γ : GAM} {l : Launch} (th : Nat) (p0 : Int32) (g : GH) (K : Option Nat → GH → Prop) (h : Sp_Po_envelopeAt Γ th p0 g K) : MetA Γ l yX4_envelopeAt cX4_envelopeAt 2 (some (.object "PostVotes$Envelope")) 3 64 [.ref th, .int p0] g (fun r g' => ∃ x, r = some (va_rf x) ∧ K x g') := by
  obtain ⟨D, s, rfl, hP, hl, hK0, hK1⟩ := h
  obtain ⟨-, ⟨⟨_, p2⟩, -, ⟨q1, _⟩, -, -, -, ⟨_, k1, -⟩, -⟩, -, -, ⟨v1, v2, v3⟩, -⟩ := id hP
  refine rl_Po_envelopeAt ?_
  unfold B_Po_envelopeAt_0 B_Po_envelopeAt_32 Sp_PV_isWithin
  refine ⟨p2, _, q1, k1, k1, ?_⟩
  rw [v1.2.1, v2]
  refine ⟨fun u => hK0 (fun z => by rw [if_pos z] at u; exact absurd u (by decide)), fun u => ?_⟩
  have hin := Classical.byContradiction (fun z => u (if_neg z))
  obtain ⟨i, rfl, hi⟩ := (wn_c (by omega)).mp hin
  obtain ⟨x, hx, hV⟩ := hP.eat hi
  obtain ⟨y, w, L, _, _, hV, _⟩ := hV
  exact ⟨p2, _, q1, k1, d_es D, i, x, v1, rfl, hx, hV.1.2, hK1 i x rfl hi hx hV.1.2⟩
def emD (o : Option (Nat × Em)) : Int32 := match o with
  | none => 401
  | some p => p.2.2.1
def Sp_Po_firstEmptying (Γ : GAM) (m : Nat) (bx dd q : Int32) (g : GH) (K : Int32 → GH → Prop) : Prop := ∃ D s, d_p D = m ∧ PoI Γ D g s ∧ WF s ∧ K (if dd = -1 then -1 else oI (sEm s bx dd q)) g
-- the walk of Po_firstEmptying
set_option maxRecDepth 100000 in
def B_Po_firstEmptying_96 (Γ : GAM) (K11 : Nat → Int32 → Int32 → Int32 → Int32 → Int32 → Int32 → GH → Prop) (K : Int32 → GH → Prop) (l4 : Int32) (g : GH) : Prop :=
  K l4 g
set_option maxHeartbeats 4000000 in
set_option maxRecDepth 100000 in
theorem S_Po_firstEmptying_96 {Γ : GAM} {E : EV} {K : Int32 → GH → Prop} (hE : GE Γ E cX4_firstEmptying 8 RX4 (some (.int)) 3 64 (fun r g' => ∃ x, r = some (.int x) ∧ K x g')) {K11 : Nat → Int32 → Int32 → Int32 → Int32 → Int32 → Int32 → GH → Prop} (hK11 : ∀ (l0 : Nat) (l1 : Int32) (l2 : Int32) (l3 : Int32) (l4 : Int32) (l5 : Int32) (l6 : Int32) (g : GH), K11 l0 l1 l2 l3 l4 l5 l6 g → JW Γ E 11 [some (.ref l0), some (.int l1), some (.int l2), some (.int l3), some (.int l4), some (.int l5), some (.int l6), none] [] g) (l4 : Int32) (g : GH) (h : B_Po_firstEmptying_96 Γ K11 K l4 g) : JW Γ E 96 [none, none, none, none, some (.int l4), none, none, none] [] g := by
  unfold B_Po_firstEmptying_96 at h
  refine j_iload hE (by decide +kernel : decode cX4_firstEmptying 96 = .ok (.iload 4, 2)) rfl ?_
  exact j_iret hE (by decide +kernel : decode cX4_firstEmptying 98 = .ok (.ireturn, 1)) ⟨_, rfl, h⟩
set_option maxRecDepth 100000 in
def B_Po_firstEmptying_90 (Γ : GAM) (K11 : Nat → Int32 → Int32 → Int32 → Int32 → Int32 → Int32 → GH → Prop) (K : Int32 → GH → Prop) (l0 : Nat) (l1 : Int32) (l2 : Int32) (l3 : Int32) (l4 : Int32) (l5 : Int32) (l6 : Int32) (g : GH) : Prop :=
  K11 l0 l1 l2 l3 l4 l5 (l6 + (1 : Int32)) g
set_option maxHeartbeats 4000000 in
set_option maxRecDepth 100000 in
theorem S_Po_firstEmptying_90 {Γ : GAM} {E : EV} {K : Int32 → GH → Prop} (hE : GE Γ E cX4_firstEmptying 8 RX4 (some (.int)) 3 64 (fun r g' => ∃ x, r = some (.int x) ∧ K x g')) {K11 : Nat → Int32 → Int32 → Int32 → Int32 → Int32 → Int32 → GH → Prop} (hK11 : ∀ (l0 : Nat) (l1 : Int32) (l2 : Int32) (l3 : Int32) (l4 : Int32) (l5 : Int32) (l6 : Int32) (g : GH), K11 l0 l1 l2 l3 l4 l5 l6 g → JW Γ E 11 [some (.ref l0), some (.int l1), some (.int l2), some (.int l3), some (.int l4), some (.int l5), some (.int l6), none] [] g) (l0 : Nat) (l1 : Int32) (l2 : Int32) (l3 : Int32) (l4 : Int32) (l5 : Int32) (l6 : Int32) (g : GH) (h : B_Po_firstEmptying_90 Γ K11 K l0 l1 l2 l3 l4 l5 l6 g) : JW Γ E 90 [some (.ref l0), some (.int l1), some (.int l2), some (.int l3), some (.int l4), some (.int l5), some (.int l6), none] [] g := by
  unfold B_Po_firstEmptying_90 at h
  refine j_iinc hE (by decide +kernel : decode cX4_firstEmptying 90 = .ok (.iinc 6 1, 3)) (v := (1 : Int32)) (by decide) rfl (Nat.le_of_ble_eq_true rfl) rfl ?_
  refine j_goto hE (by decide +kernel : decode cX4_firstEmptying 93 = .ok (.goto (-82), 3)) (tgt := 11) (by decide) ?_
  exact hK11 _ _ _ _ _ _ _ _ h
set_option maxRecDepth 100000 in
def B_Po_firstEmptying_11 (Γ : GAM) (K11 : Nat → Int32 → Int32 → Int32 → Int32 → Int32 → Int32 → GH → Prop) (K : Int32 → GH → Prop) (l0 : Nat) (l1 : Int32) (l2 : Int32) (l3 : Int32) (l4 : Int32) (l5 : Int32) (l6 : Int32) (g : GH) : Prop :=
  Kd g l0 = 6 ∧ ∃ a1 : Nat, Gr g 642 l0 = some a1 ∧ Kd g a1 = 1 ∧ Sp_AL_size Γ a1 g (fun (x3 : Int32) (g2 : GH) => ((x3 ≤ l6 → B_Po_firstEmptying_96 Γ K11 K l4 g2) ∧ (¬ (x3 ≤ l6) → ((l2 = (-1 : Int32) → B_Po_firstEmptying_96 Γ K11 K l4 g2) ∧ (¬ (l2 = (-1 : Int32)) → Kd g2 l0 = 6 ∧ ∃ a4 : Nat, Gr g2 642 l0 = some a4 ∧ Kd g2 a4 = 1 ∧ Sp_AL_get Γ a4 l6 g2 (fun (a6 : Nat) (g5 : GH) => Kd g5 a6 = 9 ∧ Kd g5 a6 = 9 ∧ ((¬ ((Gi g5 1024 a6) = l1) → B_Po_firstEmptying_90 Γ K11 K l0 l1 l2 l3 l4 l5 l6 g5) ∧ ((Gi g5 1024 a6) = l1 → Kd g5 a6 = 9 ∧ ((l3 < (Gi g5 1027 a6) → B_Po_firstEmptying_90 Γ K11 K l0 l1 l2 l3 l4 l5 l6 g5) ∧ (¬ (l3 < (Gi g5 1027 a6)) → Kd g5 a6 = 9 ∧ (((Gi g5 1025 a6) < l2 → B_Po_firstEmptying_90 Γ K11 K l0 l1 l2 l3 l4 l5 l6 g5) ∧ (¬ ((Gi g5 1025 a6) < l2) → Kd g5 a6 = 9 ∧ ((l5 ≤ (Gi g5 1025 a6) → B_Po_firstEmptying_90 Γ K11 K l0 l1 l2 l3 l4 l5 l6 g5) ∧ (¬ (l5 ≤ (Gi g5 1025 a6)) → Kd g5 a6 = 9 ∧ ∀ x7 : Int32, x7 = (Gi g5 1025 a6) → B_Po_firstEmptying_90 Γ K11 K l0 l1 l2 l3 l6 x7 l6 g5))))))))))))))
set_option maxHeartbeats 4000000 in
set_option maxRecDepth 100000 in
theorem S_Po_firstEmptying_11 {Γ : GAM} {E : EV} {K : Int32 → GH → Prop} (hE : GE Γ E cX4_firstEmptying 8 RX4 (some (.int)) 3 64 (fun r g' => ∃ x, r = some (.int x) ∧ K x g')) {K11 : Nat → Int32 → Int32 → Int32 → Int32 → Int32 → Int32 → GH → Prop} (hK11 : ∀ (l0 : Nat) (l1 : Int32) (l2 : Int32) (l3 : Int32) (l4 : Int32) (l5 : Int32) (l6 : Int32) (g : GH), K11 l0 l1 l2 l3 l4 l5 l6 g → JW Γ E 11 [some (.ref l0), some (.int l1), some (.int l2), some (.int l3), some (.int l4), some (.int l5), some (.int l6), none] [] g) (l0 : Nat) (l1 : Int32) (l2 : Int32) (l3 : Int32) (l4 : Int32) (l5 : Int32) (l6 : Int32) (g : GH) (h : B_Po_firstEmptying_11 Γ K11 K l0 l1 l2 l3 l4 l5 l6 g) : JW Γ E 11 [some (.ref l0), some (.int l1), some (.int l2), some (.int l3), some (.int l4), some (.int l5), some (.int l6), none] [] g := by
  unfold B_Po_firstEmptying_11 at h
  refine j_iload hE (by decide +kernel : decode cX4_firstEmptying 11 = .ok (.iload 6, 2)) rfl ?_
  refine j_aload_n hE (by decide +kernel : decode cX4_firstEmptying 13 = .ok (.aload_n 0, 1)) rfl rfl ?_
  obtain ⟨hk, h⟩ := h
  obtain ⟨a1, ha, h⟩ := h
  refine j_getRn hE fg_X4_21 hk ha (by decide +kernel : decode cX4_firstEmptying 14 = .ok (.getfield 21, 3)) ?_
  obtain ⟨hk, h⟩ := h
  refine j_callV hE rfl cl_X4_34 cf_0 im_Jx4a65c_size_8abf5 se_Jx4a65c_size_8abf5 ⟨by omega, by omega⟩ (As := []) (rest := [.int l6]) rfl rfl (Nat.le_of_ble_eq_true rfl) hk (by decide +kernel : decode cX4_firstEmptying 17 = .ok (.invokevirtual 34, 3)) (mt_AL_size _ _ _ h) ?_
  rintro _ g2 ⟨x3, rfl, h⟩
  refine j_icmp_ge hE (by decide +kernel : decode cX4_firstEmptying 20 = .ok (.if_icmp .ge 76, 3)) (tgt := 96) (by decide) (fun q => ?_) (fun q => ?_)
  · replace h := h.1 q
    refine j_weak [none, none, none, none, some (.int l4), none, none, none] ⟨rfl, trivial⟩ ?_
    exact S_Po_firstEmptying_96 hE hK11 _ _ h
  · replace h := h.2 q
    refine j_iload_n hE (by decide +kernel : decode cX4_firstEmptying 23 = .ok (.iload_n 2, 1)) rfl rfl ?_
    refine j_iconst hE (by decide +kernel : decode cX4_firstEmptying 24 = .ok (.iconst (-1), 1)) (v := (-1 : Int32)) (by decide) ?_
    refine j_icmp_eq hE (by decide +kernel : decode cX4_firstEmptying 25 = .ok (.if_icmp .eq 71, 3)) (tgt := 96) (by decide) (fun q => ?_) (fun q => ?_)
    · replace h := h.1 q
      refine j_weak [none, none, none, none, some (.int l4), none, none, none] ⟨rfl, trivial⟩ ?_
      exact S_Po_firstEmptying_96 hE hK11 _ _ h
    · replace h := h.2 q
      refine j_aload_n hE (by decide +kernel : decode cX4_firstEmptying 28 = .ok (.aload_n 0, 1)) rfl rfl ?_
      obtain ⟨hk, h⟩ := h
      obtain ⟨a4, ha, h⟩ := h
      refine j_getRn hE fg_X4_21 hk ha (by decide +kernel : decode cX4_firstEmptying 29 = .ok (.getfield 21, 3)) ?_
      refine j_iload hE (by decide +kernel : decode cX4_firstEmptying 32 = .ok (.iload 6, 2)) rfl ?_
      obtain ⟨hk, h⟩ := h
      refine j_callV hE rfl cl_X4_42 cf_0 im_Jx4a65c_get_915e3 se_Jx4a65c_get_915e3 ⟨by omega, by omega⟩ (As := [.int l6]) (rest := []) rfl rfl (Nat.le_of_ble_eq_true rfl) hk (by decide +kernel : decode cX4_firstEmptying 34 = .ok (.invokevirtual 42, 3)) (mt_AL_get _ _ _ _ h) ?_
      rintro _ g5 ⟨a6, rfl, h⟩
      obtain ⟨hk, h⟩ := h
      refine j_cast hE cf_8 ck_X4_69 hk (by decide +kernel : decode cX4_firstEmptying 37 = .ok (.checkcast 69, 3)) ?_
      refine j_astore hE (by decide +kernel : decode cX4_firstEmptying 40 = .ok (.astore 7, 2)) (Nat.le_of_ble_eq_true rfl) rfl ?_
      refine j_aload hE (by decide +kernel : decode cX4_firstEmptying 42 = .ok (.aload 7, 2)) rfl ?_
      obtain ⟨hk, h⟩ := h
      refine j_getI hE fg_X4_83 hk (by decide +kernel : decode cX4_firstEmptying 44 = .ok (.getfield 83, 3)) ?_
      refine j_iload_n hE (by decide +kernel : decode cX4_firstEmptying 47 = .ok (.iload_n 1, 1)) rfl rfl ?_
      refine j_icmp_ne hE (by decide +kernel : decode cX4_firstEmptying 48 = .ok (.if_icmp .ne 42, 3)) (tgt := 90) (by decide) (fun q => ?_) (fun q => ?_)
      · replace h := h.1 q
        refine j_weak [some (.ref l0), some (.int l1), some (.int l2), some (.int l3), some (.int l4), some (.int l5), some (.int l6), none] ⟨rfl, ⟨rfl, ⟨rfl, ⟨rfl, ⟨rfl, ⟨rfl, ⟨rfl, trivial⟩⟩⟩⟩⟩⟩⟩ ?_
        exact S_Po_firstEmptying_90 hE hK11 _ _ _ _ _ _ _ _ h
      · replace h := h.2 q
        refine j_aload hE (by decide +kernel : decode cX4_firstEmptying 51 = .ok (.aload 7, 2)) rfl ?_
        obtain ⟨hk, h⟩ := h
        refine j_getI hE fg_X4_86 hk (by decide +kernel : decode cX4_firstEmptying 53 = .ok (.getfield 86, 3)) ?_
        refine j_iload_n hE (by decide +kernel : decode cX4_firstEmptying 56 = .ok (.iload_n 3, 1)) rfl rfl ?_
        refine j_icmp_gt hE (by decide +kernel : decode cX4_firstEmptying 57 = .ok (.if_icmp .gt 33, 3)) (tgt := 90) (by decide) (fun q => ?_) (fun q => ?_)
        · replace h := h.1 q
          refine j_weak [some (.ref l0), some (.int l1), some (.int l2), some (.int l3), some (.int l4), some (.int l5), some (.int l6), none] ⟨rfl, ⟨rfl, ⟨rfl, ⟨rfl, ⟨rfl, ⟨rfl, ⟨rfl, trivial⟩⟩⟩⟩⟩⟩⟩ ?_
          exact S_Po_firstEmptying_90 hE hK11 _ _ _ _ _ _ _ _ h
        · replace h := h.2 q
          refine j_aload hE (by decide +kernel : decode cX4_firstEmptying 60 = .ok (.aload 7, 2)) rfl ?_
          obtain ⟨hk, h⟩ := h
          refine j_getI hE fg_X4_71 hk (by decide +kernel : decode cX4_firstEmptying 62 = .ok (.getfield 71, 3)) ?_
          refine j_iload_n hE (by decide +kernel : decode cX4_firstEmptying 65 = .ok (.iload_n 2, 1)) rfl rfl ?_
          refine j_icmp_lt hE (by decide +kernel : decode cX4_firstEmptying 66 = .ok (.if_icmp .lt 24, 3)) (tgt := 90) (by decide) (fun q => ?_) (fun q => ?_)
          · replace h := h.1 q
            refine j_weak [some (.ref l0), some (.int l1), some (.int l2), some (.int l3), some (.int l4), some (.int l5), some (.int l6), none] ⟨rfl, ⟨rfl, ⟨rfl, ⟨rfl, ⟨rfl, ⟨rfl, ⟨rfl, trivial⟩⟩⟩⟩⟩⟩⟩ ?_
            exact S_Po_firstEmptying_90 hE hK11 _ _ _ _ _ _ _ _ h
          · replace h := h.2 q
            refine j_aload hE (by decide +kernel : decode cX4_firstEmptying 69 = .ok (.aload 7, 2)) rfl ?_
            obtain ⟨hk, h⟩ := h
            refine j_getI hE fg_X4_71 hk (by decide +kernel : decode cX4_firstEmptying 71 = .ok (.getfield 71, 3)) ?_
            refine j_iload hE (by decide +kernel : decode cX4_firstEmptying 74 = .ok (.iload 5, 2)) rfl ?_
            refine j_icmp_ge hE (by decide +kernel : decode cX4_firstEmptying 76 = .ok (.if_icmp .ge 14, 3)) (tgt := 90) (by decide) (fun q => ?_) (fun q => ?_)
            · replace h := h.1 q
              refine j_weak [some (.ref l0), some (.int l1), some (.int l2), some (.int l3), some (.int l4), some (.int l5), some (.int l6), none] ⟨rfl, ⟨rfl, ⟨rfl, ⟨rfl, ⟨rfl, ⟨rfl, ⟨rfl, trivial⟩⟩⟩⟩⟩⟩⟩ ?_
              exact S_Po_firstEmptying_90 hE hK11 _ _ _ _ _ _ _ _ h
            · replace h := h.2 q
              refine j_iload hE (by decide +kernel : decode cX4_firstEmptying 79 = .ok (.iload 6, 2)) rfl ?_
              refine j_istore hE (by decide +kernel : decode cX4_firstEmptying 81 = .ok (.istore 4, 2)) (Nat.le_of_ble_eq_true rfl) rfl ?_
              refine j_aload hE (by decide +kernel : decode cX4_firstEmptying 83 = .ok (.aload 7, 2)) rfl ?_
              obtain ⟨hk, h⟩ := h
              refine j_getI hE fg_X4_71 hk (by decide +kernel : decode cX4_firstEmptying 85 = .ok (.getfield 71, 3)) ?_
              obtain ⟨x7, hx⟩ : ∃ z, z = (Gi g5 1025 a6) := ⟨_, rfl⟩; replace h := h x7 hx; rw [← hx]
              refine j_istore hE (by decide +kernel : decode cX4_firstEmptying 88 = .ok (.istore 5, 2)) (Nat.le_of_ble_eq_true rfl) rfl ?_
              refine j_weak [some (.ref l0), some (.int l1), some (.int l2), some (.int l3), some (.int l6), some (.int x7), some (.int l6), none] ⟨rfl, ⟨rfl, ⟨rfl, ⟨rfl, ⟨rfl, ⟨rfl, ⟨rfl, trivial⟩⟩⟩⟩⟩⟩⟩ ?_
              exact S_Po_firstEmptying_90 hE hK11 _ _ _ _ _ _ _ _ h
set_option maxRecDepth 100000 in
def B_Po_firstEmptying_0 (Γ : GAM) (K11 : Nat → Int32 → Int32 → Int32 → Int32 → Int32 → Int32 → GH → Prop) (K : Int32 → GH → Prop) (th : Nat) (p0 : Int32) (p1 : Int32) (p2 : Int32) (g : GH) : Prop :=
  K11 th p0 p1 p2 (-1 : Int32) (401 : Int32) (0 : Int32) g
set_option maxHeartbeats 4000000 in
set_option maxRecDepth 100000 in
theorem S_Po_firstEmptying_0 {Γ : GAM} {E : EV} {K : Int32 → GH → Prop} (hE : GE Γ E cX4_firstEmptying 8 RX4 (some (.int)) 3 64 (fun r g' => ∃ x, r = some (.int x) ∧ K x g')) {K11 : Nat → Int32 → Int32 → Int32 → Int32 → Int32 → Int32 → GH → Prop} (hK11 : ∀ (l0 : Nat) (l1 : Int32) (l2 : Int32) (l3 : Int32) (l4 : Int32) (l5 : Int32) (l6 : Int32) (g : GH), K11 l0 l1 l2 l3 l4 l5 l6 g → JW Γ E 11 [some (.ref l0), some (.int l1), some (.int l2), some (.int l3), some (.int l4), some (.int l5), some (.int l6), none] [] g) (th : Nat) (p0 : Int32) (p1 : Int32) (p2 : Int32) (g : GH) (h : B_Po_firstEmptying_0 Γ K11 K th p0 p1 p2 g) : JW Γ E 0 [some (.ref th), some (.int p0), some (.int p1), some (.int p2), none, none, none, none] [] g := by
  unfold B_Po_firstEmptying_0 at h
  refine j_iconst hE (by decide +kernel : decode cX4_firstEmptying 0 = .ok (.iconst (-1), 1)) (v := (-1 : Int32)) (by decide) ?_
  refine j_istore hE (by decide +kernel : decode cX4_firstEmptying 1 = .ok (.istore 4, 2)) (Nat.le_of_ble_eq_true rfl) rfl ?_
  refine j_sipush hE (by decide +kernel : decode cX4_firstEmptying 3 = .ok (.sipush 401, 3)) (v := (401 : Int32)) (by decide) ?_
  refine j_istore hE (by decide +kernel : decode cX4_firstEmptying 6 = .ok (.istore 5, 2)) (Nat.le_of_ble_eq_true rfl) rfl ?_
  refine j_iconst hE (by decide +kernel : decode cX4_firstEmptying 8 = .ok (.iconst 0, 1)) (v := (0 : Int32)) (by decide) ?_
  refine j_istore hE (by decide +kernel : decode cX4_firstEmptying 9 = .ok (.istore 6, 2)) (Nat.le_of_ble_eq_true rfl) rfl ?_
  exact hK11 _ _ _ _ _ _ _ _ h
set_option maxHeartbeats 4000000 in
set_option maxRecDepth 100000 in
theorem rl_Po_firstEmptying {Γ : GAM} {l : Launch} {th : Nat} {p0 : Int32} {p1 : Int32} {p2 : Int32} {g : GH} {K : Int32 → GH → Prop} (I11 : Nat → Nat → Int32 → Int32 → Int32 → Int32 → Int32 → Int32 → GH → Prop) (hh11 : ∀ n (l0 : Nat) (l1 : Int32) (l2 : Int32) (l3 : Int32) (l4 : Int32) (l5 : Int32) (l6 : Int32) (g : GH), I11 n l0 l1 l2 l3 l4 l5 l6 g → B_Po_firstEmptying_11 Γ (fun l0 l1 l2 l3 l4 l5 l6 g => ∃ m, m < n ∧ I11 m l0 l1 l2 l3 l4 l5 l6 g) K l0 l1 l2 l3 l4 l5 l6 g) (h0 : B_Po_firstEmptying_0 Γ (fun l0 l1 l2 l3 l4 l5 l6 g => ∃ m, I11 m l0 l1 l2 l3 l4 l5 l6 g) K th p0 p1 p2 g) : MetA Γ l yX4_firstEmptying cX4_firstEmptying 8 (some (.int)) 3 64 [.ref th, .int p0, .int p1, .int p2] g (fun r g' => ∃ x, r = some (.int x) ∧ K x g') := by
  refine MetA.introL (Lx := [some (.ref th), some (.int p0), some (.int p1), some (.int p2), none, none, none, none]) (by decide) (Nat.le_of_ble_eq_true rfl) rfl rfl ?_
  intro E hEl hE hnm
  have hall : ∀ n, (∀ (l0 : Nat) (l1 : Int32) (l2 : Int32) (l3 : Int32) (l4 : Int32) (l5 : Int32) (l6 : Int32) (g : GH), I11 n l0 l1 l2 l3 l4 l5 l6 g → JW Γ E 11 [some (.ref l0), some (.int l1), some (.int l2), some (.int l3), some (.int l4), some (.int l5), some (.int l6), none] [] g) := by
    intro n
    induction n using Nat.strongRecOn with
    | ind n ih =>
      exact fun l0 l1 l2 l3 l4 l5 l6 g hi => S_Po_firstEmptying_11 hE (fun l0 l1 l2 l3 l4 l5 l6 g hm => by obtain ⟨m, hm, h⟩ := hm; exact (ih m hm) l0 l1 l2 l3 l4 l5 l6 g h) l0 l1 l2 l3 l4 l5 l6 g (hh11 n l0 l1 l2 l3 l4 l5 l6 g hi)
  exact S_Po_firstEmptying_0 hE (fun l0 l1 l2 l3 l4 l5 l6 g hm => by obtain ⟨m, h⟩ := hm; exact (hall m) l0 l1 l2 l3 l4 l5 l6 g h) th p0 p1 p2 g h0
theorem mt_Po_firstEmptying {Γ : GAM} {l : Launch} (th : Nat) (p0 : Int32) (p1 : Int32) (p2 : Int32) (g : GH) (K : Int32 → GH → Prop) (h : Sp_Po_firstEmptying Γ th p0 p1 p2 g K) : MetA Γ l yX4_firstEmptying cX4_firstEmptying 8 (some (.int)) 3 64 [.ref th, .int p0, .int p1, .int p2] g (fun r g' => ∃ x, r = some (.int x) ∧ K x g') := by
  obtain ⟨D, s, rfl, hP, hW, hK⟩ := h
  obtain ⟨-, ⟨⟨_, p2'⟩, -, -, ⟨q1, _⟩, -, -, ⟨_, _, k1, _⟩, -⟩, -, -, -, -, hL, -⟩ := id hP
  have hlen := hL.len
  refine rl_Po_firstEmptying (fun n l0 l1 l2 l3 l4 l5 l6 g' => g = g' ∧ d_p D = l0 ∧ p0 = l1 ∧ p1 = l2 ∧ p2 = l3 ∧ ∃ k, k ≤ (s_emp s).length ∧ n = (s_emp s).length - k ∧ l6 = nI k ∧ (l4, l5) = (if p1 = -1 then (-1, 401) else (oI (((s_emp s).zipIdx.take k).foldl (emS p0 p1 p2) none), emD (((s_emp s).zipIdx.take k).foldl (emS p0 p1 p2) none)))) ?_ ?_
  · rintro n l0 l1 l2 l3 l4 l5 l6 g' ⟨rfl, rfl, rfl, rfl, rfl, k, hk, rfl, rfl, hf⟩
    suffices H : ∀ K11 : Nat → Int32 → Int32 → Int32 → Int32 → Int32 → Int32 → GH → Prop, (∀ a b y, p1 ≠ -1 → (s_emp s)[k]? = some y → (a, b) = (oI (emS p0 p1 p2 (((s_emp s).zipIdx.take k).foldl (emS p0 p1 p2) none) (y, k)), emD (emS p0 p1 p2 (((s_emp s).zipIdx.take k).foldl (emS p0 p1 p2) none) (y, k))) → K11 (d_p D) p0 p1 p2 a b (nI (k + 1)) g) → B_Po_firstEmptying_11 Γ K11 K (d_p D) p0 p1 p2 l4 l5 (nI k) g from
      H _ (fun a b y hne hy e => ⟨(s_emp s).length - (k + 1), by have := (List.getElem?_eq_some_iff.mp hy).1; omega, rfl, rfl, rfl, rfl, rfl, k + 1, (List.getElem?_eq_some_iff.mp hy).1, rfl, rfl, by rw [if_neg hne, fold_take _ _ _ (zip_get hy)]; exact e⟩)
    intro K11 hn
    generalize hF : ((s_emp s).zipIdx.take k).foldl (emS p0 p1 p2) none = F at hf hn
    unfold B_Po_firstEmptying_11 B_Po_firstEmptying_90 B_Po_firstEmptying_96
    refine ⟨p2', _, q1, k1, hL.sz ?_⟩
    rw [nj_le (by omega) (by omega)]
    refine ⟨fun u => ?_, fun u => ⟨fun hd => ?_, fun hd => ⟨p2', _, q1, k1, hL.at (by omega) (fun x y hy hT => ?_)⟩⟩⟩
    · rw [List.take_of_length_le (by rw [List.length_zipIdx]; exact u)] at hF
      by_cases hd : p1 = -1
      · rw [if_pos hd] at hf hK
        cases hf; exact hK
      · rw [if_neg hd] at hf hK
        cases hf
        rw [show sEm s p0 p1 p2 = F from hF] at hK
        exact hK
    · rw [if_pos hd] at hf hK
      cases hf; exact hK
    · rw [if_neg hd] at hf
      obtain ⟨⟨_, t0⟩, t1, t2, t3, t4⟩ := hT
      have hn2 := fun a b => hn a b y hd hy
      have hday : y.2.1 ≤ 400 := Int32.le_trans (hW.emp y (List.mem_of_getElem? hy)).2.1.2 hW.now.2
      have hB : emB F y.2.1 = true ↔ ¬ l5 ≤ y.2.1 := by
        have h2 := congrArg Prod.snd hf
        simp only at h2
        cases F with
        | none =>
          rw [h2]
          exact ⟨fun _ => Int32.not_le.mpr (Int32.lt_of_le_of_lt hday (by decide)), fun _ => rfl⟩
        | some p =>
          rw [h2]
          unfold emB emD
          simp [Int32.not_le]
      unfold emS at hn2
      simp only [hB] at hn2
      rw [t1, t2, t4, nj_s]
      have hno : ¬ (y.1 = p0 ∧ y.2.2.2 ≤ p2 ∧ p1 ≤ y.2.1 ∧ ¬ l5 ≤ y.2.1) → K11 (d_p D) p0 p1 p2 l4 l5 (nI (k + 1)) g := fun z => hn2 _ _ (by rw [if_neg z]; exact hf)
      refine ⟨t0, t0, fun z => hno (fun w => z w.1), fun z1 => ⟨t0, fun z => hno (fun w => absurd w.2.1 (Int32.not_le.mpr z)), fun z2 => ⟨t0, fun z => hno (fun w => absurd w.2.2.1 (Int32.not_le.mpr z)), fun z3 => ⟨t0, fun z => hno (fun w => w.2.2.2 z), fun z4 => ⟨t0, ?_⟩⟩⟩⟩⟩
      rintro _ rfl
      exact hn2 _ _ (by rw [if_pos ⟨z1, Int32.not_lt.mp z2, Int32.not_lt.mp z3, z4⟩]; rfl)
  · unfold B_Po_firstEmptying_0
    refine ⟨_, rfl, rfl, rfl, rfl, rfl, 0, Nat.zero_le _, rfl, nj_0, ?_⟩
    split <;> rfl
