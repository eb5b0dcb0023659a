/-! the class: what is told, heaps made, the signs of five ints -/
def Sp_To_init (Γ : GAM) (m : Nat) (a b c d : Int32) (g : GH) (K : GH → Prop) : Prop := Kd g m = 9 ∧ ∀ g', FrX m [1024, 1025, 1026, 1027] [] g g' → Gi g' 1024 m = a → Gi g' 1025 m = b → Gi g' 1026 m = c → Gi g' 1027 m = d → K g'
-- the walk of To_init
set_option maxRecDepth 100000 in
def B_To_init_0 (Γ : GAM) (K : GH → Prop) (th : Nat) (p0 : Int32) (p1 : Int32) (p2 : Int32) (p3 : Int32) (g : GH) : Prop :=
  Kd g th = 9 ∧ ∀ g1 : GH, g1 = sI g 1024 th p0 → Kd g1 th = 9 ∧ ∀ g2 : GH, g2 = sI g1 1025 th p1 → Kd g2 th = 9 ∧ ∀ g3 : GH, g3 = sI g2 1026 th p2 → Kd g3 th = 9 ∧ ∀ g4 : GH, g4 = sI g3 1027 th p3 → K g4
set_option maxHeartbeats 4000000 in
set_option maxRecDepth 100000 in
theorem S_To_init_0 {Γ : GAM} {E : EV} {K : GH → Prop} (hE : GE Γ E cX7_init 5 RX7 none 1 20 (fun r g' => r = none ∧ K g')) (hnm : E.2.2.2.2.2.2.2.2.1.name = "<init>") (th : Nat) (p0 : Int32) (p1 : Int32) (p2 : Int32) (p3 : Int32) (g : GH) (h : B_To_init_0 Γ K th p0 p1 p2 p3 g) : JW Γ E 0 [some (.ref th), some (.int p0), some (.int p1), some (.int p2), some (.int p3)] [] g := by
  unfold B_To_init_0 at h
  refine j_aload_n hE (by decide +kernel : decode cX7_init 0 = .ok (.aload_n 0, 1)) rfl rfl ?_
  refine j_objInit hE rfl ol_X7 oi_in oi_code (Nat.le_of_ble_eq_true rfl) (by omega) (by omega) (by decide +kernel : decode cX7_init 1 = .ok (.invokespecial 1, 3)) ?_
  refine j_aload_n hE (by decide +kernel : decode cX7_init 4 = .ok (.aload_n 0, 1)) rfl rfl ?_
  refine j_iload_n hE (by decide +kernel : decode cX7_init 5 = .ok (.iload_n 1, 1)) rfl rfl ?_
  obtain ⟨hk, h⟩ := h
  obtain ⟨g1, hg⟩ : ∃ z, z = sI g 1024 th p0 := ⟨_, rfl⟩; replace h := h g1 hg
  refine j_putI hE fa_X7_7 hk (fun _ => hnm) (by decide +kernel : decode cX7_init 6 = .ok (.putfield 7, 3)) ?_
  rw [← hg]
  refine j_aload_n hE (by decide +kernel : decode cX7_init 9 = .ok (.aload_n 0, 1)) rfl rfl ?_
  refine j_iload_n hE (by decide +kernel : decode cX7_init 10 = .ok (.iload_n 2, 1)) rfl rfl ?_
  obtain ⟨hk, h⟩ := h
  obtain ⟨g2, hg⟩ : ∃ z, z = sI g1 1025 th p1 := ⟨_, rfl⟩; replace h := h g2 hg
  refine j_putI hE fa_X7_13 hk (fun _ => hnm) (by decide +kernel : decode cX7_init 11 = .ok (.putfield 13, 3)) ?_
  rw [← hg]
  refine j_aload_n hE (by decide +kernel : decode cX7_init 14 = .ok (.aload_n 0, 1)) rfl rfl ?_
  refine j_iload_n hE (by decide +kernel : decode cX7_init 15 = .ok (.iload_n 3, 1)) rfl rfl ?_
  obtain ⟨hk, h⟩ := h
  obtain ⟨g3, hg⟩ : ∃ z, z = sI g2 1026 th p2 := ⟨_, rfl⟩; replace h := h g3 hg
  refine j_putI hE fa_X7_16 hk (fun _ => hnm) (by decide +kernel : decode cX7_init 16 = .ok (.putfield 16, 3)) ?_
  rw [← hg]
  refine j_aload_n hE (by decide +kernel : decode cX7_init 19 = .ok (.aload_n 0, 1)) rfl rfl ?_
  refine j_iload hE (by decide +kernel : decode cX7_init 20 = .ok (.iload 4, 2)) rfl ?_
  obtain ⟨hk, h⟩ := h
  obtain ⟨g4, hg⟩ : ∃ z, z = sI g3 1027 th p3 := ⟨_, rfl⟩; replace h := h g4 hg
  refine j_putI hE fa_X7_19 hk (fun _ => hnm) (by decide +kernel : decode cX7_init 22 = .ok (.putfield 19, 3)) ?_
  rw [← hg]
  exact j_vret hE (by decide +kernel : decode cX7_init 25 = .ok (.return_, 1)) ⟨rfl, h⟩
set_option maxHeartbeats 4000000 in
set_option maxRecDepth 100000 in
theorem rl_To_init {Γ : GAM} {l : Launch} {th : Nat} {p0 : Int32} {p1 : Int32} {p2 : Int32} {p3 : Int32} {g : GH} {K : GH → Prop} (h0 : B_To_init_0 Γ K th p0 p1 p2 p3 g) : MetA Γ l yX7_init cX7_init 5 none 1 20 [.ref th, .int p0, .int p1, .int p2, .int p3] g (fun r g' => r = none ∧ K g') := by
  refine MetA.introL (Lx := [some (.ref th), some (.int p0), some (.int p1), some (.int p2), some (.int p3)]) (by decide) (Nat.le_of_ble_eq_true rfl) rfl rfl ?_
  intro E hEl hE hnm
  exact S_To_init_0 hE hnm th p0 p1 p2 p3 g h0
theorem mt_To_init {Γ : GAM} {l : Launch} (th : Nat) (p0 : Int32) (p1 : Int32) (p2 : Int32) (p3 : Int32) (g : GH) (K : GH → Prop) (h : Sp_To_init Γ th p0 p1 p2 p3 g K) : MetA Γ l yX7_init cX7_init 5 none 1 20 [.ref th, .int p0, .int p1, .int p2, .int p3] g (fun r g' => r = none ∧ K g') := by
  obtain ⟨hkd, hK⟩ := h
  refine rl_To_init ?_
  unfold B_To_init_0
  refine ⟨hkd, ?_⟩
  rintro _ rfl
  refine ⟨hkd, ?_⟩
  rintro _ rfl
  refine ⟨hkd, ?_⟩
  rintro _ rfl
  refine ⟨hkd, ?_⟩
  rintro _ rfl
  refine hK _ ((FrX.sI (by decide)).tr ((FrX.sI (by decide)).tr ((FrX.sI (by decide)).tr (FrX.sI (by decide))))) ?_ ?_ ?_ ?_
  all_goals simp [Gi_sI]
def flHp : List (Nat × Nat × Nat) := [(258, 20, 5)]
/-- a heap's object: its shire, its day, how many of each choice, how many -/
def HpI (m : Nat) (g : GH) (sh d : Int32) (ch : Nat → Int32) (n : Int32) : Prop := Kd g m = 3 ∧ (∃ a, Gr g 258 m = some a ∧ Kd g a = 20 ∧ Co g a = 258 ∧ Ow g a = m ∧ Ln g a = 5) ∧ Gi g 256 m = sh ∧ Gi g 257 m = d ∧ Gi g 259 m = n ∧ ∀ k, k < 5 → Ia g 258 m k = ch k
def Sp_Hp_init (Γ : GAM) (th : Nat) (a b : Int32) (g : GH) (K : GH → Prop) : Prop := NEW Γ 3 flHp th g ∧ ∀ g', MADE flHp th g g' → HpI th g' a b (fun _ => 0) 0 → K g'
-- the walk of Hp_init
set_option maxRecDepth 100000 in
def B_Hp_init_0 (Γ : GAM) (K : GH → Prop) (th : Nat) (p0 : Int32) (p1 : Int32) (g : GH) : Prop :=
  th < Hn g ∧ free g 258 th ∧ Hn g + 1 ≤ gB Γ + NCC ∧ Hu g + 5 ≤ NSS ∧ ∀ (a1 : Nat) (g2 : GH), a1 = Hn g → g2 = nA g 20 258 th (5) → Kd g2 th = 3 ∧ ∀ g3 : GH, g3 = sR g2 258 th (some a1) → Kd g3 th = 3 ∧ ∀ g4 : GH, g4 = sI g3 256 th p0 → Kd g4 th = 3 ∧ ∀ g5 : GH, g5 = sI g4 257 th p1 → K g5
set_option maxHeartbeats 4000000 in
set_option maxRecDepth 100000 in
theorem S_Hp_init_0 {Γ : GAM} {E : EV} {K : GH → Prop} (hE : GE Γ E cX1_init 3 RX1 none 1 20 (fun r g' => r = none ∧ K g')) (hnm : E.2.2.2.2.2.2.2.2.1.name = "<init>") (th : Nat) (p0 : Int32) (p1 : Int32) (g : GH) (h : B_Hp_init_0 Γ K th p0 p1 g) : JW Γ E 0 [some (.ref th), some (.int p0), some (.int p1)] [] g := by
  unfold B_Hp_init_0 at h
  refine j_aload_n hE (by decide +kernel : decode cX1_init 0 = .ok (.aload_n 0, 1)) rfl rfl ?_
  refine j_objInit hE rfl ol_X1 oi_in oi_code (Nat.le_of_ble_eq_true rfl) (by omega) (by omega) (by decide +kernel : decode cX1_init 1 = .ok (.invokespecial 3, 3)) ?_
  refine j_aload_n hE (by decide +kernel : decode cX1_init 4 = .ok (.aload_n 0, 1)) rfl rfl ?_
  refine j_iconst hE (by decide +kernel : decode cX1_init 5 = .ok (.iconst 5, 1)) (v := (5 : Int32)) (by decide) ?_
  obtain ⟨ho1, hf1, hn1, hn2, h⟩ := h
  obtain ⟨a1, ha⟩ : ∃ z, z = Hn g := ⟨_, rfl⟩; obtain ⟨g2, hg⟩ : ∃ z, z = nA g 20 258 th (5) := ⟨_, rfl⟩; replace h := h a1 g2 ha hg
  refine j_newarray (k := 20) (co := 258) (ow := th) (n := (5)) (atype := .int) hE ac_int (Or.inl ⟨rfl, rfl⟩) (by decide) (by decide) (by decide) ho1 hf1 (by decide +kernel : decode cX1_init 6 = .ok (.newarray .int, 2)) hn1 hn2 ?_
  rw [← hg, ← ha]
  obtain ⟨hk, h⟩ := h
  obtain ⟨g3, hg⟩ : ∃ z, z = sR g2 258 th (some a1) := ⟨_, rfl⟩; replace h := h g3 hg
  refine j_putR (v := (some a1)) hE fa_X1_9 hk (fun _ => hnm) (by decide +kernel : decode cX1_init 8 = .ok (.putfield 9, 3)) ?_
  rw [← hg]
  refine j_aload_n hE (by decide +kernel : decode cX1_init 11 = .ok (.aload_n 0, 1)) rfl rfl ?_
  refine j_iload_n hE (by decide +kernel : decode cX1_init 12 = .ok (.iload_n 1, 1)) rfl rfl ?_
  obtain ⟨hk, h⟩ := h
  obtain ⟨g4, hg⟩ : ∃ z, z = sI g3 256 th p0 := ⟨_, rfl⟩; replace h := h g4 hg
  refine j_putI hE fa_X1_15 hk (fun _ => hnm) (by decide +kernel : decode cX1_init 13 = .ok (.putfield 15, 3)) ?_
  rw [← hg]
  refine j_aload_n hE (by decide +kernel : decode cX1_init 16 = .ok (.aload_n 0, 1)) rfl rfl ?_
  refine j_iload_n hE (by decide +kernel : decode cX1_init 17 = .ok (.iload_n 2, 1)) rfl rfl ?_
  obtain ⟨hk, h⟩ := h
  obtain ⟨g5, hg⟩ : ∃ z, z = sI g4 257 th p1 := ⟨_, rfl⟩; replace h := h g5 hg
  refine j_putI hE fa_X1_19 hk (fun _ => hnm) (by decide +kernel : decode cX1_init 18 = .ok (.putfield 19, 3)) ?_
  rw [← hg]
  exact j_vret hE (by decide +kernel : decode cX1_init 21 = .ok (.return_, 1)) ⟨rfl, h⟩
set_option maxHeartbeats 4000000 in
set_option maxRecDepth 100000 in
theorem rl_Hp_init {Γ : GAM} {l : Launch} {th : Nat} {p0 : Int32} {p1 : Int32} {g : GH} {K : GH → Prop} (h0 : B_Hp_init_0 Γ K th p0 p1 g) : MetA Γ l yX1_init cX1_init 3 none 1 20 [.ref th, .int p0, .int p1] g (fun r g' => r = none ∧ K g') := by
  refine MetA.introL (Lx := [some (.ref th), some (.int p0), some (.int p1)]) (by decide) (Nat.le_of_ble_eq_true rfl) rfl rfl ?_
  intro E hEl hE hnm
  exact S_Hp_init_0 hE hnm th p0 p1 g h0
theorem mt_Hp_init {Γ : GAM} {l : Launch} (th : Nat) (p0 : Int32) (p1 : Int32) (g : GH) (K : GH → Prop) (h : Sp_Hp_init Γ th p0 p1 g K) : MetA Γ l yX1_init cX1_init 3 none 1 20 [.ref th, .int p0, .int p1] g (fun r g' => r = none ∧ K g') := by
  obtain ⟨⟨h1, h2, h3, h4, h5, h5', h6⟩, hK⟩ := h
  have S := StK.ini (W := fun _ _ => 0) h1 h2 h3 h4 h5 h5' h6 ⟨by decide, by decide +kernel⟩
  refine rl_Hp_init ?_
  unfold B_Hp_init_0
  refine S.step (n := 0) rfl ?_
  clear S; intro _ S
  refine ⟨S.kd, ?_⟩
  rintro _ rfl
  replace S := S.setI (f := 256) (v := p0)
  refine ⟨S.kd, ?_⟩
  rintro _ rfl
  replace S := S.setI (f := 257) (v := p1)
  refine hK _ (StK.made S (by decide)) ?_
  have hkd := S.kd
  obtain ⟨_, _, _, _, _, _, _, _, hV, hA, _⟩ := S
  obtain ⟨p1', p2, p3, p4, p5, p6⟩ := hA 0 _ (by decide) rfl
  refine ⟨hkd, ⟨_, p1', p2, p3, p4, p5⟩, hV _, hV _, hV _, fun k _ => ?_⟩
  simp only at p6
  rw [p6]
theorem fold_fil (h : Nat → Int32) : ∀ (l : List Nat) (acc : List Int32), l.foldl (fun l i => if h i = 0 then l else l ++ [h i]) acc = acc ++ (l.map h).filter (fun v => decide (v ≠ 0)) := by
  intro l
  induction l with
  | nil => intro acc; simp
  | cons i l ih =>
    intro acc
    rw [List.foldl_cons, ih, List.map_cons, List.filter_cons]
    by_cases e : h i = 0
    · rw [if_pos e, if_neg (by simp [e])]
    · rw [if_neg e, if_pos (by simp [e]), List.append_assoc]; rfl
theorem t4p_fil (x : Int32) : t4p x 4 = ([by4 x 0, by4 x 1, by4 x 2, by4 x 3] : List Int32).filter (fun v => decide (v ≠ 0)) := by
  unfold t4p
  rw [fold_fil]
  rfl
theorem fdL_fil (a b c d f : Int32) : fdL a b c d f 20 = t4p a 4 ++ t4p b 4 ++ t4p c 4 ++ t4p d 4 ++ t4p f 4 := by
  rw [t4p_fil, t4p_fil, t4p_fil, t4p_fil, t4p_fil, ← List.filter_append, ← List.filter_append, ← List.filter_append, ← List.filter_append]
  unfold fdL
  rw [fold_fil (fun i => byB a b c d f (nI i)), List.nil_append]
  congr 1
def Sp_PV_signsIn (Γ : GAM) (x : Int32) (g : GH) (K : Int32 → GH → Prop) : Prop := K (nI (t4p x 4).length) g
-- the walk of PV_signsIn
set_option maxRecDepth 100000 in
def B_PV_signsIn_25 (Γ : GAM) (K5 : Int32 → Int32 → Int32 → GH → Prop) (K : Int32 → GH → Prop) (l0 : Int32) (l2 : Int32) (s0 : Int32) (s1 : Int32) (g : GH) : Prop :=
  ∀ x1 : Int32, x1 = (s1 + s0) → K5 l0 x1 (l2 + (-8 : Int32)) g
set_option maxHeartbeats 4000000 in
set_option maxRecDepth 100000 in
theorem S_PV_signsIn_25 {Γ : GAM} {E : EV} {K : Int32 → GH → Prop} (hE : GE Γ E cX10_signsIn 3 RX10 (some (.int)) 0 0 (fun r g' => ∃ x, r = some (.int x) ∧ K x g')) {K5 : Int32 → Int32 → Int32 → GH → Prop} (hK5 : ∀ (l0 : Int32) (l1 : Int32) (l2 : Int32) (g : GH), K5 l0 l1 l2 g → JW Γ E 5 [some (.int l0), some (.int l1), some (.int l2)] [] g) (l0 : Int32) (l2 : Int32) (s0 : Int32) (s1 : Int32) (g : GH) (h : B_PV_signsIn_25 Γ K5 K l0 l2 s0 s1 g) : JW Γ E 25 [some (.int l0), none, some (.int l2)] [.int s0, .int s1] g := by
  unfold B_PV_signsIn_25 at h
  refine j_iadd hE (by decide +kernel : decode cX10_signsIn 25 = .ok (.iadd, 1)) ?_
  obtain ⟨x1, hx⟩ : ∃ z, z = (s1 + s0) := ⟨_, rfl⟩; replace h := h x1 hx; rw [← hx]
  refine j_istore_n hE (by decide +kernel : decode cX10_signsIn 26 = .ok (.istore_n 1, 1)) rfl (Nat.le_of_ble_eq_true rfl) rfl ?_
  refine j_iinc hE (by decide +kernel : decode cX10_signsIn 27 = .ok (.iinc 2 (-8), 3)) (v := (-8 : Int32)) (by decide) rfl (Nat.le_of_ble_eq_true rfl) rfl ?_
  refine j_goto hE (by decide +kernel : decode cX10_signsIn 30 = .ok (.goto (-25), 3)) (tgt := 5) (by decide) ?_
  exact hK5 _ _ _ _ h
set_option maxRecDepth 100000 in
def B_PV_signsIn_5 (Γ : GAM) (K5 : Int32 → Int32 → Int32 → GH → Prop) (K : Int32 → GH → Prop) (l0 : Int32) (l1 : Int32) (l2 : Int32) (g : GH) : Prop :=
  ((l2 < 0 → K l1 g) ∧ (¬ (l2 < 0) → ((¬ ((((l0.toUInt32 >>> (l2.toUInt32 &&& Int32.toUInt32 31)).toInt32) &&& (255 : Int32)) = 0) → B_PV_signsIn_25 Γ K5 K l0 l2 (1 : Int32) l1 g) ∧ ((((l0.toUInt32 >>> (l2.toUInt32 &&& Int32.toUInt32 31)).toInt32) &&& (255 : Int32)) = 0 → B_PV_signsIn_25 Γ K5 K l0 l2 (0 : Int32) l1 g))))
set_option maxHeartbeats 4000000 in
set_option maxRecDepth 100000 in
theorem S_PV_signsIn_5 {Γ : GAM} {E : EV} {K : Int32 → GH → Prop} (hE : GE Γ E cX10_signsIn 3 RX10 (some (.int)) 0 0 (fun r g' => ∃ x, r = some (.int x) ∧ K x g')) {K5 : Int32 → Int32 → Int32 → GH → Prop} (hK5 : ∀ (l0 : Int32) (l1 : Int32) (l2 : Int32) (g : GH), K5 l0 l1 l2 g → JW Γ E 5 [some (.int l0), some (.int l1), some (.int l2)] [] g) (l0 : Int32) (l1 : Int32) (l2 : Int32) (g : GH) (h : B_PV_signsIn_5 Γ K5 K l0 l1 l2 g) : JW Γ E 5 [some (.int l0), some (.int l1), some (.int l2)] [] g := by
  unfold B_PV_signsIn_5 at h
  refine j_iload_n hE (by decide +kernel : decode cX10_signsIn 5 = .ok (.iload_n 2, 1)) rfl rfl ?_
  refine j_if_lt hE (by decide +kernel : decode cX10_signsIn 6 = .ok (.ifCond .lt 27, 3)) (tgt := 33) (by decide) (fun q => ?_) (fun q => ?_)
  · replace h := h.1 q
    refine j_iload_n hE (by decide +kernel : decode cX10_signsIn 33 = .ok (.iload_n 1, 1)) rfl rfl ?_
    exact j_iret hE (by decide +kernel : decode cX10_signsIn 34 = .ok (.ireturn, 1)) ⟨_, rfl, h⟩
  · replace h := h.2 q
    refine j_iload_n hE (by decide +kernel : decode cX10_signsIn 9 = .ok (.iload_n 1, 1)) rfl rfl ?_
    refine j_iload_n hE (by decide +kernel : decode cX10_signsIn 10 = .ok (.iload_n 0, 1)) rfl rfl ?_
    refine j_iload_n hE (by decide +kernel : decode cX10_signsIn 11 = .ok (.iload_n 2, 1)) rfl rfl ?_
    refine j_iushr hE (by decide +kernel : decode cX10_signsIn 12 = .ok (.iushr, 1)) ?_
    refine j_sipush hE (by decide +kernel : decode cX10_signsIn 13 = .ok (.sipush 255, 3)) (v := (255 : Int32)) (by decide) ?_
    refine j_iand hE (by decide +kernel : decode cX10_signsIn 16 = .ok (.iand, 1)) ?_
    refine j_if_ne hE (by decide +kernel : decode cX10_signsIn 17 = .ok (.ifCond .ne 7, 3)) (tgt := 24) (by decide) (fun q => ?_) (fun q => ?_)
    · replace h := h.1 q
      refine j_iconst hE (by decide +kernel : decode cX10_signsIn 24 = .ok (.iconst 1, 1)) (v := (1 : Int32)) (by decide) ?_
      refine j_weak [some (.int l0), none, some (.int l2)] ⟨rfl, ⟨rfl, trivial⟩⟩ ?_
      exact S_PV_signsIn_25 hE hK5 _ _ _ _ _ h
    · replace h := h.2 q
      refine j_iconst hE (by decide +kernel : decode cX10_signsIn 20 = .ok (.iconst 0, 1)) (v := (0 : Int32)) (by decide) ?_
      refine j_goto hE (by decide +kernel : decode cX10_signsIn 21 = .ok (.goto 4, 3)) (tgt := 25) (by decide) ?_
      refine j_weak [some (.int l0), none, some (.int l2)] ⟨rfl, ⟨rfl, trivial⟩⟩ ?_
      exact S_PV_signsIn_25 hE hK5 _ _ _ _ _ h
set_option maxRecDepth 100000 in
def B_PV_signsIn_0 (Γ : GAM) (K5 : Int32 → Int32 → Int32 → GH → Prop) (K : Int32 → GH → Prop) (p0 : Int32) (g : GH) : Prop :=
  K5 p0 (0 : Int32) (24 : Int32) g
set_option maxHeartbeats 4000000 in
set_option maxRecDepth 100000 in
theorem S_PV_signsIn_0 {Γ : GAM} {E : EV} {K : Int32 → GH → Prop} (hE : GE Γ E cX10_signsIn 3 RX10 (some (.int)) 0 0 (fun r g' => ∃ x, r = some (.int x) ∧ K x g')) {K5 : Int32 → Int32 → Int32 → GH → Prop} (hK5 : ∀ (l0 : Int32) (l1 : Int32) (l2 : Int32) (g : GH), K5 l0 l1 l2 g → JW Γ E 5 [some (.int l0), some (.int l1), some (.int l2)] [] g) (p0 : Int32) (g : GH) (h : B_PV_signsIn_0 Γ K5 K p0 g) : JW Γ E 0 [some (.int p0), none, none] [] g := by
  unfold B_PV_signsIn_0 at h
  refine j_iconst hE (by decide +kernel : decode cX10_signsIn 0 = .ok (.iconst 0, 1)) (v := (0 : Int32)) (by decide) ?_
  refine j_istore_n hE (by decide +kernel : decode cX10_signsIn 1 = .ok (.istore_n 1, 1)) rfl (Nat.le_of_ble_eq_true rfl) rfl ?_
  refine j_bipush hE (by decide +kernel : decode cX10_signsIn 2 = .ok (.bipush 24, 2)) (v := (24 : Int32)) (by decide) ?_
  refine j_istore_n hE (by decide +kernel : decode cX10_signsIn 4 = .ok (.istore_n 2, 1)) rfl (Nat.le_of_ble_eq_true rfl) rfl ?_
  exact hK5 _ _ _ _ h
set_option maxHeartbeats 4000000 in
set_option maxRecDepth 100000 in
theorem rl_PV_signsIn {Γ : GAM} {l : Launch} {p0 : Int32} {g : GH} {K : Int32 → GH → Prop} (I5 : Nat → Int32 → Int32 → Int32 → GH → Prop) (hh5 : ∀ n (l0 : Int32) (l1 : Int32) (l2 : Int32) (g : GH), I5 n l0 l1 l2 g → B_PV_signsIn_5 Γ (fun l0 l1 l2 g => ∃ m, m < n ∧ I5 m l0 l1 l2 g) K l0 l1 l2 g) (h0 : B_PV_signsIn_0 Γ (fun l0 l1 l2 g => ∃ m, I5 m l0 l1 l2 g) K p0 g) : MetA Γ l yX10_signsIn cX10_signsIn 3 (some (.int)) 0 0 [.int p0] g (fun r g' => ∃ x, r = some (.int x) ∧ K x g') := by
  refine MetA.introL (Lx := [some (.int p0), none, none]) (by decide) (Nat.le_of_ble_eq_true rfl) rfl rfl ?_
  intro E hEl hE hnm
  have hall : ∀ n, (∀ (l0 : Int32) (l1 : Int32) (l2 : Int32) (g : GH), I5 n l0 l1 l2 g → JW Γ E 5 [some (.int l0), some (.int l1), some (.int l2)] [] g) := by
    intro n
    induction n using Nat.strongRecOn with
    | ind n ih =>
      exact fun l0 l1 l2 g hi => S_PV_signsIn_5 hE (fun l0 l1 l2 g hm => by obtain ⟨m, hm, h⟩ := hm; exact (ih m hm) l0 l1 l2 g h) l0 l1 l2 g (hh5 n l0 l1 l2 g hi)
  exact S_PV_signsIn_0 hE (fun l0 l1 l2 g hm => by obtain ⟨m, h⟩ := hm; exact (hall m) l0 l1 l2 g h) p0 g h0
theorem mt_PV_signsIn {Γ : GAM} {l : Launch} (p0 : Int32) (g : GH) (K : Int32 → GH → Prop) (h : Sp_PV_signsIn Γ p0 g K) : MetA Γ l yX10_signsIn cX10_signsIn 3 (some (.int)) 0 0 [.int p0] g (fun r g' => ∃ x, r = some (.int x) ∧ K x g') := by
  refine rl_PV_signsIn (fun n l0 l1 l2 g' => g = g' ∧ p0 = l0 ∧ ∃ j, j ≤ 4 ∧ n = 4 - j ∧ l2 = shN j ∧ l1 = nI (t4p p0 j).length) ?_ ⟨_, rfl, rfl, 0, by omega, rfl, rfl, rfl⟩
  rintro n l0 l1 l2 g' ⟨rfl, rfl, j, hj, rfl, rfl, rfl⟩
  unfold B_PV_signsIn_5 B_PV_signsIn_25
  by_cases hj4 : j = 4
  · subst hj4
    exact ⟨fun _ => h, fun u => absurd (by decide) u⟩
  have hj' : j < 4 := by omega
  have ts := t4p_s (x := p0) hj'
  rw [by4_e p0 j hj', shN_s j hj']
  refine ⟨fun u => absurd u (shN_n j hj'), fun _ => ⟨fun u => ?_, fun u => ?_⟩⟩
  · rintro _ rfl
    refine ⟨4 - (j + 1), by omega, rfl, rfl, j + 1, by omega, rfl, rfl, ?_⟩
    rw [ts, if_neg u, List.length_append, nj_s]; rfl
  · rintro _ rfl
    refine ⟨4 - (j + 1), by omega, rfl, rfl, j + 1, by omega, rfl, rfl, ?_⟩
    rw [ts, if_pos u, Int32.add_zero]
