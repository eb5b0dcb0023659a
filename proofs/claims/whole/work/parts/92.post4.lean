/-! the class: its post puts in order, counts by an emptying, counts doubles -/
def FK (Γ : GAM) (D : DIR) (g g' : GH) : Prop := FC D g g' ∧ (COM Γ D g → COM Γ D g')
theorem FK.rf {Γ : GAM} {D : DIR} {g : GH} (h : EN g) : FK Γ D g g := ⟨FC.rf h, fun q => q⟩
theorem FK.tr {Γ : GAM} {D : DIR} {g g1 g2 : GH} (h : FK Γ D g g1) (k : FK Γ D g1 g2) : FK Γ D g g2 := ⟨h.1.tr k.1, fun q => k.2 (h.2 q)⟩
theorem FK.x {Γ : GAM} {D : DIR} {m : Nat} {fs cs : List Nat} {g g' : GH} (h : FrX m fs cs g g') (hk : EN g) (h1 : ∀ f ∈ fs, f ∈ cFS) (h2 : ∀ c ∈ cs, c ∈ cCS) (hp : PF fs cs) : FK Γ D g g' := ⟨FC.x h hk h1 h2, fun q => q.fr h hk hp⟩
theorem FC.grw {D : DIR} {g g' : GH} {n : Nat} (k : Fr [] [] [d_cl D] g g') (h : GRW g g' (d_cl D) n) (hn : n < 200) : FC D g g' := by
  refine ⟨k.up (fun f hf => by cases hf) (fun c hc => by cases hc) (fun a ha => ha), ?_⟩
  unfold phi
  rcases h with ⟨h1, h2, h3⟩ | ⟨h1, h2, h3, h4⟩
  · rw [h1, h2, h3]; exact ⟨Nat.le_refl _, Nat.le_refl _⟩
  · rw [h1]; omega
def cmO (s : ST) (q : Int32) (i : Nat) : Int32 := (sCome s (nI i) q).1
theorem rIns_at {d : Nat → Int32} {e : Nat} : ∀ (l : List Nat) (k : Nat), k ≤ l.length → (∀ a ∈ l.take k, ¬ d a ≤ d e) → rIns d e l = l.take k ++ rIns d e (l.drop k) := by
  intro l
  induction l with
  | nil => intro k _ _; simp
  | cons x t ih =>
    intro k hk h
    cases k with
    | zero => simp
    | succ k =>
      rw [List.take_succ_cons, List.drop_succ_cons, List.cons_append]
      rw [List.length_cons] at hk
      rw [← ih k (by omega) (fun a ha => h a (by rw [List.take_succ_cons]; exact List.mem_cons_of_mem _ ha))]
      have hx := h x (by rw [List.take_succ_cons]; exact List.mem_cons_self)
      show (if d x ≤ d e then _ else _) = _
      rw [if_neg hx]
def dE (D : DIR) (i : Nat) : Nat := (d_es D).getD i 0
theorem dE_of {D : DIR} {i x : Nat} (h : (d_es D)[i]? = some x) : dE D i = x := by
  unfold dE
  rw [List.getD_eq_getElem?_getD, h]; rfl
def Sp_Po_putInOrder (Γ : GAM) (m x : Nat) (g : GH) (K : GH → Prop) : Prop := ∃ D s q e st, d_p D = m ∧ PoI Γ D g s ∧ WF s ∧ (d_es D)[e]? = some x ∧ ENV s e q x g ∧ ECM s e q x g ∧ AC Γ g (d_cl D) (st.reverse.map (dE D)) ∧ (∀ i ∈ st, ∃ xi, (d_es D)[i]? = some xi ∧ Gi g 137 xi = cmO s q i) ∧ st.length < 200 ∧ RC Γ D g ∧
  (cmO s q e = -1 → ∀ g', FrX x [140] [] g g' → Gi g' 140 x = (if sDay s (nI e) 4 q = -1 then 0 else 1) → K g') ∧
  (cmO s q e ≠ -1 → ∀ g', Fr [] [] [d_cl D] g g' → AC Γ g' (d_cl D) ((rIns (cmO s q) e st).reverse.map (dE D)) → GRW g g' (d_cl D) st.length → K g')
-- the walk of Po_putInOrder
set_option maxRecDepth 100000 in
def B_Po_putInOrder_69 (Γ : GAM) (K36 : Nat → Nat → Int32 → GH → Prop) (K : GH → Prop) (l0 : Nat) (l1 : Nat) (l2 : Int32) (g : GH) : Prop :=
  Kd g l0 = 6 ∧ ∃ a1 : Nat, Gr g 644 l0 = some a1 ∧ Kd g a1 = 1 ∧ Sp_AL_add_i0 Γ a1 l2 l1 g (fun (g2 : GH) => K g2)
set_option maxHeartbeats 4000000 in
set_option maxRecDepth 100000 in
theorem S_Po_putInOrder_69 {Γ : GAM} {E : EV} {K : GH → Prop} (hE : GE Γ E cX4_putInOrder 3 RX4 none 6 151 (fun r g' => r = none ∧ K g')) {K36 : Nat → Nat → Int32 → GH → Prop} (hK36 : ∀ (l0 : Nat) (l1 : Nat) (l2 : Int32) (g : GH), K36 l0 l1 l2 g → JW Γ E 36 [some (.ref l0), some (.ref l1), some (.int l2)] [] g) (l0 : Nat) (l1 : Nat) (l2 : Int32) (g : GH) (h : B_Po_putInOrder_69 Γ K36 K l0 l1 l2 g) : JW Γ E 69 [some (.ref l0), some (.ref l1), some (.int l2)] [] g := by
  unfold B_Po_putInOrder_69 at h
  refine j_aload_n hE (by decide +kernel : decode cX4_putInOrder 69 = .ok (.aload_n 0, 1)) rfl rfl ?_
  obtain ⟨hk, h⟩ := h
  obtain ⟨a1, ha, h⟩ := h
  refine j_getRn hE fg_X4_31 hk ha (by decide +kernel : decode cX4_putInOrder 70 = .ok (.getfield 31, 3)) ?_
  refine j_iload_n hE (by decide +kernel : decode cX4_putInOrder 73 = .ok (.iload_n 2, 1)) rfl rfl ?_
  refine j_aload_n hE (by decide +kernel : decode cX4_putInOrder 74 = .ok (.aload_n 1, 1)) rfl rfl ?_
  obtain ⟨hk, h⟩ := h
  refine j_callV hE rfl cl_X4_131 cf_0 im_Jx4a65c_add_7a177 se_Jx4a65c_add_7a177 ⟨by omega, by omega⟩ (As := [.int l2, .ref l1]) (rest := []) rfl rfl (Nat.le_of_ble_eq_true rfl) hk (by decide +kernel : decode cX4_putInOrder 75 = .ok (.invokevirtual 131, 3)) (mt_AL_add_i0 _ _ _ _ _ h) ?_
  rintro _ g2 ⟨rfl, h⟩
  exact j_vret hE (by decide +kernel : decode cX4_putInOrder 78 = .ok (.return_, 1)) ⟨rfl, h⟩
set_option maxRecDepth 100000 in
def B_Po_putInOrder_36 (Γ : GAM) (K36 : Nat → Nat → Int32 → GH → Prop) (K : GH → Prop) (l0 : Nat) (l1 : Nat) (l2 : Int32) (g : GH) : Prop :=
  ((l2 ≤ 0 → B_Po_putInOrder_69 Γ K36 K l0 l1 l2 g) ∧ (¬ (l2 ≤ 0) → Kd g l0 = 6 ∧ ∃ a1 : Nat, Gr g 644 l0 = some a1 ∧ Kd g a1 = 1 ∧ Sp_AL_get Γ a1 (l2 - (1 : Int32)) g (fun (a3 : Nat) (g2 : GH) => Kd g2 a3 = 2 ∧ Kd g2 a3 = 2 ∧ Kd g2 l1 = 2 ∧ (((Gi g2 137 a3) ≤ (Gi g2 137 l1) → B_Po_putInOrder_69 Γ K36 K l0 l1 l2 g2) ∧ (¬ ((Gi g2 137 a3) ≤ (Gi g2 137 l1)) → K36 l0 l1 (l2 + (-1 : Int32)) g2)))))
set_option maxHeartbeats 4000000 in
set_option maxRecDepth 100000 in
theorem S_Po_putInOrder_36 {Γ : GAM} {E : EV} {K : GH → Prop} (hE : GE Γ E cX4_putInOrder 3 RX4 none 6 151 (fun r g' => r = none ∧ K g')) {K36 : Nat → Nat → Int32 → GH → Prop} (hK36 : ∀ (l0 : Nat) (l1 : Nat) (l2 : Int32) (g : GH), K36 l0 l1 l2 g → JW Γ E 36 [some (.ref l0), some (.ref l1), some (.int l2)] [] g) (l0 : Nat) (l1 : Nat) (l2 : Int32) (g : GH) (h : B_Po_putInOrder_36 Γ K36 K l0 l1 l2 g) : JW Γ E 36 [some (.ref l0), some (.ref l1), some (.int l2)] [] g := by
  unfold B_Po_putInOrder_36 at h
  refine j_iload_n hE (by decide +kernel : decode cX4_putInOrder 36 = .ok (.iload_n 2, 1)) rfl rfl ?_
  refine j_if_le hE (by decide +kernel : decode cX4_putInOrder 37 = .ok (.ifCond .le 32, 3)) (tgt := 69) (by decide) (fun q => ?_) (fun q => ?_)
  · replace h := h.1 q
    exact S_Po_putInOrder_69 hE hK36 _ _ _ _ h
  · replace h := h.2 q
    refine j_aload_n hE (by decide +kernel : decode cX4_putInOrder 40 = .ok (.aload_n 0, 1)) rfl rfl ?_
    obtain ⟨hk, h⟩ := h
    obtain ⟨a1, ha, h⟩ := h
    refine j_getRn hE fg_X4_31 hk ha (by decide +kernel : decode cX4_putInOrder 41 = .ok (.getfield 31, 3)) ?_
    refine j_iload_n hE (by decide +kernel : decode cX4_putInOrder 44 = .ok (.iload_n 2, 1)) rfl rfl ?_
    refine j_iconst hE (by decide +kernel : decode cX4_putInOrder 45 = .ok (.iconst 1, 1)) (v := (1 : Int32)) (by decide) ?_
    refine j_isub hE (by decide +kernel : decode cX4_putInOrder 46 = .ok (.isub, 1)) ?_
    obtain ⟨hk, h⟩ := h
    refine j_callV hE rfl cl_X4_42 cf_0 im_Jx4a65c_get_915e3 se_Jx4a65c_get_915e3 ⟨by omega, by omega⟩ (As := [.int (l2 - (1 : Int32))]) (rest := []) rfl rfl (Nat.le_of_ble_eq_true rfl) hk (by decide +kernel : decode cX4_putInOrder 47 = .ok (.invokevirtual 42, 3)) (mt_AL_get _ _ _ _ h) ?_
    rintro _ g2 ⟨a3, rfl, h⟩
    obtain ⟨hk, h⟩ := h
    refine j_cast hE cf_1 ck_X4_48 hk (by decide +kernel : decode cX4_putInOrder 50 = .ok (.checkcast 48, 3)) ?_
    obtain ⟨hk, h⟩ := h
    refine j_getI hE fg_X4_58 hk (by decide +kernel : decode cX4_putInOrder 53 = .ok (.getfield 58, 3)) ?_
    refine j_aload_n hE (by decide +kernel : decode cX4_putInOrder 56 = .ok (.aload_n 1, 1)) rfl rfl ?_
    obtain ⟨hk, h⟩ := h
    refine j_getI hE fg_X4_58 hk (by decide +kernel : decode cX4_putInOrder 57 = .ok (.getfield 58, 3)) ?_
    refine j_icmp_le hE (by decide +kernel : decode cX4_putInOrder 60 = .ok (.if_icmp .le 9, 3)) (tgt := 69) (by decide) (fun q => ?_) (fun q => ?_)
    · replace h := h.1 q
      exact S_Po_putInOrder_69 hE hK36 _ _ _ _ h
    · replace h := h.2 q
      refine j_iinc hE (by decide +kernel : decode cX4_putInOrder 63 = .ok (.iinc 2 (-1), 3)) (v := (-1 : Int32)) (by decide) rfl (Nat.le_of_ble_eq_true rfl) rfl ?_
      refine j_goto hE (by decide +kernel : decode cX4_putInOrder 66 = .ok (.goto (-30), 3)) (tgt := 36) (by decide) ?_
      exact hK36 _ _ _ _ h
set_option maxRecDepth 100000 in
def B_Po_putInOrder_24 (Γ : GAM) (K36 : Nat → Nat → Int32 → GH → Prop) (K : GH → Prop) (s0 : Int32) (s1 : Nat) (g : GH) : Prop :=
  Kd g s1 = 2 ∧ ∀ g1 : GH, g1 = sI g 140 s1 s0 → K g1
set_option maxHeartbeats 4000000 in
set_option maxRecDepth 100000 in
theorem S_Po_putInOrder_24 {Γ : GAM} {E : EV} {K : GH → Prop} (hE : GE Γ E cX4_putInOrder 3 RX4 none 6 151 (fun r g' => r = none ∧ K g')) {K36 : Nat → Nat → Int32 → GH → Prop} (hK36 : ∀ (l0 : Nat) (l1 : Nat) (l2 : Int32) (g : GH), K36 l0 l1 l2 g → JW Γ E 36 [some (.ref l0), some (.ref l1), some (.int l2)] [] g) (s0 : Int32) (s1 : Nat) (g : GH) (h : B_Po_putInOrder_24 Γ K36 K s0 s1 g) : JW Γ E 24 [none, none, none] [.int s0, .ref s1] g := by
  unfold B_Po_putInOrder_24 at h
  obtain ⟨hk, h⟩ := h
  obtain ⟨g1, hg⟩ : ∃ z, z = sI g 140 s1 s0 := ⟨_, rfl⟩; replace h := h g1 hg
  refine j_putI hE fa_X4_122 hk (fun q => by cases q) (by decide +kernel : decode cX4_putInOrder 24 = .ok (.putfield 122, 3)) ?_
  rw [← hg]
  exact j_vret hE (by decide +kernel : decode cX4_putInOrder 27 = .ok (.return_, 1)) ⟨rfl, h⟩
set_option maxRecDepth 100000 in
def B_Po_putInOrder_0 (Γ : GAM) (K36 : Nat → Nat → Int32 → GH → Prop) (K : GH → Prop) (th : Nat) (p0 : Nat) (g : GH) : Prop :=
  Kd g p0 = 2 ∧ ((¬ ((Gi g 137 p0) = (-1 : Int32)) → Kd g th = 6 ∧ ∃ a1 : Nat, Gr g 644 th = some a1 ∧ Kd g a1 = 1 ∧ Sp_AL_size Γ a1 g (fun (x3 : Int32) (g2 : GH) => K36 th p0 x3 g2)) ∧ ((Gi g 137 p0) = (-1 : Int32) → Kd g p0 = 2 ∧ ∃ a4 : Nat, Gr g 135 p0 = some a4 ∧ Kd g a4 = 20 ∧ inB (4 : Int32) (Ln g a4) ∧ ((¬ ((Ia g (Co g a4) (Ow g a4) (4 : Int32).toNatClampNeg) = (-1 : Int32)) → B_Po_putInOrder_24 Γ K36 K (1 : Int32) p0 g) ∧ ((Ia g (Co g a4) (Ow g a4) (4 : Int32).toNatClampNeg) = (-1 : Int32) → B_Po_putInOrder_24 Γ K36 K (0 : Int32) p0 g))))
set_option maxHeartbeats 4000000 in
set_option maxRecDepth 100000 in
theorem S_Po_putInOrder_0 {Γ : GAM} {E : EV} {K : GH → Prop} (hE : GE Γ E cX4_putInOrder 3 RX4 none 6 151 (fun r g' => r = none ∧ K g')) {K36 : Nat → Nat → Int32 → GH → Prop} (hK36 : ∀ (l0 : Nat) (l1 : Nat) (l2 : Int32) (g : GH), K36 l0 l1 l2 g → JW Γ E 36 [some (.ref l0), some (.ref l1), some (.int l2)] [] g) (th : Nat) (p0 : Nat) (g : GH) (h : B_Po_putInOrder_0 Γ K36 K th p0 g) : JW Γ E 0 [some (.ref th), some (.ref p0), none] [] g := by
  unfold B_Po_putInOrder_0 at h
  refine j_aload_n hE (by decide +kernel : decode cX4_putInOrder 0 = .ok (.aload_n 1, 1)) rfl rfl ?_
  obtain ⟨hk, h⟩ := h
  refine j_getI hE fg_X4_58 hk (by decide +kernel : decode cX4_putInOrder 1 = .ok (.getfield 58, 3)) ?_
  refine j_iconst hE (by decide +kernel : decode cX4_putInOrder 4 = .ok (.iconst (-1), 1)) (v := (-1 : Int32)) (by decide) ?_
  refine j_icmp_ne hE (by decide +kernel : decode cX4_putInOrder 5 = .ok (.if_icmp .ne 23, 3)) (tgt := 28) (by decide) (fun q => ?_) (fun q => ?_)
  · replace h := h.1 q
    refine j_aload_n hE (by decide +kernel : decode cX4_putInOrder 28 = .ok (.aload_n 0, 1)) rfl rfl ?_
    obtain ⟨hk, h⟩ := h
    obtain ⟨a1, ha, h⟩ := h
    refine j_getRn hE fg_X4_31 hk ha (by decide +kernel : decode cX4_putInOrder 29 = .ok (.getfield 31, 3)) ?_
    obtain ⟨hk, h⟩ := h
    refine j_callV hE rfl cl_X4_34 cf_0 im_Jx4a65c_size_8abf5 se_Jx4a65c_size_8abf5 ⟨by omega, by omega⟩ (As := []) (rest := []) rfl rfl (Nat.le_of_ble_eq_true rfl) hk (by decide +kernel : decode cX4_putInOrder 32 = .ok (.invokevirtual 34, 3)) (mt_AL_size _ _ _ h) ?_
    rintro _ g2 ⟨x3, rfl, h⟩
    refine j_istore_n hE (by decide +kernel : decode cX4_putInOrder 35 = .ok (.istore_n 2, 1)) rfl (Nat.le_of_ble_eq_true rfl) rfl ?_
    exact hK36 _ _ _ _ h
  · replace h := h.2 q
    refine j_aload_n hE (by decide +kernel : decode cX4_putInOrder 8 = .ok (.aload_n 1, 1)) rfl rfl ?_
    refine j_aload_n hE (by decide +kernel : decode cX4_putInOrder 9 = .ok (.aload_n 1, 1)) rfl rfl ?_
    obtain ⟨hk, h⟩ := h
    obtain ⟨a4, ha, h⟩ := h
    refine j_getRn hE fg_X4_54 hk ha (by decide +kernel : decode cX4_putInOrder 10 = .ok (.getfield 54, 3)) ?_
    refine j_iconst hE (by decide +kernel : decode cX4_putInOrder 13 = .ok (.iconst 4, 1)) (v := (4 : Int32)) (by decide) ?_
    obtain ⟨hk, hb, h⟩ := h
    refine j_iald hE hk hb (by decide +kernel : decode cX4_putInOrder 14 = .ok (.iaload, 1)) ?_
    refine j_iconst hE (by decide +kernel : decode cX4_putInOrder 15 = .ok (.iconst (-1), 1)) (v := (-1 : Int32)) (by decide) ?_
    refine j_icmp_ne hE (by decide +kernel : decode cX4_putInOrder 16 = .ok (.if_icmp .ne 7, 3)) (tgt := 23) (by decide) (fun q => ?_) (fun q => ?_)
    · replace h := h.1 q
      refine j_iconst hE (by decide +kernel : decode cX4_putInOrder 23 = .ok (.iconst 1, 1)) (v := (1 : Int32)) (by decide) ?_
      refine j_weak [none, none, none] trivial ?_
      exact S_Po_putInOrder_24 hE hK36 _ _ _ h
    · replace h := h.2 q
      refine j_iconst hE (by decide +kernel : decode cX4_putInOrder 19 = .ok (.iconst 0, 1)) (v := (0 : Int32)) (by decide) ?_
      refine j_goto hE (by decide +kernel : decode cX4_putInOrder 20 = .ok (.goto 4, 3)) (tgt := 24) (by decide) ?_
      refine j_weak [none, none, none] trivial ?_
      exact S_Po_putInOrder_24 hE hK36 _ _ _ h
set_option maxHeartbeats 4000000 in
set_option maxRecDepth 100000 in
theorem rl_Po_putInOrder {Γ : GAM} {l : Launch} {th : Nat} {p0 : Nat} {g : GH} {K : GH → Prop} (I36 : Nat → Nat → Nat → Int32 → GH → Prop) (hh36 : ∀ n (l0 : Nat) (l1 : Nat) (l2 : Int32) (g : GH), I36 n l0 l1 l2 g → B_Po_putInOrder_36 Γ (fun l0 l1 l2 g => ∃ m, m < n ∧ I36 m l0 l1 l2 g) K l0 l1 l2 g) (h0 : B_Po_putInOrder_0 Γ (fun l0 l1 l2 g => ∃ m, I36 m l0 l1 l2 g) K th p0 g) : MetA Γ l yX4_putInOrder cX4_putInOrder 3 none 6 151 [.ref th, .ref p0] g (fun r g' => r = none ∧ K g') := by
  refine MetA.introL (Lx := [some (.ref th), some (.ref p0), none]) (by decide) (Nat.le_of_ble_eq_true rfl) rfl rfl ?_
  intro E hEl hE hnm
  have hall : ∀ n, (∀ (l0 : Nat) (l1 : Nat) (l2 : Int32) (g : GH), I36 n l0 l1 l2 g → JW Γ E 36 [some (.ref l0), some (.ref l1), some (.int l2)] [] g) := by
    intro n
    induction n using Nat.strongRecOn with
    | ind n ih =>
      exact fun l0 l1 l2 g hi => S_Po_putInOrder_36 hE (fun l0 l1 l2 g hm => by obtain ⟨m, hm, h⟩ := hm; exact (ih m hm) l0 l1 l2 g h) l0 l1 l2 g (hh36 n l0 l1 l2 g hi)
  exact S_Po_putInOrder_0 hE (fun l0 l1 l2 g hm => by obtain ⟨m, h⟩ := hm; exact (hall m) l0 l1 l2 g h) th p0 g h0
theorem mt_Po_putInOrder {Γ : GAM} {l : Launch} (th : Nat) (p0 : Nat) (g : GH) (K : GH → Prop) (h : Sp_Po_putInOrder Γ th p0 g K) : MetA Γ l yX4_putInOrder cX4_putInOrder 3 none 6 151 [.ref th, .ref p0] g (fun r g' => r = none ∧ K g') := by
  obtain ⟨D, s, q, e, st, rfl, hP, hW, he, hV, hC, hA, hst, hsl, hRC, hK0, hK1⟩ := h
  obtain ⟨y, w, L, _, _, hE, -, -⟩ := hP.2.2.2.2.1.2.2 e p0 he
  obtain ⟨⟨hx1, hx2⟩, -, -, ⟨_, a, a1, _, a2, a3, a4, a5⟩, -⟩ := id hE
  obtain ⟨-, ⟨⟨_, p2⟩, -, -, -, ⟨c1, _⟩, -, ⟨_, _, _, kc⟩, -⟩, -⟩ := id hP
  have hlen : (st.reverse.map (dE D)).length = st.length := by simp
  have hcx : Gi g 137 p0 = cmO s q e := hC.1
  have hobj : ∀ i ∈ st, isO g (dE D i) := fun i hi => by
    obtain ⟨xi, h1, h2⟩ := hst i hi
    obtain ⟨_, _, _, _, _, hEi, _⟩ := hP.2.2.2.2.1.2.2 i xi h1
    rw [dE_of h1]
    exact ⟨hEi.1.1, 1, hEi.1.2, by omega⟩
  refine rl_Po_putInOrder (fun n l0 l1 l2 g' => g = g' ∧ d_p D = l0 ∧ p0 = l1 ∧ cmO s q e ≠ -1 ∧ ∃ k, k ≤ st.length ∧ n = k ∧ l2 = nI k ∧ ∀ i ∈ st.take (st.length - k), ¬ cmO s q i ≤ cmO s q e) ?_ ?_
  · rintro n l0 l1 l2 g' ⟨rfl, rfl, rfl, hne, k, hk, rfl, rfl, hbig⟩
    have h69 : rIns (cmO s q) e (st.drop (st.length - n)) = e :: st.drop (st.length - n) → B_Po_putInOrder_69 Γ (fun l0 l1 l2 g' => ∃ m, m < n ∧ (g = g' ∧ d_p D = l0 ∧ p0 = l1 ∧ cmO s q e ≠ -1 ∧ ∃ k, k ≤ st.length ∧ m = k ∧ l2 = nI k ∧ ∀ i ∈ st.take (st.length - k), ¬ cmO s q i ≤ cmO s q e)) K (d_p D) p0 (nI n) g := fun hr => by
      unfold B_Po_putInOrder_69
      refine ⟨p2, _, c1, kc, _, n, hA, hP.1.2.2, hP.1.2.1, fun x hx => ?_, ⟨hx1, 1, hx2, by omega⟩, rfl, by rw [hlen]; exact hk, by rw [hlen]; omega, ⟨by have := hRC.1; omega, by have := hRC.2; omega⟩, fun g2 hf hA2 hG => ?_⟩
      · obtain ⟨i, hi, rfl⟩ := List.mem_map.mp hx
        exact hobj i (List.mem_reverse.mp hi)
      · refine hK1 hne g2 hf ?_ (by rw [hlen] at hG; exact hG)
        rw [rIns_at st (st.length - n) (by omega) hbig, hr]
        rw [← List.map_take, ← List.map_drop, List.take_reverse, List.drop_reverse] at hA2
        rw [List.reverse_append, List.reverse_cons, List.map_append, List.map_append, List.append_assoc, List.map_cons, List.map_nil, dE_of he]
        exact hA2
    unfold B_Po_putInOrder_36
    have e0 : (nI n ≤ 0) ↔ n = 0 := by
      rw [show (0 : Int32) = nI 0 from rfl, nj_le (by omega) (by omega)]; omega
    rw [e0]
    refine ⟨fun u => h69 ?_, fun u => ⟨p2, _, c1, kc, ?_⟩⟩
    · rw [u, Nat.sub_zero, List.drop_length]; rfl
    · have hx : st[st.length - n]? = some (st[st.length - n]?.getD 0) := by rw [List.getElem?_eq_getElem (by omega)]; rfl
      obtain ⟨b, hb⟩ : ∃ b, st[st.length - n]? = some b := ⟨_, hx⟩
      have hrev : (st.reverse.map (dE D))[n - 1]? = some (dE D b) := by
        rw [List.getElem?_map, List.getElem?_reverse (by omega), show st.length - 1 - (n - 1) = st.length - n by omega, hb]; rfl
      obtain ⟨xb, hxb, hcb⟩ := hst b (List.mem_of_getElem? hb)
      obtain ⟨_, _, _, _, _, hEb, _⟩ := hP.2.2.2.2.1.2.2 b xb hxb
      have hdb := dE_of hxb
      refine ⟨_, n - 1, dE D b, hA, by rw [show nI n - 1 = nI (n - 1) from nj_sub (b := 1) (by omega)], hrev, ?_⟩
      rw [hdb]
      have hd : st.drop (st.length - n) = b :: st.drop (st.length - n + 1) := by
        have hlt : st.length - n < st.length := by omega
        rw [List.drop_eq_getElem_cons hlt, (List.getElem?_eq_some_iff.mp hb).2]
      refine ⟨hEb.1.2, hEb.1.2, hx2, ?_⟩
      rw [hcb, hcx]
      refine ⟨fun u1 => h69 ?_, fun u1 => ⟨n - 1, by omega, rfl, rfl, rfl, hne, n - 1, by omega, rfl, ?_, fun i hi => ?_⟩⟩
      · rw [hd]
        show (if _ then _ else _) = _
        rw [if_pos u1]
      · exact (Int32.sub_eq_add_neg (nI n) 1).symm.trans (nj_sub (b := 1) (by omega))
      · rw [show st.length - (n - 1) = (st.length - n) + 1 by omega, List.take_succ, hb] at hi
        rcases List.mem_append.mp hi with z | z
        · exact hbig i z
        · simp at z
          rw [z]; exact u1
  · unfold B_Po_putInOrder_0 B_Po_putInOrder_24
    have t4 : (4 : Int32).toNatClampNeg = 4 := by decide
    refine ⟨hx2, ?_⟩
    rw [hcx]
    refine ⟨fun u => ⟨p2, _, c1, kc, kc, ?_⟩, fun u => ⟨hx2, a, a1, a2, by rw [a5]; exact ⟨by decide, by decide⟩, ?_⟩⟩
    · rw [hA.2.1, hlen]
      exact ⟨_, rfl, rfl, rfl, u, st.length, Nat.le_refl _, rfl, rfl, fun i hi => by rw [Nat.sub_self] at hi; cases hi⟩
    · have hd4 : Ia g 135 p0 4 = sDay s (nI e) 4 q := by
        have := congrArg Prod.fst (hV.1 4 (by decide) (by decide))
        rw [prj_d] at this; exact this
      rw [a3, a4, t4, hd4]
      refine ⟨fun u2 => ⟨hx2, ?_⟩, fun u2 => ⟨hx2, ?_⟩⟩
      · rintro _ rfl
        exact hK0 u _ (FrX.sI (by decide)) (by rw [Gi_sI, if_pos ⟨rfl, rfl⟩, if_neg u2])
      · rintro _ rfl
        exact hK0 u _ (FrX.sI (by decide)) (by rw [Gi_sI, if_pos ⟨rfl, rfl⟩, if_pos u2])
theorem PoI.sz {Γ : GAM} {D : DIR} {g : GH} {s : ST} (h : PoI Γ D g s) : (Kd g (d_p D) = 6 ∧ Gr g 641 (d_p D) = some (d_el D) ∧ Kd g (d_el D) = 1 ∧ Gi g 2 (d_el D) = nI (s_env s).length) ∧ (Gr g 640 (d_p D) = some (d_vl D) ∧ Kd g (d_vl D) = 1 ∧ Gi g 2 (d_vl D) = nI (s_vot s).length) := by
  obtain ⟨-, ⟨⟨_, p2⟩, ⟨v1, _⟩, ⟨e1, _⟩, -, -, -, ⟨k1, k2, -⟩, -⟩, -, ⟨a1, a2, -⟩, ⟨b1, b2, -⟩, -⟩ := h
  exact ⟨⟨p2, e1, k2, by rw [b1.2.1, b2]⟩, v1, k1, by rw [a1.2.1, a2]⟩
theorem PoI.esz {Γ : GAM} {D : DIR} {g : GH} {s : ST} (h : PoI Γ D g s) {K : Int32 → GH → Prop} (hK : K (nI (s_env s).length) g) : Sp_AL_size Γ (d_el D) g K := by
  obtain ⟨⟨z1, z2, z3, z4⟩, -⟩ := h.sz
  refine ⟨z3, ?_⟩
  rw [z4]; exact hK
theorem PoI.vsz {Γ : GAM} {D : DIR} {g : GH} {s : ST} (h : PoI Γ D g s) {K : Int32 → GH → Prop} (hK : K (nI (s_vot s).length) g) : Sp_AL_size Γ (d_vl D) g K := by
  obtain ⟨-, z1, z2, z3⟩ := h.sz
  refine ⟨z2, ?_⟩
  rw [z3]; exact hK
theorem PoI.eget {Γ : GAM} {D : DIR} {g : GH} {s : ST} (h : PoI Γ D g s) {k : Nat} (hk : k < (s_env s).length) {K : Nat → GH → Prop} (hK : ∀ x, (d_es D)[k]? = some x → EOS Γ D g s k x → K x g) : Sp_AL_get Γ (d_el D) (nI k) g K := by
  obtain ⟨x, hx, hE⟩ := h.eat hk
  exact ⟨d_es D, k, x, h.2.2.2.2.1.1, rfl, hx, hK x hx hE⟩
theorem PoI.vget {Γ : GAM} {D : DIR} {g : GH} {s : ST} (h : PoI Γ D g s) {k : Nat} (hk : k < (s_vot s).length) {K : Nat → GH → Prop} (hK : ∀ x, (d_vs D)[k]? = some x → VOS Γ D g s k x → K x g) : Sp_AL_get Γ (d_vl D) (nI k) g K := by
  obtain ⟨x, hx, hE⟩ := h.vat hk
  exact ⟨d_vs D, k, x, h.2.2.2.1.1, rfl, hx, hK x hx hE⟩
def Sp_Po_manyBy (Γ : GAM) (m : Nat) (p0 q : Int32) (g : GH) (K : Int32 → GH → Prop) : Prop := ∃ D s, d_p D = m ∧ PoI Γ D g s ∧ WF s ∧ ∀ g', FK Γ D g g' → K (sMany s p0 q) g'
-- the walk of Po_manyBy
set_option maxRecDepth 100000 in
def B_Po_manyBy_64 (Γ : GAM) (K5 : Nat → Int32 → Int32 → Int32 → Int32 → GH → Prop) (K : Int32 → GH → Prop) (l0 : Nat) (l1 : Int32) (l2 : Int32) (l3 : Int32) (l4 : Int32) (g : GH) : Prop :=
  K5 l0 l1 l2 l3 (l4 + (1 : Int32)) g
set_option maxHeartbeats 4000000 in
set_option maxRecDepth 100000 in
theorem S_Po_manyBy_64 {Γ : GAM} {E : EV} {K : Int32 → GH → Prop} (hE : GE Γ E cX4_manyBy 6 RX4 (some (.int)) 5 116 (fun r g' => ∃ x, r = some (.int x) ∧ K x g')) {K5 : Nat → Int32 → Int32 → Int32 → Int32 → GH → Prop} (hK5 : ∀ (l0 : Nat) (l1 : Int32) (l2 : Int32) (l3 : Int32) (l4 : Int32) (g : GH), K5 l0 l1 l2 l3 l4 g → JW Γ E 5 [some (.ref l0), some (.int l1), some (.int l2), some (.int l3), some (.int l4), none] [] g) (l0 : Nat) (l1 : Int32) (l2 : Int32) (l3 : Int32) (l4 : Int32) (g : GH) (h : B_Po_manyBy_64 Γ K5 K l0 l1 l2 l3 l4 g) : JW Γ E 64 [some (.ref l0), some (.int l1), some (.int l2), some (.int l3), some (.int l4), none] [] g := by
  unfold B_Po_manyBy_64 at h
  refine j_iinc hE (by decide +kernel : decode cX4_manyBy 64 = .ok (.iinc 4 1, 3)) (v := (1 : Int32)) (by decide) rfl (Nat.le_of_ble_eq_true rfl) rfl ?_
  refine j_goto hE (by decide +kernel : decode cX4_manyBy 67 = .ok (.goto (-62), 3)) (tgt := 5) (by decide) ?_
  exact hK5 _ _ _ _ _ _ h
set_option maxRecDepth 100000 in
def B_Po_manyBy_62 (Γ : GAM) (K5 : Nat → Int32 → Int32 → Int32 → Int32 → GH → Prop) (K : Int32 → GH → Prop) (l0 : Nat) (l1 : Int32) (l2 : Int32) (l4 : Int32) (s0 : Int32) (s1 : Int32) (g : GH) : Prop :=
  ∀ x1 : Int32, x1 = (s1 + s0) → B_Po_manyBy_64 Γ K5 K l0 l1 l2 x1 l4 g
set_option maxHeartbeats 4000000 in
set_option maxRecDepth 100000 in
theorem S_Po_manyBy_62 {Γ : GAM} {E : EV} {K : Int32 → GH → Prop} (hE : GE Γ E cX4_manyBy 6 RX4 (some (.int)) 5 116 (fun r g' => ∃ x, r = some (.int x) ∧ K x g')) {K5 : Nat → Int32 → Int32 → Int32 → Int32 → GH → Prop} (hK5 : ∀ (l0 : Nat) (l1 : Int32) (l2 : Int32) (l3 : Int32) (l4 : Int32) (g : GH), K5 l0 l1 l2 l3 l4 g → JW Γ E 5 [some (.ref l0), some (.int l1), some (.int l2), some (.int l3), some (.int l4), none] [] g) (l0 : Nat) (l1 : Int32) (l2 : Int32) (l4 : Int32) (s0 : Int32) (s1 : Int32) (g : GH) (h : B_Po_manyBy_62 Γ K5 K l0 l1 l2 l4 s0 s1 g) : JW Γ E 62 [some (.ref l0), some (.int l1), some (.int l2), none, some (.int l4), none] [.int s0, .int s1] g := by
  unfold B_Po_manyBy_62 at h
  refine j_iadd hE (by decide +kernel : decode cX4_manyBy 62 = .ok (.iadd, 1)) ?_
  obtain ⟨x1, hx⟩ : ∃ z, z = (s1 + s0) := ⟨_, rfl⟩; replace h := h x1 hx; rw [← hx]
  refine j_istore_n hE (by decide +kernel : decode cX4_manyBy 63 = .ok (.istore_n 3, 1)) rfl (Nat.le_of_ble_eq_true rfl) rfl ?_
  exact S_Po_manyBy_64 hE hK5 _ _ _ _ _ _ h
set_option maxRecDepth 100000 in
def B_Po_manyBy_5 (Γ : GAM) (K5 : Nat → Int32 → Int32 → Int32 → Int32 → GH → Prop) (K : Int32 → GH → Prop) (l0 : Nat) (l1 : Int32) (l2 : Int32) (l3 : Int32) (l4 : Int32) (g : GH) : Prop :=
  Kd g l0 = 6 ∧ ∃ a1 : Nat, Gr g 641 l0 = some a1 ∧ Kd g a1 = 1 ∧ Sp_AL_size Γ a1 g (fun (x3 : Int32) (g2 : GH) => ((x3 ≤ l4 → K l3 g2) ∧ (¬ (x3 ≤ l4) → Kd g2 l0 = 6 ∧ ∃ a4 : Nat, Gr g2 641 l0 = some a4 ∧ Kd g2 a4 = 1 ∧ Sp_AL_get Γ a4 l4 g2 (fun (a6 : Nat) (g5 : GH) => Kd g5 a6 = 2 ∧ Kd g5 a6 = 2 ∧ ((l2 < (Gi g5 132 a6) → B_Po_manyBy_64 Γ K5 K l0 l1 l2 l3 l4 g5) ∧ (¬ (l2 < (Gi g5 132 a6)) → Kd g5 l0 = 6 ∧ Sp_Po_settle Γ l0 a6 l2 g5 (fun (g7 : GH) => Kd g7 a6 = 2 ∧ ((¬ ((Gi g7 138 a6) = l1) → B_Po_manyBy_62 Γ K5 K l0 l1 l2 l4 (0 : Int32) l3 g7) ∧ ((Gi g7 138 a6) = l1 → B_Po_manyBy_62 Γ K5 K l0 l1 l2 l4 (1 : Int32) l3 g7)))))))))
set_option maxHeartbeats 4000000 in
set_option maxRecDepth 100000 in
theorem S_Po_manyBy_5 {Γ : GAM} {E : EV} {K : Int32 → GH → Prop} (hE : GE Γ E cX4_manyBy 6 RX4 (some (.int)) 5 116 (fun r g' => ∃ x, r = some (.int x) ∧ K x g')) {K5 : Nat → Int32 → Int32 → Int32 → Int32 → GH → Prop} (hK5 : ∀ (l0 : Nat) (l1 : Int32) (l2 : Int32) (l3 : Int32) (l4 : Int32) (g : GH), K5 l0 l1 l2 l3 l4 g → JW Γ E 5 [some (.ref l0), some (.int l1), some (.int l2), some (.int l3), some (.int l4), none] [] g) (l0 : Nat) (l1 : Int32) (l2 : Int32) (l3 : Int32) (l4 : Int32) (g : GH) (h : B_Po_manyBy_5 Γ K5 K l0 l1 l2 l3 l4 g) : JW Γ E 5 [some (.ref l0), some (.int l1), some (.int l2), some (.int l3), some (.int l4), none] [] g := by
  unfold B_Po_manyBy_5 at h
  refine j_iload hE (by decide +kernel : decode cX4_manyBy 5 = .ok (.iload 4, 2)) rfl ?_
  refine j_aload_n hE (by decide +kernel : decode cX4_manyBy 7 = .ok (.aload_n 0, 1)) rfl rfl ?_
  obtain ⟨hk, h⟩ := h
  obtain ⟨a1, ha, h⟩ := h
  refine j_getRn hE fg_X4_18 hk ha (by decide +kernel : decode cX4_manyBy 8 = .ok (.getfield 18, 3)) ?_
  obtain ⟨hk, h⟩ := h
  refine j_callV hE rfl cl_X4_34 cf_0 im_Jx4a65c_size_8abf5 se_Jx4a65c_size_8abf5 ⟨by omega, by omega⟩ (As := []) (rest := [.int l4]) rfl rfl (Nat.le_of_ble_eq_true rfl) hk (by decide +kernel : decode cX4_manyBy 11 = .ok (.invokevirtual 34, 3)) (mt_AL_size _ _ _ h) ?_
  rintro _ g2 ⟨x3, rfl, h⟩
  refine j_icmp_ge hE (by decide +kernel : decode cX4_manyBy 14 = .ok (.if_icmp .ge 56, 3)) (tgt := 70) (by decide) (fun q => ?_) (fun q => ?_)
  · replace h := h.1 q
    refine j_iload_n hE (by decide +kernel : decode cX4_manyBy 70 = .ok (.iload_n 3, 1)) rfl rfl ?_
    exact j_iret hE (by decide +kernel : decode cX4_manyBy 71 = .ok (.ireturn, 1)) ⟨_, rfl, h⟩
  · replace h := h.2 q
    refine j_aload_n hE (by decide +kernel : decode cX4_manyBy 17 = .ok (.aload_n 0, 1)) rfl rfl ?_
    obtain ⟨hk, h⟩ := h
    obtain ⟨a4, ha, h⟩ := h
    refine j_getRn hE fg_X4_18 hk ha (by decide +kernel : decode cX4_manyBy 18 = .ok (.getfield 18, 3)) ?_
    refine j_iload hE (by decide +kernel : decode cX4_manyBy 21 = .ok (.iload 4, 2)) rfl ?_
    obtain ⟨hk, h⟩ := h
    refine j_callV hE rfl cl_X4_42 cf_0 im_Jx4a65c_get_915e3 se_Jx4a65c_get_915e3 ⟨by omega, by omega⟩ (As := [.int l4]) (rest := []) rfl rfl (Nat.le_of_ble_eq_true rfl) hk (by decide +kernel : decode cX4_manyBy 23 = .ok (.invokevirtual 42, 3)) (mt_AL_get _ _ _ _ h) ?_
    rintro _ g5 ⟨a6, rfl, h⟩
    obtain ⟨hk, h⟩ := h
    refine j_cast hE cf_1 ck_X4_48 hk (by decide +kernel : decode cX4_manyBy 26 = .ok (.checkcast 48, 3)) ?_
    refine j_astore hE (by decide +kernel : decode cX4_manyBy 29 = .ok (.astore 5, 2)) (Nat.le_of_ble_eq_true rfl) rfl ?_
    refine j_aload hE (by decide +kernel : decode cX4_manyBy 31 = .ok (.aload 5, 2)) rfl ?_
    obtain ⟨hk, h⟩ := h
    refine j_getI hE fg_X4_89 hk (by decide +kernel : decode cX4_manyBy 33 = .ok (.getfield 89, 3)) ?_
    refine j_iload_n hE (by decide +kernel : decode cX4_manyBy 36 = .ok (.iload_n 2, 1)) rfl rfl ?_
    refine j_icmp_gt hE (by decide +kernel : decode cX4_manyBy 37 = .ok (.if_icmp .gt 27, 3)) (tgt := 64) (by decide) (fun q => ?_) (fun q => ?_)
    · replace h := h.1 q
      refine j_weak [some (.ref l0), some (.int l1), some (.int l2), some (.int l3), some (.int l4), none] ⟨rfl, ⟨rfl, ⟨rfl, ⟨rfl, ⟨rfl, trivial⟩⟩⟩⟩⟩ ?_
      exact S_Po_manyBy_64 hE hK5 _ _ _ _ _ _ h
    · replace h := h.2 q
      refine j_aload_n hE (by decide +kernel : decode cX4_manyBy 40 = .ok (.aload_n 0, 1)) rfl rfl ?_
      refine j_aload hE (by decide +kernel : decode cX4_manyBy 41 = .ok (.aload 5, 2)) rfl ?_
      refine j_iload_n hE (by decide +kernel : decode cX4_manyBy 43 = .ok (.iload_n 2, 1)) rfl rfl ?_
      obtain ⟨hk, h⟩ := h
      refine j_callV hE rfl cl_X4_90 cf_5 im_X4_settle se_X4_settle ⟨by omega, by omega⟩ (As := [.ref a6, .int l2]) (rest := []) rfl rfl (Nat.le_of_ble_eq_true rfl) hk (by decide +kernel : decode cX4_manyBy 44 = .ok (.invokevirtual 90, 3)) (mt_Po_settle _ _ _ _ _ h) ?_
      rintro _ g7 ⟨rfl, h⟩
      refine j_iload_n hE (by decide +kernel : decode cX4_manyBy 47 = .ok (.iload_n 3, 1)) rfl rfl ?_
      refine j_aload hE (by decide +kernel : decode cX4_manyBy 48 = .ok (.aload 5, 2)) rfl ?_
      obtain ⟨hk, h⟩ := h
      refine j_getI hE fg_X4_74 hk (by decide +kernel : decode cX4_manyBy 50 = .ok (.getfield 74, 3)) ?_
      refine j_iload_n hE (by decide +kernel : decode cX4_manyBy 53 = .ok (.iload_n 1, 1)) rfl rfl ?_
      refine j_icmp_ne hE (by decide +kernel : decode cX4_manyBy 54 = .ok (.if_icmp .ne 7, 3)) (tgt := 61) (by decide) (fun q => ?_) (fun q => ?_)
      · replace h := h.1 q
        refine j_iconst hE (by decide +kernel : decode cX4_manyBy 61 = .ok (.iconst 0, 1)) (v := (0 : Int32)) (by decide) ?_
        refine j_weak [some (.ref l0), some (.int l1), some (.int l2), none, some (.int l4), none] ⟨rfl, ⟨rfl, ⟨rfl, ⟨rfl, trivial⟩⟩⟩⟩ ?_
        exact S_Po_manyBy_62 hE hK5 _ _ _ _ _ _ _ h
      · replace h := h.2 q
        refine j_iconst hE (by decide +kernel : decode cX4_manyBy 57 = .ok (.iconst 1, 1)) (v := (1 : Int32)) (by decide) ?_
        refine j_goto hE (by decide +kernel : decode cX4_manyBy 58 = .ok (.goto 4, 3)) (tgt := 62) (by decide) ?_
        refine j_weak [some (.ref l0), some (.int l1), some (.int l2), none, some (.int l4), none] ⟨rfl, ⟨rfl, ⟨rfl, ⟨rfl, trivial⟩⟩⟩⟩ ?_
        exact S_Po_manyBy_62 hE hK5 _ _ _ _ _ _ _ h
set_option maxRecDepth 100000 in
def B_Po_manyBy_0 (Γ : GAM) (K5 : Nat → Int32 → Int32 → Int32 → Int32 → GH → Prop) (K : Int32 → GH → Prop) (th : Nat) (p0 : Int32) (p1 : Int32) (g : GH) : Prop :=
  K5 th p0 p1 (0 : Int32) (0 : Int32) g
set_option maxHeartbeats 4000000 in
set_option maxRecDepth 100000 in
theorem S_Po_manyBy_0 {Γ : GAM} {E : EV} {K : Int32 → GH → Prop} (hE : GE Γ E cX4_manyBy 6 RX4 (some (.int)) 5 116 (fun r g' => ∃ x, r = some (.int x) ∧ K x g')) {K5 : Nat → Int32 → Int32 → Int32 → Int32 → GH → Prop} (hK5 : ∀ (l0 : Nat) (l1 : Int32) (l2 : Int32) (l3 : Int32) (l4 : Int32) (g : GH), K5 l0 l1 l2 l3 l4 g → JW Γ E 5 [some (.ref l0), some (.int l1), some (.int l2), some (.int l3), some (.int l4), none] [] g) (th : Nat) (p0 : Int32) (p1 : Int32) (g : GH) (h : B_Po_manyBy_0 Γ K5 K th p0 p1 g) : JW Γ E 0 [some (.ref th), some (.int p0), some (.int p1), none, none, none] [] g := by
  unfold B_Po_manyBy_0 at h
  refine j_iconst hE (by decide +kernel : decode cX4_manyBy 0 = .ok (.iconst 0, 1)) (v := (0 : Int32)) (by decide) ?_
  refine j_istore_n hE (by decide +kernel : decode cX4_manyBy 1 = .ok (.istore_n 3, 1)) rfl (Nat.le_of_ble_eq_true rfl) rfl ?_
  refine j_iconst hE (by decide +kernel : decode cX4_manyBy 2 = .ok (.iconst 0, 1)) (v := (0 : Int32)) (by decide) ?_
  refine j_istore hE (by decide +kernel : decode cX4_manyBy 3 = .ok (.istore 4, 2)) (Nat.le_of_ble_eq_true rfl) rfl ?_
  exact hK5 _ _ _ _ _ _ h
set_option maxHeartbeats 4000000 in
set_option maxRecDepth 100000 in
theorem rl_Po_manyBy {Γ : GAM} {l : Launch} {th : Nat} {p0 : Int32} {p1 : Int32} {g : GH} {K : Int32 → GH → Prop} (I5 : Nat → Nat → Int32 → Int32 → Int32 → Int32 → GH → Prop) (hh5 : ∀ n (l0 : Nat) (l1 : Int32) (l2 : Int32) (l3 : Int32) (l4 : Int32) (g : GH), I5 n l0 l1 l2 l3 l4 g → B_Po_manyBy_5 Γ (fun l0 l1 l2 l3 l4 g => ∃ m, m < n ∧ I5 m l0 l1 l2 l3 l4 g) K l0 l1 l2 l3 l4 g) (h0 : B_Po_manyBy_0 Γ (fun l0 l1 l2 l3 l4 g => ∃ m, I5 m l0 l1 l2 l3 l4 g) K th p0 p1 g) : MetA Γ l yX4_manyBy cX4_manyBy 6 (some (.int)) 5 116 [.ref th, .int p0, .int p1] g (fun r g' => ∃ x, r = some (.int x) ∧ K x g') := by
  refine MetA.introL (Lx := [some (.ref th), some (.int p0), some (.int p1), none, none, none]) (by decide) (Nat.le_of_ble_eq_true rfl) rfl rfl ?_
  intro E hEl hE hnm
  have hall : ∀ n, (∀ (l0 : Nat) (l1 : Int32) (l2 : Int32) (l3 : Int32) (l4 : Int32) (g : GH), I5 n l0 l1 l2 l3 l4 g → JW Γ E 5 [some (.ref l0), some (.int l1), some (.int l2), some (.int l3), some (.int l4), none] [] g) := by
    intro n
    induction n using Nat.strongRecOn with
    | ind n ih =>
      exact fun l0 l1 l2 l3 l4 g hi => S_Po_manyBy_5 hE (fun l0 l1 l2 l3 l4 g hm => by obtain ⟨m, hm, h⟩ := hm; exact (ih m hm) l0 l1 l2 l3 l4 g h) l0 l1 l2 l3 l4 g (hh5 n l0 l1 l2 l3 l4 g hi)
  exact S_Po_manyBy_0 hE (fun l0 l1 l2 l3 l4 g hm => by obtain ⟨m, h⟩ := hm; exact (hall m) l0 l1 l2 l3 l4 g h) th p0 p1 g h0
theorem mt_Po_manyBy {Γ : GAM} {l : Launch} (th : Nat) (p0 : Int32) (p1 : Int32) (g : GH) (K : Int32 → GH → Prop) (h : Sp_Po_manyBy Γ th p0 p1 g K) : MetA Γ l yX4_manyBy cX4_manyBy 6 (some (.int)) 5 116 [.ref th, .int p0, .int p1] g (fun r g' => ∃ x, r = some (.int x) ∧ K x g') := by
  obtain ⟨D, s, rfl, hP, hW, hK⟩ := h
  have hlen := hW.len
  refine rl_Po_manyBy (fun n l0 l1 l2 l3 l4 g' => d_p D = l0 ∧ p0 = l1 ∧ p1 = l2 ∧ ∃ k, k ≤ (s_env s).length ∧ n = (s_env s).length - k ∧ l4 = nI k ∧ FK Γ D g g' ∧ l3 = ((s_env s).zipIdx.take k).foldl (slS s p0 p1) 0) ?_ ⟨_, rfl, rfl, rfl, 0, Nat.zero_le _, rfl, nj_0, FK.rf hP.1.1, rfl⟩
  rintro n l0 l1 l2 l3 l4 g' ⟨rfl, rfl, rfl, k, hk, rfl, rfl, hF, rfl⟩
  have hP' := hP.c hF.1
  obtain ⟨⟨z1, z2, z3, z4⟩, -⟩ := hP'.sz
  suffices H : ∀ K5 : Nat → Int32 → Int32 → Int32 → Int32 → GH → Prop, (∀ g2 y, (s_env s)[k]? = some y → FK Γ D g g2 → K5 (d_p D) p0 p1 (slS s p0 p1 (((s_env s).zipIdx.take k).foldl (slS s p0 p1) 0) (y, k)) (nI (k + 1)) g2) → B_Po_manyBy_5 Γ K5 K (d_p D) p0 p1 (((s_env s).zipIdx.take k).foldl (slS s p0 p1) 0) (nI k) g' from
    H _ (fun g2 y hy h1 => ⟨(s_env s).length - (k + 1), by have := (List.getElem?_eq_some_iff.mp hy).1; omega, rfl, rfl, rfl, k + 1, (List.getElem?_eq_some_iff.mp hy).1, rfl, rfl, h1, by rw [fold_take _ _ _ (zip_get hy)]⟩)
  intro K5 hn
  obtain ⟨A, hA⟩ : ∃ A, A = ((s_env s).zipIdx.take k).foldl (slS s p0 p1) 0 := ⟨_, rfl⟩
  rw [← hA] at hn ⊢
  unfold B_Po_manyBy_5 B_Po_manyBy_62 B_Po_manyBy_64
  refine ⟨z1, _, z2, z3, hP'.esz ?_⟩
  rw [nj_le (by omega) (by omega)]
  refine ⟨fun u => ?_, fun u => ⟨z1, _, z2, z3, hP'.eget (by omega) (fun x hx hE => ?_)⟩⟩
  · rw [List.take_of_length_le (by rw [List.length_zipIdx]; exact u)] at hA
    rw [show A = sMany s p0 p1 from hA]
    exact hK g' hF
  · obtain ⟨y, w, L, y1, w1, hEO, -, -⟩ := hE
    obtain ⟨⟨hx1, hx2⟩, -, ⟨_, _, _, ht⟩, -⟩ := id hEO
    have hn2 := fun g2 => hn g2 y y1
    unfold slS at hn2
    rw [ht, nj_s]
    refine ⟨hx2, hx2, fun u1 => ?_, fun u1 => ⟨z1, D, s, k, rfl, hP', hW, hx, fun g2 hx2' hV hC _ => ?_⟩⟩
    · have := hn2 g' hF
      rw [if_neg (fun z => absurd z.1 (Int32.not_le.mpr u1))] at this
      exact this
    · have hF2 := hF.tr (FK.x (Γ := Γ) (D := D) hx2' hP'.1.1 (by decide) (by decide) ⟨by decide, by decide⟩)
      have := hn2 g2 hF2
      refine ⟨by rw [hx2'.1.2.2.2.2.2.1]; exact hx2, fun u2 => ?_, fun u2 => ?_⟩
      · rw [hC.2] at u2
        rintro _ rfl
        rw [if_neg (fun z => u2 z.2)] at this
        rw [Int32.add_zero]; exact this
      · rw [hC.2] at u2
        rintro _ rfl
        rw [if_pos ⟨Int32.not_lt.mp u1, u2⟩] at this
        exact this
/-! doubles -/
def mtG (f : Nat → Int32) (h own : Int32) (a : Tr) (j : Nat) : Tr := if (if nI j = h then (-1 : Int32) else f j) = -1 then a else (a.1 + 1, a.2.1 + (if own = 0 ∧ (if nI j = h then (-1 : Int32) else f j) = 1 then 1 else 0), a.2.2 + (if own = 1 ∧ (if nI j = h then (-1 : Int32) else f j) = 0 then 1 else 0))
def trC (t : Tr) (what : Int32) : Int32 := if what = 0 then t.1 else if what = 1 then t.2.1 else t.2.2
def trA (a b : Tr) : Tr := (a.1 + b.1, a.2.1 + b.2.1, a.2.2 + b.2.2)
theorem mtG_1 (f : Nat → Int32) (h own : Int32) (a : Tr) (j : Nat) : mtG f h own a j = trA a (mtG f h own (0, 0, 0) j) := by
  unfold mtG trA
  generalize (if nI j = h then (-1 : Int32) else f j) = w
  by_cases hw : w = -1
  · simp only [hw, if_true, Int32.add_zero]
  · simp only [hw, if_false, Int32.zero_add]
theorem trA_a (a b c : Tr) : trA (trA a b) c = trA a (trA b c) := by
  unfold trA
  simp only [Int32.add_assoc]
theorem mtG_add (f : Nat → Int32) (h own : Int32) : ∀ (l : List Nat) (a : Tr), l.foldl (mtG f h own) a = trA a (l.foldl (mtG f h own) (0, 0, 0)) := by
  intro l
  induction l with
  | nil => intro a; unfold trA; simp
  | cons j l ih =>
    intro a
    rw [List.foldl_cons, List.foldl_cons, ih (mtG f h own a j), ih (mtG f h own (0, 0, 0) j), mtG_1, trA_a]
def wdC (c j : Nat) : Int32 := if c / 3 ^ j % 3 = 0 then -1 else if c / 3 ^ j % 3 = 1 then 0 else 1
theorem wd_of {f : Nat → Int32} (hf : ∀ j, j < 6 → f j = -1 ∨ f j = 0 ∨ f j = 1) : ∃ c, c < 729 ∧ ∀ j, j < 6 → f j = wdC c j := by
  have d : ∀ j, j < 6 → ∃ b, b < 3 ∧ f j = (if b = 0 then (-1 : Int32) else if b = 1 then 0 else 1) := fun j hj => by
    rcases hf j hj with z | z | z
    · exact ⟨0, by omega, z⟩
    · exact ⟨1, by omega, z⟩
    · exact ⟨2, by omega, z⟩
  obtain ⟨b0, h0, e0⟩ := d 0 (by omega)
  obtain ⟨b1, h1, e1⟩ := d 1 (by omega)
  obtain ⟨b2, h2, e2⟩ := d 2 (by omega)
  obtain ⟨b3, h3, e3⟩ := d 3 (by omega)
  obtain ⟨b4, h4, e4⟩ := d 4 (by omega)
  obtain ⟨b5, h5, e5⟩ := d 5 (by omega)
  refine ⟨b0 + 3 * b1 + 9 * b2 + 27 * b3 + 81 * b4 + 243 * b5, by omega, fun j hj => ?_⟩
  unfold wdC
  rcases (show j = 0 ∨ j = 1 ∨ j = 2 ∨ j = 3 ∨ j = 4 ∨ j = 5 by omega) with rfl | rfl | rfl | rfl | rfl | rfl
  · rw [e0, show (b0 + 3 * b1 + 9 * b2 + 27 * b3 + 81 * b4 + 243 * b5) / 3 ^ 0 % 3 = b0 by omega]
  · rw [e1, show (b0 + 3 * b1 + 9 * b2 + 27 * b3 + 81 * b4 + 243 * b5) / 3 ^ 1 % 3 = b1 by omega]
  · rw [e2, show (b0 + 3 * b1 + 9 * b2 + 27 * b3 + 81 * b4 + 243 * b5) / 3 ^ 2 % 3 = b2 by omega]
  · rw [e3, show (b0 + 3 * b1 + 9 * b2 + 27 * b3 + 81 * b4 + 243 * b5) / 3 ^ 3 % 3 = b3 by omega]
  · rw [e4, show (b0 + 3 * b1 + 9 * b2 + 27 * b3 + 81 * b4 + 243 * b5) / 3 ^ 4 % 3 = b4 by omega]
  · rw [e5, show (b0 + 3 * b1 + 9 * b2 + 27 * b3 + 81 * b4 + 243 * b5) / 3 ^ 5 % 3 = b5 by omega]
def dbT (c h w : Nat) : Bool := decide (dbO (fun i => wdC c (i - 10)) (nI h) (nI w) = if wdC c h = -1 then 0 else trC ((List.range 6).foldl (mtG (wdC c) (nI h) (wdC c h)) (0, 0, 0)) (nI w))
theorem db_all : (List.range 729).all (fun c => (List.range 6).all (fun h => (List.range 3).all (fun w => dbT c h w))) = true := by decide +kernel
