/-! the class: its van, the plan -/
theorem sAf_id {g : GH} {c o : Nat} {f : Nat → Int32} (h : f = Ia g c o) : sAf g c o f = g := by
  unfold sAf
  have : (fun c' o' => if c' = c ∧ o' = o then f else Ia g c' o') = Ia g := by
    funext c' o'
    split
    · rename_i e; rw [h, e.1, e.2]
    · rfl
  rw [this]
  rfl
theorem sA_sAf {g : GH} {c o k : Nat} {v : Int32} {f : Nat → Int32} : sA (sAf g c o f) c o k v = sAf g c o (fun i => if i = k then v else f i) := by
  unfold sA sAf
  have : (fun c' o' i' => if c' = c ∧ o' = o ∧ i' = k then v else Ia (Gi g, Gr g, (fun c' o' => if c' = c ∧ o' = o then f else Ia g c' o'), Ra g, La g, Kd g, Co g, Ow g, Ln g, Lq g, Hn g, Hu g) c' o' i') = (fun c' o' => if c' = c ∧ o' = o then (fun i => if i = k then v else f i) else Ia g c' o') := by
    funext c' o' i'
    show (if c' = c ∧ o' = o ∧ i' = k then v else (if c' = c ∧ o' = o then f else Ia g c' o') i') = _
    by_cases e : c' = c ∧ o' = o
    · rw [if_pos e, if_pos e]
      by_cases e2 : i' = k
      · rw [if_pos ⟨e.1, e.2, e2⟩, if_pos e2]
      · rw [if_neg (fun z => e2 z.2.2), if_neg e2]
    · rw [if_neg e, if_neg e, if_neg (fun z => e ⟨z.1, z.2.1⟩)]
  rw [this]
  rfl
def Sp_Arrays_fill (Γ : GAM) (a : Nat) (v : Int32) (g : GH) (K : GH → Prop) : Prop := Kd g a = 20 ∧ Ln g a < 2147483648 ∧ K (sAf g (Co g a) (Ow g a) (fun i => if i < Ln g a then v else Ia g (Co g a) (Ow g a) i))
-- the walk of Arrays_fill
set_option maxRecDepth 100000 in
def B_Arrays_fill_5 (Γ : GAM) (K5 : Nat → Int32 → Int32 → Int32 → GH → Prop) (K : GH → Prop) (l0 : Nat) (l1 : Int32) (l2 : Int32) (l3 : Int32) (g : GH) : Prop :=
  ((l3 ≤ l2 → K g) ∧ (¬ (l3 ≤ l2) → Kd g l0 = 20 ∧ inB l2 (Ln g l0) ∧ ∀ g1 : GH, g1 = sA g (Co g l0) (Ow g l0) l2.toNatClampNeg l1 → K5 l0 l1 (l2 + (1 : Int32)) l3 g1))
set_option maxHeartbeats 4000000 in
set_option maxRecDepth 100000 in
theorem S_Arrays_fill_5 {Γ : GAM} {E : EV} {K : GH → Prop} (hE : GE Γ E cJ7_fill_53178 4 RJ7 none 0 0 (fun r g' => r = none ∧ K g')) {K5 : Nat → Int32 → Int32 → Int32 → GH → Prop} (hK5 : ∀ (l0 : Nat) (l1 : Int32) (l2 : Int32) (l3 : Int32) (g : GH), K5 l0 l1 l2 l3 g → JW Γ E 5 [some (.ref l0), some (.int l1), some (.int l2), some (.int l3)] [] g) (l0 : Nat) (l1 : Int32) (l2 : Int32) (l3 : Int32) (g : GH) (h : B_Arrays_fill_5 Γ K5 K l0 l1 l2 l3 g) : JW Γ E 5 [some (.ref l0), some (.int l1), some (.int l2), some (.int l3)] [] g := by
  unfold B_Arrays_fill_5 at h
  refine j_iload_n hE (by decide +kernel : decode cJ7_fill_53178 5 = .ok (.iload_n 2, 1)) rfl rfl ?_
  refine j_iload_n hE (by decide +kernel : decode cJ7_fill_53178 6 = .ok (.iload_n 3, 1)) rfl rfl ?_
  refine j_icmp_ge hE (by decide +kernel : decode cJ7_fill_53178 7 = .ok (.if_icmp .ge 13, 3)) (tgt := 20) (by decide) (fun q => ?_) (fun q => ?_)
  · replace h := h.1 q
    exact j_vret hE (by decide +kernel : decode cJ7_fill_53178 20 = .ok (.return_, 1)) ⟨rfl, h⟩
  · replace h := h.2 q
    refine j_aload_n hE (by decide +kernel : decode cJ7_fill_53178 10 = .ok (.aload_n 0, 1)) rfl rfl ?_
    refine j_iload_n hE (by decide +kernel : decode cJ7_fill_53178 11 = .ok (.iload_n 2, 1)) rfl rfl ?_
    refine j_iload_n hE (by decide +kernel : decode cJ7_fill_53178 12 = .ok (.iload_n 1, 1)) rfl rfl ?_
    obtain ⟨hk, hb, h⟩ := h
    obtain ⟨g1, hg⟩ : ∃ z, z = sA g (Co g l0) (Ow g l0) l2.toNatClampNeg l1 := ⟨_, rfl⟩; replace h := h g1 hg
    refine j_iast hE hk hb (by decide +kernel : decode cJ7_fill_53178 13 = .ok (.iastore, 1)) ?_
    rw [← hg]
    refine j_iinc hE (by decide +kernel : decode cJ7_fill_53178 14 = .ok (.iinc 2 1, 3)) (v := (1 : Int32)) (by decide) rfl (Nat.le_of_ble_eq_true rfl) rfl ?_
    refine j_goto hE (by decide +kernel : decode cJ7_fill_53178 17 = .ok (.goto (-12), 3)) (tgt := 5) (by decide) ?_
    exact hK5 _ _ _ _ _ h
set_option maxRecDepth 100000 in
def B_Arrays_fill_0 (Γ : GAM) (K5 : Nat → Int32 → Int32 → Int32 → GH → Prop) (K : GH → Prop) (p0 : Nat) (p1 : Int32) (g : GH) : Prop :=
  (20 ≤ Kd g p0 ∧ Kd g p0 < 24) ∧ ∀ x1 : Int32, x1 = (Int32.ofNat (Ln g p0)) → K5 p0 p1 (0 : Int32) x1 g
set_option maxHeartbeats 4000000 in
set_option maxRecDepth 100000 in
theorem S_Arrays_fill_0 {Γ : GAM} {E : EV} {K : GH → Prop} (hE : GE Γ E cJ7_fill_53178 4 RJ7 none 0 0 (fun r g' => r = none ∧ K g')) {K5 : Nat → Int32 → Int32 → Int32 → GH → Prop} (hK5 : ∀ (l0 : Nat) (l1 : Int32) (l2 : Int32) (l3 : Int32) (g : GH), K5 l0 l1 l2 l3 g → JW Γ E 5 [some (.ref l0), some (.int l1), some (.int l2), some (.int l3)] [] g) (p0 : Nat) (p1 : Int32) (g : GH) (h : B_Arrays_fill_0 Γ K5 K p0 p1 g) : JW Γ E 0 [some (.ref p0), some (.int p1), none, none] [] g := by
  unfold B_Arrays_fill_0 at h
  refine j_iconst hE (by decide +kernel : decode cJ7_fill_53178 0 = .ok (.iconst 0, 1)) (v := (0 : Int32)) (by decide) ?_
  refine j_istore_n hE (by decide +kernel : decode cJ7_fill_53178 1 = .ok (.istore_n 2, 1)) rfl (Nat.le_of_ble_eq_true rfl) rfl ?_
  refine j_aload_n hE (by decide +kernel : decode cJ7_fill_53178 2 = .ok (.aload_n 0, 1)) rfl rfl ?_
  obtain ⟨hk, h⟩ := h
  refine j_alen hE hk (by decide +kernel : decode cJ7_fill_53178 3 = .ok (.arraylength, 1)) ?_
  obtain ⟨x1, hx⟩ : ∃ z, z = (Int32.ofNat (Ln g p0)) := ⟨_, rfl⟩; replace h := h x1 hx; rw [← hx]
  refine j_istore_n hE (by decide +kernel : decode cJ7_fill_53178 4 = .ok (.istore_n 3, 1)) rfl (Nat.le_of_ble_eq_true rfl) rfl ?_
  exact hK5 _ _ _ _ _ h
set_option maxHeartbeats 4000000 in
set_option maxRecDepth 100000 in
theorem rl_Arrays_fill {Γ : GAM} {l : Launch} {p0 : Nat} {p1 : Int32} {g : GH} {K : GH → Prop} (I5 : Nat → Nat → Int32 → Int32 → Int32 → GH → Prop) (hh5 : ∀ n (l0 : Nat) (l1 : Int32) (l2 : Int32) (l3 : Int32) (g : GH), I5 n l0 l1 l2 l3 g → B_Arrays_fill_5 Γ (fun l0 l1 l2 l3 g => ∃ m, m < n ∧ I5 m l0 l1 l2 l3 g) K l0 l1 l2 l3 g) (h0 : B_Arrays_fill_0 Γ (fun l0 l1 l2 l3 g => ∃ m, I5 m l0 l1 l2 l3 g) K p0 p1 g) : MetA Γ l yJ7_fill_53178 cJ7_fill_53178 4 none 0 0 [.ref p0, .int p1] g (fun r g' => r = none ∧ K g') := by
  refine MetA.introL (Lx := [some (.ref p0), some (.int p1), none, none]) (by decide) (Nat.le_of_ble_eq_true rfl) rfl rfl ?_
  intro E hEl hE hnm
  have hall : ∀ n, (∀ (l0 : Nat) (l1 : Int32) (l2 : Int32) (l3 : Int32) (g : GH), I5 n l0 l1 l2 l3 g → JW Γ E 5 [some (.ref l0), some (.int l1), some (.int l2), some (.int l3)] [] g) := by
    intro n
    induction n using Nat.strongRecOn with
    | ind n ih =>
      exact fun l0 l1 l2 l3 g hi => S_Arrays_fill_5 hE (fun l0 l1 l2 l3 g hm => by obtain ⟨m, hm, h⟩ := hm; exact (ih m hm) l0 l1 l2 l3 g h) l0 l1 l2 l3 g (hh5 n l0 l1 l2 l3 g hi)
  exact S_Arrays_fill_0 hE (fun l0 l1 l2 l3 g hm => by obtain ⟨m, h⟩ := hm; exact (hall m) l0 l1 l2 l3 g h) p0 p1 g h0
theorem mt_Arrays_fill {Γ : GAM} {l : Launch} (p0 : Nat) (p1 : Int32) (g : GH) (K : GH → Prop) (h : Sp_Arrays_fill Γ p0 p1 g K) : MetA Γ l yJ7_fill_53178 cJ7_fill_53178 4 none 0 0 [.ref p0, .int p1] g (fun r g' => r = none ∧ K g') := by
  obtain ⟨hk, hl, hK⟩ := h
  refine rl_Arrays_fill (fun n l0 l1 l2 l3 g' => p0 = l0 ∧ p1 = l1 ∧ ∃ k, k ≤ Ln g p0 ∧ n = Ln g p0 - k ∧ l2 = nI k ∧ l3 = nI (Ln g p0) ∧ g' = sAf g (Co g p0) (Ow g p0) (fun i => if i < k then p1 else Ia g (Co g p0) (Ow g p0) i)) ?_ ?_
  · rintro n l0 l1 l2 l3 g' ⟨rfl, rfl, k, hk1, rfl, rfl, rfl, rfl⟩
    unfold B_Arrays_fill_5
    rw [nj_le (by omega) (by omega)]
    refine ⟨fun u => ?_, fun u => ⟨hk, inB_nI (by show k < Ln g p0; omega) hl, ?_⟩⟩
    · rw [show k = Ln g p0 by omega]; exact hK
    · rintro _ rfl
      refine ⟨Ln g p0 - (k + 1), by omega, rfl, rfl, k + 1, by omega, rfl, nj_s k, rfl, ?_⟩
      show sA (sAf g _ _ _) (Co g p0) (Ow g p0) _ p1 = _
      rw [nj_cl (by omega), sA_sAf]
      congr 1
      funext i
      by_cases e : i = k
      · subst e; rw [if_pos rfl, if_pos (by omega)]
      · rw [if_neg e]
        by_cases e2 : i < k
        · rw [if_pos e2, if_pos (by omega)]
        · rw [if_neg e2, if_neg (by omega)]
  · unfold B_Arrays_fill_0
    refine ⟨⟨by omega, by omega⟩, ?_⟩
    rintro _ rfl
    exact ⟨_, rfl, rfl, 0, Nat.zero_le _, rfl, nj_0, rfl, (sAf_id (by funext i; simp)).symm⟩
abbrev MvG (Γ : GAM) (l : Launch) (f lo n : Nat) : Prop := ∀ (th : Nat) (p0 p1 p2 p3 : Int32) (g : GH) (K : GH → Prop), SpG n Γ th p0 p1 p2 p3 g K → MetA Γ l yX8_goOn cX8_goOn 9 none f lo [.ref th, .int p0, .int p1, .int p2, .int p3] g (fun r g' => r = none ∧ K g')
theorem mv_all {Γ : GAM} {l : Launch} : ∀ n f lo, n + 3 ≤ f → 100 * n + 100 ≤ lo → MvG Γ l f lo n := by
  intro n
  induction n with
  | zero => exact fun f lo hf hlo => mv_goOn 0 (f' := 0) (l' := 0) (fun _ _ _ _ _ _ _ h => h.elim) f lo (by omega) (by omega) (by omega)
  | succ n ih => exact fun f lo hf hlo => mv_goOn (n + 1) (f' := n + 3) (l' := 100 * n + 100) (ih (n + 3) (100 * n + 100) (Nat.le_refl _) (Nat.le_refl _)) f lo (by omega) (by omega) (by omega)
def Sp_Vn_goOn (Γ : GAM) (m : Nat) (p0 p1 p2 p3 : Int32) (g : GH) (K : GH → Prop) : Prop := ∃ n, n ≤ 8 ∧ SpG n Γ m p0 p1 p2 p3 g K
theorem mt_Vn_goOn {Γ : GAM} {l : Launch} (th : Nat) (p0 p1 p2 p3 : Int32) (g : GH) (K : GH → Prop) (h : Sp_Vn_goOn Γ th p0 p1 p2 p3 g K) : MetA Γ l yX8_goOn cX8_goOn 9 none 12 1000 [.ref th, .int p0, .int p1, .int p2, .int p3] g (fun r g' => r = none ∧ K g') := by
  obtain ⟨n, hn, h⟩ := h
  exact mv_all n 12 1000 (by omega) (by omega) th p0 p1 p2 p3 g K h
/-- the round that is kept -/
def VD (m : Nat) (g : GH) (s : ST) (t : Nat) : Prop := Gi g 1161 m = vI (vBe s t) ∧ ∀ p, vBe s t = some p → p.1 ≤ 3000 ∧ ∀ i x, p.2[i]? = some x → Ia g 1157 m i = nI x
def VnI (m : Nat) (g : GH) (s : ST) : Prop := VnB m g s ∧ (Gi g 1162 m = -1 ∨ ∃ t, t ≤ 1440 ∧ Gi g 1162 m = nI t ∧ VD m g s t)
theorem VnB.y {m : Nat} {g g' : GH} {s : ST} (h : VnB m g s) (hx : FrX m [1161, 1162] [1155, 1156, 1157] g g') : VnB m g' s := by
  obtain ⟨a, b, c, d, e, f⟩ := h
  refine ⟨a.x hx, (hx.2.1 _ (by decide)).trans b, (hx.2.1 _ (by decide)).trans c, (hx.2.1 _ (by decide)).trans d, fun k x hk hs => ?_, fun k j h1 h2 h3 => ?_⟩
  · rw [hx.2.2 _ (by decide), hx.2.2 _ (by decide)]; exact e k x hk hs
  · rw [hx.2.2 _ (by decide)]; exact f k j h1 h2 h3
def Sp_Vn_plan (Γ : GAM) (m : Nat) (p0 : Int32) (g : GH) (K : GH → Prop) : Prop := ∃ s t, VnI m g s ∧ WF s ∧ p0 = nI t ∧ t ≤ 1440 ∧ ∀ g', FrX m [1161, 1162] [1155, 1156, 1157] g g' → VnI m g' s → VD m g' s t → K g'
-- the walk of Vn_plan
set_option maxRecDepth 100000 in
def B_Vn_plan_55 (Γ : GAM) (K : GH → Prop)  (g : GH) : Prop :=
  K g
set_option maxHeartbeats 4000000 in
set_option maxRecDepth 100000 in
theorem S_Vn_plan_55 {Γ : GAM} {E : EV} {K : GH → Prop} (hE : GE Γ E cX8_plan 2 RX8 none 13 1028 (fun r g' => r = none ∧ K g'))  (g : GH) (h : B_Vn_plan_55 Γ K  g) : JW Γ E 55 [none, none] [] g := by
  unfold B_Vn_plan_55 at h
  exact j_vret hE (by decide +kernel : decode cX8_plan 55 = .ok (.return_, 1)) ⟨rfl, h⟩
set_option maxRecDepth 100000 in
def B_Vn_plan_27 (Γ : GAM) (K : GH → Prop) (l0 : Nat) (l1 : Int32) (s0 : Int32) (s1 : Nat) (g : GH) : Prop :=
  Kd g s1 = 10 ∧ ∀ g1 : GH, g1 = sI g 1161 s1 s0 → Kd g1 l0 = 10 ∧ ∃ a2 : Nat, Gr g1 1155 l0 = some a2 ∧ Sp_Arrays_fill Γ a2 (1000000 : Int32) g1 (fun (g3 : GH) => Kd g3 l0 = 10 ∧ (((Gi g3 1159 l0) = 0 → B_Vn_plan_55 Γ K g3) ∧ (¬ ((Gi g3 1159 l0) = 0) → Sp_Vn_goOn Γ l0 (8 : Int32) l1 (0 : Int32) (0 : Int32) g3 (fun (g4 : GH) => B_Vn_plan_55 Γ K g4))))
set_option maxHeartbeats 4000000 in
set_option maxRecDepth 100000 in
theorem S_Vn_plan_27 {Γ : GAM} {E : EV} {K : GH → Prop} (hE : GE Γ E cX8_plan 2 RX8 none 13 1028 (fun r g' => r = none ∧ K g')) (l0 : Nat) (l1 : Int32) (s0 : Int32) (s1 : Nat) (g : GH) (h : B_Vn_plan_27 Γ K l0 l1 s0 s1 g) : JW Γ E 27 [some (.ref l0), some (.int l1)] [.int s0, .ref s1] g := by
  unfold B_Vn_plan_27 at h
  obtain ⟨hk, h⟩ := h
  obtain ⟨g1, hg⟩ : ∃ z, z = sI g 1161 s1 s0 := ⟨_, rfl⟩; replace h := h g1 hg
  refine j_putI hE fa_X8_34 hk (fun q => by cases q) (by decide +kernel : decode cX8_plan 27 = .ok (.putfield 34, 3)) ?_
  rw [← hg]
  refine j_aload_n hE (by decide +kernel : decode cX8_plan 30 = .ok (.aload_n 0, 1)) rfl rfl ?_
  obtain ⟨hk, h⟩ := h
  obtain ⟨a2, ha, h⟩ := h
  refine j_getRn hE fg_X8_21 hk ha (by decide +kernel : decode cX8_plan 31 = .ok (.getfield 21, 3)) ?_
  refine j_ldc hE ct_X8_60 (by decide +kernel : decode cX8_plan 34 = .ok (.ldc 60, 2)) ?_
  refine j_callS hE rfl cl_X8_40 st_J7_fill_53178 ⟨by omega, by omega⟩ (As := [.ref a2, .int (1000000 : Int32)]) (rest := []) rfl rfl (Nat.le_of_ble_eq_true rfl) (by decide +kernel : decode cX8_plan 36 = .ok (.invokestatic 40, 3)) (mt_Arrays_fill _ _ _ _ h) ?_
  rintro _ g3 ⟨rfl, h⟩
  refine j_aload_n hE (by decide +kernel : decode cX8_plan 39 = .ok (.aload_n 0, 1)) rfl rfl ?_
  obtain ⟨hk, h⟩ := h
  refine j_getI hE fg_X8_53 hk (by decide +kernel : decode cX8_plan 40 = .ok (.getfield 53, 3)) ?_
  refine j_if_eq hE (by decide +kernel : decode cX8_plan 43 = .ok (.ifCond .eq 12, 3)) (tgt := 55) (by decide) (fun q => ?_) (fun q => ?_)
  · replace h := h.1 q
    refine j_weak [none, none] trivial ?_
    exact S_Vn_plan_55 hE _ h
  · replace h := h.2 q
    refine j_aload_n hE (by decide +kernel : decode cX8_plan 46 = .ok (.aload_n 0, 1)) rfl rfl ?_
    refine j_bipush hE (by decide +kernel : decode cX8_plan 47 = .ok (.bipush 8, 2)) (v := (8 : Int32)) (by decide) ?_
    refine j_iload_n hE (by decide +kernel : decode cX8_plan 49 = .ok (.iload_n 1, 1)) rfl rfl ?_
    refine j_iconst hE (by decide +kernel : decode cX8_plan 50 = .ok (.iconst 0, 1)) (v := (0 : Int32)) (by decide) ?_
    refine j_iconst hE (by decide +kernel : decode cX8_plan 51 = .ok (.iconst 0, 1)) (v := (0 : Int32)) (by decide) ?_
    refine j_callS hE rfl cl_X8_61 st_X8_goOn ⟨by omega, by omega⟩ (As := [.ref l0, .int (8 : Int32), .int l1, .int (0 : Int32), .int (0 : Int32)]) (rest := []) rfl rfl (Nat.le_of_ble_eq_true rfl) (by decide +kernel : decode cX8_plan 52 = .ok (.invokestatic 61, 3)) (mt_Vn_goOn _ _ _ _ _ _ _ h) ?_
    rintro _ g4 ⟨rfl, h⟩
    refine j_weak [none, none] trivial ?_
    exact S_Vn_plan_55 hE _ h
set_option maxRecDepth 100000 in
def B_Vn_plan_0 (Γ : GAM) (K : GH → Prop) (th : Nat) (p0 : Int32) (g : GH) : Prop :=
  Kd g th = 10 ∧ ((¬ ((Gi g 1162 th) = p0) → Kd g th = 10 ∧ ∀ g1 : GH, g1 = sI g 1162 th p0 → Kd g1 th = 10 ∧ ((¬ ((Gi g1 1159 th) = 0) → B_Vn_plan_27 Γ K th p0 (-1 : Int32) th g1) ∧ ((Gi g1 1159 th) = 0 → B_Vn_plan_27 Γ K th p0 p0 th g1))) ∧ ((Gi g 1162 th) = p0 → K g))
set_option maxHeartbeats 4000000 in
set_option maxRecDepth 100000 in
theorem S_Vn_plan_0 {Γ : GAM} {E : EV} {K : GH → Prop} (hE : GE Γ E cX8_plan 2 RX8 none 13 1028 (fun r g' => r = none ∧ K g')) (th : Nat) (p0 : Int32) (g : GH) (h : B_Vn_plan_0 Γ K th p0 g) : JW Γ E 0 [some (.ref th), some (.int p0)] [] g := by
  unfold B_Vn_plan_0 at h
  refine j_aload_n hE (by decide +kernel : decode cX8_plan 0 = .ok (.aload_n 0, 1)) rfl rfl ?_
  obtain ⟨hk, h⟩ := h
  refine j_getI hE fg_X8_37 hk (by decide +kernel : decode cX8_plan 1 = .ok (.getfield 37, 3)) ?_
  refine j_iload_n hE (by decide +kernel : decode cX8_plan 4 = .ok (.iload_n 1, 1)) rfl rfl ?_
  refine j_icmp_ne hE (by decide +kernel : decode cX8_plan 5 = .ok (.if_icmp .ne 4, 3)) (tgt := 9) (by decide) (fun q => ?_) (fun q => ?_)
  · replace h := h.1 q
    refine j_aload_n hE (by decide +kernel : decode cX8_plan 9 = .ok (.aload_n 0, 1)) rfl rfl ?_
    refine j_iload_n hE (by decide +kernel : decode cX8_plan 10 = .ok (.iload_n 1, 1)) rfl rfl ?_
    obtain ⟨hk, h⟩ := h
    obtain ⟨g1, hg⟩ : ∃ z, z = sI g 1162 th p0 := ⟨_, rfl⟩; replace h := h g1 hg
    refine j_putI hE fa_X8_37 hk (fun q => by cases q) (by decide +kernel : decode cX8_plan 11 = .ok (.putfield 37, 3)) ?_
    rw [← hg]
    refine j_aload_n hE (by decide +kernel : decode cX8_plan 14 = .ok (.aload_n 0, 1)) rfl rfl ?_
    refine j_aload_n hE (by decide +kernel : decode cX8_plan 15 = .ok (.aload_n 0, 1)) rfl rfl ?_
    obtain ⟨hk, h⟩ := h
    refine j_getI hE fg_X8_53 hk (by decide +kernel : decode cX8_plan 16 = .ok (.getfield 53, 3)) ?_
    refine j_if_ne hE (by decide +kernel : decode cX8_plan 19 = .ok (.ifCond .ne 7, 3)) (tgt := 26) (by decide) (fun q => ?_) (fun q => ?_)
    · replace h := h.1 q
      refine j_iconst hE (by decide +kernel : decode cX8_plan 26 = .ok (.iconst (-1), 1)) (v := (-1 : Int32)) (by decide) ?_
      exact S_Vn_plan_27 hE _ _ _ _ _ h
    · replace h := h.2 q
      refine j_iload_n hE (by decide +kernel : decode cX8_plan 22 = .ok (.iload_n 1, 1)) rfl rfl ?_
      refine j_goto hE (by decide +kernel : decode cX8_plan 23 = .ok (.goto 4, 3)) (tgt := 27) (by decide) ?_
      exact S_Vn_plan_27 hE _ _ _ _ _ h
  · replace h := h.2 q
    exact j_vret hE (by decide +kernel : decode cX8_plan 8 = .ok (.return_, 1)) ⟨rfl, h⟩
set_option maxHeartbeats 4000000 in
set_option maxRecDepth 100000 in
theorem rl_Vn_plan {Γ : GAM} {l : Launch} {th : Nat} {p0 : Int32} {g : GH} {K : GH → Prop} (h0 : B_Vn_plan_0 Γ K th p0 g) : MetA Γ l yX8_plan cX8_plan 2 none 13 1028 [.ref th, .int p0] g (fun r g' => r = none ∧ K g') := by
  refine MetA.introL (Lx := [some (.ref th), some (.int p0)]) (by decide) (Nat.le_of_ble_eq_true rfl) rfl rfl ?_
  intro E hEl hE hnm
  exact S_Vn_plan_0 hE th p0 g h0
theorem mt_Vn_plan {Γ : GAM} {l : Launch} (th : Nat) (p0 : Int32) (g : GH) (K : GH → Prop) (h : Sp_Vn_plan Γ th p0 g K) : MetA Γ l yX8_plan cX8_plan 2 none 13 1028 [.ref th, .int p0] g (fun r g' => r = none ∧ K g') := by
  obtain ⟨s, t, ⟨hB, hC⟩, hw, rfl, ht, hK⟩ := h
  obtain ⟨⟨hkd, a1, a2, a3, a4, a5, a6, _, _, _, ⟨e1, e2, e3, e4, e5⟩, _⟩, f1, f2, f3, f4, f5⟩ := id hB
  have hv8 := vN_le s
  have hto : ∀ b, vTo s b < 1000000 := fun b => by
    by_cases h : vSt s b = true
    · obtain ⟨_, x, _, _, _, _, h4⟩ := v_bx hw h
      omega
    · unfold vTo
      have : s_box s b = none := by
        unfold vSt at h
        cases hb : s_box s b with
        | none => rfl
        | some x => rw [hb] at h; exact absurd rfl h
      rw [this]
      decide
  have h0 : (nI (mN (vA s)) = (0 : Int32)) ↔ vN s = 0 := by
    have hA : mN (vA s) < 256 := mN_lt (fun x hx => (vA_mem.mp hx).1)
    have hall := mN_all (s := s) (P := []) ⟨List.nodup_nil, fun x hx => by simp at hx⟩ (fun x hx => by simp at hx)
    rw [show (0 : Int32) = nI 0 from rfl, nj_eq (by omega) (by omega)]
    constructor
    · intro e; exact (hall.mp e.symm).symm
    · intro e; exact (hall.mpr e.symm).symm
  refine rl_Vn_plan ?_
  unfold B_Vn_plan_0
  refine ⟨hkd, fun u => ⟨hkd, ?_⟩, fun u => ?_⟩
  · rintro _ rfl
    have h27 : ∀ v, v = (if vN s = 0 then nI t else -1) → B_Vn_plan_27 Γ K th (nI t) v th (sI g 1162 th (nI t)) := fun v hv => by
      unfold B_Vn_plan_27 B_Vn_plan_55
      refine ⟨hkd, ?_⟩
      rintro _ rfl
      refine ⟨hkd, a4, e1, e2, by show Ln g a4 < _; rw [e5]; decide, ?_⟩
      rw [Co_sI, Co_sI, Ow_sI, Ow_sI, Ln_sI, Ln_sI, e3, e4, e5]
      have hx : FrX th [1161, 1162] [1155, 1156, 1157] g (sAf (sI (sI g 1162 th (nI t)) 1161 th v) 1155 th (fun i => if i < 2048 then 1000000 else Ia (sI (sI g 1162 th (nI t)) 1161 th v) 1155 th i)) := (FrX.sI (by decide)).tr ((FrX.sI (by decide)).tr (FrX.sAf' (by decide)))
      have hs : ∀ i, i < 2048 → Ia (sAf (sI (sI g 1162 th (nI t)) 1161 th v) 1155 th (fun i => if i < 2048 then 1000000 else Ia (sI (sI g 1162 th (nI t)) 1161 th v) 1155 th i)) 1155 th i = 1000000 := fun i hi => by
        rw [Ia_sAf, if_pos ⟨rfl, rfl⟩, if_pos hi]
      have hp : Gi (sAf (sI (sI g 1162 th (nI t)) 1161 th v) 1155 th (fun i => if i < 2048 then 1000000 else Ia (sI (sI g 1162 th (nI t)) 1161 th v) 1155 th i)) 1162 th = nI t := by
        rw [Gi_sAf, Gi_sI, if_neg (fun z => absurd z.1 (by decide)), Gi_sI, if_pos ⟨rfl, rfl⟩]
      have hh : Gi (sAf (sI (sI g 1162 th (nI t)) 1161 th v) 1155 th (fun i => if i < 2048 then 1000000 else Ia (sI (sI g 1162 th (nI t)) 1161 th v) 1155 th i)) 1161 th = v := by
        rw [Gi_sAf, Gi_sI, if_pos ⟨rfl, rfl⟩]
      obtain ⟨g3, hg3⟩ : ∃ q, sAf (sI (sI g 1162 th (nI t)) 1161 th v) 1155 th (fun i => if i < 2048 then 1000000 else Ia (sI (sI g 1162 th (nI t)) 1161 th v) 1155 th i) = q := ⟨_, rfl⟩
      rw [hg3] at hx hs hp hh ⊢
      have hB3 := hB.y hx
      refine ⟨hB3.1.1, ?_⟩
      rw [hB3.2.2.1, h0]
      refine ⟨fun e => ?_, fun e => ⟨vN s, hv8, s, [], 8, t, (fun _ _ => 1000000, none), hB3, hw, by simp, by omega, ⟨List.nodup_nil, fun x hx => by simp at hx⟩, fun x hx => by simp at hx, rfl, rfl, rfl, rfl, by omega, .inl ⟨rfl, rfl⟩, ⟨fun k c h1 h2 => ⟨hs _ (by omega), by simp⟩, ?_, fun p hp => by simp at hp, fun i x hx => by simp at hx⟩, fun g4 hx4 hG4 => ?_⟩⟩
      · have hD : VD th g3 s t := by
          unfold VD vBe
          rw [if_pos e]
          refine ⟨by rw [hh, hv, if_pos e]; rfl, fun p hp => ?_⟩
          cases hp
          exact ⟨by simp only; omega, fun i x hx => by simp at hx⟩
        exact hK g3 hx ⟨hB3, .inr ⟨t, ht, hp, hD⟩⟩ hD
      · rw [hh, hv, if_neg e]; rfl
      · have hq := vQ_eq hto (vN s) [] 8 t (fun _ _ => 1000000, none) (by simp) ⟨List.nodup_nil, fun x hx => by simp at hx⟩ (fun P b n _ _ _ _ h5 => by simp at h5)
        obtain ⟨_, w2, w3, _⟩ := hG4
        rw [hq.1] at w2 w3
        have hD : VD th g4 s t := by
          unfold VD vBe
          rw [if_neg e]
          exact ⟨w2, w3⟩
        refine hK g4 (hx.tr (hx4.up (by decide) (by decide))) ⟨hB3.x hx4, .inr ⟨t, ht, ?_, hD⟩⟩ hD
        exact (hx4.2.1 _ (by decide)).trans hp
    refine ⟨hkd, ?_⟩
    have e : Gi (sI g 1162 th (nI t)) 1159 th = nI (mN (vA s)) := by rw [Gi_sI, if_neg (fun z => absurd z.1 (by decide))]; exact f2
    rw [e, h0]
    exact ⟨fun z => h27 _ (by rw [if_neg z]), fun z => h27 _ (by rw [if_pos z])⟩
  · rcases hC with z | ⟨t', ht', z, hD⟩
    · rw [z] at u; exact absurd u.symm (nI_nm1 (by omega))
    · rw [z] at u
      have : t' = t := (nj_eq (by omega) (by omega)).mp u
      subst this
      exact hK g FrX.rf ⟨hB, .inr ⟨t', ht', z, hD⟩⟩ hD
