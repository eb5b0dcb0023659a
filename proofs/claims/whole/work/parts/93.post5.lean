/-! the class: its post counts doubles -/
theorem cH_c {F G : Nat → Int32} {v : Int32} (h : ∀ j, j < 6 → F (10 + j) = G (10 + j)) : cH F v = cH G v := by
  unfold cH
  have key : ∀ k, k ≤ 6 → ((List.range 6).take k).foldl (fun n h => if F (10 + h) = v then n + 1 else n) 0 = ((List.range 6).take k).foldl (fun n h => if G (10 + h) = v then n + 1 else n) 0 := by
    intro k
    induction k with
    | zero => intro _; rfl
    | succ k ih =>
      intro hk
      rw [fold_take _ _ _ (range_get (show k < 6 by omega)), fold_take _ _ _ (range_get (show k < 6 by omega)), ih (by omega), h k (by omega)]
  have := key 6 (Nat.le_refl _)
  rw [List.take_of_length_le (by simp)] at this
  exact this
theorem mtG_c {f f' : Nat → Int32} {h own : Int32} (hf : ∀ j, j < 6 → f j = f' j) : (List.range 6).foldl (mtG f h own) (0, 0, 0) = (List.range 6).foldl (mtG f' h own) (0, 0, 0) := by
  have key : ∀ k, k ≤ 6 → ((List.range 6).take k).foldl (mtG f h own) (0, 0, 0) = ((List.range 6).take k).foldl (mtG f' h own) (0, 0, 0) := by
    intro k
    induction k with
    | zero => intro _; rfl
    | succ k ih =>
      intro hk
      rw [fold_take _ _ _ (range_get (show k < 6 by omega)), fold_take _ _ _ (range_get (show k < 6 by omega)), ih (by omega)]
      unfold mtG
      rw [hf k (by omega)]
  have := key 6 (Nat.le_refl _)
  rw [List.take_of_length_le (by simp)] at this
  exact this
theorem db_eq {F f : Nat → Int32} {h w : Nat} (hF : ∀ j, j < 6 → F (10 + j) = f j) (hf : ∀ j, j < 6 → f j = -1 ∨ f j = 0 ∨ f j = 1) (hh : h < 6) (hw : w < 3) : dbO F (nI h) (nI w) = if f h = -1 then 0 else trC ((List.range 6).foldl (mtG f (nI h) (f h)) (0, 0, 0)) (nI w) := by
  obtain ⟨c, hc, e⟩ := wd_of hf
  have h1 := List.all_eq_true.mp (List.all_eq_true.mp (List.all_eq_true.mp db_all c (List.mem_range.mpr hc)) h (List.mem_range.mpr hh)) w (List.mem_range.mpr hw)
  have h2 : dbO (fun i => wdC c (i - 10)) (nI h) (nI w) = if wdC c h = -1 then 0 else trC ((List.range 6).foldl (mtG (wdC c) (nI h) (wdC c h)) (0, 0, 0)) (nI w) := of_decide_eq_true h1
  rw [e h hh, mtG_c (f' := wdC c) (fun j hj => e j hj), ← h2]
  have hG' : ∀ j, j < 6 → F (10 + j) = (fun i => wdC c (i - 10)) (10 + j) := fun j hj => by
    show _ = wdC c (10 + j - 10)
    rw [Nat.add_sub_cancel_left, hF j hj, e j hj]
  clear h1 h2
  generalize (fun i => wdC c (i - 10)) = G at hG'
  unfold dbO
  rw [nj_cl (by omega), hG' h hh, cH_c (F := F) (G := G) hG', cH_c (F := F) (G := G) hG']
theorem sWord_v (s : ST) (e h q : Int32) : sWord s e h q = -1 ∨ sWord s e h q = 0 ∨ sWord s e h q = 1 := by
  refine fold_inv (fun x : Int32 => x = -1 ∨ x = 0 ∨ x = 1) (woS e h q) (s_tel s) (-1) (.inl rfl) (fun a x hx ha => ?_)
  unfold woS
  split
  · split
    · exact .inr (.inl rfl)
    · exact .inr (.inr rfl)
  · exact ha
theorem trC_a {a b : Tr} {w : Int32} : trC (trA a b) w = trC a w + trC b w := by
  unfold trC trA
  split
  · rfl
  · split <;> rfl
theorem mtE_c {s : ST} {F : Nat → Int32} {h w : Nat} {st : Int32} {a : Tr} {y : Em} {e : Nat} (hF : ∀ j, j < 6 → F (10 + j) = sWord s (nI e) (nI j) (s_now s)) (hh : h < 6) (hw : w < 3) : trC (mtE s (nI h) st a (y, e)) (nI w) = if st = -1 ∨ (sVoter s y.1).2.1 = st then trC a (nI w) + dbO F (nI h) (nI w) else trC a (nI w) := by
  rw [db_eq (f := fun j => sWord s (nI e) (nI j) (s_now s)) hF (fun j _ => sWord_v _ _ _ _) hh hw]
  unfold mtE
  simp only
  by_cases h1 : st = -1 ∨ (sVoter s y.1).2.1 = st
  · by_cases h2 : sWord s (nI e) (nI h) (s_now s) = -1
    · rw [if_neg (fun z => z.2 h2), if_pos h1, if_pos h2, Int32.add_zero]
    · rw [if_pos ⟨h1, h2⟩, if_pos h1, if_neg h2]
      show trC ((List.range 6).foldl (mtG (fun j => sWord s (nI e) (nI j) (s_now s)) (nI h) (sWord s (nI e) (nI h) (s_now s))) a) _ = _
      rw [mtG_add, trC_a]
  · rw [if_neg (fun z => h1 z.1), if_neg h1]
def Sp_Po_doublesOf (Γ : GAM) (m : Nat) (h st what q : Int32) (g : GH) (K : Int32 → GH → Prop) : Prop := ∃ D s, d_p D = m ∧ PoI Γ D g s ∧ WF s ∧ q = s_now s ∧ (0 ≤ h ∧ h ≤ 5) ∧ (0 ≤ what ∧ what ≤ 2) ∧ ∀ g', FK Γ D g g' → K (trC (sMt s h st) what) g'
-- the walk of Po_doublesOf
set_option maxRecDepth 100000 in
def B_Po_doublesOf_68 (Γ : GAM) (K6 : Nat → Int32 → Int32 → Int32 → Int32 → Int32 → Int32 → GH → Prop) (K : Int32 → GH → Prop) (l0 : Nat) (l1 : Int32) (l2 : Int32) (l3 : Int32) (l4 : Int32) (l5 : Int32) (l6 : Int32) (g : GH) : Prop :=
  K6 l0 l1 l2 l3 l4 l5 (l6 + (1 : Int32)) g
set_option maxHeartbeats 4000000 in
set_option maxRecDepth 100000 in
theorem S_Po_doublesOf_68 {Γ : GAM} {E : EV} {K : Int32 → GH → Prop} (hE : GE Γ E cX4_doublesOf 8 RX4 (some (.int)) 4 87 (fun r g' => ∃ x, r = some (.int x) ∧ K x g')) {K6 : Nat → Int32 → Int32 → Int32 → Int32 → Int32 → Int32 → GH → Prop} (hK6 : ∀ (l0 : Nat) (l1 : Int32) (l2 : Int32) (l3 : Int32) (l4 : Int32) (l5 : Int32) (l6 : Int32) (g : GH), K6 l0 l1 l2 l3 l4 l5 l6 g → JW Γ E 6 [some (.ref l0), some (.int l1), some (.int l2), some (.int l3), some (.int l4), some (.int l5), some (.int l6), none] [] g) (l0 : Nat) (l1 : Int32) (l2 : Int32) (l3 : Int32) (l4 : Int32) (l5 : Int32) (l6 : Int32) (g : GH) (h : B_Po_doublesOf_68 Γ K6 K l0 l1 l2 l3 l4 l5 l6 g) : JW Γ E 68 [some (.ref l0), some (.int l1), some (.int l2), some (.int l3), some (.int l4), some (.int l5), some (.int l6), none] [] g := by
  unfold B_Po_doublesOf_68 at h
  refine j_iinc hE (by decide +kernel : decode cX4_doublesOf 68 = .ok (.iinc 6 1, 3)) (v := (1 : Int32)) (by decide) rfl (Nat.le_of_ble_eq_true rfl) rfl ?_
  refine j_goto hE (by decide +kernel : decode cX4_doublesOf 71 = .ok (.goto (-65), 3)) (tgt := 6) (by decide) ?_
  exact hK6 _ _ _ _ _ _ _ _ h
set_option maxRecDepth 100000 in
def B_Po_doublesOf_49 (Γ : GAM) (K6 : Nat → Int32 → Int32 → Int32 → Int32 → Int32 → Int32 → GH → Prop) (K : Int32 → GH → Prop) (l0 : Nat) (l1 : Int32) (l2 : Int32) (l3 : Int32) (l4 : Int32) (l5 : Int32) (l6 : Int32) (l7 : Nat) (g : GH) : Prop :=
  Kd g l7 = 2 ∧ Sp_En_learn Γ l7 l4 g (fun (g1 : GH) => Kd g1 l7 = 2 ∧ Sp_En_doublesOf Γ l7 l1 l3 g1 (fun (x3 : Int32) (g2 : GH) => ∀ x4 : Int32, x4 = (l5 + x3) → B_Po_doublesOf_68 Γ K6 K l0 l1 l2 l3 l4 x4 l6 g2))
set_option maxHeartbeats 4000000 in
set_option maxRecDepth 100000 in
theorem S_Po_doublesOf_49 {Γ : GAM} {E : EV} {K : Int32 → GH → Prop} (hE : GE Γ E cX4_doublesOf 8 RX4 (some (.int)) 4 87 (fun r g' => ∃ x, r = some (.int x) ∧ K x g')) {K6 : Nat → Int32 → Int32 → Int32 → Int32 → Int32 → Int32 → GH → Prop} (hK6 : ∀ (l0 : Nat) (l1 : Int32) (l2 : Int32) (l3 : Int32) (l4 : Int32) (l5 : Int32) (l6 : Int32) (g : GH), K6 l0 l1 l2 l3 l4 l5 l6 g → JW Γ E 6 [some (.ref l0), some (.int l1), some (.int l2), some (.int l3), some (.int l4), some (.int l5), some (.int l6), none] [] g) (l0 : Nat) (l1 : Int32) (l2 : Int32) (l3 : Int32) (l4 : Int32) (l5 : Int32) (l6 : Int32) (l7 : Nat) (g : GH) (h : B_Po_doublesOf_49 Γ K6 K l0 l1 l2 l3 l4 l5 l6 l7 g) : JW Γ E 49 [some (.ref l0), some (.int l1), some (.int l2), some (.int l3), some (.int l4), some (.int l5), some (.int l6), some (.ref l7)] [] g := by
  unfold B_Po_doublesOf_49 at h
  refine j_aload hE (by decide +kernel : decode cX4_doublesOf 49 = .ok (.aload 7, 2)) rfl ?_
  refine j_iload hE (by decide +kernel : decode cX4_doublesOf 51 = .ok (.iload 4, 2)) rfl ?_
  obtain ⟨hk, h⟩ := h
  refine j_callV hE rfl cl_X4_50 cf_1 im_X0_learn se_X0_learn ⟨by omega, by omega⟩ (As := [.int l4]) (rest := []) rfl rfl (Nat.le_of_ble_eq_true rfl) hk (by decide +kernel : decode cX4_doublesOf 53 = .ok (.invokevirtual 50, 3)) (mt_En_learn _ _ _ _ h) ?_
  rintro _ g1 ⟨rfl, h⟩
  refine j_iload hE (by decide +kernel : decode cX4_doublesOf 56 = .ok (.iload 5, 2)) rfl ?_
  refine j_aload hE (by decide +kernel : decode cX4_doublesOf 58 = .ok (.aload 7, 2)) rfl ?_
  refine j_iload_n hE (by decide +kernel : decode cX4_doublesOf 60 = .ok (.iload_n 1, 1)) rfl rfl ?_
  refine j_iload_n hE (by decide +kernel : decode cX4_doublesOf 61 = .ok (.iload_n 3, 1)) rfl rfl ?_
  obtain ⟨hk, h⟩ := h
  refine j_callV hE rfl cl_X4_142 cf_1 im_X0_doublesOf se_X0_doublesOf ⟨by omega, by omega⟩ (As := [.int l1, .int l3]) (rest := [.int l5]) rfl rfl (Nat.le_of_ble_eq_true rfl) hk (by decide +kernel : decode cX4_doublesOf 62 = .ok (.invokevirtual 142, 3)) (mt_En_doublesOf _ _ _ _ _ h) ?_
  rintro _ g2 ⟨x3, rfl, h⟩
  refine j_iadd hE (by decide +kernel : decode cX4_doublesOf 65 = .ok (.iadd, 1)) ?_
  obtain ⟨x4, hx⟩ : ∃ z, z = (l5 + x3) := ⟨_, rfl⟩; replace h := h x4 hx; rw [← hx]
  refine j_istore hE (by decide +kernel : decode cX4_doublesOf 66 = .ok (.istore 5, 2)) (Nat.le_of_ble_eq_true rfl) rfl ?_
  refine j_weak [some (.ref l0), some (.int l1), some (.int l2), some (.int l3), some (.int l4), some (.int x4), some (.int l6), none] ⟨rfl, ⟨rfl, ⟨rfl, ⟨rfl, ⟨rfl, ⟨rfl, ⟨rfl, trivial⟩⟩⟩⟩⟩⟩⟩ ?_
  exact S_Po_doublesOf_68 hE hK6 _ _ _ _ _ _ _ _ h
set_option maxRecDepth 100000 in
def B_Po_doublesOf_6 (Γ : GAM) (K6 : Nat → Int32 → Int32 → Int32 → Int32 → Int32 → Int32 → GH → Prop) (K : Int32 → GH → Prop) (l0 : Nat) (l1 : Int32) (l2 : Int32) (l3 : Int32) (l4 : Int32) (l5 : Int32) (l6 : Int32) (g : GH) : Prop :=
  Kd g l0 = 6 ∧ ∃ a1 : Nat, Gr g 641 l0 = some a1 ∧ Kd g a1 = 1 ∧ Sp_AL_size Γ a1 g (fun (x3 : Int32) (g2 : GH) => ((x3 ≤ l6 → K l5 g2) ∧ (¬ (x3 ≤ l6) → Kd g2 l0 = 6 ∧ ∃ a4 : Nat, Gr g2 641 l0 = some a4 ∧ Kd g2 a4 = 1 ∧ Sp_AL_get Γ a4 l6 g2 (fun (a6 : Nat) (g5 : GH) => Kd g5 a6 = 2 ∧ ((l2 = (-1 : Int32) → B_Po_doublesOf_49 Γ K6 K l0 l1 l2 l3 l4 l5 l6 a6 g5) ∧ (¬ (l2 = (-1 : Int32)) → Kd g5 a6 = 2 ∧ ∃ a7 : Nat, Gr g5 129 a6 = some a7 ∧ Kd g5 a7 = 11 ∧ ((¬ ((Gi g5 1281 a7) = l2) → B_Po_doublesOf_68 Γ K6 K l0 l1 l2 l3 l4 l5 l6 g5) ∧ ((Gi g5 1281 a7) = l2 → B_Po_doublesOf_49 Γ K6 K l0 l1 l2 l3 l4 l5 l6 a6 g5))))))))
set_option maxHeartbeats 4000000 in
set_option maxRecDepth 100000 in
theorem S_Po_doublesOf_6 {Γ : GAM} {E : EV} {K : Int32 → GH → Prop} (hE : GE Γ E cX4_doublesOf 8 RX4 (some (.int)) 4 87 (fun r g' => ∃ x, r = some (.int x) ∧ K x g')) {K6 : Nat → Int32 → Int32 → Int32 → Int32 → Int32 → Int32 → GH → Prop} (hK6 : ∀ (l0 : Nat) (l1 : Int32) (l2 : Int32) (l3 : Int32) (l4 : Int32) (l5 : Int32) (l6 : Int32) (g : GH), K6 l0 l1 l2 l3 l4 l5 l6 g → JW Γ E 6 [some (.ref l0), some (.int l1), some (.int l2), some (.int l3), some (.int l4), some (.int l5), some (.int l6), none] [] g) (l0 : Nat) (l1 : Int32) (l2 : Int32) (l3 : Int32) (l4 : Int32) (l5 : Int32) (l6 : Int32) (g : GH) (h : B_Po_doublesOf_6 Γ K6 K l0 l1 l2 l3 l4 l5 l6 g) : JW Γ E 6 [some (.ref l0), some (.int l1), some (.int l2), some (.int l3), some (.int l4), some (.int l5), some (.int l6), none] [] g := by
  unfold B_Po_doublesOf_6 at h
  refine j_iload hE (by decide +kernel : decode cX4_doublesOf 6 = .ok (.iload 6, 2)) rfl ?_
  refine j_aload_n hE (by decide +kernel : decode cX4_doublesOf 8 = .ok (.aload_n 0, 1)) rfl rfl ?_
  obtain ⟨hk, h⟩ := h
  obtain ⟨a1, ha, h⟩ := h
  refine j_getRn hE fg_X4_18 hk ha (by decide +kernel : decode cX4_doublesOf 9 = .ok (.getfield 18, 3)) ?_
  obtain ⟨hk, h⟩ := h
  refine j_callV hE rfl cl_X4_34 cf_0 im_Jx4a65c_size_8abf5 se_Jx4a65c_size_8abf5 ⟨by omega, by omega⟩ (As := []) (rest := [.int l6]) rfl rfl (Nat.le_of_ble_eq_true rfl) hk (by decide +kernel : decode cX4_doublesOf 12 = .ok (.invokevirtual 34, 3)) (mt_AL_size _ _ _ h) ?_
  rintro _ g2 ⟨x3, rfl, h⟩
  refine j_icmp_ge hE (by decide +kernel : decode cX4_doublesOf 15 = .ok (.if_icmp .ge 59, 3)) (tgt := 74) (by decide) (fun q => ?_) (fun q => ?_)
  · replace h := h.1 q
    refine j_iload hE (by decide +kernel : decode cX4_doublesOf 74 = .ok (.iload 5, 2)) rfl ?_
    exact j_iret hE (by decide +kernel : decode cX4_doublesOf 76 = .ok (.ireturn, 1)) ⟨_, rfl, h⟩
  · replace h := h.2 q
    refine j_aload_n hE (by decide +kernel : decode cX4_doublesOf 18 = .ok (.aload_n 0, 1)) rfl rfl ?_
    obtain ⟨hk, h⟩ := h
    obtain ⟨a4, ha, h⟩ := h
    refine j_getRn hE fg_X4_18 hk ha (by decide +kernel : decode cX4_doublesOf 19 = .ok (.getfield 18, 3)) ?_
    refine j_iload hE (by decide +kernel : decode cX4_doublesOf 22 = .ok (.iload 6, 2)) rfl ?_
    obtain ⟨hk, h⟩ := h
    refine j_callV hE rfl cl_X4_42 cf_0 im_Jx4a65c_get_915e3 se_Jx4a65c_get_915e3 ⟨by omega, by omega⟩ (As := [.int l6]) (rest := []) rfl rfl (Nat.le_of_ble_eq_true rfl) hk (by decide +kernel : decode cX4_doublesOf 24 = .ok (.invokevirtual 42, 3)) (mt_AL_get _ _ _ _ h) ?_
    rintro _ g5 ⟨a6, rfl, h⟩
    obtain ⟨hk, h⟩ := h
    refine j_cast hE cf_1 ck_X4_48 hk (by decide +kernel : decode cX4_doublesOf 27 = .ok (.checkcast 48, 3)) ?_
    refine j_astore hE (by decide +kernel : decode cX4_doublesOf 30 = .ok (.astore 7, 2)) (Nat.le_of_ble_eq_true rfl) rfl ?_
    refine j_iload_n hE (by decide +kernel : decode cX4_doublesOf 32 = .ok (.iload_n 2, 1)) rfl rfl ?_
    refine j_iconst hE (by decide +kernel : decode cX4_doublesOf 33 = .ok (.iconst (-1), 1)) (v := (-1 : Int32)) (by decide) ?_
    refine j_icmp_eq hE (by decide +kernel : decode cX4_doublesOf 34 = .ok (.if_icmp .eq 15, 3)) (tgt := 49) (by decide) (fun q => ?_) (fun q => ?_)
    · replace h := h.1 q
      exact S_Po_doublesOf_49 hE hK6 _ _ _ _ _ _ _ _ _ h
    · replace h := h.2 q
      refine j_aload hE (by decide +kernel : decode cX4_doublesOf 37 = .ok (.aload 7, 2)) rfl ?_
      obtain ⟨hk, h⟩ := h
      obtain ⟨a7, ha, h⟩ := h
      refine j_getRn hE fg_X4_135 hk ha (by decide +kernel : decode cX4_doublesOf 39 = .ok (.getfield 135, 3)) ?_
      obtain ⟨hk, h⟩ := h
      refine j_getI hE fg_X4_139 hk (by decide +kernel : decode cX4_doublesOf 42 = .ok (.getfield 139, 3)) ?_
      refine j_iload_n hE (by decide +kernel : decode cX4_doublesOf 45 = .ok (.iload_n 2, 1)) rfl rfl ?_
      refine j_icmp_ne hE (by decide +kernel : decode cX4_doublesOf 46 = .ok (.if_icmp .ne 22, 3)) (tgt := 68) (by decide) (fun q => ?_) (fun q => ?_)
      · replace h := h.1 q
        refine j_weak [some (.ref l0), some (.int l1), some (.int l2), some (.int l3), some (.int l4), some (.int l5), some (.int l6), none] ⟨rfl, ⟨rfl, ⟨rfl, ⟨rfl, ⟨rfl, ⟨rfl, ⟨rfl, trivial⟩⟩⟩⟩⟩⟩⟩ ?_
        exact S_Po_doublesOf_68 hE hK6 _ _ _ _ _ _ _ _ h
      · replace h := h.2 q
        exact S_Po_doublesOf_49 hE hK6 _ _ _ _ _ _ _ _ _ h
set_option maxRecDepth 100000 in
def B_Po_doublesOf_0 (Γ : GAM) (K6 : Nat → Int32 → Int32 → Int32 → Int32 → Int32 → Int32 → GH → Prop) (K : Int32 → GH → Prop) (th : Nat) (p0 : Int32) (p1 : Int32) (p2 : Int32) (p3 : Int32) (g : GH) : Prop :=
  K6 th p0 p1 p2 p3 (0 : Int32) (0 : Int32) g
set_option maxHeartbeats 4000000 in
set_option maxRecDepth 100000 in
theorem S_Po_doublesOf_0 {Γ : GAM} {E : EV} {K : Int32 → GH → Prop} (hE : GE Γ E cX4_doublesOf 8 RX4 (some (.int)) 4 87 (fun r g' => ∃ x, r = some (.int x) ∧ K x g')) {K6 : Nat → Int32 → Int32 → Int32 → Int32 → Int32 → Int32 → GH → Prop} (hK6 : ∀ (l0 : Nat) (l1 : Int32) (l2 : Int32) (l3 : Int32) (l4 : Int32) (l5 : Int32) (l6 : Int32) (g : GH), K6 l0 l1 l2 l3 l4 l5 l6 g → JW Γ E 6 [some (.ref l0), some (.int l1), some (.int l2), some (.int l3), some (.int l4), some (.int l5), some (.int l6), none] [] g) (th : Nat) (p0 : Int32) (p1 : Int32) (p2 : Int32) (p3 : Int32) (g : GH) (h : B_Po_doublesOf_0 Γ K6 K th p0 p1 p2 p3 g) : JW Γ E 0 [some (.ref th), some (.int p0), some (.int p1), some (.int p2), some (.int p3), none, none, none] [] g := by
  unfold B_Po_doublesOf_0 at h
  refine j_iconst hE (by decide +kernel : decode cX4_doublesOf 0 = .ok (.iconst 0, 1)) (v := (0 : Int32)) (by decide) ?_
  refine j_istore hE (by decide +kernel : decode cX4_doublesOf 1 = .ok (.istore 5, 2)) (Nat.le_of_ble_eq_true rfl) rfl ?_
  refine j_iconst hE (by decide +kernel : decode cX4_doublesOf 3 = .ok (.iconst 0, 1)) (v := (0 : Int32)) (by decide) ?_
  refine j_istore hE (by decide +kernel : decode cX4_doublesOf 4 = .ok (.istore 6, 2)) (Nat.le_of_ble_eq_true rfl) rfl ?_
  exact hK6 _ _ _ _ _ _ _ _ h
set_option maxHeartbeats 4000000 in
set_option maxRecDepth 100000 in
theorem rl_Po_doublesOf {Γ : GAM} {l : Launch} {th : Nat} {p0 : Int32} {p1 : Int32} {p2 : Int32} {p3 : Int32} {g : GH} {K : Int32 → GH → Prop} (I6 : Nat → Nat → Int32 → Int32 → Int32 → Int32 → Int32 → Int32 → GH → Prop) (hh6 : ∀ n (l0 : Nat) (l1 : Int32) (l2 : Int32) (l3 : Int32) (l4 : Int32) (l5 : Int32) (l6 : Int32) (g : GH), I6 n l0 l1 l2 l3 l4 l5 l6 g → B_Po_doublesOf_6 Γ (fun l0 l1 l2 l3 l4 l5 l6 g => ∃ m, m < n ∧ I6 m l0 l1 l2 l3 l4 l5 l6 g) K l0 l1 l2 l3 l4 l5 l6 g) (h0 : B_Po_doublesOf_0 Γ (fun l0 l1 l2 l3 l4 l5 l6 g => ∃ m, I6 m l0 l1 l2 l3 l4 l5 l6 g) K th p0 p1 p2 p3 g) : MetA Γ l yX4_doublesOf cX4_doublesOf 8 (some (.int)) 4 87 [.ref th, .int p0, .int p1, .int p2, .int p3] g (fun r g' => ∃ x, r = some (.int x) ∧ K x g') := by
  refine MetA.introL (Lx := [some (.ref th), some (.int p0), some (.int p1), some (.int p2), some (.int p3), none, none, none]) (by decide) (Nat.le_of_ble_eq_true rfl) rfl rfl ?_
  intro E hEl hE hnm
  have hall : ∀ n, (∀ (l0 : Nat) (l1 : Int32) (l2 : Int32) (l3 : Int32) (l4 : Int32) (l5 : Int32) (l6 : Int32) (g : GH), I6 n l0 l1 l2 l3 l4 l5 l6 g → JW Γ E 6 [some (.ref l0), some (.int l1), some (.int l2), some (.int l3), some (.int l4), some (.int l5), some (.int l6), none] [] g) := by
    intro n
    induction n using Nat.strongRecOn with
    | ind n ih =>
      exact fun l0 l1 l2 l3 l4 l5 l6 g hi => S_Po_doublesOf_6 hE (fun l0 l1 l2 l3 l4 l5 l6 g hm => by obtain ⟨m, hm, h⟩ := hm; exact (ih m hm) l0 l1 l2 l3 l4 l5 l6 g h) l0 l1 l2 l3 l4 l5 l6 g (hh6 n l0 l1 l2 l3 l4 l5 l6 g hi)
  exact S_Po_doublesOf_0 hE (fun l0 l1 l2 l3 l4 l5 l6 g hm => by obtain ⟨m, h⟩ := hm; exact (hall m) l0 l1 l2 l3 l4 l5 l6 g h) th p0 p1 p2 p3 g h0
theorem mt_Po_doublesOf {Γ : GAM} {l : Launch} (th : Nat) (p0 : Int32) (p1 : Int32) (p2 : Int32) (p3 : Int32) (g : GH) (K : Int32 → GH → Prop) (h : Sp_Po_doublesOf Γ th p0 p1 p2 p3 g K) : MetA Γ l yX4_doublesOf cX4_doublesOf 8 (some (.int)) 4 87 [.ref th, .int p0, .int p1, .int p2, .int p3] g (fun r g' => ∃ x, r = some (.int x) ∧ K x g') := by
  obtain ⟨D, s, rfl, hP, hW, rfl, hh, hwh, hK⟩ := h
  have hlen := hW.len
  obtain ⟨hn, rfl, hn6⟩ : ∃ n, p0 = nI n ∧ n < 6 := by
    have h1 := nj_of hh.1
    have h2 := hh.2
    rw [h1.1] at h2
    exact ⟨_, h1.1, by have := (nj_le (b := 5) h1.2 (by omega)).mp h2; omega⟩
  obtain ⟨wn, rfl, hw3⟩ : ∃ n, p2 = nI n ∧ n < 3 := by
    have h1 := nj_of hwh.1
    have h2 := hwh.2
    rw [h1.1] at h2
    exact ⟨_, h1.1, by have := (nj_le (b := 2) h1.2 (by omega)).mp h2; omega⟩
  refine rl_Po_doublesOf (fun n l0 l1 l2 l3 l4 l5 l6 g' => d_p D = l0 ∧ nI hn = l1 ∧ p1 = l2 ∧ nI wn = l3 ∧ s_now s = l4 ∧ ∃ k, k ≤ (s_env s).length ∧ n = (s_env s).length - k ∧ l6 = nI k ∧ FK Γ D g g' ∧ l5 = trC (sMtk s (nI hn) p1 k) (nI wn)) ?_ ⟨_, rfl, rfl, rfl, rfl, rfl, 0, Nat.zero_le _, rfl, nj_0, FK.rf hP.1.1, ?_⟩
  · rintro n l0 l1 l2 l3 l4 l5 l6 g' ⟨rfl, rfl, rfl, rfl, rfl, k, hk, rfl, rfl, hF, rfl⟩
    have hP' := hP.c hF.1
    obtain ⟨⟨z1, z2, z3, z4⟩, -⟩ := hP'.sz
    suffices H : ∀ K6 : Nat → Int32 → Int32 → Int32 → Int32 → Int32 → Int32 → GH → Prop, (∀ g2 y, (s_env s)[k]? = some y → FK Γ D g g2 → K6 (d_p D) (nI hn) p1 (nI wn) (s_now s) (trC (mtE s (nI hn) p1 (sMtk s (nI hn) p1 k) (y, k)) (nI wn)) (nI (k + 1)) g2) → B_Po_doublesOf_6 Γ K6 K (d_p D) (nI hn) p1 (nI wn) (s_now s) (trC (sMtk s (nI hn) p1 k) (nI wn)) (nI k) g' from
      H _ (fun g2 y hy h1 => ⟨(s_env s).length - (k + 1), by have := (List.getElem?_eq_some_iff.mp hy).1; omega, rfl, rfl, rfl, rfl, rfl, k + 1, (List.getElem?_eq_some_iff.mp hy).1, rfl, rfl, h1, by unfold sMtk; rw [fold_take _ _ _ (zip_get hy)]⟩)
    intro K6 hnx
    obtain ⟨A, hA⟩ : ∃ A, A = sMtk s (nI hn) p1 k := ⟨_, rfl⟩
    rw [← hA] at hnx ⊢
    unfold B_Po_doublesOf_6 B_Po_doublesOf_68
    refine ⟨z1, _, z2, z3, hP'.esz ?_⟩
    rw [nj_le (by omega) (by omega)]
    refine ⟨fun u => ?_, fun u => ⟨z1, _, z2, z3, hP'.eget (by omega) (fun x hx hE => ?_)⟩⟩
    · have hkl : k = (s_env s).length := by omega
      rw [hkl] at hA
      rw [show A = sMt s (nI hn) p1 from hA]
      exact hK g' hF
    · obtain ⟨y, w, L, y1, w1, hEO, hEL, -⟩ := hE
      obtain ⟨⟨hx1, hx2⟩, ⟨hw1, hw2, hw3'⟩, -, -, -, lo, ⟨l1, l2, l3⟩, hL⟩ := id hEO
      obtain ⟨z, Lv, zz1, hVO, -, -⟩ := hP'.2.2.2.1.2.2.1 _ w w1
      have hst : Gi g' 1281 w = (sVoter s y.1).2.1 := by
        rw [hVO.2.1.2.1]; unfold sVoter; rw [zz1]; rfl
      rw [nj_s]
      have h49 : (p1 = -1 ∨ (sVoter s y.1).2.1 = p1) → B_Po_doublesOf_49 Γ K6 K (d_p D) (nI hn) p1 (nI wn) (s_now s) (trC A (nI wn)) (nI k) x g' := fun hc => by
        unfold B_Po_doublesOf_49 B_Po_doublesOf_68
        refine ⟨hx2, lo, L, hEO.e2, l1, hL, fun g2 hx2' hv _ => ⟨by rw [hx2'.1.2.2.2.2.2.1]; exact hx2, hEO.e2.x hx2', ?_⟩⟩
        rintro _ rfl
        have hF2 := hF.tr (FK.x (Γ := Γ) (D := D) hx2' hP'.1.1 (by decide) (by decide) ⟨by decide, by decide⟩)
        have := hnx g2 y y1 hF2
        rw [mtE_c (F := Ia g2 136 x) (fun j hj => by
          have := congrArg Prod.snd (hv (10 + j) (by omega))
          exact this.trans ((hEL (s_now s)).2.2 j hj)) hn6 hw3, if_pos hc] at this
        rw [nj_s]
        exact this
      refine ⟨hx2, fun u1 => h49 (.inl u1), fun u1 => ⟨hx2, w, hw3', hw2, fun u2 => ?_, fun u2 => h49 (.inr (by rw [← hst]; exact u2))⟩⟩
      have := hnx g' y y1 hF
      rw [mtE_c (F := fun i => sWord s (nI k) (nI (i - 10)) (s_now s)) (fun j hj => by show sWord s (nI k) (nI (10 + j - 10)) (s_now s) = _; rw [Nat.add_sub_cancel_left]) hn6 hw3, if_neg (fun z => z.elim u1 (fun z => u2 (hst.trans z)))] at this
      exact this
  · unfold trC sMtk
    simp
