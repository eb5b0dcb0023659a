/-! the class's face: moves, booths, events, signs read, hands, emptyings -/
theorem VLG.mov {s : ST} {v v' : Nat} {sh p1 p2 t : Int32} {L : List Tl} (hv : v < 60) (hv' : v' < 60) (h : VLG s v' sh L) : VLG (u_mov s (s_mov s ++ [(nI v, p1, p2, t)])) v' sh (if v' = v then L ++ [(1, p2, p1, t)] else L) := by
  intro q
  obtain ⟨a, b⟩ := h q
  refine ⟨fun d => ?_, ?_⟩
  · show _ = (s_mov s ++ [(nI v, p1, p2, t)]).foldl (sShS (nI v') d q) (sh, -1)
    rw [List.foldl_append, ← a d, List.foldl_cons, List.foldl_nil]
    by_cases z : v' = v
    · rw [if_pos z, List.foldl_append, List.foldl_cons, List.foldl_nil]
      unfold lS sShS
      simp only [z, eq_self, true_and]
    · rw [if_neg z]
      unfold sShS
      rw [if_neg (fun w => z ((nj_eq (by omega) (by omega)).mp w.1).symm)]
  · show _ = sBooth s (nI v') q
    by_cases z : v' = v
    · rw [if_pos z, List.foldl_append, List.foldl_cons, List.foldl_nil, b]
      unfold lB
      rw [if_neg (fun w => absurd (show (1 : Int32) = 2 from w.1) (by decide))]
    · rw [if_neg z]; exact b
theorem VLG.boo {s : ST} {v v' : Nat} {sh p2 t : Int32} {L : List Tl} (hv : v < 60) (hv' : v' < 60) (h : VLG s v' sh L) : VLG (u_boo s (s_boo s ++ [(nI v, p2, t)])) v' sh (if v' = v then L ++ [(2, p2, 0, t)] else L) := by
  intro q
  obtain ⟨a, b⟩ := h q
  refine ⟨fun d => ?_, ?_⟩
  · show _ = (s_mov s).foldl (sShS (nI v') d q) (sh, -1)
    by_cases z : v' = v
    · rw [if_pos z, List.foldl_append, List.foldl_cons, List.foldl_nil, a d]
      unfold lS
      rw [if_neg (fun w => absurd (show (2 : Int32) = 1 from w.1) (by decide))]
    · rw [if_neg z]; exact a d
  · show _ = (s_boo s ++ [(nI v, p2, t)]).foldl (boS (nI v') q) (-1)
    have b' : L.foldl (lB q) (-1) = (s_boo s).foldl (boS (nI v') q) (-1) := b
    rw [List.foldl_append, ← b', List.foldl_cons, List.foldl_nil]
    by_cases z : v' = v
    · rw [if_pos z, List.foldl_append, List.foldl_cons, List.foldl_nil]
      unfold lB boS
      simp only [z, eq_self, true_and]
    · rw [if_neg z]
      unfold boS
      rw [if_neg (fun w => z ((nj_eq (by omega) (by omega)).mp w.1).symm)]
theorem sEv_push {s : ST} {e k q : Int32} {r : Ev} : sEv (u_evt s (s_evt s ++ [r])) e k q = evS e k q (sEv s e k q) (r, (s_evt s).length) := by
  show (s_evt s ++ [r]).zipIdx.foldl (evS e k q) none = _
  rw [List.zipIdx_append, List.foldl_append]
  show evS e k q _ (r, 0 + (s_evt s).length) = _
  rw [Nat.zero_add]; rfl
theorem n9_ne {k : Nat} {p : Int32} (hp : p ≤ 8) (hk : 8 < k) (hk2 : k < 100) : ¬ p = nI k := fun z => by
  rw [z] at hp
  have := (nj_le (b := 8) (by omega) (by omega)).mp hp
  omega
theorem ELG.evt {s : ST} {e e' : Nat} {p1 p2 p3 t : Int32} {L : List Tl} (he : e < 200) (he' : e' < 200) (hk : p1 ≤ 8) (h : ELG s e' L) : ELG (u_evt s (s_evt s ++ [(nI e, p1, p2, p3, t)])) e' (if e' = e then L ++ [(p1, p2, p3, t)] else L) := by
  intro q
  obtain ⟨a, b, c⟩ := h q
  have hout : ∀ k, 8 < k → k < 100 → (if e' = e then L ++ [(p1, p2, p3, t)] else L).foldl (lD q k) (-1, -1) = L.foldl (lD q k) (-1, -1) := fun k h1 h2 => by
    by_cases z : e' = e
    · rw [if_pos z, List.foldl_append, List.foldl_cons, List.foldl_nil]
      unfold lD
      rw [if_neg (fun w => n9_ne hk h1 h2 w.2)]
    · rw [if_neg z]
  refine ⟨fun k h1 h8 => ?_, ?_, fun h hh => ?_⟩
  · rw [sEv_push]
    by_cases z : e' = e
    · rw [if_pos z, List.foldl_append, List.foldl_cons, List.foldl_nil, a k h1 h8]
      unfold lD evS
      by_cases w : p1 = nI k ∧ t ≤ q
      · rw [if_pos ⟨w.2, w.1⟩, if_pos ⟨by rw [z], w.1, w.2⟩]; rfl
      · rw [if_neg (fun u => w ⟨u.2, u.1⟩), if_neg (fun u => w u.2)]
    · rw [if_neg z, a k h1 h8]
      unfold evS
      rw [if_neg (fun w => z ((nj_eq (by omega) (by omega)).mp w.1).symm)]
  · rw [hout 9 (by omega) (by omega)]; exact b
  · rw [hout (10 + h) (by omega) (by omega)]; exact c h hh
theorem ELG.rea {s : ST} {e e' : Nat} {p1 d t : Int32} {L : List Tl} (he : e < 200) (he' : e' < 200) (h : ELG s e' L) : ELG (u_rea s (s_rea s ++ [(nI e, p1, t)])) e' (if e' = e then L ++ [(9, d, p1, t)] else L) := by
  intro q
  obtain ⟨a, b, c⟩ := h q
  have hout : ∀ k, k ≠ 9 → k < 100 → (if e' = e then L ++ [(9, d, p1, t)] else L).foldl (lD q k) (-1, -1) = L.foldl (lD q k) (-1, -1) := fun k h1 h2 => by
    by_cases z : e' = e
    · rw [if_pos z, List.foldl_append, List.foldl_cons, List.foldl_nil]
      unfold lD
      rw [if_neg (fun w => h1 ((nj_eq (a := 9) (by omega) (by omega)).mp w.2).symm)]
    · rw [if_neg z]
  refine ⟨fun k h1 h8 => ?_, ?_, fun h hh => ?_⟩
  · rw [hout k (by omega) (by omega)]; exact a k h1 h8
  · show _ = (s_rea s ++ [(nI e, p1, t)]).foldl (unR (nI e') q) (-1)
    have b' : (L.foldl (lD q 9) (-1, -1)).2 = (s_rea s).foldl (unR (nI e') q) (-1) := b
    rw [List.foldl_append, ← b', List.foldl_cons, List.foldl_nil]
    by_cases z : e' = e
    · rw [if_pos z, List.foldl_append, List.foldl_cons, List.foldl_nil]
      unfold lD unR
      by_cases w : t ≤ q
      · rw [if_pos ⟨w, rfl⟩, if_pos ⟨by rw [z], w⟩]
      · rw [if_neg (fun u => w u.1), if_neg (fun u => w u.2)]
    · rw [if_neg z]
      unfold unR
      rw [if_neg (fun w => z ((nj_eq (by omega) (by omega)).mp w.1).symm)]
  · rw [hout (10 + h) (by omega) (by omega)]; exact c h hh
theorem ELG.tel {s : ST} {e e' h0 : Nat} {p2 v d t : Int32} {L : List Tl} (he : e < 200) (he' : e' < 200) (hh0 : h0 < 6) (hv : v = if p2 = 0 then 0 else 1) (h : ELG s e' L) : ELG (u_tel s (s_tel s ++ [(nI e, nI h0, t, p2)])) e' (if e' = e then L ++ [(nI (10 + h0), d, v, t)] else L) := by
  intro q
  obtain ⟨a, b, c⟩ := h q
  have hout : ∀ k, k ≠ 10 + h0 → k < 100 → (if e' = e then L ++ [(nI (10 + h0), d, v, t)] else L).foldl (lD q k) (-1, -1) = L.foldl (lD q k) (-1, -1) := fun k h1 h2 => by
    by_cases z : e' = e
    · rw [if_pos z, List.foldl_append, List.foldl_cons, List.foldl_nil]
      unfold lD
      rw [if_neg (fun w => h1 ((nj_eq (by omega) (by omega)).mp w.2).symm)]
    · rw [if_neg z]
  refine ⟨fun k h1 h8 => ?_, ?_, fun h hh => ?_⟩
  · rw [hout k (by omega) (by omega)]; exact a k h1 h8
  · rw [hout 9 (by omega) (by omega)]; exact b
  · show _ = (s_tel s ++ [(nI e, nI h0, t, p2)]).foldl (woS (nI e') (nI h) q) (-1)
    have c' : (L.foldl (lD q (10 + h)) (-1, -1)).2 = (s_tel s).foldl (woS (nI e') (nI h) q) (-1) := c h hh
    rw [List.foldl_append, ← c', List.foldl_cons, List.foldl_nil]
    by_cases z : e' = e
    · rw [if_pos z, List.foldl_append, List.foldl_cons, List.foldl_nil]
      unfold lD woS
      by_cases w : h = h0 ∧ t ≤ q
      · rw [if_pos ⟨w.2, by rw [w.1]⟩, if_pos ⟨by rw [z], by rw [w.1], w.2⟩]; exact hv
      · rw [if_neg (fun u => w ⟨by have := (nj_eq (by omega) (by omega)).mp u.2; omega, u.1⟩), if_neg (fun u => w ⟨((nj_eq (by omega) (by omega)).mp u.2.1).symm, u.2.2⟩)]
    · rw [if_neg z]
      unfold woS
      rw [if_neg (fun w => z ((nj_eq (by omega) (by omega)).mp w.1).symm)]
/-- a counter of the post, one more; then a row into a log: what stands of the class -/
theorem ClsI.log {Γ : GAM} {C : CDR} {g g1 g' : GH} {s s' : ST} {n lo f : Nat} {v : Int32} (h : ClsI Γ C g s) (hR : RM Γ C g s (n + 1)) (hf : f ∈ [645, 646, 647, 648, 649]) (h1 : g1 = sI g f (d_p (c_D C)) v) (k : Fr [] [] [lo] g1 g') (hlc : Co g lo = 1283 ∨ Co g lo = 133) (hh : Hn g' ≤ Hn g1 + 20 ∧ Hu g' ≤ Hu g1 + 6000) (hP : Fr [645, 646, 647, 648, 649] [] [lo] g g' → PoI Γ (c_D C) g' s') (e0 : CV C g s → CV C g s') (e1 : s_tap s' = s_tap s) (e2 : PrI (c_pr C) g s → PrI (c_pr C) g s') (e3 : VnI (c_vn C) g s → VnI (c_vn C) g s') (e4 : CH Γ C g s → CH Γ C g s') (hl : (s_evt s').length + (s_rea s').length + (s_tel s').length ≤ (s_evt s).length + (s_rea s).length + (s_tel s).length + 1) : FrC g g' ∧ ClsI Γ C g' s' ∧ RM Γ C g' s' n := by
  have he := h.en
  have k0 : Fr [645, 646, 647, 648, 649] [] [lo] g g1 := by rw [h1]; exact Fr.sI he (.inl hf)
  have k1 := k0.tr (k.up (fs' := [645, 646, 647, 648, 649]) (cs' := []) (als' := [lo]) (by simp) (by simp) (fun a ha => ha))
  obtain ⟨⟨⟨x1, x2⟩, -, ⟨l0, l1, l2, l3⟩, -⟩, a2, a3, a4, a5, a6, a7, a8⟩ := id h
  have hc := a7.2.1.2.2.2.2.1
  have n1 : c_hl C ∉ [lo] := fun z => by
    rw [List.mem_singleton] at z
    rw [← z, l2] at hlc
    rcases hlc with z | z <;> exact absurd z (by decide)
  have n2 : d_cl (c_D C) ∉ [lo] := fun z => by
    rw [List.mem_singleton] at z
    rw [← z, hc.2.1] at hlc
    rcases hlc with z | z <;> exact absurd z (by decide)
  have hC := a8.fr2 k1 n2 (by decide) (by decide)
  obtain ⟨cs, hcs, -⟩ := id a8
  have hphi : phi (c_D C) g' = phi (c_D C) g := by unfold phi; rw [cpA.fr hcs k1 n2]
  have hI : ClsI Γ (C.1, c_D C, C.2.2) g' s' := h.post k1 n1 (by decide) (by decide) rfl e0 e1 e2 e3 e4 (hP k1) hC
  have hn1 : Hn g1 = Hn g ∧ Hu g1 = Hu g := by rw [h1]; exact ⟨rfl, rfl⟩
  exact ⟨FrC.of k1 (by decide) (by simp), hI, hR.up (by rw [hphi]; exact Nat.le_refl _) (by omega) (by omega) hl⟩
def Sp_PV_move (Γ : GAM) (x : Nat) (p0 p1 p2 : Int32) (g : GH) (K : Int32 → GH → Prop) : Prop := PVC Γ x g K (fun s => p_move s p0 p1 p2) (fun s => q_move s p0 p1 p2)
-- the walk of PV_move
set_option maxRecDepth 100000 in
def B_PV_move_42 (Γ : GAM) (K : Int32 → GH → Prop)  (g : GH) : Prop :=
  K (0 : Int32) g
set_option maxHeartbeats 4000000 in
set_option maxRecDepth 100000 in
theorem S_PV_move_42 {Γ : GAM} {E : EV} {K : Int32 → GH → Prop} (hE : GE Γ E cX10_move 5 RX10 (some (.boolean)) 7 171 (fun r g' => ∃ x, r = some (.int x) ∧ K x g'))  (g : GH) (h : B_PV_move_42 Γ K  g) : JW Γ E 42 [none, none, none, none, none] [] g := by
  unfold B_PV_move_42 at h
  refine j_iconst hE (by decide +kernel : decode cX10_move 42 = .ok (.iconst 0, 1)) (v := (0 : Int32)) (by decide) ?_
  exact j_zret hE (Or.inl rfl) (by decide +kernel : decode cX10_move 43 = .ok (.ireturn, 1)) ⟨_, rfl, h⟩
set_option maxRecDepth 100000 in
def B_PV_move_0 (Γ : GAM) (K : Int32 → GH → Prop) (th : Nat) (p0 : Int32) (p1 : Int32) (p2 : Int32) (g : GH) : Prop :=
  Kd g th = 12 ∧ ∃ a1 : Nat, Gr g 1410 th = some a1 ∧ Kd g a1 = 6 ∧ Sp_Po_voterAt Γ a1 p0 g (fun (a3 : Option Nat) (g2 : GH) => ((a3 = none → B_PV_move_42 Γ K g2) ∧ (∀ a4 : Nat, a3 = some a4 → Sp_PV_isShire Γ p1 g2 (fun (x6 : Int32) (g5 : GH) => ((x6 = 0 → B_PV_move_42 Γ K g5) ∧ (¬ (x6 = 0) → Kd g5 th = 12 ∧ Sp_PV_isUpToNow Γ th p2 g5 (fun (x8 : Int32) (g7 : GH) => ((x8 = 0 → B_PV_move_42 Γ K g7) ∧ (¬ (x8 = 0) → Kd g7 th = 12 ∧ ∃ a9 : Nat, Gr g7 1410 th = some a9 ∧ Kd g7 a9 = 6 ∧ (((Gi g7 645 a9) < (60 : Int32) → Kd g7 th = 12 ∧ ∃ a10 : Nat, Gr g7 1410 th = some a10 ∧ Kd g7 a10 = 6 ∧ Kd g7 a10 = 6 ∧ ∀ g11 : GH, g11 = sI g7 645 a10 ((Gi g7 645 a10) + (1 : Int32)) → Kd g11 a4 = 11 ∧ ∃ a12 : Nat, Gr g11 1283 a4 = some a12 ∧ Hn g11 + 1 ≤ gB Γ + NCC ∧ Hu g11 + 4 ≤ NSS ∧ ∀ (a13 : Nat) (g14 : GH), a13 = Hn g11 → g14 = nO g11 8 4 → (∀ f, Gi g11 f (Hn g11) = 0) → (∀ f, Gr g11 f (Hn g11) = none) → (∀ c, free g11 c (Hn g11)) → (∀ a, Hn g11 ≤ a → Kd g11 a = 0) → Kd g14 th = 12 ∧ Sp_To_init Γ a13 (1 : Int32) p2 p1 (Gi g14 1408 th) g14 (fun (g15 : GH) => Kd g15 a12 = 1 ∧ Sp_AL_add_1 Γ a12 a13 g15 (fun (x17 : Int32) (g16 : GH) => K (1 : Int32) g16))) ∧ (¬ ((Gi g7 645 a9) < (60 : Int32)) → B_PV_move_42 Γ K g7)))))))))))
set_option maxHeartbeats 4000000 in
set_option maxRecDepth 100000 in
theorem S_PV_move_0 {Γ : GAM} {E : EV} {K : Int32 → GH → Prop} (hE : GE Γ E cX10_move 5 RX10 (some (.boolean)) 7 171 (fun r g' => ∃ x, r = some (.int x) ∧ K x g')) (th : Nat) (p0 : Int32) (p1 : Int32) (p2 : Int32) (g : GH) (h : B_PV_move_0 Γ K th p0 p1 p2 g) : JW Γ E 0 [some (.ref th), some (.int p0), some (.int p1), some (.int p2), none] [] g := by
  unfold B_PV_move_0 at h
  refine j_aload_n hE (by decide +kernel : decode cX10_move 0 = .ok (.aload_n 0, 1)) rfl rfl ?_
  obtain ⟨hk, h⟩ := h
  obtain ⟨a1, ha, h⟩ := h
  refine j_getRn hE fg_X10_16 hk ha (by decide +kernel : decode cX10_move 1 = .ok (.getfield 16, 3)) ?_
  refine j_iload_n hE (by decide +kernel : decode cX10_move 4 = .ok (.iload_n 1, 1)) rfl rfl ?_
  obtain ⟨hk, h⟩ := h
  refine j_callV hE rfl cl_X10_96 cf_5 im_X4_voterAt se_X4_voterAt ⟨by omega, by omega⟩ (As := [.int p0]) (rest := []) rfl rfl (Nat.le_of_ble_eq_true rfl) hk (by decide +kernel : decode cX10_move 5 = .ok (.invokevirtual 96, 3)) (mt_Po_voterAt _ _ _ _ h) ?_
  rintro _ g2 ⟨a3, rfl, h⟩
  refine j_astoreQ hE (by decide +kernel : decode cX10_move 8 = .ok (.astore 4, 2)) (Nat.le_of_ble_eq_true rfl) rfl ?_
  refine j_aloadQ hE (by decide +kernel : decode cX10_move 10 = .ok (.aload 4, 2)) rfl ?_
  refine j_ifnull hE (by decide +kernel : decode cX10_move 12 = .ok (.ifnull 30, 3)) (tgt := 42) (by decide) (fun q => ?_) (fun a4 q => ?_)
  · replace h := h.1 q; subst q
    refine j_weak [none, none, none, none, none] trivial ?_
    exact S_PV_move_42 hE _ h
  · replace h := h.2 a4 q; subst q
    refine j_iload_n hE (by decide +kernel : decode cX10_move 15 = .ok (.iload_n 2, 1)) rfl rfl ?_
    refine j_callS hE rfl cl_X10_71 st_X10_isShire ⟨by omega, by omega⟩ (As := [.int p1]) (rest := []) rfl rfl (Nat.le_of_ble_eq_true rfl) (by decide +kernel : decode cX10_move 16 = .ok (.invokestatic 71, 3)) (mt_PV_isShire _ _ _ h) ?_
    rintro _ g5 ⟨x6, rfl, h⟩
    refine j_if_eq hE (by decide +kernel : decode cX10_move 19 = .ok (.ifCond .eq 23, 3)) (tgt := 42) (by decide) (fun q => ?_) (fun q => ?_)
    · replace h := h.1 q
      refine j_weak [none, none, none, none, none] trivial ?_
      exact S_PV_move_42 hE _ h
    · replace h := h.2 q
      refine j_aload_n hE (by decide +kernel : decode cX10_move 22 = .ok (.aload_n 0, 1)) rfl rfl ?_
      refine j_iload_n hE (by decide +kernel : decode cX10_move 23 = .ok (.iload_n 3, 1)) rfl rfl ?_
      obtain ⟨hk, h⟩ := h
      refine j_callV hE rfl cl_X10_100 cf_11 im_X10_isUpToNow se_X10_isUpToNow ⟨by omega, by omega⟩ (As := [.int p2]) (rest := []) rfl rfl (Nat.le_of_ble_eq_true rfl) hk (by decide +kernel : decode cX10_move 24 = .ok (.invokevirtual 100, 3)) (mt_PV_isUpToNow _ _ _ _ h) ?_
      rintro _ g7 ⟨x8, rfl, h⟩
      refine j_if_eq hE (by decide +kernel : decode cX10_move 27 = .ok (.ifCond .eq 15, 3)) (tgt := 42) (by decide) (fun q => ?_) (fun q => ?_)
      · replace h := h.1 q
        refine j_weak [none, none, none, none, none] trivial ?_
        exact S_PV_move_42 hE _ h
      · replace h := h.2 q
        refine j_aload_n hE (by decide +kernel : decode cX10_move 30 = .ok (.aload_n 0, 1)) rfl rfl ?_
        obtain ⟨hk, h⟩ := h
        obtain ⟨a9, ha, h⟩ := h
        refine j_getRn hE fg_X10_16 hk ha (by decide +kernel : decode cX10_move 31 = .ok (.getfield 16, 3)) ?_
        obtain ⟨hk, h⟩ := h
        refine j_getI hE fg_X10_103 hk (by decide +kernel : decode cX10_move 34 = .ok (.getfield 103, 3)) ?_
        refine j_bipush hE (by decide +kernel : decode cX10_move 37 = .ok (.bipush 60, 2)) (v := (60 : Int32)) (by decide) ?_
        refine j_icmp_lt hE (by decide +kernel : decode cX10_move 39 = .ok (.if_icmp .lt 5, 3)) (tgt := 44) (by decide) (fun q => ?_) (fun q => ?_)
        · replace h := h.1 q
          refine j_aload_n hE (by decide +kernel : decode cX10_move 44 = .ok (.aload_n 0, 1)) rfl rfl ?_
          obtain ⟨hk, h⟩ := h
          obtain ⟨a10, ha, h⟩ := h
          refine j_getRn hE fg_X10_16 hk ha (by decide +kernel : decode cX10_move 45 = .ok (.getfield 16, 3)) ?_
          refine j_dup hE (by decide +kernel : decode cX10_move 48 = .ok (.dup, 1)) rfl ?_
          obtain ⟨hk, h⟩ := h
          refine j_getI hE fg_X10_103 hk (by decide +kernel : decode cX10_move 49 = .ok (.getfield 103, 3)) ?_
          refine j_iconst hE (by decide +kernel : decode cX10_move 52 = .ok (.iconst 1, 1)) (v := (1 : Int32)) (by decide) ?_
          refine j_iadd hE (by decide +kernel : decode cX10_move 53 = .ok (.iadd, 1)) ?_
          obtain ⟨hk, h⟩ := h
          obtain ⟨g11, hg⟩ : ∃ z, z = sI g7 645 a10 ((Gi g7 645 a10) + (1 : Int32)) := ⟨_, rfl⟩; replace h := h g11 hg
          refine j_putI hE fa_X10_103 hk (fun q => by cases q) (by decide +kernel : decode cX10_move 54 = .ok (.putfield 103, 3)) ?_
          rw [← hg]
          refine j_aload hE (by decide +kernel : decode cX10_move 57 = .ok (.aload 4, 2)) rfl ?_
          obtain ⟨hk, h⟩ := h
          obtain ⟨a12, ha, h⟩ := h
          refine j_getRn hE fg_X10_106 hk ha (by decide +kernel : decode cX10_move 59 = .ok (.getfield 106, 3)) ?_
          obtain ⟨hn1, hn2, h⟩ := h
          refine j_new hE cf_8 ck_X10_109 in_X7 (by decide +kernel : decode cX10_move 62 = .ok (.new 109, 3)) hn1 hn2 (fun f1 f2 f3 f4 => ?_)
          obtain ⟨a13, ha⟩ : ∃ z, z = Hn g11 := ⟨_, rfl⟩; obtain ⟨g14, hg⟩ : ∃ z, z = nO g11 8 4 := ⟨_, rfl⟩; replace h := h a13 g14 ha hg f1 f2 f3 f4; rw [← hg, ← ha]
          refine j_dup hE (by decide +kernel : decode cX10_move 65 = .ok (.dup, 1)) rfl ?_
          refine j_iconst hE (by decide +kernel : decode cX10_move 66 = .ok (.iconst 1, 1)) (v := (1 : Int32)) (by decide) ?_
          refine j_iload_n hE (by decide +kernel : decode cX10_move 67 = .ok (.iload_n 3, 1)) rfl rfl ?_
          refine j_iload_n hE (by decide +kernel : decode cX10_move 68 = .ok (.iload_n 2, 1)) rfl rfl ?_
          refine j_aload_n hE (by decide +kernel : decode cX10_move 69 = .ok (.aload_n 0, 1)) rfl rfl ?_
          obtain ⟨hk, h⟩ := h
          refine j_getI hE fg_X10_68 hk (by decide +kernel : decode cX10_move 70 = .ok (.getfield 68, 3)) ?_
          refine j_callI hE rfl cl_X10_111 im_X7_init rfl ⟨by omega, by omega⟩ (As := [.int (1 : Int32), .int p2, .int p1, .int (Gi g14 1408 th)]) (rest := [.ref a13, .ref a12]) (b := a13) rfl rfl (Nat.le_of_ble_eq_true rfl) (by decide +kernel : decode cX10_move 73 = .ok (.invokespecial 111, 3)) (mt_To_init _ _ _ _ _ _ _ h) ?_
          rintro _ g15 ⟨rfl, h⟩
          obtain ⟨hk, h⟩ := h
          refine j_callV hE rfl cl_X10_92 cf_0 im_Jx4a65c_add_9ea2d se_Jx4a65c_add_9ea2d ⟨by omega, by omega⟩ (As := [.ref a13]) (rest := []) rfl rfl (Nat.le_of_ble_eq_true rfl) hk (by decide +kernel : decode cX10_move 76 = .ok (.invokevirtual 92, 3)) (mt_AL_add_1 _ _ _ _ h) ?_
          rintro _ g16 ⟨x17, rfl, h⟩
          refine j_pop hE (by decide +kernel : decode cX10_move 79 = .ok (.pop, 1)) rfl ?_
          refine j_iconst hE (by decide +kernel : decode cX10_move 80 = .ok (.iconst 1, 1)) (v := (1 : Int32)) (by decide) ?_
          exact j_zret hE (Or.inr rfl) (by decide +kernel : decode cX10_move 81 = .ok (.ireturn, 1)) ⟨_, rfl, h⟩
        · replace h := h.2 q
          refine j_weak [none, none, none, none, none] trivial ?_
          exact S_PV_move_42 hE _ h
set_option maxHeartbeats 4000000 in
set_option maxRecDepth 100000 in
theorem rl_PV_move {Γ : GAM} {l : Launch} {th : Nat} {p0 : Int32} {p1 : Int32} {p2 : Int32} {g : GH} {K : Int32 → GH → Prop} (h0 : B_PV_move_0 Γ K th p0 p1 p2 g) : MetA Γ l yX10_move cX10_move 5 (some (.boolean)) 7 171 [.ref th, .int p0, .int p1, .int p2] g (fun r g' => ∃ x, r = some (.int x) ∧ K x g') := by
  refine MetA.introL (Lx := [some (.ref th), some (.int p0), some (.int p1), some (.int p2), none]) (by decide) (Nat.le_of_ble_eq_true rfl) rfl rfl ?_
  intro E hEl hE hnm
  exact S_PV_move_0 hE th p0 p1 p2 g h0
theorem mt_PV_move {Γ : GAM} {l : Launch} (th : Nat) (p0 : Int32) (p1 : Int32) (p2 : Int32) (g : GH) (K : Int32 → GH → Prop) (h : Sp_PV_move Γ th p0 p1 p2 g K) : MetA Γ l yX10_move cX10_move 5 (some (.boolean)) 7 171 [.ref th, .int p0, .int p1, .int p2] g (fun r g' => ∃ x, r = some (.int x) ∧ K x g') := by
  obtain ⟨C, s, n, rfl, hI, hW, hR, hK⟩ := PVC.e h
  have he := hI.en
  obtain ⟨hkd, ⟨h1, h2⟩, -, -, -, -, hnow, hsiz⟩ := hI.pk
  have hP := hI.2.2.2.2.2.2.1
  have hlen := hW.len
  obtain ⟨m1, m2, m3, m4, m5⟩ := hP.2.2.1
  unfold p_move q_move at hK
  refine rl_PV_move ?_
  have hno : ¬ ok_move s p0 p1 p2 → K 0 g := fun u => hK C g _ _ (if_neg u) (if_neg u) (FrC.rf he) rfl hI hR.dn
  unfold B_PV_move_0 B_PV_move_42
  refine ⟨hkd, _, h1, h2, c_D C, s, rfl, hP, hlen.1, fun u => ⟨fun _ => hno (fun z => u z.2.1), fun a z => by cases z⟩, fun v x hv hvl hx hkx => ⟨fun z => (by cases z), fun a ha => ?_⟩⟩
  cases ha
  have hin : 0 ≤ p0 ∧ p0 ≤ nI (s_vot s).length - 1 := (wn_c (by omega)).mpr ⟨v, hv, hvl⟩
  refine pv_ite (fun u => hno (fun z => u z.2.2.1)) (fun u => ⟨hkd, hkd, ?_⟩)
  rw [hnow]
  refine pv_ite (fun u2 => hno (fun z => u2 z.2.2.2)) (fun u2 => ⟨hkd, _, h1, h2, ?_⟩)
  rw [m1, show ((60 : Int32) = nI 60) from rfl, nj_lt (by omega) (by omega)]
  refine ⟨fun u3 => ⟨hkd, _, h1, h2, h2, ?_⟩, fun u3 => hno (fun z => u3 (by have := z.1; omega))⟩
  have ok : ok_move s p0 p1 p2 := ⟨by omega, hin, u, u2⟩
  rintro g1 hg1
  obtain ⟨yv, Lv, r1, r2, r3, r4⟩ := hP.2.2.2.1.2.2.1 v x hx
  obtain ⟨⟨x1, x2⟩, -, lo, eo, ⟨l1, l2, l3⟩, -, hLo, -⟩ := id r2
  have f1 : FrX (d_p (c_D C)) [645] [] g g1 := by rw [hg1]; exact FrX.sI (by decide)
  have k1 := f1.fr (als := []) he
  have e1 : Kd g1 = Kd g ∧ Gr g1 = Gr g ∧ Hn g1 = Hn g ∧ Hu g1 = Hu g := by rw [hg1]; exact ⟨rfl, rfl, rfl, rfl⟩
  have hR' := hR
  obtain ⟨q1, q2, q3⟩ := hR'
  refine ⟨by rw [e1.1]; exact hkx, lo, by rw [e1.2.1]; exact l1, by omega, by omega, ?_⟩
  rintro _ _ rfl rfl z1 z2 z3 z4
  have hnw : Gi (nO g1 8 4) 1408 (c_x C) = s_now s := by
    show Gi g1 1408 (c_x C) = _
    rw [hg1, Gi_sI, if_neg (fun z => absurd z.1 (by decide))]; exact hnow
  have hk12 : Kd (nO g1 8 4) (c_x C) = 12 := by rw [Kd_nO, if_neg (by have := hI.1.1.1; omega), e1.1]; exact hkd
  have hend : ∀ vl, vl = p1 → ∀ g', Fr [] [] [lo] g1 g' → (∀ L, LOG Γ g1 lo L → LOG Γ g' lo (L ++ [(1, p2, vl, s_now s)])) → (Hn g' ≤ Hn g1 + 20 ∧ Hu g' ≤ Hu g1 + 6000) → K 1 g' := fun vl hvl' g' hf hL' hh => by
    have hpc : ∀ c, Gi g' c (d_p (c_D C)) = Gi g1 c (d_p (c_D C)) ∨ c < 128 := fun c => by
      by_cases hc : 128 ≤ c
      · exact .inl (hf.gi (by rw [e1.2.2.1]; exact hP.2.1.1.1) (by simp) hc)
      · exact .inr (by omega)
    obtain ⟨hF, hI', hRM'⟩ := hI.log (s' := u_mov s (s_mov s ++ [(p0, p1, p2, s_now s)])) hR (f := 645) (by decide) hg1 hf (.inl l2) hh (fun kk => by
      refine hP.logV (y := (1, p2, vl, s_now s)) hx l1 kk ⟨by decide, by decide⟩ (by decide) ⟨?_, ?_, ?_, ?_, ?_⟩ (fun L hl hL => ?_) rfl rfl rfl rfl (fun e L z => z) rfl (fun e => rfl) (fun v' sh L hv' z => ?_) ?_
      · rw [(hpc _).resolve_right (by decide), hg1, Gi_sI, if_pos ⟨rfl, rfl⟩, m1, nj_s]
        show _ = nI (s_mov s ++ _).length
        rw [List.length_append]; rfl
      · rw [(hpc _).resolve_right (by decide), hg1, Gi_sI, if_neg (fun z => absurd z.1 (by decide))]; exact m2
      · rw [(hpc _).resolve_right (by decide), hg1, Gi_sI, if_neg (fun z => absurd z.1 (by decide))]; exact m3
      · rw [(hpc _).resolve_right (by decide), hg1, Gi_sI, if_neg (fun z => absurd z.1 (by decide))]; exact m4
      · rw [(hpc _).resolve_right (by decide), hg1, Gi_sI, if_neg (fun z => absurd z.1 (by decide))]; exact m5
      · exact hL' L (hL.fr k1 ⟨by decide, by decide⟩ (by simp))
      · rw [hvl', hv]
        exact z.mov (by omega) (by rw [hP.2.2.2.1.2.1] at hv'; omega)
      · show (s_mov s ++ _).length + (s_boo s).length = _
        rw [List.length_append]; simp only [List.length_cons, List.length_nil]; omega) (fun z => z) rfl (fun z => z) (fun z => z.cg rfl rfl rfl) (fun z => z) (by show (s_evt s).length + (s_rea s).length + (s_tel s).length ≤ _; omega)
    exact hK C _ _ _ (if_pos ok) (if_pos ok) hF rfl hI' hRM'
  refine ⟨hk12, ?_⟩
  rw [hnw]
  exact told_push (k1.en he) (hP.1.2.2.fr k1) (k1.nt hP.1.2.1) ⟨by omega, by omega⟩ (hLo.fr k1 ⟨by decide, by decide⟩ (by simp)) (by omega) rfl (hend p1 rfl)
def Sp_PV_booth (Γ : GAM) (x : Nat) (p0 p1 : Int32) (g : GH) (K : Int32 → GH → Prop) : Prop := PVC Γ x g K (fun s => p_booth s p0 p1) (fun s => q_booth s p0 p1)
-- the walk of PV_booth
set_option maxRecDepth 100000 in
def B_PV_booth_33 (Γ : GAM) (K : Int32 → GH → Prop)  (g : GH) : Prop :=
  K (0 : Int32) g
set_option maxHeartbeats 4000000 in
set_option maxRecDepth 100000 in
theorem S_PV_booth_33 {Γ : GAM} {E : EV} {K : Int32 → GH → Prop} (hE : GE Γ E cX10_booth 4 RX10 (some (.boolean)) 7 171 (fun r g' => ∃ x, r = some (.int x) ∧ K x g'))  (g : GH) (h : B_PV_booth_33 Γ K  g) : JW Γ E 33 [none, none, none, none] [] g := by
  unfold B_PV_booth_33 at h
  refine j_iconst hE (by decide +kernel : decode cX10_booth 33 = .ok (.iconst 0, 1)) (v := (0 : Int32)) (by decide) ?_
  exact j_zret hE (Or.inl rfl) (by decide +kernel : decode cX10_booth 34 = .ok (.ireturn, 1)) ⟨_, rfl, h⟩
set_option maxRecDepth 100000 in
def B_PV_booth_0 (Γ : GAM) (K : Int32 → GH → Prop) (th : Nat) (p0 : Int32) (p1 : Int32) (g : GH) : Prop :=
  Kd g th = 12 ∧ ∃ a1 : Nat, Gr g 1410 th = some a1 ∧ Kd g a1 = 6 ∧ Sp_Po_voterAt Γ a1 p0 g (fun (a3 : Option Nat) (g2 : GH) => ((a3 = none → B_PV_booth_33 Γ K g2) ∧ (∀ a4 : Nat, a3 = some a4 → Kd g2 th = 12 ∧ Sp_PV_isUpToNow Γ th p1 g2 (fun (x6 : Int32) (g5 : GH) => ((x6 = 0 → B_PV_booth_33 Γ K g5) ∧ (¬ (x6 = 0) → Kd g5 th = 12 ∧ ∃ a7 : Nat, Gr g5 1410 th = some a7 ∧ Kd g5 a7 = 6 ∧ (((Gi g5 649 a7) < (100 : Int32) → Kd g5 th = 12 ∧ ∃ a8 : Nat, Gr g5 1410 th = some a8 ∧ Kd g5 a8 = 6 ∧ Kd g5 a8 = 6 ∧ ∀ g9 : GH, g9 = sI g5 649 a8 ((Gi g5 649 a8) + (1 : Int32)) → Kd g9 a4 = 11 ∧ ∃ a10 : Nat, Gr g9 1283 a4 = some a10 ∧ Hn g9 + 1 ≤ gB Γ + NCC ∧ Hu g9 + 4 ≤ NSS ∧ ∀ (a11 : Nat) (g12 : GH), a11 = Hn g9 → g12 = nO g9 8 4 → (∀ f, Gi g9 f (Hn g9) = 0) → (∀ f, Gr g9 f (Hn g9) = none) → (∀ c, free g9 c (Hn g9)) → (∀ a, Hn g9 ≤ a → Kd g9 a = 0) → Kd g12 th = 12 ∧ Sp_To_init Γ a11 (2 : Int32) p1 (0 : Int32) (Gi g12 1408 th) g12 (fun (g13 : GH) => Kd g13 a10 = 1 ∧ Sp_AL_add_1 Γ a10 a11 g13 (fun (x15 : Int32) (g14 : GH) => K (1 : Int32) g14))) ∧ (¬ ((Gi g5 649 a7) < (100 : Int32)) → B_PV_booth_33 Γ K g5))))))))
set_option maxHeartbeats 4000000 in
set_option maxRecDepth 100000 in
theorem S_PV_booth_0 {Γ : GAM} {E : EV} {K : Int32 → GH → Prop} (hE : GE Γ E cX10_booth 4 RX10 (some (.boolean)) 7 171 (fun r g' => ∃ x, r = some (.int x) ∧ K x g')) (th : Nat) (p0 : Int32) (p1 : Int32) (g : GH) (h : B_PV_booth_0 Γ K th p0 p1 g) : JW Γ E 0 [some (.ref th), some (.int p0), some (.int p1), none] [] g := by
  unfold B_PV_booth_0 at h
  refine j_aload_n hE (by decide +kernel : decode cX10_booth 0 = .ok (.aload_n 0, 1)) rfl rfl ?_
  obtain ⟨hk, h⟩ := h
  obtain ⟨a1, ha, h⟩ := h
  refine j_getRn hE fg_X10_16 hk ha (by decide +kernel : decode cX10_booth 1 = .ok (.getfield 16, 3)) ?_
  refine j_iload_n hE (by decide +kernel : decode cX10_booth 4 = .ok (.iload_n 1, 1)) rfl rfl ?_
  obtain ⟨hk, h⟩ := h
  refine j_callV hE rfl cl_X10_96 cf_5 im_X4_voterAt se_X4_voterAt ⟨by omega, by omega⟩ (As := [.int p0]) (rest := []) rfl rfl (Nat.le_of_ble_eq_true rfl) hk (by decide +kernel : decode cX10_booth 5 = .ok (.invokevirtual 96, 3)) (mt_Po_voterAt _ _ _ _ h) ?_
  rintro _ g2 ⟨a3, rfl, h⟩
  refine j_astore_nQ hE (by decide +kernel : decode cX10_booth 8 = .ok (.astore_n 3, 1)) rfl (Nat.le_of_ble_eq_true rfl) rfl ?_
  refine j_aload_nQ hE (by decide +kernel : decode cX10_booth 9 = .ok (.aload_n 3, 1)) rfl rfl ?_
  refine j_ifnull hE (by decide +kernel : decode cX10_booth 10 = .ok (.ifnull 23, 3)) (tgt := 33) (by decide) (fun q => ?_) (fun a4 q => ?_)
  · replace h := h.1 q; subst q
    refine j_weak [none, none, none, none] trivial ?_
    exact S_PV_booth_33 hE _ h
  · replace h := h.2 a4 q; subst q
    refine j_aload_n hE (by decide +kernel : decode cX10_booth 13 = .ok (.aload_n 0, 1)) rfl rfl ?_
    refine j_iload_n hE (by decide +kernel : decode cX10_booth 14 = .ok (.iload_n 2, 1)) rfl rfl ?_
    obtain ⟨hk, h⟩ := h
    refine j_callV hE rfl cl_X10_100 cf_11 im_X10_isUpToNow se_X10_isUpToNow ⟨by omega, by omega⟩ (As := [.int p1]) (rest := []) rfl rfl (Nat.le_of_ble_eq_true rfl) hk (by decide +kernel : decode cX10_booth 15 = .ok (.invokevirtual 100, 3)) (mt_PV_isUpToNow _ _ _ _ h) ?_
    rintro _ g5 ⟨x6, rfl, h⟩
    refine j_if_eq hE (by decide +kernel : decode cX10_booth 18 = .ok (.ifCond .eq 15, 3)) (tgt := 33) (by decide) (fun q => ?_) (fun q => ?_)
    · replace h := h.1 q
      refine j_weak [none, none, none, none] trivial ?_
      exact S_PV_booth_33 hE _ h
    · replace h := h.2 q
      refine j_aload_n hE (by decide +kernel : decode cX10_booth 21 = .ok (.aload_n 0, 1)) rfl rfl ?_
      obtain ⟨hk, h⟩ := h
      obtain ⟨a7, ha, h⟩ := h
      refine j_getRn hE fg_X10_16 hk ha (by decide +kernel : decode cX10_booth 22 = .ok (.getfield 16, 3)) ?_
      obtain ⟨hk, h⟩ := h
      refine j_getI hE fg_X10_169 hk (by decide +kernel : decode cX10_booth 25 = .ok (.getfield 169, 3)) ?_
      refine j_bipush hE (by decide +kernel : decode cX10_booth 28 = .ok (.bipush 100, 2)) (v := (100 : Int32)) (by decide) ?_
      refine j_icmp_lt hE (by decide +kernel : decode cX10_booth 30 = .ok (.if_icmp .lt 5, 3)) (tgt := 35) (by decide) (fun q => ?_) (fun q => ?_)
      · replace h := h.1 q
        refine j_aload_n hE (by decide +kernel : decode cX10_booth 35 = .ok (.aload_n 0, 1)) rfl rfl ?_
        obtain ⟨hk, h⟩ := h
        obtain ⟨a8, ha, h⟩ := h
        refine j_getRn hE fg_X10_16 hk ha (by decide +kernel : decode cX10_booth 36 = .ok (.getfield 16, 3)) ?_
        refine j_dup hE (by decide +kernel : decode cX10_booth 39 = .ok (.dup, 1)) rfl ?_
        obtain ⟨hk, h⟩ := h
        refine j_getI hE fg_X10_169 hk (by decide +kernel : decode cX10_booth 40 = .ok (.getfield 169, 3)) ?_
        refine j_iconst hE (by decide +kernel : decode cX10_booth 43 = .ok (.iconst 1, 1)) (v := (1 : Int32)) (by decide) ?_
        refine j_iadd hE (by decide +kernel : decode cX10_booth 44 = .ok (.iadd, 1)) ?_
        obtain ⟨hk, h⟩ := h
        obtain ⟨g9, hg⟩ : ∃ z, z = sI g5 649 a8 ((Gi g5 649 a8) + (1 : Int32)) := ⟨_, rfl⟩; replace h := h g9 hg
        refine j_putI hE fa_X10_169 hk (fun q => by cases q) (by decide +kernel : decode cX10_booth 45 = .ok (.putfield 169, 3)) ?_
        rw [← hg]
        refine j_aload_n hE (by decide +kernel : decode cX10_booth 48 = .ok (.aload_n 3, 1)) rfl rfl ?_
        obtain ⟨hk, h⟩ := h
        obtain ⟨a10, ha, h⟩ := h
        refine j_getRn hE fg_X10_106 hk ha (by decide +kernel : decode cX10_booth 49 = .ok (.getfield 106, 3)) ?_
        obtain ⟨hn1, hn2, h⟩ := h
        refine j_new hE cf_8 ck_X10_109 in_X7 (by decide +kernel : decode cX10_booth 52 = .ok (.new 109, 3)) hn1 hn2 (fun f1 f2 f3 f4 => ?_)
        obtain ⟨a11, ha⟩ : ∃ z, z = Hn g9 := ⟨_, rfl⟩; obtain ⟨g12, hg⟩ : ∃ z, z = nO g9 8 4 := ⟨_, rfl⟩; replace h := h a11 g12 ha hg f1 f2 f3 f4; rw [← hg, ← ha]
        refine j_dup hE (by decide +kernel : decode cX10_booth 55 = .ok (.dup, 1)) rfl ?_
        refine j_iconst hE (by decide +kernel : decode cX10_booth 56 = .ok (.iconst 2, 1)) (v := (2 : Int32)) (by decide) ?_
        refine j_iload_n hE (by decide +kernel : decode cX10_booth 57 = .ok (.iload_n 2, 1)) rfl rfl ?_
        refine j_iconst hE (by decide +kernel : decode cX10_booth 58 = .ok (.iconst 0, 1)) (v := (0 : Int32)) (by decide) ?_
        refine j_aload_n hE (by decide +kernel : decode cX10_booth 59 = .ok (.aload_n 0, 1)) rfl rfl ?_
        obtain ⟨hk, h⟩ := h
        refine j_getI hE fg_X10_68 hk (by decide +kernel : decode cX10_booth 60 = .ok (.getfield 68, 3)) ?_
        refine j_callI hE rfl cl_X10_111 im_X7_init rfl ⟨by omega, by omega⟩ (As := [.int (2 : Int32), .int p1, .int (0 : Int32), .int (Gi g12 1408 th)]) (rest := [.ref a11, .ref a10]) (b := a11) rfl rfl (Nat.le_of_ble_eq_true rfl) (by decide +kernel : decode cX10_booth 63 = .ok (.invokespecial 111, 3)) (mt_To_init _ _ _ _ _ _ _ h) ?_
        rintro _ g13 ⟨rfl, h⟩
        obtain ⟨hk, h⟩ := h
        refine j_callV hE rfl cl_X10_92 cf_0 im_Jx4a65c_add_9ea2d se_Jx4a65c_add_9ea2d ⟨by omega, by omega⟩ (As := [.ref a11]) (rest := []) rfl rfl (Nat.le_of_ble_eq_true rfl) hk (by decide +kernel : decode cX10_booth 66 = .ok (.invokevirtual 92, 3)) (mt_AL_add_1 _ _ _ _ h) ?_
        rintro _ g14 ⟨x15, rfl, h⟩
        refine j_pop hE (by decide +kernel : decode cX10_booth 69 = .ok (.pop, 1)) rfl ?_
        refine j_iconst hE (by decide +kernel : decode cX10_booth 70 = .ok (.iconst 1, 1)) (v := (1 : Int32)) (by decide) ?_
        exact j_zret hE (Or.inr rfl) (by decide +kernel : decode cX10_booth 71 = .ok (.ireturn, 1)) ⟨_, rfl, h⟩
      · replace h := h.2 q
        refine j_weak [none, none, none, none] trivial ?_
        exact S_PV_booth_33 hE _ h
set_option maxHeartbeats 4000000 in
set_option maxRecDepth 100000 in
theorem rl_PV_booth {Γ : GAM} {l : Launch} {th : Nat} {p0 : Int32} {p1 : Int32} {g : GH} {K : Int32 → GH → Prop} (h0 : B_PV_booth_0 Γ K th p0 p1 g) : MetA Γ l yX10_booth cX10_booth 4 (some (.boolean)) 7 171 [.ref th, .int p0, .int p1] g (fun r g' => ∃ x, r = some (.int x) ∧ K x g') := by
  refine MetA.introL (Lx := [some (.ref th), some (.int p0), some (.int p1), none]) (by decide) (Nat.le_of_ble_eq_true rfl) rfl rfl ?_
  intro E hEl hE hnm
  exact S_PV_booth_0 hE th p0 p1 g h0
theorem mt_PV_booth {Γ : GAM} {l : Launch} (th : Nat) (p0 : Int32) (p1 : Int32) (g : GH) (K : Int32 → GH → Prop) (h : Sp_PV_booth Γ th p0 p1 g K) : MetA Γ l yX10_booth cX10_booth 4 (some (.boolean)) 7 171 [.ref th, .int p0, .int p1] g (fun r g' => ∃ x, r = some (.int x) ∧ K x g') := by
  obtain ⟨C, s, n, rfl, hI, hW, hR, hK⟩ := PVC.e h
  have he := hI.en
  obtain ⟨hkd, ⟨h1, h2⟩, -, -, -, -, hnow, hsiz⟩ := hI.pk
  have hP := hI.2.2.2.2.2.2.1
  have hlen := hW.len
  obtain ⟨m1, m2, m3, m4, m5⟩ := hP.2.2.1
  unfold p_booth q_booth at hK
  refine rl_PV_booth ?_
  have hno : ¬ ok_booth s p0 p1 → K 0 g := fun u => hK C g _ _ (if_neg u) (if_neg u) (FrC.rf he) rfl hI hR.dn
  unfold B_PV_booth_0 B_PV_booth_33
  refine ⟨hkd, _, h1, h2, c_D C, s, rfl, hP, hlen.1, fun u => ⟨fun _ => hno (fun z => u z.2.1), fun a z => by cases z⟩, fun v x hv hvl hx hkx => ⟨fun z => (by cases z), fun a ha => ?_⟩⟩
  cases ha
  have hin : 0 ≤ p0 ∧ p0 ≤ nI (s_vot s).length - 1 := (wn_c (by omega)).mpr ⟨v, hv, hvl⟩
  refine ⟨hkd, hkd, ?_⟩
  rw [hnow]
  refine pv_ite (fun u2 => hno (fun z => u2 z.2.2)) (fun u2 => ⟨hkd, _, h1, h2, ?_⟩)
  rw [m5, show ((100 : Int32) = nI 100) from rfl, nj_lt (by omega) (by omega)]
  refine ⟨fun u3 => ⟨hkd, _, h1, h2, h2, ?_⟩, fun u3 => hno (fun z => u3 (by have := z.1; omega))⟩
  have ok : ok_booth s p0 p1 := ⟨by omega, hin, u2⟩
  rintro g1 hg1
  obtain ⟨yv, Lv, r1, r2, r3, r4⟩ := hP.2.2.2.1.2.2.1 v x hx
  obtain ⟨⟨x1, x2⟩, -, lo, eo, ⟨l1, l2, l3⟩, -, hLo, -⟩ := id r2
  have f1 : FrX (d_p (c_D C)) [649] [] g g1 := by rw [hg1]; exact FrX.sI (by decide)
  have k1 := f1.fr (als := []) he
  have e1 : Kd g1 = Kd g ∧ Gr g1 = Gr g ∧ Hn g1 = Hn g ∧ Hu g1 = Hu g := by rw [hg1]; exact ⟨rfl, rfl, rfl, rfl⟩
  have hR' := hR
  obtain ⟨q1, q2, q3⟩ := hR'
  refine ⟨by rw [e1.1]; exact hkx, lo, by rw [e1.2.1]; exact l1, by omega, by omega, ?_⟩
  rintro _ _ rfl rfl z1 z2 z3 z4
  have hnw : Gi (nO g1 8 4) 1408 (c_x C) = s_now s := by
    show Gi g1 1408 (c_x C) = _
    rw [hg1, Gi_sI, if_neg (fun z => absurd z.1 (by decide))]; exact hnow
  have hk12 : Kd (nO g1 8 4) (c_x C) = 12 := by rw [Kd_nO, if_neg (by have := hI.1.1.1; omega), e1.1]; exact hkd
  have hend : ∀ vl, vl = 0 → ∀ g', Fr [] [] [lo] g1 g' → (∀ L, LOG Γ g1 lo L → LOG Γ g' lo (L ++ [(2, p1, vl, s_now s)])) → (Hn g' ≤ Hn g1 + 20 ∧ Hu g' ≤ Hu g1 + 6000) → K 1 g' := fun vl hvl' g' hf hL' hh => by
    have hpc : ∀ c, Gi g' c (d_p (c_D C)) = Gi g1 c (d_p (c_D C)) ∨ c < 128 := fun c => by
      by_cases hc : 128 ≤ c
      · exact .inl (hf.gi (by rw [e1.2.2.1]; exact hP.2.1.1.1) (by simp) hc)
      · exact .inr (by omega)
    obtain ⟨hF, hI', hRM'⟩ := hI.log (s' := u_boo s (s_boo s ++ [(p0, p1, s_now s)])) hR (f := 649) (by decide) hg1 hf (.inl l2) hh (fun kk => by
      refine hP.logV (y := (2, p1, vl, s_now s)) hx l1 kk ⟨by decide, by decide⟩ (by decide) ⟨?_, ?_, ?_, ?_, ?_⟩ (fun L hl hL => ?_) rfl rfl rfl rfl (fun e L z => z) rfl (fun e => rfl) (fun v' sh L hv' z => ?_) ?_
      · rw [(hpc _).resolve_right (by decide), hg1, Gi_sI, if_neg (fun z => absurd z.1 (by decide))]; exact m1
      · rw [(hpc _).resolve_right (by decide), hg1, Gi_sI, if_neg (fun z => absurd z.1 (by decide))]; exact m2
      · rw [(hpc _).resolve_right (by decide), hg1, Gi_sI, if_neg (fun z => absurd z.1 (by decide))]; exact m3
      · rw [(hpc _).resolve_right (by decide), hg1, Gi_sI, if_neg (fun z => absurd z.1 (by decide))]; exact m4
      · rw [(hpc _).resolve_right (by decide), hg1, Gi_sI, if_pos ⟨rfl, rfl⟩, m5, nj_s]
        show _ = nI (s_boo s ++ _).length
        rw [List.length_append]; rfl
      · exact hL' L (hL.fr k1 ⟨by decide, by decide⟩ (by simp))
      · rw [hvl', hv]
        exact z.boo (by omega) (by rw [hP.2.2.2.1.2.1] at hv'; omega)
      · show (s_mov s).length + (s_boo s ++ _).length = _
        rw [List.length_append]; simp only [List.length_cons, List.length_nil]; omega) (fun z => z) rfl (fun z => z) (fun z => z.cg rfl rfl rfl) (fun z => z) (by show (s_evt s).length + (s_rea s).length + (s_tel s).length ≤ _; omega)
    exact hK C _ _ _ (if_pos ok) (if_pos ok) hF rfl hI' hRM'
  refine ⟨hk12, ?_⟩
  rw [hnw]
  exact told_push (k1.en he) (hP.1.2.2.fr k1) (k1.nt hP.1.2.1) ⟨by omega, by omega⟩ (hLo.fr k1 ⟨by decide, by decide⟩ (by simp)) (by omega) rfl (hend 0 rfl)
def Sp_PV_read (Γ : GAM) (x : Nat) (p0 p1 : Int32) (g : GH) (K : Int32 → GH → Prop) : Prop := PVC Γ x g K (fun s => p_read s p0 p1) (fun s => q_read s p0 p1)
-- the walk of PV_read
set_option maxRecDepth 100000 in
def B_PV_read_33 (Γ : GAM) (K : Int32 → GH → Prop)  (g : GH) : Prop :=
  K (0 : Int32) g
set_option maxHeartbeats 4000000 in
set_option maxRecDepth 100000 in
theorem S_PV_read_33 {Γ : GAM} {E : EV} {K : Int32 → GH → Prop} (hE : GE Γ E cX10_read 4 RX10 (some (.boolean)) 7 171 (fun r g' => ∃ x, r = some (.int x) ∧ K x g'))  (g : GH) (h : B_PV_read_33 Γ K  g) : JW Γ E 33 [none, none, none, none] [] g := by
  unfold B_PV_read_33 at h
  refine j_iconst hE (by decide +kernel : decode cX10_read 33 = .ok (.iconst 0, 1)) (v := (0 : Int32)) (by decide) ?_
  exact j_zret hE (Or.inl rfl) (by decide +kernel : decode cX10_read 34 = .ok (.ireturn, 1)) ⟨_, rfl, h⟩
set_option maxRecDepth 100000 in
def B_PV_read_0 (Γ : GAM) (K : Int32 → GH → Prop) (th : Nat) (p0 : Int32) (p1 : Int32) (g : GH) : Prop :=
  Kd g th = 12 ∧ ∃ a1 : Nat, Gr g 1410 th = some a1 ∧ Kd g a1 = 6 ∧ Sp_Po_envelopeAt Γ a1 p0 g (fun (a3 : Option Nat) (g2 : GH) => ((a3 = none → B_PV_read_33 Γ K g2) ∧ (∀ a4 : Nat, a3 = some a4 → Sp_PV_isSign Γ p1 g2 (fun (x6 : Int32) (g5 : GH) => ((x6 = 0 → B_PV_read_33 Γ K g5) ∧ (¬ (x6 = 0) → Kd g5 th = 12 ∧ ∃ a7 : Nat, Gr g5 1410 th = some a7 ∧ Kd g5 a7 = 6 ∧ (((Gi g5 647 a7) < (400 : Int32) → Kd g5 th = 12 ∧ ∃ a8 : Nat, Gr g5 1410 th = some a8 ∧ Kd g5 a8 = 6 ∧ Kd g5 a8 = 6 ∧ ∀ g9 : GH, g9 = sI g5 647 a8 ((Gi g5 647 a8) + (1 : Int32)) → Kd g9 a4 = 2 ∧ ∃ a10 : Nat, Gr g9 133 a4 = some a10 ∧ Hn g9 + 1 ≤ gB Γ + NCC ∧ Hu g9 + 4 ≤ NSS ∧ ∀ (a11 : Nat) (g12 : GH), a11 = Hn g9 → g12 = nO g9 8 4 → (∀ f, Gi g9 f (Hn g9) = 0) → (∀ f, Gr g9 f (Hn g9) = none) → (∀ c, free g9 c (Hn g9)) → (∀ a, Hn g9 ≤ a → Kd g9 a = 0) → Kd g12 th = 12 ∧ Kd g12 th = 12 ∧ Sp_To_init Γ a11 (9 : Int32) (Gi g12 1408 th) p1 (Gi g12 1408 th) g12 (fun (g13 : GH) => Kd g13 a10 = 1 ∧ Sp_AL_add_1 Γ a10 a11 g13 (fun (x15 : Int32) (g14 : GH) => K (1 : Int32) g14))) ∧ (¬ ((Gi g5 647 a7) < (400 : Int32)) → B_PV_read_33 Γ K g5))))))))
set_option maxHeartbeats 4000000 in
set_option maxRecDepth 100000 in
theorem S_PV_read_0 {Γ : GAM} {E : EV} {K : Int32 → GH → Prop} (hE : GE Γ E cX10_read 4 RX10 (some (.boolean)) 7 171 (fun r g' => ∃ x, r = some (.int x) ∧ K x g')) (th : Nat) (p0 : Int32) (p1 : Int32) (g : GH) (h : B_PV_read_0 Γ K th p0 p1 g) : JW Γ E 0 [some (.ref th), some (.int p0), some (.int p1), none] [] g := by
  unfold B_PV_read_0 at h
  refine j_aload_n hE (by decide +kernel : decode cX10_read 0 = .ok (.aload_n 0, 1)) rfl rfl ?_
  obtain ⟨hk, h⟩ := h
  obtain ⟨a1, ha, h⟩ := h
  refine j_getRn hE fg_X10_16 hk ha (by decide +kernel : decode cX10_read 1 = .ok (.getfield 16, 3)) ?_
  refine j_iload_n hE (by decide +kernel : decode cX10_read 4 = .ok (.iload_n 1, 1)) rfl rfl ?_
  obtain ⟨hk, h⟩ := h
  refine j_callV hE rfl cl_X10_133 cf_5 im_X4_envelopeAt se_X4_envelopeAt ⟨by omega, by omega⟩ (As := [.int p0]) (rest := []) rfl rfl (Nat.le_of_ble_eq_true rfl) hk (by decide +kernel : decode cX10_read 5 = .ok (.invokevirtual 133, 3)) (mt_Po_envelopeAt _ _ _ _ h) ?_
  rintro _ g2 ⟨a3, rfl, h⟩
  refine j_astore_nQ hE (by decide +kernel : decode cX10_read 8 = .ok (.astore_n 3, 1)) rfl (Nat.le_of_ble_eq_true rfl) rfl ?_
  refine j_aload_nQ hE (by decide +kernel : decode cX10_read 9 = .ok (.aload_n 3, 1)) rfl rfl ?_
  refine j_ifnull hE (by decide +kernel : decode cX10_read 10 = .ok (.ifnull 23, 3)) (tgt := 33) (by decide) (fun q => ?_) (fun a4 q => ?_)
  · replace h := h.1 q; subst q
    refine j_weak [none, none, none, none] trivial ?_
    exact S_PV_read_33 hE _ h
  · replace h := h.2 a4 q; subst q
    refine j_iload_n hE (by decide +kernel : decode cX10_read 13 = .ok (.iload_n 2, 1)) rfl rfl ?_
    refine j_callS hE rfl cl_X10_78 st_X10_isSign ⟨by omega, by omega⟩ (As := [.int p1]) (rest := []) rfl rfl (Nat.le_of_ble_eq_true rfl) (by decide +kernel : decode cX10_read 14 = .ok (.invokestatic 78, 3)) (mt_PV_isSign _ _ _ h) ?_
    rintro _ g5 ⟨x6, rfl, h⟩
    refine j_if_eq hE (by decide +kernel : decode cX10_read 17 = .ok (.ifCond .eq 16, 3)) (tgt := 33) (by decide) (fun q => ?_) (fun q => ?_)
    · replace h := h.1 q
      refine j_weak [none, none, none, none] trivial ?_
      exact S_PV_read_33 hE _ h
    · replace h := h.2 q
      refine j_aload_n hE (by decide +kernel : decode cX10_read 20 = .ok (.aload_n 0, 1)) rfl rfl ?_
      obtain ⟨hk, h⟩ := h
      obtain ⟨a7, ha, h⟩ := h
      refine j_getRn hE fg_X10_16 hk ha (by decide +kernel : decode cX10_read 21 = .ok (.getfield 16, 3)) ?_
      obtain ⟨hk, h⟩ := h
      refine j_getI hE fg_X10_160 hk (by decide +kernel : decode cX10_read 24 = .ok (.getfield 160, 3)) ?_
      refine j_sipush hE (by decide +kernel : decode cX10_read 27 = .ok (.sipush 400, 3)) (v := (400 : Int32)) (by decide) ?_
      refine j_icmp_lt hE (by decide +kernel : decode cX10_read 30 = .ok (.if_icmp .lt 5, 3)) (tgt := 35) (by decide) (fun q => ?_) (fun q => ?_)
      · replace h := h.1 q
        refine j_aload_n hE (by decide +kernel : decode cX10_read 35 = .ok (.aload_n 0, 1)) rfl rfl ?_
        obtain ⟨hk, h⟩ := h
        obtain ⟨a8, ha, h⟩ := h
        refine j_getRn hE fg_X10_16 hk ha (by decide +kernel : decode cX10_read 36 = .ok (.getfield 16, 3)) ?_
        refine j_dup hE (by decide +kernel : decode cX10_read 39 = .ok (.dup, 1)) rfl ?_
        obtain ⟨hk, h⟩ := h
        refine j_getI hE fg_X10_160 hk (by decide +kernel : decode cX10_read 40 = .ok (.getfield 160, 3)) ?_
        refine j_iconst hE (by decide +kernel : decode cX10_read 43 = .ok (.iconst 1, 1)) (v := (1 : Int32)) (by decide) ?_
        refine j_iadd hE (by decide +kernel : decode cX10_read 44 = .ok (.iadd, 1)) ?_
        obtain ⟨hk, h⟩ := h
        obtain ⟨g9, hg⟩ : ∃ z, z = sI g5 647 a8 ((Gi g5 647 a8) + (1 : Int32)) := ⟨_, rfl⟩; replace h := h g9 hg
        refine j_putI hE fa_X10_160 hk (fun q => by cases q) (by decide +kernel : decode cX10_read 45 = .ok (.putfield 160, 3)) ?_
        rw [← hg]
        refine j_aload_n hE (by decide +kernel : decode cX10_read 48 = .ok (.aload_n 3, 1)) rfl rfl ?_
        obtain ⟨hk, h⟩ := h
        obtain ⟨a10, ha, h⟩ := h
        refine j_getRn hE fg_X10_143 hk ha (by decide +kernel : decode cX10_read 49 = .ok (.getfield 143, 3)) ?_
        obtain ⟨hn1, hn2, h⟩ := h
        refine j_new hE cf_8 ck_X10_109 in_X7 (by decide +kernel : decode cX10_read 52 = .ok (.new 109, 3)) hn1 hn2 (fun f1 f2 f3 f4 => ?_)
        obtain ⟨a11, ha⟩ : ∃ z, z = Hn g9 := ⟨_, rfl⟩; obtain ⟨g12, hg⟩ : ∃ z, z = nO g9 8 4 := ⟨_, rfl⟩; replace h := h a11 g12 ha hg f1 f2 f3 f4; rw [← hg, ← ha]
        refine j_dup hE (by decide +kernel : decode cX10_read 55 = .ok (.dup, 1)) rfl ?_
        refine j_bipush hE (by decide +kernel : decode cX10_read 56 = .ok (.bipush 9, 2)) (v := (9 : Int32)) (by decide) ?_
        refine j_aload_n hE (by decide +kernel : decode cX10_read 58 = .ok (.aload_n 0, 1)) rfl rfl ?_
        obtain ⟨hk, h⟩ := h
        refine j_getI hE fg_X10_68 hk (by decide +kernel : decode cX10_read 59 = .ok (.getfield 68, 3)) ?_
        refine j_iload_n hE (by decide +kernel : decode cX10_read 62 = .ok (.iload_n 2, 1)) rfl rfl ?_
        refine j_aload_n hE (by decide +kernel : decode cX10_read 63 = .ok (.aload_n 0, 1)) rfl rfl ?_
        obtain ⟨hk, h⟩ := h
        refine j_getI hE fg_X10_68 hk (by decide +kernel : decode cX10_read 64 = .ok (.getfield 68, 3)) ?_
        refine j_callI hE rfl cl_X10_111 im_X7_init rfl ⟨by omega, by omega⟩ (As := [.int (9 : Int32), .int (Gi g12 1408 th), .int p1, .int (Gi g12 1408 th)]) (rest := [.ref a11, .ref a10]) (b := a11) rfl rfl (Nat.le_of_ble_eq_true rfl) (by decide +kernel : decode cX10_read 67 = .ok (.invokespecial 111, 3)) (mt_To_init _ _ _ _ _ _ _ h) ?_
        rintro _ g13 ⟨rfl, h⟩
        obtain ⟨hk, h⟩ := h
        refine j_callV hE rfl cl_X10_92 cf_0 im_Jx4a65c_add_9ea2d se_Jx4a65c_add_9ea2d ⟨by omega, by omega⟩ (As := [.ref a11]) (rest := []) rfl rfl (Nat.le_of_ble_eq_true rfl) hk (by decide +kernel : decode cX10_read 70 = .ok (.invokevirtual 92, 3)) (mt_AL_add_1 _ _ _ _ h) ?_
        rintro _ g14 ⟨x15, rfl, h⟩
        refine j_pop hE (by decide +kernel : decode cX10_read 73 = .ok (.pop, 1)) rfl ?_
        refine j_iconst hE (by decide +kernel : decode cX10_read 74 = .ok (.iconst 1, 1)) (v := (1 : Int32)) (by decide) ?_
        exact j_zret hE (Or.inr rfl) (by decide +kernel : decode cX10_read 75 = .ok (.ireturn, 1)) ⟨_, rfl, h⟩
      · replace h := h.2 q
        refine j_weak [none, none, none, none] trivial ?_
        exact S_PV_read_33 hE _ h
set_option maxHeartbeats 4000000 in
set_option maxRecDepth 100000 in
theorem rl_PV_read {Γ : GAM} {l : Launch} {th : Nat} {p0 : Int32} {p1 : Int32} {g : GH} {K : Int32 → GH → Prop} (h0 : B_PV_read_0 Γ K th p0 p1 g) : MetA Γ l yX10_read cX10_read 4 (some (.boolean)) 7 171 [.ref th, .int p0, .int p1] g (fun r g' => ∃ x, r = some (.int x) ∧ K x g') := by
  refine MetA.introL (Lx := [some (.ref th), some (.int p0), some (.int p1), none]) (by decide) (Nat.le_of_ble_eq_true rfl) rfl rfl ?_
  intro E hEl hE hnm
  exact S_PV_read_0 hE th p0 p1 g h0
theorem mt_PV_read {Γ : GAM} {l : Launch} (th : Nat) (p0 : Int32) (p1 : Int32) (g : GH) (K : Int32 → GH → Prop) (h : Sp_PV_read Γ th p0 p1 g K) : MetA Γ l yX10_read cX10_read 4 (some (.boolean)) 7 171 [.ref th, .int p0, .int p1] g (fun r g' => ∃ x, r = some (.int x) ∧ K x g') := by
  obtain ⟨C, s, n, rfl, hI, hW, hR, hK⟩ := PVC.e h
  have he := hI.en
  obtain ⟨hkd, ⟨h1, h2⟩, -, -, -, -, hnow, hsiz⟩ := hI.pk
  have hP := hI.2.2.2.2.2.2.1
  have hlen := hW.len
  obtain ⟨m1, m2, m3, m4, m5⟩ := hP.2.2.1
  unfold p_read q_read at hK
  refine rl_PV_read ?_
  have hno : ¬ ok_read s p0 p1 → K 0 g := fun u => hK C g _ _ (if_neg u) (if_neg u) (FrC.rf he) rfl hI hR.dn
  unfold B_PV_read_0 B_PV_read_33
  refine ⟨hkd, _, h1, h2, c_D C, s, rfl, hP, hlen.2.2.1, fun u => ⟨fun _ => hno (fun z => u z.2.1), fun a z => by cases z⟩, fun v x hv hvl hx hkx => ⟨fun z => (by cases z), fun a ha => ?_⟩⟩
  cases ha
  have hin : 0 ≤ p0 ∧ p0 ≤ nI (s_env s).length - 1 := (wn_c (by omega)).mpr ⟨v, hv, hvl⟩
  refine pv_ite (fun u => hno (fun z => u z.2.2)) (fun u => ⟨hkd, _, h1, h2, ?_⟩)
  rw [m3, show ((400 : Int32) = nI 400) from rfl, nj_lt (by omega) (by omega)]
  refine ⟨fun u3 => ⟨hkd, _, h1, h2, h2, ?_⟩, fun u3 => hno (fun z => u3 (by have := z.1; omega))⟩
  have ok : ok_read s p0 p1 := ⟨by omega, hin, u⟩
  rintro g1 hg1
  obtain ⟨yv, wv, Lv, r1, r2, r3, r4, r5⟩ := hP.2.2.2.2.1.2.2 v x hx
  obtain ⟨⟨x1, x2⟩, -, -, -, -, lo, ⟨l1, l2, l3⟩, hLo⟩ := id r3
  have f1 : FrX (d_p (c_D C)) [647] [] g g1 := by rw [hg1]; exact FrX.sI (by decide)
  have k1 := f1.fr (als := []) he
  have e1 : Kd g1 = Kd g ∧ Gr g1 = Gr g ∧ Hn g1 = Hn g ∧ Hu g1 = Hu g := by rw [hg1]; exact ⟨rfl, rfl, rfl, rfl⟩
  have hR' := hR
  obtain ⟨q1, q2, q3⟩ := hR'
  refine ⟨by rw [e1.1]; exact hkx, lo, by rw [e1.2.1]; exact l1, by omega, by omega, ?_⟩
  rintro _ _ rfl rfl z1 z2 z3 z4
  have hnw : Gi (nO g1 8 4) 1408 (c_x C) = s_now s := by
    show Gi g1 1408 (c_x C) = _
    rw [hg1, Gi_sI, if_neg (fun z => absurd z.1 (by decide))]; exact hnow
  have hk12 : Kd (nO g1 8 4) (c_x C) = 12 := by rw [Kd_nO, if_neg (by have := hI.1.1.1; omega), e1.1]; exact hkd
  have hend : ∀ vl, vl = p1 → ∀ g', Fr [] [] [lo] g1 g' → (∀ L, LOG Γ g1 lo L → LOG Γ g' lo (L ++ [(9, s_now s, vl, s_now s)])) → (Hn g' ≤ Hn g1 + 20 ∧ Hu g' ≤ Hu g1 + 6000) → K 1 g' := fun vl hvl' g' hf hL' hh => by
    have hpc : ∀ c, Gi g' c (d_p (c_D C)) = Gi g1 c (d_p (c_D C)) ∨ c < 128 := fun c => by
      by_cases hc : 128 ≤ c
      · exact .inl (hf.gi (by rw [e1.2.2.1]; exact hP.2.1.1.1) (by simp) hc)
      · exact .inr (by omega)
    obtain ⟨hF, hI', hRM'⟩ := hI.log (s' := u_rea s (s_rea s ++ [(p0, p1, s_now s)])) hR (f := 647) (by decide) hg1 hf (.inr l2) hh (fun kk => by
      refine hP.logE (y := (9, s_now s, vl, s_now s)) hlen.2.2.1 hx l1 kk ⟨by decide, by decide⟩ (by decide) ⟨?_, ?_, ?_, ?_, ?_⟩ (fun L hl hL => ?_) rfl rfl rfl rfl (fun v sh L z => z) rfl (fun e => rfl) (fun e L he' z => ?_) ?_
      · rw [(hpc _).resolve_right (by decide), hg1, Gi_sI, if_neg (fun z => absurd z.1 (by decide))]; exact m1
      · rw [(hpc _).resolve_right (by decide), hg1, Gi_sI, if_neg (fun z => absurd z.1 (by decide))]; exact m2
      · rw [(hpc _).resolve_right (by decide), hg1, Gi_sI, if_pos ⟨rfl, rfl⟩, m3, nj_s]
        show _ = nI (s_rea s ++ _).length
        rw [List.length_append]; rfl
      · rw [(hpc _).resolve_right (by decide), hg1, Gi_sI, if_neg (fun z => absurd z.1 (by decide))]; exact m4
      · rw [(hpc _).resolve_right (by decide), hg1, Gi_sI, if_neg (fun z => absurd z.1 (by decide))]; exact m5
      · exact hL' L (hL.fr k1 ⟨by decide, by decide⟩ (by simp))
      · rw [hvl', hv]
        exact z.rea (by omega) (by rw [hP.2.2.2.2.1.2.1] at he'; omega)
      · show (s_evt s).length + (s_rea s ++ _).length + (s_tel s).length = _
        rw [List.length_append]; simp only [List.length_cons, List.length_nil]; omega) (fun z => z) rfl (fun z => z) (fun z => z.cg rfl rfl rfl) (fun z => z) (by show (s_evt s).length + (s_rea s ++ _).length + (s_tel s).length ≤ _; rw [List.length_append]; simp only [List.length_cons, List.length_nil]; omega)
    exact hK C _ _ _ (if_pos ok) (if_pos ok) hF rfl hI' hRM'
  refine ⟨hk12, hk12, ?_⟩
  rw [hnw]
  exact told_push (k1.en he) (hP.1.2.2.fr k1) (k1.nt hP.1.2.1) ⟨by omega, by omega⟩ (hLo.fr k1 ⟨by decide, by decide⟩ (by simp)) (by omega) rfl (hend p1 rfl)
def Sp_PV_hand (Γ : GAM) (x : Nat) (p0 p1 p2 : Int32) (g : GH) (K : Int32 → GH → Prop) : Prop := PVC Γ x g K (fun s => p_hand s p0 p1 p2) (fun s => q_hand s p0 p1 p2)
-- the walk of PV_hand
set_option maxRecDepth 100000 in
def B_PV_hand_76 (Γ : GAM) (K : Int32 → GH → Prop) (l0 : Nat) (s0 : Int32) (s1 : Int32) (s2 : Int32) (s3 : Nat) (s4 : Nat) (s5 : Nat) (g : GH) : Prop :=
  Kd g l0 = 12 ∧ Sp_To_init Γ s3 s2 s1 s0 (Gi g 1408 l0) g (fun (g1 : GH) => Kd g1 s5 = 1 ∧ Sp_AL_add_1 Γ s5 s4 g1 (fun (x3 : Int32) (g2 : GH) => K (1 : Int32) g2))
set_option maxHeartbeats 4000000 in
set_option maxRecDepth 100000 in
theorem S_PV_hand_76 {Γ : GAM} {E : EV} {K : Int32 → GH → Prop} (hE : GE Γ E cX10_hand 5 RX10 (some (.boolean)) 7 171 (fun r g' => ∃ x, r = some (.int x) ∧ K x g')) (l0 : Nat) (s0 : Int32) (s1 : Int32) (s2 : Int32) (s3 : Nat) (s4 : Nat) (s5 : Nat) (g : GH) (h : B_PV_hand_76 Γ K l0 s0 s1 s2 s3 s4 s5 g) : JW Γ E 76 [some (.ref l0), none, none, none, none] [.int s0, .int s1, .int s2, .ref s3, .ref s4, .ref s5] g := by
  unfold B_PV_hand_76 at h
  refine j_aload_n hE (by decide +kernel : decode cX10_hand 76 = .ok (.aload_n 0, 1)) rfl rfl ?_
  obtain ⟨hk, h⟩ := h
  refine j_getI hE fg_X10_68 hk (by decide +kernel : decode cX10_hand 77 = .ok (.getfield 68, 3)) ?_
  refine j_callI hE rfl cl_X10_111 im_X7_init rfl ⟨by omega, by omega⟩ (As := [.int s2, .int s1, .int s0, .int (Gi g 1408 l0)]) (rest := [.ref s4, .ref s5]) (b := s3) rfl rfl (Nat.le_of_ble_eq_true rfl) (by decide +kernel : decode cX10_hand 80 = .ok (.invokespecial 111, 3)) (mt_To_init _ _ _ _ _ _ _ h) ?_
  rintro _ g1 ⟨rfl, h⟩
  obtain ⟨hk, h⟩ := h
  refine j_callV hE rfl cl_X10_92 cf_0 im_Jx4a65c_add_9ea2d se_Jx4a65c_add_9ea2d ⟨by omega, by omega⟩ (As := [.ref s4]) (rest := []) rfl rfl (Nat.le_of_ble_eq_true rfl) hk (by decide +kernel : decode cX10_hand 83 = .ok (.invokevirtual 92, 3)) (mt_AL_add_1 _ _ _ _ h) ?_
  rintro _ g2 ⟨x3, rfl, h⟩
  refine j_pop hE (by decide +kernel : decode cX10_hand 86 = .ok (.pop, 1)) rfl ?_
  refine j_iconst hE (by decide +kernel : decode cX10_hand 87 = .ok (.iconst 1, 1)) (v := (1 : Int32)) (by decide) ?_
  exact j_zret hE (Or.inr rfl) (by decide +kernel : decode cX10_hand 88 = .ok (.ireturn, 1)) ⟨_, rfl, h⟩
set_option maxRecDepth 100000 in
def B_PV_hand_35 (Γ : GAM) (K : Int32 → GH → Prop)  (g : GH) : Prop :=
  K (0 : Int32) g
set_option maxHeartbeats 4000000 in
set_option maxRecDepth 100000 in
theorem S_PV_hand_35 {Γ : GAM} {E : EV} {K : Int32 → GH → Prop} (hE : GE Γ E cX10_hand 5 RX10 (some (.boolean)) 7 171 (fun r g' => ∃ x, r = some (.int x) ∧ K x g'))  (g : GH) (h : B_PV_hand_35 Γ K  g) : JW Γ E 35 [none, none, none, none, none] [] g := by
  unfold B_PV_hand_35 at h
  refine j_iconst hE (by decide +kernel : decode cX10_hand 35 = .ok (.iconst 0, 1)) (v := (0 : Int32)) (by decide) ?_
  exact j_zret hE (Or.inl rfl) (by decide +kernel : decode cX10_hand 36 = .ok (.ireturn, 1)) ⟨_, rfl, h⟩
set_option maxRecDepth 100000 in
def B_PV_hand_0 (Γ : GAM) (K : Int32 → GH → Prop) (th : Nat) (p0 : Int32) (p1 : Int32) (p2 : Int32) (g : GH) : Prop :=
  Kd g th = 12 ∧ ∃ a1 : Nat, Gr g 1410 th = some a1 ∧ Kd g a1 = 6 ∧ Sp_Po_envelopeAt Γ a1 p0 g (fun (a3 : Option Nat) (g2 : GH) => ((a3 = none → B_PV_hand_35 Γ K g2) ∧ (∀ a4 : Nat, a3 = some a4 → Sp_PV_isHand Γ p1 g2 (fun (x6 : Int32) (g5 : GH) => ((x6 = 0 → B_PV_hand_35 Γ K g5) ∧ (¬ (x6 = 0) → Kd g5 th = 12 ∧ ∃ a7 : Nat, Gr g5 1410 th = some a7 ∧ Kd g5 a7 = 6 ∧ (((Gi g5 648 a7) < (600 : Int32) → Kd g5 th = 12 ∧ ∃ a8 : Nat, Gr g5 1410 th = some a8 ∧ Kd g5 a8 = 6 ∧ Kd g5 a8 = 6 ∧ ∀ g9 : GH, g9 = sI g5 648 a8 ((Gi g5 648 a8) + (1 : Int32)) → Kd g9 a4 = 2 ∧ ∃ a10 : Nat, Gr g9 133 a4 = some a10 ∧ Hn g9 + 1 ≤ gB Γ + NCC ∧ Hu g9 + 4 ≤ NSS ∧ ∀ (a11 : Nat) (g12 : GH), a11 = Hn g9 → g12 = nO g9 8 4 → (∀ f, Gi g9 f (Hn g9) = 0) → (∀ f, Gr g9 f (Hn g9) = none) → (∀ c, free g9 c (Hn g9)) → (∀ a, Hn g9 ≤ a → Kd g9 a = 0) → Kd g12 th = 12 ∧ ((p2 = 0 → B_PV_hand_76 Γ K th (0 : Int32) (Gi g12 1408 th) ((10 : Int32) + p1) a11 a11 a10 g12) ∧ (¬ (p2 = 0) → B_PV_hand_76 Γ K th (1 : Int32) (Gi g12 1408 th) ((10 : Int32) + p1) a11 a11 a10 g12))) ∧ (¬ ((Gi g5 648 a7) < (600 : Int32)) → B_PV_hand_35 Γ K g5))))))))
set_option maxHeartbeats 4000000 in
set_option maxRecDepth 100000 in
theorem S_PV_hand_0 {Γ : GAM} {E : EV} {K : Int32 → GH → Prop} (hE : GE Γ E cX10_hand 5 RX10 (some (.boolean)) 7 171 (fun r g' => ∃ x, r = some (.int x) ∧ K x g')) (th : Nat) (p0 : Int32) (p1 : Int32) (p2 : Int32) (g : GH) (h : B_PV_hand_0 Γ K th p0 p1 p2 g) : JW Γ E 0 [some (.ref th), some (.int p0), some (.int p1), some (.int p2), none] [] g := by
  unfold B_PV_hand_0 at h
  refine j_aload_n hE (by decide +kernel : decode cX10_hand 0 = .ok (.aload_n 0, 1)) rfl rfl ?_
  obtain ⟨hk, h⟩ := h
  obtain ⟨a1, ha, h⟩ := h
  refine j_getRn hE fg_X10_16 hk ha (by decide +kernel : decode cX10_hand 1 = .ok (.getfield 16, 3)) ?_
  refine j_iload_n hE (by decide +kernel : decode cX10_hand 4 = .ok (.iload_n 1, 1)) rfl rfl ?_
  obtain ⟨hk, h⟩ := h
  refine j_callV hE rfl cl_X10_133 cf_5 im_X4_envelopeAt se_X4_envelopeAt ⟨by omega, by omega⟩ (As := [.int p0]) (rest := []) rfl rfl (Nat.le_of_ble_eq_true rfl) hk (by decide +kernel : decode cX10_hand 5 = .ok (.invokevirtual 133, 3)) (mt_Po_envelopeAt _ _ _ _ h) ?_
  rintro _ g2 ⟨a3, rfl, h⟩
  refine j_astoreQ hE (by decide +kernel : decode cX10_hand 8 = .ok (.astore 4, 2)) (Nat.le_of_ble_eq_true rfl) rfl ?_
  refine j_aloadQ hE (by decide +kernel : decode cX10_hand 10 = .ok (.aload 4, 2)) rfl ?_
  refine j_ifnull hE (by decide +kernel : decode cX10_hand 12 = .ok (.ifnull 23, 3)) (tgt := 35) (by decide) (fun q => ?_) (fun a4 q => ?_)
  · replace h := h.1 q; subst q
    refine j_weak [none, none, none, none, none] trivial ?_
    exact S_PV_hand_35 hE _ h
  · replace h := h.2 a4 q; subst q
    refine j_iload_n hE (by decide +kernel : decode cX10_hand 15 = .ok (.iload_n 2, 1)) rfl rfl ?_
    refine j_callS hE rfl cl_X10_163 st_X10_isHand ⟨by omega, by omega⟩ (As := [.int p1]) (rest := []) rfl rfl (Nat.le_of_ble_eq_true rfl) (by decide +kernel : decode cX10_hand 16 = .ok (.invokestatic 163, 3)) (mt_PV_isHand _ _ _ h) ?_
    rintro _ g5 ⟨x6, rfl, h⟩
    refine j_if_eq hE (by decide +kernel : decode cX10_hand 19 = .ok (.ifCond .eq 16, 3)) (tgt := 35) (by decide) (fun q => ?_) (fun q => ?_)
    · replace h := h.1 q
      refine j_weak [none, none, none, none, none] trivial ?_
      exact S_PV_hand_35 hE _ h
    · replace h := h.2 q
      refine j_aload_n hE (by decide +kernel : decode cX10_hand 22 = .ok (.aload_n 0, 1)) rfl rfl ?_
      obtain ⟨hk, h⟩ := h
      obtain ⟨a7, ha, h⟩ := h
      refine j_getRn hE fg_X10_16 hk ha (by decide +kernel : decode cX10_hand 23 = .ok (.getfield 16, 3)) ?_
      obtain ⟨hk, h⟩ := h
      refine j_getI hE fg_X10_166 hk (by decide +kernel : decode cX10_hand 26 = .ok (.getfield 166, 3)) ?_
      refine j_sipush hE (by decide +kernel : decode cX10_hand 29 = .ok (.sipush 600, 3)) (v := (600 : Int32)) (by decide) ?_
      refine j_icmp_lt hE (by decide +kernel : decode cX10_hand 32 = .ok (.if_icmp .lt 5, 3)) (tgt := 37) (by decide) (fun q => ?_) (fun q => ?_)
      · replace h := h.1 q
        refine j_aload_n hE (by decide +kernel : decode cX10_hand 37 = .ok (.aload_n 0, 1)) rfl rfl ?_
        obtain ⟨hk, h⟩ := h
        obtain ⟨a8, ha, h⟩ := h
        refine j_getRn hE fg_X10_16 hk ha (by decide +kernel : decode cX10_hand 38 = .ok (.getfield 16, 3)) ?_
        refine j_dup hE (by decide +kernel : decode cX10_hand 41 = .ok (.dup, 1)) rfl ?_
        obtain ⟨hk, h⟩ := h
        refine j_getI hE fg_X10_166 hk (by decide +kernel : decode cX10_hand 42 = .ok (.getfield 166, 3)) ?_
        refine j_iconst hE (by decide +kernel : decode cX10_hand 45 = .ok (.iconst 1, 1)) (v := (1 : Int32)) (by decide) ?_
        refine j_iadd hE (by decide +kernel : decode cX10_hand 46 = .ok (.iadd, 1)) ?_
        obtain ⟨hk, h⟩ := h
        obtain ⟨g9, hg⟩ : ∃ z, z = sI g5 648 a8 ((Gi g5 648 a8) + (1 : Int32)) := ⟨_, rfl⟩; replace h := h g9 hg
        refine j_putI hE fa_X10_166 hk (fun q => by cases q) (by decide +kernel : decode cX10_hand 47 = .ok (.putfield 166, 3)) ?_
        rw [← hg]
        refine j_aload hE (by decide +kernel : decode cX10_hand 50 = .ok (.aload 4, 2)) rfl ?_
        obtain ⟨hk, h⟩ := h
        obtain ⟨a10, ha, h⟩ := h
        refine j_getRn hE fg_X10_143 hk ha (by decide +kernel : decode cX10_hand 52 = .ok (.getfield 143, 3)) ?_
        obtain ⟨hn1, hn2, h⟩ := h
        refine j_new hE cf_8 ck_X10_109 in_X7 (by decide +kernel : decode cX10_hand 55 = .ok (.new 109, 3)) hn1 hn2 (fun f1 f2 f3 f4 => ?_)
        obtain ⟨a11, ha⟩ : ∃ z, z = Hn g9 := ⟨_, rfl⟩; obtain ⟨g12, hg⟩ : ∃ z, z = nO g9 8 4 := ⟨_, rfl⟩; replace h := h a11 g12 ha hg f1 f2 f3 f4; rw [← hg, ← ha]
        refine j_dup hE (by decide +kernel : decode cX10_hand 58 = .ok (.dup, 1)) rfl ?_
        refine j_bipush hE (by decide +kernel : decode cX10_hand 59 = .ok (.bipush 10, 2)) (v := (10 : Int32)) (by decide) ?_
        refine j_iload_n hE (by decide +kernel : decode cX10_hand 61 = .ok (.iload_n 2, 1)) rfl rfl ?_
        refine j_iadd hE (by decide +kernel : decode cX10_hand 62 = .ok (.iadd, 1)) ?_
        refine j_aload_n hE (by decide +kernel : decode cX10_hand 63 = .ok (.aload_n 0, 1)) rfl rfl ?_
        obtain ⟨hk, h⟩ := h
        refine j_getI hE fg_X10_68 hk (by decide +kernel : decode cX10_hand 64 = .ok (.getfield 68, 3)) ?_
        refine j_iload_n hE (by decide +kernel : decode cX10_hand 67 = .ok (.iload_n 3, 1)) rfl rfl ?_
        refine j_if_eq hE (by decide +kernel : decode cX10_hand 68 = .ok (.ifCond .eq 7, 3)) (tgt := 75) (by decide) (fun q => ?_) (fun q => ?_)
        · replace h := h.1 q
          refine j_iconst hE (by decide +kernel : decode cX10_hand 75 = .ok (.iconst 0, 1)) (v := (0 : Int32)) (by decide) ?_
          refine j_weak [some (.ref th), none, none, none, none] ⟨rfl, trivial⟩ ?_
          exact S_PV_hand_76 hE _ _ _ _ _ _ _ _ h
        · replace h := h.2 q
          refine j_iconst hE (by decide +kernel : decode cX10_hand 71 = .ok (.iconst 1, 1)) (v := (1 : Int32)) (by decide) ?_
          refine j_goto hE (by decide +kernel : decode cX10_hand 72 = .ok (.goto 4, 3)) (tgt := 76) (by decide) ?_
          refine j_weak [some (.ref th), none, none, none, none] ⟨rfl, trivial⟩ ?_
          exact S_PV_hand_76 hE _ _ _ _ _ _ _ _ h
      · replace h := h.2 q
        refine j_weak [none, none, none, none, none] trivial ?_
        exact S_PV_hand_35 hE _ h
set_option maxHeartbeats 4000000 in
set_option maxRecDepth 100000 in
theorem rl_PV_hand {Γ : GAM} {l : Launch} {th : Nat} {p0 : Int32} {p1 : Int32} {p2 : Int32} {g : GH} {K : Int32 → GH → Prop} (h0 : B_PV_hand_0 Γ K th p0 p1 p2 g) : MetA Γ l yX10_hand cX10_hand 5 (some (.boolean)) 7 171 [.ref th, .int p0, .int p1, .int p2] g (fun r g' => ∃ x, r = some (.int x) ∧ K x g') := by
  refine MetA.introL (Lx := [some (.ref th), some (.int p0), some (.int p1), some (.int p2), none]) (by decide) (Nat.le_of_ble_eq_true rfl) rfl rfl ?_
  intro E hEl hE hnm
  exact S_PV_hand_0 hE th p0 p1 p2 g h0
theorem mt_PV_hand {Γ : GAM} {l : Launch} (th : Nat) (p0 : Int32) (p1 : Int32) (p2 : Int32) (g : GH) (K : Int32 → GH → Prop) (h : Sp_PV_hand Γ th p0 p1 p2 g K) : MetA Γ l yX10_hand cX10_hand 5 (some (.boolean)) 7 171 [.ref th, .int p0, .int p1, .int p2] g (fun r g' => ∃ x, r = some (.int x) ∧ K x g') := by
  obtain ⟨C, s, n, rfl, hI, hW, hR, hK⟩ := PVC.e h
  have he := hI.en
  obtain ⟨hkd, ⟨h1, h2⟩, -, -, -, -, hnow, hsiz⟩ := hI.pk
  have hP := hI.2.2.2.2.2.2.1
  have hlen := hW.len
  obtain ⟨m1, m2, m3, m4, m5⟩ := hP.2.2.1
  unfold p_hand q_hand at hK
  refine rl_PV_hand ?_
  have hno : ¬ ok_hand s p0 p1 p2 → K 0 g := fun u => hK C g _ _ (if_neg u) (if_neg u) (FrC.rf he) rfl hI hR.dn
  unfold B_PV_hand_0 B_PV_hand_35
  refine ⟨hkd, _, h1, h2, c_D C, s, rfl, hP, hlen.2.2.1, fun u => ⟨fun _ => hno (fun z => u z.2.1), fun a z => by cases z⟩, fun v x hv hvl hx hkx => ⟨fun z => (by cases z), fun a ha => ?_⟩⟩
  cases ha
  have hin : 0 ≤ p0 ∧ p0 ≤ nI (s_env s).length - 1 := (wn_c (by omega)).mpr ⟨v, hv, hvl⟩
  refine pv_ite (fun u => hno (fun z => u z.2.2)) (fun u => ⟨hkd, _, h1, h2, ?_⟩)
  obtain ⟨h0, hh0, hh6⟩ : ∃ h0, p1 = nI h0 ∧ h0 < 6 := by
    have hn := nj_of u.1
    have h2 := u.2
    rw [hn.1] at h2
    exact ⟨_, hn.1, by have := (nj_le (b := 5) hn.2 (by omega)).mp h2; omega⟩
  have h10 : (10 : Int32) + p1 = nI (10 + h0) := by rw [hh0]; exact nI_add9 10 h0
  rw [h10]
  rw [m4, show ((600 : Int32) = nI 600) from rfl, nj_lt (by omega) (by omega)]
  refine ⟨fun u3 => ⟨hkd, _, h1, h2, h2, ?_⟩, fun u3 => hno (fun z => u3 (by have := z.1; omega))⟩
  have ok : ok_hand s p0 p1 p2 := ⟨by omega, hin, u⟩
  rintro g1 hg1
  obtain ⟨yv, wv, Lv, r1, r2, r3, r4, r5⟩ := hP.2.2.2.2.1.2.2 v x hx
  obtain ⟨⟨x1, x2⟩, -, -, -, -, lo, ⟨l1, l2, l3⟩, hLo⟩ := id r3
  have f1 : FrX (d_p (c_D C)) [648] [] g g1 := by rw [hg1]; exact FrX.sI (by decide)
  have k1 := f1.fr (als := []) he
  have e1 : Kd g1 = Kd g ∧ Gr g1 = Gr g ∧ Hn g1 = Hn g ∧ Hu g1 = Hu g := by rw [hg1]; exact ⟨rfl, rfl, rfl, rfl⟩
  have hR' := hR
  obtain ⟨q1, q2, q3⟩ := hR'
  refine ⟨by rw [e1.1]; exact hkx, lo, by rw [e1.2.1]; exact l1, by omega, by omega, ?_⟩
  rintro _ _ rfl rfl z1 z2 z3 z4
  have hnw : Gi (nO g1 8 4) 1408 (c_x C) = s_now s := by
    show Gi g1 1408 (c_x C) = _
    rw [hg1, Gi_sI, if_neg (fun z => absurd z.1 (by decide))]; exact hnow
  have hk12 : Kd (nO g1 8 4) (c_x C) = 12 := by rw [Kd_nO, if_neg (by have := hI.1.1.1; omega), e1.1]; exact hkd
  have hend : ∀ vl, vl = (if p2 = 0 then 0 else 1) → ∀ g', Fr [] [] [lo] g1 g' → (∀ L, LOG Γ g1 lo L → LOG Γ g' lo (L ++ [(nI (10 + h0), s_now s, vl, s_now s)])) → (Hn g' ≤ Hn g1 + 20 ∧ Hu g' ≤ Hu g1 + 6000) → K 1 g' := fun vl hvl' g' hf hL' hh => by
    have hpc : ∀ c, Gi g' c (d_p (c_D C)) = Gi g1 c (d_p (c_D C)) ∨ c < 128 := fun c => by
      by_cases hc : 128 ≤ c
      · exact .inl (hf.gi (by rw [e1.2.2.1]; exact hP.2.1.1.1) (by simp) hc)
      · exact .inr (by omega)
    obtain ⟨hF, hI', hRM'⟩ := hI.log (s' := u_tel s (s_tel s ++ [(p0, p1, s_now s, p2)])) hR (f := 648) (by decide) hg1 hf (.inr l2) hh (fun kk => by
      refine hP.logE (y := (nI (10 + h0), s_now s, vl, s_now s)) hlen.2.2.1 hx l1 kk ⟨by decide, by decide⟩ (by decide) ⟨?_, ?_, ?_, ?_, ?_⟩ (fun L hl hL => ?_) rfl rfl rfl rfl (fun v sh L z => z) rfl (fun e => rfl) (fun e L he' z => ?_) ?_
      · rw [(hpc _).resolve_right (by decide), hg1, Gi_sI, if_neg (fun z => absurd z.1 (by decide))]; exact m1
      · rw [(hpc _).resolve_right (by decide), hg1, Gi_sI, if_neg (fun z => absurd z.1 (by decide))]; exact m2
      · rw [(hpc _).resolve_right (by decide), hg1, Gi_sI, if_neg (fun z => absurd z.1 (by decide))]; exact m3
      · rw [(hpc _).resolve_right (by decide), hg1, Gi_sI, if_pos ⟨rfl, rfl⟩, m4, nj_s]
        show _ = nI (s_tel s ++ _).length
        rw [List.length_append]; rfl
      · rw [(hpc _).resolve_right (by decide), hg1, Gi_sI, if_neg (fun z => absurd z.1 (by decide))]; exact m5
      · exact hL' L (hL.fr k1 ⟨by decide, by decide⟩ (by simp))
      · rw [hv, hh0]
        exact z.tel (by omega) (by rw [hP.2.2.2.2.1.2.1] at he'; omega) hh6 hvl'
      · show (s_evt s).length + (s_rea s).length + (s_tel s ++ _).length = _
        rw [List.length_append]; simp only [List.length_cons, List.length_nil]; omega) (fun z => z) rfl (fun z => z) (fun z => z.cg rfl rfl rfl) (fun z => z) (by show (s_evt s).length + (s_rea s).length + (s_tel s ++ _).length ≤ _; rw [List.length_append]; simp only [List.length_cons, List.length_nil]; omega)
    exact hK C _ _ _ (if_pos ok) (if_pos ok) hF rfl hI' hRM'
  have htp : ∀ vl, vl = (if p2 = 0 then 0 else 1) → B_PV_hand_76 Γ K (c_x C) vl (s_now s) (nI (10 + h0)) (Hn g1) (Hn g1) lo (nO g1 8 4) := fun vl hvl' => by
    unfold B_PV_hand_76
    refine ⟨hk12, ?_⟩
    rw [hnw]
    exact told_push (k1.en he) (hP.1.2.2.fr k1) (k1.nt hP.1.2.1) ⟨by omega, by omega⟩ (hLo.fr k1 ⟨by decide, by decide⟩ (by simp)) (by omega) rfl (hend vl hvl')
  refine ⟨hk12, ?_⟩
  rw [hnw]
  exact ⟨fun z => htp 0 (by rw [if_pos z]), fun z => htp 1 (by rw [if_neg z])⟩
def Sp_PV_event (Γ : GAM) (x : Nat) (p0 p1 p2 p3 : Int32) (g : GH) (K : Int32 → GH → Prop) : Prop := PVC Γ x g K (fun s => p_event s p0 p1 p2 p3) (fun s => q_event s p0 p1 p2 p3)
-- the walk of PV_event
set_option maxRecDepth 100000 in
def B_PV_event_79 (Γ : GAM) (K : Int32 → GH → Prop)  (g : GH) : Prop :=
  K (0 : Int32) g
set_option maxHeartbeats 4000000 in
set_option maxRecDepth 100000 in
theorem S_PV_event_79 {Γ : GAM} {E : EV} {K : Int32 → GH → Prop} (hE : GE Γ E cX10_event 7 RX10 (some (.boolean)) 7 171 (fun r g' => ∃ x, r = some (.int x) ∧ K x g'))  (g : GH) (h : B_PV_event_79 Γ K  g) : JW Γ E 79 [none, none, none, none, none, none, none] [] g := by
  unfold B_PV_event_79 at h
  refine j_iconst hE (by decide +kernel : decode cX10_event 79 = .ok (.iconst 0, 1)) (v := (0 : Int32)) (by decide) ?_
  exact j_zret hE (Or.inl rfl) (by decide +kernel : decode cX10_event 80 = .ok (.ireturn, 1)) ⟨_, rfl, h⟩
set_option maxRecDepth 100000 in
def B_PV_event_46 (Γ : GAM) (K : Int32 → GH → Prop) (l0 : Nat) (l2 : Int32) (l3 : Int32) (l4 : Int32) (l5 : Option Nat) (s0 : Int32) (g : GH) : Prop :=
  ((l5 = none → B_PV_event_79 Γ K g) ∧ (∀ a1 : Nat, l5 = some a1 → ((s0 = 0 → B_PV_event_79 Γ K g) ∧ (¬ (s0 = 0) → Kd g l0 = 12 ∧ Sp_PV_isUpToNow Γ l0 l3 g (fun (x3 : Int32) (g2 : GH) => ((x3 = 0 → B_PV_event_79 Γ K g2) ∧ (¬ (x3 = 0) → Kd g2 l0 = 12 ∧ ∃ a4 : Nat, Gr g2 1410 l0 = some a4 ∧ Kd g2 a4 = 6 ∧ (((Gi g2 646 a4) < (600 : Int32) → Kd g2 l0 = 12 ∧ ∃ a5 : Nat, Gr g2 1410 l0 = some a5 ∧ Kd g2 a5 = 6 ∧ Kd g2 a5 = 6 ∧ ∀ g6 : GH, g6 = sI g2 646 a5 ((Gi g2 646 a5) + (1 : Int32)) → Kd g6 a1 = 2 ∧ ∃ a7 : Nat, Gr g6 133 a1 = some a7 ∧ Hn g6 + 1 ≤ gB Γ + NCC ∧ Hu g6 + 4 ≤ NSS ∧ ∀ (a8 : Nat) (g9 : GH), a8 = Hn g6 → g9 = nO g6 8 4 → (∀ f, Gi g6 f (Hn g6) = 0) → (∀ f, Gr g6 f (Hn g6) = none) → (∀ c, free g6 c (Hn g6)) → (∀ a, Hn g6 ≤ a → Kd g6 a = 0) → Kd g9 l0 = 12 ∧ Sp_To_init Γ a8 l2 l3 l4 (Gi g9 1408 l0) g9 (fun (g10 : GH) => Kd g10 a7 = 1 ∧ Sp_AL_add_1 Γ a7 a8 g10 (fun (x12 : Int32) (g11 : GH) => K (1 : Int32) g11))) ∧ (¬ ((Gi g2 646 a4) < (600 : Int32)) → B_PV_event_79 Γ K g2)))))))))
set_option maxHeartbeats 4000000 in
set_option maxRecDepth 100000 in
theorem S_PV_event_46 {Γ : GAM} {E : EV} {K : Int32 → GH → Prop} (hE : GE Γ E cX10_event 7 RX10 (some (.boolean)) 7 171 (fun r g' => ∃ x, r = some (.int x) ∧ K x g')) (l0 : Nat) (l2 : Int32) (l3 : Int32) (l4 : Int32) (l5 : Option Nat) (s0 : Int32) (g : GH) (h : B_PV_event_46 Γ K l0 l2 l3 l4 l5 s0 g) : JW Γ E 46 [some (.ref l0), none, some (.int l2), some (.int l3), some (.int l4), some (va_rf l5), none] [.int s0] g := by
  unfold B_PV_event_46 at h
  refine j_istore hE (by decide +kernel : decode cX10_event 46 = .ok (.istore 6, 2)) (Nat.le_of_ble_eq_true rfl) (nl2_rf _) ?_
  refine j_aloadQ hE (by decide +kernel : decode cX10_event 48 = .ok (.aload 5, 2)) rfl ?_
  refine j_ifnull hE (by decide +kernel : decode cX10_event 50 = .ok (.ifnull 29, 3)) (tgt := 79) (by decide) (fun q => ?_) (fun a1 q => ?_)
  · replace h := h.1 q; subst q
    refine j_weak [none, none, none, none, none, none, none] trivial ?_
    exact S_PV_event_79 hE _ h
  · replace h := h.2 a1 q; subst q
    refine j_iload hE (by decide +kernel : decode cX10_event 53 = .ok (.iload 6, 2)) rfl ?_
    refine j_if_eq hE (by decide +kernel : decode cX10_event 55 = .ok (.ifCond .eq 24, 3)) (tgt := 79) (by decide) (fun q => ?_) (fun q => ?_)
    · replace h := h.1 q
      refine j_weak [none, none, none, none, none, none, none] trivial ?_
      exact S_PV_event_79 hE _ h
    · replace h := h.2 q
      refine j_aload_n hE (by decide +kernel : decode cX10_event 58 = .ok (.aload_n 0, 1)) rfl rfl ?_
      refine j_iload_n hE (by decide +kernel : decode cX10_event 59 = .ok (.iload_n 3, 1)) rfl rfl ?_
      obtain ⟨hk, h⟩ := h
      refine j_callV hE rfl cl_X10_100 cf_11 im_X10_isUpToNow se_X10_isUpToNow ⟨by omega, by omega⟩ (As := [.int l3]) (rest := []) rfl rfl (Nat.le_of_ble_eq_true rfl) hk (by decide +kernel : decode cX10_event 60 = .ok (.invokevirtual 100, 3)) (mt_PV_isUpToNow _ _ _ _ h) ?_
      rintro _ g2 ⟨x3, rfl, h⟩
      refine j_if_eq hE (by decide +kernel : decode cX10_event 63 = .ok (.ifCond .eq 16, 3)) (tgt := 79) (by decide) (fun q => ?_) (fun q => ?_)
      · replace h := h.1 q
        refine j_weak [none, none, none, none, none, none, none] trivial ?_
        exact S_PV_event_79 hE _ h
      · replace h := h.2 q
        refine j_aload_n hE (by decide +kernel : decode cX10_event 66 = .ok (.aload_n 0, 1)) rfl rfl ?_
        obtain ⟨hk, h⟩ := h
        obtain ⟨a4, ha, h⟩ := h
        refine j_getRn hE fg_X10_16 hk ha (by decide +kernel : decode cX10_event 67 = .ok (.getfield 16, 3)) ?_
        obtain ⟨hk, h⟩ := h
        refine j_getI hE fg_X10_140 hk (by decide +kernel : decode cX10_event 70 = .ok (.getfield 140, 3)) ?_
        refine j_sipush hE (by decide +kernel : decode cX10_event 73 = .ok (.sipush 600, 3)) (v := (600 : Int32)) (by decide) ?_
        refine j_icmp_lt hE (by decide +kernel : decode cX10_event 76 = .ok (.if_icmp .lt 5, 3)) (tgt := 81) (by decide) (fun q => ?_) (fun q => ?_)
        · replace h := h.1 q
          refine j_aload_n hE (by decide +kernel : decode cX10_event 81 = .ok (.aload_n 0, 1)) rfl rfl ?_
          obtain ⟨hk, h⟩ := h
          obtain ⟨a5, ha, h⟩ := h
          refine j_getRn hE fg_X10_16 hk ha (by decide +kernel : decode cX10_event 82 = .ok (.getfield 16, 3)) ?_
          refine j_dup hE (by decide +kernel : decode cX10_event 85 = .ok (.dup, 1)) rfl ?_
          obtain ⟨hk, h⟩ := h
          refine j_getI hE fg_X10_140 hk (by decide +kernel : decode cX10_event 86 = .ok (.getfield 140, 3)) ?_
          refine j_iconst hE (by decide +kernel : decode cX10_event 89 = .ok (.iconst 1, 1)) (v := (1 : Int32)) (by decide) ?_
          refine j_iadd hE (by decide +kernel : decode cX10_event 90 = .ok (.iadd, 1)) ?_
          obtain ⟨hk, h⟩ := h
          obtain ⟨g6, hg⟩ : ∃ z, z = sI g2 646 a5 ((Gi g2 646 a5) + (1 : Int32)) := ⟨_, rfl⟩; replace h := h g6 hg
          refine j_putI hE fa_X10_140 hk (fun q => by cases q) (by decide +kernel : decode cX10_event 91 = .ok (.putfield 140, 3)) ?_
          rw [← hg]
          refine j_aload hE (by decide +kernel : decode cX10_event 94 = .ok (.aload 5, 2)) rfl ?_
          obtain ⟨hk, h⟩ := h
          obtain ⟨a7, ha, h⟩ := h
          refine j_getRn hE fg_X10_143 hk ha (by decide +kernel : decode cX10_event 96 = .ok (.getfield 143, 3)) ?_
          obtain ⟨hn1, hn2, h⟩ := h
          refine j_new hE cf_8 ck_X10_109 in_X7 (by decide +kernel : decode cX10_event 99 = .ok (.new 109, 3)) hn1 hn2 (fun f1 f2 f3 f4 => ?_)
          obtain ⟨a8, ha⟩ : ∃ z, z = Hn g6 := ⟨_, rfl⟩; obtain ⟨g9, hg⟩ : ∃ z, z = nO g6 8 4 := ⟨_, rfl⟩; replace h := h a8 g9 ha hg f1 f2 f3 f4; rw [← hg, ← ha]
          refine j_dup hE (by decide +kernel : decode cX10_event 102 = .ok (.dup, 1)) rfl ?_
          refine j_iload_n hE (by decide +kernel : decode cX10_event 103 = .ok (.iload_n 2, 1)) rfl rfl ?_
          refine j_iload_n hE (by decide +kernel : decode cX10_event 104 = .ok (.iload_n 3, 1)) rfl rfl ?_
          refine j_iload hE (by decide +kernel : decode cX10_event 105 = .ok (.iload 4, 2)) rfl ?_
          refine j_aload_n hE (by decide +kernel : decode cX10_event 107 = .ok (.aload_n 0, 1)) rfl rfl ?_
          obtain ⟨hk, h⟩ := h
          refine j_getI hE fg_X10_68 hk (by decide +kernel : decode cX10_event 108 = .ok (.getfield 68, 3)) ?_
          refine j_callI hE rfl cl_X10_111 im_X7_init rfl ⟨by omega, by omega⟩ (As := [.int l2, .int l3, .int l4, .int (Gi g9 1408 l0)]) (rest := [.ref a8, .ref a7]) (b := a8) rfl rfl (Nat.le_of_ble_eq_true rfl) (by decide +kernel : decode cX10_event 111 = .ok (.invokespecial 111, 3)) (mt_To_init _ _ _ _ _ _ _ h) ?_
          rintro _ g10 ⟨rfl, h⟩
          obtain ⟨hk, h⟩ := h
          refine j_callV hE rfl cl_X10_92 cf_0 im_Jx4a65c_add_9ea2d se_Jx4a65c_add_9ea2d ⟨by omega, by omega⟩ (As := [.ref a8]) (rest := []) rfl rfl (Nat.le_of_ble_eq_true rfl) hk (by decide +kernel : decode cX10_event 114 = .ok (.invokevirtual 92, 3)) (mt_AL_add_1 _ _ _ _ h) ?_
          rintro _ g11 ⟨x12, rfl, h⟩
          refine j_pop hE (by decide +kernel : decode cX10_event 117 = .ok (.pop, 1)) rfl ?_
          refine j_iconst hE (by decide +kernel : decode cX10_event 118 = .ok (.iconst 1, 1)) (v := (1 : Int32)) (by decide) ?_
          exact j_zret hE (Or.inr rfl) (by decide +kernel : decode cX10_event 119 = .ok (.ireturn, 1)) ⟨_, rfl, h⟩
        · replace h := h.2 q
          refine j_weak [none, none, none, none, none, none, none] trivial ?_
          exact S_PV_event_79 hE _ h
set_option maxRecDepth 100000 in
def B_PV_event_45 (Γ : GAM) (K : Int32 → GH → Prop) (l0 : Nat) (l2 : Int32) (l3 : Int32) (l4 : Int32) (l5 : Option Nat) (g : GH) : Prop :=
  B_PV_event_46 Γ K l0 l2 l3 l4 l5 (0 : Int32) g
set_option maxHeartbeats 4000000 in
set_option maxRecDepth 100000 in
theorem S_PV_event_45 {Γ : GAM} {E : EV} {K : Int32 → GH → Prop} (hE : GE Γ E cX10_event 7 RX10 (some (.boolean)) 7 171 (fun r g' => ∃ x, r = some (.int x) ∧ K x g')) (l0 : Nat) (l2 : Int32) (l3 : Int32) (l4 : Int32) (l5 : Option Nat) (g : GH) (h : B_PV_event_45 Γ K l0 l2 l3 l4 l5 g) : JW Γ E 45 [some (.ref l0), none, some (.int l2), some (.int l3), some (.int l4), some (va_rf l5), none] [] g := by
  unfold B_PV_event_45 at h
  refine j_iconst hE (by decide +kernel : decode cX10_event 45 = .ok (.iconst 0, 1)) (v := (0 : Int32)) (by decide) ?_
  exact S_PV_event_46 hE _ _ _ _ _ _ _ h
set_option maxRecDepth 100000 in
def B_PV_event_41 (Γ : GAM) (K : Int32 → GH → Prop) (l0 : Nat) (l2 : Int32) (l3 : Int32) (l4 : Int32) (l5 : Option Nat) (g : GH) : Prop :=
  B_PV_event_46 Γ K l0 l2 l3 l4 l5 (1 : Int32) g
set_option maxHeartbeats 4000000 in
set_option maxRecDepth 100000 in
theorem S_PV_event_41 {Γ : GAM} {E : EV} {K : Int32 → GH → Prop} (hE : GE Γ E cX10_event 7 RX10 (some (.boolean)) 7 171 (fun r g' => ∃ x, r = some (.int x) ∧ K x g')) (l0 : Nat) (l2 : Int32) (l3 : Int32) (l4 : Int32) (l5 : Option Nat) (g : GH) (h : B_PV_event_41 Γ K l0 l2 l3 l4 l5 g) : JW Γ E 41 [some (.ref l0), none, some (.int l2), some (.int l3), some (.int l4), some (va_rf l5), none] [] g := by
  unfold B_PV_event_41 at h
  refine j_iconst hE (by decide +kernel : decode cX10_event 41 = .ok (.iconst 1, 1)) (v := (1 : Int32)) (by decide) ?_
  refine j_goto hE (by decide +kernel : decode cX10_event 42 = .ok (.goto 4, 3)) (tgt := 46) (by decide) ?_
  exact S_PV_event_46 hE _ _ _ _ _ _ _ h
set_option maxRecDepth 100000 in
def B_PV_event_0 (Γ : GAM) (K : Int32 → GH → Prop) (th : Nat) (p0 : Int32) (p1 : Int32) (p2 : Int32) (p3 : Int32) (g : GH) : Prop :=
  Kd g th = 12 ∧ ∃ a1 : Nat, Gr g 1410 th = some a1 ∧ Kd g a1 = 6 ∧ Sp_Po_envelopeAt Γ a1 p0 g (fun (a3 : Option Nat) (g2 : GH) => Sp_PV_isWithin Γ p1 (1 : Int32) (8 : Int32) g2 (fun (x5 : Int32) (g4 : GH) => ((x5 = 0 → B_PV_event_45 Γ K th p1 p2 p3 a3 g4) ∧ (¬ (x5 = 0) → ((¬ (p1 = (3 : Int32)) → ((¬ (p3 = 0) → B_PV_event_45 Γ K th p1 p2 p3 a3 g4) ∧ (p3 = 0 → B_PV_event_41 Γ K th p1 p2 p3 a3 g4))) ∧ (p1 = (3 : Int32) → Sp_PV_isBox Γ p3 g4 (fun (x7 : Int32) (g6 : GH) => ((x7 = 0 → B_PV_event_45 Γ K th p1 p2 p3 a3 g6) ∧ (¬ (x7 = 0) → B_PV_event_41 Γ K th p1 p2 p3 a3 g6)))))))))
set_option maxHeartbeats 4000000 in
set_option maxRecDepth 100000 in
theorem S_PV_event_0 {Γ : GAM} {E : EV} {K : Int32 → GH → Prop} (hE : GE Γ E cX10_event 7 RX10 (some (.boolean)) 7 171 (fun r g' => ∃ x, r = some (.int x) ∧ K x g')) (th : Nat) (p0 : Int32) (p1 : Int32) (p2 : Int32) (p3 : Int32) (g : GH) (h : B_PV_event_0 Γ K th p0 p1 p2 p3 g) : JW Γ E 0 [some (.ref th), some (.int p0), some (.int p1), some (.int p2), some (.int p3), none, none] [] g := by
  unfold B_PV_event_0 at h
  refine j_aload_n hE (by decide +kernel : decode cX10_event 0 = .ok (.aload_n 0, 1)) rfl rfl ?_
  obtain ⟨hk, h⟩ := h
  obtain ⟨a1, ha, h⟩ := h
  refine j_getRn hE fg_X10_16 hk ha (by decide +kernel : decode cX10_event 1 = .ok (.getfield 16, 3)) ?_
  refine j_iload_n hE (by decide +kernel : decode cX10_event 4 = .ok (.iload_n 1, 1)) rfl rfl ?_
  obtain ⟨hk, h⟩ := h
  refine j_callV hE rfl cl_X10_133 cf_5 im_X4_envelopeAt se_X4_envelopeAt ⟨by omega, by omega⟩ (As := [.int p0]) (rest := []) rfl rfl (Nat.le_of_ble_eq_true rfl) hk (by decide +kernel : decode cX10_event 5 = .ok (.invokevirtual 133, 3)) (mt_Po_envelopeAt _ _ _ _ h) ?_
  rintro _ g2 ⟨a3, rfl, h⟩
  refine j_astoreQ hE (by decide +kernel : decode cX10_event 8 = .ok (.astore 5, 2)) (Nat.le_of_ble_eq_true rfl) rfl ?_
  refine j_iload_n hE (by decide +kernel : decode cX10_event 10 = .ok (.iload_n 2, 1)) rfl rfl ?_
  refine j_iconst hE (by decide +kernel : decode cX10_event 11 = .ok (.iconst 1, 1)) (v := (1 : Int32)) (by decide) ?_
  refine j_bipush hE (by decide +kernel : decode cX10_event 12 = .ok (.bipush 8, 2)) (v := (8 : Int32)) (by decide) ?_
  refine j_callS hE rfl cl_X10_64 st_X10_isWithin ⟨by omega, by omega⟩ (As := [.int p1, .int (1 : Int32), .int (8 : Int32)]) (rest := []) rfl rfl (Nat.le_of_ble_eq_true rfl) (by decide +kernel : decode cX10_event 14 = .ok (.invokestatic 64, 3)) (mt_PV_isWithin _ _ _ _ _ h) ?_
  rintro _ g4 ⟨x5, rfl, h⟩
  refine j_if_eq hE (by decide +kernel : decode cX10_event 17 = .ok (.ifCond .eq 28, 3)) (tgt := 45) (by decide) (fun q => ?_) (fun q => ?_)
  · replace h := h.1 q
    refine j_weak [some (.ref th), none, some (.int p1), some (.int p2), some (.int p3), some (va_rf a3), none] ⟨rfl, ⟨rfl, ⟨rfl, ⟨rfl, ⟨rfl, trivial⟩⟩⟩⟩⟩ ?_
    exact S_PV_event_45 hE _ _ _ _ _ _ h
  · replace h := h.2 q
    refine j_iload_n hE (by decide +kernel : decode cX10_event 20 = .ok (.iload_n 2, 1)) rfl rfl ?_
    refine j_iconst hE (by decide +kernel : decode cX10_event 21 = .ok (.iconst 3, 1)) (v := (3 : Int32)) (by decide) ?_
    refine j_icmp_ne hE (by decide +kernel : decode cX10_event 22 = .ok (.if_icmp .ne 14, 3)) (tgt := 36) (by decide) (fun q => ?_) (fun q => ?_)
    · replace h := h.1 q
      refine j_iload hE (by decide +kernel : decode cX10_event 36 = .ok (.iload 4, 2)) rfl ?_
      refine j_if_ne hE (by decide +kernel : decode cX10_event 38 = .ok (.ifCond .ne 7, 3)) (tgt := 45) (by decide) (fun q => ?_) (fun q => ?_)
      · replace h := h.1 q
        refine j_weak [some (.ref th), none, some (.int p1), some (.int p2), some (.int p3), some (va_rf a3), none] ⟨rfl, ⟨rfl, ⟨rfl, ⟨rfl, ⟨rfl, trivial⟩⟩⟩⟩⟩ ?_
        exact S_PV_event_45 hE _ _ _ _ _ _ h
      · replace h := h.2 q
        refine j_weak [some (.ref th), none, some (.int p1), some (.int p2), some (.int p3), some (va_rf a3), none] ⟨rfl, ⟨rfl, ⟨rfl, ⟨rfl, ⟨rfl, trivial⟩⟩⟩⟩⟩ ?_
        exact S_PV_event_41 hE _ _ _ _ _ _ h
    · replace h := h.2 q
      refine j_iload hE (by decide +kernel : decode cX10_event 25 = .ok (.iload 4, 2)) rfl ?_
      refine j_callS hE rfl cl_X10_137 st_X10_isBox ⟨by omega, by omega⟩ (As := [.int p3]) (rest := []) rfl rfl (Nat.le_of_ble_eq_true rfl) (by decide +kernel : decode cX10_event 27 = .ok (.invokestatic 137, 3)) (mt_PV_isBox _ _ _ h) ?_
      rintro _ g6 ⟨x7, rfl, h⟩
      refine j_if_eq hE (by decide +kernel : decode cX10_event 30 = .ok (.ifCond .eq 15, 3)) (tgt := 45) (by decide) (fun q => ?_) (fun q => ?_)
      · replace h := h.1 q
        refine j_weak [some (.ref th), none, some (.int p1), some (.int p2), some (.int p3), some (va_rf a3), none] ⟨rfl, ⟨rfl, ⟨rfl, ⟨rfl, ⟨rfl, trivial⟩⟩⟩⟩⟩ ?_
        exact S_PV_event_45 hE _ _ _ _ _ _ h
      · replace h := h.2 q
        refine j_goto hE (by decide +kernel : decode cX10_event 33 = .ok (.goto 8, 3)) (tgt := 41) (by decide) ?_
        refine j_weak [some (.ref th), none, some (.int p1), some (.int p2), some (.int p3), some (va_rf a3), none] ⟨rfl, ⟨rfl, ⟨rfl, ⟨rfl, ⟨rfl, trivial⟩⟩⟩⟩⟩ ?_
        exact S_PV_event_41 hE _ _ _ _ _ _ h
set_option maxHeartbeats 4000000 in
set_option maxRecDepth 100000 in
theorem rl_PV_event {Γ : GAM} {l : Launch} {th : Nat} {p0 : Int32} {p1 : Int32} {p2 : Int32} {p3 : Int32} {g : GH} {K : Int32 → GH → Prop} (h0 : B_PV_event_0 Γ K th p0 p1 p2 p3 g) : MetA Γ l yX10_event cX10_event 7 (some (.boolean)) 7 171 [.ref th, .int p0, .int p1, .int p2, .int p3] g (fun r g' => ∃ x, r = some (.int x) ∧ K x g') := by
  refine MetA.introL (Lx := [some (.ref th), some (.int p0), some (.int p1), some (.int p2), some (.int p3), none, none]) (by decide) (Nat.le_of_ble_eq_true rfl) rfl rfl ?_
  intro E hEl hE hnm
  exact S_PV_event_0 hE th p0 p1 p2 p3 g h0
theorem mt_PV_event {Γ : GAM} {l : Launch} (th : Nat) (p0 : Int32) (p1 : Int32) (p2 : Int32) (p3 : Int32) (g : GH) (K : Int32 → GH → Prop) (h : Sp_PV_event Γ th p0 p1 p2 p3 g K) : MetA Γ l yX10_event cX10_event 7 (some (.boolean)) 7 171 [.ref th, .int p0, .int p1, .int p2, .int p3] g (fun r g' => ∃ x, r = some (.int x) ∧ K x g') := by
  obtain ⟨C, s, n, rfl, hI, hW, hR, hK⟩ := PVC.e h
  have he := hI.en
  obtain ⟨hkd, ⟨h1, h2⟩, -, -, -, -, hnow, hsiz⟩ := hI.pk
  have hP := hI.2.2.2.2.2.2.1
  have hlen := hW.len
  obtain ⟨m1, m2, m3, m4, m5⟩ := hP.2.2.1
  unfold p_event q_event at hK
  refine rl_PV_event ?_
  have hno : ¬ ok_event s p0 p1 p2 p3 → K 0 g := fun u => hK C g _ _ (if_neg u) (if_neg u) (FrC.rf he) rfl hI hR.dn
  have h46 : ∀ v x, p0 = nI v → v < (s_env s).length → (d_es (c_D C))[v]? = some x → Kd g x = 2 → (1 ≤ p1 ∧ p1 ≤ 8) → ((p1 = 3 ∧ 0 ≤ p3 ∧ p3 ≤ 7) ∨ (¬ p1 = 3 ∧ p3 = 0)) → B_PV_event_46 Γ K (c_x C) p1 p2 p3 (some x) 1 g := fun v x hv hvl hx hkx u1 u0 => by
    have hin : 0 ≤ p0 ∧ p0 ≤ nI (s_env s).length - 1 := (wn_c (by omega)).mpr ⟨v, hv, hvl⟩
    unfold B_PV_event_46 B_PV_event_79
    refine ⟨fun z => (by cases z), fun a ha => ⟨fun z => absurd z (by decide), fun _ => ⟨hkd, hkd, ?_⟩⟩⟩
    cases ha
    rw [hnow]
    refine pv_ite (fun u2 => hno (fun z => u2 z.2.2.2.1)) (fun u2 => ⟨hkd, _, h1, h2, ?_⟩)
    rw [m2, show ((600 : Int32) = nI 600) from rfl, nj_lt (by omega) (by omega)]
    refine ⟨fun u3 => ⟨hkd, _, h1, h2, h2, ?_⟩, fun u3 => hno (fun z => u3 (by have := z.1; omega))⟩
    have ok : ok_event s p0 p1 p2 p3 := ⟨by omega, hin, u1, u2, u0⟩
    rintro g1 hg1
    obtain ⟨yv, wv, Lv, r1, r2, r3, r4, r5⟩ := hP.2.2.2.2.1.2.2 v x hx
    obtain ⟨⟨x1, x2⟩, -, -, -, -, lo, ⟨l1, l2, l3⟩, hLo⟩ := id r3
    have f1 : FrX (d_p (c_D C)) [646] [] g g1 := by rw [hg1]; exact FrX.sI (by decide)
    have k1 := f1.fr (als := []) he
    have e1 : Kd g1 = Kd g ∧ Gr g1 = Gr g ∧ Hn g1 = Hn g ∧ Hu g1 = Hu g := by rw [hg1]; exact ⟨rfl, rfl, rfl, rfl⟩
    have hR' := hR
    obtain ⟨q1, q2, q3⟩ := hR'
    refine ⟨by rw [e1.1]; exact hkx, lo, by rw [e1.2.1]; exact l1, by omega, by omega, ?_⟩
    rintro _ _ rfl rfl z1 z2 z3 z4
    have hnw : Gi (nO g1 8 4) 1408 (c_x C) = s_now s := by
      show Gi g1 1408 (c_x C) = _
      rw [hg1, Gi_sI, if_neg (fun z => absurd z.1 (by decide))]; exact hnow
    have hk12 : Kd (nO g1 8 4) (c_x C) = 12 := by rw [Kd_nO, if_neg (by have := hI.1.1.1; omega), e1.1]; exact hkd
    have hend : ∀ vl, vl = p3 → ∀ g', Fr [] [] [lo] g1 g' → (∀ L, LOG Γ g1 lo L → LOG Γ g' lo (L ++ [(p1, p2, vl, s_now s)])) → (Hn g' ≤ Hn g1 + 20 ∧ Hu g' ≤ Hu g1 + 6000) → K 1 g' := fun vl hvl' g' hf hL' hh => by
      have hpc : ∀ c, Gi g' c (d_p (c_D C)) = Gi g1 c (d_p (c_D C)) ∨ c < 128 := fun c => by
        by_cases hc : 128 ≤ c
        · exact .inl (hf.gi (by rw [e1.2.2.1]; exact hP.2.1.1.1) (by simp) hc)
        · exact .inr (by omega)
      obtain ⟨hF, hI', hRM'⟩ := hI.log (s' := u_evt s (s_evt s ++ [(p0, p1, p2, p3, s_now s)])) hR (f := 646) (by decide) hg1 hf (.inr l2) hh (fun kk => by
        refine hP.logE (y := (p1, p2, vl, s_now s)) hlen.2.2.1 hx l1 kk ⟨by decide, by decide⟩ (by decide) ⟨?_, ?_, ?_, ?_, ?_⟩ (fun L hl hL => ?_) rfl rfl rfl rfl (fun v sh L z => z) rfl (fun e => rfl) (fun e L he' z => ?_) ?_
        · rw [(hpc _).resolve_right (by decide), hg1, Gi_sI, if_neg (fun z => absurd z.1 (by decide))]; exact m1
        · rw [(hpc _).resolve_right (by decide), hg1, Gi_sI, if_pos ⟨rfl, rfl⟩, m2, nj_s]
          show _ = nI (s_evt s ++ _).length
          rw [List.length_append]; rfl
        · rw [(hpc _).resolve_right (by decide), hg1, Gi_sI, if_neg (fun z => absurd z.1 (by decide))]; exact m3
        · rw [(hpc _).resolve_right (by decide), hg1, Gi_sI, if_neg (fun z => absurd z.1 (by decide))]; exact m4
        · rw [(hpc _).resolve_right (by decide), hg1, Gi_sI, if_neg (fun z => absurd z.1 (by decide))]; exact m5
        · exact hL' L (hL.fr k1 ⟨by decide, by decide⟩ (by simp))
        · rw [hvl', hv]
          exact z.evt (by omega) (by rw [hP.2.2.2.2.1.2.1] at he'; omega) u1.2
        · show (s_evt s ++ _).length + (s_rea s).length + (s_tel s).length = _
          rw [List.length_append]; simp only [List.length_cons, List.length_nil]; omega) (fun z => z) rfl (fun z => z) (fun z => z.cg rfl rfl rfl) (fun z => z) (by show (s_evt s ++ _).length + (s_rea s).length + (s_tel s).length ≤ _; rw [List.length_append]; simp only [List.length_cons, List.length_nil]; omega)
      exact hK C _ _ _ (if_pos ok) (if_pos ok) hF rfl hI' hRM'
    refine ⟨hk12, ?_⟩
    rw [hnw]
    exact told_push (k1.en he) (hP.1.2.2.fr k1) (k1.nt hP.1.2.1) ⟨by omega, by omega⟩ (hLo.fr k1 ⟨by decide, by decide⟩ (by simp)) (by omega) rfl (hend p3 rfl)
  have h45 : ∀ o, (∀ x, o = some x → ¬ ok_event s p0 p1 p2 p3) → (o = none → ¬ ok_event s p0 p1 p2 p3) → B_PV_event_46 Γ K (c_x C) p1 p2 p3 o 0 g := fun o a b => by
    unfold B_PV_event_46 B_PV_event_79
    exact ⟨fun z => hno (b z), fun x z => ⟨fun _ => hno (a x z), fun w => absurd rfl w⟩⟩
  unfold B_PV_event_0 B_PV_event_45 B_PV_event_41
  refine ⟨hkd, _, h1, h2, c_D C, s, rfl, hP, hlen.2.2.1, fun u => ?_, fun v x hv hvl hx hkx => ?_⟩
  · have hn : ¬ ok_event s p0 p1 p2 p3 := fun z => u z.2.1
    have h1' : B_PV_event_46 Γ K (c_x C) p1 p2 p3 none 1 g := by
      unfold B_PV_event_46 B_PV_event_79
      exact ⟨fun _ => hno hn, fun x z => by cases z⟩
    have h0' := h45 none (fun x z => by cases z) (fun _ => hn)
    refine pv_ite (fun _ => h0') (fun _ => ⟨fun _ => ⟨fun _ => h0', fun _ => h1'⟩, fun _ => pv_ite (fun _ => h0') (fun _ => h1')⟩)
  · have h0' : ¬ ok_event s p0 p1 p2 p3 → B_PV_event_46 Γ K (c_x C) p1 p2 p3 (some x) 0 g := fun hn => h45 (some x) (fun _ _ => hn) (fun z => by cases z)
    refine pv_ite (fun u => h0' (fun z => u z.2.2.1)) (fun u => ⟨fun u3 => ⟨fun u4 => h0' (fun z => z.2.2.2.2.elim (fun w => u3 w.1) (fun w => u4 w.2)), fun u4 => h46 v x hv hvl hx hkx u (.inr ⟨u3, u4⟩)⟩, fun u3 => pv_ite (fun u4 => h0' (fun z => z.2.2.2.2.elim (fun w => u4 w.2) (fun w => w.1 u3))) (fun u4 => h46 v x hv hvl hx hkx u (.inl ⟨u3, u4⟩))⟩)
