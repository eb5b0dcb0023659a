/-! the class's face: an envelope is sent -/
theorem zip_push {α : Type} (l : List α) (y : α) : (l ++ [y]).zipIdx = l.zipIdx ++ [(y, l.length)] := by
  rw [List.zipIdx_append]
  show _ ++ [(y, 0 + l.length)] = _
  rw [Nat.zero_add]
theorem evOf_push {s : ST} {v : Nat} {y : Em} : evOf (u_env s (s_env s ++ [y])) v = if y.1 = nI v then evOf s v ++ [(s_env s).length] else evOf s v := by
  unfold evOf
  show (((s_env s ++ [y]).zipIdx).filter _).map _ = _
  rw [zip_push, List.filter_append, List.map_append]
  by_cases h : y.1 = nI v
  · rw [if_pos h, List.filter_cons, if_pos (by simp [h])]; rfl
  · rw [if_neg h, List.filter_cons, if_neg (by simp [h])]; simp
theorem evOf_lt {s : ST} {v e : Nat} (h : e ∈ evOf s v) : e < (s_env s).length := by
  unfold evOf at h
  obtain ⟨p, hp, rfl⟩ := List.mem_map.mp h
  have := List.mem_zipIdx (List.mem_filter.mp hp).1
  omega
theorem sHp_env {s : ST} {y : Em} (h0 : s_hof s (s_env s).length = 0) (h : Nat) (c : Int32) : sHp (u_env s (s_env s ++ [y])) h c = sHp s h c := by
  show (s_env s ++ [y]).zipIdx.foldl (hpS (u_env s (s_env s ++ [y])) h c) 0 = _
  rw [zip_push, List.foldl_append, List.foldl_cons, List.foldl_nil]
  show hpS s h c (sHp s h c) (y, (s_env s).length) = _
  unfold hpS
  rw [if_neg (fun z => by have := z.1; rw [h0] at this; omega), Int32.add_zero]
theorem ELG.nil {s : ST} (hW : WF s) {y : Em} : ELG (u_env s (s_env s ++ [y])) (s_env s).length [] := by
  have h200 := hW.len.2.2.1
  intro q
  refine ⟨fun k _ _ => ?_, ?_, fun h _ => ?_⟩
  · have : sEv (u_env s (s_env s ++ [y])) (nI (s_env s).length) (nI k) q = none := by
      show (s_evt s).zipIdx.foldl (evS (nI (s_env s).length) (nI k) q) none = none
      refine fold_no _ _ (fun p hp a => ?_)
      have hm := List.mem_zipIdx hp
      have hmem : p.1 ∈ s_evt s := by
        rw [hm.2.2]; exact List.getElem_mem _
      obtain ⟨⟨w1, w2⟩, -⟩ := hW.evt p.1 hmem
      unfold evS
      rw [if_neg]
      rintro ⟨z, _⟩
      rw [z, nj_cl (by omega)] at w2
      omega
    rw [this]; rfl
  · show _ = (s_rea s).foldl (unR (nI (s_env s).length) q) (-1)
    rw [fold_no (s_rea s) _ (fun x hx a => ?_)]
    · rfl
    · obtain ⟨⟨w1, w2⟩, -⟩ := hW.rea x hx
      unfold unR
      rw [if_neg]
      rintro ⟨z, _⟩
      rw [z, nj_cl (by omega)] at w2
      omega
  · show _ = (s_tel s).foldl (woS (nI (s_env s).length) (nI h) q) (-1)
    rw [fold_no (s_tel s) _ (fun x hx a => ?_)]
    · rfl
    · obtain ⟨⟨w1, w2⟩, -⟩ := hW.tel x hx
      unfold woS
      rw [if_neg]
      rintro ⟨z, _⟩
      rw [z, nj_cl (by omega)] at w2
      omega
/-- an envelope more -/
theorem PoI.env {Γ : GAM} {D : DIR} {g g9 g1 g' : GH} {s : ST} {x v w eo : Nat} {y : Em} (h : PoI Γ D g s) (hW : WF s) (k9 : Fr [] [] [] g g9) (k1 : Fr [] [] [d_el D] g9 g1) (k2 : Fr [] [] [eo] g1 g') (hE : EOB Γ g9 x (s_env s).length w y []) (h0 : Gi g9 134 x = -1) (hy : y.1 = nI v) (hv : (d_vs D)[v]? = some w) (heo : Gr g 1284 w = some eo)
    (hA : AC Γ g1 (d_el D) (d_es D ++ [x])) (hB : AC Γ g' eo ((evOf s v).map (dE D) ++ [x])) : PoI Γ (D.1, d_vs D, d_es D ++ [x]) g' (u_env s (s_env s ++ [y])) := by
  obtain ⟨⟨he, ht, hs⟩, hl, ⟨c1, c2, c3, c4, c5⟩, ⟨v1, v2, v3, v4⟩, ⟨a1, a2, a3⟩, hh, hm, hj⟩ := h
  obtain ⟨⟨p1, p2⟩, ⟨_, lv2, lv3⟩, ⟨_, le2, le3⟩, ⟨_, lm2, lm3⟩, ⟨_, lc2, lc3⟩, -, ⟨kv, ke, _⟩, ⟨bv, be, _⟩⟩ := id hl
  obtain ⟨yv, Lv, q1, q2, q3, q4⟩ := v3 v w hv
  have hq2 := q2
  obtain ⟨⟨w1, w2⟩, -, lo, eo', -, ⟨o1, o2, o3⟩, hLo, hAe⟩ := hq2
  rw [heo] at o1; cases o1
  have beo := hAe.1.1
  have keo := hAe.1.2
  have kk1 : Fr [] [] [d_el D] g g1 := (k9.up (by simp) (by simp) (by simp)).tr k1
  have kk : Fr [] [] [d_el D, eo] g g' := (kk1.up (by simp) (by simp) (by simp)).tr (k2.up (by simp) (by simp) (by simp))
  have kk9 : Fr [] [] [d_el D, eo] g9 g' := (k1.up (by simp) (by simp) (by simp)).tr (k2.up (by simp) (by simp) (by simp))
  have nl : ∀ al, Co g al ≠ 641 → Co g al ≠ 1284 → al ∉ [d_el D, eo] := fun al ha hb z => by
    rcases List.mem_cons.mp z with z | z
    · exact ha (by rw [z]; exact le2)
    · exact hb (by rw [List.mem_singleton.mp z]; exact o2)
  have l9 : (Co g9 (d_el D) = 641 ∧ Ow g9 (d_el D) = d_p D) ∧ Co g9 eo = 1284 ∧ Ow g9 eo = w := by
    have z1 := k9.kd be (by omega)
    have z2 := k9.kd beo (by omega)
    exact ⟨⟨z1.2.1.trans le2, z1.2.2.1.trans le3⟩, z2.2.1.trans o2, z2.2.2.1.trans o3⟩
  have hp := PF.n
  have h200 := hW.len.2.2.1
  have h60 := hW.len.1
  have hvl : v < (d_vs D).length := (List.getElem?_eq_some_iff.mp hv).1
  have hof0 : s_hof s (s_env s).length = 0 := Classical.byContradiction (fun z => by have := (hW.hof _).2 z; omega)
  have hd : d_p (D.1, d_vs D, d_es D ++ [x]) = d_p D := rfl
  refine ⟨⟨kk.en he, kk.nt ht, hs.fr kk⟩, hl.fr kk, ⟨by rw [hd, kk.gi p1 (by simp) (by decide)]; exact c1, by rw [hd, kk.gi p1 (by simp) (by decide)]; exact c2, by rw [hd, kk.gi p1 (by simp) (by decide)]; exact c3, by rw [hd, kk.gi p1 (by simp) (by decide)]; exact c4, by rw [hd, kk.gi p1 (by simp) (by decide)]; exact c5⟩, ⟨v1.fr kk (nl _ (by rw [lv2]; decide) (by rw [lv2]; decide)) (by simp) (by simp), v2, fun v' x' hx' => ?_, v4⟩, ⟨?_, ?_, fun e x' hx' => ?_⟩, fun e x' hx' => ?_, hm.fr kk hp (nl _ (by rw [lm2]; decide) (by rw [lm2]; decide)), hj.fr kk hp he (fun al ha z => ?_)⟩
  · obtain ⟨y', L', r1, r2, r3, r4⟩ := v3 v' x' hx'
    have hv'l : v' < (d_vs D).length := (List.getElem?_eq_some_iff.mp hx').1
    refine ⟨y', L', r1, ?_, r3, r4⟩
    have hmap : (evOf s v').map (fun e => (d_es (D.1, d_vs D, d_es D ++ [x])).getD e 0) = (evOf s v').map (fun e => (d_es D).getD e 0) := by
      refine List.map_congr_left (fun e he => ?_)
      show (d_es D ++ [x]).getD e 0 = _
      have := evOf_lt he
      rw [List.getD_eq_getElem?_getD, List.getD_eq_getElem?_getD, List.getElem?_append_left (by omega)]
    by_cases z : v' = v
    · subst z
      have hx2 : (d_vs D)[v']? = some x' := hx'
      rw [hv] at hx2; cases hx2
      rw [evOf_push, if_pos hy, List.map_append, hmap]
      have hnew : [(s_env s).length].map (fun e => (d_es (D.1, d_vs D, d_es D ++ [x])).getD e 0) = [x] := by
        show [(d_es D ++ [x]).getD (s_env s).length 0] = [x]
        rw [List.getD_eq_getElem?_getD, ← a2, List.getElem?_append_right (Nat.le_refl _)]; simp
      rw [hnew]
      obtain ⟨⟨t1, t2⟩, ⟨t3, t4, t5⟩, lo2, eo2, ⟨l1, l2, l3⟩, ⟨e1, e2, e3⟩, hL2, hA2⟩ := r2
      rw [heo] at e1; cases e1
      have hk := kk.kd t1 (by omega)
      have hkl := kk.kd hL2.lt.1 (by have := hL2.lt.2; omega)
      have hke := kk.kd beo (by omega)
      exact ⟨⟨by have := kk.hn; omega, by rw [hk.1]; exact t2⟩, ⟨by rw [kk.gi t1 (by simp) (by decide)]; exact t3, by rw [kk.gi t1 (by simp) (by decide)]; exact t4, by rw [kk.gi t1 (by simp) (by decide)]; exact t5⟩, lo2, eo, ⟨by rw [kk.gr t1 (by decide)]; exact l1, by rw [hkl.2.1]; exact l2, by rw [hkl.2.2.1]; exact l3⟩, ⟨by rw [kk.gr t1 (by decide)]; exact heo, by rw [hke.2.1]; exact e2, by rw [hke.2.2.1]; exact e3⟩, hL2.fr kk hp (nl _ (by rw [l2]; decide) (by rw [l2]; decide)), hB⟩
    · rw [evOf_push, if_neg (fun q => z ((nj_eq (by omega) (by omega)).mp (hy.symm.trans q)).symm), hmap]
      refine r2.fr kk hp (fun al ha q => ?_)
      rcases List.mem_cons.mp ha with ha | ha
      · rw [ha, le2] at q
        rcases q.2 with q | q <;> exact absurd q (by decide)
      · rw [List.mem_singleton.mp ha, o3] at q
        exact z (v4 v' v x' hx' (by rw [← q.1]; exact hv))
  · refine hA.fr k2 (fun z => ?_) (by simp) (by simp)
    have z1 : Co g1 (d_el D) = 641 := (kk1.kd be (by omega)).2.1.trans le2
    rw [List.mem_singleton] at z
    have z2 : Co g1 eo = 1284 := (kk1.kd beo (by omega)).2.1.trans o2
    have z' : d_el D = eo := z
    rw [z', z2] at z1
    exact absurd z1 (by decide)
  · show (d_es D ++ [x]).length = (s_env s ++ [y]).length
    rw [List.length_append, List.length_append, a2]; rfl
  · have hx2 : (d_es D ++ [x])[e]? = some x' := hx'
    rw [List.getElem?_append] at hx2
    split at hx2
    · rename_i hlt
      obtain ⟨y', w', L', r1, r2, r3, r4, r5⟩ := a3 e x' hx2
      refine ⟨y', w', L', ?_, r2, r3.fr kk hp (fun al ha q => ?_), r4, r5⟩
      · show (s_env s ++ [y])[e]? = some y'
        rw [List.getElem?_append_left (by omega)]; exact r1
      · rcases List.mem_cons.mp ha with ha | ha
        · rw [ha, le2] at q
          exact absurd q.2 (by decide)
        · rw [List.mem_singleton.mp ha, o2] at q
          exact absurd q.2 (by decide)
    · rename_i hlt
      have hj1 := (List.getElem?_eq_some_iff.mp hx2).1
      simp only [List.length_cons, List.length_nil] at hj1
      have e0 : e - (d_es D).length = 0 := by omega
      have ee : e = (s_env s).length := by omega
      rw [e0] at hx2
      simp at hx2
      subst hx2
      subst ee
      refine ⟨y, w, [], ?_, ?_, hE.fr kk9 hp (fun al ha q => ?_), ELG.nil hW, Nat.zero_le _⟩
      · show (s_env s ++ [y])[(s_env s).length]? = some y
        rw [List.getElem?_append_right (Nat.le_refl _)]; simp
      · rw [hy, nj_cl (by omega)]; exact hv
      · rcases List.mem_cons.mp ha with ha | ha
        · rw [ha, l9.1.1] at q
          exact absurd q.2 (by decide)
        · rw [List.mem_singleton.mp ha, l9.2.1] at q
          exact absurd q.2 (by decide)
  · have hx2 : (d_es D ++ [x])[e]? = some x' := hx'
    rw [List.getElem?_append] at hx2
    split at hx2
    · obtain ⟨y', w', L', r1, r2, r3, r4, r5⟩ := a3 e x' hx2
      rw [kk.gi r3.1.1 (by simp) (by decide)]
      exact hh e x' hx2
    · rename_i hlt
      have hj1 := (List.getElem?_eq_some_iff.mp hx2).1
      simp only [List.length_cons, List.length_nil] at hj1
      have e0 : e - (d_es D).length = 0 := by omega
      have ee : e = (s_env s).length := by omega
      rw [e0] at hx2
      simp at hx2
      subst hx2
      subst ee
      rw [kk9.gi hE.1.1 (by simp) (by decide), h0]
      show -1 = hsh s (s_env s).length
      unfold hsh
      rw [if_pos hof0]
  · rcases List.mem_cons.mp ha with ha | ha
    · rw [ha, le2] at z
      exact absurd z.2 (by decide)
    · rw [List.mem_singleton.mp ha, o2] at z
      exact absurd z.2 (by decide)
def Sp_PV_send (Γ : GAM) (x : Nat) (p0 p1 p2 : Int32) (g : GH) (K : Int32 → GH → Prop) : Prop := PVC Γ x g K (fun s => p_send s p0 p1 p2) (fun s => q_send s p0 p1 p2)
-- the walk of PV_send
set_option maxRecDepth 100000 in
def B_PV_send_46 (Γ : GAM) (K : Int32 → GH → Prop)  (g : GH) : Prop :=
  K (-1 : Int32) g
set_option maxHeartbeats 4000000 in
set_option maxRecDepth 100000 in
theorem S_PV_send_46 {Γ : GAM} {E : EV} {K : Int32 → GH → Prop} (hE : GE Γ E cX10_send 7 RX10 (some (.int)) 7 171 (fun r g' => ∃ x, r = some (.int x) ∧ K x g'))  (g : GH) (h : B_PV_send_46 Γ K  g) : JW Γ E 46 [none, none, none, none, none, none, none] [] g := by
  unfold B_PV_send_46 at h
  refine j_iconst hE (by decide +kernel : decode cX10_send 46 = .ok (.iconst (-1), 1)) (v := (-1 : Int32)) (by decide) ?_
  exact j_iret hE (by decide +kernel : decode cX10_send 47 = .ok (.ireturn, 1)) ⟨_, rfl, h⟩
set_option maxRecDepth 100000 in
def B_PV_send_0 (Γ : GAM) (K : Int32 → GH → Prop) (th : Nat) (p0 : Int32) (p1 : Int32) (p2 : Int32) (g : GH) : Prop :=
  Kd g th = 12 ∧ ∃ a1 : Nat, Gr g 1410 th = some a1 ∧ Kd g a1 = 6 ∧ Sp_Po_voterAt Γ a1 p0 g (fun (a3 : Option Nat) (g2 : GH) => ((a3 = none → B_PV_send_46 Γ K g2) ∧ (∀ a4 : Nat, a3 = some a4 → Kd g2 th = 12 ∧ Sp_PV_isUpToNow Γ th p1 g2 (fun (x6 : Int32) (g5 : GH) => ((x6 = 0 → B_PV_send_46 Γ K g5) ∧ (¬ (x6 = 0) → Sp_PV_isChoice Γ p2 g5 (fun (x8 : Int32) (g7 : GH) => ((x8 = 0 → B_PV_send_46 Γ K g7) ∧ (¬ (x8 = 0) → Kd g7 th = 12 ∧ ∃ a9 : Nat, Gr g7 1410 th = some a9 ∧ Kd g7 a9 = 6 ∧ ∃ a10 : Nat, Gr g7 641 a9 = some a10 ∧ Kd g7 a10 = 1 ∧ Sp_AL_size Γ a10 g7 (fun (x12 : Int32) (g11 : GH) => ((x12 < (200 : Int32) → Kd g11 th = 12 ∧ ∃ a13 : Nat, Gr g11 1410 th = some a13 ∧ Kd g11 a13 = 6 ∧ ∃ a14 : Nat, Gr g11 641 a13 = some a14 ∧ Kd g11 a14 = 1 ∧ Sp_AL_size Γ a14 g11 (fun (x16 : Int32) (g15 : GH) => Hn g15 + 1 ≤ gB Γ + NCC ∧ Hu g15 + 15 ≤ NSS ∧ ∀ (a17 : Nat) (g18 : GH), a17 = Hn g15 → g18 = nO g15 1 15 → (∀ f, Gi g15 f (Hn g15) = 0) → (∀ f, Gr g15 f (Hn g15) = none) → (∀ c, free g15 c (Hn g15)) → (∀ a, Hn g15 ≤ a → Kd g15 a = 0) → Kd g18 th = 12 ∧ Sp_En_init Γ a17 x16 a4 p1 p2 (Gi g18 1408 th) g18 (fun (g19 : GH) => Kd g19 th = 12 ∧ ∃ a20 : Nat, Gr g19 1410 th = some a20 ∧ Kd g19 a20 = 6 ∧ ∃ a21 : Nat, Gr g19 641 a20 = some a21 ∧ Kd g19 a21 = 1 ∧ Sp_AL_add_1 Γ a21 a17 g19 (fun (x23 : Int32) (g22 : GH) => Kd g22 a4 = 11 ∧ ∃ a24 : Nat, Gr g22 1284 a4 = some a24 ∧ Kd g22 a24 = 1 ∧ Sp_AL_add_1 Γ a24 a17 g22 (fun (x26 : Int32) (g25 : GH) => K x16 g25))))) ∧ (¬ (x12 < (200 : Int32)) → B_PV_send_46 Γ K g11))))))))))))
set_option maxHeartbeats 4000000 in
set_option maxRecDepth 100000 in
theorem S_PV_send_0 {Γ : GAM} {E : EV} {K : Int32 → GH → Prop} (hE : GE Γ E cX10_send 7 RX10 (some (.int)) 7 171 (fun r g' => ∃ x, r = some (.int x) ∧ K x g')) (th : Nat) (p0 : Int32) (p1 : Int32) (p2 : Int32) (g : GH) (h : B_PV_send_0 Γ K th p0 p1 p2 g) : JW Γ E 0 [some (.ref th), some (.int p0), some (.int p1), some (.int p2), none, none, none] [] g := by
  unfold B_PV_send_0 at h
  refine j_aload_n hE (by decide +kernel : decode cX10_send 0 = .ok (.aload_n 0, 1)) rfl rfl ?_
  obtain ⟨hk, h⟩ := h
  obtain ⟨a1, ha, h⟩ := h
  refine j_getRn hE fg_X10_16 hk ha (by decide +kernel : decode cX10_send 1 = .ok (.getfield 16, 3)) ?_
  refine j_iload_n hE (by decide +kernel : decode cX10_send 4 = .ok (.iload_n 1, 1)) rfl rfl ?_
  obtain ⟨hk, h⟩ := h
  refine j_callV hE rfl cl_X10_96 cf_5 im_X4_voterAt se_X4_voterAt ⟨by omega, by omega⟩ (As := [.int p0]) (rest := []) rfl rfl (Nat.le_of_ble_eq_true rfl) hk (by decide +kernel : decode cX10_send 5 = .ok (.invokevirtual 96, 3)) (mt_Po_voterAt _ _ _ _ h) ?_
  rintro _ g2 ⟨a3, rfl, h⟩
  refine j_astoreQ hE (by decide +kernel : decode cX10_send 8 = .ok (.astore 4, 2)) (Nat.le_of_ble_eq_true rfl) rfl ?_
  refine j_aloadQ hE (by decide +kernel : decode cX10_send 10 = .ok (.aload 4, 2)) rfl ?_
  refine j_ifnull hE (by decide +kernel : decode cX10_send 12 = .ok (.ifnull 34, 3)) (tgt := 46) (by decide) (fun q => ?_) (fun a4 q => ?_)
  · replace h := h.1 q; subst q
    refine j_weak [none, none, none, none, none, none, none] trivial ?_
    exact S_PV_send_46 hE _ h
  · replace h := h.2 a4 q; subst q
    refine j_aload_n hE (by decide +kernel : decode cX10_send 15 = .ok (.aload_n 0, 1)) rfl rfl ?_
    refine j_iload_n hE (by decide +kernel : decode cX10_send 16 = .ok (.iload_n 2, 1)) rfl rfl ?_
    obtain ⟨hk, h⟩ := h
    refine j_callV hE rfl cl_X10_100 cf_11 im_X10_isUpToNow se_X10_isUpToNow ⟨by omega, by omega⟩ (As := [.int p1]) (rest := []) rfl rfl (Nat.le_of_ble_eq_true rfl) hk (by decide +kernel : decode cX10_send 17 = .ok (.invokevirtual 100, 3)) (mt_PV_isUpToNow _ _ _ _ h) ?_
    rintro _ g5 ⟨x6, rfl, h⟩
    refine j_if_eq hE (by decide +kernel : decode cX10_send 20 = .ok (.ifCond .eq 26, 3)) (tgt := 46) (by decide) (fun q => ?_) (fun q => ?_)
    · replace h := h.1 q
      refine j_weak [none, none, none, none, none, none, none] trivial ?_
      exact S_PV_send_46 hE _ h
    · replace h := h.2 q
      refine j_iload_n hE (by decide +kernel : decode cX10_send 23 = .ok (.iload_n 3, 1)) rfl rfl ?_
      refine j_callS hE rfl cl_X10_121 st_X10_isChoice ⟨by omega, by omega⟩ (As := [.int p2]) (rest := []) rfl rfl (Nat.le_of_ble_eq_true rfl) (by decide +kernel : decode cX10_send 24 = .ok (.invokestatic 121, 3)) (mt_PV_isChoice _ _ _ h) ?_
      rintro _ g7 ⟨x8, rfl, h⟩
      refine j_if_eq hE (by decide +kernel : decode cX10_send 27 = .ok (.ifCond .eq 19, 3)) (tgt := 46) (by decide) (fun q => ?_) (fun q => ?_)
      · replace h := h.1 q
        refine j_weak [none, none, none, none, none, none, none] trivial ?_
        exact S_PV_send_46 hE _ h
      · replace h := h.2 q
        refine j_aload_n hE (by decide +kernel : decode cX10_send 30 = .ok (.aload_n 0, 1)) rfl rfl ?_
        obtain ⟨hk, h⟩ := h
        obtain ⟨a9, ha, h⟩ := h
        refine j_getRn hE fg_X10_16 hk ha (by decide +kernel : decode cX10_send 31 = .ok (.getfield 16, 3)) ?_
        obtain ⟨hk, h⟩ := h
        obtain ⟨a10, ha, h⟩ := h
        refine j_getRn hE fg_X10_124 hk ha (by decide +kernel : decode cX10_send 34 = .ok (.getfield 124, 3)) ?_
        obtain ⟨hk, h⟩ := h
        refine j_callV hE rfl cl_X10_84 cf_0 im_Jx4a65c_size_8abf5 se_Jx4a65c_size_8abf5 ⟨by omega, by omega⟩ (As := []) (rest := []) rfl rfl (Nat.le_of_ble_eq_true rfl) hk (by decide +kernel : decode cX10_send 37 = .ok (.invokevirtual 84, 3)) (mt_AL_size _ _ _ h) ?_
        rintro _ g11 ⟨x12, rfl, h⟩
        refine j_sipush hE (by decide +kernel : decode cX10_send 40 = .ok (.sipush 200, 3)) (v := (200 : Int32)) (by decide) ?_
        refine j_icmp_lt hE (by decide +kernel : decode cX10_send 43 = .ok (.if_icmp .lt 5, 3)) (tgt := 48) (by decide) (fun q => ?_) (fun q => ?_)
        · replace h := h.1 q
          refine j_aload_n hE (by decide +kernel : decode cX10_send 48 = .ok (.aload_n 0, 1)) rfl rfl ?_
          obtain ⟨hk, h⟩ := h
          obtain ⟨a13, ha, h⟩ := h
          refine j_getRn hE fg_X10_16 hk ha (by decide +kernel : decode cX10_send 49 = .ok (.getfield 16, 3)) ?_
          obtain ⟨hk, h⟩ := h
          obtain ⟨a14, ha, h⟩ := h
          refine j_getRn hE fg_X10_124 hk ha (by decide +kernel : decode cX10_send 52 = .ok (.getfield 124, 3)) ?_
          obtain ⟨hk, h⟩ := h
          refine j_callV hE rfl cl_X10_84 cf_0 im_Jx4a65c_size_8abf5 se_Jx4a65c_size_8abf5 ⟨by omega, by omega⟩ (As := []) (rest := []) rfl rfl (Nat.le_of_ble_eq_true rfl) hk (by decide +kernel : decode cX10_send 55 = .ok (.invokevirtual 84, 3)) (mt_AL_size _ _ _ h) ?_
          rintro _ g15 ⟨x16, rfl, h⟩
          refine j_istore hE (by decide +kernel : decode cX10_send 58 = .ok (.istore 5, 2)) (Nat.le_of_ble_eq_true rfl) rfl ?_
          obtain ⟨hn1, hn2, h⟩ := h
          refine j_new hE cf_1 ck_X10_127 in_X0 (by decide +kernel : decode cX10_send 60 = .ok (.new 127, 3)) hn1 hn2 (fun f1 f2 f3 f4 => ?_)
          obtain ⟨a17, ha⟩ : ∃ z, z = Hn g15 := ⟨_, rfl⟩; obtain ⟨g18, hg⟩ : ∃ z, z = nO g15 1 15 := ⟨_, rfl⟩; replace h := h a17 g18 ha hg f1 f2 f3 f4; rw [← hg, ← ha]
          refine j_dup hE (by decide +kernel : decode cX10_send 63 = .ok (.dup, 1)) rfl ?_
          refine j_iload hE (by decide +kernel : decode cX10_send 64 = .ok (.iload 5, 2)) rfl ?_
          refine j_aload hE (by decide +kernel : decode cX10_send 66 = .ok (.aload 4, 2)) rfl ?_
          refine j_iload_n hE (by decide +kernel : decode cX10_send 68 = .ok (.iload_n 2, 1)) rfl rfl ?_
          refine j_iload_n hE (by decide +kernel : decode cX10_send 69 = .ok (.iload_n 3, 1)) rfl rfl ?_
          refine j_aload_n hE (by decide +kernel : decode cX10_send 70 = .ok (.aload_n 0, 1)) rfl rfl ?_
          obtain ⟨hk, h⟩ := h
          refine j_getI hE fg_X10_68 hk (by decide +kernel : decode cX10_send 71 = .ok (.getfield 68, 3)) ?_
          refine j_callI hE rfl cl_X10_129 im_X0_init rfl ⟨by omega, by omega⟩ (As := [.int x16, .ref a4, .int p1, .int p2, .int (Gi g18 1408 th)]) (rest := [.ref a17]) (b := a17) rfl rfl (Nat.le_of_ble_eq_true rfl) (by decide +kernel : decode cX10_send 74 = .ok (.invokespecial 129, 3)) (mt_En_init _ _ _ _ _ _ _ _ h) ?_
          rintro _ g19 ⟨rfl, h⟩
          refine j_astore hE (by decide +kernel : decode cX10_send 77 = .ok (.astore 6, 2)) (Nat.le_of_ble_eq_true rfl) rfl ?_
          refine j_aload_n hE (by decide +kernel : decode cX10_send 79 = .ok (.aload_n 0, 1)) rfl rfl ?_
          obtain ⟨hk, h⟩ := h
          obtain ⟨a20, ha, h⟩ := h
          refine j_getRn hE fg_X10_16 hk ha (by decide +kernel : decode cX10_send 80 = .ok (.getfield 16, 3)) ?_
          obtain ⟨hk, h⟩ := h
          obtain ⟨a21, ha, h⟩ := h
          refine j_getRn hE fg_X10_124 hk ha (by decide +kernel : decode cX10_send 83 = .ok (.getfield 124, 3)) ?_
          refine j_aload hE (by decide +kernel : decode cX10_send 86 = .ok (.aload 6, 2)) rfl ?_
          obtain ⟨hk, h⟩ := h
          refine j_callV hE rfl cl_X10_92 cf_0 im_Jx4a65c_add_9ea2d se_Jx4a65c_add_9ea2d ⟨by omega, by omega⟩ (As := [.ref a17]) (rest := []) rfl rfl (Nat.le_of_ble_eq_true rfl) hk (by decide +kernel : decode cX10_send 88 = .ok (.invokevirtual 92, 3)) (mt_AL_add_1 _ _ _ _ h) ?_
          rintro _ g22 ⟨x23, rfl, h⟩
          refine j_pop hE (by decide +kernel : decode cX10_send 91 = .ok (.pop, 1)) rfl ?_
          refine j_aload hE (by decide +kernel : decode cX10_send 92 = .ok (.aload 4, 2)) rfl ?_
          obtain ⟨hk, h⟩ := h
          obtain ⟨a24, ha, h⟩ := h
          refine j_getRn hE fg_X10_132 hk ha (by decide +kernel : decode cX10_send 94 = .ok (.getfield 132, 3)) ?_
          refine j_aload hE (by decide +kernel : decode cX10_send 97 = .ok (.aload 6, 2)) rfl ?_
          obtain ⟨hk, h⟩ := h
          refine j_callV hE rfl cl_X10_92 cf_0 im_Jx4a65c_add_9ea2d se_Jx4a65c_add_9ea2d ⟨by omega, by omega⟩ (As := [.ref a17]) (rest := []) rfl rfl (Nat.le_of_ble_eq_true rfl) hk (by decide +kernel : decode cX10_send 99 = .ok (.invokevirtual 92, 3)) (mt_AL_add_1 _ _ _ _ h) ?_
          rintro _ g25 ⟨x26, rfl, h⟩
          refine j_pop hE (by decide +kernel : decode cX10_send 102 = .ok (.pop, 1)) rfl ?_
          refine j_iload hE (by decide +kernel : decode cX10_send 103 = .ok (.iload 5, 2)) rfl ?_
          exact j_iret hE (by decide +kernel : decode cX10_send 105 = .ok (.ireturn, 1)) ⟨_, rfl, h⟩
        · replace h := h.2 q
          refine j_weak [none, none, none, none, none, none, none] trivial ?_
          exact S_PV_send_46 hE _ h
set_option maxHeartbeats 4000000 in
set_option maxRecDepth 100000 in
theorem rl_PV_send {Γ : GAM} {l : Launch} {th : Nat} {p0 : Int32} {p1 : Int32} {p2 : Int32} {g : GH} {K : Int32 → GH → Prop} (h0 : B_PV_send_0 Γ K th p0 p1 p2 g) : MetA Γ l yX10_send cX10_send 7 (some (.int)) 7 171 [.ref th, .int p0, .int p1, .int p2] g (fun r g' => ∃ x, r = some (.int x) ∧ K x g') := by
  refine MetA.introL (Lx := [some (.ref th), some (.int p0), some (.int p1), some (.int p2), none, none, none]) (by decide) (Nat.le_of_ble_eq_true rfl) rfl rfl ?_
  intro E hEl hE hnm
  exact S_PV_send_0 hE th p0 p1 p2 g h0
theorem mt_PV_send {Γ : GAM} {l : Launch} (th : Nat) (p0 : Int32) (p1 : Int32) (p2 : Int32) (g : GH) (K : Int32 → GH → Prop) (h : Sp_PV_send Γ th p0 p1 p2 g K) : MetA Γ l yX10_send cX10_send 7 (some (.int)) 7 171 [.ref th, .int p0, .int p1, .int p2] g (fun r g' => ∃ x, r = some (.int x) ∧ K x g') := by
  obtain ⟨C, s, n, rfl, hI, hW, hR, hK⟩ := PVC.e h
  have he := hI.en
  obtain ⟨hkd, ⟨h1, h2⟩, -, -, -, ⟨i1, i2⟩, hnow, hsiz⟩ := hI.pk
  have hP := hI.2.2.2.2.2.2.1
  have hlen := hW.len
  obtain ⟨q1, m2, m3⟩ := hP.2.1.2.2.1
  have hkm := hP.2.1.2.2.2.2.2.2.1.2.1
  have hlm := hP.2.1.2.2.2.2.2.2.2.2.1
  have hcx := hI.1.1.1
  unfold p_send q_send at hK
  refine rl_PV_send ?_
  have hno : ¬ ok_send s p0 p1 p2 → K (-1) g := fun u => hK C g _ _ (if_neg u) (if_neg u) (FrC.rf he) rfl hI hR.dn
  unfold B_PV_send_0 B_PV_send_46
  refine ⟨hkd, _, h1, h2, c_D C, s, rfl, hP, hlen.1, fun u => ⟨fun _ => hno (fun z => u z.2.1), fun a z => by cases z⟩, fun v w hv hvl hw hkw => ⟨fun z => (by cases z), fun a ha => ?_⟩⟩
  cases ha
  have hin : 0 ≤ p0 ∧ p0 ≤ nI (s_vot s).length - 1 := (wn_c (by omega)).mpr ⟨v, hv, hvl⟩
  refine ⟨hkd, hkd, ?_⟩
  rw [hnow]
  refine pv_ite (fun u => hno (fun z => u z.2.2.1)) (fun u => pv_ite (fun u2 => hno (fun z => u2 z.2.2.2)) (fun u2 => ⟨hkd, _, h1, h2, _, q1, hkm, hP.esz ?_⟩))
  rw [show ((200 : Int32) = nI 200) from rfl, nj_lt (by omega) (by omega)]
  have hR' := hR
  obtain ⟨r1, r2, r3⟩ := hR'
  refine ⟨fun u3 => ⟨hkd, _, h1, h2, _, q1, hkm, hP.esz ?_⟩, fun u3 => hno (fun z => u3 (by have := z.1; omega))⟩
  have ok : ok_send s p0 p1 p2 := ⟨by omega, hin, u, u2⟩
  refine ⟨by omega, by omega, ?_⟩
  rintro _ g8 rfl hg8 z1 z2 z3 z4
  have hnw : Gi g8 1408 (c_x C) = s_now s := by rw [hg8]; exact hnow
  refine ⟨by rw [hg8, Kd_nO, if_neg (by omega)]; exact hkd, ?_⟩
  rw [hnw]
  obtain ⟨yv, Lv, vv1, vv2, vv3, vv4⟩ := hP.2.2.2.1.2.2.1 v w hw
  obtain ⟨⟨w1, w2⟩, -, lo, eo, -, ⟨o1, o2, o3⟩, -, hAe⟩ := id vv2
  have hse8 : SE Γ g8 := by
    obtain ⟨s1, s2, s3, s4⟩ := hP.1.2.2
    rw [hg8]
    exact ⟨by rw [Hn_nO]; omega, by rw [Kd_nO, if_neg (by omega)]; exact s2, s3, s4⟩
  refine ⟨⟨⟨by rw [hg8, Hn_nO]; omega, by rw [hg8, Kd_nO, if_pos rfl]⟩, ?_, hse8, by rw [hg8, Hn_nO]; omega, by rw [hg8, Hu_nO]; omega⟩, ⟨by rw [hg8, Hn_nO]; omega, by rw [hg8, Kd_nO, if_neg (by omega)]; exact w2⟩, fun g9 hcn hE h0 ⟨e1, e2⟩ => ?_⟩
  · intro F b hb hc ho
    rw [hg8] at hb hc ho
    by_cases zb : b = Hn g
    · rw [Kd_nO, if_pos zb] at hb; omega
    · rw [Kd_nO, if_neg zb] at hb
      exact z3 F b hb hc ho
  rw [hg8] at hcn e1 e2
  rw [Hn_nO] at e1
  rw [Hu_nO] at e2
  have k9 : Fr [] [] [] g g9 := hcn.fr rfl (by omega)
  have hEB := hE (s_env s).length p0 rfl
  have hA9 := hP.2.2.2.2.1.1.fr k9 (by simp) (by simp) (by simp)
  have hkx9 := k9.kd hcx (by omega)
  have hp9 := k9.kd hP.2.1.1.1 (by have := hP.2.1.1.2; omega)
  have hel9 := k9.kd hlm (by omega)
  refine ⟨hkx9.1.trans hkd, _, by rw [k9.gr hcx (by decide)]; exact h1, hp9.1.trans h2, _, by rw [k9.gr hP.2.1.1.1 (by decide)]; exact q1, hel9.1.trans hkm, _, hA9, hP.1.2.2.fr k9, k9.nt hP.1.2.1, fun x hx => ?_, ⟨by omega, 1, hEB.1.2, by omega⟩, by rw [hP.2.2.2.2.1.2.1]; omega, ⟨by omega, by omega⟩, fun g1 hf1 hA1 hG1 => ?_⟩
  · obtain ⟨i, hi⟩ := List.getElem?_of_mem hx
    obtain ⟨_, _, _, _, _, hE', _⟩ := hP.2.2.2.2.1.2.2 i x hi
    exact isO.fr ⟨hE'.1.1, 1, hE'.1.2, by omega⟩ k9
  have hh1 := hG1.hn
  have kk1 : Fr [] [] [d_el (c_D C)] g g1 := (k9.up (by simp) (by simp) (by simp)).tr hf1
  have neo : eo ∉ [d_el (c_D C)] := fun z => by
    rw [List.mem_singleton] at z
    rw [z, m2] at o2
    exact absurd o2 (by decide)
  have hAe1 := hAe.fr kk1 neo (by simp) (by simp)
  have hw1 := kk1.kd w1 (by omega)
  have hevl : (evOf s v).length ≤ (s_env s).length := by rw [ev_ps, List.length_map]; exact VPS_len s v
  refine ⟨hw1.1.trans w2, eo, by rw [kk1.gr w1 (by decide)]; exact o1, hAe1.1.2, _, hAe1, hP.1.2.2.fr kk1, kk1.nt hP.1.2.1, fun x hx => ?_, isO.fr (g := g9) ⟨by omega, 1, hEB.1.2, by omega⟩ hf1, by rw [List.length_map]; omega, ⟨by omega, by omega⟩, fun g' hf2 hA2 hG2 => ?_⟩
  · obtain ⟨e, he', rfl⟩ := List.mem_map.mp hx
    have hlt := evOf_lt he'
    obtain ⟨x', hx', _, _, _, _, _, hE', _⟩ := hP.eat hlt
    rw [show (d_es (c_D C)).getD e 0 = x' from dE_of hx']
    exact isO.fr ⟨hE'.1.1, 1, hE'.1.2, by omega⟩ kk1
  have hh2 := hG2.hn
  have hP' := hP.env (y := (p0, p1, s_now s, p2)) hW k9 hf1 hf2 hEB h0 hv hw o1 hA1 hA2
  have kk : Fr [] [] [d_el (c_D C), eo] g g' := (kk1.up (by simp) (by simp) (by simp)).tr (hf2.up (by simp) (by simp) (by simp))
  obtain ⟨⟨⟨x1, x2⟩, -, ⟨l0, l1, l2, l3⟩, -⟩, a2, a3, a4, a5, a6, a7, a8⟩ := id hI
  have hc := a7.2.1.2.2.2.2.1
  have n1 : c_hl C ∉ [d_el (c_D C), eo] := fun z => by
    rcases List.mem_cons.mp z with z | z
    · rw [z, m2] at l2
      exact absurd l2 (by decide)
    · rw [List.mem_singleton.mp z, o2] at l2
      exact absurd l2 (by decide)
  have n2 : d_cl (c_D C) ∉ [d_el (c_D C), eo] := fun z => by
    have hc2 := hc.2.1
    rcases List.mem_cons.mp z with z | z
    · rw [z, m2] at hc2
      exact absurd hc2 (by decide)
    · rw [List.mem_singleton.mp z, o2] at hc2
      exact absurd hc2 (by decide)
  obtain ⟨cs, hcs, -⟩ := id a8
  have hphi : phi (c_D C) g' = phi (c_D C) g := by unfold phi; rw [cpA.fr hcs kk n2]
  have hof0 : s_hof s (s_env s).length = 0 := Classical.byContradiction (fun z => by have := (hW.hof _).2 z; omega)
  have hI' : ClsI Γ (C.1, ((c_D C).1, d_vs (c_D C), d_es (c_D C) ++ [Hn g]), C.2.2) g' (u_env s (s_env s ++ [(p0, p1, s_now s, p2)])) := hI.post kk n1 (by decide) (by decide) rfl (fun z => z) rfl (fun z => z) (fun z => z.cg rfl rfl rfl) (fun z => ⟨z.1, z.2.1, fun i h hi => by
    obtain ⟨y, hy, hH⟩ := z.2.2 i h hi
    refine ⟨y, hy, ?_⟩
    rw [sHp_env hof0, show (fun c => sHp (u_env s (s_env s ++ [(p0, p1, s_now s, p2)])) i (nI c)) = fun c => sHp s i (nI c) from funext fun c => sHp_env hof0 i (nI c)]
    exact hH⟩) hP' (a8.fr2 kk n2 (by decide) (by decide))
  exact hK (C.1, ((c_D C).1, d_vs (c_D C), d_es (c_D C) ++ [Hn g]), C.2.2) g' _ _ (if_pos ok) (if_pos ok) (FrC.of kk (by simp) (by simp)) rfl hI' (hR.up (by show phi (c_D C) g' ≤ _; rw [hphi]; exact Nat.le_refl _) (by omega) (by omega) (by show (s_evt s).length + (s_rea s).length + (s_tel s).length ≤ _; omega))
