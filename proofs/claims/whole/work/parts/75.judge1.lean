/-! the class: its judge's stack, and what joins two numbers -/
def JS (m : Nat) (g : GH) (stk : List Int32) : Prop := Kd g m = 4 ∧ (∃ a, Gr g 385 m = some a ∧ Kd g a = 20 ∧ Co g a = 385 ∧ Ow g a = m ∧ Ln g a = 200) ∧ Gi g 386 m = nI stk.length ∧ stk.length ≤ 200 ∧ Pil (Ia g 385 m) stk
def Sp_Ju_push (Γ : GAM) (m : Nat) (v : Int32) (g : GH) (K : GH → Prop) : Prop := ∃ stk, JS m g stk ∧ stk.length < 200 ∧ ∀ g', FrX m [386] [385] g g' → JS m g' (v :: stk) → K g'
-- the walk of Ju_push
set_option maxRecDepth 100000 in
def B_Ju_push_39 (Γ : GAM) (K : GH → Prop)  (g : GH) : Prop :=
  K g
set_option maxHeartbeats 4000000 in
set_option maxRecDepth 100000 in
theorem S_Ju_push_39 {Γ : GAM} {E : EV} {K : GH → Prop} (hE : GE Γ E cX2_push 2 RX2 none 0 0 (fun r g' => r = none ∧ K g'))  (g : GH) (h : B_Ju_push_39 Γ K  g) : JW Γ E 39 [none, none] [] g := by
  unfold B_Ju_push_39 at h
  exact j_vret hE (by decide +kernel : decode cX2_push 39 = .ok (.return_, 1)) ⟨rfl, h⟩
set_option maxRecDepth 100000 in
def B_Ju_push_0 (Γ : GAM) (K : GH → Prop) (th : Nat) (p0 : Int32) (g : GH) : Prop :=
  Kd g th = 4 ∧ (((Gi g 386 th) < 0 → B_Ju_push_39 Γ K g) ∧ (¬ ((Gi g 386 th) < 0) → Kd g th = 4 ∧ Kd g th = 4 ∧ ∃ a1 : Nat, Gr g 385 th = some a1 ∧ (20 ≤ Kd g a1 ∧ Kd g a1 < 24) ∧ (((Int32.ofNat (Ln g a1)) ≤ (Gi g 386 th) → B_Ju_push_39 Γ K g) ∧ (¬ ((Int32.ofNat (Ln g a1)) ≤ (Gi g 386 th)) → Kd g th = 4 ∧ ∃ a2 : Nat, Gr g 385 th = some a2 ∧ Kd g th = 4 ∧ Kd g a2 = 20 ∧ inB (Gi g 386 th) (Ln g a2) ∧ ∀ g3 : GH, g3 = sA g (Co g a2) (Ow g a2) (Gi g 386 th).toNatClampNeg p0 → Kd g3 th = 4 ∧ Kd g3 th = 4 ∧ ∀ g4 : GH, g4 = sI g3 386 th ((Gi g3 386 th) + (1 : Int32)) → B_Ju_push_39 Γ K g4))))
set_option maxHeartbeats 4000000 in
set_option maxRecDepth 100000 in
theorem S_Ju_push_0 {Γ : GAM} {E : EV} {K : GH → Prop} (hE : GE Γ E cX2_push 2 RX2 none 0 0 (fun r g' => r = none ∧ K g')) (th : Nat) (p0 : Int32) (g : GH) (h : B_Ju_push_0 Γ K th p0 g) : JW Γ E 0 [some (.ref th), some (.int p0)] [] g := by
  unfold B_Ju_push_0 at h
  refine j_aload_n hE (by decide +kernel : decode cX2_push 0 = .ok (.aload_n 0, 1)) rfl rfl ?_
  obtain ⟨hk, h⟩ := h
  refine j_getI hE fg_X2_92 hk (by decide +kernel : decode cX2_push 1 = .ok (.getfield 92, 3)) ?_
  refine j_if_lt hE (by decide +kernel : decode cX2_push 4 = .ok (.ifCond .lt 35, 3)) (tgt := 39) (by decide) (fun q => ?_) (fun q => ?_)
  · replace h := h.1 q
    refine j_weak [none, none] trivial ?_
    exact S_Ju_push_39 hE _ h
  · replace h := h.2 q
    refine j_aload_n hE (by decide +kernel : decode cX2_push 7 = .ok (.aload_n 0, 1)) rfl rfl ?_
    obtain ⟨hk, h⟩ := h
    refine j_getI hE fg_X2_92 hk (by decide +kernel : decode cX2_push 8 = .ok (.getfield 92, 3)) ?_
    refine j_aload_n hE (by decide +kernel : decode cX2_push 11 = .ok (.aload_n 0, 1)) rfl rfl ?_
    obtain ⟨hk, h⟩ := h
    obtain ⟨a1, ha, h⟩ := h
    refine j_getRn hE fg_X2_18 hk ha (by decide +kernel : decode cX2_push 12 = .ok (.getfield 18, 3)) ?_
    obtain ⟨hk, h⟩ := h
    refine j_alen hE hk (by decide +kernel : decode cX2_push 15 = .ok (.arraylength, 1)) ?_
    refine j_icmp_ge hE (by decide +kernel : decode cX2_push 16 = .ok (.if_icmp .ge 23, 3)) (tgt := 39) (by decide) (fun q => ?_) (fun q => ?_)
    · replace h := h.1 q
      refine j_weak [none, none] trivial ?_
      exact S_Ju_push_39 hE _ h
    · replace h := h.2 q
      refine j_aload_n hE (by decide +kernel : decode cX2_push 19 = .ok (.aload_n 0, 1)) rfl rfl ?_
      obtain ⟨hk, h⟩ := h
      obtain ⟨a2, ha, h⟩ := h
      refine j_getRn hE fg_X2_18 hk ha (by decide +kernel : decode cX2_push 20 = .ok (.getfield 18, 3)) ?_
      refine j_aload_n hE (by decide +kernel : decode cX2_push 23 = .ok (.aload_n 0, 1)) rfl rfl ?_
      obtain ⟨hk, h⟩ := h
      refine j_getI hE fg_X2_92 hk (by decide +kernel : decode cX2_push 24 = .ok (.getfield 92, 3)) ?_
      refine j_iload_n hE (by decide +kernel : decode cX2_push 27 = .ok (.iload_n 1, 1)) rfl rfl ?_
      obtain ⟨hk, hb, h⟩ := h
      obtain ⟨g3, hg⟩ : ∃ z, z = sA g (Co g a2) (Ow g a2) (Gi g 386 th).toNatClampNeg p0 := ⟨_, rfl⟩; replace h := h g3 hg
      refine j_iast hE hk hb (by decide +kernel : decode cX2_push 28 = .ok (.iastore, 1)) ?_
      rw [← hg]
      refine j_aload_n hE (by decide +kernel : decode cX2_push 29 = .ok (.aload_n 0, 1)) rfl rfl ?_
      refine j_dup hE (by decide +kernel : decode cX2_push 30 = .ok (.dup, 1)) rfl ?_
      obtain ⟨hk, h⟩ := h
      refine j_getI hE fg_X2_92 hk (by decide +kernel : decode cX2_push 31 = .ok (.getfield 92, 3)) ?_
      refine j_iconst hE (by decide +kernel : decode cX2_push 34 = .ok (.iconst 1, 1)) (v := (1 : Int32)) (by decide) ?_
      refine j_iadd hE (by decide +kernel : decode cX2_push 35 = .ok (.iadd, 1)) ?_
      obtain ⟨hk, h⟩ := h
      obtain ⟨g4, hg⟩ : ∃ z, z = sI g3 386 th ((Gi g3 386 th) + (1 : Int32)) := ⟨_, rfl⟩; replace h := h g4 hg
      refine j_putI hE fa_X2_92 hk (fun q => by cases q) (by decide +kernel : decode cX2_push 36 = .ok (.putfield 92, 3)) ?_
      rw [← hg]
      refine j_weak [none, none] trivial ?_
      exact S_Ju_push_39 hE _ h
set_option maxHeartbeats 4000000 in
set_option maxRecDepth 100000 in
theorem rl_Ju_push {Γ : GAM} {l : Launch} {th : Nat} {p0 : Int32} {g : GH} {K : GH → Prop} (h0 : B_Ju_push_0 Γ K th p0 g) : MetA Γ l yX2_push cX2_push 2 none 0 0 [.ref th, .int p0] g (fun r g' => r = none ∧ K g') := by
  refine MetA.introL (Lx := [some (.ref th), some (.int p0)]) (by decide) (Nat.le_of_ble_eq_true rfl) rfl rfl ?_
  intro E hEl hE hnm
  exact S_Ju_push_0 hE th p0 g h0
theorem mt_Ju_push {Γ : GAM} {l : Launch} (th : Nat) (p0 : Int32) (g : GH) (K : GH → Prop) (h : Sp_Ju_push Γ th p0 g K) : MetA Γ l yX2_push cX2_push 2 none 0 0 [.ref th, .int p0] g (fun r g' => r = none ∧ K g') := by
  obtain ⟨stk, ⟨hkd, ⟨a, a1, a2, a3, a4, a5⟩, h2, h3, h4⟩, hl, hK⟩ := h
  refine rl_Ju_push ?_
  unfold B_Ju_push_0 B_Ju_push_39
  rw [h2]
  refine ⟨hkd, fun u => absurd (nj_nneg (by omega)) (Int32.not_le.mpr u), fun _ => ⟨hkd, hkd, a, a1, ⟨by omega, by omega⟩, ?_⟩⟩
  rw [show Int32.ofNat (Ln g a) = nI 200 by rw [a5]; rfl, nj_le (by omega) (by omega)]
  refine ⟨fun u => by omega, fun _ => ⟨hkd, a, a1, hkd, a2, by rw [a5]; exact inB_nI hl (by omega), ?_⟩⟩
  rw [a3, a4, nj_cl (by omega)]
  rintro _ rfl
  refine ⟨hkd, hkd, ?_⟩
  rintro _ rfl
  rw [Gi_sA, h2, nj_s]
  refine hK _ ((FrX.sA (by decide)).tr (FrX.sI (by decide))) ⟨hkd, ⟨a, a1, a2, a3, a4, a5⟩, by rw [Gi_sI, if_pos ⟨rfl, rfl⟩]; rfl, by rw [List.length_cons]; omega, ?_, Pil_set (fun i hi => ?_) h4⟩
  · rw [Ia_sI, Ia_sA, if_pos ⟨rfl, rfl, rfl⟩]
  · rw [Ia_sI, Ia_sA, if_neg (fun z => by omega)]
def Sp_Ju_pop (Γ : GAM) (m : Nat) (g : GH) (K : Int32 → GH → Prop) : Prop := ∃ stk, JS m g stk ∧ ∀ g', FrX m [386] [385] g g' → JS m g' stk.tail → K (stk.headD 0) g'
-- the walk of Ju_pop
set_option maxRecDepth 100000 in
def B_Ju_pop_19 (Γ : GAM) (K : Int32 → GH → Prop)  (g : GH) : Prop :=
  K (0 : Int32) g
set_option maxHeartbeats 4000000 in
set_option maxRecDepth 100000 in
theorem S_Ju_pop_19 {Γ : GAM} {E : EV} {K : Int32 → GH → Prop} (hE : GE Γ E cX2_pop 1 RX2 (some (.int)) 0 0 (fun r g' => ∃ x, r = some (.int x) ∧ K x g'))  (g : GH) (h : B_Ju_pop_19 Γ K  g) : JW Γ E 19 [none] [] g := by
  unfold B_Ju_pop_19 at h
  refine j_iconst hE (by decide +kernel : decode cX2_pop 19 = .ok (.iconst 0, 1)) (v := (0 : Int32)) (by decide) ?_
  exact j_iret hE (by decide +kernel : decode cX2_pop 20 = .ok (.ireturn, 1)) ⟨_, rfl, h⟩
set_option maxRecDepth 100000 in
def B_Ju_pop_0 (Γ : GAM) (K : Int32 → GH → Prop) (th : Nat) (g : GH) : Prop :=
  Kd g th = 4 ∧ (((Gi g 386 th) ≤ 0 → B_Ju_pop_19 Γ K g) ∧ (¬ ((Gi g 386 th) ≤ 0) → Kd g th = 4 ∧ Kd g th = 4 ∧ ∃ a1 : Nat, Gr g 385 th = some a1 ∧ (20 ≤ Kd g a1 ∧ Kd g a1 < 24) ∧ (((Gi g 386 th) ≤ (Int32.ofNat (Ln g a1)) → Kd g th = 4 ∧ Kd g th = 4 ∧ ∀ g2 : GH, g2 = sI g 386 th ((Gi g 386 th) - (1 : Int32)) → Kd g2 th = 4 ∧ ∃ a3 : Nat, Gr g2 385 th = some a3 ∧ Kd g2 th = 4 ∧ Kd g2 a3 = 20 ∧ inB (Gi g2 386 th) (Ln g2 a3) ∧ K (Ia g2 (Co g2 a3) (Ow g2 a3) (Gi g2 386 th).toNatClampNeg) g2) ∧ (¬ ((Gi g 386 th) ≤ (Int32.ofNat (Ln g a1))) → B_Ju_pop_19 Γ K g))))
set_option maxHeartbeats 4000000 in
set_option maxRecDepth 100000 in
theorem S_Ju_pop_0 {Γ : GAM} {E : EV} {K : Int32 → GH → Prop} (hE : GE Γ E cX2_pop 1 RX2 (some (.int)) 0 0 (fun r g' => ∃ x, r = some (.int x) ∧ K x g')) (th : Nat) (g : GH) (h : B_Ju_pop_0 Γ K th g) : JW Γ E 0 [some (.ref th)] [] g := by
  unfold B_Ju_pop_0 at h
  refine j_aload_n hE (by decide +kernel : decode cX2_pop 0 = .ok (.aload_n 0, 1)) rfl rfl ?_
  obtain ⟨hk, h⟩ := h
  refine j_getI hE fg_X2_92 hk (by decide +kernel : decode cX2_pop 1 = .ok (.getfield 92, 3)) ?_
  refine j_if_le hE (by decide +kernel : decode cX2_pop 4 = .ok (.ifCond .le 15, 3)) (tgt := 19) (by decide) (fun q => ?_) (fun q => ?_)
  · replace h := h.1 q
    refine j_weak [none] trivial ?_
    exact S_Ju_pop_19 hE _ h
  · replace h := h.2 q
    refine j_aload_n hE (by decide +kernel : decode cX2_pop 7 = .ok (.aload_n 0, 1)) rfl rfl ?_
    obtain ⟨hk, h⟩ := h
    refine j_getI hE fg_X2_92 hk (by decide +kernel : decode cX2_pop 8 = .ok (.getfield 92, 3)) ?_
    refine j_aload_n hE (by decide +kernel : decode cX2_pop 11 = .ok (.aload_n 0, 1)) rfl rfl ?_
    obtain ⟨hk, h⟩ := h
    obtain ⟨a1, ha, h⟩ := h
    refine j_getRn hE fg_X2_18 hk ha (by decide +kernel : decode cX2_pop 12 = .ok (.getfield 18, 3)) ?_
    obtain ⟨hk, h⟩ := h
    refine j_alen hE hk (by decide +kernel : decode cX2_pop 15 = .ok (.arraylength, 1)) ?_
    refine j_icmp_le hE (by decide +kernel : decode cX2_pop 16 = .ok (.if_icmp .le 5, 3)) (tgt := 21) (by decide) (fun q => ?_) (fun q => ?_)
    · replace h := h.1 q
      refine j_aload_n hE (by decide +kernel : decode cX2_pop 21 = .ok (.aload_n 0, 1)) rfl rfl ?_
      refine j_dup hE (by decide +kernel : decode cX2_pop 22 = .ok (.dup, 1)) rfl ?_
      obtain ⟨hk, h⟩ := h
      refine j_getI hE fg_X2_92 hk (by decide +kernel : decode cX2_pop 23 = .ok (.getfield 92, 3)) ?_
      refine j_iconst hE (by decide +kernel : decode cX2_pop 26 = .ok (.iconst 1, 1)) (v := (1 : Int32)) (by decide) ?_
      refine j_isub hE (by decide +kernel : decode cX2_pop 27 = .ok (.isub, 1)) ?_
      obtain ⟨hk, h⟩ := h
      obtain ⟨g2, hg⟩ : ∃ z, z = sI g 386 th ((Gi g 386 th) - (1 : Int32)) := ⟨_, rfl⟩; replace h := h g2 hg
      refine j_putI hE fa_X2_92 hk (fun q => by cases q) (by decide +kernel : decode cX2_pop 28 = .ok (.putfield 92, 3)) ?_
      rw [← hg]
      refine j_aload_n hE (by decide +kernel : decode cX2_pop 31 = .ok (.aload_n 0, 1)) rfl rfl ?_
      obtain ⟨hk, h⟩ := h
      obtain ⟨a3, ha, h⟩ := h
      refine j_getRn hE fg_X2_18 hk ha (by decide +kernel : decode cX2_pop 32 = .ok (.getfield 18, 3)) ?_
      refine j_aload_n hE (by decide +kernel : decode cX2_pop 35 = .ok (.aload_n 0, 1)) rfl rfl ?_
      obtain ⟨hk, h⟩ := h
      refine j_getI hE fg_X2_92 hk (by decide +kernel : decode cX2_pop 36 = .ok (.getfield 92, 3)) ?_
      obtain ⟨hk, hb, h⟩ := h
      refine j_iald hE hk hb (by decide +kernel : decode cX2_pop 39 = .ok (.iaload, 1)) ?_
      exact j_iret hE (by decide +kernel : decode cX2_pop 40 = .ok (.ireturn, 1)) ⟨_, rfl, h⟩
    · replace h := h.2 q
      refine j_weak [none] trivial ?_
      exact S_Ju_pop_19 hE _ h
set_option maxHeartbeats 4000000 in
set_option maxRecDepth 100000 in
theorem rl_Ju_pop {Γ : GAM} {l : Launch} {th : Nat} {g : GH} {K : Int32 → GH → Prop} (h0 : B_Ju_pop_0 Γ K th g) : MetA Γ l yX2_pop cX2_pop 1 (some (.int)) 0 0 [.ref th] g (fun r g' => ∃ x, r = some (.int x) ∧ K x g') := by
  refine MetA.introL (Lx := [some (.ref th)]) (by decide) (Nat.le_of_ble_eq_true rfl) rfl rfl ?_
  intro E hEl hE hnm
  exact S_Ju_pop_0 hE th g h0
theorem mt_Ju_pop {Γ : GAM} {l : Launch} (th : Nat) (g : GH) (K : Int32 → GH → Prop) (h : Sp_Ju_pop Γ th g K) : MetA Γ l yX2_pop cX2_pop 1 (some (.int)) 0 0 [.ref th] g (fun r g' => ∃ x, r = some (.int x) ∧ K x g') := by
  obtain ⟨stk, hS, hK⟩ := h
  obtain ⟨hkd, ⟨a, a1, a2, a3, a4, a5⟩, h2, h3, h4⟩ := id hS
  refine rl_Ju_pop ?_
  unfold B_Ju_pop_0 B_Ju_pop_19
  rw [h2, show (0 : Int32) = nI 0 from rfl, nj_le (by omega) (by omega)]
  cases stk with
  | nil => exact ⟨hkd, fun _ => hK g FrX.rf hS, fun u => absurd (Nat.zero_le _) u⟩
  | cons x stk =>
    rw [List.length_cons] at h2 h3
    rw [List.length_cons]
    refine ⟨hkd, fun u => by omega, fun _ => ⟨hkd, hkd, a, a1, ⟨by omega, by omega⟩, ?_⟩⟩
    rw [show Int32.ofNat (Ln g a) = nI 200 by rw [a5]; rfl, nj_le (by omega) (by omega), nj_p]
    refine ⟨fun _ => ⟨hkd, hkd, ?_⟩, fun u => by omega⟩
    rintro _ rfl
    have e : Gi (sI g 386 th (nI stk.length)) 386 th = nI stk.length := by rw [Gi_sI, if_pos ⟨rfl, rfl⟩]
    refine ⟨hkd, a, a1, hkd, a2, by rw [e]; show inB _ (Ln g a); rw [a5]; exact inB_nI (by omega) (by omega), ?_⟩
    rw [e, Co_sI, Ow_sI, Ia_sI, a3, a4, nj_cl (by omega), h4.1]
    exact hK _ (FrX.sI (by decide)) ⟨hkd, ⟨a, a1, a2, a3, a4, a5⟩, e, by show stk.length ≤ 200; omega, h4.2⟩
def Sp_Ju_bounded (Γ : GAM) (v : Int64) (g : GH) (K : Int32 → GH → Prop) : Prop := K (sBnd v) g
-- the walk of Ju_bounded
set_option maxRecDepth 100000 in
def B_Ju_bounded_0 (Γ : GAM) (K : Int32 → GH → Prop) (p0 : Int64) (g : GH) : Prop :=
  K ((if (if p0 < (1000000 : Int64) then p0 else (1000000 : Int64)) < (-1000000 : Int64) then (-1000000 : Int64) else (if p0 < (1000000 : Int64) then p0 else (1000000 : Int64))).toInt32) g
set_option maxHeartbeats 4000000 in
set_option maxRecDepth 100000 in
theorem S_Ju_bounded_0 {Γ : GAM} {E : EV} {K : Int32 → GH → Prop} (hE : GE Γ E cX2_bounded 2 RX2 (some (.int)) 1 30 (fun r g' => ∃ x, r = some (.int x) ∧ K x g')) (p0 : Int64) (g : GH) (h : B_Ju_bounded_0 Γ K p0 g) : JW Γ E 0 [some (.long p0), none] [] g := by
  unfold B_Ju_bounded_0 at h
  refine j_ldc2 hE ctL_X2_122 (by decide +kernel : decode cX2_bounded 0 = .ok (.ldc2_w 122, 3)) ?_
  refine j_ldc2 hE ctL_X2_124 (by decide +kernel : decode cX2_bounded 3 = .ok (.ldc2_w 124, 3)) ?_
  refine j_lload_n hE (by decide +kernel : decode cX2_bounded 6 = .ok (.lload_n 0, 1)) rfl rfl ?_
  refine j_mmin_long hE rfl ml_X2_126 st_J9_min_f86c9 in_Math co_J9_min_f86c9 (Nat.le_of_ble_eq_true rfl) (by omega) (by omega) (by decide +kernel : decode cX2_bounded 7 = .ok (.invokestatic 126, 3)) ?_
  refine j_mmax_long hE rfl ml_X2_132 st_J9_max_f86c9 in_Math co_J9_max_f86c9 (Nat.le_of_ble_eq_true rfl) (by omega) (by omega) (by decide +kernel : decode cX2_bounded 10 = .ok (.invokestatic 132, 3)) ?_
  refine j_l2i hE (by decide +kernel : decode cX2_bounded 13 = .ok (.l2i, 1)) ?_
  exact j_iret hE (by decide +kernel : decode cX2_bounded 14 = .ok (.ireturn, 1)) ⟨_, rfl, h⟩
set_option maxHeartbeats 4000000 in
set_option maxRecDepth 100000 in
theorem rl_Ju_bounded {Γ : GAM} {l : Launch} {p0 : Int64} {g : GH} {K : Int32 → GH → Prop} (h0 : B_Ju_bounded_0 Γ K p0 g) : MetA Γ l yX2_bounded cX2_bounded 2 (some (.int)) 1 30 [.long p0] g (fun r g' => ∃ x, r = some (.int x) ∧ K x g') := by
  refine MetA.introL (Lx := [some (.long p0), none]) (by decide) (Nat.le_of_ble_eq_true rfl) rfl rfl ?_
  intro E hEl hE hnm
  exact S_Ju_bounded_0 hE p0 g h0
theorem mt_Ju_bounded {Γ : GAM} {l : Launch} (p0 : Int64) (g : GH) (K : Int32 → GH → Prop) (h : Sp_Ju_bounded Γ p0 g K) : MetA Γ l yX2_bounded cX2_bounded 2 (some (.int)) 1 30 [.long p0] g (fun r g' => ∃ x, r = some (.int x) ∧ K x g') := by
  exact rl_Ju_bounded h
/-- the class's way of joining -/
def cJn (c a b : Int32) : Int32 := if c = 35 then (if a = b then 0 else 1) else if c = 38 then a &&& b else if c = 42 then sBnd (a.toInt64 * b.toInt64) else if c = 43 then sBnd (a.toInt64 + b.toInt64) else if c = 45 then sBnd (a.toInt64 - b.toInt64) else if c = 60 then (if b ≤ a then 0 else 1) else if c = 61 then (if a = b then 1 else 0) else if c = 62 then (if a ≤ b then 0 else 1) else a ||| b
def Sp_Ju_joined (Γ : GAM) (c a b : Int32) (g : GH) (K : Int32 → GH → Prop) : Prop := K (cJn c a b) g
-- the walk of Ju_joined
set_option maxRecDepth 100000 in
def B_Ju_joined_198 (Γ : GAM) (K : Int32 → GH → Prop) (s0 : Int32) (g : GH) : Prop :=
  K s0 g
set_option maxHeartbeats 4000000 in
set_option maxRecDepth 100000 in
theorem S_Ju_joined_198 {Γ : GAM} {E : EV} {K : Int32 → GH → Prop} (hE : GE Γ E cX2_joined 3 RX2 (some (.int)) 2 51 (fun r g' => ∃ x, r = some (.int x) ∧ K x g')) (s0 : Int32) (g : GH) (h : B_Ju_joined_198 Γ K s0 g) : JW Γ E 198 [none, none, none] [.int s0] g := by
  unfold B_Ju_joined_198 at h
  exact j_iret hE (by decide +kernel : decode cX2_joined 198 = .ok (.ireturn, 1)) ⟨_, rfl, h⟩
set_option maxRecDepth 100000 in
def B_Ju_joined_187 (Γ : GAM) (K : Int32 → GH → Prop) (s0 : Int32) (g : GH) : Prop :=
  K s0 g
set_option maxHeartbeats 4000000 in
set_option maxRecDepth 100000 in
theorem S_Ju_joined_187 {Γ : GAM} {E : EV} {K : Int32 → GH → Prop} (hE : GE Γ E cX2_joined 3 RX2 (some (.int)) 2 51 (fun r g' => ∃ x, r = some (.int x) ∧ K x g')) (s0 : Int32) (g : GH) (h : B_Ju_joined_187 Γ K s0 g) : JW Γ E 187 [none, none, none] [.int s0] g := by
  unfold B_Ju_joined_187 at h
  exact j_iret hE (by decide +kernel : decode cX2_joined 187 = .ok (.ireturn, 1)) ⟨_, rfl, h⟩
set_option maxRecDepth 100000 in
def B_Ju_joined_176 (Γ : GAM) (K : Int32 → GH → Prop) (s0 : Int32) (g : GH) : Prop :=
  K s0 g
set_option maxHeartbeats 4000000 in
set_option maxRecDepth 100000 in
theorem S_Ju_joined_176 {Γ : GAM} {E : EV} {K : Int32 → GH → Prop} (hE : GE Γ E cX2_joined 3 RX2 (some (.int)) 2 51 (fun r g' => ∃ x, r = some (.int x) ∧ K x g')) (s0 : Int32) (g : GH) (h : B_Ju_joined_176 Γ K s0 g) : JW Γ E 176 [none, none, none] [.int s0] g := by
  unfold B_Ju_joined_176 at h
  exact j_iret hE (by decide +kernel : decode cX2_joined 176 = .ok (.ireturn, 1)) ⟨_, rfl, h⟩
set_option maxRecDepth 100000 in
def B_Ju_joined_165 (Γ : GAM) (K : Int32 → GH → Prop) (s0 : Int32) (g : GH) : Prop :=
  K s0 g
set_option maxHeartbeats 4000000 in
set_option maxRecDepth 100000 in
theorem S_Ju_joined_165 {Γ : GAM} {E : EV} {K : Int32 → GH → Prop} (hE : GE Γ E cX2_joined 3 RX2 (some (.int)) 2 51 (fun r g' => ∃ x, r = some (.int x) ∧ K x g')) (s0 : Int32) (g : GH) (h : B_Ju_joined_165 Γ K s0 g) : JW Γ E 165 [none, none, none] [.int s0] g := by
  unfold B_Ju_joined_165 at h
  exact j_iret hE (by decide +kernel : decode cX2_joined 165 = .ok (.ireturn, 1)) ⟨_, rfl, h⟩
set_option maxRecDepth 100000 in
def B_Ju_joined_0 (Γ : GAM) (K : Int32 → GH → Prop) (p0 : Int32) (p1 : Int32) (p2 : Int32) (g : GH) : Prop :=
  ((p0 = (35 : Int32) → ((p1 = p2 → B_Ju_joined_176 Γ K (0 : Int32) g) ∧ (¬ (p1 = p2) → B_Ju_joined_176 Γ K (1 : Int32) g))) ∧ (¬ (p0 = (35 : Int32)) → ((p0 = (38 : Int32) → K (p1 &&& p2) g) ∧ (¬ (p0 = (38 : Int32)) → ((p0 = (42 : Int32) → Sp_Ju_bounded Γ ((p1.toInt64) * (p2.toInt64)) g (fun (x2 : Int32) (g1 : GH) => K x2 g1)) ∧ (¬ (p0 = (42 : Int32)) → ((p0 = (43 : Int32) → Sp_Ju_bounded Γ ((p1.toInt64) + (p2.toInt64)) g (fun (x4 : Int32) (g3 : GH) => K x4 g3)) ∧ (¬ (p0 = (43 : Int32)) → ((p0 = (45 : Int32) → Sp_Ju_bounded Γ ((p1.toInt64) - (p2.toInt64)) g (fun (x6 : Int32) (g5 : GH) => K x6 g5)) ∧ (¬ (p0 = (45 : Int32)) → ((p0 = (60 : Int32) → ((p2 ≤ p1 → B_Ju_joined_187 Γ K (0 : Int32) g) ∧ (¬ (p2 ≤ p1) → B_Ju_joined_187 Γ K (1 : Int32) g))) ∧ (¬ (p0 = (60 : Int32)) → ((p0 = (61 : Int32) → ((¬ (p1 = p2) → B_Ju_joined_165 Γ K (0 : Int32) g) ∧ (p1 = p2 → B_Ju_joined_165 Γ K (1 : Int32) g))) ∧ (¬ (p0 = (61 : Int32)) → ((p0 = (62 : Int32) → ((p1 ≤ p2 → B_Ju_joined_198 Γ K (0 : Int32) g) ∧ (¬ (p1 ≤ p2) → B_Ju_joined_198 Γ K (1 : Int32) g))) ∧ (¬ (p0 = (62 : Int32)) → K (p1 ||| p2) g))))))))))))))))
set_option maxHeartbeats 4000000 in
set_option maxRecDepth 100000 in
theorem S_Ju_joined_0 {Γ : GAM} {E : EV} {K : Int32 → GH → Prop} (hE : GE Γ E cX2_joined 3 RX2 (some (.int)) 2 51 (fun r g' => ∃ x, r = some (.int x) ∧ K x g')) (p0 : Int32) (p1 : Int32) (p2 : Int32) (g : GH) (h : B_Ju_joined_0 Γ K p0 p1 p2 g) : JW Γ E 0 [some (.int p0), some (.int p1), some (.int p2)] [] g := by
  unfold B_Ju_joined_0 at h
  refine j_iload_n hE (by decide +kernel : decode cX2_joined 0 = .ok (.iload_n 0, 1)) rfl rfl ?_
  by_cases q0 : p0 = (35 : Int32)
  · replace h := h.1 q0
    refine j_tableIn hE (by decide +kernel : decode cX2_joined 1 = .ok (.tableswitch 202 35 62 #[165, 202, 202, 198, 202, 202, 202, 145, 127, 202, 136, 202, 202, 202, 202, 202, 202, 202, 202, 202, 202, 202, 202, 202, 202, 176, 154, 187], 127)) (by rw [q0]; decide) (by rw [q0]; decide) (off := 165) (by rw [q0]; decide) (tgt := 166) (by decide) ?_
    refine j_iload_n hE (by decide +kernel : decode cX2_joined 166 = .ok (.iload_n 1, 1)) rfl rfl ?_
    refine j_iload_n hE (by decide +kernel : decode cX2_joined 167 = .ok (.iload_n 2, 1)) rfl rfl ?_
    refine j_icmp_eq hE (by decide +kernel : decode cX2_joined 168 = .ok (.if_icmp .eq 7, 3)) (tgt := 175) (by decide) (fun q => ?_) (fun q => ?_)
    · replace h := h.1 q
      refine j_iconst hE (by decide +kernel : decode cX2_joined 175 = .ok (.iconst 0, 1)) (v := (0 : Int32)) (by decide) ?_
      refine j_weak [none, none, none] trivial ?_
      exact S_Ju_joined_176 hE _ _ h
    · replace h := h.2 q
      refine j_iconst hE (by decide +kernel : decode cX2_joined 171 = .ok (.iconst 1, 1)) (v := (1 : Int32)) (by decide) ?_
      refine j_goto hE (by decide +kernel : decode cX2_joined 172 = .ok (.goto 4, 3)) (tgt := 176) (by decide) ?_
      refine j_weak [none, none, none] trivial ?_
      exact S_Ju_joined_176 hE _ _ h
  · replace h := h.2 q0
    by_cases q1 : p0 = (38 : Int32)
    · replace h := h.1 q1
      refine j_tableIn hE (by decide +kernel : decode cX2_joined 1 = .ok (.tableswitch 202 35 62 #[165, 202, 202, 198, 202, 202, 202, 145, 127, 202, 136, 202, 202, 202, 202, 202, 202, 202, 202, 202, 202, 202, 202, 202, 202, 176, 154, 187], 127)) (by rw [q1]; decide) (by rw [q1]; decide) (off := 198) (by rw [q1]; decide) (tgt := 199) (by decide) ?_
      refine j_iload_n hE (by decide +kernel : decode cX2_joined 199 = .ok (.iload_n 1, 1)) rfl rfl ?_
      refine j_iload_n hE (by decide +kernel : decode cX2_joined 200 = .ok (.iload_n 2, 1)) rfl rfl ?_
      refine j_iand hE (by decide +kernel : decode cX2_joined 201 = .ok (.iand, 1)) ?_
      exact j_iret hE (by decide +kernel : decode cX2_joined 202 = .ok (.ireturn, 1)) ⟨_, rfl, h⟩
    · replace h := h.2 q1
      by_cases q2 : p0 = (42 : Int32)
      · replace h := h.1 q2
        refine j_tableIn hE (by decide +kernel : decode cX2_joined 1 = .ok (.tableswitch 202 35 62 #[165, 202, 202, 198, 202, 202, 202, 145, 127, 202, 136, 202, 202, 202, 202, 202, 202, 202, 202, 202, 202, 202, 202, 202, 202, 176, 154, 187], 127)) (by rw [q2]; decide) (by rw [q2]; decide) (off := 145) (by rw [q2]; decide) (tgt := 146) (by decide) ?_
        refine j_iload_n hE (by decide +kernel : decode cX2_joined 146 = .ok (.iload_n 1, 1)) rfl rfl ?_
        refine j_i2l hE (by decide +kernel : decode cX2_joined 147 = .ok (.i2l, 1)) ?_
        refine j_iload_n hE (by decide +kernel : decode cX2_joined 148 = .ok (.iload_n 2, 1)) rfl rfl ?_
        refine j_i2l hE (by decide +kernel : decode cX2_joined 149 = .ok (.i2l, 1)) ?_
        refine j_lmul hE (by decide +kernel : decode cX2_joined 150 = .ok (.lmul, 1)) ?_
        refine j_callS hE rfl cl_X2_118 st_X2_bounded ⟨by omega, by omega⟩ (As := [.long ((p1.toInt64) * (p2.toInt64))]) (rest := []) rfl rfl (Nat.le_of_ble_eq_true rfl) (by decide +kernel : decode cX2_joined 151 = .ok (.invokestatic 118, 3)) (mt_Ju_bounded _ _ _ h) ?_
        rintro _ g1 ⟨x2, rfl, h⟩
        exact j_iret hE (by decide +kernel : decode cX2_joined 154 = .ok (.ireturn, 1)) ⟨_, rfl, h⟩
      · replace h := h.2 q2
        by_cases q3 : p0 = (43 : Int32)
        · replace h := h.1 q3
          refine j_tableIn hE (by decide +kernel : decode cX2_joined 1 = .ok (.tableswitch 202 35 62 #[165, 202, 202, 198, 202, 202, 202, 145, 127, 202, 136, 202, 202, 202, 202, 202, 202, 202, 202, 202, 202, 202, 202, 202, 202, 176, 154, 187], 127)) (by rw [q3]; decide) (by rw [q3]; decide) (off := 127) (by rw [q3]; decide) (tgt := 128) (by decide) ?_
          refine j_iload_n hE (by decide +kernel : decode cX2_joined 128 = .ok (.iload_n 1, 1)) rfl rfl ?_
          refine j_i2l hE (by decide +kernel : decode cX2_joined 129 = .ok (.i2l, 1)) ?_
          refine j_iload_n hE (by decide +kernel : decode cX2_joined 130 = .ok (.iload_n 2, 1)) rfl rfl ?_
          refine j_i2l hE (by decide +kernel : decode cX2_joined 131 = .ok (.i2l, 1)) ?_
          refine j_ladd hE (by decide +kernel : decode cX2_joined 132 = .ok (.ladd, 1)) ?_
          refine j_callS hE rfl cl_X2_118 st_X2_bounded ⟨by omega, by omega⟩ (As := [.long ((p1.toInt64) + (p2.toInt64))]) (rest := []) rfl rfl (Nat.le_of_ble_eq_true rfl) (by decide +kernel : decode cX2_joined 133 = .ok (.invokestatic 118, 3)) (mt_Ju_bounded _ _ _ h) ?_
          rintro _ g3 ⟨x4, rfl, h⟩
          exact j_iret hE (by decide +kernel : decode cX2_joined 136 = .ok (.ireturn, 1)) ⟨_, rfl, h⟩
        · replace h := h.2 q3
          by_cases q4 : p0 = (45 : Int32)
          · replace h := h.1 q4
            refine j_tableIn hE (by decide +kernel : decode cX2_joined 1 = .ok (.tableswitch 202 35 62 #[165, 202, 202, 198, 202, 202, 202, 145, 127, 202, 136, 202, 202, 202, 202, 202, 202, 202, 202, 202, 202, 202, 202, 202, 202, 176, 154, 187], 127)) (by rw [q4]; decide) (by rw [q4]; decide) (off := 136) (by rw [q4]; decide) (tgt := 137) (by decide) ?_
            refine j_iload_n hE (by decide +kernel : decode cX2_joined 137 = .ok (.iload_n 1, 1)) rfl rfl ?_
            refine j_i2l hE (by decide +kernel : decode cX2_joined 138 = .ok (.i2l, 1)) ?_
            refine j_iload_n hE (by decide +kernel : decode cX2_joined 139 = .ok (.iload_n 2, 1)) rfl rfl ?_
            refine j_i2l hE (by decide +kernel : decode cX2_joined 140 = .ok (.i2l, 1)) ?_
            refine j_lsub hE (by decide +kernel : decode cX2_joined 141 = .ok (.lsub, 1)) ?_
            refine j_callS hE rfl cl_X2_118 st_X2_bounded ⟨by omega, by omega⟩ (As := [.long ((p1.toInt64) - (p2.toInt64))]) (rest := []) rfl rfl (Nat.le_of_ble_eq_true rfl) (by decide +kernel : decode cX2_joined 142 = .ok (.invokestatic 118, 3)) (mt_Ju_bounded _ _ _ h) ?_
            rintro _ g5 ⟨x6, rfl, h⟩
            exact j_iret hE (by decide +kernel : decode cX2_joined 145 = .ok (.ireturn, 1)) ⟨_, rfl, h⟩
          · replace h := h.2 q4
            by_cases q5 : p0 = (60 : Int32)
            · replace h := h.1 q5
              refine j_tableIn hE (by decide +kernel : decode cX2_joined 1 = .ok (.tableswitch 202 35 62 #[165, 202, 202, 198, 202, 202, 202, 145, 127, 202, 136, 202, 202, 202, 202, 202, 202, 202, 202, 202, 202, 202, 202, 202, 202, 176, 154, 187], 127)) (by rw [q5]; decide) (by rw [q5]; decide) (off := 176) (by rw [q5]; decide) (tgt := 177) (by decide) ?_
              refine j_iload_n hE (by decide +kernel : decode cX2_joined 177 = .ok (.iload_n 1, 1)) rfl rfl ?_
              refine j_iload_n hE (by decide +kernel : decode cX2_joined 178 = .ok (.iload_n 2, 1)) rfl rfl ?_
              refine j_icmp_ge hE (by decide +kernel : decode cX2_joined 179 = .ok (.if_icmp .ge 7, 3)) (tgt := 186) (by decide) (fun q => ?_) (fun q => ?_)
              · replace h := h.1 q
                refine j_iconst hE (by decide +kernel : decode cX2_joined 186 = .ok (.iconst 0, 1)) (v := (0 : Int32)) (by decide) ?_
                refine j_weak [none, none, none] trivial ?_
                exact S_Ju_joined_187 hE _ _ h
              · replace h := h.2 q
                refine j_iconst hE (by decide +kernel : decode cX2_joined 182 = .ok (.iconst 1, 1)) (v := (1 : Int32)) (by decide) ?_
                refine j_goto hE (by decide +kernel : decode cX2_joined 183 = .ok (.goto 4, 3)) (tgt := 187) (by decide) ?_
                refine j_weak [none, none, none] trivial ?_
                exact S_Ju_joined_187 hE _ _ h
            · replace h := h.2 q5
              by_cases q6 : p0 = (61 : Int32)
              · replace h := h.1 q6
                refine j_tableIn hE (by decide +kernel : decode cX2_joined 1 = .ok (.tableswitch 202 35 62 #[165, 202, 202, 198, 202, 202, 202, 145, 127, 202, 136, 202, 202, 202, 202, 202, 202, 202, 202, 202, 202, 202, 202, 202, 202, 176, 154, 187], 127)) (by rw [q6]; decide) (by rw [q6]; decide) (off := 154) (by rw [q6]; decide) (tgt := 155) (by decide) ?_
                refine j_iload_n hE (by decide +kernel : decode cX2_joined 155 = .ok (.iload_n 1, 1)) rfl rfl ?_
                refine j_iload_n hE (by decide +kernel : decode cX2_joined 156 = .ok (.iload_n 2, 1)) rfl rfl ?_
                refine j_icmp_ne hE (by decide +kernel : decode cX2_joined 157 = .ok (.if_icmp .ne 7, 3)) (tgt := 164) (by decide) (fun q => ?_) (fun q => ?_)
                · replace h := h.1 q
                  refine j_iconst hE (by decide +kernel : decode cX2_joined 164 = .ok (.iconst 0, 1)) (v := (0 : Int32)) (by decide) ?_
                  refine j_weak [none, none, none] trivial ?_
                  exact S_Ju_joined_165 hE _ _ h
                · replace h := h.2 q
                  refine j_iconst hE (by decide +kernel : decode cX2_joined 160 = .ok (.iconst 1, 1)) (v := (1 : Int32)) (by decide) ?_
                  refine j_goto hE (by decide +kernel : decode cX2_joined 161 = .ok (.goto 4, 3)) (tgt := 165) (by decide) ?_
                  refine j_weak [none, none, none] trivial ?_
                  exact S_Ju_joined_165 hE _ _ h
              · replace h := h.2 q6
                by_cases q7 : p0 = (62 : Int32)
                · replace h := h.1 q7
                  refine j_tableIn hE (by decide +kernel : decode cX2_joined 1 = .ok (.tableswitch 202 35 62 #[165, 202, 202, 198, 202, 202, 202, 145, 127, 202, 136, 202, 202, 202, 202, 202, 202, 202, 202, 202, 202, 202, 202, 202, 202, 176, 154, 187], 127)) (by rw [q7]; decide) (by rw [q7]; decide) (off := 187) (by rw [q7]; decide) (tgt := 188) (by decide) ?_
                  refine j_iload_n hE (by decide +kernel : decode cX2_joined 188 = .ok (.iload_n 1, 1)) rfl rfl ?_
                  refine j_iload_n hE (by decide +kernel : decode cX2_joined 189 = .ok (.iload_n 2, 1)) rfl rfl ?_
                  refine j_icmp_le hE (by decide +kernel : decode cX2_joined 190 = .ok (.if_icmp .le 7, 3)) (tgt := 197) (by decide) (fun q => ?_) (fun q => ?_)
                  · replace h := h.1 q
                    refine j_iconst hE (by decide +kernel : decode cX2_joined 197 = .ok (.iconst 0, 1)) (v := (0 : Int32)) (by decide) ?_
                    refine j_weak [none, none, none] trivial ?_
                    exact S_Ju_joined_198 hE _ _ h
                  · replace h := h.2 q
                    refine j_iconst hE (by decide +kernel : decode cX2_joined 193 = .ok (.iconst 1, 1)) (v := (1 : Int32)) (by decide) ?_
                    refine j_goto hE (by decide +kernel : decode cX2_joined 194 = .ok (.goto 4, 3)) (tgt := 198) (by decide) ?_
                    refine j_weak [none, none, none] trivial ?_
                    exact S_Ju_joined_198 hE _ _ h
                · replace h := h.2 q7
                  have hD : JW Γ E 203 [some (.int p0), some (.int p1), some (.int p2)] [] g := by
                    refine j_iload_n hE (by decide +kernel : decode cX2_joined 203 = .ok (.iload_n 1, 1)) rfl rfl ?_
                    refine j_iload_n hE (by decide +kernel : decode cX2_joined 204 = .ok (.iload_n 2, 1)) rfl rfl ?_
                    refine j_ior hE (by decide +kernel : decode cX2_joined 205 = .ok (.ior, 1)) ?_
                    exact j_iret hE (by decide +kernel : decode cX2_joined 206 = .ok (.ireturn, 1)) ⟨_, rfl, h⟩
                  by_cases u1 : p0 = (36 : Int32)
                  · exact j_tableIn hE (by decide +kernel : decode cX2_joined 1 = .ok (.tableswitch 202 35 62 #[165, 202, 202, 198, 202, 202, 202, 145, 127, 202, 136, 202, 202, 202, 202, 202, 202, 202, 202, 202, 202, 202, 202, 202, 202, 176, 154, 187], 127)) (by rw [u1]; decide) (by rw [u1]; decide) (off := 202) (by rw [u1]; decide) (tgt := 203) (by decide) hD
                  by_cases u2 : p0 = (37 : Int32)
                  · exact j_tableIn hE (by decide +kernel : decode cX2_joined 1 = .ok (.tableswitch 202 35 62 #[165, 202, 202, 198, 202, 202, 202, 145, 127, 202, 136, 202, 202, 202, 202, 202, 202, 202, 202, 202, 202, 202, 202, 202, 202, 176, 154, 187], 127)) (by rw [u2]; decide) (by rw [u2]; decide) (off := 202) (by rw [u2]; decide) (tgt := 203) (by decide) hD
                  by_cases u4 : p0 = (39 : Int32)
                  · exact j_tableIn hE (by decide +kernel : decode cX2_joined 1 = .ok (.tableswitch 202 35 62 #[165, 202, 202, 198, 202, 202, 202, 145, 127, 202, 136, 202, 202, 202, 202, 202, 202, 202, 202, 202, 202, 202, 202, 202, 202, 176, 154, 187], 127)) (by rw [u4]; decide) (by rw [u4]; decide) (off := 202) (by rw [u4]; decide) (tgt := 203) (by decide) hD
                  by_cases u5 : p0 = (40 : Int32)
                  · exact j_tableIn hE (by decide +kernel : decode cX2_joined 1 = .ok (.tableswitch 202 35 62 #[165, 202, 202, 198, 202, 202, 202, 145, 127, 202, 136, 202, 202, 202, 202, 202, 202, 202, 202, 202, 202, 202, 202, 202, 202, 176, 154, 187], 127)) (by rw [u5]; decide) (by rw [u5]; decide) (off := 202) (by rw [u5]; decide) (tgt := 203) (by decide) hD
                  by_cases u6 : p0 = (41 : Int32)
                  · exact j_tableIn hE (by decide +kernel : decode cX2_joined 1 = .ok (.tableswitch 202 35 62 #[165, 202, 202, 198, 202, 202, 202, 145, 127, 202, 136, 202, 202, 202, 202, 202, 202, 202, 202, 202, 202, 202, 202, 202, 202, 176, 154, 187], 127)) (by rw [u6]; decide) (by rw [u6]; decide) (off := 202) (by rw [u6]; decide) (tgt := 203) (by decide) hD
                  by_cases u9 : p0 = (44 : Int32)
                  · exact j_tableIn hE (by decide +kernel : decode cX2_joined 1 = .ok (.tableswitch 202 35 62 #[165, 202, 202, 198, 202, 202, 202, 145, 127, 202, 136, 202, 202, 202, 202, 202, 202, 202, 202, 202, 202, 202, 202, 202, 202, 176, 154, 187], 127)) (by rw [u9]; decide) (by rw [u9]; decide) (off := 202) (by rw [u9]; decide) (tgt := 203) (by decide) hD
                  by_cases u11 : p0 = (46 : Int32)
                  · exact j_tableIn hE (by decide +kernel : decode cX2_joined 1 = .ok (.tableswitch 202 35 62 #[165, 202, 202, 198, 202, 202, 202, 145, 127, 202, 136, 202, 202, 202, 202, 202, 202, 202, 202, 202, 202, 202, 202, 202, 202, 176, 154, 187], 127)) (by rw [u11]; decide) (by rw [u11]; decide) (off := 202) (by rw [u11]; decide) (tgt := 203) (by decide) hD
                  by_cases u12 : p0 = (47 : Int32)
                  · exact j_tableIn hE (by decide +kernel : decode cX2_joined 1 = .ok (.tableswitch 202 35 62 #[165, 202, 202, 198, 202, 202, 202, 145, 127, 202, 136, 202, 202, 202, 202, 202, 202, 202, 202, 202, 202, 202, 202, 202, 202, 176, 154, 187], 127)) (by rw [u12]; decide) (by rw [u12]; decide) (off := 202) (by rw [u12]; decide) (tgt := 203) (by decide) hD
                  by_cases u13 : p0 = (48 : Int32)
                  · exact j_tableIn hE (by decide +kernel : decode cX2_joined 1 = .ok (.tableswitch 202 35 62 #[165, 202, 202, 198, 202, 202, 202, 145, 127, 202, 136, 202, 202, 202, 202, 202, 202, 202, 202, 202, 202, 202, 202, 202, 202, 176, 154, 187], 127)) (by rw [u13]; decide) (by rw [u13]; decide) (off := 202) (by rw [u13]; decide) (tgt := 203) (by decide) hD
                  by_cases u14 : p0 = (49 : Int32)
                  · exact j_tableIn hE (by decide +kernel : decode cX2_joined 1 = .ok (.tableswitch 202 35 62 #[165, 202, 202, 198, 202, 202, 202, 145, 127, 202, 136, 202, 202, 202, 202, 202, 202, 202, 202, 202, 202, 202, 202, 202, 202, 176, 154, 187], 127)) (by rw [u14]; decide) (by rw [u14]; decide) (off := 202) (by rw [u14]; decide) (tgt := 203) (by decide) hD
                  by_cases u15 : p0 = (50 : Int32)
                  · exact j_tableIn hE (by decide +kernel : decode cX2_joined 1 = .ok (.tableswitch 202 35 62 #[165, 202, 202, 198, 202, 202, 202, 145, 127, 202, 136, 202, 202, 202, 202, 202, 202, 202, 202, 202, 202, 202, 202, 202, 202, 176, 154, 187], 127)) (by rw [u15]; decide) (by rw [u15]; decide) (off := 202) (by rw [u15]; decide) (tgt := 203) (by decide) hD
                  by_cases u16 : p0 = (51 : Int32)
                  · exact j_tableIn hE (by decide +kernel : decode cX2_joined 1 = .ok (.tableswitch 202 35 62 #[165, 202, 202, 198, 202, 202, 202, 145, 127, 202, 136, 202, 202, 202, 202, 202, 202, 202, 202, 202, 202, 202, 202, 202, 202, 176, 154, 187], 127)) (by rw [u16]; decide) (by rw [u16]; decide) (off := 202) (by rw [u16]; decide) (tgt := 203) (by decide) hD
                  by_cases u17 : p0 = (52 : Int32)
                  · exact j_tableIn hE (by decide +kernel : decode cX2_joined 1 = .ok (.tableswitch 202 35 62 #[165, 202, 202, 198, 202, 202, 202, 145, 127, 202, 136, 202, 202, 202, 202, 202, 202, 202, 202, 202, 202, 202, 202, 202, 202, 176, 154, 187], 127)) (by rw [u17]; decide) (by rw [u17]; decide) (off := 202) (by rw [u17]; decide) (tgt := 203) (by decide) hD
                  by_cases u18 : p0 = (53 : Int32)
                  · exact j_tableIn hE (by decide +kernel : decode cX2_joined 1 = .ok (.tableswitch 202 35 62 #[165, 202, 202, 198, 202, 202, 202, 145, 127, 202, 136, 202, 202, 202, 202, 202, 202, 202, 202, 202, 202, 202, 202, 202, 202, 176, 154, 187], 127)) (by rw [u18]; decide) (by rw [u18]; decide) (off := 202) (by rw [u18]; decide) (tgt := 203) (by decide) hD
                  by_cases u19 : p0 = (54 : Int32)
                  · exact j_tableIn hE (by decide +kernel : decode cX2_joined 1 = .ok (.tableswitch 202 35 62 #[165, 202, 202, 198, 202, 202, 202, 145, 127, 202, 136, 202, 202, 202, 202, 202, 202, 202, 202, 202, 202, 202, 202, 202, 202, 176, 154, 187], 127)) (by rw [u19]; decide) (by rw [u19]; decide) (off := 202) (by rw [u19]; decide) (tgt := 203) (by decide) hD
                  by_cases u20 : p0 = (55 : Int32)
                  · exact j_tableIn hE (by decide +kernel : decode cX2_joined 1 = .ok (.tableswitch 202 35 62 #[165, 202, 202, 198, 202, 202, 202, 145, 127, 202, 136, 202, 202, 202, 202, 202, 202, 202, 202, 202, 202, 202, 202, 202, 202, 176, 154, 187], 127)) (by rw [u20]; decide) (by rw [u20]; decide) (off := 202) (by rw [u20]; decide) (tgt := 203) (by decide) hD
                  by_cases u21 : p0 = (56 : Int32)
                  · exact j_tableIn hE (by decide +kernel : decode cX2_joined 1 = .ok (.tableswitch 202 35 62 #[165, 202, 202, 198, 202, 202, 202, 145, 127, 202, 136, 202, 202, 202, 202, 202, 202, 202, 202, 202, 202, 202, 202, 202, 202, 176, 154, 187], 127)) (by rw [u21]; decide) (by rw [u21]; decide) (off := 202) (by rw [u21]; decide) (tgt := 203) (by decide) hD
                  by_cases u22 : p0 = (57 : Int32)
                  · exact j_tableIn hE (by decide +kernel : decode cX2_joined 1 = .ok (.tableswitch 202 35 62 #[165, 202, 202, 198, 202, 202, 202, 145, 127, 202, 136, 202, 202, 202, 202, 202, 202, 202, 202, 202, 202, 202, 202, 202, 202, 176, 154, 187], 127)) (by rw [u22]; decide) (by rw [u22]; decide) (off := 202) (by rw [u22]; decide) (tgt := 203) (by decide) hD
                  by_cases u23 : p0 = (58 : Int32)
                  · exact j_tableIn hE (by decide +kernel : decode cX2_joined 1 = .ok (.tableswitch 202 35 62 #[165, 202, 202, 198, 202, 202, 202, 145, 127, 202, 136, 202, 202, 202, 202, 202, 202, 202, 202, 202, 202, 202, 202, 202, 202, 176, 154, 187], 127)) (by rw [u23]; decide) (by rw [u23]; decide) (off := 202) (by rw [u23]; decide) (tgt := 203) (by decide) hD
                  by_cases u24 : p0 = (59 : Int32)
                  · exact j_tableIn hE (by decide +kernel : decode cX2_joined 1 = .ok (.tableswitch 202 35 62 #[165, 202, 202, 198, 202, 202, 202, 145, 127, 202, 136, 202, 202, 202, 202, 202, 202, 202, 202, 202, 202, 202, 202, 202, 202, 176, 154, 187], 127)) (by rw [u24]; decide) (by rw [u24]; decide) (off := 202) (by rw [u24]; decide) (tgt := 203) (by decide) hD
                  have qq : (p0).toInt < 35 ∨ 62 < (p0).toInt := by
                    have z0 : ¬ (p0).toInt = 35 := fun e => q0 (Int32.toInt_inj.mp (e.trans (by decide)))
                    have z3 : ¬ (p0).toInt = 38 := fun e => q1 (Int32.toInt_inj.mp (e.trans (by decide)))
                    have z7 : ¬ (p0).toInt = 42 := fun e => q2 (Int32.toInt_inj.mp (e.trans (by decide)))
                    have z8 : ¬ (p0).toInt = 43 := fun e => q3 (Int32.toInt_inj.mp (e.trans (by decide)))
                    have z10 : ¬ (p0).toInt = 45 := fun e => q4 (Int32.toInt_inj.mp (e.trans (by decide)))
                    have z25 : ¬ (p0).toInt = 60 := fun e => q5 (Int32.toInt_inj.mp (e.trans (by decide)))
                    have z26 : ¬ (p0).toInt = 61 := fun e => q6 (Int32.toInt_inj.mp (e.trans (by decide)))
                    have z27 : ¬ (p0).toInt = 62 := fun e => q7 (Int32.toInt_inj.mp (e.trans (by decide)))
                    have z1 : ¬ (p0).toInt = 36 := fun e => u1 (Int32.toInt_inj.mp (e.trans (by decide)))
                    have z2 : ¬ (p0).toInt = 37 := fun e => u2 (Int32.toInt_inj.mp (e.trans (by decide)))
                    have z4 : ¬ (p0).toInt = 39 := fun e => u4 (Int32.toInt_inj.mp (e.trans (by decide)))
                    have z5 : ¬ (p0).toInt = 40 := fun e => u5 (Int32.toInt_inj.mp (e.trans (by decide)))
                    have z6 : ¬ (p0).toInt = 41 := fun e => u6 (Int32.toInt_inj.mp (e.trans (by decide)))
                    have z9 : ¬ (p0).toInt = 44 := fun e => u9 (Int32.toInt_inj.mp (e.trans (by decide)))
                    have z11 : ¬ (p0).toInt = 46 := fun e => u11 (Int32.toInt_inj.mp (e.trans (by decide)))
                    have z12 : ¬ (p0).toInt = 47 := fun e => u12 (Int32.toInt_inj.mp (e.trans (by decide)))
                    have z13 : ¬ (p0).toInt = 48 := fun e => u13 (Int32.toInt_inj.mp (e.trans (by decide)))
                    have z14 : ¬ (p0).toInt = 49 := fun e => u14 (Int32.toInt_inj.mp (e.trans (by decide)))
                    have z15 : ¬ (p0).toInt = 50 := fun e => u15 (Int32.toInt_inj.mp (e.trans (by decide)))
                    have z16 : ¬ (p0).toInt = 51 := fun e => u16 (Int32.toInt_inj.mp (e.trans (by decide)))
                    have z17 : ¬ (p0).toInt = 52 := fun e => u17 (Int32.toInt_inj.mp (e.trans (by decide)))
                    have z18 : ¬ (p0).toInt = 53 := fun e => u18 (Int32.toInt_inj.mp (e.trans (by decide)))
                    have z19 : ¬ (p0).toInt = 54 := fun e => u19 (Int32.toInt_inj.mp (e.trans (by decide)))
                    have z20 : ¬ (p0).toInt = 55 := fun e => u20 (Int32.toInt_inj.mp (e.trans (by decide)))
                    have z21 : ¬ (p0).toInt = 56 := fun e => u21 (Int32.toInt_inj.mp (e.trans (by decide)))
                    have z22 : ¬ (p0).toInt = 57 := fun e => u22 (Int32.toInt_inj.mp (e.trans (by decide)))
                    have z23 : ¬ (p0).toInt = 58 := fun e => u23 (Int32.toInt_inj.mp (e.trans (by decide)))
                    have z24 : ¬ (p0).toInt = 59 := fun e => u24 (Int32.toInt_inj.mp (e.trans (by decide)))
                    omega
                  exact j_tableOut hE (by decide +kernel : decode cX2_joined 1 = .ok (.tableswitch 202 35 62 #[165, 202, 202, 198, 202, 202, 202, 145, 127, 202, 136, 202, 202, 202, 202, 202, 202, 202, 202, 202, 202, 202, 202, 202, 202, 176, 154, 187], 127)) qq (tgt := 203) (by decide) hD
set_option maxHeartbeats 4000000 in
set_option maxRecDepth 100000 in
theorem rl_Ju_joined {Γ : GAM} {l : Launch} {p0 : Int32} {p1 : Int32} {p2 : Int32} {g : GH} {K : Int32 → GH → Prop} (h0 : B_Ju_joined_0 Γ K p0 p1 p2 g) : MetA Γ l yX2_joined cX2_joined 3 (some (.int)) 2 51 [.int p0, .int p1, .int p2] g (fun r g' => ∃ x, r = some (.int x) ∧ K x g') := by
  refine MetA.introL (Lx := [some (.int p0), some (.int p1), some (.int p2)]) (by decide) (Nat.le_of_ble_eq_true rfl) rfl rfl ?_
  intro E hEl hE hnm
  exact S_Ju_joined_0 hE p0 p1 p2 g h0
theorem mt_Ju_joined {Γ : GAM} {l : Launch} (p0 : Int32) (p1 : Int32) (p2 : Int32) (g : GH) (K : Int32 → GH → Prop) (h : Sp_Ju_joined Γ p0 p1 p2 g K) : MetA Γ l yX2_joined cX2_joined 3 (some (.int)) 2 51 [.int p0, .int p1, .int p2] g (fun r g' => ∃ x, r = some (.int x) ∧ K x g') := by
  refine rl_Ju_joined ?_
  unfold Sp_Ju_joined cJn at h
  unfold B_Ju_joined_0 B_Ju_joined_165 B_Ju_joined_176 B_Ju_joined_187 B_Ju_joined_198 Sp_Ju_bounded
  refine ⟨fun u => ?_, fun n1 => ?_⟩
  · rw [if_pos u] at h
    exact ⟨fun q => by rw [if_pos q] at h; exact h, fun q => by rw [if_neg q] at h; exact h⟩
  rw [if_neg n1] at h
  refine ⟨fun u => by rw [if_pos u] at h; exact h, fun n2 => ?_⟩
  rw [if_neg n2] at h
  refine ⟨fun u => by rw [if_pos u] at h; exact h, fun n3 => ?_⟩
  rw [if_neg n3] at h
  refine ⟨fun u => by rw [if_pos u] at h; exact h, fun n4 => ?_⟩
  rw [if_neg n4] at h
  refine ⟨fun u => by rw [if_pos u] at h; exact h, fun n5 => ?_⟩
  rw [if_neg n5] at h
  refine ⟨fun u => ?_, fun n6 => ?_⟩
  · rw [if_pos u] at h
    exact ⟨fun q => by rw [if_pos q] at h; exact h, fun q => by rw [if_neg q] at h; exact h⟩
  rw [if_neg n6] at h
  refine ⟨fun u => ?_, fun n7 => ?_⟩
  · rw [if_pos u] at h
    exact ⟨fun q => by rw [if_neg q] at h; exact h, fun q => by rw [if_pos q] at h; exact h⟩
  rw [if_neg n7] at h
  refine ⟨fun u => ?_, fun n8 => ?_⟩
  · rw [if_pos u] at h
    exact ⟨fun q => by rw [if_pos q] at h; exact h, fun q => by rw [if_neg q] at h; exact h⟩
  rw [if_neg n8] at h
  exact h
