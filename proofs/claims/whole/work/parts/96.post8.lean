/-! the class: its post judges all; what is judged, read off -/
theorem SAM.lt {a : Nat} {g g' : GH} (h : SAM a g g') : SAM a g g' := h
theorem VOS.fc {Γ : GAM} {D : DIR} {g : GH} {s : ST} (h : PoI Γ D g s) (hl : (s_env s).length ≤ 200) {v v' : Nat} (hne : v ≠ v') (hv31 : v < 60) (hv31' : v' < 60) : (∀ w, (d_vs D)[v]? = some w → w < Hn g ∧ OUTV D s v' w) ∧ ∀ (e : Nat) (y : Em) (x : Nat), (s_env s)[e]? = some y → y.1 = nI v → (d_es D)[e]? = some x → x < Hn g ∧ OUTV D s v' x := by
  refine ⟨fun w hw => ?_, fun e y x he hy hx => ?_⟩
  · obtain ⟨_, _, _, hV, _⟩ := h.2.2.2.1.2.2.1 v w hw
    refine ⟨hV.1.1, fun z => hne (h.2.2.2.1.2.2.2 v v' w hw z), fun e y _ _ z => (h.vne hw z).1 rfl, h.vju hw⟩
  · obtain ⟨_, _, _, _, _, hE, _⟩ := h.2.2.2.2.1.2.2 e x hx
    refine ⟨hE.1.1, fun z => (h.vne z hx).1 rfl, fun e' y' he' hy' z => ?_, fun z => ?_⟩
    · have := h.einj hl hx z
      subst this
      rw [he] at he'; cases he'
      rw [hy] at hy'
      exact hne ((nj_eq (by omega) (by omega)).mp hy')
    · have hj := h.2.2.2.2.2.2.2.1.2
      have h2 := hE.1.2
      rw [z] at h2; omega
/-- all voters judged -/
def JA (D : DIR) (s : ST) (q : Int32) (n : Nat) (g : GH) : Prop := ∀ v, v < n → JV D s v q g
def Sp_Po_judgeAll (Γ : GAM) (m : Nat) (q : Int32) (g : GH) (K : GH → Prop) : Prop := ∃ D s, d_p D = m ∧ PoI Γ D g s ∧ WF s ∧ (0 ≤ q ∧ q ≤ s_now s) ∧ COM Γ D g ∧ RC Γ D g ∧ ∀ g', FK Γ D g g' → COM Γ D g' → JA D s q (s_vot s).length g' → K g'
-- the walk of Po_judgeAll
set_option maxRecDepth 100000 in
def B_Po_judgeAll_2 (Γ : GAM) (K2 : Nat → Int32 → Int32 → GH → Prop) (K : GH → Prop) (l0 : Nat) (l1 : Int32) (l2 : Int32) (g : GH) : Prop :=
  Kd g l0 = 6 ∧ ∃ a1 : Nat, Gr g 640 l0 = some a1 ∧ Kd g a1 = 1 ∧ Sp_AL_size Γ a1 g (fun (x3 : Int32) (g2 : GH) => ((x3 ≤ l2 → K g2) ∧ (¬ (x3 ≤ l2) → Kd g2 l0 = 6 ∧ ∃ a4 : Nat, Gr g2 640 l0 = some a4 ∧ Kd g2 a4 = 1 ∧ Sp_AL_get Γ a4 l2 g2 (fun (a6 : Nat) (g5 : GH) => Kd g5 a6 = 11 ∧ Kd g5 l0 = 6 ∧ Sp_Po_judgeOf Γ l0 a6 l1 g5 (fun (g7 : GH) => K2 l0 l1 (l2 + (1 : Int32)) g7)))))
set_option maxHeartbeats 4000000 in
set_option maxRecDepth 100000 in
theorem S_Po_judgeAll_2 {Γ : GAM} {E : EV} {K : GH → Prop} (hE : GE Γ E cX4_judgeAll 3 RX4 none 9 376 (fun r g' => r = none ∧ K g')) {K2 : Nat → Int32 → Int32 → GH → Prop} (hK2 : ∀ (l0 : Nat) (l1 : Int32) (l2 : Int32) (g : GH), K2 l0 l1 l2 g → JW Γ E 2 [some (.ref l0), some (.int l1), some (.int l2)] [] g) (l0 : Nat) (l1 : Int32) (l2 : Int32) (g : GH) (h : B_Po_judgeAll_2 Γ K2 K l0 l1 l2 g) : JW Γ E 2 [some (.ref l0), some (.int l1), some (.int l2)] [] g := by
  unfold B_Po_judgeAll_2 at h
  refine j_iload_n hE (by decide +kernel : decode cX4_judgeAll 2 = .ok (.iload_n 2, 1)) rfl rfl ?_
  refine j_aload_n hE (by decide +kernel : decode cX4_judgeAll 3 = .ok (.aload_n 0, 1)) rfl rfl ?_
  obtain ⟨hk, h⟩ := h
  obtain ⟨a1, ha, h⟩ := h
  refine j_getRn hE fg_X4_12 hk ha (by decide +kernel : decode cX4_judgeAll 4 = .ok (.getfield 12, 3)) ?_
  obtain ⟨hk, h⟩ := h
  refine j_callV hE rfl cl_X4_34 cf_0 im_Jx4a65c_size_8abf5 se_Jx4a65c_size_8abf5 ⟨by omega, by omega⟩ (As := []) (rest := [.int l2]) rfl rfl (Nat.le_of_ble_eq_true rfl) hk (by decide +kernel : decode cX4_judgeAll 7 = .ok (.invokevirtual 34, 3)) (mt_AL_size _ _ _ h) ?_
  rintro _ g2 ⟨x3, rfl, h⟩
  refine j_icmp_ge hE (by decide +kernel : decode cX4_judgeAll 10 = .ok (.if_icmp .ge 25, 3)) (tgt := 35) (by decide) (fun q => ?_) (fun q => ?_)
  · replace h := h.1 q
    exact j_vret hE (by decide +kernel : decode cX4_judgeAll 35 = .ok (.return_, 1)) ⟨rfl, h⟩
  · replace h := h.2 q
    refine j_aload_n hE (by decide +kernel : decode cX4_judgeAll 13 = .ok (.aload_n 0, 1)) rfl rfl ?_
    refine j_aload_n hE (by decide +kernel : decode cX4_judgeAll 14 = .ok (.aload_n 0, 1)) rfl rfl ?_
    obtain ⟨hk, h⟩ := h
    obtain ⟨a4, ha, h⟩ := h
    refine j_getRn hE fg_X4_12 hk ha (by decide +kernel : decode cX4_judgeAll 15 = .ok (.getfield 12, 3)) ?_
    refine j_iload_n hE (by decide +kernel : decode cX4_judgeAll 18 = .ok (.iload_n 2, 1)) rfl rfl ?_
    obtain ⟨hk, h⟩ := h
    refine j_callV hE rfl cl_X4_42 cf_0 im_Jx4a65c_get_915e3 se_Jx4a65c_get_915e3 ⟨by omega, by omega⟩ (As := [.int l2]) (rest := [.ref l0]) rfl rfl (Nat.le_of_ble_eq_true rfl) hk (by decide +kernel : decode cX4_judgeAll 19 = .ok (.invokevirtual 42, 3)) (mt_AL_get _ _ _ _ h) ?_
    rintro _ g5 ⟨a6, rfl, h⟩
    obtain ⟨hk, h⟩ := h
    refine j_cast hE cf_10 ck_X4_46 hk (by decide +kernel : decode cX4_judgeAll 22 = .ok (.checkcast 46, 3)) ?_
    refine j_iload_n hE (by decide +kernel : decode cX4_judgeAll 25 = .ok (.iload_n 1, 1)) rfl rfl ?_
    obtain ⟨hk, h⟩ := h
    refine j_callV hE rfl cl_X4_94 cf_5 im_X4_judgeOf se_X4_judgeOf ⟨by omega, by omega⟩ (As := [.ref a6, .int l1]) (rest := []) rfl rfl (Nat.le_of_ble_eq_true rfl) hk (by decide +kernel : decode cX4_judgeAll 26 = .ok (.invokevirtual 94, 3)) (mt_Po_judgeOf _ _ _ _ _ h) ?_
    rintro _ g7 ⟨rfl, h⟩
    refine j_iinc hE (by decide +kernel : decode cX4_judgeAll 29 = .ok (.iinc 2 1, 3)) (v := (1 : Int32)) (by decide) rfl (Nat.le_of_ble_eq_true rfl) rfl ?_
    refine j_goto hE (by decide +kernel : decode cX4_judgeAll 32 = .ok (.goto (-30), 3)) (tgt := 2) (by decide) ?_
    exact hK2 _ _ _ _ h
set_option maxRecDepth 100000 in
def B_Po_judgeAll_0 (Γ : GAM) (K2 : Nat → Int32 → Int32 → GH → Prop) (K : GH → Prop) (th : Nat) (p0 : Int32) (g : GH) : Prop :=
  K2 th p0 (0 : Int32) g
set_option maxHeartbeats 4000000 in
set_option maxRecDepth 100000 in
theorem S_Po_judgeAll_0 {Γ : GAM} {E : EV} {K : GH → Prop} (hE : GE Γ E cX4_judgeAll 3 RX4 none 9 376 (fun r g' => r = none ∧ K g')) {K2 : Nat → Int32 → Int32 → GH → Prop} (hK2 : ∀ (l0 : Nat) (l1 : Int32) (l2 : Int32) (g : GH), K2 l0 l1 l2 g → JW Γ E 2 [some (.ref l0), some (.int l1), some (.int l2)] [] g) (th : Nat) (p0 : Int32) (g : GH) (h : B_Po_judgeAll_0 Γ K2 K th p0 g) : JW Γ E 0 [some (.ref th), some (.int p0), none] [] g := by
  unfold B_Po_judgeAll_0 at h
  refine j_iconst hE (by decide +kernel : decode cX4_judgeAll 0 = .ok (.iconst 0, 1)) (v := (0 : Int32)) (by decide) ?_
  refine j_istore_n hE (by decide +kernel : decode cX4_judgeAll 1 = .ok (.istore_n 2, 1)) rfl (Nat.le_of_ble_eq_true rfl) rfl ?_
  exact hK2 _ _ _ _ h
set_option maxHeartbeats 4000000 in
set_option maxRecDepth 100000 in
theorem rl_Po_judgeAll {Γ : GAM} {l : Launch} {th : Nat} {p0 : Int32} {g : GH} {K : GH → Prop} (I2 : Nat → Nat → Int32 → Int32 → GH → Prop) (hh2 : ∀ n (l0 : Nat) (l1 : Int32) (l2 : Int32) (g : GH), I2 n l0 l1 l2 g → B_Po_judgeAll_2 Γ (fun l0 l1 l2 g => ∃ m, m < n ∧ I2 m l0 l1 l2 g) K l0 l1 l2 g) (h0 : B_Po_judgeAll_0 Γ (fun l0 l1 l2 g => ∃ m, I2 m l0 l1 l2 g) K th p0 g) : MetA Γ l yX4_judgeAll cX4_judgeAll 3 none 9 376 [.ref th, .int p0] g (fun r g' => r = none ∧ K g') := by
  refine MetA.introL (Lx := [some (.ref th), some (.int p0), none]) (by decide) (Nat.le_of_ble_eq_true rfl) rfl rfl ?_
  intro E hEl hE hnm
  have hall : ∀ n, (∀ (l0 : Nat) (l1 : Int32) (l2 : Int32) (g : GH), I2 n l0 l1 l2 g → JW Γ E 2 [some (.ref l0), some (.int l1), some (.int l2)] [] g) := by
    intro n
    induction n using Nat.strongRecOn with
    | ind n ih =>
      exact fun l0 l1 l2 g hi => S_Po_judgeAll_2 hE (fun l0 l1 l2 g hm => by obtain ⟨m, hm, h⟩ := hm; exact (ih m hm) l0 l1 l2 g h) l0 l1 l2 g (hh2 n l0 l1 l2 g hi)
  exact S_Po_judgeAll_0 hE (fun l0 l1 l2 g hm => by obtain ⟨m, h⟩ := hm; exact (hall m) l0 l1 l2 g h) th p0 g h0
theorem mt_Po_judgeAll {Γ : GAM} {l : Launch} (th : Nat) (p0 : Int32) (g : GH) (K : GH → Prop) (h : Sp_Po_judgeAll Γ th p0 g K) : MetA Γ l yX4_judgeAll cX4_judgeAll 3 none 9 376 [.ref th, .int p0] g (fun r g' => r = none ∧ K g') := by
  obtain ⟨D, s, rfl, hP, hW, hq, hCO, hRC, hK⟩ := h
  have hlen := hW.len
  refine rl_Po_judgeAll (fun n l0 l1 l2 g' => d_p D = l0 ∧ p0 = l1 ∧ ∃ k, k ≤ (s_vot s).length ∧ n = (s_vot s).length - k ∧ l2 = nI k ∧ FC D g g' ∧ COM Γ D g' ∧ JA D s p0 k g') ?_ ⟨_, rfl, rfl, 0, Nat.zero_le _, rfl, nj_0, FC.rf hP.1.1, hCO, fun v hv => absurd hv (Nat.not_lt_zero _)⟩
  rintro n l0 l1 l2 g' ⟨rfl, rfl, k, hk, rfl, rfl, hF, hC, hJ⟩
  have hP' := hP.c hF
  obtain ⟨⟨z1, _, _, _⟩, z2, z3, z4⟩ := hP'.sz
  suffices H : ∀ K2 : Nat → Int32 → Int32 → GH → Prop, (∀ g2, k < (s_vot s).length → FC D g' g2 → COM Γ D g2 → JA D s p0 (k + 1) g2 → K2 (d_p D) p0 (nI (k + 1)) g2) → B_Po_judgeAll_2 Γ K2 K (d_p D) p0 (nI k) g' from
    H _ (fun g2 hlt h1 h2 h3 => ⟨(s_vot s).length - (k + 1), by omega, rfl, rfl, k + 1, hlt, rfl, rfl, hF.tr h1, h2, h3⟩)
  intro K2 hn
  unfold B_Po_judgeAll_2
  refine ⟨z1, _, z2, z3, hP'.vsz ?_⟩
  rw [nj_le (by omega) (by omega)]
  refine ⟨fun u => ?_, fun u => ⟨z1, _, z2, z3, hP'.vget (by omega) (fun x hx hV => ?_)⟩⟩
  · rw [show k = (s_vot s).length by omega] at hJ
    exact hK g' ⟨hF, fun _ => hC⟩ hC hJ
  · obtain ⟨_, _, _, hVO, _⟩ := hV
    refine ⟨hVO.1.2, z1, D, s, k, rfl, hP', hW, hq, hx, hC, hRC.fc hF, fun g2 hF2 hC2 hJ2 => ?_⟩
    rw [nj_s]
    refine hn g2 (by omega) hF2.1 hC2 (fun v hv => ?_)
    by_cases e : v = k
    · rw [e]; exact hJ2
    · exact (hJ v (by omega)).fv hF2 e (by omega) (by omega) (VOS.fc hP' hlen.2.2.1 e (by omega) (by omega))
theorem sJu_full {s : ST} {v q : Int32} : ∀ k, k ≤ (sRow s v q).length → (sJu s v q k).2 = sGd s v q k := by
  intro k
  induction k with
  | zero => intro _; rfl
  | succ k ih =>
    intro h
    obtain ⟨e, he⟩ := get_lt (show k < (sRow s v q).length by omega)
    have h1 : (sJu s v q (k + 1)).2 = (sJu s v q k).2 + (if (sOne s (nI e) q (sJu s v q k).2).1 = 2 then 1 else 0) := by rw [sJu_s he]; rfl
    have h2 : sGd s v q (k + 1) = sGd s v q k + (if (sJ s v q e).1 = 2 then 1 else 0) := by
      unfold sGd
      rw [fold_take _ _ _ he]
    rw [h1, h2, ih (by omega), sJ_at he]
    have := ih (by omega)
    rw [this]
/-- of one envelope: what a judgement has left -/
theorem JA.env {D : DIR} {s : ST} {q : Int32} {g : GH} (h : JA D s q (s_vot s).length g) (hW : WF s) {e x : Nat} {y : Em} (he : (s_env s)[e]? = some y) (hx : (d_es D)[e]? = some x) : EJ s y.1.toNatClampNeg q (sRow s (nI y.1.toNatClampNeg) q).length g e x y ∧ nI y.1.toNatClampNeg = y.1 ∧ y.1.toNatClampNeg < (s_vot s).length := by
  have hy := (hW.env y (List.mem_of_getElem? he)).1
  have hn := nj_of hy.1
  exact ⟨(h _ hy.2).2 e y x he hn.1 hx, hn.1.symm, hy.2⟩
theorem EJ.s {s : ST} {v e x : Nat} {q : Int32} {g : GH} {y : Em} (h : EJ s v q (sRow s (nI v) q).length g e x y) (he : (s_env s)[e]? = some y) (hy : y.1 = nI v) : Gi g 140 x = (if y.2.2.1 ≤ q then (sJ s (nI v) q e).1 else -1) := by
  by_cases ht : y.2.2.1 ≤ q
  · rw [if_pos ht]
    refine (h.2 ht).2.2.2.2 ?_
    by_cases hc : cmO s q e = -1
    · exact .inl hc
    · rw [List.take_length]
      exact .inr (((sRow_ok s (nI v) q).1 e).mpr ⟨(List.getElem?_eq_some_iff.mp he).1, ⟨y, he, hy, ht⟩, hc⟩)
  · rw [if_neg ht]; exact h.1 ht
