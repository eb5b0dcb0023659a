/-! the reference: what is counted -/
def cnS (s : ST) (a : (Nat → Option Int32) × Int32) (v : Nat) : (Nat → Option Int32) × Int32 := match sFG s (nI v) (s_now s) with
  | none => a
  | some e => (fun i => if i = e then some (sShire s v (sCome s (nI e) (s_now s)).1 (s_now s)) else a.1 i, a.2 + 1)
def sCn (s : ST) (k : Nat) : (Nat → Option Int32) × Int32 := ((List.range (s_vot s).length).take k).foldl (cnS s) (fun _ => none, 0)
def CN (m : Nat) (g : GH) (s : ST) (k : Nat) : Prop := ∀ e, e < (s_env s).length → Ia g 1607 m e = (if ((sCn s k).1 e).isSome = true then 1 else 0) ∧ ∀ sh, (sCn s k).1 e = some sh → Ia g 1608 m e = sh
theorem CN.cg {m : Nat} {g g' : GH} {s : ST} {k : Nat} (h : CN m g s k) (h1 : Ia g' 1607 m = Ia g 1607 m) (h2 : Ia g' 1608 m = Ia g 1608 m) : CN m g' s k := by
  intro e he
  rw [h1, h2]
  exact h e he
theorem sFG_in {s : ST} {v q : Int32} {e : Nat} (h : sFG s v q = some e) : e < (s_env s).length ∧ inLn s v q e ∧ (sJ s v q e).1 = 2 := by
  unfold sFG at h
  have h1 := List.mem_of_find?_eq_some h
  have h2 := List.find?_some h
  obtain ⟨a, b, _⟩ := ((sRow_ok s v q).1 e).mp h1
  exact ⟨a, b, of_decide_eq_true h2⟩
def Sp_M_findCounted (Γ : GAM) (m : Nat) (g : GH) (K : Int32 → GH → Prop) : Prop := ∃ ma s, RefI m ma g s ∧ WF s ∧ ∀ g', FrX m [1569, 1570, 1595, 1602] [1594, 1596, 1597, 1598, 1599, 1600, 1601, 1607, 1608] g g' → CN m g' s (s_vot s).length → K (sCn s (s_vot s).length).2 g'
-- the walk of M_findCounted
set_option maxRecDepth 100000 in
def B_M_findCounted_85 (Γ : GAM) (K4 : Nat → Int32 → Int32 → GH → Prop) (K27 : Nat → Int32 → Int32 → GH → Prop) (K : Int32 → GH → Prop) (l0 : Nat) (l1 : Int32) (l2 : Int32) (g : GH) : Prop :=
  K27 l0 l1 (l2 + (1 : Int32)) g
set_option maxHeartbeats 4000000 in
set_option maxRecDepth 100000 in
theorem S_M_findCounted_85 {Γ : GAM} {E : EV} {K : Int32 → GH → Prop} (hE : GE Γ E cX11_findCounted 4 RX11 (some (.int)) 8 203 (fun r g' => ∃ x, r = some (.int x) ∧ K x g')) {K4 : Nat → Int32 → Int32 → GH → Prop} {K27 : Nat → Int32 → Int32 → GH → Prop} (hK4 : ∀ (l0 : Nat) (l1 : Int32) (l2 : Int32) (g : GH), K4 l0 l1 l2 g → JW Γ E 4 [some (.ref l0), some (.int l1), some (.int l2), none] [] g) (hK27 : ∀ (l0 : Nat) (l1 : Int32) (l2 : Int32) (g : GH), K27 l0 l1 l2 g → JW Γ E 27 [some (.ref l0), some (.int l1), some (.int l2), none] [] g) (l0 : Nat) (l1 : Int32) (l2 : Int32) (g : GH) (h : B_M_findCounted_85 Γ K4 K27 K l0 l1 l2 g) : JW Γ E 85 [some (.ref l0), some (.int l1), some (.int l2), none] [] g := by
  unfold B_M_findCounted_85 at h
  refine j_iinc hE (by decide +kernel : decode cX11_findCounted 85 = .ok (.iinc 2 1, 3)) (v := (1 : Int32)) (by decide) rfl (Nat.le_of_ble_eq_true rfl) rfl ?_
  refine j_goto hE (by decide +kernel : decode cX11_findCounted 88 = .ok (.goto (-61), 3)) (tgt := 27) (by decide) ?_
  exact hK27 _ _ _ _ h
set_option maxRecDepth 100000 in
def B_M_findCounted_27 (Γ : GAM) (K4 : Nat → Int32 → Int32 → GH → Prop) (K27 : Nat → Int32 → Int32 → GH → Prop) (K : Int32 → GH → Prop) (l0 : Nat) (l1 : Int32) (l2 : Int32) (g : GH) : Prop :=
  Kd g l0 = 13 ∧ (((Gi g 1537 l0) ≤ l2 → K l1 g) ∧ (¬ ((Gi g 1537 l0) ≤ l2) → Kd g l0 = 13 ∧ Kd g l0 = 13 ∧ Sp_M_judge Γ l0 l2 (Gi g 1536 l0) g (fun (g1 : GH) => Kd g1 l0 = 13 ∧ Sp_M_firstGood Γ l0 g1 (fun (x3 : Int32) (g2 : GH) => ((x3 = (-1 : Int32) → B_M_findCounted_85 Γ K4 K27 K l0 l1 l2 g2) ∧ (¬ (x3 = (-1 : Int32)) → Kd g2 l0 = 13 ∧ ∃ a4 : Nat, Gr g2 1607 l0 = some a4 ∧ Kd g2 a4 = 21 ∧ inB x3 (Ln g2 a4) ∧ ((1 : Int32) = 0 ∨ (1 : Int32) = 1) ∧ ∀ g5 : GH, g5 = sA g2 (Co g2 a4) (Ow g2 a4) x3.toNatClampNeg (1 : Int32) → Kd g5 l0 = 13 ∧ ∃ a6 : Nat, Gr g5 1608 l0 = some a6 ∧ Kd g5 l0 = 13 ∧ ∃ a7 : Nat, Gr g5 1600 l0 = some a7 ∧ Kd g5 a7 = 20 ∧ inB x3 (Ln g5 a7) ∧ Kd g5 l0 = 13 ∧ Kd g5 l0 = 13 ∧ Sp_M_shireOn Γ l0 l2 (Ia g5 (Co g5 a7) (Ow g5 a7) x3.toNatClampNeg) (Gi g5 1536 l0) g5 (fun (x9 : Int32) (g8 : GH) => Kd g8 a6 = 20 ∧ inB x3 (Ln g8 a6) ∧ ∀ g10 : GH, g10 = sA g8 (Co g8 a6) (Ow g8 a6) x3.toNatClampNeg x9 → B_M_findCounted_85 Γ K4 K27 K l0 (l1 + (1 : Int32)) l2 g10)))))))
set_option maxHeartbeats 4000000 in
set_option maxRecDepth 100000 in
theorem S_M_findCounted_27 {Γ : GAM} {E : EV} {K : Int32 → GH → Prop} (hE : GE Γ E cX11_findCounted 4 RX11 (some (.int)) 8 203 (fun r g' => ∃ x, r = some (.int x) ∧ K x g')) {K4 : Nat → Int32 → Int32 → GH → Prop} {K27 : Nat → Int32 → Int32 → GH → Prop} (hK4 : ∀ (l0 : Nat) (l1 : Int32) (l2 : Int32) (g : GH), K4 l0 l1 l2 g → JW Γ E 4 [some (.ref l0), some (.int l1), some (.int l2), none] [] g) (hK27 : ∀ (l0 : Nat) (l1 : Int32) (l2 : Int32) (g : GH), K27 l0 l1 l2 g → JW Γ E 27 [some (.ref l0), some (.int l1), some (.int l2), none] [] g) (l0 : Nat) (l1 : Int32) (l2 : Int32) (g : GH) (h : B_M_findCounted_27 Γ K4 K27 K l0 l1 l2 g) : JW Γ E 27 [some (.ref l0), some (.int l1), some (.int l2), none] [] g := by
  unfold B_M_findCounted_27 at h
  refine j_iload_n hE (by decide +kernel : decode cX11_findCounted 27 = .ok (.iload_n 2, 1)) rfl rfl ?_
  refine j_aload_n hE (by decide +kernel : decode cX11_findCounted 28 = .ok (.aload_n 0, 1)) rfl rfl ?_
  obtain ⟨hk, h⟩ := h
  refine j_getI hE fg_X11_220 hk (by decide +kernel : decode cX11_findCounted 29 = .ok (.getfield 220, 3)) ?_
  refine j_icmp_ge hE (by decide +kernel : decode cX11_findCounted 32 = .ok (.if_icmp .ge 59, 3)) (tgt := 91) (by decide) (fun q => ?_) (fun q => ?_)
  · replace h := h.1 q
    refine j_iload_n hE (by decide +kernel : decode cX11_findCounted 91 = .ok (.iload_n 1, 1)) rfl rfl ?_
    exact j_iret hE (by decide +kernel : decode cX11_findCounted 92 = .ok (.ireturn, 1)) ⟨_, rfl, h⟩
  · replace h := h.2 q
    refine j_aload_n hE (by decide +kernel : decode cX11_findCounted 35 = .ok (.aload_n 0, 1)) rfl rfl ?_
    refine j_iload_n hE (by decide +kernel : decode cX11_findCounted 36 = .ok (.iload_n 2, 1)) rfl rfl ?_
    refine j_aload_n hE (by decide +kernel : decode cX11_findCounted 37 = .ok (.aload_n 0, 1)) rfl rfl ?_
    obtain ⟨hk, h⟩ := h
    refine j_getI hE fg_X11_217 hk (by decide +kernel : decode cX11_findCounted 38 = .ok (.getfield 217, 3)) ?_
    obtain ⟨hk, h⟩ := h
    refine j_callV hE rfl cl_X11_431 cf_12 im_X11_judge se_X11_judge ⟨by omega, by omega⟩ (As := [.int l2, .int (Gi g 1536 l0)]) (rest := []) rfl rfl (Nat.le_of_ble_eq_true rfl) hk (by decide +kernel : decode cX11_findCounted 41 = .ok (.invokevirtual 431, 3)) (mt_M_judge _ _ _ _ _ h) ?_
    rintro _ g1 ⟨rfl, h⟩
    refine j_aload_n hE (by decide +kernel : decode cX11_findCounted 44 = .ok (.aload_n 0, 1)) rfl rfl ?_
    obtain ⟨hk, h⟩ := h
    refine j_callV hE rfl cl_X11_434 cf_12 im_X11_firstGood se_X11_firstGood ⟨by omega, by omega⟩ (As := []) (rest := []) rfl rfl (Nat.le_of_ble_eq_true rfl) hk (by decide +kernel : decode cX11_findCounted 45 = .ok (.invokevirtual 434, 3)) (mt_M_firstGood _ _ _ h) ?_
    rintro _ g2 ⟨x3, rfl, h⟩
    refine j_istore_n hE (by decide +kernel : decode cX11_findCounted 48 = .ok (.istore_n 3, 1)) rfl (Nat.le_of_ble_eq_true rfl) rfl ?_
    refine j_iload_n hE (by decide +kernel : decode cX11_findCounted 49 = .ok (.iload_n 3, 1)) rfl rfl ?_
    refine j_iconst hE (by decide +kernel : decode cX11_findCounted 50 = .ok (.iconst (-1), 1)) (v := (-1 : Int32)) (by decide) ?_
    refine j_icmp_eq hE (by decide +kernel : decode cX11_findCounted 51 = .ok (.if_icmp .eq 34, 3)) (tgt := 85) (by decide) (fun q => ?_) (fun q => ?_)
    · replace h := h.1 q
      refine j_weak [some (.ref l0), some (.int l1), some (.int l2), none] ⟨rfl, ⟨rfl, ⟨rfl, trivial⟩⟩⟩ ?_
      exact S_M_findCounted_85 hE hK4 hK27 _ _ _ _ h
    · replace h := h.2 q
      refine j_aload_n hE (by decide +kernel : decode cX11_findCounted 54 = .ok (.aload_n 0, 1)) rfl rfl ?_
      obtain ⟨hk, h⟩ := h
      obtain ⟨a4, ha, h⟩ := h
      refine j_getRn hE fg_X11_147 hk ha (by decide +kernel : decode cX11_findCounted 55 = .ok (.getfield 147, 3)) ?_
      refine j_iload_n hE (by decide +kernel : decode cX11_findCounted 58 = .ok (.iload_n 3, 1)) rfl rfl ?_
      refine j_iconst hE (by decide +kernel : decode cX11_findCounted 59 = .ok (.iconst 1, 1)) (v := (1 : Int32)) (by decide) ?_
      obtain ⟨hk, hb, hz, h⟩ := h
      obtain ⟨g5, hg⟩ : ∃ z, z = sA g2 (Co g2 a4) (Ow g2 a4) x3.toNatClampNeg (1 : Int32) := ⟨_, rfl⟩; replace h := h g5 hg
      refine j_zast hE hk hb hz (by decide +kernel : decode cX11_findCounted 60 = .ok (.bastore, 1)) ?_
      rw [← hg]
      refine j_aload_n hE (by decide +kernel : decode cX11_findCounted 61 = .ok (.aload_n 0, 1)) rfl rfl ?_
      obtain ⟨hk, h⟩ := h
      obtain ⟨a6, ha, h⟩ := h
      refine j_getRn hE fg_X11_150 hk ha (by decide +kernel : decode cX11_findCounted 62 = .ok (.getfield 150, 3)) ?_
      refine j_iload_n hE (by decide +kernel : decode cX11_findCounted 65 = .ok (.iload_n 3, 1)) rfl rfl ?_
      refine j_aload_n hE (by decide +kernel : decode cX11_findCounted 66 = .ok (.aload_n 0, 1)) rfl rfl ?_
      refine j_iload_n hE (by decide +kernel : decode cX11_findCounted 67 = .ok (.iload_n 2, 1)) rfl rfl ?_
      refine j_aload_n hE (by decide +kernel : decode cX11_findCounted 68 = .ok (.aload_n 0, 1)) rfl rfl ?_
      obtain ⟨hk, h⟩ := h
      obtain ⟨a7, ha, h⟩ := h
      refine j_getRn hE fg_X11_141 hk ha (by decide +kernel : decode cX11_findCounted 69 = .ok (.getfield 141, 3)) ?_
      refine j_iload_n hE (by decide +kernel : decode cX11_findCounted 72 = .ok (.iload_n 3, 1)) rfl rfl ?_
      obtain ⟨hk, hb, h⟩ := h
      refine j_iald hE hk hb (by decide +kernel : decode cX11_findCounted 73 = .ok (.iaload, 1)) ?_
      refine j_aload_n hE (by decide +kernel : decode cX11_findCounted 74 = .ok (.aload_n 0, 1)) rfl rfl ?_
      obtain ⟨hk, h⟩ := h
      refine j_getI hE fg_X11_217 hk (by decide +kernel : decode cX11_findCounted 75 = .ok (.getfield 217, 3)) ?_
      obtain ⟨hk, h⟩ := h
      refine j_callV hE rfl cl_X11_237 cf_12 im_X11_shireOn se_X11_shireOn ⟨by omega, by omega⟩ (As := [.int l2, .int (Ia g5 (Co g5 a7) (Ow g5 a7) x3.toNatClampNeg), .int (Gi g5 1536 l0)]) (rest := [.int x3, .ref a6]) rfl rfl (Nat.le_of_ble_eq_true rfl) hk (by decide +kernel : decode cX11_findCounted 78 = .ok (.invokevirtual 237, 3)) (mt_M_shireOn _ _ _ _ _ _ h) ?_
      rintro _ g8 ⟨x9, rfl, h⟩
      obtain ⟨hk, hb, h⟩ := h
      obtain ⟨g10, hg⟩ : ∃ z, z = sA g8 (Co g8 a6) (Ow g8 a6) x3.toNatClampNeg x9 := ⟨_, rfl⟩; replace h := h g10 hg
      refine j_iast hE hk hb (by decide +kernel : decode cX11_findCounted 81 = .ok (.iastore, 1)) ?_
      rw [← hg]
      refine j_iinc hE (by decide +kernel : decode cX11_findCounted 82 = .ok (.iinc 1 1, 3)) (v := (1 : Int32)) (by decide) rfl (Nat.le_of_ble_eq_true rfl) rfl ?_
      refine j_weak [some (.ref l0), some (.int (l1 + (1 : Int32))), some (.int l2), none] ⟨rfl, ⟨rfl, ⟨rfl, trivial⟩⟩⟩ ?_
      exact S_M_findCounted_85 hE hK4 hK27 _ _ _ _ h
set_option maxRecDepth 100000 in
def B_M_findCounted_4 (Γ : GAM) (K4 : Nat → Int32 → Int32 → GH → Prop) (K27 : Nat → Int32 → Int32 → GH → Prop) (K : Int32 → GH → Prop) (l0 : Nat) (l1 : Int32) (l2 : Int32) (g : GH) : Prop :=
  Kd g l0 = 13 ∧ (((Gi g 1539 l0) ≤ l2 → K27 l0 l1 (0 : Int32) g) ∧ (¬ ((Gi g 1539 l0) ≤ l2) → Kd g l0 = 13 ∧ ∃ a1 : Nat, Gr g 1607 l0 = some a1 ∧ Kd g a1 = 21 ∧ inB l2 (Ln g a1) ∧ ((0 : Int32) = 0 ∨ (0 : Int32) = 1) ∧ ∀ g2 : GH, g2 = sA g (Co g a1) (Ow g a1) l2.toNatClampNeg (0 : Int32) → K4 l0 l1 (l2 + (1 : Int32)) g2))
set_option maxHeartbeats 4000000 in
set_option maxRecDepth 100000 in
theorem S_M_findCounted_4 {Γ : GAM} {E : EV} {K : Int32 → GH → Prop} (hE : GE Γ E cX11_findCounted 4 RX11 (some (.int)) 8 203 (fun r g' => ∃ x, r = some (.int x) ∧ K x g')) {K4 : Nat → Int32 → Int32 → GH → Prop} {K27 : Nat → Int32 → Int32 → GH → Prop} (hK4 : ∀ (l0 : Nat) (l1 : Int32) (l2 : Int32) (g : GH), K4 l0 l1 l2 g → JW Γ E 4 [some (.ref l0), some (.int l1), some (.int l2), none] [] g) (hK27 : ∀ (l0 : Nat) (l1 : Int32) (l2 : Int32) (g : GH), K27 l0 l1 l2 g → JW Γ E 27 [some (.ref l0), some (.int l1), some (.int l2), none] [] g) (l0 : Nat) (l1 : Int32) (l2 : Int32) (g : GH) (h : B_M_findCounted_4 Γ K4 K27 K l0 l1 l2 g) : JW Γ E 4 [some (.ref l0), some (.int l1), some (.int l2), none] [] g := by
  unfold B_M_findCounted_4 at h
  refine j_iload_n hE (by decide +kernel : decode cX11_findCounted 4 = .ok (.iload_n 2, 1)) rfl rfl ?_
  refine j_aload_n hE (by decide +kernel : decode cX11_findCounted 5 = .ok (.aload_n 0, 1)) rfl rfl ?_
  obtain ⟨hk, h⟩ := h
  refine j_getI hE fg_X11_241 hk (by decide +kernel : decode cX11_findCounted 6 = .ok (.getfield 241, 3)) ?_
  refine j_icmp_ge hE (by decide +kernel : decode cX11_findCounted 9 = .ok (.if_icmp .ge 16, 3)) (tgt := 25) (by decide) (fun q => ?_) (fun q => ?_)
  · replace h := h.1 q
    refine j_iconst hE (by decide +kernel : decode cX11_findCounted 25 = .ok (.iconst 0, 1)) (v := (0 : Int32)) (by decide) ?_
    refine j_istore_n hE (by decide +kernel : decode cX11_findCounted 26 = .ok (.istore_n 2, 1)) rfl (Nat.le_of_ble_eq_true rfl) rfl ?_
    exact hK27 _ _ _ _ h
  · replace h := h.2 q
    refine j_aload_n hE (by decide +kernel : decode cX11_findCounted 12 = .ok (.aload_n 0, 1)) rfl rfl ?_
    obtain ⟨hk, h⟩ := h
    obtain ⟨a1, ha, h⟩ := h
    refine j_getRn hE fg_X11_147 hk ha (by decide +kernel : decode cX11_findCounted 13 = .ok (.getfield 147, 3)) ?_
    refine j_iload_n hE (by decide +kernel : decode cX11_findCounted 16 = .ok (.iload_n 2, 1)) rfl rfl ?_
    refine j_iconst hE (by decide +kernel : decode cX11_findCounted 17 = .ok (.iconst 0, 1)) (v := (0 : Int32)) (by decide) ?_
    obtain ⟨hk, hb, hz, h⟩ := h
    obtain ⟨g2, hg⟩ : ∃ z, z = sA g (Co g a1) (Ow g a1) l2.toNatClampNeg (0 : Int32) := ⟨_, rfl⟩; replace h := h g2 hg
    refine j_zast hE hk hb hz (by decide +kernel : decode cX11_findCounted 18 = .ok (.bastore, 1)) ?_
    rw [← hg]
    refine j_iinc hE (by decide +kernel : decode cX11_findCounted 19 = .ok (.iinc 2 1, 3)) (v := (1 : Int32)) (by decide) rfl (Nat.le_of_ble_eq_true rfl) rfl ?_
    refine j_goto hE (by decide +kernel : decode cX11_findCounted 22 = .ok (.goto (-18), 3)) (tgt := 4) (by decide) ?_
    exact hK4 _ _ _ _ h
set_option maxRecDepth 100000 in
def B_M_findCounted_0 (Γ : GAM) (K4 : Nat → Int32 → Int32 → GH → Prop) (K27 : Nat → Int32 → Int32 → GH → Prop) (K : Int32 → GH → Prop) (th : Nat) (g : GH) : Prop :=
  K4 th (0 : Int32) (0 : Int32) g
set_option maxHeartbeats 4000000 in
set_option maxRecDepth 100000 in
theorem S_M_findCounted_0 {Γ : GAM} {E : EV} {K : Int32 → GH → Prop} (hE : GE Γ E cX11_findCounted 4 RX11 (some (.int)) 8 203 (fun r g' => ∃ x, r = some (.int x) ∧ K x g')) {K4 : Nat → Int32 → Int32 → GH → Prop} {K27 : Nat → Int32 → Int32 → GH → Prop} (hK4 : ∀ (l0 : Nat) (l1 : Int32) (l2 : Int32) (g : GH), K4 l0 l1 l2 g → JW Γ E 4 [some (.ref l0), some (.int l1), some (.int l2), none] [] g) (hK27 : ∀ (l0 : Nat) (l1 : Int32) (l2 : Int32) (g : GH), K27 l0 l1 l2 g → JW Γ E 27 [some (.ref l0), some (.int l1), some (.int l2), none] [] g) (th : Nat) (g : GH) (h : B_M_findCounted_0 Γ K4 K27 K th g) : JW Γ E 0 [some (.ref th), none, none, none] [] g := by
  unfold B_M_findCounted_0 at h
  refine j_iconst hE (by decide +kernel : decode cX11_findCounted 0 = .ok (.iconst 0, 1)) (v := (0 : Int32)) (by decide) ?_
  refine j_istore_n hE (by decide +kernel : decode cX11_findCounted 1 = .ok (.istore_n 1, 1)) rfl (Nat.le_of_ble_eq_true rfl) rfl ?_
  refine j_iconst hE (by decide +kernel : decode cX11_findCounted 2 = .ok (.iconst 0, 1)) (v := (0 : Int32)) (by decide) ?_
  refine j_istore_n hE (by decide +kernel : decode cX11_findCounted 3 = .ok (.istore_n 2, 1)) rfl (Nat.le_of_ble_eq_true rfl) rfl ?_
  exact hK4 _ _ _ _ h
set_option maxHeartbeats 4000000 in
set_option maxRecDepth 100000 in
theorem rl_M_findCounted {Γ : GAM} {l : Launch} {th : Nat} {g : GH} {K : Int32 → GH → Prop} (I4 : Nat → Nat → Int32 → Int32 → GH → Prop) (I27 : Nat → Nat → Int32 → Int32 → GH → Prop) (hh4 : ∀ n (l0 : Nat) (l1 : Int32) (l2 : Int32) (g : GH), I4 n l0 l1 l2 g → B_M_findCounted_4 Γ (fun l0 l1 l2 g => ∃ m, m < n ∧ I4 m l0 l1 l2 g) (fun l0 l1 l2 g => ∃ m, m < n ∧ I27 m l0 l1 l2 g) K l0 l1 l2 g) (hh27 : ∀ n (l0 : Nat) (l1 : Int32) (l2 : Int32) (g : GH), I27 n l0 l1 l2 g → B_M_findCounted_27 Γ (fun l0 l1 l2 g => ∃ m, m < n ∧ I4 m l0 l1 l2 g) (fun l0 l1 l2 g => ∃ m, m < n ∧ I27 m l0 l1 l2 g) K l0 l1 l2 g) (h0 : B_M_findCounted_0 Γ (fun l0 l1 l2 g => ∃ m, I4 m l0 l1 l2 g) (fun l0 l1 l2 g => ∃ m, I27 m l0 l1 l2 g) K th g) : MetA Γ l yX11_findCounted cX11_findCounted 4 (some (.int)) 8 203 [.ref th] g (fun r g' => ∃ x, r = some (.int x) ∧ K x g') := by
  refine MetA.introL (Lx := [some (.ref th), none, none, none]) (by decide) (Nat.le_of_ble_eq_true rfl) rfl rfl ?_
  intro E hEl hE hnm
  have hall : ∀ n, (∀ (l0 : Nat) (l1 : Int32) (l2 : Int32) (g : GH), I4 n l0 l1 l2 g → JW Γ E 4 [some (.ref l0), some (.int l1), some (.int l2), none] [] g) ∧ (∀ (l0 : Nat) (l1 : Int32) (l2 : Int32) (g : GH), I27 n l0 l1 l2 g → JW Γ E 27 [some (.ref l0), some (.int l1), some (.int l2), none] [] g) := by
    intro n
    induction n using Nat.strongRecOn with
    | ind n ih =>
      exact ⟨fun l0 l1 l2 g hi => S_M_findCounted_4 hE (fun l0 l1 l2 g hm => by obtain ⟨m, hm, h⟩ := hm; exact (ih m hm).1 l0 l1 l2 g h) (fun l0 l1 l2 g hm => by obtain ⟨m, hm, h⟩ := hm; exact (ih m hm).2 l0 l1 l2 g h) l0 l1 l2 g (hh4 n l0 l1 l2 g hi), fun l0 l1 l2 g hi => S_M_findCounted_27 hE (fun l0 l1 l2 g hm => by obtain ⟨m, hm, h⟩ := hm; exact (ih m hm).1 l0 l1 l2 g h) (fun l0 l1 l2 g hm => by obtain ⟨m, hm, h⟩ := hm; exact (ih m hm).2 l0 l1 l2 g h) l0 l1 l2 g (hh27 n l0 l1 l2 g hi)⟩
  exact S_M_findCounted_0 hE (fun l0 l1 l2 g hm => by obtain ⟨m, h⟩ := hm; exact (hall m).1 l0 l1 l2 g h) (fun l0 l1 l2 g hm => by obtain ⟨m, h⟩ := hm; exact (hall m).2 l0 l1 l2 g h) th g h0
theorem mt_M_findCounted {Γ : GAM} {l : Launch} (th : Nat) (g : GH) (K : Int32 → GH → Prop) (h : Sp_M_findCounted Γ th g K) : MetA Γ l yX11_findCounted cX11_findCounted 4 (some (.int)) 8 203 [.ref th] g (fun r g' => ∃ x, r = some (.int x) ∧ K x g') := by
  obtain ⟨ma, s, hI, hw, hK⟩ := h
  have hN := hw.len.2.2.1
  have hV := hw.len.1
  refine rl_M_findCounted (fun n l0 l1 l2 g' => th = l0 ∧ l1 = 0 ∧ ∃ k, k ≤ (s_env s).length ∧ n = 1000 + ((s_env s).length - k) ∧ l2 = nI k ∧ FrX th [1569, 1570, 1595, 1602] [1594, 1596, 1597, 1598, 1599, 1600, 1601, 1607, 1608] g g' ∧ ∀ i, i < k → Ia g' 1607 th i = 0)
    (fun n l0 l1 l2 g' => th = l0 ∧ ∃ k, k ≤ (s_vot s).length ∧ n = (s_vot s).length - k ∧ l2 = nI k ∧ l1 = (sCn s k).2 ∧ FrX th [1569, 1570, 1595, 1602] [1594, 1596, 1597, 1598, 1599, 1600, 1601, 1607, 1608] g g' ∧ CN th g' s k) ?_ ?_ ?_
  · rintro n l0 l1 l2 g' ⟨rfl, rfl, k, hk, rfl, rfl, hfx, hz⟩
    have hI' := hI.x hfx (by decide +kernel)
    obtain ⟨hkd, hS⟩ := hI'.1
    obtain ⟨z_counted1, z_counted2, z_counted3, z_counted4, z_counted5⟩ := hS 1607 21 200 rfl
    suffices H : ∀ (K4 : Nat → Int32 → Int32 → GH → Prop) (K27 : Nat → Int32 → Int32 → GH → Prop), (∀ g2, k < (s_env s).length → FrX th [1569, 1570, 1595, 1602] [1594, 1596, 1597, 1598, 1599, 1600, 1601, 1607, 1608] g g2 → (∀ i, i < k + 1 → Ia g2 1607 th i = 0) → K4 th 0 (nI (k + 1)) g2) → (CN th g' s 0 → K27 th 0 0 g') → B_M_findCounted_4 Γ K4 K27 K th 0 (nI k) g' from
      H _ _ (fun g2 hlt h1 h2 => ⟨1000 + ((s_env s).length - (k + 1)), by omega, rfl, rfl, k + 1, by omega, rfl, rfl, h1, h2⟩)
        (fun h => ⟨(s_vot s).length - 0, by omega, rfl, 0, Nat.zero_le _, rfl, nj_0, by simp [sCn], hfx, h⟩)
    intro K4 K27 h4 h27
    unfold B_M_findCounted_4
    simp only [hkd, hI'.env.1, z_counted1, z_counted2, z_counted3, z_counted4, z_counted5, Option.some.injEq, exists_eq_left', true_and, nj_s, nj_cl (show k < 2147483648 by omega), nj_le (show (s_env s).length < 2147483648 by omega) (show k < 2147483648 by omega)]
    refine ⟨fun z => ?_, fun z => ?_⟩
    · refine h27 (fun e he => ⟨?_, fun sh h => ?_⟩)
      · rw [hz e (by omega)]; simp [sCn]
      · simp [sCn] at h
    · have hlt : k < (s_env s).length := by omega
      refine ⟨inB_nI (by omega) (by omega), by decide, ?_⟩
      rintro g2 rfl
      refine h4 _ hlt (hfx.tr (FrX.sA (by decide))) (fun i hi => ?_)
      by_cases u : i = k
      · simp [Ia_sA, u]
      · simp [Ia_sA, u]; exact hz i (by omega)
  · rintro n l0 l1 l2 g' ⟨rfl, k, hk, rfl, rfl, rfl, hfx, hC⟩
    have hI' := hI.x hfx (by decide +kernel)
    have hkd := hI'.1.1
    suffices H : ∀ (K4 : Nat → Int32 → Int32 → GH → Prop) (K27 : Nat → Int32 → Int32 → GH → Prop), (∀ a g2, k < (s_vot s).length → a = (sCn s (k + 1)).2 → FrX th [1569, 1570, 1595, 1602] [1594, 1596, 1597, 1598, 1599, 1600, 1601, 1607, 1608] g g2 → CN th g2 s (k + 1) → K27 th a (nI (k + 1)) g2) → B_M_findCounted_27 Γ K4 K27 K th (sCn s k).2 (nI k) g' from
      H _ _ (fun a g2 hlt h1 h2 h3 => ⟨(s_vot s).length - (k + 1), by omega, rfl, k + 1, by omega, rfl, rfl, h1, h2, h3⟩)
    intro K4 K27 h27
    unfold B_M_findCounted_27
    simp only [hkd, hI'.vot.1, hI'.now, true_and, nj_le (show (s_vot s).length < 2147483648 by omega) (show k < 2147483648 by omega)]
    refine ⟨fun z => ?_, fun z => ⟨ma, s, hI', hw, fun g2 hx2 hJ => ?_⟩⟩
    · have : k = (s_vot s).length := by omega
      subst this
      exact hK g' hfx hC
    · have hlt : k < (s_vot s).length := by omega
      have hI2 := hI'.x hx2 (by decide +kernel)
      obtain ⟨hkd2, hS2⟩ := hI2.1
      have hfx2 : FrX th [1569, 1570, 1595, 1602] [1594, 1596, 1597, 1598, 1599, 1600, 1601, 1607, 1608] g g2 := hfx.tr (hx2.up (by decide) (by decide))
      have hC2 : CN th g2 s k := hC.cg (hx2.2.2 1607 (by decide)) (hx2.2.2 1608 (by decide))
      have hst : sCn s (k + 1) = cnS s (sCn s k) k := fold_take _ _ _ (range_get hlt)
      refine ⟨hkd2, ma, s, nI k, s_now s, hI2, hw, hJ, ?_⟩
      unfold cnS at hst
      cases hf : sFG s (nI k) (s_now s) with
      | none =>
        rw [hf] at hst
        refine ⟨fun _ => ?_, fun z => absurd rfl z⟩
        unfold B_M_findCounted_85
        rw [nj_s]
        exact h27 _ g2 hlt (by rw [hst]) hfx2 (by unfold CN; rw [hst]; exact hC2)
      | some e =>
        rw [hf] at hst
        obtain ⟨he, hel, _⟩ := sFG_in hf
        have hbe := inB_nI (show e < 200 by omega) (by omega)
        have hec : (oN (some e)).toNatClampNeg = e := nj_cl (by omega)
        refine ⟨fun z => absurd z (nI_nm1 (by omega)), fun _ => ?_⟩
        obtain ⟨z_counted1, z_counted2, z_counted3, z_counted4, z_counted5⟩ := hS2 1607 21 200 rfl
        obtain ⟨z_countedShire1, z_countedShire2, z_countedShire3, z_countedShire4, z_countedShire5⟩ := hS2 1608 20 200 rfl
        obtain ⟨z_dayFor1, z_dayFor2, z_dayFor3, z_dayFor4, z_dayFor5⟩ := hS2 1600 20 200 rfl
        have hdf := (hJ.2.2 e hel).1
        refine ⟨hkd2, _, z_counted1, z_counted2, by rw [z_counted5]; exact hbe, by decide, ?_⟩
        rw [z_counted3, z_counted4]
        intro g5 hg5
        have hx5 : FrX th [1569, 1570, 1595, 1602] [1594, 1596, 1597, 1598, 1599, 1600, 1601, 1607, 1608] g2 g5 := by rw [hg5]; exact FrX.sA (by decide)
        have hI5 := hI2.x hx5 (by decide +kernel)
        obtain ⟨hkd5, hS5⟩ := hI5.1
        obtain ⟨z_counted1, z_counted2, z_counted3, z_counted4, z_counted5⟩ := hS5 1607 21 200 rfl
        obtain ⟨z_countedShire1, z_countedShire2, z_countedShire3, z_countedShire4, z_countedShire5⟩ := hS5 1608 20 200 rfl
        obtain ⟨z_dayFor1, z_dayFor2, z_dayFor3, z_dayFor4, z_dayFor5⟩ := hS5 1600 20 200 rfl
        refine ⟨hkd5, _, z_countedShire1, hkd5, _, z_dayFor1, z_dayFor2, by rw [z_dayFor5]; exact hbe, hkd5, hkd5, ma, s, hI5, nj_nneg (by omega), by rw [nj_cl (by omega)]; exact hlt, z_countedShire2, by rw [z_countedShire5]; exact hbe, ?_⟩
        rw [z_countedShire3, z_countedShire4, z_dayFor3, z_dayFor4, hI5.now, hec, nj_cl (show k < 2147483648 by omega)]
        intro g10 hg10
        unfold B_M_findCounted_85
        rw [nj_s]
        have hd5 : Ia g5 1600 th e = (sCome s (nI e) (s_now s)).1 := by rw [hg5, ← hdf]; simp [Ia_sA]
        rw [hd5] at hg10
        refine h27 _ g10 hlt (by rw [hst]) (hfx2.tr (hx5.tr (by rw [hg10]; exact FrX.sA (by decide)))) ?_
        intro e2 he2
        obtain ⟨c1, c2⟩ := hC2 e2 he2
        rw [hst]
        by_cases u : e2 = e
        · subst u
          refine ⟨?_, fun sh h => ?_⟩
          · rw [hg10, hg5]; simp [Ia_sA, hec]
          · simp only [if_true] at h
            cases h
            rw [hg10]; simp [Ia_sA]
        · refine ⟨?_, fun sh h => ?_⟩
          · simp only [if_neg u]; rw [← c1, hg10, hg5]; simp [Ia_sA, hec, u]
          · simp only [if_neg u] at h
            rw [← c2 sh h, hg10, hg5]; simp [Ia_sA, u]
  · unfold B_M_findCounted_0
    exact ⟨_, rfl, rfl, 0, Nat.zero_le _, rfl, nj_0, FrX.rf, fun i hi => absurd hi (Nat.not_lt_zero _)⟩
