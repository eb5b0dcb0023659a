/-! the reference: when an envelope comes; sealed -/
def sCome (s : ST) (e q : Int32) : Int32 × Int32 :=
  let own := sDay s e 2 q
  let cb : Int32 × Int32 := match sEmp s e q with
    | none => (own, -1)
    | some p => if own = -1 ∨ p.2.2.1 < own then (p.2.2.1, nI p.1) else (own, -1)
  if sDay s e 4 q = -1 ∨ cb.1 = -1 then cb else if sDay s e 5 q = -1 ∨ sDay s e 5 q < sDay s e 4 q then (-1, -1) else (if cb.1 < sDay s e 5 q then sDay s e 5 q else cb.1, cb.2)
def Sp_M_ask (Γ : GAM) (m : Nat) (e q : Int32) (g : GH) (K : GH → Prop) : Prop := ∃ ma s, RefI m ma g s ∧ ∀ g', FrX m [1569, 1570] [] g g' → Gi g' 1569 m = (sCome s e q).1 → Gi g' 1570 m = (sCome s e q).2 → K g'
-- the walk of M_ask
set_option maxRecDepth 100000 in
def B_M_ask_111 (Γ : GAM) (K : GH → Prop) (l0 : Nat) (g : GH) : Prop :=
  Kd g l0 = 13 ∧ ∀ g1 : GH, g1 = sI g 1569 l0 (-1 : Int32) → Kd g1 l0 = 13 ∧ ∀ g2 : GH, g2 = sI g1 1570 l0 (-1 : Int32) → K g2
set_option maxHeartbeats 4000000 in
set_option maxRecDepth 100000 in
theorem S_M_ask_111 {Γ : GAM} {E : EV} {K : GH → Prop} (hE : GE Γ E cX11_ask 7 RX11 none 2 51 (fun r g' => r = none ∧ K g')) (l0 : Nat) (g : GH) (h : B_M_ask_111 Γ K l0 g) : JW Γ E 111 [some (.ref l0), none, none, none, none, none, none] [] g := by
  unfold B_M_ask_111 at h
  refine j_aload_n hE (by decide +kernel : decode cX11_ask 111 = .ok (.aload_n 0, 1)) rfl rfl ?_
  refine j_iconst hE (by decide +kernel : decode cX11_ask 112 = .ok (.iconst (-1), 1)) (v := (-1 : Int32)) (by decide) ?_
  obtain ⟨hk, h⟩ := h
  obtain ⟨g1, hg⟩ : ∃ z, z = sI g 1569 l0 (-1 : Int32) := ⟨_, rfl⟩; replace h := h g1 hg
  refine j_putI hE fa_X11_266 hk (fun q => by cases q) (by decide +kernel : decode cX11_ask 113 = .ok (.putfield 266, 3)) ?_
  rw [← hg]
  refine j_aload_n hE (by decide +kernel : decode cX11_ask 116 = .ok (.aload_n 0, 1)) rfl rfl ?_
  refine j_iconst hE (by decide +kernel : decode cX11_ask 117 = .ok (.iconst (-1), 1)) (v := (-1 : Int32)) (by decide) ?_
  obtain ⟨hk, h⟩ := h
  obtain ⟨g2, hg⟩ : ∃ z, z = sI g1 1570 l0 (-1 : Int32) := ⟨_, rfl⟩; replace h := h g2 hg
  refine j_putI hE fa_X11_263 hk (fun q => by cases q) (by decide +kernel : decode cX11_ask 118 = .ok (.putfield 263, 3)) ?_
  rw [← hg]
  exact j_vret hE (by decide +kernel : decode cX11_ask 121 = .ok (.return_, 1)) ⟨rfl, h⟩
set_option maxRecDepth 100000 in
def B_M_ask_88 (Γ : GAM) (K : GH → Prop)  (g : GH) : Prop :=
  K g
set_option maxHeartbeats 4000000 in
set_option maxRecDepth 100000 in
theorem S_M_ask_88 {Γ : GAM} {E : EV} {K : GH → Prop} (hE : GE Γ E cX11_ask 7 RX11 none 2 51 (fun r g' => r = none ∧ K g'))  (g : GH) (h : B_M_ask_88 Γ K  g) : JW Γ E 88 [none, none, none, none, none, none, none] [] g := by
  unfold B_M_ask_88 at h
  exact j_vret hE (by decide +kernel : decode cX11_ask 88 = .ok (.return_, 1)) ⟨rfl, h⟩
set_option maxRecDepth 100000 in
def B_M_ask_65 (Γ : GAM) (K : GH → Prop) (l0 : Nat) (l1 : Int32) (l2 : Int32) (g : GH) : Prop :=
  Kd g l0 = 13 ∧ Sp_M_dayOf Γ l0 l1 (4 : Int32) l2 g (fun (x2 : Int32) (g1 : GH) => ((x2 = (-1 : Int32) → B_M_ask_88 Γ K g1) ∧ (¬ (x2 = (-1 : Int32)) → Kd g1 l0 = 13 ∧ ((¬ ((Gi g1 1569 l0) = (-1 : Int32)) → Kd g1 l0 = 13 ∧ Sp_M_dayOf Γ l0 l1 (5 : Int32) l2 g1 (fun (x4 : Int32) (g3 : GH) => ((x4 = (-1 : Int32) → B_M_ask_111 Γ K l0 g3) ∧ (¬ (x4 = (-1 : Int32)) → ((x2 ≤ x4 → Kd g3 l0 = 13 ∧ Kd g3 l0 = 13 ∧ ∀ g5 : GH, g5 = sI g3 1569 l0 (if (Gi g3 1569 l0) < x4 then x4 else (Gi g3 1569 l0)) → K g5) ∧ (¬ (x2 ≤ x4) → B_M_ask_111 Γ K l0 g3)))))) ∧ ((Gi g1 1569 l0) = (-1 : Int32) → B_M_ask_88 Γ K g1)))))
set_option maxHeartbeats 4000000 in
set_option maxRecDepth 100000 in
theorem S_M_ask_65 {Γ : GAM} {E : EV} {K : GH → Prop} (hE : GE Γ E cX11_ask 7 RX11 none 2 51 (fun r g' => r = none ∧ K g')) (l0 : Nat) (l1 : Int32) (l2 : Int32) (g : GH) (h : B_M_ask_65 Γ K l0 l1 l2 g) : JW Γ E 65 [some (.ref l0), some (.int l1), some (.int l2), none, none, none, none] [] g := by
  unfold B_M_ask_65 at h
  refine j_aload_n hE (by decide +kernel : decode cX11_ask 65 = .ok (.aload_n 0, 1)) rfl rfl ?_
  refine j_iload_n hE (by decide +kernel : decode cX11_ask 66 = .ok (.iload_n 1, 1)) rfl rfl ?_
  refine j_iconst hE (by decide +kernel : decode cX11_ask 67 = .ok (.iconst 4, 1)) (v := (4 : Int32)) (by decide) ?_
  refine j_iload_n hE (by decide +kernel : decode cX11_ask 68 = .ok (.iload_n 2, 1)) rfl rfl ?_
  obtain ⟨hk, h⟩ := h
  refine j_callV hE rfl cl_X11_256 cf_12 im_X11_dayOf se_X11_dayOf ⟨by omega, by omega⟩ (As := [.int l1, .int (4 : Int32), .int l2]) (rest := []) rfl rfl (Nat.le_of_ble_eq_true rfl) hk (by decide +kernel : decode cX11_ask 69 = .ok (.invokevirtual 256, 3)) (mt_M_dayOf _ _ _ _ _ _ h) ?_
  rintro _ g1 ⟨x2, rfl, h⟩
  refine j_istore hE (by decide +kernel : decode cX11_ask 72 = .ok (.istore 5, 2)) (Nat.le_of_ble_eq_true rfl) rfl ?_
  refine j_iload hE (by decide +kernel : decode cX11_ask 74 = .ok (.iload 5, 2)) rfl ?_
  refine j_iconst hE (by decide +kernel : decode cX11_ask 76 = .ok (.iconst (-1), 1)) (v := (-1 : Int32)) (by decide) ?_
  refine j_icmp_eq hE (by decide +kernel : decode cX11_ask 77 = .ok (.if_icmp .eq 11, 3)) (tgt := 88) (by decide) (fun q => ?_) (fun q => ?_)
  · replace h := h.1 q
    refine j_weak [none, none, none, none, none, none, none] trivial ?_
    exact S_M_ask_88 hE _ h
  · replace h := h.2 q
    refine j_aload_n hE (by decide +kernel : decode cX11_ask 80 = .ok (.aload_n 0, 1)) rfl rfl ?_
    obtain ⟨hk, h⟩ := h
    refine j_getI hE fg_X11_266 hk (by decide +kernel : decode cX11_ask 81 = .ok (.getfield 266, 3)) ?_
    refine j_iconst hE (by decide +kernel : decode cX11_ask 84 = .ok (.iconst (-1), 1)) (v := (-1 : Int32)) (by decide) ?_
    refine j_icmp_ne hE (by decide +kernel : decode cX11_ask 85 = .ok (.if_icmp .ne 4, 3)) (tgt := 89) (by decide) (fun q => ?_) (fun q => ?_)
    · replace h := h.1 q
      refine j_aload_n hE (by decide +kernel : decode cX11_ask 89 = .ok (.aload_n 0, 1)) rfl rfl ?_
      refine j_iload_n hE (by decide +kernel : decode cX11_ask 90 = .ok (.iload_n 1, 1)) rfl rfl ?_
      refine j_iconst hE (by decide +kernel : decode cX11_ask 91 = .ok (.iconst 5, 1)) (v := (5 : Int32)) (by decide) ?_
      refine j_iload_n hE (by decide +kernel : decode cX11_ask 92 = .ok (.iload_n 2, 1)) rfl rfl ?_
      obtain ⟨hk, h⟩ := h
      refine j_callV hE rfl cl_X11_256 cf_12 im_X11_dayOf se_X11_dayOf ⟨by omega, by omega⟩ (As := [.int l1, .int (5 : Int32), .int l2]) (rest := []) rfl rfl (Nat.le_of_ble_eq_true rfl) hk (by decide +kernel : decode cX11_ask 93 = .ok (.invokevirtual 256, 3)) (mt_M_dayOf _ _ _ _ _ _ h) ?_
      rintro _ g3 ⟨x4, rfl, h⟩
      refine j_istore hE (by decide +kernel : decode cX11_ask 96 = .ok (.istore 6, 2)) (Nat.le_of_ble_eq_true rfl) rfl ?_
      refine j_iload hE (by decide +kernel : decode cX11_ask 98 = .ok (.iload 6, 2)) rfl ?_
      refine j_iconst hE (by decide +kernel : decode cX11_ask 100 = .ok (.iconst (-1), 1)) (v := (-1 : Int32)) (by decide) ?_
      refine j_icmp_eq hE (by decide +kernel : decode cX11_ask 101 = .ok (.if_icmp .eq 10, 3)) (tgt := 111) (by decide) (fun q => ?_) (fun q => ?_)
      · replace h := h.1 q
        refine j_weak [some (.ref l0), none, none, none, none, none, none] ⟨rfl, trivial⟩ ?_
        exact S_M_ask_111 hE _ _ h
      · replace h := h.2 q
        refine j_iload hE (by decide +kernel : decode cX11_ask 104 = .ok (.iload 6, 2)) rfl ?_
        refine j_iload hE (by decide +kernel : decode cX11_ask 106 = .ok (.iload 5, 2)) rfl ?_
        refine j_icmp_ge hE (by decide +kernel : decode cX11_ask 108 = .ok (.if_icmp .ge 14, 3)) (tgt := 122) (by decide) (fun q => ?_) (fun q => ?_)
        · replace h := h.1 q
          refine j_aload_n hE (by decide +kernel : decode cX11_ask 122 = .ok (.aload_n 0, 1)) rfl rfl ?_
          refine j_aload_n hE (by decide +kernel : decode cX11_ask 123 = .ok (.aload_n 0, 1)) rfl rfl ?_
          obtain ⟨hk, h⟩ := h
          refine j_getI hE fg_X11_266 hk (by decide +kernel : decode cX11_ask 124 = .ok (.getfield 266, 3)) ?_
          refine j_iload hE (by decide +kernel : decode cX11_ask 127 = .ok (.iload 6, 2)) rfl ?_
          refine j_mmax hE rfl ml_X11_269 st_J9_max_7cf53 in_Math co_J9_max_7cf53 (Nat.le_of_ble_eq_true rfl) (by omega) (by omega) (by decide +kernel : decode cX11_ask 129 = .ok (.invokestatic 269, 3)) ?_
          obtain ⟨hk, h⟩ := h
          obtain ⟨g5, hg⟩ : ∃ z, z = sI g3 1569 l0 (if (Gi g3 1569 l0) < x4 then x4 else (Gi g3 1569 l0)) := ⟨_, rfl⟩; replace h := h g5 hg
          refine j_putI hE fa_X11_266 hk (fun q => by cases q) (by decide +kernel : decode cX11_ask 132 = .ok (.putfield 266, 3)) ?_
          rw [← hg]
          exact j_vret hE (by decide +kernel : decode cX11_ask 135 = .ok (.return_, 1)) ⟨rfl, h⟩
        · replace h := h.2 q
          refine j_weak [some (.ref l0), none, none, none, none, none, none] ⟨rfl, trivial⟩ ?_
          exact S_M_ask_111 hE _ _ h
    · replace h := h.2 q
      refine j_weak [none, none, none, none, none, none, none] trivial ?_
      exact S_M_ask_88 hE _ h
set_option maxRecDepth 100000 in
def B_M_ask_48 (Γ : GAM) (K : GH → Prop) (l0 : Nat) (l1 : Int32) (l2 : Int32) (l4 : Int32) (g : GH) : Prop :=
  Kd g l0 = 13 ∧ ∃ a1 : Nat, Gr g 1566 l0 = some a1 ∧ Kd g a1 = 20 ∧ inB l4 (Ln g a1) ∧ Kd g l0 = 13 ∧ ∀ g2 : GH, g2 = sI g 1569 l0 (Ia g (Co g a1) (Ow g a1) l4.toNatClampNeg) → Kd g2 l0 = 13 ∧ ∀ g3 : GH, g3 = sI g2 1570 l0 l4 → B_M_ask_65 Γ K l0 l1 l2 g3
set_option maxHeartbeats 4000000 in
set_option maxRecDepth 100000 in
theorem S_M_ask_48 {Γ : GAM} {E : EV} {K : GH → Prop} (hE : GE Γ E cX11_ask 7 RX11 none 2 51 (fun r g' => r = none ∧ K g')) (l0 : Nat) (l1 : Int32) (l2 : Int32) (l4 : Int32) (g : GH) (h : B_M_ask_48 Γ K l0 l1 l2 l4 g) : JW Γ E 48 [some (.ref l0), some (.int l1), some (.int l2), none, some (.int l4), none, none] [] g := by
  unfold B_M_ask_48 at h
  refine j_aload_n hE (by decide +kernel : decode cX11_ask 48 = .ok (.aload_n 0, 1)) rfl rfl ?_
  refine j_aload_n hE (by decide +kernel : decode cX11_ask 49 = .ok (.aload_n 0, 1)) rfl rfl ?_
  obtain ⟨hk, h⟩ := h
  obtain ⟨a1, ha, h⟩ := h
  refine j_getRn hE fg_X11_65 hk ha (by decide +kernel : decode cX11_ask 50 = .ok (.getfield 65, 3)) ?_
  refine j_iload hE (by decide +kernel : decode cX11_ask 53 = .ok (.iload 4, 2)) rfl ?_
  obtain ⟨hk, hb, h⟩ := h
  refine j_iald hE hk hb (by decide +kernel : decode cX11_ask 55 = .ok (.iaload, 1)) ?_
  obtain ⟨hk, h⟩ := h
  obtain ⟨g2, hg⟩ : ∃ z, z = sI g 1569 l0 (Ia g (Co g a1) (Ow g a1) l4.toNatClampNeg) := ⟨_, rfl⟩; replace h := h g2 hg
  refine j_putI hE fa_X11_266 hk (fun q => by cases q) (by decide +kernel : decode cX11_ask 56 = .ok (.putfield 266, 3)) ?_
  rw [← hg]
  refine j_aload_n hE (by decide +kernel : decode cX11_ask 59 = .ok (.aload_n 0, 1)) rfl rfl ?_
  refine j_iload hE (by decide +kernel : decode cX11_ask 60 = .ok (.iload 4, 2)) rfl ?_
  obtain ⟨hk, h⟩ := h
  obtain ⟨g3, hg⟩ : ∃ z, z = sI g2 1570 l0 l4 := ⟨_, rfl⟩; replace h := h g3 hg
  refine j_putI hE fa_X11_263 hk (fun q => by cases q) (by decide +kernel : decode cX11_ask 62 = .ok (.putfield 263, 3)) ?_
  rw [← hg]
  refine j_weak [some (.ref l0), some (.int l1), some (.int l2), none, none, none, none] ⟨rfl, ⟨rfl, ⟨rfl, trivial⟩⟩⟩ ?_
  exact S_M_ask_65 hE _ _ _ _ h
set_option maxRecDepth 100000 in
def B_M_ask_0 (Γ : GAM) (K : GH → Prop) (th : Nat) (p0 : Int32) (p1 : Int32) (g : GH) : Prop :=
  Kd g th = 13 ∧ Sp_M_dayOf Γ th p0 (2 : Int32) p1 g (fun (x2 : Int32) (g1 : GH) => Kd g1 th = 13 ∧ Sp_M_emptyingFor Γ th p0 p1 g1 (fun (x4 : Int32) (g3 : GH) => Kd g3 th = 13 ∧ ∀ g5 : GH, g5 = sI g3 1570 th (-1 : Int32) → Kd g5 th = 13 ∧ ∀ g6 : GH, g6 = sI g5 1569 th x2 → ((x4 = (-1 : Int32) → B_M_ask_65 Γ K th p0 p1 g6) ∧ (¬ (x4 = (-1 : Int32)) → ((x2 = (-1 : Int32) → B_M_ask_48 Γ K th p0 p1 x4 g6) ∧ (¬ (x2 = (-1 : Int32)) → Kd g6 th = 13 ∧ ∃ a7 : Nat, Gr g6 1566 th = some a7 ∧ Kd g6 a7 = 20 ∧ inB x4 (Ln g6 a7) ∧ ((x2 ≤ (Ia g6 (Co g6 a7) (Ow g6 a7) x4.toNatClampNeg) → B_M_ask_65 Γ K th p0 p1 g6) ∧ (¬ (x2 ≤ (Ia g6 (Co g6 a7) (Ow g6 a7) x4.toNatClampNeg)) → B_M_ask_48 Γ K th p0 p1 x4 g6))))))))
set_option maxHeartbeats 4000000 in
set_option maxRecDepth 100000 in
theorem S_M_ask_0 {Γ : GAM} {E : EV} {K : GH → Prop} (hE : GE Γ E cX11_ask 7 RX11 none 2 51 (fun r g' => r = none ∧ K g')) (th : Nat) (p0 : Int32) (p1 : Int32) (g : GH) (h : B_M_ask_0 Γ K th p0 p1 g) : JW Γ E 0 [some (.ref th), some (.int p0), some (.int p1), none, none, none, none] [] g := by
  unfold B_M_ask_0 at h
  refine j_aload_n hE (by decide +kernel : decode cX11_ask 0 = .ok (.aload_n 0, 1)) rfl rfl ?_
  refine j_iload_n hE (by decide +kernel : decode cX11_ask 1 = .ok (.iload_n 1, 1)) rfl rfl ?_
  refine j_iconst hE (by decide +kernel : decode cX11_ask 2 = .ok (.iconst 2, 1)) (v := (2 : Int32)) (by decide) ?_
  refine j_iload_n hE (by decide +kernel : decode cX11_ask 3 = .ok (.iload_n 2, 1)) rfl rfl ?_
  obtain ⟨hk, h⟩ := h
  refine j_callV hE rfl cl_X11_256 cf_12 im_X11_dayOf se_X11_dayOf ⟨by omega, by omega⟩ (As := [.int p0, .int (2 : Int32), .int p1]) (rest := []) rfl rfl (Nat.le_of_ble_eq_true rfl) hk (by decide +kernel : decode cX11_ask 4 = .ok (.invokevirtual 256, 3)) (mt_M_dayOf _ _ _ _ _ _ h) ?_
  rintro _ g1 ⟨x2, rfl, h⟩
  refine j_istore_n hE (by decide +kernel : decode cX11_ask 7 = .ok (.istore_n 3, 1)) rfl (Nat.le_of_ble_eq_true rfl) rfl ?_
  refine j_aload_n hE (by decide +kernel : decode cX11_ask 8 = .ok (.aload_n 0, 1)) rfl rfl ?_
  refine j_iload_n hE (by decide +kernel : decode cX11_ask 9 = .ok (.iload_n 1, 1)) rfl rfl ?_
  refine j_iload_n hE (by decide +kernel : decode cX11_ask 10 = .ok (.iload_n 2, 1)) rfl rfl ?_
  obtain ⟨hk, h⟩ := h
  refine j_callV hE rfl cl_X11_259 cf_12 im_X11_emptyingFor se_X11_emptyingFor ⟨by omega, by omega⟩ (As := [.int p0, .int p1]) (rest := []) rfl rfl (Nat.le_of_ble_eq_true rfl) hk (by decide +kernel : decode cX11_ask 11 = .ok (.invokevirtual 259, 3)) (mt_M_emptyingFor _ _ _ _ _ h) ?_
  rintro _ g3 ⟨x4, rfl, h⟩
  refine j_istore hE (by decide +kernel : decode cX11_ask 14 = .ok (.istore 4, 2)) (Nat.le_of_ble_eq_true rfl) rfl ?_
  refine j_aload_n hE (by decide +kernel : decode cX11_ask 16 = .ok (.aload_n 0, 1)) rfl rfl ?_
  refine j_iconst hE (by decide +kernel : decode cX11_ask 17 = .ok (.iconst (-1), 1)) (v := (-1 : Int32)) (by decide) ?_
  obtain ⟨hk, h⟩ := h
  obtain ⟨g5, hg⟩ : ∃ z, z = sI g3 1570 th (-1 : Int32) := ⟨_, rfl⟩; replace h := h g5 hg
  refine j_putI hE fa_X11_263 hk (fun q => by cases q) (by decide +kernel : decode cX11_ask 18 = .ok (.putfield 263, 3)) ?_
  rw [← hg]
  refine j_aload_n hE (by decide +kernel : decode cX11_ask 21 = .ok (.aload_n 0, 1)) rfl rfl ?_
  refine j_iload_n hE (by decide +kernel : decode cX11_ask 22 = .ok (.iload_n 3, 1)) rfl rfl ?_
  obtain ⟨hk, h⟩ := h
  obtain ⟨g6, hg⟩ : ∃ z, z = sI g5 1569 th x2 := ⟨_, rfl⟩; replace h := h g6 hg
  refine j_putI hE fa_X11_266 hk (fun q => by cases q) (by decide +kernel : decode cX11_ask 23 = .ok (.putfield 266, 3)) ?_
  rw [← hg]
  refine j_iload hE (by decide +kernel : decode cX11_ask 26 = .ok (.iload 4, 2)) rfl ?_
  refine j_iconst hE (by decide +kernel : decode cX11_ask 28 = .ok (.iconst (-1), 1)) (v := (-1 : Int32)) (by decide) ?_
  refine j_icmp_eq hE (by decide +kernel : decode cX11_ask 29 = .ok (.if_icmp .eq 36, 3)) (tgt := 65) (by decide) (fun q => ?_) (fun q => ?_)
  · replace h := h.1 q
    refine j_weak [some (.ref th), some (.int p0), some (.int p1), none, none, none, none] ⟨rfl, ⟨rfl, ⟨rfl, trivial⟩⟩⟩ ?_
    exact S_M_ask_65 hE _ _ _ _ h
  · replace h := h.2 q
    refine j_iload_n hE (by decide +kernel : decode cX11_ask 32 = .ok (.iload_n 3, 1)) rfl rfl ?_
    refine j_iconst hE (by decide +kernel : decode cX11_ask 33 = .ok (.iconst (-1), 1)) (v := (-1 : Int32)) (by decide) ?_
    refine j_icmp_eq hE (by decide +kernel : decode cX11_ask 34 = .ok (.if_icmp .eq 14, 3)) (tgt := 48) (by decide) (fun q => ?_) (fun q => ?_)
    · replace h := h.1 q
      refine j_weak [some (.ref th), some (.int p0), some (.int p1), none, some (.int x4), none, none] ⟨rfl, ⟨rfl, ⟨rfl, ⟨rfl, trivial⟩⟩⟩⟩ ?_
      exact S_M_ask_48 hE _ _ _ _ _ h
    · replace h := h.2 q
      refine j_aload_n hE (by decide +kernel : decode cX11_ask 37 = .ok (.aload_n 0, 1)) rfl rfl ?_
      obtain ⟨hk, h⟩ := h
      obtain ⟨a7, ha, h⟩ := h
      refine j_getRn hE fg_X11_65 hk ha (by decide +kernel : decode cX11_ask 38 = .ok (.getfield 65, 3)) ?_
      refine j_iload hE (by decide +kernel : decode cX11_ask 41 = .ok (.iload 4, 2)) rfl ?_
      obtain ⟨hk, hb, h⟩ := h
      refine j_iald hE hk hb (by decide +kernel : decode cX11_ask 43 = .ok (.iaload, 1)) ?_
      refine j_iload_n hE (by decide +kernel : decode cX11_ask 44 = .ok (.iload_n 3, 1)) rfl rfl ?_
      refine j_icmp_ge hE (by decide +kernel : decode cX11_ask 45 = .ok (.if_icmp .ge 20, 3)) (tgt := 65) (by decide) (fun q => ?_) (fun q => ?_)
      · replace h := h.1 q
        refine j_weak [some (.ref th), some (.int p0), some (.int p1), none, none, none, none] ⟨rfl, ⟨rfl, ⟨rfl, trivial⟩⟩⟩ ?_
        exact S_M_ask_65 hE _ _ _ _ h
      · replace h := h.2 q
        refine j_weak [some (.ref th), some (.int p0), some (.int p1), none, some (.int x4), none, none] ⟨rfl, ⟨rfl, ⟨rfl, ⟨rfl, trivial⟩⟩⟩⟩ ?_
        exact S_M_ask_48 hE _ _ _ _ _ h
set_option maxHeartbeats 4000000 in
set_option maxRecDepth 100000 in
theorem rl_M_ask {Γ : GAM} {l : Launch} {th : Nat} {p0 : Int32} {p1 : Int32} {g : GH} {K : GH → Prop} (h0 : B_M_ask_0 Γ K th p0 p1 g) : MetA Γ l yX11_ask cX11_ask 7 none 2 51 [.ref th, .int p0, .int p1] g (fun r g' => r = none ∧ K g') := by
  refine MetA.introL (Lx := [some (.ref th), some (.int p0), some (.int p1), none, none, none, none]) (by decide) (Nat.le_of_ble_eq_true rfl) rfl rfl ?_
  intro E hEl hE hnm
  exact S_M_ask_0 hE th p0 p1 g h0
theorem mt_M_ask {Γ : GAM} {l : Launch} (th : Nat) (p0 : Int32) (p1 : Int32) (g : GH) (K : GH → Prop) (h : Sp_M_ask Γ th p0 p1 g K) : MetA Γ l yX11_ask cX11_ask 7 none 2 51 [.ref th, .int p0, .int p1] g (fun r g' => r = none ∧ K g') := by
  obtain ⟨ma, s, hI, hK⟩ := h
  obtain ⟨hkd, hS⟩ := hI.1
  obtain ⟨f1, f2, f3⟩ := hI.emp
  obtain ⟨z_emptyDay1, z_emptyDay2, z_emptyDay3, z_emptyDay4, z_emptyDay5⟩ := hS 1566 20 200 rfl
  have step : ∀ g', FrX th [1569, 1570] [] g g' → RefI th ma g' s := fun g' hx => hI.x hx (by decide +kernel)
  have hdo : ∀ g' e k q K, FrX th [1569, 1570] [] g g' → K (sDay s e k q) g' → Sp_M_dayOf Γ th e k q g' K := fun g' e k q K hx h => ⟨ma, s, step g' hx, h⟩
  have fI : ∀ g' f v, f ∈ [1569, 1570] → FrX th [1569, 1570] [] g g' → FrX th [1569, 1570] [] g (sI g' f th v) := fun g' f v hf hx => hx.tr (FrX.sI hf)
  have hk : ∀ g', FrX th [1569, 1570] [] g g' → Kd g' th = 13 := fun g' hx => by rw [hx.1.2.2.2.2.2.1]; exact hkd
  -- the end, from the day and the emptying by the box and by post
  have h65 : ∀ g' c b, FrX th [1569, 1570] [] g g' → Gi g' 1569 th = c → Gi g' 1570 th = b → sCome s p0 p1 = (if sDay s p0 4 p1 = -1 ∨ c = -1 then (c, b) else if sDay s p0 5 p1 = -1 ∨ sDay s p0 5 p1 < sDay s p0 4 p1 then (-1, -1) else (if c < sDay s p0 5 p1 then sDay s p0 5 p1 else c, b)) → B_M_ask_65 Γ K th p0 p1 g' := by
    intro g' c b hx hc hb he
    unfold B_M_ask_65
    refine ⟨hk g' hx, hdo g' _ _ _ _ hx ⟨fun q => ?_, fun q => ⟨hk g' hx, fun q2 => ⟨hk g' hx, hdo g' _ _ _ _ hx ⟨fun q3 => ?_, fun q3 => ⟨fun q4 => ?_, fun q4 => ?_⟩⟩⟩, fun q2 => ?_⟩⟩⟩
    · unfold B_M_ask_88
      rw [if_pos (Or.inl q)] at he
      exact hK g' hx (by rw [he]; exact hc) (by rw [he]; exact hb)
    · rw [if_neg (by rw [hc] at q2; exact fun z => z.elim q q2), if_pos (Or.inl q3)] at he
      unfold B_M_ask_111
      refine ⟨hk g' hx, fun g1 e1 => ⟨by rw [e1]; exact hk g' hx, fun g2 e2 => ?_⟩⟩
      subst e1 e2
      refine hK _ (fI _ _ _ (by decide) (fI _ _ _ (by decide) hx)) ?_ ?_
      · rw [he]; simp [Gi_sI]
      · rw [he]; simp [Gi_sI]
    · rw [if_neg (by rw [hc] at q2; exact fun z => z.elim q q2), if_neg (fun z => z.elim q3 (Int32.not_lt.mpr q4))] at he
      refine ⟨hk g' hx, hk g' hx, fun g5 e5 => ?_⟩
      subst e5
      refine hK _ (fI _ _ _ (by decide) hx) ?_ ?_
      · rw [he, hc]; simp [Gi_sI]
      · rw [he, ← hb]; simp [Gi_sI]
    · rw [if_neg (by rw [hc] at q2; exact fun z => z.elim q q2), if_pos (Or.inr (Int32.not_le.mp q4))] at he
      unfold B_M_ask_111
      refine ⟨hk g' hx, fun g1 e1 => ⟨by rw [e1]; exact hk g' hx, fun g2 e2 => ?_⟩⟩
      subst e1 e2
      refine hK _ (fI _ _ _ (by decide) (fI _ _ _ (by decide) hx)) ?_ ?_
      · rw [he]; simp [Gi_sI]
      · rw [he]; simp [Gi_sI]
    · unfold B_M_ask_88
      rw [if_pos (Or.inr (by rw [hc] at q2; exact q2))] at he
      exact hK g' hx (by rw [he]; exact hc) (by rw [he]; exact hb)
  refine rl_M_ask ?_
  unfold B_M_ask_0
  refine ⟨hkd, hdo g _ _ _ _ FrX.rf ⟨hkd, ma, s, hI, hkd, fun g5 e5 => ⟨by rw [e5]; exact hkd, fun g6 e6 => ?_⟩⟩⟩
  have hx6 : FrX th [1569, 1570] [] g g6 := by rw [e6, e5]; exact fI _ _ _ (by decide) (fI _ _ _ (by decide) FrX.rf)
  have hc6 : Gi g6 1569 th = sDay s p0 2 p1 := by rw [e6]; simp [Gi_sI]
  have hb6 : Gi g6 1570 th = -1 := by rw [e6, e5]; simp [Gi_sI]
  cases hm : sEmp s p0 p1 with
  | none =>
    refine ⟨fun _ => h65 g6 _ _ hx6 hc6 hb6 (by unfold sCome; rw [hm]), fun q => absurd rfl q⟩
  | some p =>
    obtain ⟨j, x⟩ := p
    have hx := sEmp_get hm
    have hj := (List.getElem?_eq_some_iff.mp hx).1
    have hbj := inB_nI (show j < 200 by omega) (by omega)
    have hcl := nj_cl (show j < 2147483648 by omega)
    have h48 : (sDay s p0 2 p1 = -1 ∨ x.2.1 < sDay s p0 2 p1) → B_M_ask_48 Γ K th p0 p1 (nI j) g6 := by
      intro hor
      unfold B_M_ask_48
      have hx1 := hx6.1
      have hia := hx6.2.2 1566 (by decide)
      refine ⟨hk g6 hx6, ma 1566, by rw [hx1.2.1]; exact z_emptyDay1, by rw [hx1.2.2.2.2.2.1]; exact z_emptyDay2, by rw [hx1.2.2.2.2.2.2.2.2.1, z_emptyDay5]; exact hbj, hk g6 hx6, fun g2 e2 => ⟨by rw [e2]; exact hk g6 hx6, fun g3 e3 => ?_⟩⟩
      rw [hx1.2.2.2.2.2.2.1, hx1.2.2.2.2.2.2.2.1, z_emptyDay3, z_emptyDay4, hia, hcl, (f3 j x hx).2.1] at e2
      refine h65 g3 x.2.1 (nI j) ?_ ?_ ?_ ?_
      · rw [e3, e2]; exact fI _ _ _ (by decide) (fI _ _ _ (by decide) hx6)
      · rw [e3, e2]; simp [Gi_sI]
      · rw [e3]; simp [Gi_sI]
      · unfold sCome
        rw [hm]
        simp only [if_pos hor]
    refine ⟨fun q => absurd q (nI_nm1 (by omega)), fun _ => ⟨fun q => h48 (Or.inl q), fun q => ?_⟩⟩
    have hx1 := hx6.1
    have hia := hx6.2.2 1566 (by decide)
    refine ⟨hk g6 hx6, ma 1566, by rw [hx1.2.1]; exact z_emptyDay1, by rw [hx1.2.2.2.2.2.1]; exact z_emptyDay2, by rw [hx1.2.2.2.2.2.2.2.2.1, z_emptyDay5]; exact hbj, ?_⟩
    rw [oI_s, hx1.2.2.2.2.2.2.1, hx1.2.2.2.2.2.2.2.1, z_emptyDay3, z_emptyDay4, hia, hcl, (f3 j x hx).2.1]
    refine ⟨fun q2 => h65 g6 _ _ hx6 hc6 hb6 ?_, fun q2 => h48 (Or.inr (Int32.not_le.mp q2))⟩
    unfold sCome
    rw [hm]
    simp only [if_neg (show ¬ (sDay s p0 2 p1 = -1 ∨ x.2.1 < sDay s p0 2 p1) from fun z => z.elim q (Int32.not_lt.mpr q2))]
def Sp_M_comesOn (Γ : GAM) (m : Nat) (e q : Int32) (g : GH) (K : Int32 → GH → Prop) : Prop := ∃ ma s, RefI m ma g s ∧ ∀ g', FrX m [1569, 1570] [] g g' → Gi g' 1570 m = (sCome s e q).2 → K (sCome s e q).1 g'
-- the walk of M_comesOn
set_option maxRecDepth 100000 in
def B_M_comesOn_0 (Γ : GAM) (K : Int32 → GH → Prop) (th : Nat) (p0 : Int32) (p1 : Int32) (g : GH) : Prop :=
  Kd g th = 13 ∧ Sp_M_ask Γ th p0 p1 g (fun (g1 : GH) => Kd g1 th = 13 ∧ K (Gi g1 1569 th) g1)
set_option maxHeartbeats 4000000 in
set_option maxRecDepth 100000 in
theorem S_M_comesOn_0 {Γ : GAM} {E : EV} {K : Int32 → GH → Prop} (hE : GE Γ E cX11_comesOn 3 RX11 (some (.int)) 3 77 (fun r g' => ∃ x, r = some (.int x) ∧ K x g')) (th : Nat) (p0 : Int32) (p1 : Int32) (g : GH) (h : B_M_comesOn_0 Γ K th p0 p1 g) : JW Γ E 0 [some (.ref th), some (.int p0), some (.int p1)] [] g := by
  unfold B_M_comesOn_0 at h
  refine j_aload_n hE (by decide +kernel : decode cX11_comesOn 0 = .ok (.aload_n 0, 1)) rfl rfl ?_
  refine j_iload_n hE (by decide +kernel : decode cX11_comesOn 1 = .ok (.iload_n 1, 1)) rfl rfl ?_
  refine j_iload_n hE (by decide +kernel : decode cX11_comesOn 2 = .ok (.iload_n 2, 1)) rfl rfl ?_
  obtain ⟨hk, h⟩ := h
  refine j_callV hE rfl cl_X11_274 cf_12 im_X11_ask se_X11_ask ⟨by omega, by omega⟩ (As := [.int p0, .int p1]) (rest := []) rfl rfl (Nat.le_of_ble_eq_true rfl) hk (by decide +kernel : decode cX11_comesOn 3 = .ok (.invokevirtual 274, 3)) (mt_M_ask _ _ _ _ _ h) ?_
  rintro _ g1 ⟨rfl, h⟩
  refine j_aload_n hE (by decide +kernel : decode cX11_comesOn 6 = .ok (.aload_n 0, 1)) rfl rfl ?_
  obtain ⟨hk, h⟩ := h
  refine j_getI hE fg_X11_266 hk (by decide +kernel : decode cX11_comesOn 7 = .ok (.getfield 266, 3)) ?_
  exact j_iret hE (by decide +kernel : decode cX11_comesOn 10 = .ok (.ireturn, 1)) ⟨_, rfl, h⟩
set_option maxHeartbeats 4000000 in
set_option maxRecDepth 100000 in
theorem rl_M_comesOn {Γ : GAM} {l : Launch} {th : Nat} {p0 : Int32} {p1 : Int32} {g : GH} {K : Int32 → GH → Prop} (h0 : B_M_comesOn_0 Γ K th p0 p1 g) : MetA Γ l yX11_comesOn cX11_comesOn 3 (some (.int)) 3 77 [.ref th, .int p0, .int p1] g (fun r g' => ∃ x, r = some (.int x) ∧ K x g') := by
  refine MetA.introL (Lx := [some (.ref th), some (.int p0), some (.int p1)]) (by decide) (Nat.le_of_ble_eq_true rfl) rfl rfl ?_
  intro E hEl hE hnm
  exact S_M_comesOn_0 hE th p0 p1 g h0
theorem mt_M_comesOn {Γ : GAM} {l : Launch} (th : Nat) (p0 : Int32) (p1 : Int32) (g : GH) (K : Int32 → GH → Prop) (h : Sp_M_comesOn Γ th p0 p1 g K) : MetA Γ l yX11_comesOn cX11_comesOn 3 (some (.int)) 3 77 [.ref th, .int p0, .int p1] g (fun r g' => ∃ x, r = some (.int x) ∧ K x g') := by
  obtain ⟨ma, s, hI, hK⟩ := h
  refine rl_M_comesOn ⟨hI.1.1, ma, s, hI, fun g' hx h1 h2 => ⟨by rw [hx.1.2.2.2.2.2.1]; exact hI.1.1, ?_⟩⟩
  rw [h1]
  exact hK g' hx h2
