/-! the class: its van, going on -/
def vQs (s : ST) (n : Nat) (P : List Nat) (at' t : Nat) (q : VQ) (b : Nat) : VQ := if vMay s P at' t b ∧ t + vRd s at' b < q.1 (mN (P ++ [b])) b then vQ s n (P ++ [b]) b (vAr s at' b t) (fun m c => if m = mN (P ++ [b]) ∧ c = b then t + vRd s at' b else q.1 m c, q.2) else q
theorem vQ_s (s : ST) (n : Nat) (P : List Nat) (at' t : Nat) (q : VQ) : vQ s (n + 1) P at' t q = (List.range 8).foldl (vQs s n P at' t) q := rfl
def SpG (n : Nat) (Γ : GAM) (m : Nat) (p0 p1 p2 p3 : Int32) (g : GH) (K : GH → Prop) : Prop := ∃ s P at' t q, VnB m g s ∧ WF s ∧ n + P.length = vN s ∧ 1 ≤ vN s ∧ gP P ∧ (∀ x ∈ P, vSt s x = true) ∧ p0 = nI at' ∧ p1 = nI t ∧ p2 = nI (mN P) ∧ p3 = nI P.length ∧ t ≤ 1470 ∧ vAt P at' ∧ VG m g P q ∧ ∀ g', FrX m [1161] [1155, 1156, 1157] g g' → VG m g' P (vQ s n P at' t q) → K g'
def SpGo (n : Nat) (Γ : GAM) (m : Nat) (p0 p1 p2 p3 : Int32) (g : GH) (K : GH → Prop) : Prop := match n with
  | 0 => False
  | n + 1 => SpG n Γ m p0 p1 p2 p3 g K
-- the walk of Vn_goOn
set_option maxRecDepth 100000 in
def B_Vn_goOn_179 (Γ : GAM) (R_Vn_goOn : Nat → Int32 → Int32 → Int32 → Int32 → GH → (GH → Prop) → Prop) (K37 : Nat → Int32 → Int32 → Int32 → Int32 → Int32 → GH → Prop) (K : GH → Prop) (l0 : Nat) (l1 : Int32) (l2 : Int32) (l3 : Int32) (l4 : Int32) (l5 : Int32) (g : GH) : Prop :=
  K37 l0 l1 l2 l3 l4 (l5 + (1 : Int32)) g
set_option maxHeartbeats 4000000 in
set_option maxRecDepth 100000 in
theorem S_Vn_goOn_179 {Γ : GAM} {E : EV} {fr lo : Nat} {K : GH → Prop} (hE : GE Γ E cX8_goOn 9 RX8 none fr lo (fun r g' => r = none ∧ K g')) (hfr : 2 ≤ fr) (hlo : 61 ≤ lo) {R_Vn_goOn : Nat → Int32 → Int32 → Int32 → Int32 → GH → (GH → Prop) → Prop} {f_Vn_goOn l_Vn_goOn : Nat} (hR_Vn_goOn : (f_Vn_goOn + 1 ≤ fr ∧ 8 + (9 + 11) + l_Vn_goOn ≤ lo) ∧ ∀ (p0 : Nat) (p1 : Int32) (p2 : Int32) (p3 : Int32) (p4 : Int32) g (K : GH → Prop), R_Vn_goOn p0 p1 p2 p3 p4 g K → MetA Γ E.2.1 yX8_goOn cX8_goOn 9 none f_Vn_goOn l_Vn_goOn [.ref p0, .int p1, .int p2, .int p3, .int p4] g (fun r g' => r = none ∧ K g')) {K37 : Nat → Int32 → Int32 → Int32 → Int32 → Int32 → GH → Prop} (hK37 : ∀ (l0 : Nat) (l1 : Int32) (l2 : Int32) (l3 : Int32) (l4 : Int32) (l5 : Int32) (g : GH), K37 l0 l1 l2 l3 l4 l5 g → JW Γ E 37 [some (.ref l0), some (.int l1), some (.int l2), some (.int l3), some (.int l4), some (.int l5), none, none, none] [] g) (l0 : Nat) (l1 : Int32) (l2 : Int32) (l3 : Int32) (l4 : Int32) (l5 : Int32) (g : GH) (h : B_Vn_goOn_179 Γ R_Vn_goOn K37 K l0 l1 l2 l3 l4 l5 g) : JW Γ E 179 [some (.ref l0), some (.int l1), some (.int l2), some (.int l3), some (.int l4), some (.int l5), none, none, none] [] g := by
  unfold B_Vn_goOn_179 at h
  refine j_iinc hE (by decide +kernel : decode cX8_goOn 179 = .ok (.iinc 5 1, 3)) (v := (1 : Int32)) (by decide) rfl (Nat.le_of_ble_eq_true rfl) rfl ?_
  refine j_goto hE (by decide +kernel : decode cX8_goOn 182 = .ok (.goto (-145), 3)) (tgt := 37) (by decide) ?_
  exact hK37 _ _ _ _ _ _ _ h
set_option maxRecDepth 100000 in
def B_Vn_goOn_89 (Γ : GAM) (R_Vn_goOn : Nat → Int32 → Int32 → Int32 → Int32 → GH → (GH → Prop) → Prop) (K37 : Nat → Int32 → Int32 → Int32 → Int32 → Int32 → GH → Prop) (K : GH → Prop) (l0 : Nat) (l1 : Int32) (l2 : Int32) (l3 : Int32) (l4 : Int32) (l5 : Int32) (l6 : Int32) (l7 : Int32) (s0 : Int32) (g : GH) : Prop :=
  ((s0 = 0 → B_Vn_goOn_179 Γ R_Vn_goOn K37 K l0 l1 l2 l3 l4 l5 g) ∧ (¬ (s0 = 0) → Kd g l0 = 10 ∧ ∃ a1 : Nat, Gr g 1153 l0 = some a1 ∧ Kd g a1 = 20 ∧ inB l5 (Ln g a1) ∧ (((Ia g (Co g a1) (Ow g a1) l5.toNatClampNeg) < l7 → B_Vn_goOn_179 Γ R_Vn_goOn K37 K l0 l1 l2 l3 l4 l5 g) ∧ (¬ ((Ia g (Co g a1) (Ow g a1) l5.toNatClampNeg) < l7) → Kd g l0 = 10 ∧ ∃ a2 : Nat, Gr g 1155 l0 = some a2 ∧ Kd g a2 = 20 ∧ inB ((l6 * (8 : Int32)) + l5) (Ln g a2) ∧ (((Ia g (Co g a2) (Ow g a2) ((l6 * (8 : Int32)) + l5).toNatClampNeg) ≤ l7 → B_Vn_goOn_179 Γ R_Vn_goOn K37 K l0 l1 l2 l3 l4 l5 g) ∧ (¬ ((Ia g (Co g a2) (Ow g a2) ((l6 * (8 : Int32)) + l5).toNatClampNeg) ≤ l7) → Kd g l0 = 10 ∧ ∃ a3 : Nat, Gr g 1155 l0 = some a3 ∧ Kd g a3 = 20 ∧ inB ((l6 * (8 : Int32)) + l5) (Ln g a3) ∧ ∀ g4 : GH, g4 = sA g (Co g a3) (Ow g a3) ((l6 * (8 : Int32)) + l5).toNatClampNeg l7 → Kd g4 l0 = 10 ∧ ∃ a5 : Nat, Gr g4 1156 l0 = some a5 ∧ Kd g4 a5 = 20 ∧ inB l4 (Ln g4 a5) ∧ ∀ g6 : GH, g6 = sA g4 (Co g4 a5) (Ow g4 a5) l4.toNatClampNeg l5 → Kd g6 l0 = 10 ∧ ∃ a7 : Nat, Gr g6 1152 l0 = some a7 ∧ Kd g6 a7 = 20 ∧ inB l5 (Ln g6 a7) ∧ Kd g6 l0 = 10 ∧ R_Vn_goOn l0 l5 ((if l7 < (Ia g6 (Co g6 a7) (Ow g6 a7) l5.toNatClampNeg) then (Ia g6 (Co g6 a7) (Ow g6 a7) l5.toNatClampNeg) else l7) + (Gi g6 1158 l0)) l6 (l4 + (1 : Int32)) g6 (fun (g8 : GH) => B_Vn_goOn_179 Γ R_Vn_goOn K37 K l0 l1 l2 l3 l4 l5 g8)))))))
set_option maxHeartbeats 4000000 in
set_option maxRecDepth 100000 in
theorem S_Vn_goOn_89 {Γ : GAM} {E : EV} {fr lo : Nat} {K : GH → Prop} (hE : GE Γ E cX8_goOn 9 RX8 none fr lo (fun r g' => r = none ∧ K g')) (hfr : 2 ≤ fr) (hlo : 61 ≤ lo) {R_Vn_goOn : Nat → Int32 → Int32 → Int32 → Int32 → GH → (GH → Prop) → Prop} {f_Vn_goOn l_Vn_goOn : Nat} (hR_Vn_goOn : (f_Vn_goOn + 1 ≤ fr ∧ 8 + (9 + 11) + l_Vn_goOn ≤ lo) ∧ ∀ (p0 : Nat) (p1 : Int32) (p2 : Int32) (p3 : Int32) (p4 : Int32) g (K : GH → Prop), R_Vn_goOn p0 p1 p2 p3 p4 g K → MetA Γ E.2.1 yX8_goOn cX8_goOn 9 none f_Vn_goOn l_Vn_goOn [.ref p0, .int p1, .int p2, .int p3, .int p4] g (fun r g' => r = none ∧ K g')) {K37 : Nat → Int32 → Int32 → Int32 → Int32 → Int32 → GH → Prop} (hK37 : ∀ (l0 : Nat) (l1 : Int32) (l2 : Int32) (l3 : Int32) (l4 : Int32) (l5 : Int32) (g : GH), K37 l0 l1 l2 l3 l4 l5 g → JW Γ E 37 [some (.ref l0), some (.int l1), some (.int l2), some (.int l3), some (.int l4), some (.int l5), none, none, none] [] g) (l0 : Nat) (l1 : Int32) (l2 : Int32) (l3 : Int32) (l4 : Int32) (l5 : Int32) (l6 : Int32) (l7 : Int32) (s0 : Int32) (g : GH) (h : B_Vn_goOn_89 Γ R_Vn_goOn K37 K l0 l1 l2 l3 l4 l5 l6 l7 s0 g) : JW Γ E 89 [some (.ref l0), some (.int l1), some (.int l2), some (.int l3), some (.int l4), some (.int l5), some (.int l6), some (.int l7), none] [.int s0] g := by
  unfold B_Vn_goOn_89 at h
  refine j_istore hE (by decide +kernel : decode cX8_goOn 89 = .ok (.istore 8, 2)) (Nat.le_of_ble_eq_true rfl) rfl ?_
  refine j_iload hE (by decide +kernel : decode cX8_goOn 91 = .ok (.iload 8, 2)) rfl ?_
  refine j_if_eq hE (by decide +kernel : decode cX8_goOn 93 = .ok (.ifCond .eq 86, 3)) (tgt := 179) (by decide) (fun q => ?_) (fun q => ?_)
  · replace h := h.1 q
    refine j_weak [some (.ref l0), some (.int l1), some (.int l2), some (.int l3), some (.int l4), some (.int l5), none, none, none] ⟨rfl, ⟨rfl, ⟨rfl, ⟨rfl, ⟨rfl, ⟨rfl, trivial⟩⟩⟩⟩⟩⟩ ?_
    exact S_Vn_goOn_179 hE hfr hlo hR_Vn_goOn hK37 _ _ _ _ _ _ _ h
  · replace h := h.2 q
    refine j_iload hE (by decide +kernel : decode cX8_goOn 96 = .ok (.iload 7, 2)) rfl ?_
    refine j_aload_n hE (by decide +kernel : decode cX8_goOn 98 = .ok (.aload_n 0, 1)) rfl rfl ?_
    obtain ⟨hk, h⟩ := h
    obtain ⟨a1, ha, h⟩ := h
    refine j_getRn hE fg_X8_15 hk ha (by decide +kernel : decode cX8_goOn 99 = .ok (.getfield 15, 3)) ?_
    refine j_iload hE (by decide +kernel : decode cX8_goOn 102 = .ok (.iload 5, 2)) rfl ?_
    obtain ⟨hk, hb, h⟩ := h
    refine j_iald hE hk hb (by decide +kernel : decode cX8_goOn 104 = .ok (.iaload, 1)) ?_
    refine j_icmp_gt hE (by decide +kernel : decode cX8_goOn 105 = .ok (.if_icmp .gt 74, 3)) (tgt := 179) (by decide) (fun q => ?_) (fun q => ?_)
    · replace h := h.1 q
      refine j_weak [some (.ref l0), some (.int l1), some (.int l2), some (.int l3), some (.int l4), some (.int l5), none, none, none] ⟨rfl, ⟨rfl, ⟨rfl, ⟨rfl, ⟨rfl, ⟨rfl, trivial⟩⟩⟩⟩⟩⟩ ?_
      exact S_Vn_goOn_179 hE hfr hlo hR_Vn_goOn hK37 _ _ _ _ _ _ _ h
    · replace h := h.2 q
      refine j_iload hE (by decide +kernel : decode cX8_goOn 108 = .ok (.iload 7, 2)) rfl ?_
      refine j_aload_n hE (by decide +kernel : decode cX8_goOn 110 = .ok (.aload_n 0, 1)) rfl rfl ?_
      obtain ⟨hk, h⟩ := h
      obtain ⟨a2, ha, h⟩ := h
      refine j_getRn hE fg_X8_21 hk ha (by decide +kernel : decode cX8_goOn 111 = .ok (.getfield 21, 3)) ?_
      refine j_iload hE (by decide +kernel : decode cX8_goOn 114 = .ok (.iload 6, 2)) rfl ?_
      refine j_bipush hE (by decide +kernel : decode cX8_goOn 116 = .ok (.bipush 8, 2)) (v := (8 : Int32)) (by decide) ?_
      refine j_imul hE (by decide +kernel : decode cX8_goOn 118 = .ok (.imul, 1)) ?_
      refine j_iload hE (by decide +kernel : decode cX8_goOn 119 = .ok (.iload 5, 2)) rfl ?_
      refine j_iadd hE (by decide +kernel : decode cX8_goOn 121 = .ok (.iadd, 1)) ?_
      obtain ⟨hk, hb, h⟩ := h
      refine j_iald hE hk hb (by decide +kernel : decode cX8_goOn 122 = .ok (.iaload, 1)) ?_
      refine j_icmp_ge hE (by decide +kernel : decode cX8_goOn 123 = .ok (.if_icmp .ge 56, 3)) (tgt := 179) (by decide) (fun q => ?_) (fun q => ?_)
      · replace h := h.1 q
        refine j_weak [some (.ref l0), some (.int l1), some (.int l2), some (.int l3), some (.int l4), some (.int l5), none, none, none] ⟨rfl, ⟨rfl, ⟨rfl, ⟨rfl, ⟨rfl, ⟨rfl, trivial⟩⟩⟩⟩⟩⟩ ?_
        exact S_Vn_goOn_179 hE hfr hlo hR_Vn_goOn hK37 _ _ _ _ _ _ _ h
      · replace h := h.2 q
        refine j_aload_n hE (by decide +kernel : decode cX8_goOn 126 = .ok (.aload_n 0, 1)) rfl rfl ?_
        obtain ⟨hk, h⟩ := h
        obtain ⟨a3, ha, h⟩ := h
        refine j_getRn hE fg_X8_21 hk ha (by decide +kernel : decode cX8_goOn 127 = .ok (.getfield 21, 3)) ?_
        refine j_iload hE (by decide +kernel : decode cX8_goOn 130 = .ok (.iload 6, 2)) rfl ?_
        refine j_bipush hE (by decide +kernel : decode cX8_goOn 132 = .ok (.bipush 8, 2)) (v := (8 : Int32)) (by decide) ?_
        refine j_imul hE (by decide +kernel : decode cX8_goOn 134 = .ok (.imul, 1)) ?_
        refine j_iload hE (by decide +kernel : decode cX8_goOn 135 = .ok (.iload 5, 2)) rfl ?_
        refine j_iadd hE (by decide +kernel : decode cX8_goOn 137 = .ok (.iadd, 1)) ?_
        refine j_iload hE (by decide +kernel : decode cX8_goOn 138 = .ok (.iload 7, 2)) rfl ?_
        obtain ⟨hk, hb, h⟩ := h
        obtain ⟨g4, hg⟩ : ∃ z, z = sA g (Co g a3) (Ow g a3) ((l6 * (8 : Int32)) + l5).toNatClampNeg l7 := ⟨_, rfl⟩; replace h := h g4 hg
        refine j_iast hE hk hb (by decide +kernel : decode cX8_goOn 140 = .ok (.iastore, 1)) ?_
        rw [← hg]
        refine j_aload_n hE (by decide +kernel : decode cX8_goOn 141 = .ok (.aload_n 0, 1)) rfl rfl ?_
        obtain ⟨hk, h⟩ := h
        obtain ⟨a5, ha, h⟩ := h
        refine j_getRn hE fg_X8_24 hk ha (by decide +kernel : decode cX8_goOn 142 = .ok (.getfield 24, 3)) ?_
        refine j_iload hE (by decide +kernel : decode cX8_goOn 145 = .ok (.iload 4, 2)) rfl ?_
        refine j_iload hE (by decide +kernel : decode cX8_goOn 147 = .ok (.iload 5, 2)) rfl ?_
        obtain ⟨hk, hb, h⟩ := h
        obtain ⟨g6, hg⟩ : ∃ z, z = sA g4 (Co g4 a5) (Ow g4 a5) l4.toNatClampNeg l5 := ⟨_, rfl⟩; replace h := h g6 hg
        refine j_iast hE hk hb (by decide +kernel : decode cX8_goOn 149 = .ok (.iastore, 1)) ?_
        rw [← hg]
        refine j_aload_n hE (by decide +kernel : decode cX8_goOn 150 = .ok (.aload_n 0, 1)) rfl rfl ?_
        refine j_iload hE (by decide +kernel : decode cX8_goOn 151 = .ok (.iload 5, 2)) rfl ?_
        refine j_iload hE (by decide +kernel : decode cX8_goOn 153 = .ok (.iload 7, 2)) rfl ?_
        refine j_aload_n hE (by decide +kernel : decode cX8_goOn 155 = .ok (.aload_n 0, 1)) rfl rfl ?_
        obtain ⟨hk, h⟩ := h
        obtain ⟨a7, ha, h⟩ := h
        refine j_getRn hE fg_X8_9 hk ha (by decide +kernel : decode cX8_goOn 156 = .ok (.getfield 9, 3)) ?_
        refine j_iload hE (by decide +kernel : decode cX8_goOn 159 = .ok (.iload 5, 2)) rfl ?_
        obtain ⟨hk, hb, h⟩ := h
        refine j_iald hE hk hb (by decide +kernel : decode cX8_goOn 161 = .ok (.iaload, 1)) ?_
        refine j_mmax hE rfl ml_X8_69 st_J9_max_7cf53 in_Math co_J9_max_7cf53 (Nat.le_of_ble_eq_true rfl) (by omega) (by omega) (by decide +kernel : decode cX8_goOn 162 = .ok (.invokestatic 69, 3)) ?_
        refine j_aload_n hE (by decide +kernel : decode cX8_goOn 165 = .ok (.aload_n 0, 1)) rfl rfl ?_
        obtain ⟨hk, h⟩ := h
        refine j_getI hE fg_X8_30 hk (by decide +kernel : decode cX8_goOn 166 = .ok (.getfield 30, 3)) ?_
        refine j_iadd hE (by decide +kernel : decode cX8_goOn 169 = .ok (.iadd, 1)) ?_
        refine j_iload hE (by decide +kernel : decode cX8_goOn 170 = .ok (.iload 6, 2)) rfl ?_
        refine j_iload hE (by decide +kernel : decode cX8_goOn 172 = .ok (.iload 4, 2)) rfl ?_
        refine j_iconst hE (by decide +kernel : decode cX8_goOn 174 = .ok (.iconst 1, 1)) (v := (1 : Int32)) (by decide) ?_
        refine j_iadd hE (by decide +kernel : decode cX8_goOn 175 = .ok (.iadd, 1)) ?_
        refine j_callS hE rfl cl_X8_61 st_X8_goOn hR_Vn_goOn.1 (As := [.ref l0, .int l5, .int ((if l7 < (Ia g6 (Co g6 a7) (Ow g6 a7) l5.toNatClampNeg) then (Ia g6 (Co g6 a7) (Ow g6 a7) l5.toNatClampNeg) else l7) + (Gi g6 1158 l0)), .int l6, .int (l4 + (1 : Int32))]) (rest := []) rfl rfl (Nat.le_of_ble_eq_true rfl) (by decide +kernel : decode cX8_goOn 176 = .ok (.invokestatic 61, 3)) (hR_Vn_goOn.2 _ _ _ _ _ _ _ h) ?_
        rintro _ g8 ⟨rfl, h⟩
        refine j_weak [some (.ref l0), some (.int l1), some (.int l2), some (.int l3), some (.int l4), some (.int l5), none, none, none] ⟨rfl, ⟨rfl, ⟨rfl, ⟨rfl, ⟨rfl, ⟨rfl, trivial⟩⟩⟩⟩⟩⟩ ?_
        exact S_Vn_goOn_179 hE hfr hlo hR_Vn_goOn hK37 _ _ _ _ _ _ _ h
set_option maxRecDepth 100000 in
def B_Vn_goOn_37 (Γ : GAM) (R_Vn_goOn : Nat → Int32 → Int32 → Int32 → Int32 → GH → (GH → Prop) → Prop) (K37 : Nat → Int32 → Int32 → Int32 → Int32 → Int32 → GH → Prop) (K : GH → Prop) (l0 : Nat) (l1 : Int32) (l2 : Int32) (l3 : Int32) (l4 : Int32) (l5 : Int32) (g : GH) : Prop :=
  (((8 : Int32) ≤ l5 → K g) ∧ (¬ ((8 : Int32) ≤ l5) → ∀ x1 : Int32, x1 = (l3 ||| ((1 : Int32) <<< (l5 &&& 31))) → Kd g l0 = 10 ∧ ∃ a2 : Nat, Gr g 1154 l0 = some a2 ∧ Kd g a2 = 20 ∧ inB ((l1 * (9 : Int32)) + l5) (Ln g a2) ∧ ∀ x3 : Int32, x3 = (l2 + (Ia g (Co g a2) (Ow g a2) ((l1 * (9 : Int32)) + l5).toNatClampNeg)) → Kd g l0 = 10 ∧ (((((Gi g 1159 l0) &&& (l3 ^^^ (-1 : Int32))) &&& ((1 : Int32) <<< (l5 &&& 31))) = 0 → B_Vn_goOn_89 Γ R_Vn_goOn K37 K l0 l1 l2 l3 l4 l5 x1 x3 (0 : Int32) g) ∧ (¬ ((((Gi g 1159 l0) &&& (l3 ^^^ (-1 : Int32))) &&& ((1 : Int32) <<< (l5 &&& 31))) = 0) → B_Vn_goOn_89 Γ R_Vn_goOn K37 K l0 l1 l2 l3 l4 l5 x1 x3 (1 : Int32) g))))
set_option maxHeartbeats 4000000 in
set_option maxRecDepth 100000 in
theorem S_Vn_goOn_37 {Γ : GAM} {E : EV} {fr lo : Nat} {K : GH → Prop} (hE : GE Γ E cX8_goOn 9 RX8 none fr lo (fun r g' => r = none ∧ K g')) (hfr : 2 ≤ fr) (hlo : 61 ≤ lo) {R_Vn_goOn : Nat → Int32 → Int32 → Int32 → Int32 → GH → (GH → Prop) → Prop} {f_Vn_goOn l_Vn_goOn : Nat} (hR_Vn_goOn : (f_Vn_goOn + 1 ≤ fr ∧ 8 + (9 + 11) + l_Vn_goOn ≤ lo) ∧ ∀ (p0 : Nat) (p1 : Int32) (p2 : Int32) (p3 : Int32) (p4 : Int32) g (K : GH → Prop), R_Vn_goOn p0 p1 p2 p3 p4 g K → MetA Γ E.2.1 yX8_goOn cX8_goOn 9 none f_Vn_goOn l_Vn_goOn [.ref p0, .int p1, .int p2, .int p3, .int p4] g (fun r g' => r = none ∧ K g')) {K37 : Nat → Int32 → Int32 → Int32 → Int32 → Int32 → GH → Prop} (hK37 : ∀ (l0 : Nat) (l1 : Int32) (l2 : Int32) (l3 : Int32) (l4 : Int32) (l5 : Int32) (g : GH), K37 l0 l1 l2 l3 l4 l5 g → JW Γ E 37 [some (.ref l0), some (.int l1), some (.int l2), some (.int l3), some (.int l4), some (.int l5), none, none, none] [] g) (l0 : Nat) (l1 : Int32) (l2 : Int32) (l3 : Int32) (l4 : Int32) (l5 : Int32) (g : GH) (h : B_Vn_goOn_37 Γ R_Vn_goOn K37 K l0 l1 l2 l3 l4 l5 g) : JW Γ E 37 [some (.ref l0), some (.int l1), some (.int l2), some (.int l3), some (.int l4), some (.int l5), none, none, none] [] g := by
  unfold B_Vn_goOn_37 at h
  refine j_iload hE (by decide +kernel : decode cX8_goOn 37 = .ok (.iload 5, 2)) rfl ?_
  refine j_bipush hE (by decide +kernel : decode cX8_goOn 39 = .ok (.bipush 8, 2)) (v := (8 : Int32)) (by decide) ?_
  refine j_icmp_ge hE (by decide +kernel : decode cX8_goOn 41 = .ok (.if_icmp .ge 144, 3)) (tgt := 185) (by decide) (fun q => ?_) (fun q => ?_)
  · replace h := h.1 q
    exact j_vret hE (by decide +kernel : decode cX8_goOn 185 = .ok (.return_, 1)) ⟨rfl, h⟩
  · replace h := h.2 q
    refine j_iload_n hE (by decide +kernel : decode cX8_goOn 44 = .ok (.iload_n 3, 1)) rfl rfl ?_
    refine j_iconst hE (by decide +kernel : decode cX8_goOn 45 = .ok (.iconst 1, 1)) (v := (1 : Int32)) (by decide) ?_
    refine j_iload hE (by decide +kernel : decode cX8_goOn 46 = .ok (.iload 5, 2)) rfl ?_
    refine j_ishl hE (by decide +kernel : decode cX8_goOn 48 = .ok (.ishl, 1)) ?_
    refine j_ior hE (by decide +kernel : decode cX8_goOn 49 = .ok (.ior, 1)) ?_
    obtain ⟨x1, hx⟩ : ∃ z, z = (l3 ||| ((1 : Int32) <<< (l5 &&& 31))) := ⟨_, rfl⟩; replace h := h x1 hx; rw [← hx]
    refine j_istore hE (by decide +kernel : decode cX8_goOn 50 = .ok (.istore 6, 2)) (Nat.le_of_ble_eq_true rfl) rfl ?_
    refine j_iload_n hE (by decide +kernel : decode cX8_goOn 52 = .ok (.iload_n 2, 1)) rfl rfl ?_
    refine j_aload_n hE (by decide +kernel : decode cX8_goOn 53 = .ok (.aload_n 0, 1)) rfl rfl ?_
    obtain ⟨hk, h⟩ := h
    obtain ⟨a2, ha, h⟩ := h
    refine j_getRn hE fg_X8_18 hk ha (by decide +kernel : decode cX8_goOn 54 = .ok (.getfield 18, 3)) ?_
    refine j_iload_n hE (by decide +kernel : decode cX8_goOn 57 = .ok (.iload_n 1, 1)) rfl rfl ?_
    refine j_bipush hE (by decide +kernel : decode cX8_goOn 58 = .ok (.bipush 9, 2)) (v := (9 : Int32)) (by decide) ?_
    refine j_imul hE (by decide +kernel : decode cX8_goOn 60 = .ok (.imul, 1)) ?_
    refine j_iload hE (by decide +kernel : decode cX8_goOn 61 = .ok (.iload 5, 2)) rfl ?_
    refine j_iadd hE (by decide +kernel : decode cX8_goOn 63 = .ok (.iadd, 1)) ?_
    obtain ⟨hk, hb, h⟩ := h
    refine j_iald hE hk hb (by decide +kernel : decode cX8_goOn 64 = .ok (.iaload, 1)) ?_
    refine j_iadd hE (by decide +kernel : decode cX8_goOn 65 = .ok (.iadd, 1)) ?_
    obtain ⟨x3, hx⟩ : ∃ z, z = (l2 + (Ia g (Co g a2) (Ow g a2) ((l1 * (9 : Int32)) + l5).toNatClampNeg)) := ⟨_, rfl⟩; replace h := h x3 hx; rw [← hx]
    refine j_istore hE (by decide +kernel : decode cX8_goOn 66 = .ok (.istore 7, 2)) (Nat.le_of_ble_eq_true rfl) rfl ?_
    refine j_aload_n hE (by decide +kernel : decode cX8_goOn 68 = .ok (.aload_n 0, 1)) rfl rfl ?_
    obtain ⟨hk, h⟩ := h
    refine j_getI hE fg_X8_53 hk (by decide +kernel : decode cX8_goOn 69 = .ok (.getfield 53, 3)) ?_
    refine j_iload_n hE (by decide +kernel : decode cX8_goOn 72 = .ok (.iload_n 3, 1)) rfl rfl ?_
    refine j_iconst hE (by decide +kernel : decode cX8_goOn 73 = .ok (.iconst (-1), 1)) (v := (-1 : Int32)) (by decide) ?_
    refine j_ixor hE (by decide +kernel : decode cX8_goOn 74 = .ok (.ixor, 1)) ?_
    refine j_iand hE (by decide +kernel : decode cX8_goOn 75 = .ok (.iand, 1)) ?_
    refine j_iconst hE (by decide +kernel : decode cX8_goOn 76 = .ok (.iconst 1, 1)) (v := (1 : Int32)) (by decide) ?_
    refine j_iload hE (by decide +kernel : decode cX8_goOn 77 = .ok (.iload 5, 2)) rfl ?_
    refine j_ishl hE (by decide +kernel : decode cX8_goOn 79 = .ok (.ishl, 1)) ?_
    refine j_iand hE (by decide +kernel : decode cX8_goOn 80 = .ok (.iand, 1)) ?_
    refine j_if_eq hE (by decide +kernel : decode cX8_goOn 81 = .ok (.ifCond .eq 7, 3)) (tgt := 88) (by decide) (fun q => ?_) (fun q => ?_)
    · replace h := h.1 q
      refine j_iconst hE (by decide +kernel : decode cX8_goOn 88 = .ok (.iconst 0, 1)) (v := (0 : Int32)) (by decide) ?_
      exact S_Vn_goOn_89 hE hfr hlo hR_Vn_goOn hK37 _ _ _ _ _ _ _ _ _ _ h
    · replace h := h.2 q
      refine j_iconst hE (by decide +kernel : decode cX8_goOn 84 = .ok (.iconst 1, 1)) (v := (1 : Int32)) (by decide) ?_
      refine j_goto hE (by decide +kernel : decode cX8_goOn 85 = .ok (.goto 4, 3)) (tgt := 89) (by decide) ?_
      exact S_Vn_goOn_89 hE hfr hlo hR_Vn_goOn hK37 _ _ _ _ _ _ _ _ _ _ h
set_option maxRecDepth 100000 in
def B_Vn_goOn_15 (Γ : GAM) (R_Vn_goOn : Nat → Int32 → Int32 → Int32 → Int32 → GH → (GH → Prop) → Prop) (K37 : Nat → Int32 → Int32 → Int32 → Int32 → Int32 → GH → Prop) (K : GH → Prop) (l0 : Nat) (l1 : Int32) (l2 : Int32) (g : GH) : Prop :=
  Kd g l0 = 10 ∧ ∃ a1 : Nat, Gr g 1154 l0 = some a1 ∧ Kd g a1 = 20 ∧ inB ((l1 * (9 : Int32)) + (8 : Int32)) (Ln g a1) ∧ Kd g l0 = 10 ∧ Sp_Vn_comeHome Γ l0 (l2 + (Ia g (Co g a1) (Ow g a1) ((l1 * (9 : Int32)) + (8 : Int32)).toNatClampNeg)) g (fun (g2 : GH) => K g2)
set_option maxHeartbeats 4000000 in
set_option maxRecDepth 100000 in
theorem S_Vn_goOn_15 {Γ : GAM} {E : EV} {fr lo : Nat} {K : GH → Prop} (hE : GE Γ E cX8_goOn 9 RX8 none fr lo (fun r g' => r = none ∧ K g')) (hfr : 2 ≤ fr) (hlo : 61 ≤ lo) {R_Vn_goOn : Nat → Int32 → Int32 → Int32 → Int32 → GH → (GH → Prop) → Prop} {f_Vn_goOn l_Vn_goOn : Nat} (hR_Vn_goOn : (f_Vn_goOn + 1 ≤ fr ∧ 8 + (9 + 11) + l_Vn_goOn ≤ lo) ∧ ∀ (p0 : Nat) (p1 : Int32) (p2 : Int32) (p3 : Int32) (p4 : Int32) g (K : GH → Prop), R_Vn_goOn p0 p1 p2 p3 p4 g K → MetA Γ E.2.1 yX8_goOn cX8_goOn 9 none f_Vn_goOn l_Vn_goOn [.ref p0, .int p1, .int p2, .int p3, .int p4] g (fun r g' => r = none ∧ K g')) {K37 : Nat → Int32 → Int32 → Int32 → Int32 → Int32 → GH → Prop} (hK37 : ∀ (l0 : Nat) (l1 : Int32) (l2 : Int32) (l3 : Int32) (l4 : Int32) (l5 : Int32) (g : GH), K37 l0 l1 l2 l3 l4 l5 g → JW Γ E 37 [some (.ref l0), some (.int l1), some (.int l2), some (.int l3), some (.int l4), some (.int l5), none, none, none] [] g) (l0 : Nat) (l1 : Int32) (l2 : Int32) (g : GH) (h : B_Vn_goOn_15 Γ R_Vn_goOn K37 K l0 l1 l2 g) : JW Γ E 15 [some (.ref l0), some (.int l1), some (.int l2), none, none, none, none, none, none] [] g := by
  unfold B_Vn_goOn_15 at h
  refine j_aload_n hE (by decide +kernel : decode cX8_goOn 15 = .ok (.aload_n 0, 1)) rfl rfl ?_
  refine j_iload_n hE (by decide +kernel : decode cX8_goOn 16 = .ok (.iload_n 2, 1)) rfl rfl ?_
  refine j_aload_n hE (by decide +kernel : decode cX8_goOn 17 = .ok (.aload_n 0, 1)) rfl rfl ?_
  obtain ⟨hk, h⟩ := h
  obtain ⟨a1, ha, h⟩ := h
  refine j_getRn hE fg_X8_18 hk ha (by decide +kernel : decode cX8_goOn 18 = .ok (.getfield 18, 3)) ?_
  refine j_iload_n hE (by decide +kernel : decode cX8_goOn 21 = .ok (.iload_n 1, 1)) rfl rfl ?_
  refine j_bipush hE (by decide +kernel : decode cX8_goOn 22 = .ok (.bipush 9, 2)) (v := (9 : Int32)) (by decide) ?_
  refine j_imul hE (by decide +kernel : decode cX8_goOn 24 = .ok (.imul, 1)) ?_
  refine j_bipush hE (by decide +kernel : decode cX8_goOn 25 = .ok (.bipush 8, 2)) (v := (8 : Int32)) (by decide) ?_
  refine j_iadd hE (by decide +kernel : decode cX8_goOn 27 = .ok (.iadd, 1)) ?_
  obtain ⟨hk, hb, h⟩ := h
  refine j_iald hE hk hb (by decide +kernel : decode cX8_goOn 28 = .ok (.iaload, 1)) ?_
  refine j_iadd hE (by decide +kernel : decode cX8_goOn 29 = .ok (.iadd, 1)) ?_
  obtain ⟨hk, h⟩ := h
  refine j_callV hE rfl cl_X8_65 cf_9 im_X8_comeHome se_X8_comeHome ⟨by omega, by omega⟩ (As := [.int (l2 + (Ia g (Co g a1) (Ow g a1) ((l1 * (9 : Int32)) + (8 : Int32)).toNatClampNeg))]) (rest := []) rfl rfl (Nat.le_of_ble_eq_true rfl) hk (by decide +kernel : decode cX8_goOn 30 = .ok (.invokevirtual 65, 3)) (mt_Vn_comeHome _ _ _ _ h) ?_
  rintro _ g2 ⟨rfl, h⟩
  exact j_vret hE (by decide +kernel : decode cX8_goOn 33 = .ok (.return_, 1)) ⟨rfl, h⟩
set_option maxRecDepth 100000 in
def B_Vn_goOn_0 (Γ : GAM) (R_Vn_goOn : Nat → Int32 → Int32 → Int32 → Int32 → GH → (GH → Prop) → Prop) (K37 : Nat → Int32 → Int32 → Int32 → Int32 → Int32 → GH → Prop) (K : GH → Prop) (p0 : Nat) (p1 : Int32) (p2 : Int32) (p3 : Int32) (p4 : Int32) (g : GH) : Prop :=
  (((8 : Int32) ≤ p4 → B_Vn_goOn_15 Γ R_Vn_goOn K37 K p0 p1 p2 g) ∧ (¬ ((8 : Int32) ≤ p4) → Kd g p0 = 10 ∧ ((¬ (p3 = (Gi g 1159 p0)) → K37 p0 p1 p2 p3 p4 (0 : Int32) g) ∧ (p3 = (Gi g 1159 p0) → B_Vn_goOn_15 Γ R_Vn_goOn K37 K p0 p1 p2 g))))
set_option maxHeartbeats 4000000 in
set_option maxRecDepth 100000 in
theorem S_Vn_goOn_0 {Γ : GAM} {E : EV} {fr lo : Nat} {K : GH → Prop} (hE : GE Γ E cX8_goOn 9 RX8 none fr lo (fun r g' => r = none ∧ K g')) (hfr : 2 ≤ fr) (hlo : 61 ≤ lo) {R_Vn_goOn : Nat → Int32 → Int32 → Int32 → Int32 → GH → (GH → Prop) → Prop} {f_Vn_goOn l_Vn_goOn : Nat} (hR_Vn_goOn : (f_Vn_goOn + 1 ≤ fr ∧ 8 + (9 + 11) + l_Vn_goOn ≤ lo) ∧ ∀ (p0 : Nat) (p1 : Int32) (p2 : Int32) (p3 : Int32) (p4 : Int32) g (K : GH → Prop), R_Vn_goOn p0 p1 p2 p3 p4 g K → MetA Γ E.2.1 yX8_goOn cX8_goOn 9 none f_Vn_goOn l_Vn_goOn [.ref p0, .int p1, .int p2, .int p3, .int p4] g (fun r g' => r = none ∧ K g')) {K37 : Nat → Int32 → Int32 → Int32 → Int32 → Int32 → GH → Prop} (hK37 : ∀ (l0 : Nat) (l1 : Int32) (l2 : Int32) (l3 : Int32) (l4 : Int32) (l5 : Int32) (g : GH), K37 l0 l1 l2 l3 l4 l5 g → JW Γ E 37 [some (.ref l0), some (.int l1), some (.int l2), some (.int l3), some (.int l4), some (.int l5), none, none, none] [] g) (p0 : Nat) (p1 : Int32) (p2 : Int32) (p3 : Int32) (p4 : Int32) (g : GH) (h : B_Vn_goOn_0 Γ R_Vn_goOn K37 K p0 p1 p2 p3 p4 g) : JW Γ E 0 [some (.ref p0), some (.int p1), some (.int p2), some (.int p3), some (.int p4), none, none, none, none] [] g := by
  unfold B_Vn_goOn_0 at h
  refine j_iload hE (by decide +kernel : decode cX8_goOn 0 = .ok (.iload 4, 2)) rfl ?_
  refine j_bipush hE (by decide +kernel : decode cX8_goOn 2 = .ok (.bipush 8, 2)) (v := (8 : Int32)) (by decide) ?_
  refine j_icmp_ge hE (by decide +kernel : decode cX8_goOn 4 = .ok (.if_icmp .ge 11, 3)) (tgt := 15) (by decide) (fun q => ?_) (fun q => ?_)
  · replace h := h.1 q
    refine j_weak [some (.ref p0), some (.int p1), some (.int p2), none, none, none, none, none, none] ⟨rfl, ⟨rfl, ⟨rfl, trivial⟩⟩⟩ ?_
    exact S_Vn_goOn_15 hE hfr hlo hR_Vn_goOn hK37 _ _ _ _ h
  · replace h := h.2 q
    refine j_iload_n hE (by decide +kernel : decode cX8_goOn 7 = .ok (.iload_n 3, 1)) rfl rfl ?_
    refine j_aload_n hE (by decide +kernel : decode cX8_goOn 8 = .ok (.aload_n 0, 1)) rfl rfl ?_
    obtain ⟨hk, h⟩ := h
    refine j_getI hE fg_X8_53 hk (by decide +kernel : decode cX8_goOn 9 = .ok (.getfield 53, 3)) ?_
    refine j_icmp_ne hE (by decide +kernel : decode cX8_goOn 12 = .ok (.if_icmp .ne 22, 3)) (tgt := 34) (by decide) (fun q => ?_) (fun q => ?_)
    · replace h := h.1 q
      refine j_iconst hE (by decide +kernel : decode cX8_goOn 34 = .ok (.iconst 0, 1)) (v := (0 : Int32)) (by decide) ?_
      refine j_istore hE (by decide +kernel : decode cX8_goOn 35 = .ok (.istore 5, 2)) (Nat.le_of_ble_eq_true rfl) rfl ?_
      exact hK37 _ _ _ _ _ _ _ h
    · replace h := h.2 q
      refine j_weak [some (.ref p0), some (.int p1), some (.int p2), none, none, none, none, none, none] ⟨rfl, ⟨rfl, ⟨rfl, trivial⟩⟩⟩ ?_
      exact S_Vn_goOn_15 hE hfr hlo hR_Vn_goOn hK37 _ _ _ _ h
set_option maxHeartbeats 4000000 in
set_option maxRecDepth 100000 in
theorem rl_Vn_goOn {Γ : GAM} {l : Launch} {fr lo : Nat} (hfr : 2 ≤ fr) (hlo : 61 ≤ lo) {R_Vn_goOn : Nat → Int32 → Int32 → Int32 → Int32 → GH → (GH → Prop) → Prop} {f_Vn_goOn l_Vn_goOn : Nat} (hR_Vn_goOn : (f_Vn_goOn + 1 ≤ fr ∧ 8 + (9 + 11) + l_Vn_goOn ≤ lo) ∧ ∀ (p0 : Nat) (p1 : Int32) (p2 : Int32) (p3 : Int32) (p4 : Int32) g (K : GH → Prop), R_Vn_goOn p0 p1 p2 p3 p4 g K → MetA Γ l yX8_goOn cX8_goOn 9 none f_Vn_goOn l_Vn_goOn [.ref p0, .int p1, .int p2, .int p3, .int p4] g (fun r g' => r = none ∧ K g')) {p0 : Nat} {p1 : Int32} {p2 : Int32} {p3 : Int32} {p4 : Int32} {g : GH} {K : GH → Prop} (I37 : Nat → Nat → Int32 → Int32 → Int32 → Int32 → Int32 → GH → Prop) (hh37 : ∀ n (l0 : Nat) (l1 : Int32) (l2 : Int32) (l3 : Int32) (l4 : Int32) (l5 : Int32) (g : GH), I37 n l0 l1 l2 l3 l4 l5 g → B_Vn_goOn_37 Γ R_Vn_goOn (fun l0 l1 l2 l3 l4 l5 g => ∃ m, m < n ∧ I37 m l0 l1 l2 l3 l4 l5 g) K l0 l1 l2 l3 l4 l5 g) (h0 : B_Vn_goOn_0 Γ R_Vn_goOn (fun l0 l1 l2 l3 l4 l5 g => ∃ m, I37 m l0 l1 l2 l3 l4 l5 g) K p0 p1 p2 p3 p4 g) : MetA Γ l yX8_goOn cX8_goOn 9 none fr lo [.ref p0, .int p1, .int p2, .int p3, .int p4] g (fun r g' => r = none ∧ K g') := by
  refine MetA.introL (Lx := [some (.ref p0), some (.int p1), some (.int p2), some (.int p3), some (.int p4), none, none, none, none]) (by decide) (Nat.le_of_ble_eq_true rfl) rfl rfl ?_
  intro E hEl hE hnm
  have hR_Vn_goOn := hR_Vn_goOn; rw [← hEl] at hR_Vn_goOn
  have hall : ∀ n, (∀ (l0 : Nat) (l1 : Int32) (l2 : Int32) (l3 : Int32) (l4 : Int32) (l5 : Int32) (g : GH), I37 n l0 l1 l2 l3 l4 l5 g → JW Γ E 37 [some (.ref l0), some (.int l1), some (.int l2), some (.int l3), some (.int l4), some (.int l5), none, none, none] [] g) := by
    intro n
    induction n using Nat.strongRecOn with
    | ind n ih =>
      exact fun l0 l1 l2 l3 l4 l5 g hi => S_Vn_goOn_37 hE hfr hlo hR_Vn_goOn (fun l0 l1 l2 l3 l4 l5 g hm => by obtain ⟨m, hm, h⟩ := hm; exact (ih m hm) l0 l1 l2 l3 l4 l5 g h) l0 l1 l2 l3 l4 l5 g (hh37 n l0 l1 l2 l3 l4 l5 g hi)
  exact S_Vn_goOn_0 hE hfr hlo hR_Vn_goOn (fun l0 l1 l2 l3 l4 l5 g hm => by obtain ⟨m, h⟩ := hm; exact (hall m) l0 l1 l2 l3 l4 l5 g h) p0 p1 p2 p3 p4 g h0
theorem mv_goOn {Γ : GAM} {l : Launch} (n : Nat) {f' l' : Nat} (hrec : ∀ (th : Nat) (p0 p1 p2 p3 : Int32) (g : GH) (K : GH → Prop), SpGo n Γ th p0 p1 p2 p3 g K → MetA Γ l yX8_goOn cX8_goOn 9 none f' l' [.ref th, .int p0, .int p1, .int p2, .int p3] g (fun r g' => r = none ∧ K g')) (f lo : Nat) (hf : f' + 1 ≤ f) (hf2 : 3 ≤ f) (hlo : 100 + l' ≤ lo) (th : Nat) (p0 p1 p2 p3 : Int32) (g : GH) (K : GH → Prop) (h : SpG n Γ th p0 p1 p2 p3 g K) : MetA Γ l yX8_goOn cX8_goOn 9 none f lo [.ref th, .int p0, .int p1, .int p2, .int p3] g (fun r g' => r = none ∧ K g') := by
  obtain ⟨s, P, at', t, q, hB, hw, hn, hv1, hg, hst, rfl, rfl, rfl, rfl, ht, hat, hG, hK⟩ := h
  have hv8 := vN_le s
  have hat9 : at' < 9 := by rcases hat with ⟨_, e⟩ | ⟨e, _⟩ <;> omega
  have hm256 := mN_lt hg.2
  have hlen : P.length ≤ 8 := by omega
  refine rl_Vn_goOn (R_Vn_goOn := SpGo n Γ) (f_Vn_goOn := f') (l_Vn_goOn := l') (by omega) (by omega) ⟨⟨hf, by omega⟩, hrec⟩
    (fun nn l0 l1 l2 l3 l4 l5 g' => th = l0 ∧ nI at' = l1 ∧ nI t = l2 ∧ nI (mN P) = l3 ∧ nI P.length = l4 ∧ ∃ n' k qk, n = n' + 1 ∧ k ≤ 8 ∧ l5 = nI k ∧ nn = 8 - k ∧ FrX th [1161] [1155, 1156, 1157] g g' ∧ VG th g' P qk ∧ vQ s n P at' t q = ((List.range 8).drop k).foldl (vQs s n' P at' t) qk) ?_ ?_
  · rintro nn l0 l1 l2 l3 l4 l5 g' ⟨rfl, rfl, rfl, rfl, rfl, n', k, qk, rfl, hk, rfl, rfl, hfx, hGk, hfin⟩
    have hB' := hB.x hfx
    suffices H : ∀ (K37 : Nat → Int32 → Int32 → Int32 → Int32 → Int32 → GH → Prop), (∀ g2, k < 8 → FrX th [1161] [1155, 1156, 1157] g g2 → VG th g2 P (vQs s n' P at' t qk k) → K37 th (nI at') (nI t) (nI (mN P)) (nI P.length) (nI (k + 1)) g2) → B_Vn_goOn_37 Γ (SpGo (n' + 1) Γ) K37 K th (nI at') (nI t) (nI (mN P)) (nI P.length) (nI k) g' from
      H _ (fun g2 hk8 h1 h2 => ⟨8 - (k + 1), by omega, rfl, rfl, rfl, rfl, rfl, n', k + 1, _, rfl, hk8, rfl, rfl, h1, h2, by
        rw [hfin, List.drop_eq_getElem_cons (by rw [List.length_range]; exact hk8), List.foldl_cons, List.getElem_range]⟩)
    intro K37 h37
    unfold B_Vn_goOn_37
    rw [show (8 : Int32) = nI 8 from rfl, nj_le (by omega) (by omega)]
    refine ⟨fun u => ?_, fun u => ?_⟩
    · have hk8 : k = 8 := by omega
      subst hk8
      refine hK g' hfx ?_
      rw [hfin, List.drop_of_length_le (by rw [List.length_range]; exact Nat.le_refl _)]
      exact hGk
    have hk8 : k < 8 := by omega
    rw [sh_bit k hk8, or_bit _ hm256 k hk8]
    rintro _ rfl
    have hmapp : mN P ||| 2 ^ k = mN (P ++ [k]) := (mN_app P k).symm
    rw [hmapp]
    obtain ⟨⟨hkd, a1, a2, a3, a4, a5, a6, ⟨b1, b2, b3, b4, b5⟩, ⟨c1, c2, c3, c4, c5⟩, ⟨d1, d2, d3, d4, d5⟩, ⟨e1, e2, e3, e4, e5⟩, ⟨i1, i2, i3, i4, i5⟩, _⟩, f1, f2, f3, f4, f5⟩ := id hB'
    obtain ⟨g1, g2, g3, g4⟩ := id hGk
    have eix : nI at' * 9 + nI k = nI (9 * at' + k) := by
      rw [show (9 : Int32) = nI 9 from rfl, nj_mul, nI_add9, Nat.mul_comm]
    rw [eix]
    refine ⟨hkd, a3, d1, d2, by rw [d5]; exact inB_nI (by omega) (by omega), ?_⟩
    rw [d3, d4, nj_cl (by omega)]
    rintro x3 hx3
    rw [f2, st_bit hk8, mN_bit, mN_bit]
    have h179 : vQs s n' P at' t qk k = qk → B_Vn_goOn_179 Γ (SpGo (n' + 1) Γ) K37 K th (nI at') (nI t) (nI (mN P)) (nI P.length) (nI k) g' := fun e => by
      unfold B_Vn_goOn_179
      rw [nj_s]
      exact h37 g' hk8 hfx (by rw [e]; exact hGk)
    refine ⟨hkd, fun u => ?_, fun u => ?_⟩
    · unfold B_Vn_goOn_89
      refine ⟨fun _ => h179 ?_, fun z => absurd rfl z⟩
      unfold vQs
      rw [if_neg (fun z => u ⟨decide_eq_true (vA_mem.mpr ⟨hk8, z.1.1⟩), decide_eq_false z.1.2.1⟩)]
    have u2 : k ∈ vA s ∧ k ∉ P := by
      have := Classical.not_not.mp u
      exact ⟨of_decide_eq_true this.1, of_decide_eq_false this.2⟩
    have hsk := (vA_mem.mp u2.1).2
    have hne : at' ≠ k := fun e => by
      rcases hat with ⟨_, z⟩ | ⟨_, z⟩
      · omega
      · rw [e] at z; exact u2.2 z
    obtain ⟨r1, r2, r3⟩ := v_rd hw hat9 (show k < 9 by omega) hne
    obtain ⟨_, x, hx, x1, x2, x3', x4⟩ := v_bx hw hsk
    obtain ⟨y1, y2⟩ := f4 k x hk8 hx
    rw [f5 at' k hat9 (by omega) hne, r1, nI_add9] at hx3
    subst hx3
    unfold B_Vn_goOn_89
    refine ⟨fun z => absurd z (by decide), fun _ => ⟨hkd, a2, c1, c2, by rw [c5]; exact inB_nI hk8 (by omega), ?_⟩⟩
    rw [c3, c4, nj_cl (by omega), y2, x2, nj_lt (by omega) (by omega)]
    refine ⟨fun z => h179 ?_, fun z => ⟨hkd, a4, e1, e2, ?_⟩⟩
    · unfold vQs
      rw [if_neg (fun w => by have := w.1.2.2; omega)]
    have hgb := gP_app hg u2.2 hk8
    have hm2 := mN_lt hgb.2
    have ei : nI (mN (P ++ [k])) * 8 + nI k = nI (8 * mN (P ++ [k]) + k) := by
      rw [show (8 : Int32) = nI 8 from rfl, nj_mul, nI_add9, Nat.mul_comm]
    rw [ei]
    have hix : inB (nI (8 * mN (P ++ [k]) + k)) (Ln g' a4) := by rw [e5]; exact inB_nI (by omega) (by omega)
    obtain ⟨o1, o2⟩ := g1 _ k hm2 hk8
    refine ⟨hix, ?_⟩
    rw [e3, e4, nj_cl (by omega), o1, nj_le (by omega) (by omega)]
    refine ⟨fun w => h179 ?_, fun w => ⟨hkd, a4, e1, e2, hix, ?_⟩⟩
    · unfold vQs
      rw [if_neg (fun w2 => by have := w2.2; omega)]
    have hmay : vMay s P at' t k := ⟨hsk, u2.2, by omega⟩
    have hqs : vQs s n' P at' t qk k = vQ s n' (P ++ [k]) k (vAr s at' k t) (fun m c => if m = mN (P ++ [k]) ∧ c = k then t + vRd s at' k else qk.1 m c, qk.2) := by
      unfold vQs
      rw [if_pos ⟨hmay, by omega⟩]
    rw [e3, e4]
    rintro _ rfl
    refine ⟨hkd, a5, i1, i2, by show inB _ (Ln g' a5); rw [i5]; exact inB_nI (by omega) (by omega), ?_⟩
    rw [Co_sA, Ow_sA, i3, i4, nj_cl (by omega)]
    rintro _ rfl
    have hx6 : FrX th [1161] [1155, 1156, 1157] g' (sA (sA g' 1155 th (8 * mN (P ++ [k]) + k) (nI (t + vRd s at' k))) 1156 th P.length (nI k)) := (FrX.sA (by decide)).tr (FrX.sA (by decide))
    have hB6 := hB'.x hx6
    have hG6 : VG th (sA (sA g' 1155 th (8 * mN (P ++ [k]) + k) (nI (t + vRd s at' k))) 1156 th P.length (nI k)) (P ++ [k]) (fun m c => if m = mN (P ++ [k]) ∧ c = k then t + vRd s at' k else qk.1 m c, qk.2) := by
      refine ⟨fun j c hj hc => ?_, g2, fun p hp => ?_, fun i y hy => ?_⟩
      · obtain ⟨w1, w2⟩ := g1 j c hj hc
        rw [Ia_sA, if_neg (fun z => absurd z.1 (by decide)), Ia_sA]
        by_cases e : j = mN (P ++ [k]) ∧ c = k
        · simp only [e.1, e.2, and_self, if_true]
          exact ⟨trivial, by omega⟩
        · have : ¬ (8 * j + c = 8 * mN (P ++ [k]) + k) := fun z => e ⟨by omega, by omega⟩
          simp only [this, and_false, if_false, if_neg e]
          exact ⟨w1, w2⟩
      · obtain ⟨w1, w2⟩ := g3 p hp
        refine ⟨w1, fun i y hy => ?_⟩
        rw [Ia_sA, if_neg (fun z => absurd z.1 (by decide)), Ia_sA, if_neg (fun z => absurd z.1 (by decide))]
        exact w2 i y hy
      · rw [Ia_sA, Ia_sA, if_neg (c := 1156 = 1155 ∧ _) (fun z => absurd z.1 (by decide))]
        rw [List.getElem?_append] at hy
        split at hy
        · rename_i hlt
          have hne : ¬ i = P.length := by omega
          simp only [hne, and_false, if_false]
          exact g4 i y hy
        · have hj := (List.getElem?_eq_some_iff.mp hy).1
          simp at hj
          have e : i = P.length := by omega
          subst e
          simp at hy
          subst hy
          simp
    have hfr6 : Ia (sA (sA g' 1155 th (8 * mN (P ++ [k]) + k) (nI (t + vRd s at' k))) 1156 th P.length (nI k)) 1152 th k = nI (vFr s k) := by
      rw [Ia_sA, if_neg (fun z => absurd z.1 (by decide)), Ia_sA, if_neg (fun z => absurd z.1 (by decide)), y1, x1]
    refine ⟨hkd, a1, b1, b2, by show inB _ (Ln g' a1); rw [b5]; exact inB_nI hk8 (by omega), hkd, ?_⟩
    rw [Co_sA, Co_sA, Ow_sA, Ow_sA, b3, b4, hfr6, mx_nI (by omega) (by omega), hB6.2.1, (v_sp hw).1, nI_add9, nj_s]
    have hsp := (v_sp hw).2
    refine ⟨s, P ++ [k], k, vAr s at' k t, _, hB6, hw, by rw [List.length_append]; simp only [List.length_cons, List.length_nil]; omega, hv1, hgb, fun y hy => ?_, rfl, rfl, rfl, by rw [List.length_append]; rfl, by unfold vAr; omega, .inr ⟨hk8, by simp⟩, hG6, fun g8 hx8 hG8 => ?_⟩
    · rcases List.mem_append.mp hy with z | z
      · exact hst y z
      · rw [List.mem_singleton.mp z]; exact hsk
    · unfold B_Vn_goOn_179
      rw [nj_s]
      refine h37 g8 hk8 (hfx.tr (hx6.tr hx8)) ?_
      rw [hqs]
      obtain ⟨w1, w2, w3, w4⟩ := hG8
      refine ⟨w1, w2, w3, fun i y hy => w4 i y ?_⟩
      have := (List.getElem?_eq_some_iff.mp hy).1
      rw [List.getElem?_append_left this]; exact hy
  · unfold B_Vn_goOn_0
    obtain ⟨⟨hkd, a1, a2, a3, a4, a5, a6, _, _, ⟨d1, d2, d3, d4, d5⟩, _⟩, f1, f2, f3, f4, f5⟩ := id hB
    have h15 : n = 0 → B_Vn_goOn_15 Γ (SpGo n Γ) (fun l0 l1 l2 l3 l4 l5 g' => ∃ nn, th = l0 ∧ nI at' = l1 ∧ nI t = l2 ∧ nI (mN P) = l3 ∧ nI P.length = l4 ∧ ∃ n' k qk, n = n' + 1 ∧ k ≤ 8 ∧ l5 = nI k ∧ nn = 8 - k ∧ FrX th [1161] [1155, 1156, 1157] g g' ∧ VG th g' P qk ∧ vQ s n P at' t q = ((List.range 8).drop k).foldl (vQs s n' P at' t) qk) K th (nI at') (nI t) g := fun e => by
      subst e
      have hat8 : at' < 8 := by
        rcases hat with ⟨z, _⟩ | ⟨z, _⟩
        · rw [z] at hn; simp at hn; omega
        · exact z
      obtain ⟨r1, r2, r3⟩ := v_rd hw hat9 (show 8 < 9 by omega) (show at' ≠ 8 by omega)
      unfold B_Vn_goOn_15
      have eix : nI at' * 9 + 8 = nI (9 * at' + 8) := by
        rw [show (9 : Int32) = nI 9 from rfl, nj_mul, show (8 : Int32) = nI 8 from rfl, nI_add9, Nat.mul_comm]
      rw [eix]
      refine ⟨hkd, a3, d1, d2, by rw [d5]; exact inB_nI (by omega) (by omega), hkd, ?_⟩
      rw [d3, d4, nj_cl (by omega), f5 at' 8 hat9 (by omega) (by omega), r1, nI_add9]
      exact ⟨P, q, t + vRd s at' 8, hB.1, hG, hlen, rfl, by omega, fun g' hx hG' => hK g' hx hG'⟩
    have hall := mN_all hg hst
    refine ⟨fun u => h15 ?_, fun u => ⟨hkd, fun u2 => ?_, fun u2 => h15 ?_⟩⟩
    · have := (nj_le (a := 8) (by omega) (by omega)).mp u
      omega
    · rw [f2] at u2
      have hne : n ≠ 0 := fun e => u2 (by rw [hall.mpr (by omega)])
      exact ⟨_, rfl, rfl, rfl, rfl, rfl, n - 1, 0, q, by omega, Nat.zero_le _, nj_0, rfl, FrX.rf, hG, by
        obtain ⟨n', rfl⟩ : ∃ n', n = n' + 1 := ⟨n - 1, by omega⟩
        exact vQ_s s n' P at' t q⟩
    · rw [f2] at u2
      have hA : mN (vA s) < 256 := mN_lt (fun x hx => (vA_mem.mp hx).1)
      have := hall.mp ((nj_eq (by omega) (by omega)).mp u2)
      omega
