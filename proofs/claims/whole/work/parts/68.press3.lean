/-! the class: its press, the plan -/
theorem PY.T {m : Nat} {g : GH} {s : ST} {lf en : Nat → Int32} (h : PY m g s lf en) : prT lf (s_wav s).length ≤ 5000 * (s_wav s).length := prT_le (fun i hi => by
  obtain ⟨_, _, a, ha, e⟩ := h i hi
  rw [e, nj_cl (by omega)]; exact ha)
theorem FrX.sAf' {m : Nat} {fs cs : List Nat} {g : GH} {c : Nat} {f : Nat → Int32} (hc : c ∈ cs) : FrX m fs cs g (sAf g c m f) := by
  refine ⟨⟨fun _ _ _ => rfl, rfl, fun c' o ho => ?_, rfl, rfl, rfl, rfl, rfl, rfl, rfl, rfl, rfl⟩, fun _ _ => rfl, fun c' hc' => ?_⟩
  · rw [Ia_sAf, if_neg (fun q => ho q.2)]
  · rw [Ia_sAf, if_neg (fun q => hc' (by rw [q.1]; exact hc))]
def Sp_Pr_plan (Γ : GAM) (m : Nat) (g : GH) (K : GH → Prop) : Prop := ∃ s, PrI m g s ∧ WF s ∧ ∀ g', FrX m [] [771, 772] g g' → (∀ w, w < (s_wav s).length → Ia g' 772 m w = prE s w) → K g'
-- the walk of Pr_plan
set_option maxRecDepth 100000 in
def B_Pr_plan_171 (Γ : GAM) (K24 : Nat → Int32 → Int32 → Int32 → GH → Prop) (K : GH → Prop) (l0 : Nat) (l1 : Int32) (l2 : Int32) (l3 : Int32) (g : GH) : Prop :=
  K24 l0 l1 l2 (l3 + (1 : Int32)) g
set_option maxHeartbeats 4000000 in
set_option maxRecDepth 100000 in
theorem S_Pr_plan_171 {Γ : GAM} {E : EV} {K : GH → Prop} (hE : GE Γ E cX5_plan 7 RX5 none 2 54 (fun r g' => r = none ∧ K g')) {K24 : Nat → Int32 → Int32 → Int32 → GH → Prop} (hK24 : ∀ (l0 : Nat) (l1 : Int32) (l2 : Int32) (l3 : Int32) (g : GH), K24 l0 l1 l2 l3 g → JW Γ E 24 [some (.ref l0), some (.int l1), some (.int l2), some (.int l3), none, none, none] [] g) (l0 : Nat) (l1 : Int32) (l2 : Int32) (l3 : Int32) (g : GH) (h : B_Pr_plan_171 Γ K24 K l0 l1 l2 l3 g) : JW Γ E 171 [some (.ref l0), some (.int l1), some (.int l2), some (.int l3), none, none, none] [] g := by
  unfold B_Pr_plan_171 at h
  refine j_iinc hE (by decide +kernel : decode cX5_plan 171 = .ok (.iinc 3 1, 3)) (v := (1 : Int32)) (by decide) rfl (Nat.le_of_ble_eq_true rfl) rfl ?_
  refine j_goto hE (by decide +kernel : decode cX5_plan 174 = .ok (.goto (-150), 3)) (tgt := 24) (by decide) ?_
  exact hK24 _ _ _ _ _ h
set_option maxRecDepth 100000 in
def B_Pr_plan_58 (Γ : GAM) (K24 : Nat → Int32 → Int32 → Int32 → GH → Prop) (K : GH → Prop) (l0 : Nat) (l1 : Int32) (l2 : Int32) (l3 : Int32) (l4 : Int32) (l5 : Int32) (g : GH) : Prop :=
  ((¬ (l4 = (-1 : Int32)) → Kd g l0 = 7 ∧ ∃ a1 : Nat, Gr g 771 l0 = some a1 ∧ Kd g a1 = 20 ∧ inB l4 (Ln g a1) ∧ ((l2 < (Ia g (Co g a1) (Ow g a1) l4.toNatClampNeg) → Kd g l0 = 7 ∧ ∃ a2 : Nat, Gr g 771 l0 = some a2 ∧ Kd g a2 = 20 ∧ inB l4 (Ln g a2) ∧ Kd g a2 = 20 ∧ inB l4 (Ln g a2) ∧ ∀ g3 : GH, g3 = sA g (Co g a2) (Ow g a2) l4.toNatClampNeg ((Ia g (Co g a2) (Ow g a2) l4.toNatClampNeg) - l2) → Kd g3 l0 = 7 ∧ ∃ a4 : Nat, Gr g3 771 l0 = some a4 ∧ Kd g3 a4 = 20 ∧ inB l4 (Ln g3 a4) ∧ Kd g3 l0 = 7 ∧ Sp_Pr_wholeDays Γ l0 (Ia g3 (Co g3 a4) (Ow g3 a4) l4.toNatClampNeg) l1 l5 g3 (fun (x6 : Int32) (g5 : GH) => Kd g5 l0 = 7 ∧ ∃ a7 : Nat, Gr g5 771 l0 = some a7 ∧ Kd g5 a7 = 20 ∧ inB l4 (Ln g5 a7) ∧ Kd g5 l0 = 7 ∧ Kd g5 a7 = 20 ∧ inB l4 (Ln g5 a7) ∧ ∀ g8 : GH, g8 = sA g5 (Co g5 a7) (Ow g5 a7) l4.toNatClampNeg ((Ia g5 (Co g5 a7) (Ow g5 a7) l4.toNatClampNeg) - (x6 * (Gi g5 774 l0))) → ∀ x9 : Int32, x9 = (l1 + (x6 + (1 : Int32))) → Kd g8 l0 = 7 ∧ ∀ x10 : Int32, x10 = (Gi g8 774 l0) → B_Pr_plan_171 Γ K24 K l0 x9 x10 l3 g8)) ∧ (¬ (l2 < (Ia g (Co g a1) (Ow g a1) l4.toNatClampNeg)) → Kd g l0 = 7 ∧ ∃ a11 : Nat, Gr g 771 l0 = some a11 ∧ Kd g a11 = 20 ∧ inB l4 (Ln g a11) ∧ ∀ x12 : Int32, x12 = (l2 - (Ia g (Co g a11) (Ow g a11) l4.toNatClampNeg)) → Kd g l0 = 7 ∧ ∃ a13 : Nat, Gr g 771 l0 = some a13 ∧ Kd g a13 = 20 ∧ inB l4 (Ln g a13) ∧ ∀ g14 : GH, g14 = sA g (Co g a13) (Ow g a13) l4.toNatClampNeg (0 : Int32) → Kd g14 l0 = 7 ∧ ∃ a15 : Nat, Gr g14 772 l0 = some a15 ∧ Kd g14 a15 = 20 ∧ inB l4 (Ln g14 a15) ∧ ∀ g16 : GH, g16 = sA g14 (Co g14 a15) (Ow g14 a15) l4.toNatClampNeg l1 → B_Pr_plan_171 Γ K24 K l0 l1 x12 l3 g16))) ∧ (l4 = (-1 : Int32) → Kd g l0 = 7 ∧ ∀ x17 : Int32, x17 = (Gi g 774 l0) → B_Pr_plan_171 Γ K24 K l0 l5 x17 l3 g))
set_option maxHeartbeats 4000000 in
set_option maxRecDepth 100000 in
theorem S_Pr_plan_58 {Γ : GAM} {E : EV} {K : GH → Prop} (hE : GE Γ E cX5_plan 7 RX5 none 2 54 (fun r g' => r = none ∧ K g')) {K24 : Nat → Int32 → Int32 → Int32 → GH → Prop} (hK24 : ∀ (l0 : Nat) (l1 : Int32) (l2 : Int32) (l3 : Int32) (g : GH), K24 l0 l1 l2 l3 g → JW Γ E 24 [some (.ref l0), some (.int l1), some (.int l2), some (.int l3), none, none, none] [] g) (l0 : Nat) (l1 : Int32) (l2 : Int32) (l3 : Int32) (l4 : Int32) (l5 : Int32) (g : GH) (h : B_Pr_plan_58 Γ K24 K l0 l1 l2 l3 l4 l5 g) : JW Γ E 58 [some (.ref l0), some (.int l1), some (.int l2), some (.int l3), some (.int l4), some (.int l5), none] [] g := by
  unfold B_Pr_plan_58 at h
  refine j_iload hE (by decide +kernel : decode cX5_plan 58 = .ok (.iload 4, 2)) rfl ?_
  refine j_iconst hE (by decide +kernel : decode cX5_plan 60 = .ok (.iconst (-1), 1)) (v := (-1 : Int32)) (by decide) ?_
  refine j_icmp_ne hE (by decide +kernel : decode cX5_plan 61 = .ok (.if_icmp .ne 14, 3)) (tgt := 75) (by decide) (fun q => ?_) (fun q => ?_)
  · replace h := h.1 q
    refine j_aload_n hE (by decide +kernel : decode cX5_plan 75 = .ok (.aload_n 0, 1)) rfl rfl ?_
    obtain ⟨hk, h⟩ := h
    obtain ⟨a1, ha, h⟩ := h
    refine j_getRn hE fg_X5_21 hk ha (by decide +kernel : decode cX5_plan 76 = .ok (.getfield 21, 3)) ?_
    refine j_iload hE (by decide +kernel : decode cX5_plan 79 = .ok (.iload 4, 2)) rfl ?_
    obtain ⟨hk, hb, h⟩ := h
    refine j_iald hE hk hb (by decide +kernel : decode cX5_plan 81 = .ok (.iaload, 1)) ?_
    refine j_iload_n hE (by decide +kernel : decode cX5_plan 82 = .ok (.iload_n 2, 1)) rfl rfl ?_
    refine j_icmp_gt hE (by decide +kernel : decode cX5_plan 83 = .ok (.if_icmp .gt 32, 3)) (tgt := 115) (by decide) (fun q => ?_) (fun q => ?_)
    · replace h := h.1 q
      refine j_aload_n hE (by decide +kernel : decode cX5_plan 115 = .ok (.aload_n 0, 1)) rfl rfl ?_
      obtain ⟨hk, h⟩ := h
      obtain ⟨a2, ha, h⟩ := h
      refine j_getRn hE fg_X5_21 hk ha (by decide +kernel : decode cX5_plan 116 = .ok (.getfield 21, 3)) ?_
      refine j_iload hE (by decide +kernel : decode cX5_plan 119 = .ok (.iload 4, 2)) rfl ?_
      refine j_dup2 hE (by decide +kernel : decode cX5_plan 121 = .ok (.dup2, 1)) rfl rfl ?_
      obtain ⟨hk, hb, h⟩ := h
      refine j_iald hE hk hb (by decide +kernel : decode cX5_plan 122 = .ok (.iaload, 1)) ?_
      refine j_iload_n hE (by decide +kernel : decode cX5_plan 123 = .ok (.iload_n 2, 1)) rfl rfl ?_
      refine j_isub hE (by decide +kernel : decode cX5_plan 124 = .ok (.isub, 1)) ?_
      obtain ⟨hk, hb, h⟩ := h
      obtain ⟨g3, hg⟩ : ∃ z, z = sA g (Co g a2) (Ow g a2) l4.toNatClampNeg ((Ia g (Co g a2) (Ow g a2) l4.toNatClampNeg) - l2) := ⟨_, rfl⟩; replace h := h g3 hg
      refine j_iast hE hk hb (by decide +kernel : decode cX5_plan 125 = .ok (.iastore, 1)) ?_
      rw [← hg]
      refine j_aload_n hE (by decide +kernel : decode cX5_plan 126 = .ok (.aload_n 0, 1)) rfl rfl ?_
      refine j_aload_n hE (by decide +kernel : decode cX5_plan 127 = .ok (.aload_n 0, 1)) rfl rfl ?_
      obtain ⟨hk, h⟩ := h
      obtain ⟨a4, ha, h⟩ := h
      refine j_getRn hE fg_X5_21 hk ha (by decide +kernel : decode cX5_plan 128 = .ok (.getfield 21, 3)) ?_
      refine j_iload hE (by decide +kernel : decode cX5_plan 131 = .ok (.iload 4, 2)) rfl ?_
      obtain ⟨hk, hb, h⟩ := h
      refine j_iald hE hk hb (by decide +kernel : decode cX5_plan 133 = .ok (.iaload, 1)) ?_
      refine j_iload_n hE (by decide +kernel : decode cX5_plan 134 = .ok (.iload_n 1, 1)) rfl rfl ?_
      refine j_iload hE (by decide +kernel : decode cX5_plan 135 = .ok (.iload 5, 2)) rfl ?_
      obtain ⟨hk, h⟩ := h
      refine j_callV hE rfl cl_X5_47 cf_6 im_X5_wholeDays se_X5_wholeDays ⟨by omega, by omega⟩ (As := [.int (Ia g3 (Co g3 a4) (Ow g3 a4) l4.toNatClampNeg), .int l1, .int l5]) (rest := []) rfl rfl (Nat.le_of_ble_eq_true rfl) hk (by decide +kernel : decode cX5_plan 137 = .ok (.invokevirtual 47, 3)) (mt_Pr_wholeDays _ _ _ _ _ _ h) ?_
      rintro _ g5 ⟨x6, rfl, h⟩
      refine j_istore hE (by decide +kernel : decode cX5_plan 140 = .ok (.istore 6, 2)) (Nat.le_of_ble_eq_true rfl) rfl ?_
      refine j_aload_n hE (by decide +kernel : decode cX5_plan 142 = .ok (.aload_n 0, 1)) rfl rfl ?_
      obtain ⟨hk, h⟩ := h
      obtain ⟨a7, ha, h⟩ := h
      refine j_getRn hE fg_X5_21 hk ha (by decide +kernel : decode cX5_plan 143 = .ok (.getfield 21, 3)) ?_
      refine j_iload hE (by decide +kernel : decode cX5_plan 146 = .ok (.iload 4, 2)) rfl ?_
      refine j_dup2 hE (by decide +kernel : decode cX5_plan 148 = .ok (.dup2, 1)) rfl rfl ?_
      obtain ⟨hk, hb, h⟩ := h
      refine j_iald hE hk hb (by decide +kernel : decode cX5_plan 149 = .ok (.iaload, 1)) ?_
      refine j_iload hE (by decide +kernel : decode cX5_plan 150 = .ok (.iload 6, 2)) rfl ?_
      refine j_aload_n hE (by decide +kernel : decode cX5_plan 152 = .ok (.aload_n 0, 1)) rfl rfl ?_
      obtain ⟨hk, h⟩ := h
      refine j_getI hE fg_X5_27 hk (by decide +kernel : decode cX5_plan 153 = .ok (.getfield 27, 3)) ?_
      refine j_imul hE (by decide +kernel : decode cX5_plan 156 = .ok (.imul, 1)) ?_
      refine j_isub hE (by decide +kernel : decode cX5_plan 157 = .ok (.isub, 1)) ?_
      obtain ⟨hk, hb, h⟩ := h
      obtain ⟨g8, hg⟩ : ∃ z, z = sA g5 (Co g5 a7) (Ow g5 a7) l4.toNatClampNeg ((Ia g5 (Co g5 a7) (Ow g5 a7) l4.toNatClampNeg) - (x6 * (Gi g5 774 l0))) := ⟨_, rfl⟩; replace h := h g8 hg
      refine j_iast hE hk hb (by decide +kernel : decode cX5_plan 158 = .ok (.iastore, 1)) ?_
      rw [← hg]
      refine j_iload_n hE (by decide +kernel : decode cX5_plan 159 = .ok (.iload_n 1, 1)) rfl rfl ?_
      refine j_iload hE (by decide +kernel : decode cX5_plan 160 = .ok (.iload 6, 2)) rfl ?_
      refine j_iconst hE (by decide +kernel : decode cX5_plan 162 = .ok (.iconst 1, 1)) (v := (1 : Int32)) (by decide) ?_
      refine j_iadd hE (by decide +kernel : decode cX5_plan 163 = .ok (.iadd, 1)) ?_
      refine j_iadd hE (by decide +kernel : decode cX5_plan 164 = .ok (.iadd, 1)) ?_
      obtain ⟨x9, hx⟩ : ∃ z, z = (l1 + (x6 + (1 : Int32))) := ⟨_, rfl⟩; replace h := h x9 hx; rw [← hx]
      refine j_istore_n hE (by decide +kernel : decode cX5_plan 165 = .ok (.istore_n 1, 1)) rfl (Nat.le_of_ble_eq_true rfl) rfl ?_
      refine j_aload_n hE (by decide +kernel : decode cX5_plan 166 = .ok (.aload_n 0, 1)) rfl rfl ?_
      obtain ⟨hk, h⟩ := h
      refine j_getI hE fg_X5_27 hk (by decide +kernel : decode cX5_plan 167 = .ok (.getfield 27, 3)) ?_
      obtain ⟨x10, hx⟩ : ∃ z, z = (Gi g8 774 l0) := ⟨_, rfl⟩; replace h := h x10 hx; rw [← hx]
      refine j_istore_n hE (by decide +kernel : decode cX5_plan 170 = .ok (.istore_n 2, 1)) rfl (Nat.le_of_ble_eq_true rfl) rfl ?_
      refine j_weak [some (.ref l0), some (.int x9), some (.int x10), some (.int l3), none, none, none] ⟨rfl, ⟨rfl, ⟨rfl, ⟨rfl, trivial⟩⟩⟩⟩ ?_
      exact S_Pr_plan_171 hE hK24 _ _ _ _ _ h
    · replace h := h.2 q
      refine j_iload_n hE (by decide +kernel : decode cX5_plan 86 = .ok (.iload_n 2, 1)) rfl rfl ?_
      refine j_aload_n hE (by decide +kernel : decode cX5_plan 87 = .ok (.aload_n 0, 1)) rfl rfl ?_
      obtain ⟨hk, h⟩ := h
      obtain ⟨a11, ha, h⟩ := h
      refine j_getRn hE fg_X5_21 hk ha (by decide +kernel : decode cX5_plan 88 = .ok (.getfield 21, 3)) ?_
      refine j_iload hE (by decide +kernel : decode cX5_plan 91 = .ok (.iload 4, 2)) rfl ?_
      obtain ⟨hk, hb, h⟩ := h
      refine j_iald hE hk hb (by decide +kernel : decode cX5_plan 93 = .ok (.iaload, 1)) ?_
      refine j_isub hE (by decide +kernel : decode cX5_plan 94 = .ok (.isub, 1)) ?_
      obtain ⟨x12, hx⟩ : ∃ z, z = (l2 - (Ia g (Co g a11) (Ow g a11) l4.toNatClampNeg)) := ⟨_, rfl⟩; replace h := h x12 hx; rw [← hx]
      refine j_istore_n hE (by decide +kernel : decode cX5_plan 95 = .ok (.istore_n 2, 1)) rfl (Nat.le_of_ble_eq_true rfl) rfl ?_
      refine j_aload_n hE (by decide +kernel : decode cX5_plan 96 = .ok (.aload_n 0, 1)) rfl rfl ?_
      obtain ⟨hk, h⟩ := h
      obtain ⟨a13, ha, h⟩ := h
      refine j_getRn hE fg_X5_21 hk ha (by decide +kernel : decode cX5_plan 97 = .ok (.getfield 21, 3)) ?_
      refine j_iload hE (by decide +kernel : decode cX5_plan 100 = .ok (.iload 4, 2)) rfl ?_
      refine j_iconst hE (by decide +kernel : decode cX5_plan 102 = .ok (.iconst 0, 1)) (v := (0 : Int32)) (by decide) ?_
      obtain ⟨hk, hb, h⟩ := h
      obtain ⟨g14, hg⟩ : ∃ z, z = sA g (Co g a13) (Ow g a13) l4.toNatClampNeg (0 : Int32) := ⟨_, rfl⟩; replace h := h g14 hg
      refine j_iast hE hk hb (by decide +kernel : decode cX5_plan 103 = .ok (.iastore, 1)) ?_
      rw [← hg]
      refine j_aload_n hE (by decide +kernel : decode cX5_plan 104 = .ok (.aload_n 0, 1)) rfl rfl ?_
      obtain ⟨hk, h⟩ := h
      obtain ⟨a15, ha, h⟩ := h
      refine j_getRn hE fg_X5_24 hk ha (by decide +kernel : decode cX5_plan 105 = .ok (.getfield 24, 3)) ?_
      refine j_iload hE (by decide +kernel : decode cX5_plan 108 = .ok (.iload 4, 2)) rfl ?_
      refine j_iload_n hE (by decide +kernel : decode cX5_plan 110 = .ok (.iload_n 1, 1)) rfl rfl ?_
      obtain ⟨hk, hb, h⟩ := h
      obtain ⟨g16, hg⟩ : ∃ z, z = sA g14 (Co g14 a15) (Ow g14 a15) l4.toNatClampNeg l1 := ⟨_, rfl⟩; replace h := h g16 hg
      refine j_iast hE hk hb (by decide +kernel : decode cX5_plan 111 = .ok (.iastore, 1)) ?_
      rw [← hg]
      refine j_goto hE (by decide +kernel : decode cX5_plan 112 = .ok (.goto 59, 3)) (tgt := 171) (by decide) ?_
      refine j_weak [some (.ref l0), some (.int l1), some (.int x12), some (.int l3), none, none, none] ⟨rfl, ⟨rfl, ⟨rfl, ⟨rfl, trivial⟩⟩⟩⟩ ?_
      exact S_Pr_plan_171 hE hK24 _ _ _ _ _ h
  · replace h := h.2 q
    refine j_iload hE (by decide +kernel : decode cX5_plan 64 = .ok (.iload 5, 2)) rfl ?_
    refine j_istore_n hE (by decide +kernel : decode cX5_plan 66 = .ok (.istore_n 1, 1)) rfl (Nat.le_of_ble_eq_true rfl) rfl ?_
    refine j_aload_n hE (by decide +kernel : decode cX5_plan 67 = .ok (.aload_n 0, 1)) rfl rfl ?_
    obtain ⟨hk, h⟩ := h
    refine j_getI hE fg_X5_27 hk (by decide +kernel : decode cX5_plan 68 = .ok (.getfield 27, 3)) ?_
    obtain ⟨x17, hx⟩ : ∃ z, z = (Gi g 774 l0) := ⟨_, rfl⟩; replace h := h x17 hx; rw [← hx]
    refine j_istore_n hE (by decide +kernel : decode cX5_plan 71 = .ok (.istore_n 2, 1)) rfl (Nat.le_of_ble_eq_true rfl) rfl ?_
    refine j_goto hE (by decide +kernel : decode cX5_plan 72 = .ok (.goto 99, 3)) (tgt := 171) (by decide) ?_
    refine j_weak [some (.ref l0), some (.int l5), some (.int x17), some (.int l3), none, none, none] ⟨rfl, ⟨rfl, ⟨rfl, ⟨rfl, trivial⟩⟩⟩⟩ ?_
    exact S_Pr_plan_171 hE hK24 _ _ _ _ _ h
set_option maxRecDepth 100000 in
def B_Pr_plan_24 (Γ : GAM) (K24 : Nat → Int32 → Int32 → Int32 → GH → Prop) (K : GH → Prop) (l0 : Nat) (l1 : Int32) (l2 : Int32) (l3 : Int32) (g : GH) : Prop :=
  (((10000 : Int32) ≤ l3 → K g) ∧ (¬ ((10000 : Int32) ≤ l3) → Kd g l0 = 7 ∧ Sp_Pr_mostUrgent Γ l0 l1 g (fun (x2 : Int32) (g1 : GH) => Kd g1 l0 = 7 ∧ Sp_Pr_nextReady Γ l0 l1 g1 (fun (x4 : Int32) (g3 : GH) => ((¬ (x2 = (-1 : Int32)) → B_Pr_plan_58 Γ K24 K l0 l1 l2 l3 x2 x4 g3) ∧ (x2 = (-1 : Int32) → ((¬ (x4 = (-1 : Int32)) → B_Pr_plan_58 Γ K24 K l0 l1 l2 l3 x2 x4 g3) ∧ (x4 = (-1 : Int32) → K g3))))))))
set_option maxHeartbeats 4000000 in
set_option maxRecDepth 100000 in
theorem S_Pr_plan_24 {Γ : GAM} {E : EV} {K : GH → Prop} (hE : GE Γ E cX5_plan 7 RX5 none 2 54 (fun r g' => r = none ∧ K g')) {K24 : Nat → Int32 → Int32 → Int32 → GH → Prop} (hK24 : ∀ (l0 : Nat) (l1 : Int32) (l2 : Int32) (l3 : Int32) (g : GH), K24 l0 l1 l2 l3 g → JW Γ E 24 [some (.ref l0), some (.int l1), some (.int l2), some (.int l3), none, none, none] [] g) (l0 : Nat) (l1 : Int32) (l2 : Int32) (l3 : Int32) (g : GH) (h : B_Pr_plan_24 Γ K24 K l0 l1 l2 l3 g) : JW Γ E 24 [some (.ref l0), some (.int l1), some (.int l2), some (.int l3), none, none, none] [] g := by
  unfold B_Pr_plan_24 at h
  refine j_iload_n hE (by decide +kernel : decode cX5_plan 24 = .ok (.iload_n 3, 1)) rfl rfl ?_
  refine j_sipush hE (by decide +kernel : decode cX5_plan 25 = .ok (.sipush 10000, 3)) (v := (10000 : Int32)) (by decide) ?_
  refine j_icmp_ge hE (by decide +kernel : decode cX5_plan 28 = .ok (.if_icmp .ge 149, 3)) (tgt := 177) (by decide) (fun q => ?_) (fun q => ?_)
  · replace h := h.1 q
    exact j_vret hE (by decide +kernel : decode cX5_plan 177 = .ok (.return_, 1)) ⟨rfl, h⟩
  · replace h := h.2 q
    refine j_aload_n hE (by decide +kernel : decode cX5_plan 31 = .ok (.aload_n 0, 1)) rfl rfl ?_
    refine j_iload_n hE (by decide +kernel : decode cX5_plan 32 = .ok (.iload_n 1, 1)) rfl rfl ?_
    obtain ⟨hk, h⟩ := h
    refine j_callV hE rfl cl_X5_40 cf_6 im_X5_mostUrgent se_X5_mostUrgent ⟨by omega, by omega⟩ (As := [.int l1]) (rest := []) rfl rfl (Nat.le_of_ble_eq_true rfl) hk (by decide +kernel : decode cX5_plan 33 = .ok (.invokevirtual 40, 3)) (mt_Pr_mostUrgent _ _ _ _ h) ?_
    rintro _ g1 ⟨x2, rfl, h⟩
    refine j_istore hE (by decide +kernel : decode cX5_plan 36 = .ok (.istore 4, 2)) (Nat.le_of_ble_eq_true rfl) rfl ?_
    refine j_aload_n hE (by decide +kernel : decode cX5_plan 38 = .ok (.aload_n 0, 1)) rfl rfl ?_
    refine j_iload_n hE (by decide +kernel : decode cX5_plan 39 = .ok (.iload_n 1, 1)) rfl rfl ?_
    obtain ⟨hk, h⟩ := h
    refine j_callV hE rfl cl_X5_44 cf_6 im_X5_nextReady se_X5_nextReady ⟨by omega, by omega⟩ (As := [.int l1]) (rest := []) rfl rfl (Nat.le_of_ble_eq_true rfl) hk (by decide +kernel : decode cX5_plan 40 = .ok (.invokevirtual 44, 3)) (mt_Pr_nextReady _ _ _ _ h) ?_
    rintro _ g3 ⟨x4, rfl, h⟩
    refine j_istore hE (by decide +kernel : decode cX5_plan 43 = .ok (.istore 5, 2)) (Nat.le_of_ble_eq_true rfl) rfl ?_
    refine j_iload hE (by decide +kernel : decode cX5_plan 45 = .ok (.iload 4, 2)) rfl ?_
    refine j_iconst hE (by decide +kernel : decode cX5_plan 47 = .ok (.iconst (-1), 1)) (v := (-1 : Int32)) (by decide) ?_
    refine j_icmp_ne hE (by decide +kernel : decode cX5_plan 48 = .ok (.if_icmp .ne 10, 3)) (tgt := 58) (by decide) (fun q => ?_) (fun q => ?_)
    · replace h := h.1 q
      exact S_Pr_plan_58 hE hK24 _ _ _ _ _ _ _ h
    · replace h := h.2 q
      refine j_iload hE (by decide +kernel : decode cX5_plan 51 = .ok (.iload 5, 2)) rfl ?_
      refine j_iconst hE (by decide +kernel : decode cX5_plan 53 = .ok (.iconst (-1), 1)) (v := (-1 : Int32)) (by decide) ?_
      refine j_icmp_ne hE (by decide +kernel : decode cX5_plan 54 = .ok (.if_icmp .ne 4, 3)) (tgt := 58) (by decide) (fun q => ?_) (fun q => ?_)
      · replace h := h.1 q
        exact S_Pr_plan_58 hE hK24 _ _ _ _ _ _ _ h
      · replace h := h.2 q
        exact j_vret hE (by decide +kernel : decode cX5_plan 57 = .ok (.return_, 1)) ⟨rfl, h⟩
set_option maxRecDepth 100000 in
def B_Pr_plan_0 (Γ : GAM) (K24 : Nat → Int32 → Int32 → Int32 → GH → Prop) (K : GH → Prop) (th : Nat) (g : GH) : Prop :=
  Kd g th = 7 ∧ ∃ a1 : Nat, Gr g 768 th = some a1 ∧ Kd g th = 7 ∧ ∃ a2 : Nat, Gr g 771 th = some a2 ∧ Kd g a1 = 20 ∧ Kd g a2 = 20 ∧ 0 ≤ (0 : Int32) ∧ 0 ≤ (0 : Int32) ∧ 0 ≤ (12 : Int32) ∧ (0 : Int32).toNatClampNeg + (12 : Int32).toNatClampNeg ≤ Ln g a1 ∧ (0 : Int32).toNatClampNeg + (12 : Int32).toNatClampNeg ≤ Ln g a2 ∧ 0 < Ln g a2 ∧ ∀ g3 : GH, g3 = sAf g (Co g a2) (Ow g a2) (va_cpy (Ia g (Co g a1) (Ow g a1)) (Ia g (Co g a2) (Ow g a2)) (0 : Int32).toNatClampNeg (0 : Int32).toNatClampNeg (12 : Int32).toNatClampNeg) → Kd g3 th = 7 ∧ ∀ x4 : Int32, x4 = (Gi g3 774 th) → K24 th (0 : Int32) x4 (0 : Int32) g3
set_option maxHeartbeats 4000000 in
set_option maxRecDepth 100000 in
theorem S_Pr_plan_0 {Γ : GAM} {E : EV} {K : GH → Prop} (hE : GE Γ E cX5_plan 7 RX5 none 2 54 (fun r g' => r = none ∧ K g')) {K24 : Nat → Int32 → Int32 → Int32 → GH → Prop} (hK24 : ∀ (l0 : Nat) (l1 : Int32) (l2 : Int32) (l3 : Int32) (g : GH), K24 l0 l1 l2 l3 g → JW Γ E 24 [some (.ref l0), some (.int l1), some (.int l2), some (.int l3), none, none, none] [] g) (th : Nat) (g : GH) (h : B_Pr_plan_0 Γ K24 K th g) : JW Γ E 0 [some (.ref th), none, none, none, none, none, none] [] g := by
  unfold B_Pr_plan_0 at h
  refine j_aload_n hE (by decide +kernel : decode cX5_plan 0 = .ok (.aload_n 0, 1)) rfl rfl ?_
  obtain ⟨hk, h⟩ := h
  obtain ⟨a1, ha, h⟩ := h
  refine j_getRn hE fg_X5_9 hk ha (by decide +kernel : decode cX5_plan 1 = .ok (.getfield 9, 3)) ?_
  refine j_iconst hE (by decide +kernel : decode cX5_plan 4 = .ok (.iconst 0, 1)) (v := (0 : Int32)) (by decide) ?_
  refine j_aload_n hE (by decide +kernel : decode cX5_plan 5 = .ok (.aload_n 0, 1)) rfl rfl ?_
  obtain ⟨hk, h⟩ := h
  obtain ⟨a2, ha, h⟩ := h
  refine j_getRn hE fg_X5_21 hk ha (by decide +kernel : decode cX5_plan 6 = .ok (.getfield 21, 3)) ?_
  refine j_iconst hE (by decide +kernel : decode cX5_plan 9 = .ok (.iconst 0, 1)) (v := (0 : Int32)) (by decide) ?_
  refine j_bipush hE (by decide +kernel : decode cX5_plan 10 = .ok (.bipush 12, 2)) (v := (12 : Int32)) (by decide) ?_
  obtain ⟨hk0, hk, c1, c2, c3, c4, c5, c6, h⟩ := h
  obtain ⟨g3, hg⟩ : ∃ z, z = sAf g (Co g a2) (Ow g a2) (va_cpy (Ia g (Co g a1) (Ow g a1)) (Ia g (Co g a2) (Ow g a2)) (0 : Int32).toNatClampNeg (0 : Int32).toNatClampNeg (12 : Int32).toNatClampNeg) := ⟨_, rfl⟩; replace h := h g3 hg
  refine j_copyi hE rfl cp_X5_34 hk0 hk c1 c2 c3 c4 c5 c6 (Nat.le_of_ble_eq_true rfl) (by omega) (by omega) (by decide +kernel : decode cX5_plan 12 = .ok (.invokestatic 34, 3)) ?_
  rw [← hg]
  refine j_iconst hE (by decide +kernel : decode cX5_plan 15 = .ok (.iconst 0, 1)) (v := (0 : Int32)) (by decide) ?_
  refine j_istore_n hE (by decide +kernel : decode cX5_plan 16 = .ok (.istore_n 1, 1)) rfl (Nat.le_of_ble_eq_true rfl) rfl ?_
  refine j_aload_n hE (by decide +kernel : decode cX5_plan 17 = .ok (.aload_n 0, 1)) rfl rfl ?_
  obtain ⟨hk, h⟩ := h
  refine j_getI hE fg_X5_27 hk (by decide +kernel : decode cX5_plan 18 = .ok (.getfield 27, 3)) ?_
  obtain ⟨x4, hx⟩ : ∃ z, z = (Gi g3 774 th) := ⟨_, rfl⟩; replace h := h x4 hx; rw [← hx]
  refine j_istore_n hE (by decide +kernel : decode cX5_plan 21 = .ok (.istore_n 2, 1)) rfl (Nat.le_of_ble_eq_true rfl) rfl ?_
  refine j_iconst hE (by decide +kernel : decode cX5_plan 22 = .ok (.iconst 0, 1)) (v := (0 : Int32)) (by decide) ?_
  refine j_istore_n hE (by decide +kernel : decode cX5_plan 23 = .ok (.istore_n 3, 1)) rfl (Nat.le_of_ble_eq_true rfl) rfl ?_
  exact hK24 _ _ _ _ _ h
set_option maxHeartbeats 4000000 in
set_option maxRecDepth 100000 in
theorem rl_Pr_plan {Γ : GAM} {l : Launch} {th : Nat} {g : GH} {K : GH → Prop} (I24 : Nat → Nat → Int32 → Int32 → Int32 → GH → Prop) (hh24 : ∀ n (l0 : Nat) (l1 : Int32) (l2 : Int32) (l3 : Int32) (g : GH), I24 n l0 l1 l2 l3 g → B_Pr_plan_24 Γ (fun l0 l1 l2 l3 g => ∃ m, m < n ∧ I24 m l0 l1 l2 l3 g) K l0 l1 l2 l3 g) (h0 : B_Pr_plan_0 Γ (fun l0 l1 l2 l3 g => ∃ m, I24 m l0 l1 l2 l3 g) K th g) : MetA Γ l yX5_plan cX5_plan 7 none 2 54 [.ref th] g (fun r g' => r = none ∧ K g') := by
  refine MetA.introL (Lx := [some (.ref th), none, none, none, none, none, none]) (by decide) (Nat.le_of_ble_eq_true rfl) rfl rfl ?_
  intro E hEl hE hnm
  have hall : ∀ n, (∀ (l0 : Nat) (l1 : Int32) (l2 : Int32) (l3 : Int32) (g : GH), I24 n l0 l1 l2 l3 g → JW Γ E 24 [some (.ref l0), some (.int l1), some (.int l2), some (.int l3), none, none, none] [] g) := by
    intro n
    induction n using Nat.strongRecOn with
    | ind n ih =>
      exact fun l0 l1 l2 l3 g hi => S_Pr_plan_24 hE (fun l0 l1 l2 l3 g hm => by obtain ⟨m, hm, h⟩ := hm; exact (ih m hm) l0 l1 l2 l3 g h) l0 l1 l2 l3 g (hh24 n l0 l1 l2 l3 g hi)
  exact S_Pr_plan_0 hE (fun l0 l1 l2 l3 g hm => by obtain ⟨m, h⟩ := hm; exact (hall m) l0 l1 l2 l3 g h) th g h0
theorem mt_Pr_plan {Γ : GAM} {l : Launch} (th : Nat) (g : GH) (K : GH → Prop) (h : Sp_Pr_plan Γ th g K) : MetA Γ l yX5_plan cX5_plan 7 none 2 54 [.ref th] g (fun r g' => r = none ∧ K g') := by
  obtain ⟨s, hI, hw, hK⟩ := h
  have hlen := hw.len.2.2.2.2.2.2.2.2.2.2.1
  have hprs := nj_of (show 0 ≤ s_prs s from by have := hw.prs.1; grind)
  have hprs2 : 1 ≤ (s_prs s).toNatClampNeg ∧ (s_prs s).toNatClampNeg ≤ 1000 := by
    have h1 := hw.prs
    rw [hprs.1] at h1
    exact ⟨(nj_le (a := 1) (by omega) hprs.2).mp h1.1, (nj_le (b := 1000) hprs.2 (by omega)).mp h1.2⟩
  generalize hP : (s_prs s).toNatClampNeg = P at hprs hprs2
  have hrd : ∀ (i : Nat) (x : Wv), (s_wav s)[i]? = some x → ∃ q, q ≤ 400 ∧ x.2.1 = nI q := fun i x hx => by
    have h2 := (hw.wav x (List.mem_of_getElem? hx)).2.1
    have h3 := nj_of h2.1
    have h4 := h2.2
    rw [h3.1] at h4
    exact ⟨_, (nj_le (b := 400) h3.2 (by omega)).mp h4, h3.1⟩
  have hpos : ∀ x ∈ s_wav s, 0 ≤ x.2.1 := fun x hx => (hw.wav x hx).2.1.1
  refine rl_Pr_plan (fun n l0 l1 l2 l3 g' => th = l0 ∧ ∃ k lf en d r j, prI s k = (lf, nI d, nI r, en) ∧ PY th g' s lf en ∧ FrX th [] [771, 772] g g' ∧ l1 = nI d ∧ l2 = nI r ∧ l3 = nI j ∧ r ≤ 1000 ∧ d + prT lf (s_wav s).length ≤ 60400 + j ∧ j + prM s lf (nI d) (nI r) ≤ 60 ∧ n = prM s lf (nI d) (nI r)) ?_ ?_
  · rintro n l0 l1 l2 l3 g' ⟨rfl, k, lf, en, d, r, j, hp, hx, hfx, rfl, rfl, rfl, hr, hd, hj, rfl⟩
    suffices H : ∀ (K24 : Nat → Int32 → Int32 → Int32 → GH → Prop), (∀ k2 lf2 en2 d2 r2 g2, prI s k2 = (lf2, nI d2, nI r2, en2) → PY th g2 s lf2 en2 → FrX th [] [771, 772] g g2 → r2 ≤ 1000 → d2 + prT lf2 (s_wav s).length ≤ 60400 + (j + 1) → prM s lf2 (nI d2) (nI r2) < prM s lf (nI d) (nI r) → K24 th (nI d2) (nI r2) (nI (j + 1)) g2) → B_Pr_plan_24 Γ K24 K th (nI d) (nI r) (nI j) g' from
      H _ (fun k2 lf2 en2 d2 r2 g2 h1 h2 h3 h4 h5 h6 => ⟨_, h6, rfl, k2, lf2, en2, d2, r2, j + 1, h1, h2, h3, rfl, rfl, rfl, h4, h5, by omega, rfl⟩)
    intro K24 h24
    have hI' := hI.x hfx
    have hT := hx.T
    obtain ⟨⟨hkd, a1, a2, a3, a4, a5, _, _, _, ⟨d1, d2, d3, d4, d5⟩, ⟨e1, e2, e3, e4, e5⟩⟩, f1, f2, f3⟩ := id hI'
    have hgl : ∀ i, i < (s_wav s).length → Ia g' 771 th i = lf i := fun i hi => (hx i hi).1
    unfold B_Pr_plan_24
    refine ⟨fun u => ?_, fun _ => ⟨hkd, s, hI', hlen, hkd, s, hI', hlen, hpos, fun v hv => ?_⟩⟩
    · have := (nj_le (a := 10000) (b := j) (by omega) (by omega)).mp u
      omega
    rw [sNx_cg (lf' := lf) hgl]
    have hvN : v = -1 → ∀ i x, (s_wav s)[i]? = some x → lf i ≤ 0 ∨ x.2.1 ≤ nI d := fun u i x hxi => by
      have hi := (List.getElem?_eq_some_iff.mp hxi).1
      rcases hv with ⟨_, h1⟩ | ⟨⟨i', x', hi', hx', h2, h3, h4⟩, _⟩
      · have := h1 i x hi hxi
        rw [hgl i hi] at this; exact this
      · obtain ⟨q, hq, e⟩ := hrd i' x' hx'
        rw [h4, e] at u
        exact absurd u (nI_nm1 (by omega))
    have hvS : v ≠ -1 → ∃ i x q, i < (s_wav s).length ∧ (s_wav s)[i]? = some x ∧ ¬ lf i ≤ 0 ∧ ¬ x.2.1 ≤ nI d ∧ v = x.2.1 ∧ v = nI q ∧ q ≤ 400 ∧ d < q ∧ ∀ i x, (s_wav s)[i]? = some x → lf i ≤ 0 ∨ x.2.1 ≤ nI d ∨ v ≤ x.2.1 := fun u => by
      rcases hv with ⟨e, _⟩ | ⟨⟨i, x, hi, hxi, h2, h3, h4⟩, h5⟩
      · exact absurd e u
      · obtain ⟨q, hq, e⟩ := hrd i x hxi
        refine ⟨i, x, q, hi, hxi, by rw [← hgl i hi]; exact h2, h3, h4, h4.trans e, hq, ?_, fun i' x' hx' => ?_⟩
        · rw [e] at h3
          refine Nat.lt_of_not_le (fun z => h3 ((nj_le (by omega) (by omega)).mpr z))
        · have hi' := (List.getElem?_eq_some_iff.mp hx').1
          have := h5 i' x' hi' hx'
          rw [hgl i' hi'] at this; exact this
    have hR := prR_n (s := s) (lf := lf) (d := nI d) (s_wav s).length
    have hC := prC_le (f := lf) (n := (s_wav s).length)
    cases hn : sNx s lf (nI d) with
    | none =>
      have hB1 : prB s lf (nI d) (nI r) = 1 := by unfold prB; rw [hn]
      refine ⟨fun u => absurd oI_n u, fun _ => ⟨fun u => ?_, fun u => ?_⟩⟩
      · obtain ⟨i, x, q, hi, hxi, h2, h3, h4, h5, hq, hdq, h6⟩ := hvS u
        unfold B_Pr_plan_58 B_Pr_plan_171
        refine ⟨fun z => absurd oI_n z, fun _ => ⟨hkd, ?_⟩⟩
        rintro _ rfl
        rw [f2, hprs.1, h5, nj_s]
        have hid := prI_idle hp (n := q) (by omega) (fun i' x' hx' => by
          rcases h6 i' x' hx' with z | z | z
          · exact .inl z
          · rcases sNx_none hn hx' with y | y
            · exact .inl y
            · exact absurd z (Int32.not_le.mpr y)
          · exact .inr (by rw [← h5]; exact z)) (q - d) (by omega) (by omega)
        rw [show d + (q - d) = q by omega, hprs.1] at hid
        refine h24 _ lf en q P g' hid hx hfx (by omega) (by omega) ?_
        have hle : nI d ≤ nI q := (nj_le (by omega) (by omega)).mpr (by omega)
        have := prR_lt (s := s) (lf := lf) (lf' := lf) (fun _ z => z) hle hxi h2 h3 (by rw [← h4, h5]; exact Int32.le_refl _) (s_wav s).length hi
        have hB2 := prB_le (s := s) (lf := lf) (d := nI q) (r := nI P)
        unfold prM
        omega
      · have hall := hvN u
        have hdn : prD s (prI s k) := by
          rw [hp]
          intro i hi
          obtain ⟨x, hxi⟩ := get_lt hi
          rcases hall i x hxi with z | z
          · exact z
          · rcases sNx_none hn hxi with y | y
            · exact y
            · exact absurd z (Int32.not_le.mpr y)
        refine hK g' hfx (fun w hww => ?_)
        rw [prE_eq hdn, hp, (hx w hww).2.1 ?_]
        have := hdn w hww
        rw [hp] at this; exact this
    | some px =>
      obtain ⟨w, x⟩ := px
      obtain ⟨hs1, hs2⟩ := sNx_some hn
      have hxw := sNx_get hn
      have hwn := (List.getElem?_eq_some_iff.mp hxw).1
      obtain ⟨y1, y2, a, ha, hla⟩ := hx w hwn
      have hb : inB (nI w) 12 := inB_nI (by omega) (by omega)
      have ha1 : 1 ≤ a := by
        rw [hla] at hs1
        refine Classical.byContradiction (fun q => hs1 ?_)
        exact (nj_le (b := 0) (by omega) (by omega)).mpr (by omega)
      rw [oI_s]
      refine ⟨fun _ => ?_, fun u => absurd u (nI_nm1 (by omega))⟩
      have hps : prI s (k + 1) = prS s (lf, nI d, nI r, en) := by show prS s (prI s k) = _; rw [hp]
      unfold prS at hps
      simp only [hn, hla] at hps
      have hCw := fun (f' : Nat → Int32) (ho : ∀ i, i ≠ w → f' i = lf i) => prC_up (f := lf) (f' := f') (w := w) ho (n := (s_wav s).length) hwn
      have hTw := fun (f' : Nat → Int32) (ho : ∀ i, i ≠ w → f' i = lf i) => prT_up (f := lf) (f' := f') (w := w) ho (n := (s_wav s).length) hwn
      rw [hla, nj_cl (by omega)] at hTw
      rw [if_neg hs1] at hCw
      unfold B_Pr_plan_58 B_Pr_plan_171
      refine ⟨fun _ => ⟨hkd, a4, d1, d2, by rw [d5]; exact hb, ?_⟩, fun u => absurd u (nI_nm1 (by omega))⟩
      rw [d3, d4, nj_cl (show w < 2147483648 by omega), y1, hla]
      refine ⟨fun hlt => ?_, fun hge => ?_⟩
      · have hra : r < a := (nj_lt (by omega) (by omega)).mp hlt
        rw [if_neg (by rw [nj_le (by omega) (by omega)]; omega), nj_sub (by omega), nj_s, hprs.1] at hps
        obtain ⟨b, hbe⟩ : ∃ b, b = a - r := ⟨_, rfl⟩
        rw [← hbe] at hps
        have hW0 : (nI b - 1) / nI P = nI ((b - 1) / P) := by
          rw [show nI b - 1 = nI (b - 1) from nj_sub (b := 1) (by omega), nj_div (by omega) (by omega)]
        have hdm := Nat.div_mul_le_self (b - 1) P
        have hdl := Nat.div_le_self (b - 1) P
        have hdw : b - 1 < (b - 1) / P * P + P := by
          have h1 := Nat.div_add_mod (b - 1) P
          have h2 := Nat.mod_lt (b - 1) (show 0 < P by omega)
          rw [Nat.mul_comm] at h1
          omega
        obtain ⟨W, hWv, hWP, hWl, hnn, halt⟩ : ∃ W : Nat, (if v = -1 then (nI b - 1) / nI P else if v - nI d - 1 < (nI b - 1) / nI P then v - nI d - 1 else (nI b - 1) / nI P) = nI W ∧ W * P < b ∧ W ≤ 5000 ∧ (∀ i y, (s_wav s)[i]? = some y → lf i ≤ 0 ∨ y.2.1 ≤ nI d ∨ nI (d + W) < y.2.1) ∧ ((∃ i x, i < (s_wav s).length ∧ (s_wav s)[i]? = some x ∧ ¬ lf i ≤ 0 ∧ ¬ x.2.1 ≤ nI d ∧ x.2.1 ≤ nI (d + 1 + W)) ∨ (b ≤ W * P + P ∧ ∀ i y, (s_wav s)[i]? = some y → lf i ≤ 0 ∨ y.2.1 ≤ nI d ∨ nI (d + 1 + W) < y.2.1)) := by
          by_cases hv1 : v = -1
          · have h0 := hvN hv1
            refine ⟨(b - 1) / P, by rw [if_pos hv1, hW0], by omega, by omega, fun i y hy => ?_, .inr ⟨by omega, fun i y hy => ?_⟩⟩
            · rcases h0 i y hy with z | z
              · exact .inl z
              · exact .inr (.inl z)
            · rcases h0 i y hy with z | z
              · exact .inl z
              · exact .inr (.inl z)
          · obtain ⟨i, x, q, hi, hxi, h2, h3, h4, h5, hq, hdq, h6⟩ := hvS hv1
            have hvd : v - nI d - 1 = nI (q - d - 1) := by
              rw [h5, nj_sub (by omega)]; exact nj_sub (b := 1) (by omega)
            have hmul : ∀ W, W ≤ (b - 1) / P → W * P < b := fun W hW => by
              have := Nat.mul_le_mul_right P hW
              omega
            have hnn : ∀ W, d + W < q → ∀ i y, (s_wav s)[i]? = some y → lf i ≤ 0 ∨ y.2.1 ≤ nI d ∨ nI (d + W) < y.2.1 := fun W hW i y hy => by
              rcases h6 i y hy with z | z | z
              · exact .inl z
              · exact .inr (.inl z)
              · refine .inr (.inr (Int32.lt_of_lt_of_le ?_ z))
                rw [h5]; exact (nj_lt (by omega) (by omega)).mpr hW
            have hq1 : ∀ W, d + 1 + W = q → ∃ i x, i < (s_wav s).length ∧ (s_wav s)[i]? = some x ∧ ¬ lf i ≤ 0 ∧ ¬ x.2.1 ≤ nI d ∧ x.2.1 ≤ nI (d + 1 + W) := fun W hW => ⟨i, x, hi, hxi, h2, h3, by rw [← h4, h5, hW]; exact Int32.le_refl _⟩
            by_cases hlt2 : q - d - 1 < (b - 1) / P
            · refine ⟨q - d - 1, ?_, hmul _ (by omega), by omega, hnn _ (by omega), .inl (hq1 _ (by omega))⟩
              rw [if_neg hv1, hW0, hvd, if_pos ((nj_lt (by omega) (by omega)).mpr hlt2)]
            · refine ⟨(b - 1) / P, ?_, hmul _ (Nat.le_refl _), by omega, hnn _ (by omega), ?_⟩
              · rw [if_neg hv1, hW0, hvd, if_neg (fun z => hlt2 ((nj_lt (by omega) (by omega)).mp z))]
              · by_cases he : d + 1 + (b - 1) / P = q
                · exact .inl (hq1 _ he)
                · refine .inr ⟨by omega, fun i y hy => ?_⟩
                  have := hnn ((b - 1) / P + 1) (by omega) i y hy
                  rw [show d + ((b - 1) / P + 1) = d + 1 + (b - 1) / P by omega] at this
                  exact this
        have hWW : W ≤ W * P := Nat.le_mul_of_pos_right W (by omega)
        have hpw := prI_whole hprs.1 hn hps (fun i hi => if_neg hi) (if_pos rfl) (by omega) W hWP (by omega) (by omega) hnn W (Nat.le_refl _)
        have hfn : (fun i => if i = w then nI (b - W * P) else (if i = w then nI b else lf i)) = (fun i => if i = w then nI (b - W * P) else lf i) := by
          funext i; split <;> rfl
        rw [hfn] at hpw
        refine ⟨hkd, a4, d1, d2, by rw [d5]; exact hb, d2, by rw [d5]; exact hb, ?_⟩
        rw [d3, d4, y1, hla, nj_sub (by omega), ← hbe]
        rintro _ rfl
        refine ⟨hkd, a4, d1, d2, by show inB (nI w) (Ln g' a4); rw [d5]; exact hb, hkd, hkd, ?_, ?_⟩
        · rw [Gi_sA, f2]; exact hw.prs.1
        have eI : Ia (sA g' 771 th w (nI b)) 771 th w = nI b := by rw [Ia_sA]; simp
        rw [Co_sA, Ow_sA, d3, d4, Gi_sA, f2, hprs.1, eI, hWv]
        refine ⟨hkd, a4, d1, d2, by show inB (nI w) (Ln g' a4); rw [d5]; exact hb, hkd, d2, by show inB (nI w) (Ln g' a4); rw [d5]; exact hb, ?_⟩
        rw [Co_sA, Ow_sA, d3, d4, Gi_sA, f2, hprs.1, eI, nj_mul, nj_sub (by omega)]
        rintro _ rfl
        rintro _ rfl
        refine ⟨hkd, ?_⟩
        rintro _ rfl
        have hf8 : FrX th [] [771, 772] g (sA (sA g' 771 th w (nI b)) 771 th w (nI (b - W * P))) := hfx.tr ((FrX.sA (by decide)).tr (FrX.sA (by decide)))
        have hl8 : ∀ i, Ia (sA (sA g' 771 th w (nI b)) 771 th w (nI (b - W * P))) 771 th i = if i = w then nI (b - W * P) else Ia g' 771 th i := fun i => by
          rw [Ia_sA, Ia_sA]; simp only [true_and]; split
          · rfl
          · rfl
        have he8 : ∀ i, Ia (sA (sA g' 771 th w (nI b)) 771 th w (nI (b - W * P))) 772 th i = Ia g' 772 th i := fun i => by
          rw [Ia_sA, if_neg (fun q => absurd q.1 (by decide)), Ia_sA, if_neg (fun q => absurd q.1 (by decide))]
        have hpos' : ¬ nI (b - W * P) ≤ 0 := fun z => by
          have := (nj_le (b := 0) (show b - W * P < 2147483648 by omega) (by omega)).mp z
          omega
        have hX8 : PY th (sA (sA g' 771 th w (nI b)) 771 th w (nI (b - W * P))) s (fun i => if i = w then nI (b - W * P) else lf i) en := fun i hi => by
          obtain ⟨y1, y2, y3⟩ := hx i hi
          rw [hl8 i, he8 i]
          by_cases u : i = w
          · simp only [if_pos u]; exact ⟨trivial, fun z => absurd z hpos', b - W * P, by omega, rfl⟩
          · simp only [if_neg u]; exact ⟨y1, y2, y3⟩
        have hTc := hTw (fun i => if i = w then nI (b - W * P) else lf i) (fun i hi => if_neg hi)
        have hCc := hCw (fun i => if i = w then nI (b - W * P) else lf i) (fun i hi => if_neg hi)
        simp only [if_true] at hTc hCc
        rw [if_neg hpos'] at hCc
        rw [nj_cl (by omega)] at hTc
        rw [nj_s, nI_add9, nj_s, Gi_sA, Gi_sA, f2, hprs.1, show d + (W + 1) = d + 1 + W by omega]
        refine h24 (k + 1 + W) _ en (d + 1 + W) P _ hpw hX8 hf8 (by omega) (by omega) ?_
        have hB1 : prB s lf (nI d) (nI r) = 1 := by
          unfold prB
          rw [hn]
          simp only [hla]
          rw [if_neg (by rw [nj_le (by omega) (by omega)]; omega)]
        have hz : ∀ i, lf i ≤ 0 → (fun i => if i = w then nI (b - W * P) else lf i) i ≤ 0 := fun i z => by
          by_cases u : i = w
          · rw [u] at z; exact absurd z hs1
          · simp only [if_neg u]; exact z
        have hle : nI d ≤ nI (d + 1 + W) := (nj_le (by omega) (by omega)).mpr (by omega)
        have hB2 := prB_le (s := s) (lf := fun i => if i = w then nI (b - W * P) else lf i) (d := nI (d + 1 + W)) (r := nI P)
        have hR2 := prR_le (s := s) (lf := lf) (lf' := fun i => if i = w then nI (b - W * P) else lf i) hz hle (s_wav s).length
        rcases halt with ⟨i, x', hi, hxi, h2, h3, h4⟩ | ⟨hbW, hall⟩
        · have hR3 := prR_lt (s := s) (lf := lf) (lf' := fun i => if i = w then nI (b - W * P) else lf i) hz hle hxi h2 h3 h4 (s_wav s).length hi
          unfold prM
          omega
        · have hB3 : prB s (fun i => if i = w then nI (b - W * P) else lf i) (nI (d + 1 + W)) (nI P) = 0 := by
            have e : sNx s (fun i => if i = w then nI (b - W * P) else lf i) (nI (d + 1 + W)) = some (w, x) := by
              rw [← hn]
              refine (sNx_st (fun i y hy => ⟨⟨hz i, fun z => ?_⟩, fun u => ?_⟩)).symm
              · by_cases u : i = w
                · simp only [if_pos u] at z; exact absurd z hpos'
                · simp only [if_neg u] at z; exact z
              · rcases hall i y hy with z | z | z
                · exact absurd z u
                · exact ⟨fun q => (Int32.lt_irrefl (Int32.lt_of_lt_of_le q z)).elim, fun q => (Int32.lt_irrefl (Int32.lt_of_lt_of_le q (Int32.le_trans z hle))).elim⟩
                · exact ⟨fun _ => z, fun _ => Int32.lt_of_le_of_lt hle z⟩
            unfold prB
            rw [e]
            simp only [if_true]
            rw [if_pos ((nj_le (by omega) (by omega)).mpr (by omega))]
          unfold prM
          omega
      · have har : a ≤ r := Nat.le_of_not_lt (fun z => hge ((nj_lt (by omega) (by omega)).mpr z))
        rw [if_pos ((nj_le (by omega) (by omega)).mpr har)] at hps
        refine ⟨hkd, a4, d1, d2, by rw [d5]; exact hb, ?_⟩
        rw [d3, d4, y1, hla]
        rintro _ rfl
        refine ⟨hkd, a4, d1, d2, by rw [d5]; exact hb, ?_⟩
        rw [d3, d4]
        rintro _ rfl
        refine ⟨hkd, a5, e1, e2, by show inB (nI w) (Ln g' a5); rw [e5]; exact hb, ?_⟩
        rw [Co_sA, Ow_sA, e3, e4]
        rintro _ rfl
        have hf8 : FrX th [] [771, 772] g (sA (sA g' 771 th w 0) 772 th w (nI d)) := hfx.tr ((FrX.sA (by decide)).tr (FrX.sA (by decide)))
        have hl8 : ∀ i, Ia (sA (sA g' 771 th w 0) 772 th w (nI d)) 771 th i = if i = w then 0 else Ia g' 771 th i := fun i => by
          rw [Ia_sA, if_neg (fun q => absurd q.1 (by decide)), Ia_sA]; simp
        have he8 : ∀ i, Ia (sA (sA g' 771 th w 0) 772 th w (nI d)) 772 th i = if i = w then nI d else Ia g' 772 th i := fun i => by
          rw [Ia_sA, Ia_sA, if_neg (c := 772 = 771 ∧ th = th ∧ i = w) (fun q => absurd q.1 (by decide))]; simp
        have hX8 : PY th (sA (sA g' 771 th w 0) 772 th w (nI d)) s (fun i => if i = w then 0 else lf i) (fun i => if i = w then nI d else en i) := fun i hi => by
          obtain ⟨y1, y2, y3⟩ := hx i hi
          rw [hl8 i, he8 i]
          by_cases u : i = w
          · simp only [if_pos u]; exact ⟨trivial, fun _ => trivial, 0, by omega, rfl⟩
          · simp only [if_neg u]; exact ⟨y1, y2, y3⟩
        rw [nj_sub har, nj_s]
        rw [nj_sub har] at hps
        have hTc := hTw (fun i => if i = w then 0 else lf i) (fun i hi => if_neg hi)
        have hCc := hCw (fun i => if i = w then 0 else lf i) (fun i hi => if_neg hi)
        simp only [if_true] at hTc hCc
        rw [if_pos (by decide)] at hCc
        rw [show (0 : Int32).toNatClampNeg = 0 by decide] at hTc
        refine h24 (k + 1) _ _ d (r - a) _ hps hX8 hf8 (by omega) (by omega) ?_
        have hR2 := prR_le (s := s) (lf := lf) (lf' := fun i => if i = w then 0 else lf i) (d := nI d) (d' := nI d) (fun i z => by
          by_cases u : i = w
          · simp only [if_pos u]; decide
          · simp only [if_neg u]; exact z) (Int32.le_refl _) (s_wav s).length
        have hB2 := prB_le (s := s) (lf := fun i => if i = w then 0 else lf i) (d := nI d) (r := nI (r - a))
        unfold prM
        omega
  · unfold B_Pr_plan_0
    obtain ⟨⟨hkd, a1, a2, a3, a4, a5, ⟨b1, b2, b3, b4, b5⟩, _, _, ⟨d1, d2, d3, d4, d5⟩, _⟩, f1, f2, f3⟩ := id hI
    refine ⟨hkd, a1, b1, hkd, a4, d1, b2, d2, by decide, by decide, by decide, by rw [b5]; decide, by rw [d5]; decide, by rw [d5]; decide, ?_⟩
    rw [b3, b4, d3, d4]
    rintro _ rfl
    refine ⟨hkd, ?_⟩
    rintro _ rfl
    have hfx : FrX th [] [771, 772] g (sAf g 771 th (va_cpy (Ia g 768 th) (Ia g 771 th) (0 : Int32).toNatClampNeg (0 : Int32).toNatClampNeg (12 : Int32).toNatClampNeg)) := FrX.sAf' (by decide)
    rw [Gi_sAf, f2, hprs.1]
    have hlf : ∀ i, i < (s_wav s).length → Ia (sAf g 771 th (va_cpy (Ia g 768 th) (Ia g 771 th) (0 : Int32).toNatClampNeg (0 : Int32).toNatClampNeg (12 : Int32).toNatClampNeg)) 771 th i = (pr0 s).1 i := fun i hi => by
      obtain ⟨x, hxi⟩ := get_lt hi
      rw [Ia_sAf, if_pos ⟨rfl, rfl⟩]
      unfold va_cpy
      rw [show (0 : Int32).toNatClampNeg = 0 by decide, show (12 : Int32).toNatClampNeg = 12 by decide, if_pos ⟨Nat.zero_le _, by omega⟩]
      show Ia g 768 th (0 + (i - 0)) = ((s_wav s)[i]?.getD default).1
      rw [hxi, Nat.zero_add, Nat.sub_zero]
      exact (f3 i x hxi).1
    have hX : PY th (sAf g 771 th (va_cpy (Ia g 768 th) (Ia g 771 th) (0 : Int32).toNatClampNeg (0 : Int32).toNatClampNeg (12 : Int32).toNatClampNeg)) s (pr0 s).1 (fun _ => 0) := fun i hi => by
      obtain ⟨x, hxi⟩ := get_lt hi
      obtain ⟨h1, h2⟩ := (hw.wav x (List.mem_of_getElem? hxi)).1
      have hn := nj_of (show 0 ≤ x.1 by grind)
      rw [hn.1] at h1 h2
      have ea : (pr0 s).1 i = nI x.1.toNatClampNeg := by
        show ((s_wav s)[i]?.getD default).1 = _
        rw [hxi]; exact hn.1
      refine ⟨hlf i hi, fun z => ?_, x.1.toNatClampNeg, (nj_le (b := 5000) hn.2 (by omega)).mp h2, ea⟩
      rw [ea] at z
      have h3 := (nj_le (a := 1) (by omega) hn.2).mp h1
      have h4 := (nj_le (b := 0) hn.2 (by omega)).mp z
      omega
    have hT := hX.T
    refine ⟨_, rfl, 0, (pr0 s).1, fun _ => 0, 0, P, 0, ?_, hX, hfx, nj_0, rfl, nj_0, by omega, by omega, ?_, rfl⟩
    · show pr0 s = _
      unfold pr0
      rw [hprs.1]; rfl
    · have h1 := prC_le (f := (pr0 s).1) (n := (s_wav s).length)
      have h2 := prR_n (s := s) (lf := (pr0 s).1) (d := nI 0) (s_wav s).length
      have h3 := prB_le (s := s) (lf := (pr0 s).1) (d := nI 0) (r := nI P)
      unfold prM
      omega
