/-! the class: its post settles an envelope -/
def ENV (s : ST) (e : Nat) (q : Int32) (x : Nat) (g : GH) : Prop := (∀ k, 1 ≤ k → k ≤ 8 → (Ia g 135 x k, Ia g 136 x k) = prj (sEv s (nI e) (nI k) q)) ∧ Ia g 136 x 9 = sSign s (nI e) q ∧ ∀ h, h < 6 → Ia g 136 x (10 + h) = sWord s (nI e) (nI h) q
def ECM (s : ST) (e : Nat) (q : Int32) (x : Nat) (g : GH) : Prop := Gi g 137 x = (sCome s (nI e) q).1 ∧ Gi g 138 x = (sCome s (nI e) q).2
def sCb (s : ST) (e q : Int32) : Int32 × Int32 := match sEmp s e q with
  | none => (sDay s e 2 q, -1)
  | some p => if sDay s e 2 q = -1 ∨ p.2.2.1 < sDay s e 2 q then (p.2.2.1, nI p.1) else (sDay s e 2 q, -1)
theorem i32_m1 {x : Int32} (h : 0 ≤ x) : x ≠ -1 := fun e => by rw [e] at h; exact absurd h (by decide)
theorem sCb_b {s : ST} (hW : WF s) (e q : Int32) (h : (sCb s e q).1 = -1) : sCb s e q = (-1, -1) := by
  unfold sCb at h ⊢
  cases hp : sEmp s e q with
  | none => rw [hp] at h; simp only at h ⊢; rw [h]
  | some p =>
    rw [hp] at h
    simp only at h ⊢
    have hd : 0 ≤ p.2.2.1 := (hW.emp _ (List.mem_of_getElem? (sEmp_get (j := p.1) (x := p.2) hp))).2.1.1
    split at h
    · exact absurd h (i32_m1 hd)
    · rename_i z
      exact absurd (.inl h) z
theorem sCome_c {s : ST} (hW : WF s) (e q : Int32) : sCome s e q = if sDay s e 4 q ≠ -1 ∧ sDay s e 5 q < sDay s e 4 q then (-1, -1) else if sDay s e 4 q ≠ -1 ∧ (sCb s e q).1 ≠ -1 then (if (sCb s e q).1 < sDay s e 5 q then sDay s e 5 q else (sCb s e q).1, (sCb s e q).2) else sCb s e q := by
  have e0 : sCome s e q = if sDay s e 4 q = -1 ∨ (sCb s e q).1 = -1 then sCb s e q else if sDay s e 5 q = -1 ∨ sDay s e 5 q < sDay s e 4 q then (-1, -1) else (if (sCb s e q).1 < sDay s e 5 q then sDay s e 5 q else (sCb s e q).1, (sCb s e q).2) := rfl
  rw [e0]
  have hb := sCb_b hW e q
  by_cases h4 : sDay s e 4 q = -1
  · rw [if_pos (.inl h4), if_neg (fun z => z.1 h4), if_neg (fun z => z.1 h4)]
  · by_cases hc : (sCb s e q).1 = -1
    · rw [if_pos (.inr hc), if_neg (c := _ ∧ (sCb s e q).1 ≠ -1) (fun z => z.2 hc)]
      rw [hb hc]; split <;> rfl
    · rw [if_neg (fun z => z.elim h4 hc)]
      by_cases h5 : sDay s e 5 q < sDay s e 4 q
      · rw [if_pos (.inr h5), if_pos ⟨h4, h5⟩]
      · have h4' : 0 ≤ sDay s e 4 q := ((sDay_b hW e 4 q).resolve_left h4).1
        have hm1 : (-1 : Int32) < 0 := by decide
        rw [if_neg (c := sDay s e 5 q = -1 ∨ _) (fun z => z.elim (fun w => h5 (by rw [w]; exact Int32.lt_of_lt_of_le hm1 h4')) h5), if_neg (c := sDay s e 4 q ≠ -1 ∧ sDay s e 5 q < _) (fun z => h5 z.2), if_pos (c := sDay s e 4 q ≠ -1 ∧ _) ⟨h4, hc⟩]
def Sp_Po_settle (Γ : GAM) (m x : Nat) (q : Int32) (g : GH) (K : GH → Prop) : Prop := ∃ D s e, d_p D = m ∧ PoI Γ D g s ∧ WF s ∧ (d_es D)[e]? = some x ∧ ∀ g', FrX x [137, 138, 139, 140, 141, 142] [135, 136] g g' → ENV s e q x g' → ECM s e q x g' → (Gi g' 139 x = 0 ∧ Gi g' 140 x = -1 ∧ Gi g' 141 x = -1 ∧ Gi g' 142 x = -1) → K g'
-- the walk of Po_settle
set_option maxRecDepth 100000 in
def B_Po_settle_163 (Γ : GAM) (K : GH → Prop)  (g : GH) : Prop :=
  K g
set_option maxHeartbeats 4000000 in
set_option maxRecDepth 100000 in
theorem S_Po_settle_163 {Γ : GAM} {E : EV} {K : GH → Prop} (hE : GE Γ E cX4_settle 6 RX4 none 4 91 (fun r g' => r = none ∧ K g'))  (g : GH) (h : B_Po_settle_163 Γ K  g) : JW Γ E 163 [none, none, none, none, none, none] [] g := by
  unfold B_Po_settle_163 at h
  exact j_vret hE (by decide +kernel : decode cX4_settle 163 = .ok (.return_, 1)) ⟨rfl, h⟩
set_option maxRecDepth 100000 in
def B_Po_settle_136 (Γ : GAM) (K : GH → Prop) (l1 : Nat) (l4 : Int32) (l5 : Int32) (g : GH) : Prop :=
  ((l4 = (-1 : Int32) → B_Po_settle_163 Γ K g) ∧ (¬ (l4 = (-1 : Int32)) → Kd g l1 = 2 ∧ (((Gi g 137 l1) = (-1 : Int32) → B_Po_settle_163 Γ K g) ∧ (¬ ((Gi g 137 l1) = (-1 : Int32)) → Kd g l1 = 2 ∧ Kd g l1 = 2 ∧ ∀ g1 : GH, g1 = sI g 137 l1 (if (Gi g 137 l1) < l5 then l5 else (Gi g 137 l1)) → B_Po_settle_163 Γ K g1))))
set_option maxHeartbeats 4000000 in
set_option maxRecDepth 100000 in
theorem S_Po_settle_136 {Γ : GAM} {E : EV} {K : GH → Prop} (hE : GE Γ E cX4_settle 6 RX4 none 4 91 (fun r g' => r = none ∧ K g')) (l1 : Nat) (l4 : Int32) (l5 : Int32) (g : GH) (h : B_Po_settle_136 Γ K l1 l4 l5 g) : JW Γ E 136 [none, some (.ref l1), none, none, some (.int l4), some (.int l5)] [] g := by
  unfold B_Po_settle_136 at h
  refine j_iload hE (by decide +kernel : decode cX4_settle 136 = .ok (.iload 4, 2)) rfl ?_
  refine j_iconst hE (by decide +kernel : decode cX4_settle 138 = .ok (.iconst (-1), 1)) (v := (-1 : Int32)) (by decide) ?_
  refine j_icmp_eq hE (by decide +kernel : decode cX4_settle 139 = .ok (.if_icmp .eq 24, 3)) (tgt := 163) (by decide) (fun q => ?_) (fun q => ?_)
  · replace h := h.1 q
    refine j_weak [none, none, none, none, none, none] trivial ?_
    exact S_Po_settle_163 hE _ h
  · replace h := h.2 q
    refine j_aload_n hE (by decide +kernel : decode cX4_settle 142 = .ok (.aload_n 1, 1)) rfl rfl ?_
    obtain ⟨hk, h⟩ := h
    refine j_getI hE fg_X4_58 hk (by decide +kernel : decode cX4_settle 143 = .ok (.getfield 58, 3)) ?_
    refine j_iconst hE (by decide +kernel : decode cX4_settle 146 = .ok (.iconst (-1), 1)) (v := (-1 : Int32)) (by decide) ?_
    refine j_icmp_eq hE (by decide +kernel : decode cX4_settle 147 = .ok (.if_icmp .eq 16, 3)) (tgt := 163) (by decide) (fun q => ?_) (fun q => ?_)
    · replace h := h.1 q
      refine j_weak [none, none, none, none, none, none] trivial ?_
      exact S_Po_settle_163 hE _ h
    · replace h := h.2 q
      refine j_aload_n hE (by decide +kernel : decode cX4_settle 150 = .ok (.aload_n 1, 1)) rfl rfl ?_
      refine j_aload_n hE (by decide +kernel : decode cX4_settle 151 = .ok (.aload_n 1, 1)) rfl rfl ?_
      obtain ⟨hk, h⟩ := h
      refine j_getI hE fg_X4_58 hk (by decide +kernel : decode cX4_settle 152 = .ok (.getfield 58, 3)) ?_
      refine j_iload hE (by decide +kernel : decode cX4_settle 155 = .ok (.iload 5, 2)) rfl ?_
      refine j_mmax hE rfl ml_X4_77 st_J9_max_7cf53 in_Math co_J9_max_7cf53 (Nat.le_of_ble_eq_true rfl) (by omega) (by omega) (by decide +kernel : decode cX4_settle 157 = .ok (.invokestatic 77, 3)) ?_
      obtain ⟨hk, h⟩ := h
      obtain ⟨g1, hg⟩ : ∃ z, z = sI g 137 l1 (if (Gi g 137 l1) < l5 then l5 else (Gi g 137 l1)) := ⟨_, rfl⟩; replace h := h g1 hg
      refine j_putI hE fa_X4_58 hk (fun q => by cases q) (by decide +kernel : decode cX4_settle 160 = .ok (.putfield 58, 3)) ?_
      rw [← hg]
      refine j_weak [none, none, none, none, none, none] trivial ?_
      exact S_Po_settle_163 hE _ h
set_option maxRecDepth 100000 in
def B_Po_settle_94 (Γ : GAM) (K : GH → Prop) (l1 : Nat) (g : GH) : Prop :=
  Kd g l1 = 2 ∧ ∃ a1 : Nat, Gr g 135 l1 = some a1 ∧ Kd g a1 = 20 ∧ inB (4 : Int32) (Ln g a1) ∧ ∀ x2 : Int32, x2 = (Ia g (Co g a1) (Ow g a1) (4 : Int32).toNatClampNeg) → Kd g l1 = 2 ∧ ∃ a3 : Nat, Gr g 135 l1 = some a3 ∧ Kd g a3 = 20 ∧ inB (5 : Int32) (Ln g a3) ∧ ∀ x4 : Int32, x4 = (Ia g (Co g a3) (Ow g a3) (5 : Int32).toNatClampNeg) → ((x2 = (-1 : Int32) → B_Po_settle_136 Γ K l1 x2 x4 g) ∧ (¬ (x2 = (-1 : Int32)) → ((x2 ≤ x4 → B_Po_settle_136 Γ K l1 x2 x4 g) ∧ (¬ (x2 ≤ x4) → Kd g l1 = 2 ∧ ∀ g5 : GH, g5 = sI g 137 l1 (-1 : Int32) → Kd g5 l1 = 2 ∧ ∀ g6 : GH, g6 = sI g5 138 l1 (-1 : Int32) → B_Po_settle_163 Γ K g6))))
set_option maxHeartbeats 4000000 in
set_option maxRecDepth 100000 in
theorem S_Po_settle_94 {Γ : GAM} {E : EV} {K : GH → Prop} (hE : GE Γ E cX4_settle 6 RX4 none 4 91 (fun r g' => r = none ∧ K g')) (l1 : Nat) (g : GH) (h : B_Po_settle_94 Γ K l1 g) : JW Γ E 94 [none, some (.ref l1), none, none, none, none] [] g := by
  unfold B_Po_settle_94 at h
  refine j_aload_n hE (by decide +kernel : decode cX4_settle 94 = .ok (.aload_n 1, 1)) rfl rfl ?_
  obtain ⟨hk, h⟩ := h
  obtain ⟨a1, ha, h⟩ := h
  refine j_getRn hE fg_X4_54 hk ha (by decide +kernel : decode cX4_settle 95 = .ok (.getfield 54, 3)) ?_
  refine j_iconst hE (by decide +kernel : decode cX4_settle 98 = .ok (.iconst 4, 1)) (v := (4 : Int32)) (by decide) ?_
  obtain ⟨hk, hb, h⟩ := h
  refine j_iald hE hk hb (by decide +kernel : decode cX4_settle 99 = .ok (.iaload, 1)) ?_
  obtain ⟨x2, hx⟩ : ∃ z, z = (Ia g (Co g a1) (Ow g a1) (4 : Int32).toNatClampNeg) := ⟨_, rfl⟩; replace h := h x2 hx; rw [← hx]
  refine j_istore hE (by decide +kernel : decode cX4_settle 100 = .ok (.istore 4, 2)) (Nat.le_of_ble_eq_true rfl) rfl ?_
  refine j_aload_n hE (by decide +kernel : decode cX4_settle 102 = .ok (.aload_n 1, 1)) rfl rfl ?_
  obtain ⟨hk, h⟩ := h
  obtain ⟨a3, ha, h⟩ := h
  refine j_getRn hE fg_X4_54 hk ha (by decide +kernel : decode cX4_settle 103 = .ok (.getfield 54, 3)) ?_
  refine j_iconst hE (by decide +kernel : decode cX4_settle 106 = .ok (.iconst 5, 1)) (v := (5 : Int32)) (by decide) ?_
  obtain ⟨hk, hb, h⟩ := h
  refine j_iald hE hk hb (by decide +kernel : decode cX4_settle 107 = .ok (.iaload, 1)) ?_
  obtain ⟨x4, hx⟩ : ∃ z, z = (Ia g (Co g a3) (Ow g a3) (5 : Int32).toNatClampNeg) := ⟨_, rfl⟩; replace h := h x4 hx; rw [← hx]
  refine j_istore hE (by decide +kernel : decode cX4_settle 108 = .ok (.istore 5, 2)) (Nat.le_of_ble_eq_true rfl) rfl ?_
  refine j_iload hE (by decide +kernel : decode cX4_settle 110 = .ok (.iload 4, 2)) rfl ?_
  refine j_iconst hE (by decide +kernel : decode cX4_settle 112 = .ok (.iconst (-1), 1)) (v := (-1 : Int32)) (by decide) ?_
  refine j_icmp_eq hE (by decide +kernel : decode cX4_settle 113 = .ok (.if_icmp .eq 23, 3)) (tgt := 136) (by decide) (fun q => ?_) (fun q => ?_)
  · replace h := h.1 q
    exact S_Po_settle_136 hE _ _ _ _ h
  · replace h := h.2 q
    refine j_iload hE (by decide +kernel : decode cX4_settle 116 = .ok (.iload 5, 2)) rfl ?_
    refine j_iload hE (by decide +kernel : decode cX4_settle 118 = .ok (.iload 4, 2)) rfl ?_
    refine j_icmp_ge hE (by decide +kernel : decode cX4_settle 120 = .ok (.if_icmp .ge 16, 3)) (tgt := 136) (by decide) (fun q => ?_) (fun q => ?_)
    · replace h := h.1 q
      exact S_Po_settle_136 hE _ _ _ _ h
    · replace h := h.2 q
      refine j_aload_n hE (by decide +kernel : decode cX4_settle 123 = .ok (.aload_n 1, 1)) rfl rfl ?_
      refine j_iconst hE (by decide +kernel : decode cX4_settle 124 = .ok (.iconst (-1), 1)) (v := (-1 : Int32)) (by decide) ?_
      obtain ⟨hk, h⟩ := h
      obtain ⟨g5, hg⟩ : ∃ z, z = sI g 137 l1 (-1 : Int32) := ⟨_, rfl⟩; replace h := h g5 hg
      refine j_putI hE fa_X4_58 hk (fun q => by cases q) (by decide +kernel : decode cX4_settle 125 = .ok (.putfield 58, 3)) ?_
      rw [← hg]
      refine j_aload_n hE (by decide +kernel : decode cX4_settle 128 = .ok (.aload_n 1, 1)) rfl rfl ?_
      refine j_iconst hE (by decide +kernel : decode cX4_settle 129 = .ok (.iconst (-1), 1)) (v := (-1 : Int32)) (by decide) ?_
      obtain ⟨hk, h⟩ := h
      obtain ⟨g6, hg⟩ : ∃ z, z = sI g5 138 l1 (-1 : Int32) := ⟨_, rfl⟩; replace h := h g6 hg
      refine j_putI hE fa_X4_74 hk (fun q => by cases q) (by decide +kernel : decode cX4_settle 130 = .ok (.putfield 74, 3)) ?_
      rw [← hg]
      refine j_goto hE (by decide +kernel : decode cX4_settle 133 = .ok (.goto 30, 3)) (tgt := 163) (by decide) ?_
      refine j_weak [none, none, none, none, none, none] trivial ?_
      exact S_Po_settle_163 hE _ h
set_option maxRecDepth 100000 in
def B_Po_settle_83 (Γ : GAM) (K : GH → Prop) (l1 : Nat) (l3 : Int32) (l4 : Int32) (g : GH) : Prop :=
  Kd g l1 = 2 ∧ ∀ g1 : GH, g1 = sI g 137 l1 l4 → Kd g1 l1 = 2 ∧ ∀ g2 : GH, g2 = sI g1 138 l1 l3 → B_Po_settle_94 Γ K l1 g2
set_option maxHeartbeats 4000000 in
set_option maxRecDepth 100000 in
theorem S_Po_settle_83 {Γ : GAM} {E : EV} {K : GH → Prop} (hE : GE Γ E cX4_settle 6 RX4 none 4 91 (fun r g' => r = none ∧ K g')) (l1 : Nat) (l3 : Int32) (l4 : Int32) (g : GH) (h : B_Po_settle_83 Γ K l1 l3 l4 g) : JW Γ E 83 [none, some (.ref l1), none, some (.int l3), some (.int l4), none] [] g := by
  unfold B_Po_settle_83 at h
  refine j_aload_n hE (by decide +kernel : decode cX4_settle 83 = .ok (.aload_n 1, 1)) rfl rfl ?_
  refine j_iload hE (by decide +kernel : decode cX4_settle 84 = .ok (.iload 4, 2)) rfl ?_
  obtain ⟨hk, h⟩ := h
  obtain ⟨g1, hg⟩ : ∃ z, z = sI g 137 l1 l4 := ⟨_, rfl⟩; replace h := h g1 hg
  refine j_putI hE fa_X4_58 hk (fun q => by cases q) (by decide +kernel : decode cX4_settle 86 = .ok (.putfield 58, 3)) ?_
  rw [← hg]
  refine j_aload_n hE (by decide +kernel : decode cX4_settle 89 = .ok (.aload_n 1, 1)) rfl rfl ?_
  refine j_iload_n hE (by decide +kernel : decode cX4_settle 90 = .ok (.iload_n 3, 1)) rfl rfl ?_
  obtain ⟨hk, h⟩ := h
  obtain ⟨g2, hg⟩ : ∃ z, z = sI g1 138 l1 l3 := ⟨_, rfl⟩; replace h := h g2 hg
  refine j_putI hE fa_X4_74 hk (fun q => by cases q) (by decide +kernel : decode cX4_settle 91 = .ok (.putfield 74, 3)) ?_
  rw [← hg]
  refine j_weak [none, some (.ref l1), none, none, none, none] ⟨rfl, trivial⟩ ?_
  exact S_Po_settle_94 hE _ _ h
set_option maxRecDepth 100000 in
def B_Po_settle_0 (Γ : GAM) (K : GH → Prop) (th : Nat) (p0 : Nat) (p1 : Int32) (g : GH) : Prop :=
  Kd g p0 = 2 ∧ Sp_En_learn Γ p0 p1 g (fun (g1 : GH) => Kd g1 p0 = 2 ∧ ∃ a2 : Nat, Gr g1 135 p0 = some a2 ∧ Kd g1 a2 = 20 ∧ inB (2 : Int32) (Ln g1 a2) ∧ Kd g1 p0 = 2 ∧ ∀ g3 : GH, g3 = sI g1 137 p0 (Ia g1 (Co g1 a2) (Ow g1 a2) (2 : Int32).toNatClampNeg) → Kd g3 p0 = 2 ∧ ∃ a4 : Nat, Gr g3 136 p0 = some a4 ∧ Kd g3 a4 = 20 ∧ inB (3 : Int32) (Ln g3 a4) ∧ Kd g3 p0 = 2 ∧ ∃ a5 : Nat, Gr g3 135 p0 = some a5 ∧ Kd g3 a5 = 20 ∧ inB (3 : Int32) (Ln g3 a5) ∧ Kd g3 th = 6 ∧ Sp_Po_firstEmptying Γ th (Ia g3 (Co g3 a4) (Ow g3 a4) (3 : Int32).toNatClampNeg) (Ia g3 (Co g3 a5) (Ow g3 a5) (3 : Int32).toNatClampNeg) p1 g3 (fun (x7 : Int32) (g6 : GH) => Kd g6 th = 6 ∧ ∃ a8 : Nat, Gr g6 642 th = some a8 ∧ Kd g6 a8 = 1 ∧ Sp_AL_size Γ a8 g6 (fun (x10 : Int32) (g9 : GH) => Sp_PV_isWithin Γ x7 (0 : Int32) (x10 - (1 : Int32)) g9 (fun (x12 : Int32) (g11 : GH) => ((x12 = 0 → B_Po_settle_94 Γ K p0 g11) ∧ (¬ (x12 = 0) → Kd g11 th = 6 ∧ ∃ a13 : Nat, Gr g11 642 th = some a13 ∧ Kd g11 a13 = 1 ∧ Sp_AL_get Γ a13 x7 g11 (fun (a15 : Nat) (g14 : GH) => Kd g14 a15 = 9 ∧ Kd g14 a15 = 9 ∧ ∀ x16 : Int32, x16 = (Gi g14 1025 a15) → Kd g14 p0 = 2 ∧ (((Gi g14 137 p0) = (-1 : Int32) → B_Po_settle_83 Γ K p0 x7 x16 g14) ∧ (¬ ((Gi g14 137 p0) = (-1 : Int32)) → Kd g14 p0 = 2 ∧ (((Gi g14 137 p0) ≤ x16 → B_Po_settle_94 Γ K p0 g14) ∧ (¬ ((Gi g14 137 p0) ≤ x16) → B_Po_settle_83 Γ K p0 x7 x16 g14)))))))))))
set_option maxHeartbeats 4000000 in
set_option maxRecDepth 100000 in
theorem S_Po_settle_0 {Γ : GAM} {E : EV} {K : GH → Prop} (hE : GE Γ E cX4_settle 6 RX4 none 4 91 (fun r g' => r = none ∧ K g')) (th : Nat) (p0 : Nat) (p1 : Int32) (g : GH) (h : B_Po_settle_0 Γ K th p0 p1 g) : JW Γ E 0 [some (.ref th), some (.ref p0), some (.int p1), none, none, none] [] g := by
  unfold B_Po_settle_0 at h
  refine j_aload_n hE (by decide +kernel : decode cX4_settle 0 = .ok (.aload_n 1, 1)) rfl rfl ?_
  refine j_iload_n hE (by decide +kernel : decode cX4_settle 1 = .ok (.iload_n 2, 1)) rfl rfl ?_
  obtain ⟨hk, h⟩ := h
  refine j_callV hE rfl cl_X4_50 cf_1 im_X0_learn se_X0_learn ⟨by omega, by omega⟩ (As := [.int p1]) (rest := []) rfl rfl (Nat.le_of_ble_eq_true rfl) hk (by decide +kernel : decode cX4_settle 2 = .ok (.invokevirtual 50, 3)) (mt_En_learn _ _ _ _ h) ?_
  rintro _ g1 ⟨rfl, h⟩
  refine j_aload_n hE (by decide +kernel : decode cX4_settle 5 = .ok (.aload_n 1, 1)) rfl rfl ?_
  refine j_aload_n hE (by decide +kernel : decode cX4_settle 6 = .ok (.aload_n 1, 1)) rfl rfl ?_
  obtain ⟨hk, h⟩ := h
  obtain ⟨a2, ha, h⟩ := h
  refine j_getRn hE fg_X4_54 hk ha (by decide +kernel : decode cX4_settle 7 = .ok (.getfield 54, 3)) ?_
  refine j_iconst hE (by decide +kernel : decode cX4_settle 10 = .ok (.iconst 2, 1)) (v := (2 : Int32)) (by decide) ?_
  obtain ⟨hk, hb, h⟩ := h
  refine j_iald hE hk hb (by decide +kernel : decode cX4_settle 11 = .ok (.iaload, 1)) ?_
  obtain ⟨hk, h⟩ := h
  obtain ⟨g3, hg⟩ : ∃ z, z = sI g1 137 p0 (Ia g1 (Co g1 a2) (Ow g1 a2) (2 : Int32).toNatClampNeg) := ⟨_, rfl⟩; replace h := h g3 hg
  refine j_putI hE fa_X4_58 hk (fun q => by cases q) (by decide +kernel : decode cX4_settle 12 = .ok (.putfield 58, 3)) ?_
  rw [← hg]
  refine j_aload_n hE (by decide +kernel : decode cX4_settle 15 = .ok (.aload_n 0, 1)) rfl rfl ?_
  refine j_aload_n hE (by decide +kernel : decode cX4_settle 16 = .ok (.aload_n 1, 1)) rfl rfl ?_
  obtain ⟨hk, h⟩ := h
  obtain ⟨a4, ha, h⟩ := h
  refine j_getRn hE fg_X4_62 hk ha (by decide +kernel : decode cX4_settle 17 = .ok (.getfield 62, 3)) ?_
  refine j_iconst hE (by decide +kernel : decode cX4_settle 20 = .ok (.iconst 3, 1)) (v := (3 : Int32)) (by decide) ?_
  obtain ⟨hk, hb, h⟩ := h
  refine j_iald hE hk hb (by decide +kernel : decode cX4_settle 21 = .ok (.iaload, 1)) ?_
  refine j_aload_n hE (by decide +kernel : decode cX4_settle 22 = .ok (.aload_n 1, 1)) rfl rfl ?_
  obtain ⟨hk, h⟩ := h
  obtain ⟨a5, ha, h⟩ := h
  refine j_getRn hE fg_X4_54 hk ha (by decide +kernel : decode cX4_settle 23 = .ok (.getfield 54, 3)) ?_
  refine j_iconst hE (by decide +kernel : decode cX4_settle 26 = .ok (.iconst 3, 1)) (v := (3 : Int32)) (by decide) ?_
  obtain ⟨hk, hb, h⟩ := h
  refine j_iald hE hk hb (by decide +kernel : decode cX4_settle 27 = .ok (.iaload, 1)) ?_
  refine j_iload_n hE (by decide +kernel : decode cX4_settle 28 = .ok (.iload_n 2, 1)) rfl rfl ?_
  obtain ⟨hk, h⟩ := h
  refine j_callV hE rfl cl_X4_65 cf_5 im_X4_firstEmptying se_X4_firstEmptying ⟨by omega, by omega⟩ (As := [.int (Ia g3 (Co g3 a4) (Ow g3 a4) (3 : Int32).toNatClampNeg), .int (Ia g3 (Co g3 a5) (Ow g3 a5) (3 : Int32).toNatClampNeg), .int p1]) (rest := []) rfl rfl (Nat.le_of_ble_eq_true rfl) hk (by decide +kernel : decode cX4_settle 29 = .ok (.invokevirtual 65, 3)) (mt_Po_firstEmptying _ _ _ _ _ _ h) ?_
  rintro _ g6 ⟨x7, rfl, h⟩
  refine j_istore_n hE (by decide +kernel : decode cX4_settle 32 = .ok (.istore_n 3, 1)) rfl (Nat.le_of_ble_eq_true rfl) rfl ?_
  refine j_iload_n hE (by decide +kernel : decode cX4_settle 33 = .ok (.iload_n 3, 1)) rfl rfl ?_
  refine j_iconst hE (by decide +kernel : decode cX4_settle 34 = .ok (.iconst 0, 1)) (v := (0 : Int32)) (by decide) ?_
  refine j_aload_n hE (by decide +kernel : decode cX4_settle 35 = .ok (.aload_n 0, 1)) rfl rfl ?_
  obtain ⟨hk, h⟩ := h
  obtain ⟨a8, ha, h⟩ := h
  refine j_getRn hE fg_X4_21 hk ha (by decide +kernel : decode cX4_settle 36 = .ok (.getfield 21, 3)) ?_
  obtain ⟨hk, h⟩ := h
  refine j_callV hE rfl cl_X4_34 cf_0 im_Jx4a65c_size_8abf5 se_Jx4a65c_size_8abf5 ⟨by omega, by omega⟩ (As := []) (rest := [.int (0 : Int32), .int x7]) rfl rfl (Nat.le_of_ble_eq_true rfl) hk (by decide +kernel : decode cX4_settle 39 = .ok (.invokevirtual 34, 3)) (mt_AL_size _ _ _ h) ?_
  rintro _ g9 ⟨x10, rfl, h⟩
  refine j_iconst hE (by decide +kernel : decode cX4_settle 42 = .ok (.iconst 1, 1)) (v := (1 : Int32)) (by decide) ?_
  refine j_isub hE (by decide +kernel : decode cX4_settle 43 = .ok (.isub, 1)) ?_
  refine j_callSN hE rfl cl_X4_38 st_X10_isWithin ⟨by omega, by omega⟩ (As := [.int x7, .int (0 : Int32), .int (x10 - (1 : Int32))]) (rest := []) rfl rfl (Nat.le_of_ble_eq_true rfl) (by decide +kernel : decode cX4_settle 44 = .ok (.invokestatic 38, 3)) (mt_PV_isWithin _ _ _ _ _ h) ?_
  rintro _ g11 ⟨x12, rfl, h⟩
  refine j_if_eq hE (by decide +kernel : decode cX4_settle 47 = .ok (.ifCond .eq 47, 3)) (tgt := 94) (by decide) (fun q => ?_) (fun q => ?_)
  · replace h := h.1 q
    refine j_weak [none, some (.ref p0), none, none, none, none] ⟨rfl, trivial⟩ ?_
    exact S_Po_settle_94 hE _ _ h
  · replace h := h.2 q
    refine j_aload_n hE (by decide +kernel : decode cX4_settle 50 = .ok (.aload_n 0, 1)) rfl rfl ?_
    obtain ⟨hk, h⟩ := h
    obtain ⟨a13, ha, h⟩ := h
    refine j_getRn hE fg_X4_21 hk ha (by decide +kernel : decode cX4_settle 51 = .ok (.getfield 21, 3)) ?_
    refine j_iload_n hE (by decide +kernel : decode cX4_settle 54 = .ok (.iload_n 3, 1)) rfl rfl ?_
    obtain ⟨hk, h⟩ := h
    refine j_callV hE rfl cl_X4_42 cf_0 im_Jx4a65c_get_915e3 se_Jx4a65c_get_915e3 ⟨by omega, by omega⟩ (As := [.int x7]) (rest := []) rfl rfl (Nat.le_of_ble_eq_true rfl) hk (by decide +kernel : decode cX4_settle 55 = .ok (.invokevirtual 42, 3)) (mt_AL_get _ _ _ _ h) ?_
    rintro _ g14 ⟨a15, rfl, h⟩
    obtain ⟨hk, h⟩ := h
    refine j_cast hE cf_8 ck_X4_69 hk (by decide +kernel : decode cX4_settle 58 = .ok (.checkcast 69, 3)) ?_
    obtain ⟨hk, h⟩ := h
    refine j_getI hE fg_X4_71 hk (by decide +kernel : decode cX4_settle 61 = .ok (.getfield 71, 3)) ?_
    obtain ⟨x16, hx⟩ : ∃ z, z = (Gi g14 1025 a15) := ⟨_, rfl⟩; replace h := h x16 hx; rw [← hx]
    refine j_istore hE (by decide +kernel : decode cX4_settle 64 = .ok (.istore 4, 2)) (Nat.le_of_ble_eq_true rfl) rfl ?_
    refine j_aload_n hE (by decide +kernel : decode cX4_settle 66 = .ok (.aload_n 1, 1)) rfl rfl ?_
    obtain ⟨hk, h⟩ := h
    refine j_getI hE fg_X4_58 hk (by decide +kernel : decode cX4_settle 67 = .ok (.getfield 58, 3)) ?_
    refine j_iconst hE (by decide +kernel : decode cX4_settle 70 = .ok (.iconst (-1), 1)) (v := (-1 : Int32)) (by decide) ?_
    refine j_icmp_eq hE (by decide +kernel : decode cX4_settle 71 = .ok (.if_icmp .eq 12, 3)) (tgt := 83) (by decide) (fun q => ?_) (fun q => ?_)
    · replace h := h.1 q
      refine j_weak [none, some (.ref p0), none, some (.int x7), some (.int x16), none] ⟨rfl, ⟨rfl, ⟨rfl, trivial⟩⟩⟩ ?_
      exact S_Po_settle_83 hE _ _ _ _ h
    · replace h := h.2 q
      refine j_iload hE (by decide +kernel : decode cX4_settle 74 = .ok (.iload 4, 2)) rfl ?_
      refine j_aload_n hE (by decide +kernel : decode cX4_settle 76 = .ok (.aload_n 1, 1)) rfl rfl ?_
      obtain ⟨hk, h⟩ := h
      refine j_getI hE fg_X4_58 hk (by decide +kernel : decode cX4_settle 77 = .ok (.getfield 58, 3)) ?_
      refine j_icmp_ge hE (by decide +kernel : decode cX4_settle 80 = .ok (.if_icmp .ge 14, 3)) (tgt := 94) (by decide) (fun q => ?_) (fun q => ?_)
      · replace h := h.1 q
        refine j_weak [none, some (.ref p0), none, none, none, none] ⟨rfl, trivial⟩ ?_
        exact S_Po_settle_94 hE _ _ h
      · replace h := h.2 q
        refine j_weak [none, some (.ref p0), none, some (.int x7), some (.int x16), none] ⟨rfl, ⟨rfl, ⟨rfl, trivial⟩⟩⟩ ?_
        exact S_Po_settle_83 hE _ _ _ _ h
set_option maxHeartbeats 4000000 in
set_option maxRecDepth 100000 in
theorem rl_Po_settle {Γ : GAM} {l : Launch} {th : Nat} {p0 : Nat} {p1 : Int32} {g : GH} {K : GH → Prop} (h0 : B_Po_settle_0 Γ K th p0 p1 g) : MetA Γ l yX4_settle cX4_settle 6 none 4 91 [.ref th, .ref p0, .int p1] g (fun r g' => r = none ∧ K g') := by
  refine MetA.introL (Lx := [some (.ref th), some (.ref p0), some (.int p1), none, none, none]) (by decide) (Nat.le_of_ble_eq_true rfl) rfl rfl ?_
  intro E hEl hE hnm
  exact S_Po_settle_0 hE th p0 p1 g h0
theorem mt_Po_settle {Γ : GAM} {l : Launch} (th : Nat) (p0 : Nat) (p1 : Int32) (g : GH) (K : GH → Prop) (h : Sp_Po_settle Γ th p0 p1 g K) : MetA Γ l yX4_settle cX4_settle 6 none 4 91 [.ref th, .ref p0, .int p1] g (fun r g' => r = none ∧ K g') := by
  obtain ⟨D, s, e, rfl, hP, hW, he, hK⟩ := h
  have hen := hP.1.1
  obtain ⟨y, w, L, y1, y2, hE, hEL, hLl⟩ := hP.2.2.2.2.1.2.2 e p0 he
  obtain ⟨⟨hx1, hx2⟩, ⟨hw1, hw2, hw3⟩, -, ⟨_, a, a1, a0, a2, a3, a4, a5⟩, ⟨_, b, b1, b0, b2, b3, b4, b5⟩, lo, ⟨l1, l2, l3⟩, hL⟩ := id hE
  refine rl_Po_settle ?_
  unfold B_Po_settle_0
  refine ⟨hx2, lo, L, hE.e2, l1, hL, fun g1 hx g1v g1z => ?_⟩
  have hdv : ∀ k, 1 ≤ k → k ≤ 8 → (Ia g1 135 p0 k, Ia g1 136 p0 k) = prj (sEv s (nI e) (nI k) p1) := fun k h1 h2 => by rw [g1v k (by omega)]; exact (hEL p1).1 k h1 h2
  have hENV : ENV s e p1 p0 g1 := ⟨hdv, by have := congrArg Prod.snd (g1v 9 (by decide)); exact this.trans (hEL p1).2.1, fun h hh => by have := congrArg Prod.snd (g1v (10 + h) (by omega)); exact this.trans ((hEL p1).2.2 h hh)⟩
  have hd : ∀ k : Nat, 1 ≤ k → k ≤ 8 → Ia g1 135 p0 k = sDay s (nI e) (nI k) p1 := fun k h1 h2 => by
    have := congrArg Prod.fst (hdv k h1 h2)
    rw [prj_d] at this; exact this
  obtain ⟨⟨m1, m2, m3, m4, m5, m6, m7, m8, m9, m10, m11, m12⟩, _, _⟩ := id hx
  have hk1 : Kd g1 p0 = 2 := by rw [m6]; exact hx2
  have a6 : inB 2 (Ln g1 a) ∧ inB 3 (Ln g1 a) ∧ inB 4 (Ln g1 a) ∧ inB 5 (Ln g1 a) := by rw [m9, a5]; exact ⟨⟨by decide, by decide⟩, ⟨by decide, by decide⟩, ⟨by decide, by decide⟩, ⟨by decide, by decide⟩⟩
  have b6 : inB 3 (Ln g1 b) := by rw [m9, b5]; exact ⟨by decide, by decide⟩
  have ga : Gr g1 135 p0 = some a := by rw [m2]; exact a1
  have gb : Gr g1 136 p0 = some b := by rw [m2]; exact b1
  have ka : Kd g1 a = 20 ∧ Co g1 a = 135 ∧ Ow g1 a = p0 := by rw [m6, m7, m8]; exact ⟨a2, a3, a4⟩
  have kb : Kd g1 b = 20 ∧ Co g1 b = 136 ∧ Ow g1 b = p0 := by rw [m6, m7, m8]; exact ⟨b2, b3, b4⟩
  have t2 : (2 : Int32).toNatClampNeg = 2 := by decide
  have t3 : (3 : Int32).toNatClampNeg = 3 := by decide
  have t4 : (4 : Int32).toNatClampNeg = 4 := by decide
  have t5 : (5 : Int32).toNatClampNeg = 5 := by decide
  -- the end: what is lost and found
  have h94 : ∀ c m g', g' = sI (sI g1 137 p0 c) 138 p0 m → (c, m) = sCb s (nI e) p1 → B_Po_settle_94 Γ K p0 g' := by
    intro c m g' hg' hcb
    unfold B_Po_settle_94 B_Po_settle_136 B_Po_settle_163
    have hsc := sCome_c hW (nI e) p1
    rw [← hcb] at hsc
    simp only at hsc
    have gi : ∀ f, f ≠ 137 → f ≠ 138 → Gi g' f p0 = Gi g1 f p0 := fun f h1 h2 => by rw [hg', Gi_sI, if_neg (fun z => h2 z.1), Gi_sI, if_neg (fun z => h1 z.1)]
    have gc : Gi g' 137 p0 = c := by rw [hg', Gi_sI, if_neg (fun z => absurd z.1 (by decide)), Gi_sI, if_pos ⟨rfl, rfl⟩]
    have gm : Gi g' 138 p0 = m := by rw [hg', Gi_sI, if_pos ⟨rfl, rfl⟩]
    have ia : Ia g' = Ia g1 := by rw [hg']; rfl
    have hfx : FrX p0 [137, 138, 139, 140, 141, 142] [135, 136] g g' := by rw [hg']; exact hx.tr ((FrX.sI (by decide)).tr (FrX.sI (by decide)))
    have e1 : Kd g' = Kd g1 ∧ Gr g' = Gr g1 ∧ Co g' = Co g1 ∧ Ow g' = Ow g1 ∧ Ln g' = Ln g1 := by rw [hg']; exact ⟨rfl, rfl, rfl, rfl, rfl⟩
    have hend : ∀ c2 m2 g2, (g2 = g' ∧ c2 = c ∧ m2 = m ∨ g2 = sI g' 137 p0 c2 ∧ m2 = m ∨ g2 = sI (sI g' 137 p0 c2) 138 p0 m2) → sCome s (nI e) p1 = (c2, m2) → K g2 := by
      intro c2 m2 g2 hg2 hc
      refine hK g2 ?_ ?_ ?_ ?_
      · rcases hg2 with ⟨z, _⟩ | ⟨z, _⟩ | z <;> rw [z]
        · exact hfx
        · exact hfx.tr (FrX.sI (by decide))
        · exact hfx.tr ((FrX.sI (by decide)).tr (FrX.sI (by decide)))
      · have : Ia g2 = Ia g1 := by rcases hg2 with ⟨z, _⟩ | ⟨z, _⟩ | z <;> rw [z] <;> exact ia
        unfold ENV
        rw [this]
        exact hENV
      · unfold ECM
        rw [hc]
        rcases hg2 with ⟨z, z2, z3⟩ | ⟨z, z2⟩ | z
        · rw [z, z2, z3]; exact ⟨gc, gm⟩
        · rw [z, z2, Gi_sI, if_pos ⟨rfl, rfl⟩, Gi_sI, if_neg (fun z => absurd z.1 (by decide))]; exact ⟨rfl, gm⟩
        · rw [z, Gi_sI, if_neg (fun z => absurd z.1 (by decide)), Gi_sI, if_pos ⟨rfl, rfl⟩, Gi_sI, if_pos ⟨rfl, rfl⟩]; exact ⟨rfl, rfl⟩
      · have : ∀ f, f ≠ 137 → f ≠ 138 → Gi g2 f p0 = Gi g1 f p0 := fun f h1 h2 => by
          rcases hg2 with ⟨z, _⟩ | ⟨z, _⟩ | z
          · rw [z]; exact gi f h1 h2
          · rw [z, Gi_sI, if_neg (fun z => h1 z.1)]; exact gi f h1 h2
          · rw [z, Gi_sI, if_neg (fun z => h2 z.1), Gi_sI, if_neg (fun z => h1 z.1)]; exact gi f h1 h2
        rw [this _ (by decide) (by decide), this _ (by decide) (by decide), this _ (by decide) (by decide), this _ (by decide) (by decide)]
        exact ⟨g1z.2.2.1, g1z.2.2.2.1, g1z.2.2.2.2.1, g1z.2.2.2.2.2⟩
    rw [e1.1, e1.2.1, e1.2.2.2.2, e1.2.2.1, e1.2.2.2.1, ia, t4, t5]
    refine ⟨hk1, a, ga, ka.1, a6.2.2.1, ?_⟩
    rw [ka.2.1, ka.2.2, hd 4 (by decide) (by decide)]
    rintro _ rfl
    refine ⟨hk1, a, ga, ka.1, a6.2.2.2, ?_⟩
    rw [ka.2.1, ka.2.2, hd 5 (by decide) (by decide)]
    rintro _ rfl
    have n4 : nI 4 = (4 : Int32) := rfl
    have n5 : nI 5 = (5 : Int32) := rfl
    rw [n4, n5, gc]
    have h136 : ¬ (sDay s (nI e) 4 p1 ≠ -1 ∧ sDay s (nI e) 5 p1 < sDay s (nI e) 4 p1) → B_Po_settle_136 Γ K p0 (sDay s (nI e) 4 p1) (sDay s (nI e) 5 p1) g' := fun hnl => by
      rw [if_neg hnl] at hsc
      unfold B_Po_settle_136 B_Po_settle_163
      rw [e1.1, gc]
      refine ⟨fun u => ?_, fun u => ⟨hk1, fun u2 => ?_, fun u2 => ⟨hk1, hk1, ?_⟩⟩⟩
      · rw [if_neg (fun z => z.1 u)] at hsc
        exact hend c m g' (.inl ⟨rfl, rfl, rfl⟩) hsc
      · rw [if_neg (fun z => z.2 u2)] at hsc
        exact hend c m g' (.inl ⟨rfl, rfl, rfl⟩) hsc
      · rintro _ rfl
        rw [if_pos ⟨u, u2⟩] at hsc
        exact hend _ m _ (.inr (.inl ⟨rfl, rfl⟩)) hsc
    have h136' := h136
    unfold B_Po_settle_136 B_Po_settle_163 at h136'
    rw [e1.1, gc] at h136'
    refine ⟨fun u => h136' (fun z => z.1 u), fun u => ⟨fun u2 => h136' (fun z => absurd z.2 (Int32.not_lt.mpr u2)), fun u2 => ⟨hk1, ?_⟩⟩⟩
    rintro _ rfl
    refine ⟨by rw [Kd_sI, e1.1]; exact hk1, ?_⟩
    rintro _ rfl
    rw [if_pos ⟨u, Int32.not_le.mp u2⟩] at hsc
    exact hend (-1) (-1) _ (.inr (.inr rfl)) hsc
  refine ⟨hk1, a, ga, ka.1, a6.1, hk1, ?_⟩
  have n2 : nI 2 = (2 : Int32) := rfl
  rw [ka.2.1, ka.2.2, t2, hd 2 (by decide) (by decide), n2]
  rintro _ rfl
  have g1e : Gi g1 138 p0 = -1 := g1z.2.1
  have hx3 : FrX p0 [137, 138, 139, 140, 141, 142] [135, 136] g (sI g1 137 p0 (sDay s (nI e) 2 p1)) := hx.tr (FrX.sI (by decide))
  have hP3 := hP.c (FC.x (D := D) hx3 hen (by decide) (by decide))
  refine ⟨hk1, b, gb, kb.1, b6, hk1, a, ga, ka.1, a6.2.1, ?_⟩
  obtain ⟨-, ⟨⟨_, p2'⟩, -, -, ⟨q1, _⟩, -, -, ⟨_, _, k1, _⟩, -⟩, -, -, -, -, hML, -⟩ := id hP3
  refine ⟨p2', D, s, rfl, hP3, hW, p2', _, q1, k1, hML.sz ?_⟩
  rw [Co_sI, Ow_sI, Ia_sI, ka.2.1, ka.2.2, kb.2.1, kb.2.2, t3]
  have h3 := hdv 3 (by decide) (by decide)
  have n3 : nI 3 = (3 : Int32) := rfl
  rw [n3] at h3
  have hx7 : (if Ia g1 135 p0 3 = -1 then -1 else oI (sEm s (Ia g1 136 p0 3) (Ia g1 135 p0 3) p1)) = oI (sEmp s (nI e) p1) := by
    unfold sEmp
    cases hv : sEv s (nI e) 3 p1 with
    | none =>
      rw [hv] at h3
      have d3 : Ia g1 135 p0 3 = -1 := congrArg Prod.fst h3
      rw [if_pos d3]; rfl
    | some p =>
      rw [hv] at h3
      have d3 : Ia g1 135 p0 3 = p.2.2.2.1 := congrArg Prod.fst h3
      have v3 : Ia g1 136 p0 3 = p.2.2.2.2.1 := congrArg Prod.snd h3
      rw [d3, v3, if_neg (i32_m1 (hW.evt _ (List.mem_of_getElem? (sEv_get (j := p.1) (x := p.2) hv))).2.2.1.1)]
  rw [hx7]
  have hlen := hML.len
  unfold Sp_PV_isWithin
  have hkeep : ∀ c, sI (sI g1 137 p0 c) 138 p0 (-1) = sI g1 137 p0 c := fun c => by
    have : (fun f' a' => if f' = 138 ∧ a' = p0 then (-1 : Int32) else Gi (sI g1 137 p0 c) f' a') = Gi (sI g1 137 p0 c) := by
      funext f' a'
      by_cases z : f' = 138 ∧ a' = p0
      · rw [if_pos z, z.1, z.2, Gi_sI, if_neg (fun z => absurd z.1 (by decide)), g1e]
      · rw [if_neg z]
    unfold sI at this ⊢
    exact congrArg (fun G => (G, _)) this
  have hnone : sEmp s (nI e) p1 = none → B_Po_settle_94 Γ K p0 (sI g1 137 p0 (sDay s (nI e) 2 p1)) := fun hn => h94 _ (-1) _ (hkeep _).symm (by unfold sCb; rw [hn])
  refine ⟨fun u => ?_, fun u => ?_⟩
  · cases hp : sEmp s (nI e) p1 with
    | none => exact hnone hp
    | some p =>
      exfalso
      rw [hp, oI_s] at u
      have hg := sEmp_get (j := p.1) (x := p.2) hp
      have hlt := (List.getElem?_eq_some_iff.mp hg).1
      rw [if_pos ((wn_c (by omega)).mpr ⟨_, rfl, hlt⟩)] at u
      exact absurd u (by decide)
  · cases hp : sEmp s (nI e) p1 with
    | none =>
      exfalso
      rw [hp, oI_n] at u
      refine u (if_neg (fun z => absurd z.1 (by decide)))
    | some p =>
      rw [oI_s]
      have hg := sEmp_get (j := p.1) (x := p.2) hp
      have hlt := (List.getElem?_eq_some_iff.mp hg).1
      refine ⟨p2', _, q1, k1, hML.at hlt (fun z yz hz hT => ?_)⟩
      rw [hg] at hz; cases hz
      obtain ⟨⟨_, td0⟩, td1, td2, td3, td4⟩ := hT
      refine ⟨td0, td0, ?_⟩
      rw [td2]
      rintro _ rfl
      have gc3 : Gi (sI g1 137 p0 (sDay s (nI e) 2 p1)) 137 p0 = sDay s (nI e) 2 p1 := by rw [Gi_sI, if_pos ⟨rfl, rfl⟩]
      rw [gc3]
      have hcb : sCb s (nI e) p1 = if sDay s (nI e) 2 p1 = -1 ∨ p.2.2.1 < sDay s (nI e) 2 p1 then (p.2.2.1, nI p.1) else (sDay s (nI e) 2 p1, -1) := by unfold sCb; rw [hp]
      have htk : sDay s (nI e) 2 p1 = -1 ∨ p.2.2.1 < sDay s (nI e) 2 p1 → B_Po_settle_83 Γ K p0 (nI p.1) p.2.2.1 (sI g1 137 p0 (sDay s (nI e) 2 p1)) := fun hc => by
        unfold B_Po_settle_83
        refine ⟨hk1, ?_⟩
        rintro _ rfl
        refine ⟨hk1, ?_⟩
        rintro _ rfl
        have hss : sI (sI g1 137 p0 (sDay s (nI e) 2 p1)) 137 p0 p.2.2.1 = sI g1 137 p0 p.2.2.1 := by
          have : (fun f' a' => if f' = 137 ∧ a' = p0 then p.2.2.1 else Gi (sI g1 137 p0 (sDay s (nI e) 2 p1)) f' a') = (fun f' a' => if f' = 137 ∧ a' = p0 then p.2.2.1 else Gi g1 f' a') := by
            funext f' a'
            by_cases z : f' = 137 ∧ a' = p0
            · rw [if_pos z, if_pos z]
            · rw [if_neg z, if_neg z, Gi_sI, if_neg z]
          unfold sI at this ⊢
          exact congrArg (fun G => (G, _)) this
        rw [hss]
        exact h94 _ _ _ rfl (by rw [hcb, if_pos hc])
      refine ⟨hk1, fun u1 => htk (.inl u1), fun u1 => ⟨hk1, fun u2 => ?_, fun u2 => htk (.inr (Int32.not_le.mp u2))⟩⟩
      exact h94 _ (-1) _ (hkeep _).symm (by rw [hcb, if_neg (fun z => z.elim u1 (fun w => absurd w (Int32.not_lt.mpr u2)))])
