/-! the reference: the van's round -/
def vSt (s : ST) (b : Nat) : Bool := (s_box s b).isSome
def vFr (s : ST) (b : Nat) : Nat := ((s_box s b).getD default).1.toNatClampNeg
def vTo (s : ST) (b : Nat) : Nat := ((s_box s b).getD default).2.toNatClampNeg
def vRd (s : ST) (a b : Nat) : Nat := (s_roa s (9 * a + b)).toNatClampNeg
def vSp (s : ST) : Nat := (s_stp s).toNatClampNeg
abbrev VB : Type := Option (Nat × List Nat)
def vUp (st : VB) (h : Nat) (tr : List Nat) : VB := match st with
  | none => some (h, tr)
  | some b => if h < b.1 then some (h, tr) else some b
/-- when the van goes on from the next box -/
def vAr (s : ST) (at' b t : Nat) : Nat := max (t + vRd s at' b) (vFr s b) + vSp s
abbrev vMay (s : ST) (path : List Nat) (at' t b : Nat) : Prop := vSt s b = true ∧ b ∉ path ∧ t + vRd s at' b ≤ vTo s b
def vDr (s : ST) : Nat → List Nat → Nat → Nat → VB → VB
  | 0, path, at', t, st => vUp st (t + vRd s at' 8) path
  | n + 1, path, at', t, st => (List.range 8).foldl (fun st b => if vMay s path at' t b then vDr s n (path ++ [b]) b (vAr s at' b t) st else st) st
def vN (s : ST) : Nat := ((List.range 8).filter (vSt s)).length
def vBe (s : ST) (t : Nat) : VB := if vN s = 0 then some (t, []) else vDr s (vN s) [] 8 t none
theorem vDr_lb (s : ST) : ∀ n path at' t h0 tr0, h0 ≤ t → vDr s n path at' t (some (h0, tr0)) = some (h0, tr0) := by
  intro n
  induction n with
  | zero =>
    intro path at' t h0 tr0 h
    show (if t + vRd s at' 8 < h0 then _ else _) = _
    rw [if_neg (by omega)]
  | succ n ih =>
    intro path at' t h0 tr0 h
    refine fold_inv (fun st : VB => st = some (h0, tr0)) _ _ _ rfl (fun a b _ ha => ?_)
    split
    · rw [ha]
      refine ih _ _ _ _ _ ?_
      unfold vAr
      omega
    · exact ha
theorem vN_le (s : ST) : vN s ≤ 8 := by
  have := List.length_filter_le (vSt s) (List.range 8)
  rw [List.length_range] at this; exact this
theorem nj_mul (a b : Nat) : nI a * nI b = nI (a * b) := (Int32.ofNat_mul a b).symm
def vI (st : VB) : Int32 := match st with
  | none => -1
  | some p => nI p.1
def VS (m : Nat) (g : GH) (s : ST) (path : List Nat) (st : VB) : Prop := Gi g 1625 m = nI (vN s) ∧ Gi g 1624 m = vI st ∧ (∀ p, st = some p → p.1 ≤ 2000 ∧ ∀ i x, p.2[i]? = some x → Ia g 1622 m i = nI x) ∧ (∀ i x, path[i]? = some x → Ia g 1621 m i = nI x) ∧ ∀ b, b < 8 → Ia g 1620 m b = if b ∈ path then 1 else 0
def vAt (path : List Nat) (at' : Nat) : Prop := (path = [] ∧ at' = 8) ∨ (at' < 8 ∧ at' ∈ path)
def SpD (n : Nat) (Γ : GAM) (m : Nat) (p0 p1 p2 : Int32) (g : GH) (K : GH → Prop) : Prop := ∃ ma s path st at' t, RefI m ma g s ∧ WF s ∧ path.length + n = vN s ∧ 1 ≤ vN s ∧ p0 = nI path.length ∧ p1 = nI at' ∧ p2 = nI t ∧ t ≤ 1470 ∧ vAt path at' ∧ VS m g s path st ∧ ∀ g', FrX m [1624] [1620, 1621, 1622] g g' → VS m g' s path (vDr s n path at' t st) → K g'
def SpE (n : Nat) (Γ : GAM) (m : Nat) (p0 p1 p2 : Int32) (g : GH) (K : GH → Prop) : Prop := match n with
  | 0 => False
  | n + 1 => SpD n Γ m p0 p1 p2 g K
-- the walk of M_drive
set_option maxRecDepth 100000 in
def B_M_drive_205 (Γ : GAM) (R_M_drive : Nat → Int32 → Int32 → Int32 → GH → (GH → Prop) → Prop) (K67 : Nat → Int32 → Int32 → GH → Prop) (K97 : Nat → Int32 → Int32 → Int32 → Int32 → GH → Prop) (K : GH → Prop) (l0 : Nat) (l1 : Int32) (l2 : Int32) (l3 : Int32) (l4 : Int32) (g : GH) : Prop :=
  K97 l0 l1 l2 l3 (l4 + (1 : Int32)) g
set_option maxHeartbeats 4000000 in
set_option maxRecDepth 100000 in
theorem S_M_drive_205 {Γ : GAM} {E : EV} {fr lo : Nat} {K : GH → Prop} (hE : GE Γ E cX11_drive 6 RX11 none fr lo (fun r g' => r = none ∧ K g')) (hfr : 1 ≤ fr) (hlo : 30 ≤ lo) {R_M_drive : Nat → Int32 → Int32 → Int32 → GH → (GH → Prop) → Prop} {f_M_drive l_M_drive : Nat} (hR_M_drive : (f_M_drive + 1 ≤ fr ∧ 8 + (6 + 11) + l_M_drive ≤ lo) ∧ ∀ (th : Nat) (p0 : Int32) (p1 : Int32) (p2 : Int32) g (K : GH → Prop), R_M_drive th p0 p1 p2 g K → MetA Γ E.2.1 yX11_drive cX11_drive 6 none f_M_drive l_M_drive [.ref th, .int p0, .int p1, .int p2] g (fun r g' => r = none ∧ K g')) {K67 : Nat → Int32 → Int32 → GH → Prop} {K97 : Nat → Int32 → Int32 → Int32 → Int32 → GH → Prop} (hK67 : ∀ (l0 : Nat) (l1 : Int32) (l5 : Int32) (g : GH), K67 l0 l1 l5 g → JW Γ E 67 [some (.ref l0), some (.int l1), none, none, none, some (.int l5)] [] g) (hK97 : ∀ (l0 : Nat) (l1 : Int32) (l2 : Int32) (l3 : Int32) (l4 : Int32) (g : GH), K97 l0 l1 l2 l3 l4 g → JW Γ E 97 [some (.ref l0), some (.int l1), some (.int l2), some (.int l3), some (.int l4), none] [] g) (l0 : Nat) (l1 : Int32) (l2 : Int32) (l3 : Int32) (l4 : Int32) (g : GH) (h : B_M_drive_205 Γ R_M_drive K67 K97 K l0 l1 l2 l3 l4 g) : JW Γ E 205 [some (.ref l0), some (.int l1), some (.int l2), some (.int l3), some (.int l4), none] [] g := by
  unfold B_M_drive_205 at h
  refine j_iinc hE (by decide +kernel : decode cX11_drive 205 = .ok (.iinc 4 1, 3)) (v := (1 : Int32)) (by decide) rfl (Nat.le_of_ble_eq_true rfl) rfl ?_
  refine j_goto hE (by decide +kernel : decode cX11_drive 208 = .ok (.goto (-111), 3)) (tgt := 97) (by decide) ?_
  exact hK97 _ _ _ _ _ _ h
set_option maxRecDepth 100000 in
def B_M_drive_97 (Γ : GAM) (R_M_drive : Nat → Int32 → Int32 → Int32 → GH → (GH → Prop) → Prop) (K67 : Nat → Int32 → Int32 → GH → Prop) (K97 : Nat → Int32 → Int32 → Int32 → Int32 → GH → Prop) (K : GH → Prop) (l0 : Nat) (l1 : Int32) (l2 : Int32) (l3 : Int32) (l4 : Int32) (g : GH) : Prop :=
  (((8 : Int32) ≤ l4 → K g) ∧ (¬ ((8 : Int32) ≤ l4) → Kd g l0 = 13 ∧ ∃ a1 : Nat, Gr g 1617 l0 = some a1 ∧ Kd g a1 = 21 ∧ inB l4 (Ln g a1) ∧ (((Ia g (Co g a1) (Ow g a1) l4.toNatClampNeg) = 0 → B_M_drive_205 Γ R_M_drive K67 K97 K l0 l1 l2 l3 l4 g) ∧ (¬ ((Ia g (Co g a1) (Ow g a1) l4.toNatClampNeg) = 0) → Kd g l0 = 13 ∧ ∃ a2 : Nat, Gr g 1620 l0 = some a2 ∧ Kd g a2 = 21 ∧ inB l4 (Ln g a2) ∧ (((Ia g (Co g a2) (Ow g a2) l4.toNatClampNeg) = 0 → Kd g l0 = 13 ∧ ∃ a3 : Nat, Gr g 1616 l0 = some a3 ∧ Kd g a3 = 20 ∧ inB (((9 : Int32) * l2) + l4) (Ln g a3) ∧ ∀ x4 : Int32, x4 = (l3 + (Ia g (Co g a3) (Ow g a3) (((9 : Int32) * l2) + l4).toNatClampNeg)) → Kd g l0 = 13 ∧ ∃ a5 : Nat, Gr g 1619 l0 = some a5 ∧ Kd g a5 = 20 ∧ inB l4 (Ln g a5) ∧ (((Ia g (Co g a5) (Ow g a5) l4.toNatClampNeg) < x4 → B_M_drive_205 Γ R_M_drive K67 K97 K l0 l1 l2 l3 l4 g) ∧ (¬ ((Ia g (Co g a5) (Ow g a5) l4.toNatClampNeg) < x4) → Kd g l0 = 13 ∧ ∃ a6 : Nat, Gr g 1620 l0 = some a6 ∧ Kd g a6 = 21 ∧ inB l4 (Ln g a6) ∧ ((1 : Int32) = 0 ∨ (1 : Int32) = 1) ∧ ∀ g7 : GH, g7 = sA g (Co g a6) (Ow g a6) l4.toNatClampNeg (1 : Int32) → Kd g7 l0 = 13 ∧ ∃ a8 : Nat, Gr g7 1621 l0 = some a8 ∧ Kd g7 a8 = 20 ∧ inB l1 (Ln g7 a8) ∧ ∀ g9 : GH, g9 = sA g7 (Co g7 a8) (Ow g7 a8) l1.toNatClampNeg l4 → Kd g9 l0 = 13 ∧ ∃ a10 : Nat, Gr g9 1618 l0 = some a10 ∧ Kd g9 a10 = 20 ∧ inB l4 (Ln g9 a10) ∧ Kd g9 l0 = 13 ∧ Kd g9 l0 = 13 ∧ R_M_drive l0 (l1 + (1 : Int32)) l4 ((if x4 < (Ia g9 (Co g9 a10) (Ow g9 a10) l4.toNatClampNeg) then (Ia g9 (Co g9 a10) (Ow g9 a10) l4.toNatClampNeg) else x4) + (Gi g9 1623 l0)) g9 (fun (g11 : GH) => Kd g11 l0 = 13 ∧ ∃ a12 : Nat, Gr g11 1620 l0 = some a12 ∧ Kd g11 a12 = 21 ∧ inB l4 (Ln g11 a12) ∧ ((0 : Int32) = 0 ∨ (0 : Int32) = 1) ∧ ∀ g13 : GH, g13 = sA g11 (Co g11 a12) (Ow g11 a12) l4.toNatClampNeg (0 : Int32) → B_M_drive_205 Γ R_M_drive K67 K97 K l0 l1 l2 l3 l4 g13)))) ∧ (¬ ((Ia g (Co g a2) (Ow g a2) l4.toNatClampNeg) = 0) → B_M_drive_205 Γ R_M_drive K67 K97 K l0 l1 l2 l3 l4 g))))))
set_option maxHeartbeats 4000000 in
set_option maxRecDepth 100000 in
theorem S_M_drive_97 {Γ : GAM} {E : EV} {fr lo : Nat} {K : GH → Prop} (hE : GE Γ E cX11_drive 6 RX11 none fr lo (fun r g' => r = none ∧ K g')) (hfr : 1 ≤ fr) (hlo : 30 ≤ lo) {R_M_drive : Nat → Int32 → Int32 → Int32 → GH → (GH → Prop) → Prop} {f_M_drive l_M_drive : Nat} (hR_M_drive : (f_M_drive + 1 ≤ fr ∧ 8 + (6 + 11) + l_M_drive ≤ lo) ∧ ∀ (th : Nat) (p0 : Int32) (p1 : Int32) (p2 : Int32) g (K : GH → Prop), R_M_drive th p0 p1 p2 g K → MetA Γ E.2.1 yX11_drive cX11_drive 6 none f_M_drive l_M_drive [.ref th, .int p0, .int p1, .int p2] g (fun r g' => r = none ∧ K g')) {K67 : Nat → Int32 → Int32 → GH → Prop} {K97 : Nat → Int32 → Int32 → Int32 → Int32 → GH → Prop} (hK67 : ∀ (l0 : Nat) (l1 : Int32) (l5 : Int32) (g : GH), K67 l0 l1 l5 g → JW Γ E 67 [some (.ref l0), some (.int l1), none, none, none, some (.int l5)] [] g) (hK97 : ∀ (l0 : Nat) (l1 : Int32) (l2 : Int32) (l3 : Int32) (l4 : Int32) (g : GH), K97 l0 l1 l2 l3 l4 g → JW Γ E 97 [some (.ref l0), some (.int l1), some (.int l2), some (.int l3), some (.int l4), none] [] g) (l0 : Nat) (l1 : Int32) (l2 : Int32) (l3 : Int32) (l4 : Int32) (g : GH) (h : B_M_drive_97 Γ R_M_drive K67 K97 K l0 l1 l2 l3 l4 g) : JW Γ E 97 [some (.ref l0), some (.int l1), some (.int l2), some (.int l3), some (.int l4), none] [] g := by
  unfold B_M_drive_97 at h
  refine j_iload hE (by decide +kernel : decode cX11_drive 97 = .ok (.iload 4, 2)) rfl ?_
  refine j_bipush hE (by decide +kernel : decode cX11_drive 99 = .ok (.bipush 8, 2)) (v := (8 : Int32)) (by decide) ?_
  refine j_icmp_ge hE (by decide +kernel : decode cX11_drive 101 = .ok (.if_icmp .ge 110, 3)) (tgt := 211) (by decide) (fun q => ?_) (fun q => ?_)
  · replace h := h.1 q
    exact j_vret hE (by decide +kernel : decode cX11_drive 211 = .ok (.return_, 1)) ⟨rfl, h⟩
  · replace h := h.2 q
    refine j_aload_n hE (by decide +kernel : decode cX11_drive 104 = .ok (.aload_n 0, 1)) rfl rfl ?_
    obtain ⟨hk, h⟩ := h
    obtain ⟨a1, ha, h⟩ := h
    refine j_getRn hE fg_X11_177 hk ha (by decide +kernel : decode cX11_drive 105 = .ok (.getfield 177, 3)) ?_
    refine j_iload hE (by decide +kernel : decode cX11_drive 108 = .ok (.iload 4, 2)) rfl ?_
    obtain ⟨hk, hb, h⟩ := h
    refine j_zald hE hk hb (by decide +kernel : decode cX11_drive 110 = .ok (.baload, 1)) ?_
    refine j_if_eq hE (by decide +kernel : decode cX11_drive 111 = .ok (.ifCond .eq 94, 3)) (tgt := 205) (by decide) (fun q => ?_) (fun q => ?_)
    · replace h := h.1 q
      exact S_M_drive_205 hE hfr hlo hR_M_drive hK67 hK97 _ _ _ _ _ _ h
    · replace h := h.2 q
      refine j_aload_n hE (by decide +kernel : decode cX11_drive 114 = .ok (.aload_n 0, 1)) rfl rfl ?_
      obtain ⟨hk, h⟩ := h
      obtain ⟨a2, ha, h⟩ := h
      refine j_getRn hE fg_X11_186 hk ha (by decide +kernel : decode cX11_drive 115 = .ok (.getfield 186, 3)) ?_
      refine j_iload hE (by decide +kernel : decode cX11_drive 118 = .ok (.iload 4, 2)) rfl ?_
      obtain ⟨hk, hb, h⟩ := h
      refine j_zald hE hk hb (by decide +kernel : decode cX11_drive 120 = .ok (.baload, 1)) ?_
      refine j_if_eq hE (by decide +kernel : decode cX11_drive 121 = .ok (.ifCond .eq 6, 3)) (tgt := 127) (by decide) (fun q => ?_) (fun q => ?_)
      · replace h := h.1 q
        refine j_iload_n hE (by decide +kernel : decode cX11_drive 127 = .ok (.iload_n 3, 1)) rfl rfl ?_
        refine j_aload_n hE (by decide +kernel : decode cX11_drive 128 = .ok (.aload_n 0, 1)) rfl rfl ?_
        obtain ⟨hk, h⟩ := h
        obtain ⟨a3, ha, h⟩ := h
        refine j_getRn hE fg_X11_174 hk ha (by decide +kernel : decode cX11_drive 129 = .ok (.getfield 174, 3)) ?_
        refine j_bipush hE (by decide +kernel : decode cX11_drive 132 = .ok (.bipush 9, 2)) (v := (9 : Int32)) (by decide) ?_
        refine j_iload_n hE (by decide +kernel : decode cX11_drive 134 = .ok (.iload_n 2, 1)) rfl rfl ?_
        refine j_imul hE (by decide +kernel : decode cX11_drive 135 = .ok (.imul, 1)) ?_
        refine j_iload hE (by decide +kernel : decode cX11_drive 136 = .ok (.iload 4, 2)) rfl ?_
        refine j_iadd hE (by decide +kernel : decode cX11_drive 138 = .ok (.iadd, 1)) ?_
        obtain ⟨hk, hb, h⟩ := h
        refine j_iald hE hk hb (by decide +kernel : decode cX11_drive 139 = .ok (.iaload, 1)) ?_
        refine j_iadd hE (by decide +kernel : decode cX11_drive 140 = .ok (.iadd, 1)) ?_
        obtain ⟨x4, hx⟩ : ∃ z, z = (l3 + (Ia g (Co g a3) (Ow g a3) (((9 : Int32) * l2) + l4).toNatClampNeg)) := ⟨_, rfl⟩; replace h := h x4 hx; rw [← hx]
        refine j_istore hE (by decide +kernel : decode cX11_drive 141 = .ok (.istore 5, 2)) (Nat.le_of_ble_eq_true rfl) rfl ?_
        refine j_iload hE (by decide +kernel : decode cX11_drive 143 = .ok (.iload 5, 2)) rfl ?_
        refine j_aload_n hE (by decide +kernel : decode cX11_drive 145 = .ok (.aload_n 0, 1)) rfl rfl ?_
        obtain ⟨hk, h⟩ := h
        obtain ⟨a5, ha, h⟩ := h
        refine j_getRn hE fg_X11_183 hk ha (by decide +kernel : decode cX11_drive 146 = .ok (.getfield 183, 3)) ?_
        refine j_iload hE (by decide +kernel : decode cX11_drive 149 = .ok (.iload 4, 2)) rfl ?_
        obtain ⟨hk, hb, h⟩ := h
        refine j_iald hE hk hb (by decide +kernel : decode cX11_drive 151 = .ok (.iaload, 1)) ?_
        refine j_icmp_gt hE (by decide +kernel : decode cX11_drive 152 = .ok (.if_icmp .gt 53, 3)) (tgt := 205) (by decide) (fun q => ?_) (fun q => ?_)
        · replace h := h.1 q
          refine j_weak [some (.ref l0), some (.int l1), some (.int l2), some (.int l3), some (.int l4), none] ⟨rfl, ⟨rfl, ⟨rfl, ⟨rfl, ⟨rfl, trivial⟩⟩⟩⟩⟩ ?_
          exact S_M_drive_205 hE hfr hlo hR_M_drive hK67 hK97 _ _ _ _ _ _ h
        · replace h := h.2 q
          refine j_aload_n hE (by decide +kernel : decode cX11_drive 155 = .ok (.aload_n 0, 1)) rfl rfl ?_
          obtain ⟨hk, h⟩ := h
          obtain ⟨a6, ha, h⟩ := h
          refine j_getRn hE fg_X11_186 hk ha (by decide +kernel : decode cX11_drive 156 = .ok (.getfield 186, 3)) ?_
          refine j_iload hE (by decide +kernel : decode cX11_drive 159 = .ok (.iload 4, 2)) rfl ?_
          refine j_iconst hE (by decide +kernel : decode cX11_drive 161 = .ok (.iconst 1, 1)) (v := (1 : Int32)) (by decide) ?_
          obtain ⟨hk, hb, hz, h⟩ := h
          obtain ⟨g7, hg⟩ : ∃ z, z = sA g (Co g a6) (Ow g a6) l4.toNatClampNeg (1 : Int32) := ⟨_, rfl⟩; replace h := h g7 hg
          refine j_zast hE hk hb hz (by decide +kernel : decode cX11_drive 162 = .ok (.bastore, 1)) ?_
          rw [← hg]
          refine j_aload_n hE (by decide +kernel : decode cX11_drive 163 = .ok (.aload_n 0, 1)) rfl rfl ?_
          obtain ⟨hk, h⟩ := h
          obtain ⟨a8, ha, h⟩ := h
          refine j_getRn hE fg_X11_189 hk ha (by decide +kernel : decode cX11_drive 164 = .ok (.getfield 189, 3)) ?_
          refine j_iload_n hE (by decide +kernel : decode cX11_drive 167 = .ok (.iload_n 1, 1)) rfl rfl ?_
          refine j_iload hE (by decide +kernel : decode cX11_drive 168 = .ok (.iload 4, 2)) rfl ?_
          obtain ⟨hk, hb, h⟩ := h
          obtain ⟨g9, hg⟩ : ∃ z, z = sA g7 (Co g7 a8) (Ow g7 a8) l1.toNatClampNeg l4 := ⟨_, rfl⟩; replace h := h g9 hg
          refine j_iast hE hk hb (by decide +kernel : decode cX11_drive 170 = .ok (.iastore, 1)) ?_
          rw [← hg]
          refine j_aload_n hE (by decide +kernel : decode cX11_drive 171 = .ok (.aload_n 0, 1)) rfl rfl ?_
          refine j_iload_n hE (by decide +kernel : decode cX11_drive 172 = .ok (.iload_n 1, 1)) rfl rfl ?_
          refine j_iconst hE (by decide +kernel : decode cX11_drive 173 = .ok (.iconst 1, 1)) (v := (1 : Int32)) (by decide) ?_
          refine j_iadd hE (by decide +kernel : decode cX11_drive 174 = .ok (.iadd, 1)) ?_
          refine j_iload hE (by decide +kernel : decode cX11_drive 175 = .ok (.iload 4, 2)) rfl ?_
          refine j_iload hE (by decide +kernel : decode cX11_drive 177 = .ok (.iload 5, 2)) rfl ?_
          refine j_aload_n hE (by decide +kernel : decode cX11_drive 179 = .ok (.aload_n 0, 1)) rfl rfl ?_
          obtain ⟨hk, h⟩ := h
          obtain ⟨a10, ha, h⟩ := h
          refine j_getRn hE fg_X11_180 hk ha (by decide +kernel : decode cX11_drive 180 = .ok (.getfield 180, 3)) ?_
          refine j_iload hE (by decide +kernel : decode cX11_drive 183 = .ok (.iload 4, 2)) rfl ?_
          obtain ⟨hk, hb, h⟩ := h
          refine j_iald hE hk hb (by decide +kernel : decode cX11_drive 185 = .ok (.iaload, 1)) ?_
          refine j_mmax hE rfl ml_X11_269 st_J9_max_7cf53 in_Math co_J9_max_7cf53 (Nat.le_of_ble_eq_true rfl) (by omega) (by omega) (by decide +kernel : decode cX11_drive 186 = .ok (.invokestatic 269, 3)) ?_
          refine j_aload_n hE (by decide +kernel : decode cX11_drive 189 = .ok (.aload_n 0, 1)) rfl rfl ?_
          obtain ⟨hk, h⟩ := h
          refine j_getI hE fg_X11_195 hk (by decide +kernel : decode cX11_drive 190 = .ok (.getfield 195, 3)) ?_
          refine j_iadd hE (by decide +kernel : decode cX11_drive 193 = .ok (.iadd, 1)) ?_
          obtain ⟨hk, h⟩ := h
          refine j_callV hE rfl cl_X11_477 cf_12 im_X11_drive se_X11_drive hR_M_drive.1 (As := [.int (l1 + (1 : Int32)), .int l4, .int ((if x4 < (Ia g9 (Co g9 a10) (Ow g9 a10) l4.toNatClampNeg) then (Ia g9 (Co g9 a10) (Ow g9 a10) l4.toNatClampNeg) else x4) + (Gi g9 1623 l0))]) (rest := []) rfl rfl (Nat.le_of_ble_eq_true rfl) hk (by decide +kernel : decode cX11_drive 194 = .ok (.invokevirtual 477, 3)) (hR_M_drive.2 _ _ _ _ _ _ h) ?_
          rintro _ g11 ⟨rfl, h⟩
          refine j_aload_n hE (by decide +kernel : decode cX11_drive 197 = .ok (.aload_n 0, 1)) rfl rfl ?_
          obtain ⟨hk, h⟩ := h
          obtain ⟨a12, ha, h⟩ := h
          refine j_getRn hE fg_X11_186 hk ha (by decide +kernel : decode cX11_drive 198 = .ok (.getfield 186, 3)) ?_
          refine j_iload hE (by decide +kernel : decode cX11_drive 201 = .ok (.iload 4, 2)) rfl ?_
          refine j_iconst hE (by decide +kernel : decode cX11_drive 203 = .ok (.iconst 0, 1)) (v := (0 : Int32)) (by decide) ?_
          obtain ⟨hk, hb, hz, h⟩ := h
          obtain ⟨g13, hg⟩ : ∃ z, z = sA g11 (Co g11 a12) (Ow g11 a12) l4.toNatClampNeg (0 : Int32) := ⟨_, rfl⟩; replace h := h g13 hg
          refine j_zast hE hk hb hz (by decide +kernel : decode cX11_drive 204 = .ok (.bastore, 1)) ?_
          rw [← hg]
          refine j_weak [some (.ref l0), some (.int l1), some (.int l2), some (.int l3), some (.int l4), none] ⟨rfl, ⟨rfl, ⟨rfl, ⟨rfl, ⟨rfl, trivial⟩⟩⟩⟩⟩ ?_
          exact S_M_drive_205 hE hfr hlo hR_M_drive hK67 hK97 _ _ _ _ _ _ h
      · replace h := h.2 q
        refine j_goto hE (by decide +kernel : decode cX11_drive 124 = .ok (.goto 81, 3)) (tgt := 205) (by decide) ?_
        exact S_M_drive_205 hE hfr hlo hR_M_drive hK67 hK97 _ _ _ _ _ _ h
set_option maxRecDepth 100000 in
def B_M_drive_93 (Γ : GAM) (R_M_drive : Nat → Int32 → Int32 → Int32 → GH → (GH → Prop) → Prop) (K67 : Nat → Int32 → Int32 → GH → Prop) (K97 : Nat → Int32 → Int32 → Int32 → Int32 → GH → Prop) (K : GH → Prop)  (g : GH) : Prop :=
  K g
set_option maxHeartbeats 4000000 in
set_option maxRecDepth 100000 in
theorem S_M_drive_93 {Γ : GAM} {E : EV} {fr lo : Nat} {K : GH → Prop} (hE : GE Γ E cX11_drive 6 RX11 none fr lo (fun r g' => r = none ∧ K g')) (hfr : 1 ≤ fr) (hlo : 30 ≤ lo) {R_M_drive : Nat → Int32 → Int32 → Int32 → GH → (GH → Prop) → Prop} {f_M_drive l_M_drive : Nat} (hR_M_drive : (f_M_drive + 1 ≤ fr ∧ 8 + (6 + 11) + l_M_drive ≤ lo) ∧ ∀ (th : Nat) (p0 : Int32) (p1 : Int32) (p2 : Int32) g (K : GH → Prop), R_M_drive th p0 p1 p2 g K → MetA Γ E.2.1 yX11_drive cX11_drive 6 none f_M_drive l_M_drive [.ref th, .int p0, .int p1, .int p2] g (fun r g' => r = none ∧ K g')) {K67 : Nat → Int32 → Int32 → GH → Prop} {K97 : Nat → Int32 → Int32 → Int32 → Int32 → GH → Prop} (hK67 : ∀ (l0 : Nat) (l1 : Int32) (l5 : Int32) (g : GH), K67 l0 l1 l5 g → JW Γ E 67 [some (.ref l0), some (.int l1), none, none, none, some (.int l5)] [] g) (hK97 : ∀ (l0 : Nat) (l1 : Int32) (l2 : Int32) (l3 : Int32) (l4 : Int32) (g : GH), K97 l0 l1 l2 l3 l4 g → JW Γ E 97 [some (.ref l0), some (.int l1), some (.int l2), some (.int l3), some (.int l4), none] [] g)  (g : GH) (h : B_M_drive_93 Γ R_M_drive K67 K97 K  g) : JW Γ E 93 [none, none, none, none, none, none] [] g := by
  unfold B_M_drive_93 at h
  exact j_vret hE (by decide +kernel : decode cX11_drive 93 = .ok (.return_, 1)) ⟨rfl, h⟩
set_option maxRecDepth 100000 in
def B_M_drive_67 (Γ : GAM) (R_M_drive : Nat → Int32 → Int32 → Int32 → GH → (GH → Prop) → Prop) (K67 : Nat → Int32 → Int32 → GH → Prop) (K97 : Nat → Int32 → Int32 → Int32 → Int32 → GH → Prop) (K : GH → Prop) (l0 : Nat) (l1 : Int32) (l5 : Int32) (g : GH) : Prop :=
  ((l1 ≤ l5 → B_M_drive_93 Γ R_M_drive K67 K97 K g) ∧ (¬ (l1 ≤ l5) → Kd g l0 = 13 ∧ ∃ a1 : Nat, Gr g 1622 l0 = some a1 ∧ Kd g l0 = 13 ∧ ∃ a2 : Nat, Gr g 1621 l0 = some a2 ∧ Kd g a2 = 20 ∧ inB l5 (Ln g a2) ∧ Kd g a1 = 20 ∧ inB l5 (Ln g a1) ∧ ∀ g3 : GH, g3 = sA g (Co g a1) (Ow g a1) l5.toNatClampNeg (Ia g (Co g a2) (Ow g a2) l5.toNatClampNeg) → K67 l0 l1 (l5 + (1 : Int32)) g3))
set_option maxHeartbeats 4000000 in
set_option maxRecDepth 100000 in
theorem S_M_drive_67 {Γ : GAM} {E : EV} {fr lo : Nat} {K : GH → Prop} (hE : GE Γ E cX11_drive 6 RX11 none fr lo (fun r g' => r = none ∧ K g')) (hfr : 1 ≤ fr) (hlo : 30 ≤ lo) {R_M_drive : Nat → Int32 → Int32 → Int32 → GH → (GH → Prop) → Prop} {f_M_drive l_M_drive : Nat} (hR_M_drive : (f_M_drive + 1 ≤ fr ∧ 8 + (6 + 11) + l_M_drive ≤ lo) ∧ ∀ (th : Nat) (p0 : Int32) (p1 : Int32) (p2 : Int32) g (K : GH → Prop), R_M_drive th p0 p1 p2 g K → MetA Γ E.2.1 yX11_drive cX11_drive 6 none f_M_drive l_M_drive [.ref th, .int p0, .int p1, .int p2] g (fun r g' => r = none ∧ K g')) {K67 : Nat → Int32 → Int32 → GH → Prop} {K97 : Nat → Int32 → Int32 → Int32 → Int32 → GH → Prop} (hK67 : ∀ (l0 : Nat) (l1 : Int32) (l5 : Int32) (g : GH), K67 l0 l1 l5 g → JW Γ E 67 [some (.ref l0), some (.int l1), none, none, none, some (.int l5)] [] g) (hK97 : ∀ (l0 : Nat) (l1 : Int32) (l2 : Int32) (l3 : Int32) (l4 : Int32) (g : GH), K97 l0 l1 l2 l3 l4 g → JW Γ E 97 [some (.ref l0), some (.int l1), some (.int l2), some (.int l3), some (.int l4), none] [] g) (l0 : Nat) (l1 : Int32) (l5 : Int32) (g : GH) (h : B_M_drive_67 Γ R_M_drive K67 K97 K l0 l1 l5 g) : JW Γ E 67 [some (.ref l0), some (.int l1), none, none, none, some (.int l5)] [] g := by
  unfold B_M_drive_67 at h
  refine j_iload hE (by decide +kernel : decode cX11_drive 67 = .ok (.iload 5, 2)) rfl ?_
  refine j_iload_n hE (by decide +kernel : decode cX11_drive 69 = .ok (.iload_n 1, 1)) rfl rfl ?_
  refine j_icmp_ge hE (by decide +kernel : decode cX11_drive 70 = .ok (.if_icmp .ge 23, 3)) (tgt := 93) (by decide) (fun q => ?_) (fun q => ?_)
  · replace h := h.1 q
    refine j_weak [none, none, none, none, none, none] trivial ?_
    exact S_M_drive_93 hE hfr hlo hR_M_drive hK67 hK97 _ h
  · replace h := h.2 q
    refine j_aload_n hE (by decide +kernel : decode cX11_drive 73 = .ok (.aload_n 0, 1)) rfl rfl ?_
    obtain ⟨hk, h⟩ := h
    obtain ⟨a1, ha, h⟩ := h
    refine j_getRn hE fg_X11_192 hk ha (by decide +kernel : decode cX11_drive 74 = .ok (.getfield 192, 3)) ?_
    refine j_iload hE (by decide +kernel : decode cX11_drive 77 = .ok (.iload 5, 2)) rfl ?_
    refine j_aload_n hE (by decide +kernel : decode cX11_drive 79 = .ok (.aload_n 0, 1)) rfl rfl ?_
    obtain ⟨hk, h⟩ := h
    obtain ⟨a2, ha, h⟩ := h
    refine j_getRn hE fg_X11_189 hk ha (by decide +kernel : decode cX11_drive 80 = .ok (.getfield 189, 3)) ?_
    refine j_iload hE (by decide +kernel : decode cX11_drive 83 = .ok (.iload 5, 2)) rfl ?_
    obtain ⟨hk, hb, h⟩ := h
    refine j_iald hE hk hb (by decide +kernel : decode cX11_drive 85 = .ok (.iaload, 1)) ?_
    obtain ⟨hk, hb, h⟩ := h
    obtain ⟨g3, hg⟩ : ∃ z, z = sA g (Co g a1) (Ow g a1) l5.toNatClampNeg (Ia g (Co g a2) (Ow g a2) l5.toNatClampNeg) := ⟨_, rfl⟩; replace h := h g3 hg
    refine j_iast hE hk hb (by decide +kernel : decode cX11_drive 86 = .ok (.iastore, 1)) ?_
    rw [← hg]
    refine j_iinc hE (by decide +kernel : decode cX11_drive 87 = .ok (.iinc 5 1, 3)) (v := (1 : Int32)) (by decide) rfl (Nat.le_of_ble_eq_true rfl) rfl ?_
    refine j_goto hE (by decide +kernel : decode cX11_drive 90 = .ok (.goto (-23), 3)) (tgt := 67) (by decide) ?_
    exact hK67 _ _ _ _ h
set_option maxRecDepth 100000 in
def B_M_drive_58 (Γ : GAM) (R_M_drive : Nat → Int32 → Int32 → Int32 → GH → (GH → Prop) → Prop) (K67 : Nat → Int32 → Int32 → GH → Prop) (K97 : Nat → Int32 → Int32 → Int32 → Int32 → GH → Prop) (K : GH → Prop) (l0 : Nat) (l1 : Int32) (l4 : Int32) (g : GH) : Prop :=
  Kd g l0 = 13 ∧ ∀ g1 : GH, g1 = sI g 1624 l0 l4 → K67 l0 l1 (0 : Int32) g1
set_option maxHeartbeats 4000000 in
set_option maxRecDepth 100000 in
theorem S_M_drive_58 {Γ : GAM} {E : EV} {fr lo : Nat} {K : GH → Prop} (hE : GE Γ E cX11_drive 6 RX11 none fr lo (fun r g' => r = none ∧ K g')) (hfr : 1 ≤ fr) (hlo : 30 ≤ lo) {R_M_drive : Nat → Int32 → Int32 → Int32 → GH → (GH → Prop) → Prop} {f_M_drive l_M_drive : Nat} (hR_M_drive : (f_M_drive + 1 ≤ fr ∧ 8 + (6 + 11) + l_M_drive ≤ lo) ∧ ∀ (th : Nat) (p0 : Int32) (p1 : Int32) (p2 : Int32) g (K : GH → Prop), R_M_drive th p0 p1 p2 g K → MetA Γ E.2.1 yX11_drive cX11_drive 6 none f_M_drive l_M_drive [.ref th, .int p0, .int p1, .int p2] g (fun r g' => r = none ∧ K g')) {K67 : Nat → Int32 → Int32 → GH → Prop} {K97 : Nat → Int32 → Int32 → Int32 → Int32 → GH → Prop} (hK67 : ∀ (l0 : Nat) (l1 : Int32) (l5 : Int32) (g : GH), K67 l0 l1 l5 g → JW Γ E 67 [some (.ref l0), some (.int l1), none, none, none, some (.int l5)] [] g) (hK97 : ∀ (l0 : Nat) (l1 : Int32) (l2 : Int32) (l3 : Int32) (l4 : Int32) (g : GH), K97 l0 l1 l2 l3 l4 g → JW Γ E 97 [some (.ref l0), some (.int l1), some (.int l2), some (.int l3), some (.int l4), none] [] g) (l0 : Nat) (l1 : Int32) (l4 : Int32) (g : GH) (h : B_M_drive_58 Γ R_M_drive K67 K97 K l0 l1 l4 g) : JW Γ E 58 [some (.ref l0), some (.int l1), none, none, some (.int l4), none] [] g := by
  unfold B_M_drive_58 at h
  refine j_aload_n hE (by decide +kernel : decode cX11_drive 58 = .ok (.aload_n 0, 1)) rfl rfl ?_
  refine j_iload hE (by decide +kernel : decode cX11_drive 59 = .ok (.iload 4, 2)) rfl ?_
  obtain ⟨hk, h⟩ := h
  obtain ⟨g1, hg⟩ : ∃ z, z = sI g 1624 l0 l4 := ⟨_, rfl⟩; replace h := h g1 hg
  refine j_putI hE fa_X11_471 hk (fun q => by cases q) (by decide +kernel : decode cX11_drive 61 = .ok (.putfield 471, 3)) ?_
  rw [← hg]
  refine j_iconst hE (by decide +kernel : decode cX11_drive 64 = .ok (.iconst 0, 1)) (v := (0 : Int32)) (by decide) ?_
  refine j_istore hE (by decide +kernel : decode cX11_drive 65 = .ok (.istore 5, 2)) (Nat.le_of_ble_eq_true rfl) rfl ?_
  refine j_weak [some (.ref l0), some (.int l1), none, none, none, some (.int (0 : Int32))] ⟨rfl, ⟨rfl, ⟨rfl, trivial⟩⟩⟩ ?_
  exact hK67 _ _ _ _ h
set_option maxRecDepth 100000 in
def B_M_drive_17 (Γ : GAM) (R_M_drive : Nat → Int32 → Int32 → Int32 → GH → (GH → Prop) → Prop) (K67 : Nat → Int32 → Int32 → GH → Prop) (K97 : Nat → Int32 → Int32 → Int32 → Int32 → GH → Prop) (K : GH → Prop) (l0 : Nat) (l1 : Int32) (l2 : Int32) (l3 : Int32) (g : GH) : Prop :=
  Kd g l0 = 13 ∧ ((¬ (l1 = (Gi g 1625 l0)) → K97 l0 l1 l2 l3 (0 : Int32) g) ∧ (l1 = (Gi g 1625 l0) → Kd g l0 = 13 ∧ ∃ a1 : Nat, Gr g 1616 l0 = some a1 ∧ Kd g a1 = 20 ∧ inB (((9 : Int32) * l2) + (8 : Int32)) (Ln g a1) ∧ ∀ x2 : Int32, x2 = (l3 + (Ia g (Co g a1) (Ow g a1) (((9 : Int32) * l2) + (8 : Int32)).toNatClampNeg)) → Kd g l0 = 13 ∧ (((Gi g 1624 l0) = (-1 : Int32) → B_M_drive_58 Γ R_M_drive K67 K97 K l0 l1 x2 g) ∧ (¬ ((Gi g 1624 l0) = (-1 : Int32)) → Kd g l0 = 13 ∧ (((Gi g 1624 l0) ≤ x2 → B_M_drive_93 Γ R_M_drive K67 K97 K g) ∧ (¬ ((Gi g 1624 l0) ≤ x2) → B_M_drive_58 Γ R_M_drive K67 K97 K l0 l1 x2 g))))))
set_option maxHeartbeats 4000000 in
set_option maxRecDepth 100000 in
theorem S_M_drive_17 {Γ : GAM} {E : EV} {fr lo : Nat} {K : GH → Prop} (hE : GE Γ E cX11_drive 6 RX11 none fr lo (fun r g' => r = none ∧ K g')) (hfr : 1 ≤ fr) (hlo : 30 ≤ lo) {R_M_drive : Nat → Int32 → Int32 → Int32 → GH → (GH → Prop) → Prop} {f_M_drive l_M_drive : Nat} (hR_M_drive : (f_M_drive + 1 ≤ fr ∧ 8 + (6 + 11) + l_M_drive ≤ lo) ∧ ∀ (th : Nat) (p0 : Int32) (p1 : Int32) (p2 : Int32) g (K : GH → Prop), R_M_drive th p0 p1 p2 g K → MetA Γ E.2.1 yX11_drive cX11_drive 6 none f_M_drive l_M_drive [.ref th, .int p0, .int p1, .int p2] g (fun r g' => r = none ∧ K g')) {K67 : Nat → Int32 → Int32 → GH → Prop} {K97 : Nat → Int32 → Int32 → Int32 → Int32 → GH → Prop} (hK67 : ∀ (l0 : Nat) (l1 : Int32) (l5 : Int32) (g : GH), K67 l0 l1 l5 g → JW Γ E 67 [some (.ref l0), some (.int l1), none, none, none, some (.int l5)] [] g) (hK97 : ∀ (l0 : Nat) (l1 : Int32) (l2 : Int32) (l3 : Int32) (l4 : Int32) (g : GH), K97 l0 l1 l2 l3 l4 g → JW Γ E 97 [some (.ref l0), some (.int l1), some (.int l2), some (.int l3), some (.int l4), none] [] g) (l0 : Nat) (l1 : Int32) (l2 : Int32) (l3 : Int32) (g : GH) (h : B_M_drive_17 Γ R_M_drive K67 K97 K l0 l1 l2 l3 g) : JW Γ E 17 [some (.ref l0), some (.int l1), some (.int l2), some (.int l3), none, none] [] g := by
  unfold B_M_drive_17 at h
  refine j_iload_n hE (by decide +kernel : decode cX11_drive 17 = .ok (.iload_n 1, 1)) rfl rfl ?_
  refine j_aload_n hE (by decide +kernel : decode cX11_drive 18 = .ok (.aload_n 0, 1)) rfl rfl ?_
  obtain ⟨hk, h⟩ := h
  refine j_getI hE fg_X11_474 hk (by decide +kernel : decode cX11_drive 19 = .ok (.getfield 474, 3)) ?_
  refine j_icmp_ne hE (by decide +kernel : decode cX11_drive 22 = .ok (.if_icmp .ne 72, 3)) (tgt := 94) (by decide) (fun q => ?_) (fun q => ?_)
  · replace h := h.1 q
    refine j_iconst hE (by decide +kernel : decode cX11_drive 94 = .ok (.iconst 0, 1)) (v := (0 : Int32)) (by decide) ?_
    refine j_istore hE (by decide +kernel : decode cX11_drive 95 = .ok (.istore 4, 2)) (Nat.le_of_ble_eq_true rfl) rfl ?_
    exact hK97 _ _ _ _ _ _ h
  · replace h := h.2 q
    refine j_iload_n hE (by decide +kernel : decode cX11_drive 25 = .ok (.iload_n 3, 1)) rfl rfl ?_
    refine j_aload_n hE (by decide +kernel : decode cX11_drive 26 = .ok (.aload_n 0, 1)) rfl rfl ?_
    obtain ⟨hk, h⟩ := h
    obtain ⟨a1, ha, h⟩ := h
    refine j_getRn hE fg_X11_174 hk ha (by decide +kernel : decode cX11_drive 27 = .ok (.getfield 174, 3)) ?_
    refine j_bipush hE (by decide +kernel : decode cX11_drive 30 = .ok (.bipush 9, 2)) (v := (9 : Int32)) (by decide) ?_
    refine j_iload_n hE (by decide +kernel : decode cX11_drive 32 = .ok (.iload_n 2, 1)) rfl rfl ?_
    refine j_imul hE (by decide +kernel : decode cX11_drive 33 = .ok (.imul, 1)) ?_
    refine j_bipush hE (by decide +kernel : decode cX11_drive 34 = .ok (.bipush 8, 2)) (v := (8 : Int32)) (by decide) ?_
    refine j_iadd hE (by decide +kernel : decode cX11_drive 36 = .ok (.iadd, 1)) ?_
    obtain ⟨hk, hb, h⟩ := h
    refine j_iald hE hk hb (by decide +kernel : decode cX11_drive 37 = .ok (.iaload, 1)) ?_
    refine j_iadd hE (by decide +kernel : decode cX11_drive 38 = .ok (.iadd, 1)) ?_
    obtain ⟨x2, hx⟩ : ∃ z, z = (l3 + (Ia g (Co g a1) (Ow g a1) (((9 : Int32) * l2) + (8 : Int32)).toNatClampNeg)) := ⟨_, rfl⟩; replace h := h x2 hx; rw [← hx]
    refine j_istore hE (by decide +kernel : decode cX11_drive 39 = .ok (.istore 4, 2)) (Nat.le_of_ble_eq_true rfl) rfl ?_
    refine j_aload_n hE (by decide +kernel : decode cX11_drive 41 = .ok (.aload_n 0, 1)) rfl rfl ?_
    obtain ⟨hk, h⟩ := h
    refine j_getI hE fg_X11_471 hk (by decide +kernel : decode cX11_drive 42 = .ok (.getfield 471, 3)) ?_
    refine j_iconst hE (by decide +kernel : decode cX11_drive 45 = .ok (.iconst (-1), 1)) (v := (-1 : Int32)) (by decide) ?_
    refine j_icmp_eq hE (by decide +kernel : decode cX11_drive 46 = .ok (.if_icmp .eq 12, 3)) (tgt := 58) (by decide) (fun q => ?_) (fun q => ?_)
    · replace h := h.1 q
      refine j_weak [some (.ref l0), some (.int l1), none, none, some (.int x2), none] ⟨rfl, ⟨rfl, ⟨rfl, trivial⟩⟩⟩ ?_
      exact S_M_drive_58 hE hfr hlo hR_M_drive hK67 hK97 _ _ _ _ h
    · replace h := h.2 q
      refine j_iload hE (by decide +kernel : decode cX11_drive 49 = .ok (.iload 4, 2)) rfl ?_
      refine j_aload_n hE (by decide +kernel : decode cX11_drive 51 = .ok (.aload_n 0, 1)) rfl rfl ?_
      obtain ⟨hk, h⟩ := h
      refine j_getI hE fg_X11_471 hk (by decide +kernel : decode cX11_drive 52 = .ok (.getfield 471, 3)) ?_
      refine j_icmp_ge hE (by decide +kernel : decode cX11_drive 55 = .ok (.if_icmp .ge 38, 3)) (tgt := 93) (by decide) (fun q => ?_) (fun q => ?_)
      · replace h := h.1 q
        refine j_weak [none, none, none, none, none, none] trivial ?_
        exact S_M_drive_93 hE hfr hlo hR_M_drive hK67 hK97 _ h
      · replace h := h.2 q
        refine j_weak [some (.ref l0), some (.int l1), none, none, some (.int x2), none] ⟨rfl, ⟨rfl, ⟨rfl, trivial⟩⟩⟩ ?_
        exact S_M_drive_58 hE hfr hlo hR_M_drive hK67 hK97 _ _ _ _ h
set_option maxRecDepth 100000 in
def B_M_drive_0 (Γ : GAM) (R_M_drive : Nat → Int32 → Int32 → Int32 → GH → (GH → Prop) → Prop) (K67 : Nat → Int32 → Int32 → GH → Prop) (K97 : Nat → Int32 → Int32 → Int32 → Int32 → GH → Prop) (K : GH → Prop) (th : Nat) (p0 : Int32) (p1 : Int32) (p2 : Int32) (g : GH) : Prop :=
  Kd g th = 13 ∧ (((Gi g 1624 th) = (-1 : Int32) → B_M_drive_17 Γ R_M_drive K67 K97 K th p0 p1 p2 g) ∧ (¬ ((Gi g 1624 th) = (-1 : Int32)) → Kd g th = 13 ∧ ((p2 < (Gi g 1624 th) → B_M_drive_17 Γ R_M_drive K67 K97 K th p0 p1 p2 g) ∧ (¬ (p2 < (Gi g 1624 th)) → K g))))
set_option maxHeartbeats 4000000 in
set_option maxRecDepth 100000 in
theorem S_M_drive_0 {Γ : GAM} {E : EV} {fr lo : Nat} {K : GH → Prop} (hE : GE Γ E cX11_drive 6 RX11 none fr lo (fun r g' => r = none ∧ K g')) (hfr : 1 ≤ fr) (hlo : 30 ≤ lo) {R_M_drive : Nat → Int32 → Int32 → Int32 → GH → (GH → Prop) → Prop} {f_M_drive l_M_drive : Nat} (hR_M_drive : (f_M_drive + 1 ≤ fr ∧ 8 + (6 + 11) + l_M_drive ≤ lo) ∧ ∀ (th : Nat) (p0 : Int32) (p1 : Int32) (p2 : Int32) g (K : GH → Prop), R_M_drive th p0 p1 p2 g K → MetA Γ E.2.1 yX11_drive cX11_drive 6 none f_M_drive l_M_drive [.ref th, .int p0, .int p1, .int p2] g (fun r g' => r = none ∧ K g')) {K67 : Nat → Int32 → Int32 → GH → Prop} {K97 : Nat → Int32 → Int32 → Int32 → Int32 → GH → Prop} (hK67 : ∀ (l0 : Nat) (l1 : Int32) (l5 : Int32) (g : GH), K67 l0 l1 l5 g → JW Γ E 67 [some (.ref l0), some (.int l1), none, none, none, some (.int l5)] [] g) (hK97 : ∀ (l0 : Nat) (l1 : Int32) (l2 : Int32) (l3 : Int32) (l4 : Int32) (g : GH), K97 l0 l1 l2 l3 l4 g → JW Γ E 97 [some (.ref l0), some (.int l1), some (.int l2), some (.int l3), some (.int l4), none] [] g) (th : Nat) (p0 : Int32) (p1 : Int32) (p2 : Int32) (g : GH) (h : B_M_drive_0 Γ R_M_drive K67 K97 K th p0 p1 p2 g) : JW Γ E 0 [some (.ref th), some (.int p0), some (.int p1), some (.int p2), none, none] [] g := by
  unfold B_M_drive_0 at h
  refine j_aload_n hE (by decide +kernel : decode cX11_drive 0 = .ok (.aload_n 0, 1)) rfl rfl ?_
  obtain ⟨hk, h⟩ := h
  refine j_getI hE fg_X11_471 hk (by decide +kernel : decode cX11_drive 1 = .ok (.getfield 471, 3)) ?_
  refine j_iconst hE (by decide +kernel : decode cX11_drive 4 = .ok (.iconst (-1), 1)) (v := (-1 : Int32)) (by decide) ?_
  refine j_icmp_eq hE (by decide +kernel : decode cX11_drive 5 = .ok (.if_icmp .eq 12, 3)) (tgt := 17) (by decide) (fun q => ?_) (fun q => ?_)
  · replace h := h.1 q
    exact S_M_drive_17 hE hfr hlo hR_M_drive hK67 hK97 _ _ _ _ _ h
  · replace h := h.2 q
    refine j_iload_n hE (by decide +kernel : decode cX11_drive 8 = .ok (.iload_n 3, 1)) rfl rfl ?_
    refine j_aload_n hE (by decide +kernel : decode cX11_drive 9 = .ok (.aload_n 0, 1)) rfl rfl ?_
    obtain ⟨hk, h⟩ := h
    refine j_getI hE fg_X11_471 hk (by decide +kernel : decode cX11_drive 10 = .ok (.getfield 471, 3)) ?_
    refine j_icmp_lt hE (by decide +kernel : decode cX11_drive 13 = .ok (.if_icmp .lt 4, 3)) (tgt := 17) (by decide) (fun q => ?_) (fun q => ?_)
    · replace h := h.1 q
      exact S_M_drive_17 hE hfr hlo hR_M_drive hK67 hK97 _ _ _ _ _ h
    · replace h := h.2 q
      exact j_vret hE (by decide +kernel : decode cX11_drive 16 = .ok (.return_, 1)) ⟨rfl, h⟩
set_option maxHeartbeats 4000000 in
set_option maxRecDepth 100000 in
theorem rl_M_drive {Γ : GAM} {l : Launch} {fr lo : Nat} (hfr : 1 ≤ fr) (hlo : 30 ≤ lo) {R_M_drive : Nat → Int32 → Int32 → Int32 → GH → (GH → Prop) → Prop} {f_M_drive l_M_drive : Nat} (hR_M_drive : (f_M_drive + 1 ≤ fr ∧ 8 + (6 + 11) + l_M_drive ≤ lo) ∧ ∀ (th : Nat) (p0 : Int32) (p1 : Int32) (p2 : Int32) g (K : GH → Prop), R_M_drive th p0 p1 p2 g K → MetA Γ l yX11_drive cX11_drive 6 none f_M_drive l_M_drive [.ref th, .int p0, .int p1, .int p2] g (fun r g' => r = none ∧ K g')) {th : Nat} {p0 : Int32} {p1 : Int32} {p2 : Int32} {g : GH} {K : GH → Prop} (I67 : Nat → Nat → Int32 → Int32 → GH → Prop) (I97 : Nat → Nat → Int32 → Int32 → Int32 → Int32 → GH → Prop) (hh67 : ∀ n (l0 : Nat) (l1 : Int32) (l5 : Int32) (g : GH), I67 n l0 l1 l5 g → B_M_drive_67 Γ R_M_drive (fun l0 l1 l5 g => ∃ m, m < n ∧ I67 m l0 l1 l5 g) (fun l0 l1 l2 l3 l4 g => ∃ m, m < n ∧ I97 m l0 l1 l2 l3 l4 g) K l0 l1 l5 g) (hh97 : ∀ n (l0 : Nat) (l1 : Int32) (l2 : Int32) (l3 : Int32) (l4 : Int32) (g : GH), I97 n l0 l1 l2 l3 l4 g → B_M_drive_97 Γ R_M_drive (fun l0 l1 l5 g => ∃ m, m < n ∧ I67 m l0 l1 l5 g) (fun l0 l1 l2 l3 l4 g => ∃ m, m < n ∧ I97 m l0 l1 l2 l3 l4 g) K l0 l1 l2 l3 l4 g) (h0 : B_M_drive_0 Γ R_M_drive (fun l0 l1 l5 g => ∃ m, I67 m l0 l1 l5 g) (fun l0 l1 l2 l3 l4 g => ∃ m, I97 m l0 l1 l2 l3 l4 g) K th p0 p1 p2 g) : MetA Γ l yX11_drive cX11_drive 6 none fr lo [.ref th, .int p0, .int p1, .int p2] g (fun r g' => r = none ∧ K g') := by
  refine MetA.introL (Lx := [some (.ref th), some (.int p0), some (.int p1), some (.int p2), none, none]) (by decide) (Nat.le_of_ble_eq_true rfl) rfl rfl ?_
  intro E hEl hE hnm
  have hR_M_drive := hR_M_drive; rw [← hEl] at hR_M_drive
  have hall : ∀ n, (∀ (l0 : Nat) (l1 : Int32) (l5 : Int32) (g : GH), I67 n l0 l1 l5 g → JW Γ E 67 [some (.ref l0), some (.int l1), none, none, none, some (.int l5)] [] g) ∧ (∀ (l0 : Nat) (l1 : Int32) (l2 : Int32) (l3 : Int32) (l4 : Int32) (g : GH), I97 n l0 l1 l2 l3 l4 g → JW Γ E 97 [some (.ref l0), some (.int l1), some (.int l2), some (.int l3), some (.int l4), none] [] g) := by
    intro n
    induction n using Nat.strongRecOn with
    | ind n ih =>
      exact ⟨fun l0 l1 l5 g hi => S_M_drive_67 hE hfr hlo hR_M_drive (fun l0 l1 l5 g hm => by obtain ⟨m, hm, h⟩ := hm; exact (ih m hm).1 l0 l1 l5 g h) (fun l0 l1 l2 l3 l4 g hm => by obtain ⟨m, hm, h⟩ := hm; exact (ih m hm).2 l0 l1 l2 l3 l4 g h) l0 l1 l5 g (hh67 n l0 l1 l5 g hi), fun l0 l1 l2 l3 l4 g hi => S_M_drive_97 hE hfr hlo hR_M_drive (fun l0 l1 l5 g hm => by obtain ⟨m, hm, h⟩ := hm; exact (ih m hm).1 l0 l1 l5 g h) (fun l0 l1 l2 l3 l4 g hm => by obtain ⟨m, hm, h⟩ := hm; exact (ih m hm).2 l0 l1 l2 l3 l4 g h) l0 l1 l2 l3 l4 g (hh97 n l0 l1 l2 l3 l4 g hi)⟩
  exact S_M_drive_0 hE hfr hlo hR_M_drive (fun l0 l1 l5 g hm => by obtain ⟨m, h⟩ := hm; exact (hall m).1 l0 l1 l5 g h) (fun l0 l1 l2 l3 l4 g hm => by obtain ⟨m, h⟩ := hm; exact (hall m).2 l0 l1 l2 l3 l4 g h) th p0 p1 p2 g h0
theorem v_rd {s : ST} (hw : WF s) {a b : Nat} (ha : a < 9) (hb : b < 9) (h : a ≠ b) : s_roa s (9 * a + b) = nI (vRd s a b) ∧ 1 ≤ vRd s a b ∧ vRd s a b ≤ 300 := by
  obtain ⟨h1, h2, _⟩ := hw.roa a b ha hb h
  have hn := nj_of (show 0 ≤ s_roa s (9 * a + b) by grind)
  rw [hn.1] at h1 h2
  exact ⟨hn.1, (nj_le (a := 1) (by omega) hn.2).mp h1, (nj_le (b := 300) hn.2 (by omega)).mp h2⟩
theorem v_bx {s : ST} (hw : WF s) {b : Nat} (h : vSt s b = true) : b < 8 ∧ ∃ x, s_box s b = some x ∧ x.1 = nI (vFr s b) ∧ x.2 = nI (vTo s b) ∧ vFr s b ≤ vTo s b ∧ vTo s b ≤ 1440 := by
  unfold vSt at h
  unfold vFr vTo
  obtain ⟨x, hx⟩ := Option.isSome_iff_exists.mp h
  obtain ⟨h1, h2, h3⟩ := hw.box b x hx
  have hn1 := nj_of h2.1
  have hn2 := nj_of (show 0 ≤ x.2 by grind)
  rw [hx, Option.getD_some]
  have h4 := h3.1
  have h5 := h3.2
  rw [hn1.1, hn2.1] at h4
  rw [hn2.1] at h5
  exact ⟨h1, x, rfl, hn1.1, hn2.1, (nj_le hn1.2 hn2.2).mp h4, (nj_le (b := 1440) hn2.2 (by omega)).mp h5⟩
theorem v_sp {s : ST} (hw : WF s) : s_stp s = nI (vSp s) ∧ vSp s ≤ 30 := by
  obtain ⟨h1, h2⟩ := hw.stp
  have hn := nj_of h1
  rw [hn.1] at h2
  exact ⟨hn.1, (nj_le (b := 30) hn.2 (by omega)).mp h2⟩
theorem VS.cg {m : Nat} {g g' : GH} {s : ST} {path : List Nat} {st : VB} (h : VS m g s path st) (e1 : Gi g' 1625 m = Gi g 1625 m) (e2 : Gi g' 1624 m = Gi g 1624 m) (e3 : Ia g' 1622 m = Ia g 1622 m) (e4 : Ia g' 1621 m = Ia g 1621 m) (e5 : Ia g' 1620 m = Ia g 1620 m) : VS m g' s path st := by
  unfold VS
  rw [e1, e2, e3, e4, e5]
  exact h
theorem mx_nI {a b : Nat} (ha : a < 2147483648) (hb : b < 2147483648) : (if nI a < nI b then nI b else nI a) = nI (max a b) := by
  split
  · rename_i q; have := (nj_lt ha hb).mp q; rw [Nat.max_eq_right (by omega)]
  · rename_i q
    have : ¬ a < b := fun w => q ((nj_lt ha hb).mpr w)
    rw [Nat.max_eq_left (by omega)]
theorem mt_dr1 {Γ : GAM} {l : Launch} (n : Nat) (hrec : ∀ (th : Nat) (p0 p1 p2 : Int32) (g : GH) (K : GH → Prop), SpE n Γ th p0 p1 p2 g K → MetA Γ l yX11_drive cX11_drive 6 none n (60 * n) [.ref th, .int p0, .int p1, .int p2] g (fun r g' => r = none ∧ K g')) (f lo : Nat) (hf : n + 1 ≤ f) (hlo : 30 + 60 * n ≤ lo) (th : Nat) (p0 p1 p2 : Int32) (g : GH) (K : GH → Prop) (h : SpD n Γ th p0 p1 p2 g K) : MetA Γ l yX11_drive cX11_drive 6 none f lo [.ref th, .int p0, .int p1, .int p2] g (fun r g' => r = none ∧ K g') := by
  obtain ⟨ma, s, path, st, at', t, hI, hw, hpl, hN1, rfl, rfl, rfl, ht, hat, hv, hK⟩ := h
  have hN := vN_le s
  have hspl := v_sp hw
  have hat9 : at' < 9 := by rcases hat with ⟨_, q⟩ | ⟨q, _⟩ <;> omega
  refine rl_M_drive (R_M_drive := SpE n Γ) (f_M_drive := n) (l_M_drive := 60 * n) (by omega) (by omega) ⟨⟨hf, by omega⟩, hrec⟩
    (fun n' l0 l1 l5 g' => th = l0 ∧ nI path.length = l1 ∧ n = 0 ∧ vUp st (t + vRd s at' 8) path = some (t + vRd s at' 8, path) ∧ t + vRd s at' 8 ≤ 2000 ∧ ∃ i, i ≤ path.length ∧ n' = path.length - i ∧ l5 = nI i ∧ FrX th [1624] [1620, 1621, 1622] g g' ∧ Gi g' 1625 th = nI (vN s) ∧ Gi g' 1624 th = nI (t + vRd s at' 8) ∧ (∀ j x, j < i → path[j]? = some x → Ia g' 1622 th j = nI x) ∧ (∀ i x, path[i]? = some x → Ia g' 1621 th i = nI x) ∧ ∀ b, b < 8 → Ia g' 1620 th b = if b ∈ path then 1 else 0)
    (fun n' l0 l1 l2 l3 l4 g' => th = l0 ∧ nI path.length = l1 ∧ nI at' = l2 ∧ nI t = l3 ∧ 1 ≤ n ∧ ∃ b, b ≤ 8 ∧ n' = 8 - b ∧ l4 = nI b ∧ FrX th [1624] [1620, 1621, 1622] g g' ∧ VS th g' s path (((List.range 8).take b).foldl (fun st b => if vMay s path at' t b then vDr s (n - 1) (path ++ [b]) b (vAr s at' b t) st else st) st)) ?_ ?_ ?_
  · rintro n' l0 l1 l5 g' ⟨rfl, rfl, hn0, hu, hhm, i, hi, rfl, rfl, hfx, v1, v2, v3, v4, v5⟩
    have hI' := hI.x hfx (by decide +kernel)
    obtain ⟨hkd, hS⟩ := hI'.1
    obtain ⟨z_bestTrip1, z_bestTrip2, z_bestTrip3, z_bestTrip4, z_bestTrip5⟩ := hS 1622 20 8 rfl
    obtain ⟨z_trip1, z_trip2, z_trip3, z_trip4, z_trip5⟩ := hS 1621 20 8 rfl
    suffices H : ∀ (K67 : Nat → Int32 → Int32 → GH → Prop) (K97 : Nat → Int32 → Int32 → Int32 → Int32 → GH → Prop), (∀ g2, i < path.length → FrX th [1624] [1620, 1621, 1622] g g2 → Gi g2 1625 th = nI (vN s) → Gi g2 1624 th = nI (t + vRd s at' 8) → (∀ j x, j < i + 1 → path[j]? = some x → Ia g2 1622 th j = nI x) → (∀ i x, path[i]? = some x → Ia g2 1621 th i = nI x) → (∀ b, b < 8 → Ia g2 1620 th b = if b ∈ path then 1 else 0) → K67 th (nI path.length) (nI (i + 1)) g2) → B_M_drive_67 Γ (SpE n Γ) K67 K97 K th (nI path.length) (nI i) g' from
      H _ _ (fun g2 hlt h1 h2 h3 h4 h5 h6 => ⟨path.length - (i + 1), by omega, rfl, rfl, hn0, hu, hhm, i + 1, by omega, rfl, rfl, h1, h2, h3, h4, h5, h6⟩)
    intro K67 K97 h67
    unfold B_M_drive_67 B_M_drive_93
    simp only [hkd, z_bestTrip1, z_bestTrip2, z_bestTrip3, z_bestTrip4, z_bestTrip5, z_trip1, z_trip2, z_trip3, z_trip4, z_trip5, Option.some.injEq, exists_eq_left', true_and, nj_s, nj_cl (show i < 2147483648 by omega), nj_le (show path.length < 2147483648 by omega) (show i < 2147483648 by omega)]
    refine ⟨fun z => ?_, fun z => ⟨inB_nI (by omega) (by omega), inB_nI (by omega) (by omega), fun g2 hg2 => ?_⟩⟩
    · refine hK g' hfx ?_
      subst hn0
      show VS th g' s path (vUp st (t + vRd s at' 8) path)
      rw [hu]
      refine ⟨v1, v2, fun p hp => ?_, v4, v5⟩
      cases hp
      exact ⟨hhm, fun j x hx => v3 j x (by have h9 : j < path.length := (List.getElem?_eq_some_iff.mp hx).1; omega) hx⟩
    · obtain ⟨x, hx⟩ := get_lt (show i < path.length by omega)
      refine h67 g2 (by omega) (hfx.tr (by rw [hg2]; exact FrX.sA (by decide))) (by rw [hg2]; exact v1) (by rw [hg2]; exact v2) (fun j y hj hy => ?_) (fun j y hy => ?_) (fun b hb => ?_)
      · rw [hg2, Ia_sA]
        by_cases u : j = i
        · subst u; rw [if_pos ⟨rfl, rfl, rfl⟩]; exact v4 j y hy
        · rw [if_neg (fun q => u q.2.2)]; exact v3 j y (by omega) hy
      · rw [hg2, Ia_sA, if_neg (fun q => absurd q.1 (by decide))]; exact v4 j y hy
      · rw [hg2, Ia_sA, if_neg (fun q => absurd q.1 (by decide))]; exact v5 b hb
  · rintro n' l0 l1 l2 l3 l4 g' ⟨rfl, rfl, rfl, rfl, hn1, b, hb, rfl, rfl, hfx, hV⟩
    have hI' := hI.x hfx (by decide +kernel)
    obtain ⟨hkd, hS⟩ := hI'.1
    obtain ⟨v1, v2, v3, v4, v5⟩ := id hV
    obtain ⟨z_stands1, z_stands2, z_stands3, z_stands4, z_stands5⟩ := hS 1617 21 8 rfl
    obtain ⟨z_been1, z_been2, z_been3, z_been4, z_been5⟩ := hS 1620 21 8 rfl
    obtain ⟨z_roads1, z_roads2, z_roads3, z_roads4, z_roads5⟩ := hS 1616 20 81 rfl
    obtain ⟨z_openTo1, z_openTo2, z_openTo3, z_openTo4, z_openTo5⟩ := hS 1619 20 8 rfl
    obtain ⟨z_openFrom1, z_openFrom2, z_openFrom3, z_openFrom4, z_openFrom5⟩ := hS 1618 20 8 rfl
    obtain ⟨z_trip1, z_trip2, z_trip3, z_trip4, z_trip5⟩ := hS 1621 20 8 rfl
    obtain ⟨m, rfl⟩ : ∃ m, n = m + 1 := ⟨n - 1, by omega⟩
    rw [Nat.add_sub_cancel] at *
    suffices H : ∀ (K67 : Nat → Int32 → Int32 → GH → Prop) (K97 : Nat → Int32 → Int32 → Int32 → Int32 → GH → Prop), (∀ g2, b < 8 → FrX th [1624] [1620, 1621, 1622] g g2 → VS th g2 s path (if vMay s path at' t b then vDr s m (path ++ [b]) b (vAr s at' b t) (((List.range 8).take b).foldl (fun st b => if vMay s path at' t b then vDr s m (path ++ [b]) b (vAr s at' b t) st else st) st) else (((List.range 8).take b).foldl (fun st b => if vMay s path at' t b then vDr s m (path ++ [b]) b (vAr s at' b t) st else st) st)) → K97 th (nI path.length) (nI at') (nI t) (nI (b + 1)) g2) → B_M_drive_97 Γ (SpE (m + 1) Γ) K67 K97 K th (nI path.length) (nI at') (nI t) (nI b) g' from
      H _ _ (fun g2 hlt h1 h2 => ⟨8 - (b + 1), by omega, rfl, rfl, rfl, rfl, hn1, b + 1, by omega, rfl, rfl, h1, by rw [fold_take _ _ _ (range_get hlt)]; exact h2⟩)
    generalize hF : ((List.range 8).take b).foldl (fun st b => if vMay s path at' t b then vDr s m (path ++ [b]) b (vAr s at' b t) st else st) st = F at hV v2 v3
    intro K67 K97 h97
    unfold B_M_drive_97 B_M_drive_205
    have h8 : ((8 : Int32) ≤ nI b) ↔ 8 ≤ b := nj_le (a := 8) (by omega) (by omega)
    rw [h8, nj_s]
    refine ⟨fun z => ?_, fun z => ?_⟩
    · have hb8 : b = 8 := by omega
      subst hb8
      refine hK g' hfx ?_
      show VS th g' s path ((List.range 8).foldl (fun st b => if vMay s path at' t b then vDr s m (path ++ [b]) b (vAr s at' b t) st else st) st)
      rw [show (List.range 8).take 8 = List.range 8 from rfl] at hF
      rw [hF]; exact hV
    · have hb8 : b < 8 := by omega
      have hib := inB_nI hb8 (by omega)
      have hcb := nj_cl (show b < 2147483648 by omega)
      have hbx := hI'.box b hb8
      have hno : ¬ vMay s path at' t b → K97 th (nI path.length) (nI at') (nI t) (nI (b + 1)) g' := fun q => h97 g' hb8 hfx (by rw [if_neg q]; exact hV)
      refine ⟨hkd, _, z_stands1, z_stands2, by rw [z_stands5]; exact hib, ?_⟩
      rw [z_stands3, z_stands4, hcb]
      refine ⟨fun u => hno (fun q => ?_), fun u => ?_⟩
      · obtain ⟨_, x, hx, _⟩ := v_bx hw q.1
        rw [(hbx.2 x hx).1] at u
        exact absurd u (by decide)
      · have hst : vSt s b = true := by
          unfold vSt
          cases hbb : s_box s b with
          | none => exact absurd (hbx.1 hbb) u
          | some x => rfl
        obtain ⟨_, x, hx, hx1, hx2, hx3, hx4⟩ := v_bx hw hst
        refine ⟨hkd, _, z_been1, z_been2, by rw [z_been5]; exact hib, ?_⟩
        rw [z_been3, z_been4, v5 b hb8]
        refine ⟨fun u2 => ?_, fun u2 => hno (fun q => by rw [if_neg q.2.1] at u2; exact u2 rfl)⟩
        have hnb : b ∉ path := fun q => by rw [if_pos q] at u2; exact absurd u2 (by decide)
        have hne : at' ≠ b := by
          rcases hat with ⟨_, q⟩ | ⟨_, q⟩
          · omega
          · intro e; exact hnb (e ▸ q)
        obtain ⟨r1, r2, r3⟩ := v_rd hw hat9 (show b < 9 by omega) hne
        have hmul : (9 : Int32) * nI at' + nI b = nI (9 * at' + b) := by
          have : (9 : Int32) = nI 9 := rfl
          rw [this, nj_mul, nI_add]
        rw [hmul]
        refine ⟨hkd, _, z_roads1, z_roads2, by rw [z_roads5]; exact inB_nI (by omega) (by omega), ?_⟩
        rw [z_roads3, z_roads4, nj_cl (show 9 * at' + b < 2147483648 by omega), hI'.roa at' b hat9 (by omega) hne, r1, nI_add]
        rintro x4 rfl
        refine ⟨hkd, _, z_openTo1, z_openTo2, by rw [z_openTo5]; exact hib, ?_⟩
        rw [z_openTo3, z_openTo4, (hbx.2 x hx).2.2, hx2, nj_lt (by omega) (by omega)]
        refine ⟨fun u3 => hno (fun q => by have := q.2.2; omega), fun u3 => ?_⟩
        have hmay : vMay s path at' t b := ⟨hst, hnb, by omega⟩
        refine ⟨hkd, _, z_been1, z_been2, by rw [z_been5]; exact hib, .inr rfl, ?_⟩
        rw [z_been3, z_been4]
        intro g7 hg7
        have hf7 : FrX th [1624] [1620, 1621, 1622] g' g7 := by rw [hg7]; exact FrX.sA (by decide)
        have hI7 := hI'.x hf7 (by decide +kernel)
        obtain ⟨hkd7, hS7⟩ := hI7.1
        have hpl8 : path.length < 8 := by omega
        obtain ⟨z_trip1, z_trip2, z_trip3, z_trip4, z_trip5⟩ := hS7 1621 20 8 rfl
        refine ⟨hkd7, _, z_trip1, z_trip2, by rw [z_trip5]; exact inB_nI hpl8 (by omega), ?_⟩
        rw [z_trip3, z_trip4, nj_cl (show path.length < 2147483648 by omega)]
        intro g9 hg9
        have hf9 : FrX th [1624] [1620, 1621, 1622] g' g9 := hf7.tr (by rw [hg9]; exact FrX.sA (by decide))
        have hI9 := hI'.x hf9 (by decide +kernel)
        obtain ⟨hkd9, hS9⟩ := hI9.1
        obtain ⟨z_openFrom1, z_openFrom2, z_openFrom3, z_openFrom4, z_openFrom5⟩ := hS9 1618 20 8 rfl
        obtain ⟨z_been1, z_been2, z_been3, z_been4, z_been5⟩ := hS9 1620 21 8 rfl
        have hmax : (if nI (t + vRd s at' b) < nI (vFr s b) then nI (vFr s b) else nI (t + vRd s at' b)) + nI (vSp s) = nI (vAr s at' b t) := by
          rw [mx_nI (by omega) (by omega), nI_add]; rfl
        refine ⟨hkd9, _, z_openFrom1, z_openFrom2, by rw [z_openFrom5]; exact hib, hkd9, hkd9, ?_⟩
        rw [z_openFrom3, z_openFrom4, ((hI9.box b hb8).2 x hx).2.1, hx1, hI9.stp, hspl.1, hmax, nj_s]
        have hg9b : ∀ i, Ia g9 1620 th i = if i = b then 1 else Ia g' 1620 th i := fun i => by
          rw [hg9, Ia_sA, if_neg (fun q => absurd q.1 (by decide)), hg7, Ia_sA]; simp
        have hg9t : ∀ i, Ia g9 1621 th i = if i = path.length then nI b else Ia g' 1621 th i := fun i => by
          rw [hg9, Ia_sA, hg7]
          by_cases q : i = path.length
          · rw [if_pos ⟨rfl, rfl, q⟩, if_pos q]
          · rw [if_neg (fun z => q z.2.2), if_neg q, Ia_sA, if_neg (fun q => absurd q.1 (by decide))]
        have hg9s : Ia g9 1622 th = Ia g' 1622 th := by
          rw [hg9, hg7]; funext i; rw [Ia_sA, if_neg (fun q => absurd q.1 (by decide)), Ia_sA, if_neg (fun q => absurd q.1 (by decide))]
        have hV9 : VS th g9 s (path ++ [b]) F := by
          refine ⟨by rw [hg9, hg7]; exact v1, by rw [hg9, hg7]; exact v2, by rw [hg9s]; exact v3, fun i y hy => ?_, fun c hc => ?_⟩
          · rw [hg9t i]
            rw [List.getElem?_append] at hy
            split at hy
            · rw [if_neg (by omega)]; exact v4 i y hy
            · have hi2 := (List.getElem?_eq_some_iff.mp hy).1
              simp at hi2
              have hi3 : i = path.length := by omega
              subst hi3
              simp at hy
              rw [if_pos rfl, hy]
          · rw [hg9b c, v5 c hc]
            by_cases q : c = b
            · rw [if_pos q, if_pos (by rw [q]; simp)]
            · rw [if_neg q]
              have : (c ∈ path ++ [b]) ↔ c ∈ path := by simp [q]
              simp only [this]
        refine ⟨ma, s, path ++ [b], F, b, vAr s at' b t, hI9, hw, by rw [List.length_append]; simp; omega, hN1, by rw [List.length_append]; rfl, rfl, rfl, ?_, .inr ⟨hb8, by simp⟩, hV9, fun g11 hx11 hV11 => ?_⟩
        · unfold vAr; omega
        · have hf11 := hf9.tr hx11
          have hI11 := hI'.x hf11 (by decide +kernel)
          obtain ⟨hkd11, hS11⟩ := hI11.1
          obtain ⟨y1, y2, y3, y4, y5⟩ := hV11
          obtain ⟨z_been1, z_been2, z_been3, z_been4, z_been5⟩ := hS11 1620 21 8 rfl
          refine ⟨hkd11, _, z_been1, z_been2, by rw [z_been5]; exact hib, .inl rfl, ?_⟩
          rw [z_been3, z_been4]
          intro g13 hg13
          refine h97 g13 hb8 (hfx.tr (hf11.tr (by rw [hg13]; exact FrX.sA (by decide)))) ?_
          rw [if_pos hmay]
          refine ⟨by rw [hg13]; exact y1, by rw [hg13]; exact y2, fun p hp => ⟨(y3 p hp).1, fun i y hy => ?_⟩, fun i y hy => ?_, fun c hc => ?_⟩
          · rw [hg13, Ia_sA, if_neg (fun q => absurd q.1 (by decide))]; exact (y3 p hp).2 i y hy
          · rw [hg13, Ia_sA, if_neg (fun q => absurd q.1 (by decide))]
            refine y4 i y ?_
            rw [List.getElem?_append_left (List.getElem?_eq_some_iff.mp hy).1]; exact hy
          · rw [hg13, Ia_sA]
            by_cases q : c = b
            · rw [if_pos ⟨rfl, rfl, q⟩, if_neg (by rw [q]; exact hnb)]
            · rw [if_neg (fun w => q w.2.2), y5 c hc]
              have : (c ∈ path ++ [b]) ↔ c ∈ path := by simp [q]
              simp only [this]
  · obtain ⟨v1, v2, v3, v4, v5⟩ := id hv
    obtain ⟨hkd, hS⟩ := hI.1
    obtain ⟨z_roads1, z_roads2, z_roads3, z_roads4, z_roads5⟩ := hS 1616 20 81 rfl
    have hr8 : n = 0 → s_roa s (9 * at' + 8) = nI (vRd s at' 8) ∧ vRd s at' 8 ≤ 300 ∧ at' ≠ 8 := fun q => by
      have : at' ≠ 8 := by
        rcases hat with ⟨z, _⟩ | ⟨z, _⟩
        · subst z; simp at hpl; omega
        · omega
      have := v_rd hw hat9 (show 8 < 9 by omega) this
      exact ⟨this.1, this.2.2, by assumption⟩
    have h17 : ∀ (K67 : Nat → Int32 → Int32 → GH → Prop) (K97 : Nat → Int32 → Int32 → Int32 → Int32 → GH → Prop), (1 ≤ n → K97 th (nI path.length) (nI at') (nI t) 0 g) → (∀ g2, n = 0 → vUp st (t + vRd s at' 8) path = some (t + vRd s at' 8, path) → t + vRd s at' 8 ≤ 2000 → FrX th [1624] [1620, 1621, 1622] g g2 → g2 = sI g 1624 th (nI (t + vRd s at' 8)) → K67 th (nI path.length) 0 g2) → B_M_drive_17 Γ (SpE n Γ) K67 K97 K th (nI path.length) (nI at') (nI t) g := by
      intro K67 K97 h97 h67
      unfold B_M_drive_17
      rw [v1, nj_eq (by omega) (by omega)]
      refine ⟨hkd, fun u => h97 (by omega), fun u => ?_⟩
      have hn0 : n = 0 := by omega
      obtain ⟨r1, r2, r3⟩ := hr8 hn0
      have hmul : (9 : Int32) * nI at' + (8 : Int32) = nI (9 * at' + 8) := by
        have : (9 : Int32) = nI 9 := rfl
        have h8 : (8 : Int32) = nI 8 := rfl
        rw [this, h8, nj_mul, nI_add]
      rw [hmul]
      refine ⟨hkd, _, z_roads1, z_roads2, by rw [z_roads5]; exact inB_nI (by omega) (by omega), ?_⟩
      rw [z_roads3, z_roads4, nj_cl (show 9 * at' + 8 < 2147483648 by omega), hI.roa at' 8 hat9 (by omega) r3, r1, nI_add]
      rintro x2 rfl
      have h58 : vUp st (t + vRd s at' 8) path = some (t + vRd s at' 8, path) → B_M_drive_58 Γ (SpE n Γ) K67 K97 K th (nI path.length) (nI (t + vRd s at' 8)) g := fun q => by
        unfold B_M_drive_58
        exact ⟨hkd, fun g1 hg1 => h67 g1 hn0 q (by omega) (by rw [hg1]; exact FrX.sI (by decide)) hg1⟩
      refine ⟨hkd, fun u2 => ?_, fun u2 => ⟨hkd, fun u3 => ?_, fun u3 => ?_⟩⟩
      · refine h58 ?_
        cases st with
        | none => rfl
        | some p => rw [v2] at u2; exact absurd u2 (nI_nm1 (by have := (v3 p rfl).1; omega))
      · cases st with
        | none => rw [v2] at u2; exact absurd rfl u2
        | some p =>
          have hp2 := (v3 p rfl).1
          rw [v2] at u3
          have u4 : p.1 ≤ t + vRd s at' 8 := (nj_le (show p.1 < 2147483648 by omega) (by omega)).mp u3
          unfold B_M_drive_93
          refine hK g FrX.rf ?_
          subst hn0
          show VS th g s path (if t + vRd s at' 8 < p.1 then _ else some p)
          rw [if_neg (by omega)]
          exact hv
      · cases st with
        | none => rw [v2] at u2; exact absurd rfl u2
        | some p =>
          have hp2 := (v3 p rfl).1
          rw [v2] at u3
          refine h58 ?_
          show (if t + vRd s at' 8 < p.1 then _ else some p) = _
          rw [if_pos]
          refine Classical.byContradiction (fun q => u3 ?_)
          exact (nj_le (show p.1 < 2147483648 by omega) (by omega)).mpr (by omega)
    have h17' := fun K67 K97 a b => h17 K67 K97 a b
    unfold B_M_drive_0
    refine ⟨hkd, fun u => ?_, fun u => ⟨hkd, fun u2 => ?_, fun u2 => ?_⟩⟩
    · refine h17 _ _ (fun hn => ⟨8 - 0, rfl, rfl, rfl, rfl, hn, 0, by omega, rfl, nj_0, FrX.rf, hv⟩) (fun g2 hn0 hu hh hf2 hg2 => ⟨path.length - 0, rfl, rfl, hn0, hu, hh, 0, Nat.zero_le _, rfl, nj_0, hf2, by rw [hg2, Gi_sI, if_neg (fun q => absurd q.1 (by decide))]; exact v1, by rw [hg2, Gi_sI, if_pos ⟨rfl, rfl⟩], fun j x hj => absurd hj (Nat.not_lt_zero _), by rw [hg2]; exact v4, by rw [hg2]; exact v5⟩)
    · refine h17 _ _ (fun hn => ⟨8 - 0, rfl, rfl, rfl, rfl, hn, 0, by omega, rfl, nj_0, FrX.rf, hv⟩) (fun g2 hn0 hu hh hf2 hg2 => ⟨path.length - 0, rfl, rfl, hn0, hu, hh, 0, Nat.zero_le _, rfl, nj_0, hf2, by rw [hg2, Gi_sI, if_neg (fun q => absurd q.1 (by decide))]; exact v1, by rw [hg2, Gi_sI, if_pos ⟨rfl, rfl⟩], fun j x hj => absurd hj (Nat.not_lt_zero _), by rw [hg2]; exact v4, by rw [hg2]; exact v5⟩)
    · refine hK g FrX.rf ?_
      cases st with
      | none => rw [v2] at u; exact absurd rfl u
      | some p =>
        have hp2 := (v3 p rfl).1
        rw [v2] at u2
        have u4 : p.1 ≤ t := Classical.byContradiction (fun q => u2 ((nj_lt (by omega) (show p.1 < 2147483648 by omega)).mpr (by omega)))
        have := vDr_lb s n path at' t p.1 p.2 u4
        rw [show (some p : VB) = some (p.1, p.2) from rfl, this]
        exact hv
theorem mt_dr {Γ : GAM} {l : Launch} : ∀ (n f lo : Nat), n + 1 ≤ f → 30 + 60 * n ≤ lo → ∀ (th : Nat) (p0 p1 p2 : Int32) (g : GH) (K : GH → Prop), SpD n Γ th p0 p1 p2 g K → MetA Γ l yX11_drive cX11_drive 6 none f lo [.ref th, .int p0, .int p1, .int p2] g (fun r g' => r = none ∧ K g') := by
  intro n
  induction n with
  | zero => exact fun f lo hf hlo => mt_dr1 0 (fun _ _ _ _ _ _ h => h.elim) f lo hf hlo
  | succ n ih => exact fun f lo hf hlo => mt_dr1 (n + 1) (fun th p0 p1 p2 g K h => ih (n + 1) (60 * (n + 1)) (by omega) (by omega) th p0 p1 p2 g K h) f lo hf hlo
def Sp_M_drive (Γ : GAM) (m : Nat) (p0 p1 p2 : Int32) (g : GH) (K : GH → Prop) : Prop := ∃ n, n ≤ 8 ∧ SpD n Γ m p0 p1 p2 g K
theorem mt_M_drive {Γ : GAM} {l : Launch} (th : Nat) (p0 : Int32) (p1 : Int32) (p2 : Int32) (g : GH) (K : GH → Prop) (h : Sp_M_drive Γ th p0 p1 p2 g K) : MetA Γ l yX11_drive cX11_drive 6 none 9 510 [.ref th, .int p0, .int p1, .int p2] g (fun r g' => r = none ∧ K g') := by
  obtain ⟨n, hn, h⟩ := h
  exact mt_dr n 9 510 (by omega) (by omega) th p0 p1 p2 g K h
