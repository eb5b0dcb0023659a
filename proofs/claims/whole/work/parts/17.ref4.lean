/-! the reference: words, signs, booths, who was sent what (scans, by a template) -/
def woS (e h q : Int32) (a : Int32) (x : Int32 × Int32 × Int32 × Int32) : Int32 := if x.1 = e ∧ x.2.1 = h ∧ x.2.2.1 ≤ q then (if x.2.2.2 = 0 then 0 else 1) else a
def sWord (s : ST) (e h q : Int32) : Int32 := (s_tel s).foldl (woS e h q) (-1)
def Sp_M_wordOf (Γ : GAM) (m : Nat) (e h q : Int32) (g : GH) (K : Int32 → GH → Prop) : Prop := ∃ ma s, RefI m ma g s ∧ K (sWord s e h q) g
def J_M_wordOf (s : ST) (th : Nat) (p0 : Int32) (p1 : Int32) (p2 : Int32) (g : GH) (n : Nat) (l0 : Nat) (l1 : Int32) (l2 : Int32) (l3 : Int32) (l4 : Int32) (l5 : Int32) (g' : GH) : Prop := g = g' ∧ th = l0 ∧ p0 = l1 ∧ p1 = l2 ∧ p2 = l3 ∧ ∃ k, k ≤ (s_tel s).length ∧ n = (s_tel s).length - k ∧ l5 = nI k ∧ l4 = ((s_tel s).take k).foldl (woS p0 p1 p2) (-1)
-- the walk of M_wordOf
set_option maxRecDepth 100000 in
def B_M_wordOf_65 (Γ : GAM) (K6 : Nat → Int32 → Int32 → Int32 → Int32 → Int32 → GH → Prop) (K : Int32 → GH → Prop) (l0 : Nat) (l1 : Int32) (l2 : Int32) (l3 : Int32) (l4 : Int32) (l5 : Int32) (g : GH) : Prop :=
  K6 l0 l1 l2 l3 l4 (l5 + (1 : Int32)) g
set_option maxHeartbeats 4000000 in
set_option maxRecDepth 100000 in
theorem S_M_wordOf_65 {Γ : GAM} {E : EV} {K : Int32 → GH → Prop} (hE : GE Γ E cX11_wordOf 6 RX11 (some (.int)) 0 0 (fun r g' => ∃ x, r = some (.int x) ∧ K x g')) {K6 : Nat → Int32 → Int32 → Int32 → Int32 → Int32 → GH → Prop} (hK6 : ∀ (l0 : Nat) (l1 : Int32) (l2 : Int32) (l3 : Int32) (l4 : Int32) (l5 : Int32) (g : GH), K6 l0 l1 l2 l3 l4 l5 g → JW Γ E 6 [some (.ref l0), some (.int l1), some (.int l2), some (.int l3), some (.int l4), some (.int l5)] [] g) (l0 : Nat) (l1 : Int32) (l2 : Int32) (l3 : Int32) (l4 : Int32) (l5 : Int32) (g : GH) (h : B_M_wordOf_65 Γ K6 K l0 l1 l2 l3 l4 l5 g) : JW Γ E 65 [some (.ref l0), some (.int l1), some (.int l2), some (.int l3), some (.int l4), some (.int l5)] [] g := by
  unfold B_M_wordOf_65 at h
  refine j_iinc hE (by decide +kernel : decode cX11_wordOf 65 = .ok (.iinc 5 1, 3)) (v := (1 : Int32)) (by decide) rfl (Nat.le_of_ble_eq_true rfl) rfl ?_
  refine j_goto hE (by decide +kernel : decode cX11_wordOf 68 = .ok (.goto (-62), 3)) (tgt := 6) (by decide) ?_
  exact hK6 _ _ _ _ _ _ _ h
set_option maxRecDepth 100000 in
def B_M_wordOf_63 (Γ : GAM) (K6 : Nat → Int32 → Int32 → Int32 → Int32 → Int32 → GH → Prop) (K : Int32 → GH → Prop) (l0 : Nat) (l1 : Int32) (l2 : Int32) (l3 : Int32) (l5 : Int32) (s0 : Int32) (g : GH) : Prop :=
  B_M_wordOf_65 Γ K6 K l0 l1 l2 l3 s0 l5 g
set_option maxHeartbeats 4000000 in
set_option maxRecDepth 100000 in
theorem S_M_wordOf_63 {Γ : GAM} {E : EV} {K : Int32 → GH → Prop} (hE : GE Γ E cX11_wordOf 6 RX11 (some (.int)) 0 0 (fun r g' => ∃ x, r = some (.int x) ∧ K x g')) {K6 : Nat → Int32 → Int32 → Int32 → Int32 → Int32 → GH → Prop} (hK6 : ∀ (l0 : Nat) (l1 : Int32) (l2 : Int32) (l3 : Int32) (l4 : Int32) (l5 : Int32) (g : GH), K6 l0 l1 l2 l3 l4 l5 g → JW Γ E 6 [some (.ref l0), some (.int l1), some (.int l2), some (.int l3), some (.int l4), some (.int l5)] [] g) (l0 : Nat) (l1 : Int32) (l2 : Int32) (l3 : Int32) (l5 : Int32) (s0 : Int32) (g : GH) (h : B_M_wordOf_63 Γ K6 K l0 l1 l2 l3 l5 s0 g) : JW Γ E 63 [some (.ref l0), some (.int l1), some (.int l2), some (.int l3), none, some (.int l5)] [.int s0] g := by
  unfold B_M_wordOf_63 at h
  refine j_istore hE (by decide +kernel : decode cX11_wordOf 63 = .ok (.istore 4, 2)) (Nat.le_of_ble_eq_true rfl) rfl ?_
  exact S_M_wordOf_65 hE hK6 _ _ _ _ _ _ _ h
set_option maxRecDepth 100000 in
def B_M_wordOf_6 (Γ : GAM) (K6 : Nat → Int32 → Int32 → Int32 → Int32 → Int32 → GH → Prop) (K : Int32 → GH → Prop) (l0 : Nat) (l1 : Int32) (l2 : Int32) (l3 : Int32) (l4 : Int32) (l5 : Int32) (g : GH) : Prop :=
  Kd g l0 = 13 ∧ (((Gi g 1543 l0) ≤ l5 → K l4 g) ∧ (¬ ((Gi g 1543 l0) ≤ l5) → Kd g l0 = 13 ∧ ∃ a1 : Nat, Gr g 1574 l0 = some a1 ∧ Kd g a1 = 20 ∧ inB l5 (Ln g a1) ∧ ((¬ ((Ia g (Co g a1) (Ow g a1) l5.toNatClampNeg) = l1) → B_M_wordOf_65 Γ K6 K l0 l1 l2 l3 l4 l5 g) ∧ ((Ia g (Co g a1) (Ow g a1) l5.toNatClampNeg) = l1 → Kd g l0 = 13 ∧ ∃ a2 : Nat, Gr g 1575 l0 = some a2 ∧ Kd g a2 = 20 ∧ inB l5 (Ln g a2) ∧ ((¬ ((Ia g (Co g a2) (Ow g a2) l5.toNatClampNeg) = l2) → B_M_wordOf_65 Γ K6 K l0 l1 l2 l3 l4 l5 g) ∧ ((Ia g (Co g a2) (Ow g a2) l5.toNatClampNeg) = l2 → Kd g l0 = 13 ∧ ∃ a3 : Nat, Gr g 1576 l0 = some a3 ∧ Kd g a3 = 20 ∧ inB l5 (Ln g a3) ∧ ((l3 < (Ia g (Co g a3) (Ow g a3) l5.toNatClampNeg) → B_M_wordOf_65 Γ K6 K l0 l1 l2 l3 l4 l5 g) ∧ (¬ (l3 < (Ia g (Co g a3) (Ow g a3) l5.toNatClampNeg)) → Kd g l0 = 13 ∧ ∃ a4 : Nat, Gr g 1577 l0 = some a4 ∧ Kd g a4 = 21 ∧ inB l5 (Ln g a4) ∧ (((Ia g (Co g a4) (Ow g a4) l5.toNatClampNeg) = 0 → B_M_wordOf_63 Γ K6 K l0 l1 l2 l3 l5 (0 : Int32) g) ∧ (¬ ((Ia g (Co g a4) (Ow g a4) l5.toNatClampNeg) = 0) → B_M_wordOf_63 Γ K6 K l0 l1 l2 l3 l5 (1 : Int32) g))))))))))
set_option maxHeartbeats 4000000 in
set_option maxRecDepth 100000 in
theorem S_M_wordOf_6 {Γ : GAM} {E : EV} {K : Int32 → GH → Prop} (hE : GE Γ E cX11_wordOf 6 RX11 (some (.int)) 0 0 (fun r g' => ∃ x, r = some (.int x) ∧ K x g')) {K6 : Nat → Int32 → Int32 → Int32 → Int32 → Int32 → GH → Prop} (hK6 : ∀ (l0 : Nat) (l1 : Int32) (l2 : Int32) (l3 : Int32) (l4 : Int32) (l5 : Int32) (g : GH), K6 l0 l1 l2 l3 l4 l5 g → JW Γ E 6 [some (.ref l0), some (.int l1), some (.int l2), some (.int l3), some (.int l4), some (.int l5)] [] g) (l0 : Nat) (l1 : Int32) (l2 : Int32) (l3 : Int32) (l4 : Int32) (l5 : Int32) (g : GH) (h : B_M_wordOf_6 Γ K6 K l0 l1 l2 l3 l4 l5 g) : JW Γ E 6 [some (.ref l0), some (.int l1), some (.int l2), some (.int l3), some (.int l4), some (.int l5)] [] g := by
  unfold B_M_wordOf_6 at h
  refine j_iload hE (by decide +kernel : decode cX11_wordOf 6 = .ok (.iload 5, 2)) rfl ?_
  refine j_aload_n hE (by decide +kernel : decode cX11_wordOf 8 = .ok (.aload_n 0, 1)) rfl rfl ?_
  obtain ⟨hk, h⟩ := h
  refine j_getI hE fg_X11_285 hk (by decide +kernel : decode cX11_wordOf 9 = .ok (.getfield 285, 3)) ?_
  refine j_icmp_ge hE (by decide +kernel : decode cX11_wordOf 12 = .ok (.if_icmp .ge 59, 3)) (tgt := 71) (by decide) (fun q => ?_) (fun q => ?_)
  · replace h := h.1 q
    refine j_iload hE (by decide +kernel : decode cX11_wordOf 71 = .ok (.iload 4, 2)) rfl ?_
    exact j_iret hE (by decide +kernel : decode cX11_wordOf 73 = .ok (.ireturn, 1)) ⟨_, rfl, h⟩
  · replace h := h.2 q
    refine j_aload_n hE (by decide +kernel : decode cX11_wordOf 15 = .ok (.aload_n 0, 1)) rfl rfl ?_
    obtain ⟨hk, h⟩ := h
    obtain ⟨a1, ha, h⟩ := h
    refine j_getRn hE fg_X11_83 hk ha (by decide +kernel : decode cX11_wordOf 16 = .ok (.getfield 83, 3)) ?_
    refine j_iload hE (by decide +kernel : decode cX11_wordOf 19 = .ok (.iload 5, 2)) rfl ?_
    obtain ⟨hk, hb, h⟩ := h
    refine j_iald hE hk hb (by decide +kernel : decode cX11_wordOf 21 = .ok (.iaload, 1)) ?_
    refine j_iload_n hE (by decide +kernel : decode cX11_wordOf 22 = .ok (.iload_n 1, 1)) rfl rfl ?_
    refine j_icmp_ne hE (by decide +kernel : decode cX11_wordOf 23 = .ok (.if_icmp .ne 42, 3)) (tgt := 65) (by decide) (fun q => ?_) (fun q => ?_)
    · replace h := h.1 q
      exact S_M_wordOf_65 hE hK6 _ _ _ _ _ _ _ h
    · replace h := h.2 q
      refine j_aload_n hE (by decide +kernel : decode cX11_wordOf 26 = .ok (.aload_n 0, 1)) rfl rfl ?_
      obtain ⟨hk, h⟩ := h
      obtain ⟨a2, ha, h⟩ := h
      refine j_getRn hE fg_X11_86 hk ha (by decide +kernel : decode cX11_wordOf 27 = .ok (.getfield 86, 3)) ?_
      refine j_iload hE (by decide +kernel : decode cX11_wordOf 30 = .ok (.iload 5, 2)) rfl ?_
      obtain ⟨hk, hb, h⟩ := h
      refine j_iald hE hk hb (by decide +kernel : decode cX11_wordOf 32 = .ok (.iaload, 1)) ?_
      refine j_iload_n hE (by decide +kernel : decode cX11_wordOf 33 = .ok (.iload_n 2, 1)) rfl rfl ?_
      refine j_icmp_ne hE (by decide +kernel : decode cX11_wordOf 34 = .ok (.if_icmp .ne 31, 3)) (tgt := 65) (by decide) (fun q => ?_) (fun q => ?_)
      · replace h := h.1 q
        exact S_M_wordOf_65 hE hK6 _ _ _ _ _ _ _ h
      · replace h := h.2 q
        refine j_aload_n hE (by decide +kernel : decode cX11_wordOf 37 = .ok (.aload_n 0, 1)) rfl rfl ?_
        obtain ⟨hk, h⟩ := h
        obtain ⟨a3, ha, h⟩ := h
        refine j_getRn hE fg_X11_89 hk ha (by decide +kernel : decode cX11_wordOf 38 = .ok (.getfield 89, 3)) ?_
        refine j_iload hE (by decide +kernel : decode cX11_wordOf 41 = .ok (.iload 5, 2)) rfl ?_
        obtain ⟨hk, hb, h⟩ := h
        refine j_iald hE hk hb (by decide +kernel : decode cX11_wordOf 43 = .ok (.iaload, 1)) ?_
        refine j_iload_n hE (by decide +kernel : decode cX11_wordOf 44 = .ok (.iload_n 3, 1)) rfl rfl ?_
        refine j_icmp_gt hE (by decide +kernel : decode cX11_wordOf 45 = .ok (.if_icmp .gt 20, 3)) (tgt := 65) (by decide) (fun q => ?_) (fun q => ?_)
        · replace h := h.1 q
          exact S_M_wordOf_65 hE hK6 _ _ _ _ _ _ _ h
        · replace h := h.2 q
          refine j_aload_n hE (by decide +kernel : decode cX11_wordOf 48 = .ok (.aload_n 0, 1)) rfl rfl ?_
          obtain ⟨hk, h⟩ := h
          obtain ⟨a4, ha, h⟩ := h
          refine j_getRn hE fg_X11_92 hk ha (by decide +kernel : decode cX11_wordOf 49 = .ok (.getfield 92, 3)) ?_
          refine j_iload hE (by decide +kernel : decode cX11_wordOf 52 = .ok (.iload 5, 2)) rfl ?_
          obtain ⟨hk, hb, h⟩ := h
          refine j_zald hE hk hb (by decide +kernel : decode cX11_wordOf 54 = .ok (.baload, 1)) ?_
          refine j_if_eq hE (by decide +kernel : decode cX11_wordOf 55 = .ok (.ifCond .eq 7, 3)) (tgt := 62) (by decide) (fun q => ?_) (fun q => ?_)
          · replace h := h.1 q
            refine j_iconst hE (by decide +kernel : decode cX11_wordOf 62 = .ok (.iconst 0, 1)) (v := (0 : Int32)) (by decide) ?_
            refine j_weak [some (.ref l0), some (.int l1), some (.int l2), some (.int l3), none, some (.int l5)] ⟨rfl, ⟨rfl, ⟨rfl, ⟨rfl, ⟨rfl, trivial⟩⟩⟩⟩⟩ ?_
            exact S_M_wordOf_63 hE hK6 _ _ _ _ _ _ _ h
          · replace h := h.2 q
            refine j_iconst hE (by decide +kernel : decode cX11_wordOf 58 = .ok (.iconst 1, 1)) (v := (1 : Int32)) (by decide) ?_
            refine j_goto hE (by decide +kernel : decode cX11_wordOf 59 = .ok (.goto 4, 3)) (tgt := 63) (by decide) ?_
            refine j_weak [some (.ref l0), some (.int l1), some (.int l2), some (.int l3), none, some (.int l5)] ⟨rfl, ⟨rfl, ⟨rfl, ⟨rfl, ⟨rfl, trivial⟩⟩⟩⟩⟩ ?_
            exact S_M_wordOf_63 hE hK6 _ _ _ _ _ _ _ h
set_option maxRecDepth 100000 in
def B_M_wordOf_0 (Γ : GAM) (K6 : Nat → Int32 → Int32 → Int32 → Int32 → Int32 → GH → Prop) (K : Int32 → GH → Prop) (th : Nat) (p0 : Int32) (p1 : Int32) (p2 : Int32) (g : GH) : Prop :=
  K6 th p0 p1 p2 (-1 : Int32) (0 : Int32) g
set_option maxHeartbeats 4000000 in
set_option maxRecDepth 100000 in
theorem S_M_wordOf_0 {Γ : GAM} {E : EV} {K : Int32 → GH → Prop} (hE : GE Γ E cX11_wordOf 6 RX11 (some (.int)) 0 0 (fun r g' => ∃ x, r = some (.int x) ∧ K x g')) {K6 : Nat → Int32 → Int32 → Int32 → Int32 → Int32 → GH → Prop} (hK6 : ∀ (l0 : Nat) (l1 : Int32) (l2 : Int32) (l3 : Int32) (l4 : Int32) (l5 : Int32) (g : GH), K6 l0 l1 l2 l3 l4 l5 g → JW Γ E 6 [some (.ref l0), some (.int l1), some (.int l2), some (.int l3), some (.int l4), some (.int l5)] [] g) (th : Nat) (p0 : Int32) (p1 : Int32) (p2 : Int32) (g : GH) (h : B_M_wordOf_0 Γ K6 K th p0 p1 p2 g) : JW Γ E 0 [some (.ref th), some (.int p0), some (.int p1), some (.int p2), none, none] [] g := by
  unfold B_M_wordOf_0 at h
  refine j_iconst hE (by decide +kernel : decode cX11_wordOf 0 = .ok (.iconst (-1), 1)) (v := (-1 : Int32)) (by decide) ?_
  refine j_istore hE (by decide +kernel : decode cX11_wordOf 1 = .ok (.istore 4, 2)) (Nat.le_of_ble_eq_true rfl) rfl ?_
  refine j_iconst hE (by decide +kernel : decode cX11_wordOf 3 = .ok (.iconst 0, 1)) (v := (0 : Int32)) (by decide) ?_
  refine j_istore hE (by decide +kernel : decode cX11_wordOf 4 = .ok (.istore 5, 2)) (Nat.le_of_ble_eq_true rfl) rfl ?_
  exact hK6 _ _ _ _ _ _ _ h
set_option maxHeartbeats 4000000 in
set_option maxRecDepth 100000 in
theorem rl_M_wordOf {Γ : GAM} {l : Launch} {th : Nat} {p0 : Int32} {p1 : Int32} {p2 : Int32} {g : GH} {K : Int32 → GH → Prop} (I6 : Nat → Nat → Int32 → Int32 → Int32 → Int32 → Int32 → GH → Prop) (hh6 : ∀ n (l0 : Nat) (l1 : Int32) (l2 : Int32) (l3 : Int32) (l4 : Int32) (l5 : Int32) (g : GH), I6 n l0 l1 l2 l3 l4 l5 g → B_M_wordOf_6 Γ (fun l0 l1 l2 l3 l4 l5 g => ∃ m, m < n ∧ I6 m l0 l1 l2 l3 l4 l5 g) K l0 l1 l2 l3 l4 l5 g) (h0 : B_M_wordOf_0 Γ (fun l0 l1 l2 l3 l4 l5 g => ∃ m, I6 m l0 l1 l2 l3 l4 l5 g) K th p0 p1 p2 g) : MetA Γ l yX11_wordOf cX11_wordOf 6 (some (.int)) 0 0 [.ref th, .int p0, .int p1, .int p2] g (fun r g' => ∃ x, r = some (.int x) ∧ K x g') := by
  refine MetA.introL (Lx := [some (.ref th), some (.int p0), some (.int p1), some (.int p2), none, none]) (by decide) (Nat.le_of_ble_eq_true rfl) rfl rfl ?_
  intro E hEl hE hnm
  have hall : ∀ n, (∀ (l0 : Nat) (l1 : Int32) (l2 : Int32) (l3 : Int32) (l4 : Int32) (l5 : Int32) (g : GH), I6 n l0 l1 l2 l3 l4 l5 g → JW Γ E 6 [some (.ref l0), some (.int l1), some (.int l2), some (.int l3), some (.int l4), some (.int l5)] [] g) := by
    intro n
    induction n using Nat.strongRecOn with
    | ind n ih =>
      exact fun l0 l1 l2 l3 l4 l5 g hi => S_M_wordOf_6 hE (fun l0 l1 l2 l3 l4 l5 g hm => by obtain ⟨m, hm, h⟩ := hm; exact (ih m hm) l0 l1 l2 l3 l4 l5 g h) l0 l1 l2 l3 l4 l5 g (hh6 n l0 l1 l2 l3 l4 l5 g hi)
  exact S_M_wordOf_0 hE (fun l0 l1 l2 l3 l4 l5 g hm => by obtain ⟨m, h⟩ := hm; exact (hall m) l0 l1 l2 l3 l4 l5 g h) th p0 p1 p2 g h0
theorem mt_M_wordOf {Γ : GAM} {l : Launch} (th : Nat) (p0 : Int32) (p1 : Int32) (p2 : Int32) (g : GH) (K : Int32 → GH → Prop) (h : Sp_M_wordOf Γ th p0 p1 p2 g K) : MetA Γ l yX11_wordOf cX11_wordOf 6 (some (.int)) 0 0 [.ref th, .int p0, .int p1, .int p2] g (fun r g' => ∃ x, r = some (.int x) ∧ K x g') := by
  obtain ⟨ma, s, hI, hK⟩ := h
  obtain ⟨hkd, hS⟩ := hI.1
  obtain ⟨f1, f2, f3⟩ := hI.tel
  obtain ⟨z_tellOf1, z_tellOf2, z_tellOf3, z_tellOf4, z_tellOf5⟩ := hS 1574 20 600 rfl
  obtain ⟨z_tellHand1, z_tellHand2, z_tellHand3, z_tellHand4, z_tellHand5⟩ := hS 1575 20 600 rfl
  obtain ⟨z_tellTold1, z_tellTold2, z_tellTold3, z_tellTold4, z_tellTold5⟩ := hS 1576 20 600 rfl
  obtain ⟨z_tellYes1, z_tellYes2, z_tellYes3, z_tellYes4, z_tellYes5⟩ := hS 1577 21 600 rfl
  refine rl_M_wordOf (J_M_wordOf s th p0 p1 p2 g) ?_ ?_
  · rintro n l0 l1 l2 l3 l4 l5 g' ⟨rfl, rfl, rfl, rfl, rfl, k, hk, hn, rfl, hf⟩
    simp only [B_M_wordOf_6, B_M_wordOf_65, B_M_wordOf_63, B_M_wordOf_0, hkd, f1, z_tellOf1, z_tellOf2, z_tellOf3, z_tellOf4, z_tellOf5, z_tellHand1, z_tellHand2, z_tellHand3, z_tellHand4, z_tellHand5, z_tellTold1, z_tellTold2, z_tellTold3, z_tellTold4, z_tellTold5, z_tellYes1, z_tellYes2, z_tellYes3, z_tellYes4, z_tellYes5, Option.some.injEq, exists_eq_left', true_and, forall_eq, nj_s, nj_le (show (s_tel s).length < 2147483648 by omega) (show k < 2147483648 by omega), nj_cl (show k < 2147483648 by omega)]
    refine ⟨fun q => ?_, fun q => ?_⟩
    · have hz : (s_tel s).take k = (s_tel s) := List.take_of_length_le (by exact q)
      rw [hz] at hf
      rw [hf]; exact hK
    · obtain ⟨x, hx⟩ := get_lt (show k < (s_tel s).length by omega)
      have hrow := f3 k x hx
      have hb := inB_nI (show k < 600 by omega) (by omega)
      have hnext : ∀ l4', l4' = (woS p0 p1 p2) (((s_tel s).take k).foldl (woS p0 p1 p2) (-1)) x → ∃ m, m < n ∧ J_M_wordOf s th p0 p1 p2 g m th p0 p1 p2 l4' (nI (k + 1)) g := by
        intro l4' hab
        refine ⟨(s_tel s).length - (k + 1), by omega, rfl, rfl, rfl, rfl, rfl, k + 1, by omega, rfl, rfl, ?_⟩
        rw [fold_take _ _ _ hx]; exact hab
      rw [← hf] at hnext
      unfold woS at hnext
      simp only [hrow, hb, true_and]
      repeat' with_reducible first | apply And.intro | intro _
      all_goals refine hnext _ ?_
      all_goals grind
  · unfold B_M_wordOf_0
    exact ⟨_, rfl, rfl, rfl, rfl, rfl, 0, Nat.zero_le _, rfl, rfl, rfl⟩

def boS (v q : Int32) (a : Int32) (x : Int32 × Int32 × Int32) : Int32 := if x.1 = v ∧ x.2.2 ≤ q then x.2.1 else a
def sBooth (s : ST) (v q : Int32) : Int32 := (s_boo s).foldl (boS v q) (-1)
def Sp_M_boothFor (Γ : GAM) (m : Nat) (v q : Int32) (g : GH) (K : Int32 → GH → Prop) : Prop := ∃ ma s, RefI m ma g s ∧ K (sBooth s v q) g
def J_M_boothFor (s : ST) (th : Nat) (p0 : Int32) (p1 : Int32) (g : GH) (n : Nat) (l0 : Nat) (l1 : Int32) (l2 : Int32) (l3 : Int32) (l4 : Int32) (g' : GH) : Prop := g = g' ∧ th = l0 ∧ p0 = l1 ∧ p1 = l2 ∧ ∃ k, k ≤ (s_boo s).length ∧ n = (s_boo s).length - k ∧ l4 = nI k ∧ l3 = ((s_boo s).take k).foldl (boS p0 p1) (-1)
-- the walk of M_boothFor
set_option maxRecDepth 100000 in
def B_M_boothFor_44 (Γ : GAM) (K5 : Nat → Int32 → Int32 → Int32 → Int32 → GH → Prop) (K : Int32 → GH → Prop) (l0 : Nat) (l1 : Int32) (l2 : Int32) (l3 : Int32) (l4 : Int32) (g : GH) : Prop :=
  K5 l0 l1 l2 l3 (l4 + (1 : Int32)) g
set_option maxHeartbeats 4000000 in
set_option maxRecDepth 100000 in
theorem S_M_boothFor_44 {Γ : GAM} {E : EV} {K : Int32 → GH → Prop} (hE : GE Γ E cX11_boothFor 5 RX11 (some (.int)) 0 0 (fun r g' => ∃ x, r = some (.int x) ∧ K x g')) {K5 : Nat → Int32 → Int32 → Int32 → Int32 → GH → Prop} (hK5 : ∀ (l0 : Nat) (l1 : Int32) (l2 : Int32) (l3 : Int32) (l4 : Int32) (g : GH), K5 l0 l1 l2 l3 l4 g → JW Γ E 5 [some (.ref l0), some (.int l1), some (.int l2), some (.int l3), some (.int l4)] [] g) (l0 : Nat) (l1 : Int32) (l2 : Int32) (l3 : Int32) (l4 : Int32) (g : GH) (h : B_M_boothFor_44 Γ K5 K l0 l1 l2 l3 l4 g) : JW Γ E 44 [some (.ref l0), some (.int l1), some (.int l2), some (.int l3), some (.int l4)] [] g := by
  unfold B_M_boothFor_44 at h
  refine j_iinc hE (by decide +kernel : decode cX11_boothFor 44 = .ok (.iinc 4 1, 3)) (v := (1 : Int32)) (by decide) rfl (Nat.le_of_ble_eq_true rfl) rfl ?_
  refine j_goto hE (by decide +kernel : decode cX11_boothFor 47 = .ok (.goto (-42), 3)) (tgt := 5) (by decide) ?_
  exact hK5 _ _ _ _ _ _ h
set_option maxRecDepth 100000 in
def B_M_boothFor_5 (Γ : GAM) (K5 : Nat → Int32 → Int32 → Int32 → Int32 → GH → Prop) (K : Int32 → GH → Prop) (l0 : Nat) (l1 : Int32) (l2 : Int32) (l3 : Int32) (l4 : Int32) (g : GH) : Prop :=
  Kd g l0 = 13 ∧ (((Gi g 1544 l0) ≤ l4 → K l3 g) ∧ (¬ ((Gi g 1544 l0) ≤ l4) → Kd g l0 = 13 ∧ ∃ a1 : Nat, Gr g 1578 l0 = some a1 ∧ Kd g a1 = 20 ∧ inB l4 (Ln g a1) ∧ ((¬ ((Ia g (Co g a1) (Ow g a1) l4.toNatClampNeg) = l1) → B_M_boothFor_44 Γ K5 K l0 l1 l2 l3 l4 g) ∧ ((Ia g (Co g a1) (Ow g a1) l4.toNatClampNeg) = l1 → Kd g l0 = 13 ∧ ∃ a2 : Nat, Gr g 1580 l0 = some a2 ∧ Kd g a2 = 20 ∧ inB l4 (Ln g a2) ∧ ((l2 < (Ia g (Co g a2) (Ow g a2) l4.toNatClampNeg) → B_M_boothFor_44 Γ K5 K l0 l1 l2 l3 l4 g) ∧ (¬ (l2 < (Ia g (Co g a2) (Ow g a2) l4.toNatClampNeg)) → Kd g l0 = 13 ∧ ∃ a3 : Nat, Gr g 1579 l0 = some a3 ∧ Kd g a3 = 20 ∧ inB l4 (Ln g a3) ∧ ∀ x4 : Int32, x4 = (Ia g (Co g a3) (Ow g a3) l4.toNatClampNeg) → B_M_boothFor_44 Γ K5 K l0 l1 l2 x4 l4 g))))))
set_option maxHeartbeats 4000000 in
set_option maxRecDepth 100000 in
theorem S_M_boothFor_5 {Γ : GAM} {E : EV} {K : Int32 → GH → Prop} (hE : GE Γ E cX11_boothFor 5 RX11 (some (.int)) 0 0 (fun r g' => ∃ x, r = some (.int x) ∧ K x g')) {K5 : Nat → Int32 → Int32 → Int32 → Int32 → GH → Prop} (hK5 : ∀ (l0 : Nat) (l1 : Int32) (l2 : Int32) (l3 : Int32) (l4 : Int32) (g : GH), K5 l0 l1 l2 l3 l4 g → JW Γ E 5 [some (.ref l0), some (.int l1), some (.int l2), some (.int l3), some (.int l4)] [] g) (l0 : Nat) (l1 : Int32) (l2 : Int32) (l3 : Int32) (l4 : Int32) (g : GH) (h : B_M_boothFor_5 Γ K5 K l0 l1 l2 l3 l4 g) : JW Γ E 5 [some (.ref l0), some (.int l1), some (.int l2), some (.int l3), some (.int l4)] [] g := by
  unfold B_M_boothFor_5 at h
  refine j_iload hE (by decide +kernel : decode cX11_boothFor 5 = .ok (.iload 4, 2)) rfl ?_
  refine j_aload_n hE (by decide +kernel : decode cX11_boothFor 7 = .ok (.aload_n 0, 1)) rfl rfl ?_
  obtain ⟨hk, h⟩ := h
  refine j_getI hE fg_X11_288 hk (by decide +kernel : decode cX11_boothFor 8 = .ok (.getfield 288, 3)) ?_
  refine j_icmp_ge hE (by decide +kernel : decode cX11_boothFor 11 = .ok (.if_icmp .ge 39, 3)) (tgt := 50) (by decide) (fun q => ?_) (fun q => ?_)
  · replace h := h.1 q
    refine j_iload_n hE (by decide +kernel : decode cX11_boothFor 50 = .ok (.iload_n 3, 1)) rfl rfl ?_
    exact j_iret hE (by decide +kernel : decode cX11_boothFor 51 = .ok (.ireturn, 1)) ⟨_, rfl, h⟩
  · replace h := h.2 q
    refine j_aload_n hE (by decide +kernel : decode cX11_boothFor 14 = .ok (.aload_n 0, 1)) rfl rfl ?_
    obtain ⟨hk, h⟩ := h
    obtain ⟨a1, ha, h⟩ := h
    refine j_getRn hE fg_X11_96 hk ha (by decide +kernel : decode cX11_boothFor 15 = .ok (.getfield 96, 3)) ?_
    refine j_iload hE (by decide +kernel : decode cX11_boothFor 18 = .ok (.iload 4, 2)) rfl ?_
    obtain ⟨hk, hb, h⟩ := h
    refine j_iald hE hk hb (by decide +kernel : decode cX11_boothFor 20 = .ok (.iaload, 1)) ?_
    refine j_iload_n hE (by decide +kernel : decode cX11_boothFor 21 = .ok (.iload_n 1, 1)) rfl rfl ?_
    refine j_icmp_ne hE (by decide +kernel : decode cX11_boothFor 22 = .ok (.if_icmp .ne 22, 3)) (tgt := 44) (by decide) (fun q => ?_) (fun q => ?_)
    · replace h := h.1 q
      exact S_M_boothFor_44 hE hK5 _ _ _ _ _ _ h
    · replace h := h.2 q
      refine j_aload_n hE (by decide +kernel : decode cX11_boothFor 25 = .ok (.aload_n 0, 1)) rfl rfl ?_
      obtain ⟨hk, h⟩ := h
      obtain ⟨a2, ha, h⟩ := h
      refine j_getRn hE fg_X11_102 hk ha (by decide +kernel : decode cX11_boothFor 26 = .ok (.getfield 102, 3)) ?_
      refine j_iload hE (by decide +kernel : decode cX11_boothFor 29 = .ok (.iload 4, 2)) rfl ?_
      obtain ⟨hk, hb, h⟩ := h
      refine j_iald hE hk hb (by decide +kernel : decode cX11_boothFor 31 = .ok (.iaload, 1)) ?_
      refine j_iload_n hE (by decide +kernel : decode cX11_boothFor 32 = .ok (.iload_n 2, 1)) rfl rfl ?_
      refine j_icmp_gt hE (by decide +kernel : decode cX11_boothFor 33 = .ok (.if_icmp .gt 11, 3)) (tgt := 44) (by decide) (fun q => ?_) (fun q => ?_)
      · replace h := h.1 q
        exact S_M_boothFor_44 hE hK5 _ _ _ _ _ _ h
      · replace h := h.2 q
        refine j_aload_n hE (by decide +kernel : decode cX11_boothFor 36 = .ok (.aload_n 0, 1)) rfl rfl ?_
        obtain ⟨hk, h⟩ := h
        obtain ⟨a3, ha, h⟩ := h
        refine j_getRn hE fg_X11_99 hk ha (by decide +kernel : decode cX11_boothFor 37 = .ok (.getfield 99, 3)) ?_
        refine j_iload hE (by decide +kernel : decode cX11_boothFor 40 = .ok (.iload 4, 2)) rfl ?_
        obtain ⟨hk, hb, h⟩ := h
        refine j_iald hE hk hb (by decide +kernel : decode cX11_boothFor 42 = .ok (.iaload, 1)) ?_
        obtain ⟨x4, hx⟩ : ∃ z, z = (Ia g (Co g a3) (Ow g a3) l4.toNatClampNeg) := ⟨_, rfl⟩; replace h := h x4 hx; rw [← hx]
        refine j_istore_n hE (by decide +kernel : decode cX11_boothFor 43 = .ok (.istore_n 3, 1)) rfl (Nat.le_of_ble_eq_true rfl) rfl ?_
        exact S_M_boothFor_44 hE hK5 _ _ _ _ _ _ h
set_option maxRecDepth 100000 in
def B_M_boothFor_0 (Γ : GAM) (K5 : Nat → Int32 → Int32 → Int32 → Int32 → GH → Prop) (K : Int32 → GH → Prop) (th : Nat) (p0 : Int32) (p1 : Int32) (g : GH) : Prop :=
  K5 th p0 p1 (-1 : Int32) (0 : Int32) g
set_option maxHeartbeats 4000000 in
set_option maxRecDepth 100000 in
theorem S_M_boothFor_0 {Γ : GAM} {E : EV} {K : Int32 → GH → Prop} (hE : GE Γ E cX11_boothFor 5 RX11 (some (.int)) 0 0 (fun r g' => ∃ x, r = some (.int x) ∧ K x g')) {K5 : Nat → Int32 → Int32 → Int32 → Int32 → GH → Prop} (hK5 : ∀ (l0 : Nat) (l1 : Int32) (l2 : Int32) (l3 : Int32) (l4 : Int32) (g : GH), K5 l0 l1 l2 l3 l4 g → JW Γ E 5 [some (.ref l0), some (.int l1), some (.int l2), some (.int l3), some (.int l4)] [] g) (th : Nat) (p0 : Int32) (p1 : Int32) (g : GH) (h : B_M_boothFor_0 Γ K5 K th p0 p1 g) : JW Γ E 0 [some (.ref th), some (.int p0), some (.int p1), none, none] [] g := by
  unfold B_M_boothFor_0 at h
  refine j_iconst hE (by decide +kernel : decode cX11_boothFor 0 = .ok (.iconst (-1), 1)) (v := (-1 : Int32)) (by decide) ?_
  refine j_istore_n hE (by decide +kernel : decode cX11_boothFor 1 = .ok (.istore_n 3, 1)) rfl (Nat.le_of_ble_eq_true rfl) rfl ?_
  refine j_iconst hE (by decide +kernel : decode cX11_boothFor 2 = .ok (.iconst 0, 1)) (v := (0 : Int32)) (by decide) ?_
  refine j_istore hE (by decide +kernel : decode cX11_boothFor 3 = .ok (.istore 4, 2)) (Nat.le_of_ble_eq_true rfl) rfl ?_
  exact hK5 _ _ _ _ _ _ h
set_option maxHeartbeats 4000000 in
set_option maxRecDepth 100000 in
theorem rl_M_boothFor {Γ : GAM} {l : Launch} {th : Nat} {p0 : Int32} {p1 : Int32} {g : GH} {K : Int32 → GH → Prop} (I5 : Nat → Nat → Int32 → Int32 → Int32 → Int32 → GH → Prop) (hh5 : ∀ n (l0 : Nat) (l1 : Int32) (l2 : Int32) (l3 : Int32) (l4 : Int32) (g : GH), I5 n l0 l1 l2 l3 l4 g → B_M_boothFor_5 Γ (fun l0 l1 l2 l3 l4 g => ∃ m, m < n ∧ I5 m l0 l1 l2 l3 l4 g) K l0 l1 l2 l3 l4 g) (h0 : B_M_boothFor_0 Γ (fun l0 l1 l2 l3 l4 g => ∃ m, I5 m l0 l1 l2 l3 l4 g) K th p0 p1 g) : MetA Γ l yX11_boothFor cX11_boothFor 5 (some (.int)) 0 0 [.ref th, .int p0, .int p1] g (fun r g' => ∃ x, r = some (.int x) ∧ K x g') := by
  refine MetA.introL (Lx := [some (.ref th), some (.int p0), some (.int p1), none, none]) (by decide) (Nat.le_of_ble_eq_true rfl) rfl rfl ?_
  intro E hEl hE hnm
  have hall : ∀ n, (∀ (l0 : Nat) (l1 : Int32) (l2 : Int32) (l3 : Int32) (l4 : Int32) (g : GH), I5 n l0 l1 l2 l3 l4 g → JW Γ E 5 [some (.ref l0), some (.int l1), some (.int l2), some (.int l3), some (.int l4)] [] g) := by
    intro n
    induction n using Nat.strongRecOn with
    | ind n ih =>
      exact fun l0 l1 l2 l3 l4 g hi => S_M_boothFor_5 hE (fun l0 l1 l2 l3 l4 g hm => by obtain ⟨m, hm, h⟩ := hm; exact (ih m hm) l0 l1 l2 l3 l4 g h) l0 l1 l2 l3 l4 g (hh5 n l0 l1 l2 l3 l4 g hi)
  exact S_M_boothFor_0 hE (fun l0 l1 l2 l3 l4 g hm => by obtain ⟨m, h⟩ := hm; exact (hall m) l0 l1 l2 l3 l4 g h) th p0 p1 g h0
theorem mt_M_boothFor {Γ : GAM} {l : Launch} (th : Nat) (p0 : Int32) (p1 : Int32) (g : GH) (K : Int32 → GH → Prop) (h : Sp_M_boothFor Γ th p0 p1 g K) : MetA Γ l yX11_boothFor cX11_boothFor 5 (some (.int)) 0 0 [.ref th, .int p0, .int p1] g (fun r g' => ∃ x, r = some (.int x) ∧ K x g') := by
  obtain ⟨ma, s, hI, hK⟩ := h
  obtain ⟨hkd, hS⟩ := hI.1
  obtain ⟨f1, f2, f3⟩ := hI.boo
  obtain ⟨z_boothOf1, z_boothOf2, z_boothOf3, z_boothOf4, z_boothOf5⟩ := hS 1578 20 100 rfl
  obtain ⟨z_boothDay1, z_boothDay2, z_boothDay3, z_boothDay4, z_boothDay5⟩ := hS 1579 20 100 rfl
  obtain ⟨z_boothTold1, z_boothTold2, z_boothTold3, z_boothTold4, z_boothTold5⟩ := hS 1580 20 100 rfl
  refine rl_M_boothFor (J_M_boothFor s th p0 p1 g) ?_ ?_
  · rintro n l0 l1 l2 l3 l4 g' ⟨rfl, rfl, rfl, rfl, k, hk, hn, rfl, hf⟩
    simp only [B_M_boothFor_5, B_M_boothFor_44, B_M_boothFor_0, hkd, f1, z_boothOf1, z_boothOf2, z_boothOf3, z_boothOf4, z_boothOf5, z_boothDay1, z_boothDay2, z_boothDay3, z_boothDay4, z_boothDay5, z_boothTold1, z_boothTold2, z_boothTold3, z_boothTold4, z_boothTold5, Option.some.injEq, exists_eq_left', true_and, forall_eq, nj_s, nj_le (show (s_boo s).length < 2147483648 by omega) (show k < 2147483648 by omega), nj_cl (show k < 2147483648 by omega)]
    refine ⟨fun q => ?_, fun q => ?_⟩
    · have hz : (s_boo s).take k = (s_boo s) := List.take_of_length_le (by exact q)
      rw [hz] at hf
      rw [hf]; exact hK
    · obtain ⟨x, hx⟩ := get_lt (show k < (s_boo s).length by omega)
      have hrow := f3 k x hx
      have hb := inB_nI (show k < 100 by omega) (by omega)
      have hnext : ∀ l3', l3' = (boS p0 p1) (((s_boo s).take k).foldl (boS p0 p1) (-1)) x → ∃ m, m < n ∧ J_M_boothFor s th p0 p1 g m th p0 p1 l3' (nI (k + 1)) g := by
        intro l3' hab
        refine ⟨(s_boo s).length - (k + 1), by omega, rfl, rfl, rfl, rfl, k + 1, by omega, rfl, rfl, ?_⟩
        rw [fold_take _ _ _ hx]; exact hab
      rw [← hf] at hnext
      unfold boS at hnext
      simp only [hrow, hb, true_and]
      repeat' with_reducible first | apply And.intro | intro _
      all_goals refine hnext _ ?_
      all_goals grind
  · unfold B_M_boothFor_0
    exact ⟨_, rfl, rfl, rfl, rfl, 0, Nat.zero_le _, rfl, rfl, rfl⟩

def Sp_M_isSent (Γ : GAM) (m : Nat) (e q : Int32) (g : GH) (K : Int32 → GH → Prop) : Prop := Kd g m = 13 ∧ ∃ a : Nat, Gr g 1558 m = some a ∧ Kd g a = 20 ∧ inB e (Ln g a) ∧ K (if (Ia g (Co g a) (Ow g a) e.toNatClampNeg) ≤ q then 1 else 0) g
-- the walk of M_isSent
set_option maxRecDepth 100000 in
def B_M_isSent_15 (Γ : GAM) (K : Int32 → GH → Prop) (s0 : Int32) (g : GH) : Prop :=
  ((s0 = 0 ∨ s0 = 1) ∧ K s0 g)
set_option maxHeartbeats 4000000 in
set_option maxRecDepth 100000 in
theorem S_M_isSent_15 {Γ : GAM} {E : EV} {K : Int32 → GH → Prop} (hE : GE Γ E cX11_isSent 3 RX11 (some (.boolean)) 0 0 (fun r g' => ∃ x, r = some (.int x) ∧ K x g')) (s0 : Int32) (g : GH) (h : B_M_isSent_15 Γ K s0 g) : JW Γ E 15 [none, none, none] [.int s0] g := by
  unfold B_M_isSent_15 at h
  exact j_zret hE h.1 (by decide +kernel : decode cX11_isSent 15 = .ok (.ireturn, 1)) ⟨_, rfl, h.2⟩
set_option maxRecDepth 100000 in
def B_M_isSent_0 (Γ : GAM) (K : Int32 → GH → Prop) (th : Nat) (p0 : Int32) (p1 : Int32) (g : GH) : Prop :=
  Kd g th = 13 ∧ ∃ a1 : Nat, Gr g 1558 th = some a1 ∧ Kd g a1 = 20 ∧ inB p0 (Ln g a1) ∧ ((p1 < (Ia g (Co g a1) (Ow g a1) p0.toNatClampNeg) → B_M_isSent_15 Γ K (0 : Int32) g) ∧ (¬ (p1 < (Ia g (Co g a1) (Ow g a1) p0.toNatClampNeg)) → B_M_isSent_15 Γ K (1 : Int32) g))
set_option maxHeartbeats 4000000 in
set_option maxRecDepth 100000 in
theorem S_M_isSent_0 {Γ : GAM} {E : EV} {K : Int32 → GH → Prop} (hE : GE Γ E cX11_isSent 3 RX11 (some (.boolean)) 0 0 (fun r g' => ∃ x, r = some (.int x) ∧ K x g')) (th : Nat) (p0 : Int32) (p1 : Int32) (g : GH) (h : B_M_isSent_0 Γ K th p0 p1 g) : JW Γ E 0 [some (.ref th), some (.int p0), some (.int p1)] [] g := by
  unfold B_M_isSent_0 at h
  refine j_aload_n hE (by decide +kernel : decode cX11_isSent 0 = .ok (.aload_n 0, 1)) rfl rfl ?_
  obtain ⟨hk, h⟩ := h
  obtain ⟨a1, ha, h⟩ := h
  refine j_getRn hE fg_X11_41 hk ha (by decide +kernel : decode cX11_isSent 1 = .ok (.getfield 41, 3)) ?_
  refine j_iload_n hE (by decide +kernel : decode cX11_isSent 4 = .ok (.iload_n 1, 1)) rfl rfl ?_
  obtain ⟨hk, hb, h⟩ := h
  refine j_iald hE hk hb (by decide +kernel : decode cX11_isSent 5 = .ok (.iaload, 1)) ?_
  refine j_iload_n hE (by decide +kernel : decode cX11_isSent 6 = .ok (.iload_n 2, 1)) rfl rfl ?_
  refine j_icmp_gt hE (by decide +kernel : decode cX11_isSent 7 = .ok (.if_icmp .gt 7, 3)) (tgt := 14) (by decide) (fun q => ?_) (fun q => ?_)
  · replace h := h.1 q
    refine j_iconst hE (by decide +kernel : decode cX11_isSent 14 = .ok (.iconst 0, 1)) (v := (0 : Int32)) (by decide) ?_
    refine j_weak [none, none, none] trivial ?_
    exact S_M_isSent_15 hE _ _ h
  · replace h := h.2 q
    refine j_iconst hE (by decide +kernel : decode cX11_isSent 10 = .ok (.iconst 1, 1)) (v := (1 : Int32)) (by decide) ?_
    refine j_goto hE (by decide +kernel : decode cX11_isSent 11 = .ok (.goto 4, 3)) (tgt := 15) (by decide) ?_
    refine j_weak [none, none, none] trivial ?_
    exact S_M_isSent_15 hE _ _ h
set_option maxHeartbeats 4000000 in
set_option maxRecDepth 100000 in
theorem rl_M_isSent {Γ : GAM} {l : Launch} {th : Nat} {p0 : Int32} {p1 : Int32} {g : GH} {K : Int32 → GH → Prop} (h0 : B_M_isSent_0 Γ K th p0 p1 g) : MetA Γ l yX11_isSent cX11_isSent 3 (some (.boolean)) 0 0 [.ref th, .int p0, .int p1] g (fun r g' => ∃ x, r = some (.int x) ∧ K x g') := by
  refine MetA.introL (Lx := [some (.ref th), some (.int p0), some (.int p1)]) (by decide) (Nat.le_of_ble_eq_true rfl) rfl rfl ?_
  intro E hEl hE hnm
  exact S_M_isSent_0 hE th p0 p1 g h0
theorem mt_M_isSent {Γ : GAM} {l : Launch} (th : Nat) (p0 : Int32) (p1 : Int32) (g : GH) (K : Int32 → GH → Prop) (h : Sp_M_isSent Γ th p0 p1 g K) : MetA Γ l yX11_isSent cX11_isSent 3 (some (.boolean)) 0 0 [.ref th, .int p0, .int p1] g (fun r g' => ∃ x, r = some (.int x) ∧ K x g') := by
  obtain ⟨hkd, a, h1, h2, hb, hK⟩ := h
  refine rl_M_isSent ?_
  simp only [B_M_isSent_15, B_M_isSent_0, hkd, h1, h2, hb, Option.some.injEq, exists_eq_left', true_and]
  refine ⟨fun q => ?_, fun q => ?_⟩
  · rw [if_neg (Int32.not_le.mpr q)] at hK; exact ⟨Or.inl trivial, hK⟩
  · rw [if_pos (Int32.not_lt.mp q)] at hK; exact ⟨Or.inr trivial, hK⟩
def seS (v q : Int32) (a : Int32) (x : Em) : Int32 := if x.1 = v ∧ x.2.2.1 ≤ q then a + 1 else a
def sSent (s : ST) (v q : Int32) : Int32 := (s_env s).foldl (seS v q) 0
def Sp_M_sentTo (Γ : GAM) (m : Nat) (v q : Int32) (g : GH) (K : Int32 → GH → Prop) : Prop := ∃ ma s, RefI m ma g s ∧ K (sSent s v q) g
def J_M_sentTo (s : ST) (th : Nat) (p0 : Int32) (p1 : Int32) (g : GH) (n : Nat) (l0 : Nat) (l1 : Int32) (l2 : Int32) (l3 : Int32) (l4 : Int32) (g' : GH) : Prop := g = g' ∧ th = l0 ∧ p0 = l1 ∧ p1 = l2 ∧ ∃ k, k ≤ (s_env s).length ∧ n = (s_env s).length - k ∧ l4 = nI k ∧ l3 = ((s_env s).take k).foldl (seS p0 p1) 0
-- the walk of M_sentTo
set_option maxRecDepth 100000 in
def B_M_sentTo_41 (Γ : GAM) (K5 : Nat → Int32 → Int32 → Int32 → Int32 → GH → Prop) (K : Int32 → GH → Prop) (l0 : Nat) (l1 : Int32) (l2 : Int32) (l4 : Int32) (s0 : Int32) (s1 : Int32) (g : GH) : Prop :=
  ∀ x1 : Int32, x1 = (s1 + s0) → K5 l0 l1 l2 x1 (l4 + (1 : Int32)) g
set_option maxHeartbeats 4000000 in
set_option maxRecDepth 100000 in
theorem S_M_sentTo_41 {Γ : GAM} {E : EV} {K : Int32 → GH → Prop} (hE : GE Γ E cX11_sentTo 5 RX11 (some (.int)) 1 22 (fun r g' => ∃ x, r = some (.int x) ∧ K x g')) {K5 : Nat → Int32 → Int32 → Int32 → Int32 → GH → Prop} (hK5 : ∀ (l0 : Nat) (l1 : Int32) (l2 : Int32) (l3 : Int32) (l4 : Int32) (g : GH), K5 l0 l1 l2 l3 l4 g → JW Γ E 5 [some (.ref l0), some (.int l1), some (.int l2), some (.int l3), some (.int l4)] [] g) (l0 : Nat) (l1 : Int32) (l2 : Int32) (l4 : Int32) (s0 : Int32) (s1 : Int32) (g : GH) (h : B_M_sentTo_41 Γ K5 K l0 l1 l2 l4 s0 s1 g) : JW Γ E 41 [some (.ref l0), some (.int l1), some (.int l2), none, some (.int l4)] [.int s0, .int s1] g := by
  unfold B_M_sentTo_41 at h
  refine j_iadd hE (by decide +kernel : decode cX11_sentTo 41 = .ok (.iadd, 1)) ?_
  obtain ⟨x1, hx⟩ : ∃ z, z = (s1 + s0) := ⟨_, rfl⟩; replace h := h x1 hx; rw [← hx]
  refine j_istore_n hE (by decide +kernel : decode cX11_sentTo 42 = .ok (.istore_n 3, 1)) rfl (Nat.le_of_ble_eq_true rfl) rfl ?_
  refine j_iinc hE (by decide +kernel : decode cX11_sentTo 43 = .ok (.iinc 4 1, 3)) (v := (1 : Int32)) (by decide) rfl (Nat.le_of_ble_eq_true rfl) rfl ?_
  refine j_goto hE (by decide +kernel : decode cX11_sentTo 46 = .ok (.goto (-41), 3)) (tgt := 5) (by decide) ?_
  exact hK5 _ _ _ _ _ _ h
set_option maxRecDepth 100000 in
def B_M_sentTo_40 (Γ : GAM) (K5 : Nat → Int32 → Int32 → Int32 → Int32 → GH → Prop) (K : Int32 → GH → Prop) (l0 : Nat) (l1 : Int32) (l2 : Int32) (l4 : Int32) (s0 : Int32) (g : GH) : Prop :=
  B_M_sentTo_41 Γ K5 K l0 l1 l2 l4 (0 : Int32) s0 g
set_option maxHeartbeats 4000000 in
set_option maxRecDepth 100000 in
theorem S_M_sentTo_40 {Γ : GAM} {E : EV} {K : Int32 → GH → Prop} (hE : GE Γ E cX11_sentTo 5 RX11 (some (.int)) 1 22 (fun r g' => ∃ x, r = some (.int x) ∧ K x g')) {K5 : Nat → Int32 → Int32 → Int32 → Int32 → GH → Prop} (hK5 : ∀ (l0 : Nat) (l1 : Int32) (l2 : Int32) (l3 : Int32) (l4 : Int32) (g : GH), K5 l0 l1 l2 l3 l4 g → JW Γ E 5 [some (.ref l0), some (.int l1), some (.int l2), some (.int l3), some (.int l4)] [] g) (l0 : Nat) (l1 : Int32) (l2 : Int32) (l4 : Int32) (s0 : Int32) (g : GH) (h : B_M_sentTo_40 Γ K5 K l0 l1 l2 l4 s0 g) : JW Γ E 40 [some (.ref l0), some (.int l1), some (.int l2), none, some (.int l4)] [.int s0] g := by
  unfold B_M_sentTo_40 at h
  refine j_iconst hE (by decide +kernel : decode cX11_sentTo 40 = .ok (.iconst 0, 1)) (v := (0 : Int32)) (by decide) ?_
  exact S_M_sentTo_41 hE hK5 _ _ _ _ _ _ _ h
set_option maxRecDepth 100000 in
def B_M_sentTo_5 (Γ : GAM) (K5 : Nat → Int32 → Int32 → Int32 → Int32 → GH → Prop) (K : Int32 → GH → Prop) (l0 : Nat) (l1 : Int32) (l2 : Int32) (l3 : Int32) (l4 : Int32) (g : GH) : Prop :=
  Kd g l0 = 13 ∧ (((Gi g 1539 l0) ≤ l4 → K l3 g) ∧ (¬ ((Gi g 1539 l0) ≤ l4) → Kd g l0 = 13 ∧ ∃ a1 : Nat, Gr g 1556 l0 = some a1 ∧ Kd g a1 = 20 ∧ inB l4 (Ln g a1) ∧ ((¬ ((Ia g (Co g a1) (Ow g a1) l4.toNatClampNeg) = l1) → B_M_sentTo_40 Γ K5 K l0 l1 l2 l4 l3 g) ∧ ((Ia g (Co g a1) (Ow g a1) l4.toNatClampNeg) = l1 → Kd g l0 = 13 ∧ Sp_M_isSent Γ l0 l4 l2 g (fun (x3 : Int32) (g2 : GH) => ((x3 = 0 → B_M_sentTo_40 Γ K5 K l0 l1 l2 l4 l3 g2) ∧ (¬ (x3 = 0) → B_M_sentTo_41 Γ K5 K l0 l1 l2 l4 (1 : Int32) l3 g2)))))))
set_option maxHeartbeats 4000000 in
set_option maxRecDepth 100000 in
theorem S_M_sentTo_5 {Γ : GAM} {E : EV} {K : Int32 → GH → Prop} (hE : GE Γ E cX11_sentTo 5 RX11 (some (.int)) 1 22 (fun r g' => ∃ x, r = some (.int x) ∧ K x g')) {K5 : Nat → Int32 → Int32 → Int32 → Int32 → GH → Prop} (hK5 : ∀ (l0 : Nat) (l1 : Int32) (l2 : Int32) (l3 : Int32) (l4 : Int32) (g : GH), K5 l0 l1 l2 l3 l4 g → JW Γ E 5 [some (.ref l0), some (.int l1), some (.int l2), some (.int l3), some (.int l4)] [] g) (l0 : Nat) (l1 : Int32) (l2 : Int32) (l3 : Int32) (l4 : Int32) (g : GH) (h : B_M_sentTo_5 Γ K5 K l0 l1 l2 l3 l4 g) : JW Γ E 5 [some (.ref l0), some (.int l1), some (.int l2), some (.int l3), some (.int l4)] [] g := by
  unfold B_M_sentTo_5 at h
  refine j_iload hE (by decide +kernel : decode cX11_sentTo 5 = .ok (.iload 4, 2)) rfl ?_
  refine j_aload_n hE (by decide +kernel : decode cX11_sentTo 7 = .ok (.aload_n 0, 1)) rfl rfl ?_
  obtain ⟨hk, h⟩ := h
  refine j_getI hE fg_X11_241 hk (by decide +kernel : decode cX11_sentTo 8 = .ok (.getfield 241, 3)) ?_
  refine j_icmp_ge hE (by decide +kernel : decode cX11_sentTo 11 = .ok (.if_icmp .ge 38, 3)) (tgt := 49) (by decide) (fun q => ?_) (fun q => ?_)
  · replace h := h.1 q
    refine j_iload_n hE (by decide +kernel : decode cX11_sentTo 49 = .ok (.iload_n 3, 1)) rfl rfl ?_
    exact j_iret hE (by decide +kernel : decode cX11_sentTo 50 = .ok (.ireturn, 1)) ⟨_, rfl, h⟩
  · replace h := h.2 q
    refine j_iload_n hE (by decide +kernel : decode cX11_sentTo 14 = .ok (.iload_n 3, 1)) rfl rfl ?_
    refine j_aload_n hE (by decide +kernel : decode cX11_sentTo 15 = .ok (.aload_n 0, 1)) rfl rfl ?_
    obtain ⟨hk, h⟩ := h
    obtain ⟨a1, ha, h⟩ := h
    refine j_getRn hE fg_X11_35 hk ha (by decide +kernel : decode cX11_sentTo 16 = .ok (.getfield 35, 3)) ?_
    refine j_iload hE (by decide +kernel : decode cX11_sentTo 19 = .ok (.iload 4, 2)) rfl ?_
    obtain ⟨hk, hb, h⟩ := h
    refine j_iald hE hk hb (by decide +kernel : decode cX11_sentTo 21 = .ok (.iaload, 1)) ?_
    refine j_iload_n hE (by decide +kernel : decode cX11_sentTo 22 = .ok (.iload_n 1, 1)) rfl rfl ?_
    refine j_icmp_ne hE (by decide +kernel : decode cX11_sentTo 23 = .ok (.if_icmp .ne 17, 3)) (tgt := 40) (by decide) (fun q => ?_) (fun q => ?_)
    · replace h := h.1 q
      refine j_weak [some (.ref l0), some (.int l1), some (.int l2), none, some (.int l4)] ⟨rfl, ⟨rfl, ⟨rfl, ⟨rfl, trivial⟩⟩⟩⟩ ?_
      exact S_M_sentTo_40 hE hK5 _ _ _ _ _ _ h
    · replace h := h.2 q
      refine j_aload_n hE (by decide +kernel : decode cX11_sentTo 26 = .ok (.aload_n 0, 1)) rfl rfl ?_
      refine j_iload hE (by decide +kernel : decode cX11_sentTo 27 = .ok (.iload 4, 2)) rfl ?_
      refine j_iload_n hE (by decide +kernel : decode cX11_sentTo 29 = .ok (.iload_n 2, 1)) rfl rfl ?_
      obtain ⟨hk, h⟩ := h
      refine j_callV hE rfl cl_X11_278 cf_12 im_X11_isSent se_X11_isSent ⟨by omega, by omega⟩ (As := [.int l4, .int l2]) (rest := [.int l3]) rfl rfl (Nat.le_of_ble_eq_true rfl) hk (by decide +kernel : decode cX11_sentTo 30 = .ok (.invokevirtual 278, 3)) (mt_M_isSent _ _ _ _ _ h) ?_
      rintro _ g2 ⟨x3, rfl, h⟩
      refine j_if_eq hE (by decide +kernel : decode cX11_sentTo 33 = .ok (.ifCond .eq 7, 3)) (tgt := 40) (by decide) (fun q => ?_) (fun q => ?_)
      · replace h := h.1 q
        refine j_weak [some (.ref l0), some (.int l1), some (.int l2), none, some (.int l4)] ⟨rfl, ⟨rfl, ⟨rfl, ⟨rfl, trivial⟩⟩⟩⟩ ?_
        exact S_M_sentTo_40 hE hK5 _ _ _ _ _ _ h
      · replace h := h.2 q
        refine j_iconst hE (by decide +kernel : decode cX11_sentTo 36 = .ok (.iconst 1, 1)) (v := (1 : Int32)) (by decide) ?_
        refine j_goto hE (by decide +kernel : decode cX11_sentTo 37 = .ok (.goto 4, 3)) (tgt := 41) (by decide) ?_
        refine j_weak [some (.ref l0), some (.int l1), some (.int l2), none, some (.int l4)] ⟨rfl, ⟨rfl, ⟨rfl, ⟨rfl, trivial⟩⟩⟩⟩ ?_
        exact S_M_sentTo_41 hE hK5 _ _ _ _ _ _ _ h
set_option maxRecDepth 100000 in
def B_M_sentTo_0 (Γ : GAM) (K5 : Nat → Int32 → Int32 → Int32 → Int32 → GH → Prop) (K : Int32 → GH → Prop) (th : Nat) (p0 : Int32) (p1 : Int32) (g : GH) : Prop :=
  K5 th p0 p1 (0 : Int32) (0 : Int32) g
set_option maxHeartbeats 4000000 in
set_option maxRecDepth 100000 in
theorem S_M_sentTo_0 {Γ : GAM} {E : EV} {K : Int32 → GH → Prop} (hE : GE Γ E cX11_sentTo 5 RX11 (some (.int)) 1 22 (fun r g' => ∃ x, r = some (.int x) ∧ K x g')) {K5 : Nat → Int32 → Int32 → Int32 → Int32 → GH → Prop} (hK5 : ∀ (l0 : Nat) (l1 : Int32) (l2 : Int32) (l3 : Int32) (l4 : Int32) (g : GH), K5 l0 l1 l2 l3 l4 g → JW Γ E 5 [some (.ref l0), some (.int l1), some (.int l2), some (.int l3), some (.int l4)] [] g) (th : Nat) (p0 : Int32) (p1 : Int32) (g : GH) (h : B_M_sentTo_0 Γ K5 K th p0 p1 g) : JW Γ E 0 [some (.ref th), some (.int p0), some (.int p1), none, none] [] g := by
  unfold B_M_sentTo_0 at h
  refine j_iconst hE (by decide +kernel : decode cX11_sentTo 0 = .ok (.iconst 0, 1)) (v := (0 : Int32)) (by decide) ?_
  refine j_istore_n hE (by decide +kernel : decode cX11_sentTo 1 = .ok (.istore_n 3, 1)) rfl (Nat.le_of_ble_eq_true rfl) rfl ?_
  refine j_iconst hE (by decide +kernel : decode cX11_sentTo 2 = .ok (.iconst 0, 1)) (v := (0 : Int32)) (by decide) ?_
  refine j_istore hE (by decide +kernel : decode cX11_sentTo 3 = .ok (.istore 4, 2)) (Nat.le_of_ble_eq_true rfl) rfl ?_
  exact hK5 _ _ _ _ _ _ h
set_option maxHeartbeats 4000000 in
set_option maxRecDepth 100000 in
theorem rl_M_sentTo {Γ : GAM} {l : Launch} {th : Nat} {p0 : Int32} {p1 : Int32} {g : GH} {K : Int32 → GH → Prop} (I5 : Nat → Nat → Int32 → Int32 → Int32 → Int32 → GH → Prop) (hh5 : ∀ n (l0 : Nat) (l1 : Int32) (l2 : Int32) (l3 : Int32) (l4 : Int32) (g : GH), I5 n l0 l1 l2 l3 l4 g → B_M_sentTo_5 Γ (fun l0 l1 l2 l3 l4 g => ∃ m, m < n ∧ I5 m l0 l1 l2 l3 l4 g) K l0 l1 l2 l3 l4 g) (h0 : B_M_sentTo_0 Γ (fun l0 l1 l2 l3 l4 g => ∃ m, I5 m l0 l1 l2 l3 l4 g) K th p0 p1 g) : MetA Γ l yX11_sentTo cX11_sentTo 5 (some (.int)) 1 22 [.ref th, .int p0, .int p1] g (fun r g' => ∃ x, r = some (.int x) ∧ K x g') := by
  refine MetA.introL (Lx := [some (.ref th), some (.int p0), some (.int p1), none, none]) (by decide) (Nat.le_of_ble_eq_true rfl) rfl rfl ?_
  intro E hEl hE hnm
  have hall : ∀ n, (∀ (l0 : Nat) (l1 : Int32) (l2 : Int32) (l3 : Int32) (l4 : Int32) (g : GH), I5 n l0 l1 l2 l3 l4 g → JW Γ E 5 [some (.ref l0), some (.int l1), some (.int l2), some (.int l3), some (.int l4)] [] g) := by
    intro n
    induction n using Nat.strongRecOn with
    | ind n ih =>
      exact fun l0 l1 l2 l3 l4 g hi => S_M_sentTo_5 hE (fun l0 l1 l2 l3 l4 g hm => by obtain ⟨m, hm, h⟩ := hm; exact (ih m hm) l0 l1 l2 l3 l4 g h) l0 l1 l2 l3 l4 g (hh5 n l0 l1 l2 l3 l4 g hi)
  exact S_M_sentTo_0 hE (fun l0 l1 l2 l3 l4 g hm => by obtain ⟨m, h⟩ := hm; exact (hall m) l0 l1 l2 l3 l4 g h) th p0 p1 g h0
theorem mt_M_sentTo {Γ : GAM} {l : Launch} (th : Nat) (p0 : Int32) (p1 : Int32) (g : GH) (K : Int32 → GH → Prop) (h : Sp_M_sentTo Γ th p0 p1 g K) : MetA Γ l yX11_sentTo cX11_sentTo 5 (some (.int)) 1 22 [.ref th, .int p0, .int p1] g (fun r g' => ∃ x, r = some (.int x) ∧ K x g') := by
  obtain ⟨ma, s, hI, hK⟩ := h
  obtain ⟨hkd, hS⟩ := hI.1
  obtain ⟨f1, f2, f3⟩ := hI.env
  obtain ⟨z_voterOf1, z_voterOf2, z_voterOf3, z_voterOf4, z_voterOf5⟩ := hS 1556 20 200 rfl
  obtain ⟨z_sentTold1, z_sentTold2, z_sentTold3, z_sentTold4, z_sentTold5⟩ := hS 1558 20 200 rfl
  refine rl_M_sentTo (J_M_sentTo s th p0 p1 g) ?_ ?_
  · rintro n l0 l1 l2 l3 l4 g' ⟨rfl, rfl, rfl, rfl, k, hk, hn, rfl, hf⟩
    simp only [B_M_sentTo_5, B_M_sentTo_41, B_M_sentTo_40, B_M_sentTo_0, Sp_M_isSent, ifz, Int32.add_zero, hkd, f1, z_voterOf1, z_voterOf2, z_voterOf3, z_voterOf4, z_voterOf5, z_sentTold1, z_sentTold2, z_sentTold3, z_sentTold4, z_sentTold5, Option.some.injEq, exists_eq_left', true_and, forall_eq, nj_s, nj_le (show (s_env s).length < 2147483648 by omega) (show k < 2147483648 by omega), nj_cl (show k < 2147483648 by omega)]
    refine ⟨fun q => ?_, fun q => ?_⟩
    · have hz : (s_env s).take k = (s_env s) := List.take_of_length_le (by exact q)
      rw [hz] at hf
      rw [hf]; exact hK
    · obtain ⟨x, hx⟩ := get_lt (show k < (s_env s).length by omega)
      have hrow := f3 k x hx
      have hb := inB_nI (show k < 200 by omega) (by omega)
      have hnext : ∀ l3', l3' = (seS p0 p1) (((s_env s).take k).foldl (seS p0 p1) 0) x → ∃ m, m < n ∧ J_M_sentTo s th p0 p1 g m th p0 p1 l3' (nI (k + 1)) g := by
        intro l3' hab
        refine ⟨(s_env s).length - (k + 1), by omega, rfl, rfl, rfl, rfl, k + 1, by omega, rfl, rfl, ?_⟩
        rw [fold_take _ _ _ hx]; exact hab
      rw [← hf] at hnext
      unfold seS at hnext
      simp only [hrow, hb, true_and]
      repeat' with_reducible first | apply And.intro | intro _
      all_goals refine hnext _ ?_
      all_goals grind
  · unfold B_M_sentTo_0
    exact ⟨_, rfl, rfl, rfl, rfl, 0, Nat.zero_le _, rfl, rfl, rfl⟩
