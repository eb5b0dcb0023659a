/-! the reference: the press's next wave -/
abbrev Wv : Type := Int32 × Int32 × Int32
def nwS (lf : Nat → Int32) (d : Int32) (a : Option (Nat × Wv)) (p : Wv × Nat) : Option (Nat × Wv) := if lf p.2 ≤ 0 then a else if d < p.1.2.1 then a else match a with
  | none => some (p.2, p.1)
  | some b => if b.2.2.2 ≤ p.1.2.2 then some b else some (p.2, p.1)
def sNx (s : ST) (lf : Nat → Int32) (d : Int32) : Option (Nat × Wv) := (s_wav s).zipIdx.foldl (nwS lf d) none
theorem nwS_row (lf : Nat → Int32) (d : Int32) (a : Option (Nat × Wv)) (p : Wv × Nat) : nwS lf d a p = a ∨ nwS lf d a p = some (p.2, p.1) := by
  unfold nwS
  split
  · exact .inl rfl
  · split
    · exact .inl rfl
    · cases a with
      | none => exact .inr rfl
      | some b =>
        simp only
        split
        · exact .inl rfl
        · exact .inr rfl
theorem sNx_get {s : ST} {lf : Nat → Int32} {d : Int32} {j : Nat} {x : Wv} (h : sNx s lf d = some (j, x)) : (s_wav s)[j]? = some x :=
  fold_row _ (nwS lf d) (nwS_row lf d) h
def Sp_M_nextWave (Γ : GAM) (m : Nat) (d : Int32) (g : GH) (K : Int32 → GH → Prop) : Prop := ∃ ma s, RefI m ma g s ∧ WF s ∧ K (oI (sNx s (Ia g 1613 m) d)) g
-- the walk of M_nextWave
set_option maxRecDepth 100000 in
def B_M_nextWave_53 (Γ : GAM) (K4 : Nat → Int32 → Int32 → Int32 → GH → Prop) (K : Int32 → GH → Prop) (l0 : Nat) (l1 : Int32) (l2 : Int32) (l3 : Int32) (g : GH) : Prop :=
  K4 l0 l1 l2 (l3 + (1 : Int32)) g
set_option maxHeartbeats 4000000 in
set_option maxRecDepth 100000 in
theorem S_M_nextWave_53 {Γ : GAM} {E : EV} {K : Int32 → GH → Prop} (hE : GE Γ E cX11_nextWave 4 RX11 (some (.int)) 0 0 (fun r g' => ∃ x, r = some (.int x) ∧ K x g')) {K4 : Nat → Int32 → Int32 → Int32 → GH → Prop} (hK4 : ∀ (l0 : Nat) (l1 : Int32) (l2 : Int32) (l3 : Int32) (g : GH), K4 l0 l1 l2 l3 g → JW Γ E 4 [some (.ref l0), some (.int l1), some (.int l2), some (.int l3)] [] g) (l0 : Nat) (l1 : Int32) (l2 : Int32) (l3 : Int32) (g : GH) (h : B_M_nextWave_53 Γ K4 K l0 l1 l2 l3 g) : JW Γ E 53 [some (.ref l0), some (.int l1), some (.int l2), some (.int l3)] [] g := by
  unfold B_M_nextWave_53 at h
  refine j_iinc hE (by decide +kernel : decode cX11_nextWave 53 = .ok (.iinc 3 1, 3)) (v := (1 : Int32)) (by decide) rfl (Nat.le_of_ble_eq_true rfl) rfl ?_
  refine j_goto hE (by decide +kernel : decode cX11_nextWave 56 = .ok (.goto (-52), 3)) (tgt := 4) (by decide) ?_
  exact hK4 _ _ _ _ _ h
set_option maxRecDepth 100000 in
def B_M_nextWave_51 (Γ : GAM) (K4 : Nat → Int32 → Int32 → Int32 → GH → Prop) (K : Int32 → GH → Prop) (l0 : Nat) (l1 : Int32) (l3 : Int32) (g : GH) : Prop :=
  B_M_nextWave_53 Γ K4 K l0 l1 l3 l3 g
set_option maxHeartbeats 4000000 in
set_option maxRecDepth 100000 in
theorem S_M_nextWave_51 {Γ : GAM} {E : EV} {K : Int32 → GH → Prop} (hE : GE Γ E cX11_nextWave 4 RX11 (some (.int)) 0 0 (fun r g' => ∃ x, r = some (.int x) ∧ K x g')) {K4 : Nat → Int32 → Int32 → Int32 → GH → Prop} (hK4 : ∀ (l0 : Nat) (l1 : Int32) (l2 : Int32) (l3 : Int32) (g : GH), K4 l0 l1 l2 l3 g → JW Γ E 4 [some (.ref l0), some (.int l1), some (.int l2), some (.int l3)] [] g) (l0 : Nat) (l1 : Int32) (l3 : Int32) (g : GH) (h : B_M_nextWave_51 Γ K4 K l0 l1 l3 g) : JW Γ E 51 [some (.ref l0), some (.int l1), none, some (.int l3)] [] g := by
  unfold B_M_nextWave_51 at h
  refine j_iload_n hE (by decide +kernel : decode cX11_nextWave 51 = .ok (.iload_n 3, 1)) rfl rfl ?_
  refine j_istore_n hE (by decide +kernel : decode cX11_nextWave 52 = .ok (.istore_n 2, 1)) rfl (Nat.le_of_ble_eq_true rfl) rfl ?_
  exact S_M_nextWave_53 hE hK4 _ _ _ _ _ h
set_option maxRecDepth 100000 in
def B_M_nextWave_4 (Γ : GAM) (K4 : Nat → Int32 → Int32 → Int32 → GH → Prop) (K : Int32 → GH → Prop) (l0 : Nat) (l1 : Int32) (l2 : Int32) (l3 : Int32) (g : GH) : Prop :=
  Kd g l0 = 13 ∧ (((Gi g 1546 l0) ≤ l3 → K l2 g) ∧ (¬ ((Gi g 1546 l0) ≤ l3) → Kd g l0 = 13 ∧ ∃ a1 : Nat, Gr g 1613 l0 = some a1 ∧ Kd g a1 = 20 ∧ inB l3 (Ln g a1) ∧ (((Ia g (Co g a1) (Ow g a1) l3.toNatClampNeg) ≤ 0 → B_M_nextWave_53 Γ K4 K l0 l1 l2 l3 g) ∧ (¬ ((Ia g (Co g a1) (Ow g a1) l3.toNatClampNeg) ≤ 0) → Kd g l0 = 13 ∧ ∃ a2 : Nat, Gr g 1611 l0 = some a2 ∧ Kd g a2 = 20 ∧ inB l3 (Ln g a2) ∧ ((l1 < (Ia g (Co g a2) (Ow g a2) l3.toNatClampNeg) → B_M_nextWave_53 Γ K4 K l0 l1 l2 l3 g) ∧ (¬ (l1 < (Ia g (Co g a2) (Ow g a2) l3.toNatClampNeg)) → ((l2 = (-1 : Int32) → B_M_nextWave_51 Γ K4 K l0 l1 l3 g) ∧ (¬ (l2 = (-1 : Int32)) → Kd g l0 = 13 ∧ ∃ a3 : Nat, Gr g 1612 l0 = some a3 ∧ Kd g a3 = 20 ∧ inB l3 (Ln g a3) ∧ Kd g l0 = 13 ∧ ∃ a4 : Nat, Gr g 1612 l0 = some a4 ∧ Kd g a4 = 20 ∧ inB l2 (Ln g a4) ∧ (((Ia g (Co g a4) (Ow g a4) l2.toNatClampNeg) ≤ (Ia g (Co g a3) (Ow g a3) l3.toNatClampNeg) → B_M_nextWave_53 Γ K4 K l0 l1 l2 l3 g) ∧ (¬ ((Ia g (Co g a4) (Ow g a4) l2.toNatClampNeg) ≤ (Ia g (Co g a3) (Ow g a3) l3.toNatClampNeg)) → B_M_nextWave_51 Γ K4 K l0 l1 l3 g))))))))))
set_option maxHeartbeats 4000000 in
set_option maxRecDepth 100000 in
theorem S_M_nextWave_4 {Γ : GAM} {E : EV} {K : Int32 → GH → Prop} (hE : GE Γ E cX11_nextWave 4 RX11 (some (.int)) 0 0 (fun r g' => ∃ x, r = some (.int x) ∧ K x g')) {K4 : Nat → Int32 → Int32 → Int32 → GH → Prop} (hK4 : ∀ (l0 : Nat) (l1 : Int32) (l2 : Int32) (l3 : Int32) (g : GH), K4 l0 l1 l2 l3 g → JW Γ E 4 [some (.ref l0), some (.int l1), some (.int l2), some (.int l3)] [] g) (l0 : Nat) (l1 : Int32) (l2 : Int32) (l3 : Int32) (g : GH) (h : B_M_nextWave_4 Γ K4 K l0 l1 l2 l3 g) : JW Γ E 4 [some (.ref l0), some (.int l1), some (.int l2), some (.int l3)] [] g := by
  unfold B_M_nextWave_4 at h
  refine j_iload_n hE (by decide +kernel : decode cX11_nextWave 4 = .ok (.iload_n 3, 1)) rfl rfl ?_
  refine j_aload_n hE (by decide +kernel : decode cX11_nextWave 5 = .ok (.aload_n 0, 1)) rfl rfl ?_
  obtain ⟨hk, h⟩ := h
  refine j_getI hE fg_X11_459 hk (by decide +kernel : decode cX11_nextWave 6 = .ok (.getfield 459, 3)) ?_
  refine j_icmp_ge hE (by decide +kernel : decode cX11_nextWave 9 = .ok (.if_icmp .ge 50, 3)) (tgt := 59) (by decide) (fun q => ?_) (fun q => ?_)
  · replace h := h.1 q
    refine j_iload_n hE (by decide +kernel : decode cX11_nextWave 59 = .ok (.iload_n 2, 1)) rfl rfl ?_
    exact j_iret hE (by decide +kernel : decode cX11_nextWave 60 = .ok (.ireturn, 1)) ⟨_, rfl, h⟩
  · replace h := h.2 q
    refine j_aload_n hE (by decide +kernel : decode cX11_nextWave 12 = .ok (.aload_n 0, 1)) rfl rfl ?_
    obtain ⟨hk, h⟩ := h
    obtain ⟨a1, ha, h⟩ := h
    refine j_getRn hE fg_X11_165 hk ha (by decide +kernel : decode cX11_nextWave 13 = .ok (.getfield 165, 3)) ?_
    refine j_iload_n hE (by decide +kernel : decode cX11_nextWave 16 = .ok (.iload_n 3, 1)) rfl rfl ?_
    obtain ⟨hk, hb, h⟩ := h
    refine j_iald hE hk hb (by decide +kernel : decode cX11_nextWave 17 = .ok (.iaload, 1)) ?_
    refine j_if_le hE (by decide +kernel : decode cX11_nextWave 18 = .ok (.ifCond .le 35, 3)) (tgt := 53) (by decide) (fun q => ?_) (fun q => ?_)
    · replace h := h.1 q
      exact S_M_nextWave_53 hE hK4 _ _ _ _ _ h
    · replace h := h.2 q
      refine j_aload_n hE (by decide +kernel : decode cX11_nextWave 21 = .ok (.aload_n 0, 1)) rfl rfl ?_
      obtain ⟨hk, h⟩ := h
      obtain ⟨a2, ha, h⟩ := h
      refine j_getRn hE fg_X11_159 hk ha (by decide +kernel : decode cX11_nextWave 22 = .ok (.getfield 159, 3)) ?_
      refine j_iload_n hE (by decide +kernel : decode cX11_nextWave 25 = .ok (.iload_n 3, 1)) rfl rfl ?_
      obtain ⟨hk, hb, h⟩ := h
      refine j_iald hE hk hb (by decide +kernel : decode cX11_nextWave 26 = .ok (.iaload, 1)) ?_
      refine j_iload_n hE (by decide +kernel : decode cX11_nextWave 27 = .ok (.iload_n 1, 1)) rfl rfl ?_
      refine j_icmp_gt hE (by decide +kernel : decode cX11_nextWave 28 = .ok (.if_icmp .gt 25, 3)) (tgt := 53) (by decide) (fun q => ?_) (fun q => ?_)
      · replace h := h.1 q
        exact S_M_nextWave_53 hE hK4 _ _ _ _ _ h
      · replace h := h.2 q
        refine j_iload_n hE (by decide +kernel : decode cX11_nextWave 31 = .ok (.iload_n 2, 1)) rfl rfl ?_
        refine j_iconst hE (by decide +kernel : decode cX11_nextWave 32 = .ok (.iconst (-1), 1)) (v := (-1 : Int32)) (by decide) ?_
        refine j_icmp_eq hE (by decide +kernel : decode cX11_nextWave 33 = .ok (.if_icmp .eq 18, 3)) (tgt := 51) (by decide) (fun q => ?_) (fun q => ?_)
        · replace h := h.1 q
          refine j_weak [some (.ref l0), some (.int l1), none, some (.int l3)] ⟨rfl, ⟨rfl, ⟨rfl, trivial⟩⟩⟩ ?_
          exact S_M_nextWave_51 hE hK4 _ _ _ _ h
        · replace h := h.2 q
          refine j_aload_n hE (by decide +kernel : decode cX11_nextWave 36 = .ok (.aload_n 0, 1)) rfl rfl ?_
          obtain ⟨hk, h⟩ := h
          obtain ⟨a3, ha, h⟩ := h
          refine j_getRn hE fg_X11_162 hk ha (by decide +kernel : decode cX11_nextWave 37 = .ok (.getfield 162, 3)) ?_
          refine j_iload_n hE (by decide +kernel : decode cX11_nextWave 40 = .ok (.iload_n 3, 1)) rfl rfl ?_
          obtain ⟨hk, hb, h⟩ := h
          refine j_iald hE hk hb (by decide +kernel : decode cX11_nextWave 41 = .ok (.iaload, 1)) ?_
          refine j_aload_n hE (by decide +kernel : decode cX11_nextWave 42 = .ok (.aload_n 0, 1)) rfl rfl ?_
          obtain ⟨hk, h⟩ := h
          obtain ⟨a4, ha, h⟩ := h
          refine j_getRn hE fg_X11_162 hk ha (by decide +kernel : decode cX11_nextWave 43 = .ok (.getfield 162, 3)) ?_
          refine j_iload_n hE (by decide +kernel : decode cX11_nextWave 46 = .ok (.iload_n 2, 1)) rfl rfl ?_
          obtain ⟨hk, hb, h⟩ := h
          refine j_iald hE hk hb (by decide +kernel : decode cX11_nextWave 47 = .ok (.iaload, 1)) ?_
          refine j_icmp_ge hE (by decide +kernel : decode cX11_nextWave 48 = .ok (.if_icmp .ge 5, 3)) (tgt := 53) (by decide) (fun q => ?_) (fun q => ?_)
          · replace h := h.1 q
            exact S_M_nextWave_53 hE hK4 _ _ _ _ _ h
          · replace h := h.2 q
            refine j_weak [some (.ref l0), some (.int l1), none, some (.int l3)] ⟨rfl, ⟨rfl, ⟨rfl, trivial⟩⟩⟩ ?_
            exact S_M_nextWave_51 hE hK4 _ _ _ _ h
set_option maxRecDepth 100000 in
def B_M_nextWave_0 (Γ : GAM) (K4 : Nat → Int32 → Int32 → Int32 → GH → Prop) (K : Int32 → GH → Prop) (th : Nat) (p0 : Int32) (g : GH) : Prop :=
  K4 th p0 (-1 : Int32) (0 : Int32) g
set_option maxHeartbeats 4000000 in
set_option maxRecDepth 100000 in
theorem S_M_nextWave_0 {Γ : GAM} {E : EV} {K : Int32 → GH → Prop} (hE : GE Γ E cX11_nextWave 4 RX11 (some (.int)) 0 0 (fun r g' => ∃ x, r = some (.int x) ∧ K x g')) {K4 : Nat → Int32 → Int32 → Int32 → GH → Prop} (hK4 : ∀ (l0 : Nat) (l1 : Int32) (l2 : Int32) (l3 : Int32) (g : GH), K4 l0 l1 l2 l3 g → JW Γ E 4 [some (.ref l0), some (.int l1), some (.int l2), some (.int l3)] [] g) (th : Nat) (p0 : Int32) (g : GH) (h : B_M_nextWave_0 Γ K4 K th p0 g) : JW Γ E 0 [some (.ref th), some (.int p0), none, none] [] g := by
  unfold B_M_nextWave_0 at h
  refine j_iconst hE (by decide +kernel : decode cX11_nextWave 0 = .ok (.iconst (-1), 1)) (v := (-1 : Int32)) (by decide) ?_
  refine j_istore_n hE (by decide +kernel : decode cX11_nextWave 1 = .ok (.istore_n 2, 1)) rfl (Nat.le_of_ble_eq_true rfl) rfl ?_
  refine j_iconst hE (by decide +kernel : decode cX11_nextWave 2 = .ok (.iconst 0, 1)) (v := (0 : Int32)) (by decide) ?_
  refine j_istore_n hE (by decide +kernel : decode cX11_nextWave 3 = .ok (.istore_n 3, 1)) rfl (Nat.le_of_ble_eq_true rfl) rfl ?_
  exact hK4 _ _ _ _ _ h
set_option maxHeartbeats 4000000 in
set_option maxRecDepth 100000 in
theorem rl_M_nextWave {Γ : GAM} {l : Launch} {th : Nat} {p0 : Int32} {g : GH} {K : Int32 → GH → Prop} (I4 : Nat → Nat → Int32 → Int32 → Int32 → GH → Prop) (hh4 : ∀ n (l0 : Nat) (l1 : Int32) (l2 : Int32) (l3 : Int32) (g : GH), I4 n l0 l1 l2 l3 g → B_M_nextWave_4 Γ (fun l0 l1 l2 l3 g => ∃ m, m < n ∧ I4 m l0 l1 l2 l3 g) K l0 l1 l2 l3 g) (h0 : B_M_nextWave_0 Γ (fun l0 l1 l2 l3 g => ∃ m, I4 m l0 l1 l2 l3 g) K th p0 g) : MetA Γ l yX11_nextWave cX11_nextWave 4 (some (.int)) 0 0 [.ref th, .int p0] g (fun r g' => ∃ x, r = some (.int x) ∧ K x g') := by
  refine MetA.introL (Lx := [some (.ref th), some (.int p0), none, none]) (by decide) (Nat.le_of_ble_eq_true rfl) rfl rfl ?_
  intro E hEl hE hnm
  have hall : ∀ n, (∀ (l0 : Nat) (l1 : Int32) (l2 : Int32) (l3 : Int32) (g : GH), I4 n l0 l1 l2 l3 g → JW Γ E 4 [some (.ref l0), some (.int l1), some (.int l2), some (.int l3)] [] g) := by
    intro n
    induction n using Nat.strongRecOn with
    | ind n ih =>
      exact fun l0 l1 l2 l3 g hi => S_M_nextWave_4 hE (fun l0 l1 l2 l3 g hm => by obtain ⟨m, hm, h⟩ := hm; exact (ih m hm) l0 l1 l2 l3 g h) l0 l1 l2 l3 g (hh4 n l0 l1 l2 l3 g hi)
  exact S_M_nextWave_0 hE (fun l0 l1 l2 l3 g hm => by obtain ⟨m, h⟩ := hm; exact (hall m) l0 l1 l2 l3 g h) th p0 g h0
theorem mt_M_nextWave {Γ : GAM} {l : Launch} (th : Nat) (p0 : Int32) (g : GH) (K : Int32 → GH → Prop) (h : Sp_M_nextWave Γ th p0 g K) : MetA Γ l yX11_nextWave cX11_nextWave 4 (some (.int)) 0 0 [.ref th, .int p0] g (fun r g' => ∃ x, r = some (.int x) ∧ K x g') := by
  obtain ⟨ma, s, hI, hw, hK⟩ := h
  obtain ⟨hkd, hS⟩ := hI.1
  obtain ⟨f1, f2, f3⟩ := hI.wav
  have hlen := hw.len.2.2.2.2.2.2.2.2.2.2.1
  obtain ⟨z_waveLeft1, z_waveLeft2, z_waveLeft3, z_waveLeft4, z_waveLeft5⟩ := hS 1613 20 12 rfl
  obtain ⟨z_waveReady1, z_waveReady2, z_waveReady3, z_waveReady4, z_waveReady5⟩ := hS 1611 20 12 rfl
  obtain ⟨z_waveDue1, z_waveDue2, z_waveDue3, z_waveDue4, z_waveDue5⟩ := hS 1612 20 12 rfl
  refine rl_M_nextWave (fun n l0 l1 l2 l3 g' => g = g' ∧ th = l0 ∧ p0 = l1 ∧ ∃ k, k ≤ (s_wav s).length ∧ n = (s_wav s).length - k ∧ l3 = nI k ∧ l2 = oI (((s_wav s).zipIdx.take k).foldl (nwS (Ia g 1613 th) p0) none)) ?_ ?_
  · rintro n l0 l1 l2 l3 g' ⟨rfl, rfl, rfl, k, hk, rfl, rfl, hf⟩
    suffices H : ∀ K4 : Nat → Int32 → Int32 → Int32 → GH → Prop, (∀ a x, (s_wav s)[k]? = some x → a = oI (nwS (Ia g 1613 th) p0 (((s_wav s).zipIdx.take k).foldl (nwS (Ia g 1613 th) p0) none) (x, k)) → K4 th p0 a (nI (k + 1)) g) → B_M_nextWave_4 Γ K4 K th p0 l2 (nI k) g from
      H _ (fun a x hx ha => ⟨(s_wav s).length - (k + 1), by have := (List.getElem?_eq_some_iff.mp hx).1; omega, rfl, rfl, rfl, k + 1, (List.getElem?_eq_some_iff.mp hx).1, rfl, rfl, by rw [fold_take _ _ _ (zip_get hx)]; exact ha⟩)
    intro K4 hnext
    unfold B_M_nextWave_4
    simp only [hkd, f1, z_waveLeft1, z_waveLeft2, z_waveLeft3, z_waveLeft4, z_waveLeft5, z_waveReady1, z_waveReady2, z_waveReady3, z_waveReady4, z_waveReady5, z_waveDue1, z_waveDue2, z_waveDue3, z_waveDue4, z_waveDue5, Option.some.injEq, exists_eq_left', true_and, nj_cl (show k < 2147483648 by omega), nj_le (show (s_wav s).length < 2147483648 by omega) (show k < 2147483648 by omega)]
    refine ⟨fun z => ?_, fun z => ?_⟩
    · have hz : (s_wav s).zipIdx.take k = (s_wav s).zipIdx := List.take_of_length_le (by rw [List.length_zipIdx]; exact z)
      rw [hz] at hf
      rw [hf]; exact hK
    · obtain ⟨x, hx⟩ := get_lt (show k < (s_wav s).length by omega)
      obtain ⟨x1, x2, x3⟩ := f3 k x hx
      have hb := inB_nI (show k < 12 by omega) (by omega)
      have hn := fun a => hnext a x hx
      generalize hF : ((s_wav s).zipIdx.take k).foldl (nwS (Ia g 1613 th) p0) none = F at hf hn
      simp only [B_M_nextWave_53, B_M_nextWave_51, x2, x3, hb, true_and, nj_s]
      cases F with
      | none =>
        rw [oI_n] at hf
        subst hf
        simp only [nwS] at hn
        refine ⟨fun u => hn _ (by rw [if_pos u]; rfl), fun u => ⟨fun u2 => hn _ (by rw [if_neg u, if_pos u2]; rfl), fun u2 => ⟨fun _ => hn _ (by rw [if_neg u, if_neg u2]; rfl), fun u3 => absurd rfl u3⟩⟩⟩
      | some b =>
        obtain ⟨i, y⟩ := b
        rw [oI_s] at hf
        subst hf
        have hy : (s_wav s)[i]? = some y := by
          refine fold_row (s_wav s) (fun a p => if p.2 < k then nwS (Ia g 1613 th) p0 a p else a) (fun a p => ?_) (j := i) (x := y) ?_
          · split
            · exact nwS_row _ _ _ _
            · exact .inl rfl
          · rw [← hF, fold_ltake]
        have hi := (List.getElem?_eq_some_iff.mp hy).1
        have hbi := inB_nI (show i < 12 by omega) (by omega)
        simp only [nwS] at hn
        simp only [hbi, true_and, nj_cl (show i < 2147483648 by omega), (f3 i y hy).2.2]
        have hne := nI_nm1 (show i < 2147483648 by omega)
        refine ⟨fun u => hn _ (by rw [if_pos u]; rfl), fun u => ⟨fun u2 => hn _ (by rw [if_neg u, if_pos u2]; rfl), fun u2 => ⟨fun u3 => absurd u3 hne, fun _ => ⟨fun u4 => hn _ (by rw [if_neg u, if_neg u2, if_pos u4]; rfl), fun u4 => hn _ (by rw [if_neg u, if_neg u2, if_neg u4]; rfl)⟩⟩⟩⟩
  · unfold B_M_nextWave_0
    exact ⟨_, rfl, rfl, rfl, 0, Nat.zero_le _, rfl, nj_0, rfl⟩
