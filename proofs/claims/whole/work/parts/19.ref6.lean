/-! the reference: words counted, signs compared, plain settings -/
def woC (s : ST) (e w q : Int32) (a : Int32) (h : Nat) : Int32 := if sWord s e (nI h) q = w then a + 1 else a
def sWords (s : ST) (e w q : Int32) : Int32 := (List.range 6).foldl (woC s e w q) 0
def Sp_M_wordsOf (Γ : GAM) (m : Nat) (e w q : Int32) (g : GH) (K : Int32 → GH → Prop) : Prop := ∃ ma s, RefI m ma g s ∧ K (sWords s e w q) g
-- the walk of M_wordsOf
set_option maxRecDepth 100000 in
def B_M_wordsOf_32 (Γ : GAM) (K6 : Nat → Int32 → Int32 → Int32 → Int32 → Int32 → GH → Prop) (K : Int32 → GH → Prop) (l0 : Nat) (l1 : Int32) (l2 : Int32) (l3 : Int32) (l5 : Int32) (s0 : Int32) (s1 : Int32) (g : GH) : Prop :=
  ∀ x1 : Int32, x1 = (s1 + s0) → K6 l0 l1 l2 l3 x1 (l5 + (1 : Int32)) g
set_option maxHeartbeats 4000000 in
set_option maxRecDepth 100000 in
theorem S_M_wordsOf_32 {Γ : GAM} {E : EV} {K : Int32 → GH → Prop} (hE : GE Γ E cX11_wordsOf 6 RX11 (some (.int)) 1 25 (fun r g' => ∃ x, r = some (.int x) ∧ K x g')) {K6 : Nat → Int32 → Int32 → Int32 → Int32 → Int32 → GH → Prop} (hK6 : ∀ (l0 : Nat) (l1 : Int32) (l2 : Int32) (l3 : Int32) (l4 : Int32) (l5 : Int32) (g : GH), K6 l0 l1 l2 l3 l4 l5 g → JW Γ E 6 [some (.ref l0), some (.int l1), some (.int l2), some (.int l3), some (.int l4), some (.int l5)] [] g) (l0 : Nat) (l1 : Int32) (l2 : Int32) (l3 : Int32) (l5 : Int32) (s0 : Int32) (s1 : Int32) (g : GH) (h : B_M_wordsOf_32 Γ K6 K l0 l1 l2 l3 l5 s0 s1 g) : JW Γ E 32 [some (.ref l0), some (.int l1), some (.int l2), some (.int l3), none, some (.int l5)] [.int s0, .int s1] g := by
  unfold B_M_wordsOf_32 at h
  refine j_iadd hE (by decide +kernel : decode cX11_wordsOf 32 = .ok (.iadd, 1)) ?_
  obtain ⟨x1, hx⟩ : ∃ z, z = (s1 + s0) := ⟨_, rfl⟩; replace h := h x1 hx; rw [← hx]
  refine j_istore hE (by decide +kernel : decode cX11_wordsOf 33 = .ok (.istore 4, 2)) (Nat.le_of_ble_eq_true rfl) rfl ?_
  refine j_iinc hE (by decide +kernel : decode cX11_wordsOf 35 = .ok (.iinc 5 1, 3)) (v := (1 : Int32)) (by decide) rfl (Nat.le_of_ble_eq_true rfl) rfl ?_
  refine j_goto hE (by decide +kernel : decode cX11_wordsOf 38 = .ok (.goto (-32), 3)) (tgt := 6) (by decide) ?_
  exact hK6 _ _ _ _ _ _ _ h
set_option maxRecDepth 100000 in
def B_M_wordsOf_6 (Γ : GAM) (K6 : Nat → Int32 → Int32 → Int32 → Int32 → Int32 → GH → Prop) (K : Int32 → GH → Prop) (l0 : Nat) (l1 : Int32) (l2 : Int32) (l3 : Int32) (l4 : Int32) (l5 : Int32) (g : GH) : Prop :=
  (((6 : Int32) ≤ l5 → K l4 g) ∧ (¬ ((6 : Int32) ≤ l5) → Kd g l0 = 13 ∧ Sp_M_wordOf Γ l0 l1 l5 l3 g (fun (x2 : Int32) (g1 : GH) => ((¬ (x2 = l2) → B_M_wordsOf_32 Γ K6 K l0 l1 l2 l3 l5 (0 : Int32) l4 g1) ∧ (x2 = l2 → B_M_wordsOf_32 Γ K6 K l0 l1 l2 l3 l5 (1 : Int32) l4 g1)))))
set_option maxHeartbeats 4000000 in
set_option maxRecDepth 100000 in
theorem S_M_wordsOf_6 {Γ : GAM} {E : EV} {K : Int32 → GH → Prop} (hE : GE Γ E cX11_wordsOf 6 RX11 (some (.int)) 1 25 (fun r g' => ∃ x, r = some (.int x) ∧ K x g')) {K6 : Nat → Int32 → Int32 → Int32 → Int32 → Int32 → GH → Prop} (hK6 : ∀ (l0 : Nat) (l1 : Int32) (l2 : Int32) (l3 : Int32) (l4 : Int32) (l5 : Int32) (g : GH), K6 l0 l1 l2 l3 l4 l5 g → JW Γ E 6 [some (.ref l0), some (.int l1), some (.int l2), some (.int l3), some (.int l4), some (.int l5)] [] g) (l0 : Nat) (l1 : Int32) (l2 : Int32) (l3 : Int32) (l4 : Int32) (l5 : Int32) (g : GH) (h : B_M_wordsOf_6 Γ K6 K l0 l1 l2 l3 l4 l5 g) : JW Γ E 6 [some (.ref l0), some (.int l1), some (.int l2), some (.int l3), some (.int l4), some (.int l5)] [] g := by
  unfold B_M_wordsOf_6 at h
  refine j_iload hE (by decide +kernel : decode cX11_wordsOf 6 = .ok (.iload 5, 2)) rfl ?_
  refine j_bipush hE (by decide +kernel : decode cX11_wordsOf 8 = .ok (.bipush 6, 2)) (v := (6 : Int32)) (by decide) ?_
  refine j_icmp_ge hE (by decide +kernel : decode cX11_wordsOf 10 = .ok (.if_icmp .ge 31, 3)) (tgt := 41) (by decide) (fun q => ?_) (fun q => ?_)
  · replace h := h.1 q
    refine j_iload hE (by decide +kernel : decode cX11_wordsOf 41 = .ok (.iload 4, 2)) rfl ?_
    exact j_iret hE (by decide +kernel : decode cX11_wordsOf 43 = .ok (.ireturn, 1)) ⟨_, rfl, h⟩
  · replace h := h.2 q
    refine j_iload hE (by decide +kernel : decode cX11_wordsOf 13 = .ok (.iload 4, 2)) rfl ?_
    refine j_aload_n hE (by decide +kernel : decode cX11_wordsOf 15 = .ok (.aload_n 0, 1)) rfl rfl ?_
    refine j_iload_n hE (by decide +kernel : decode cX11_wordsOf 16 = .ok (.iload_n 1, 1)) rfl rfl ?_
    refine j_iload hE (by decide +kernel : decode cX11_wordsOf 17 = .ok (.iload 5, 2)) rfl ?_
    refine j_iload_n hE (by decide +kernel : decode cX11_wordsOf 19 = .ok (.iload_n 3, 1)) rfl rfl ?_
    obtain ⟨hk, h⟩ := h
    refine j_callV hE rfl cl_X11_291 cf_12 im_X11_wordOf se_X11_wordOf ⟨by omega, by omega⟩ (As := [.int l1, .int l5, .int l3]) (rest := [.int l4]) rfl rfl (Nat.le_of_ble_eq_true rfl) hk (by decide +kernel : decode cX11_wordsOf 20 = .ok (.invokevirtual 291, 3)) (mt_M_wordOf _ _ _ _ _ _ h) ?_
    rintro _ g1 ⟨x2, rfl, h⟩
    refine j_iload_n hE (by decide +kernel : decode cX11_wordsOf 23 = .ok (.iload_n 2, 1)) rfl rfl ?_
    refine j_icmp_ne hE (by decide +kernel : decode cX11_wordsOf 24 = .ok (.if_icmp .ne 7, 3)) (tgt := 31) (by decide) (fun q => ?_) (fun q => ?_)
    · replace h := h.1 q
      refine j_iconst hE (by decide +kernel : decode cX11_wordsOf 31 = .ok (.iconst 0, 1)) (v := (0 : Int32)) (by decide) ?_
      refine j_weak [some (.ref l0), some (.int l1), some (.int l2), some (.int l3), none, some (.int l5)] ⟨rfl, ⟨rfl, ⟨rfl, ⟨rfl, ⟨rfl, trivial⟩⟩⟩⟩⟩ ?_
      exact S_M_wordsOf_32 hE hK6 _ _ _ _ _ _ _ _ h
    · replace h := h.2 q
      refine j_iconst hE (by decide +kernel : decode cX11_wordsOf 27 = .ok (.iconst 1, 1)) (v := (1 : Int32)) (by decide) ?_
      refine j_goto hE (by decide +kernel : decode cX11_wordsOf 28 = .ok (.goto 4, 3)) (tgt := 32) (by decide) ?_
      refine j_weak [some (.ref l0), some (.int l1), some (.int l2), some (.int l3), none, some (.int l5)] ⟨rfl, ⟨rfl, ⟨rfl, ⟨rfl, ⟨rfl, trivial⟩⟩⟩⟩⟩ ?_
      exact S_M_wordsOf_32 hE hK6 _ _ _ _ _ _ _ _ h
set_option maxRecDepth 100000 in
def B_M_wordsOf_0 (Γ : GAM) (K6 : Nat → Int32 → Int32 → Int32 → Int32 → Int32 → GH → Prop) (K : Int32 → GH → Prop) (th : Nat) (p0 : Int32) (p1 : Int32) (p2 : Int32) (g : GH) : Prop :=
  K6 th p0 p1 p2 (0 : Int32) (0 : Int32) g
set_option maxHeartbeats 4000000 in
set_option maxRecDepth 100000 in
theorem S_M_wordsOf_0 {Γ : GAM} {E : EV} {K : Int32 → GH → Prop} (hE : GE Γ E cX11_wordsOf 6 RX11 (some (.int)) 1 25 (fun r g' => ∃ x, r = some (.int x) ∧ K x g')) {K6 : Nat → Int32 → Int32 → Int32 → Int32 → Int32 → GH → Prop} (hK6 : ∀ (l0 : Nat) (l1 : Int32) (l2 : Int32) (l3 : Int32) (l4 : Int32) (l5 : Int32) (g : GH), K6 l0 l1 l2 l3 l4 l5 g → JW Γ E 6 [some (.ref l0), some (.int l1), some (.int l2), some (.int l3), some (.int l4), some (.int l5)] [] g) (th : Nat) (p0 : Int32) (p1 : Int32) (p2 : Int32) (g : GH) (h : B_M_wordsOf_0 Γ K6 K th p0 p1 p2 g) : JW Γ E 0 [some (.ref th), some (.int p0), some (.int p1), some (.int p2), none, none] [] g := by
  unfold B_M_wordsOf_0 at h
  refine j_iconst hE (by decide +kernel : decode cX11_wordsOf 0 = .ok (.iconst 0, 1)) (v := (0 : Int32)) (by decide) ?_
  refine j_istore hE (by decide +kernel : decode cX11_wordsOf 1 = .ok (.istore 4, 2)) (Nat.le_of_ble_eq_true rfl) rfl ?_
  refine j_iconst hE (by decide +kernel : decode cX11_wordsOf 3 = .ok (.iconst 0, 1)) (v := (0 : Int32)) (by decide) ?_
  refine j_istore hE (by decide +kernel : decode cX11_wordsOf 4 = .ok (.istore 5, 2)) (Nat.le_of_ble_eq_true rfl) rfl ?_
  exact hK6 _ _ _ _ _ _ _ h
set_option maxHeartbeats 4000000 in
set_option maxRecDepth 100000 in
theorem rl_M_wordsOf {Γ : GAM} {l : Launch} {th : Nat} {p0 : Int32} {p1 : Int32} {p2 : Int32} {g : GH} {K : Int32 → GH → Prop} (I6 : Nat → Nat → Int32 → Int32 → Int32 → Int32 → Int32 → GH → Prop) (hh6 : ∀ n (l0 : Nat) (l1 : Int32) (l2 : Int32) (l3 : Int32) (l4 : Int32) (l5 : Int32) (g : GH), I6 n l0 l1 l2 l3 l4 l5 g → B_M_wordsOf_6 Γ (fun l0 l1 l2 l3 l4 l5 g => ∃ m, m < n ∧ I6 m l0 l1 l2 l3 l4 l5 g) K l0 l1 l2 l3 l4 l5 g) (h0 : B_M_wordsOf_0 Γ (fun l0 l1 l2 l3 l4 l5 g => ∃ m, I6 m l0 l1 l2 l3 l4 l5 g) K th p0 p1 p2 g) : MetA Γ l yX11_wordsOf cX11_wordsOf 6 (some (.int)) 1 25 [.ref th, .int p0, .int p1, .int p2] g (fun r g' => ∃ x, r = some (.int x) ∧ K x g') := by
  refine MetA.introL (Lx := [some (.ref th), some (.int p0), some (.int p1), some (.int p2), none, none]) (by decide) (Nat.le_of_ble_eq_true rfl) rfl rfl ?_
  intro E hEl hE hnm
  have hall : ∀ n, (∀ (l0 : Nat) (l1 : Int32) (l2 : Int32) (l3 : Int32) (l4 : Int32) (l5 : Int32) (g : GH), I6 n l0 l1 l2 l3 l4 l5 g → JW Γ E 6 [some (.ref l0), some (.int l1), some (.int l2), some (.int l3), some (.int l4), some (.int l5)] [] g) := by
    intro n
    induction n using Nat.strongRecOn with
    | ind n ih =>
      exact fun l0 l1 l2 l3 l4 l5 g hi => S_M_wordsOf_6 hE (fun l0 l1 l2 l3 l4 l5 g hm => by obtain ⟨m, hm, h⟩ := hm; exact (ih m hm) l0 l1 l2 l3 l4 l5 g h) l0 l1 l2 l3 l4 l5 g (hh6 n l0 l1 l2 l3 l4 l5 g hi)
  exact S_M_wordsOf_0 hE (fun l0 l1 l2 l3 l4 l5 g hm => by obtain ⟨m, h⟩ := hm; exact (hall m) l0 l1 l2 l3 l4 l5 g h) th p0 p1 p2 g h0
theorem mt_M_wordsOf {Γ : GAM} {l : Launch} (th : Nat) (p0 : Int32) (p1 : Int32) (p2 : Int32) (g : GH) (K : Int32 → GH → Prop) (h : Sp_M_wordsOf Γ th p0 p1 p2 g K) : MetA Γ l yX11_wordsOf cX11_wordsOf 6 (some (.int)) 1 25 [.ref th, .int p0, .int p1, .int p2] g (fun r g' => ∃ x, r = some (.int x) ∧ K x g') := by
  obtain ⟨ma, s, hI, hK⟩ := h
  have hkd := hI.1.1
  refine rl_M_wordsOf (fun n l0 l1 l2 l3 l4 l5 g' => g = g' ∧ th = l0 ∧ p0 = l1 ∧ p1 = l2 ∧ p2 = l3 ∧ ∃ k, k ≤ 6 ∧ n = 6 - k ∧ l5 = nI k ∧ l4 = ((List.range 6).take k).foldl (woC s p0 p1 p2) 0) ?_ ?_
  · rintro n l0 l1 l2 l3 l4 l5 g' ⟨rfl, rfl, rfl, rfl, rfl, k, hk, hn, rfl, hf⟩
    unfold B_M_wordsOf_6
    have h6 : (6 : Int32) = nI 6 := rfl
    rw [h6, nj_le (by omega) (by omega)]
    refine ⟨fun q => ?_, fun q => ⟨hkd, ma, s, hI, ?_⟩⟩
    · have : k = 6 := by omega
      subst this
      rw [hf]; exact hK
    · have hx : (List.range 6)[k]? = some k := by rw [List.getElem?_range (by omega)]
      have hnext : ∀ c : Int32, l4 + c = woC s p0 p1 p2 l4 k → B_M_wordsOf_32 Γ (fun l0' l1' l2' l3' l4 l5 g' => ∃ m, m < n ∧ g = g' ∧ th = l0' ∧ p0 = l1' ∧ p1 = l2' ∧ p2 = l3' ∧ ∃ k, k ≤ 6 ∧ m = 6 - k ∧ l5 = nI k ∧ l4 = ((List.range 6).take k).foldl (woC s p0 p1 p2) 0) K th p0 p1 p2 (nI k) c l4 g := by
        intro c hc
        unfold B_M_wordsOf_32
        intro x1 hx1
        subst hx1
        refine ⟨6 - (k + 1), by omega, rfl, rfl, rfl, rfl, rfl, k + 1, by omega, rfl, nj_s k, ?_⟩
        rw [fold_take _ _ _ hx, ← hf]; exact hc
      unfold woC at hnext
      refine ⟨fun q2 => hnext _ ?_, fun q2 => hnext _ ?_⟩
      · rw [if_neg q2]; exact Int32.add_zero _
      · rw [if_pos q2]
  · unfold B_M_wordsOf_0
    exact ⟨_, rfl, rfl, rfl, rfl, rfl, 0, Nat.zero_le _, rfl, rfl, rfl⟩
def unR (e q : Int32) (a : Int32) (x : Int32 × Int32 × Int32) : Int32 := if x.1 = e ∧ x.2.2 ≤ q then x.2.1 else a
def sSign (s : ST) (e q : Int32) : Int32 := (s_rea s).foldl (unR e q) (-1)
def unF (a : Int32 × Int32 × Int32) : Int32 × Int32 × Int32 := (a.1 / 10, a.2.1 / 10, a.2.2 + (if a.1 - a.1 / 10 * 10 = a.2.1 - a.2.1 / 10 * 10 then 0 else 1))
def unIt : Nat → Int32 × Int32 × Int32 → Int32 × Int32 × Int32
  | 0, a => a
  | n + 1, a => unF (unIt n a)
def sVoter (s : ST) (v : Int32) : Int32 × Int32 × Int32 := (s_vot s)[v.toNatClampNeg]?.getD default
def sEnv (s : ST) (e : Int32) : Em := (s_env s)[e.toNatClampNeg]?.getD default
def sUnl (s : ST) (e q : Int32) : Int32 := if sSign s e q = -1 then 9 else (unIt 8 (sSign s e q, (sVoter s (sEnv s e).1).2.2, 0)).2.2
def eOk (s : ST) (e : Int32) : Prop := 0 ≤ e ∧ e.toNatClampNeg < (s_env s).length
theorem eOk_get {s : ST} {e : Int32} (h : eOk s e) : ∃ x, (s_env s)[e.toNatClampNeg]? = some x ∧ sEnv s e = x := by
  obtain ⟨x, hx⟩ := get_lt h.2
  exact ⟨x, hx, by unfold sEnv; rw [hx]; rfl⟩
theorem vOk_get {s : ST} (hw : WF s) {e : Nat} {x : Em} (hx : (s_env s)[e]? = some x) : ∃ y, (s_vot s)[x.1.toNatClampNeg]? = some y ∧ sVoter s x.1 = y ∧ 0 ≤ x.1 ∧ x.1.toNatClampNeg < (s_vot s).length := by
  have h := (hw.envx hx).1
  obtain ⟨y, hy⟩ := get_lt h.2
  exact ⟨y, hy, by unfold sVoter; rw [hy]; rfl, h.1, h.2⟩
def Sp_M_unlike (Γ : GAM) (m : Nat) (e q : Int32) (g : GH) (K : Int32 → GH → Prop) : Prop := ∃ ma s, RefI m ma g s ∧ WF s ∧ eOk s e ∧ K (sUnl s e q) g
-- the walk of M_unlike
set_option maxRecDepth 100000 in
def B_M_unlike_107 (Γ : GAM) (K5 : Nat → Int32 → Int32 → Int32 → Int32 → GH → Prop) (K80 : Int32 → Int32 → Int32 → Int32 → GH → Prop) (K : Int32 → GH → Prop) (l4 : Int32) (l5 : Int32) (l7 : Int32) (s0 : Int32) (s1 : Int32) (g : GH) : Prop :=
  ∀ x1 : Int32, x1 = (s1 + s0) → ∀ x2 : Int32, x2 = (l4 / (10 : Int32)) → ∀ x3 : Int32, x3 = (l5 / (10 : Int32)) → K80 x2 x3 x1 (l7 + (1 : Int32)) g
set_option maxHeartbeats 4000000 in
set_option maxRecDepth 100000 in
theorem S_M_unlike_107 {Γ : GAM} {E : EV} {K : Int32 → GH → Prop} (hE : GE Γ E cX11_unlike 8 RX11 (some (.int)) 0 0 (fun r g' => ∃ x, r = some (.int x) ∧ K x g')) {K5 : Nat → Int32 → Int32 → Int32 → Int32 → GH → Prop} {K80 : Int32 → Int32 → Int32 → Int32 → GH → Prop} (hK5 : ∀ (l0 : Nat) (l1 : Int32) (l2 : Int32) (l3 : Int32) (l4 : Int32) (g : GH), K5 l0 l1 l2 l3 l4 g → JW Γ E 5 [some (.ref l0), some (.int l1), some (.int l2), some (.int l3), some (.int l4), none, none, none] [] g) (hK80 : ∀ (l4 : Int32) (l5 : Int32) (l6 : Int32) (l7 : Int32) (g : GH), K80 l4 l5 l6 l7 g → JW Γ E 80 [none, none, none, none, some (.int l4), some (.int l5), some (.int l6), some (.int l7)] [] g) (l4 : Int32) (l5 : Int32) (l7 : Int32) (s0 : Int32) (s1 : Int32) (g : GH) (h : B_M_unlike_107 Γ K5 K80 K l4 l5 l7 s0 s1 g) : JW Γ E 107 [none, none, none, none, some (.int l4), some (.int l5), none, some (.int l7)] [.int s0, .int s1] g := by
  unfold B_M_unlike_107 at h
  refine j_iadd hE (by decide +kernel : decode cX11_unlike 107 = .ok (.iadd, 1)) ?_
  obtain ⟨x1, hx⟩ : ∃ z, z = (s1 + s0) := ⟨_, rfl⟩; replace h := h x1 hx; rw [← hx]
  refine j_istore hE (by decide +kernel : decode cX11_unlike 108 = .ok (.istore 6, 2)) (Nat.le_of_ble_eq_true rfl) rfl ?_
  refine j_iload hE (by decide +kernel : decode cX11_unlike 110 = .ok (.iload 4, 2)) rfl ?_
  refine j_bipush hE (by decide +kernel : decode cX11_unlike 112 = .ok (.bipush 10, 2)) (v := (10 : Int32)) (by decide) ?_
  refine j_idiv hE (by decide +kernel : decode cX11_unlike 114 = .ok (.idiv, 1)) (by decide) ?_
  obtain ⟨x2, hx⟩ : ∃ z, z = (l4 / (10 : Int32)) := ⟨_, rfl⟩; replace h := h x2 hx; rw [← hx]
  refine j_istore hE (by decide +kernel : decode cX11_unlike 115 = .ok (.istore 4, 2)) (Nat.le_of_ble_eq_true rfl) rfl ?_
  refine j_iload hE (by decide +kernel : decode cX11_unlike 117 = .ok (.iload 5, 2)) rfl ?_
  refine j_bipush hE (by decide +kernel : decode cX11_unlike 119 = .ok (.bipush 10, 2)) (v := (10 : Int32)) (by decide) ?_
  refine j_idiv hE (by decide +kernel : decode cX11_unlike 121 = .ok (.idiv, 1)) (by decide) ?_
  obtain ⟨x3, hx⟩ : ∃ z, z = (l5 / (10 : Int32)) := ⟨_, rfl⟩; replace h := h x3 hx; rw [← hx]
  refine j_istore hE (by decide +kernel : decode cX11_unlike 122 = .ok (.istore 5, 2)) (Nat.le_of_ble_eq_true rfl) rfl ?_
  refine j_iinc hE (by decide +kernel : decode cX11_unlike 124 = .ok (.iinc 7 1, 3)) (v := (1 : Int32)) (by decide) rfl (Nat.le_of_ble_eq_true rfl) rfl ?_
  refine j_goto hE (by decide +kernel : decode cX11_unlike 127 = .ok (.goto (-47), 3)) (tgt := 80) (by decide) ?_
  exact hK80 _ _ _ _ _ h
set_option maxRecDepth 100000 in
def B_M_unlike_80 (Γ : GAM) (K5 : Nat → Int32 → Int32 → Int32 → Int32 → GH → Prop) (K80 : Int32 → Int32 → Int32 → Int32 → GH → Prop) (K : Int32 → GH → Prop) (l4 : Int32) (l5 : Int32) (l6 : Int32) (l7 : Int32) (g : GH) : Prop :=
  (((8 : Int32) ≤ l7 → K l6 g) ∧ (¬ ((8 : Int32) ≤ l7) → (((l4 - l4 / (10 : Int32) * (10 : Int32)) = (l5 - l5 / (10 : Int32) * (10 : Int32)) → B_M_unlike_107 Γ K5 K80 K l4 l5 l7 (0 : Int32) l6 g) ∧ (¬ ((l4 - l4 / (10 : Int32) * (10 : Int32)) = (l5 - l5 / (10 : Int32) * (10 : Int32))) → B_M_unlike_107 Γ K5 K80 K l4 l5 l7 (1 : Int32) l6 g))))
set_option maxHeartbeats 4000000 in
set_option maxRecDepth 100000 in
theorem S_M_unlike_80 {Γ : GAM} {E : EV} {K : Int32 → GH → Prop} (hE : GE Γ E cX11_unlike 8 RX11 (some (.int)) 0 0 (fun r g' => ∃ x, r = some (.int x) ∧ K x g')) {K5 : Nat → Int32 → Int32 → Int32 → Int32 → GH → Prop} {K80 : Int32 → Int32 → Int32 → Int32 → GH → Prop} (hK5 : ∀ (l0 : Nat) (l1 : Int32) (l2 : Int32) (l3 : Int32) (l4 : Int32) (g : GH), K5 l0 l1 l2 l3 l4 g → JW Γ E 5 [some (.ref l0), some (.int l1), some (.int l2), some (.int l3), some (.int l4), none, none, none] [] g) (hK80 : ∀ (l4 : Int32) (l5 : Int32) (l6 : Int32) (l7 : Int32) (g : GH), K80 l4 l5 l6 l7 g → JW Γ E 80 [none, none, none, none, some (.int l4), some (.int l5), some (.int l6), some (.int l7)] [] g) (l4 : Int32) (l5 : Int32) (l6 : Int32) (l7 : Int32) (g : GH) (h : B_M_unlike_80 Γ K5 K80 K l4 l5 l6 l7 g) : JW Γ E 80 [none, none, none, none, some (.int l4), some (.int l5), some (.int l6), some (.int l7)] [] g := by
  unfold B_M_unlike_80 at h
  refine j_iload hE (by decide +kernel : decode cX11_unlike 80 = .ok (.iload 7, 2)) rfl ?_
  refine j_bipush hE (by decide +kernel : decode cX11_unlike 82 = .ok (.bipush 8, 2)) (v := (8 : Int32)) (by decide) ?_
  refine j_icmp_ge hE (by decide +kernel : decode cX11_unlike 84 = .ok (.if_icmp .ge 46, 3)) (tgt := 130) (by decide) (fun q => ?_) (fun q => ?_)
  · replace h := h.1 q
    refine j_iload hE (by decide +kernel : decode cX11_unlike 130 = .ok (.iload 6, 2)) rfl ?_
    exact j_iret hE (by decide +kernel : decode cX11_unlike 132 = .ok (.ireturn, 1)) ⟨_, rfl, h⟩
  · replace h := h.2 q
    refine j_iload hE (by decide +kernel : decode cX11_unlike 87 = .ok (.iload 6, 2)) rfl ?_
    refine j_iload hE (by decide +kernel : decode cX11_unlike 89 = .ok (.iload 4, 2)) rfl ?_
    refine j_bipush hE (by decide +kernel : decode cX11_unlike 91 = .ok (.bipush 10, 2)) (v := (10 : Int32)) (by decide) ?_
    refine j_irem hE (by decide +kernel : decode cX11_unlike 93 = .ok (.irem, 1)) (by decide) ?_
    refine j_iload hE (by decide +kernel : decode cX11_unlike 94 = .ok (.iload 5, 2)) rfl ?_
    refine j_bipush hE (by decide +kernel : decode cX11_unlike 96 = .ok (.bipush 10, 2)) (v := (10 : Int32)) (by decide) ?_
    refine j_irem hE (by decide +kernel : decode cX11_unlike 98 = .ok (.irem, 1)) (by decide) ?_
    refine j_icmp_eq hE (by decide +kernel : decode cX11_unlike 99 = .ok (.if_icmp .eq 7, 3)) (tgt := 106) (by decide) (fun q => ?_) (fun q => ?_)
    · replace h := h.1 q
      refine j_iconst hE (by decide +kernel : decode cX11_unlike 106 = .ok (.iconst 0, 1)) (v := (0 : Int32)) (by decide) ?_
      refine j_weak [none, none, none, none, some (.int l4), some (.int l5), none, some (.int l7)] ⟨rfl, ⟨rfl, ⟨rfl, trivial⟩⟩⟩ ?_
      exact S_M_unlike_107 hE hK5 hK80 _ _ _ _ _ _ h
    · replace h := h.2 q
      refine j_iconst hE (by decide +kernel : decode cX11_unlike 102 = .ok (.iconst 1, 1)) (v := (1 : Int32)) (by decide) ?_
      refine j_goto hE (by decide +kernel : decode cX11_unlike 103 = .ok (.goto 4, 3)) (tgt := 107) (by decide) ?_
      refine j_weak [none, none, none, none, some (.int l4), some (.int l5), none, some (.int l7)] ⟨rfl, ⟨rfl, ⟨rfl, trivial⟩⟩⟩ ?_
      exact S_M_unlike_107 hE hK5 hK80 _ _ _ _ _ _ h
set_option maxRecDepth 100000 in
def B_M_unlike_44 (Γ : GAM) (K5 : Nat → Int32 → Int32 → Int32 → Int32 → GH → Prop) (K80 : Int32 → Int32 → Int32 → Int32 → GH → Prop) (K : Int32 → GH → Prop) (l0 : Nat) (l1 : Int32) (l2 : Int32) (l3 : Int32) (l4 : Int32) (g : GH) : Prop :=
  K5 l0 l1 l2 l3 (l4 + (1 : Int32)) g
set_option maxHeartbeats 4000000 in
set_option maxRecDepth 100000 in
theorem S_M_unlike_44 {Γ : GAM} {E : EV} {K : Int32 → GH → Prop} (hE : GE Γ E cX11_unlike 8 RX11 (some (.int)) 0 0 (fun r g' => ∃ x, r = some (.int x) ∧ K x g')) {K5 : Nat → Int32 → Int32 → Int32 → Int32 → GH → Prop} {K80 : Int32 → Int32 → Int32 → Int32 → GH → Prop} (hK5 : ∀ (l0 : Nat) (l1 : Int32) (l2 : Int32) (l3 : Int32) (l4 : Int32) (g : GH), K5 l0 l1 l2 l3 l4 g → JW Γ E 5 [some (.ref l0), some (.int l1), some (.int l2), some (.int l3), some (.int l4), none, none, none] [] g) (hK80 : ∀ (l4 : Int32) (l5 : Int32) (l6 : Int32) (l7 : Int32) (g : GH), K80 l4 l5 l6 l7 g → JW Γ E 80 [none, none, none, none, some (.int l4), some (.int l5), some (.int l6), some (.int l7)] [] g) (l0 : Nat) (l1 : Int32) (l2 : Int32) (l3 : Int32) (l4 : Int32) (g : GH) (h : B_M_unlike_44 Γ K5 K80 K l0 l1 l2 l3 l4 g) : JW Γ E 44 [some (.ref l0), some (.int l1), some (.int l2), some (.int l3), some (.int l4), none, none, none] [] g := by
  unfold B_M_unlike_44 at h
  refine j_iinc hE (by decide +kernel : decode cX11_unlike 44 = .ok (.iinc 4 1, 3)) (v := (1 : Int32)) (by decide) rfl (Nat.le_of_ble_eq_true rfl) rfl ?_
  refine j_goto hE (by decide +kernel : decode cX11_unlike 47 = .ok (.goto (-42), 3)) (tgt := 5) (by decide) ?_
  exact hK5 _ _ _ _ _ _ h
set_option maxRecDepth 100000 in
def B_M_unlike_5 (Γ : GAM) (K5 : Nat → Int32 → Int32 → Int32 → Int32 → GH → Prop) (K80 : Int32 → Int32 → Int32 → Int32 → GH → Prop) (K : Int32 → GH → Prop) (l0 : Nat) (l1 : Int32) (l2 : Int32) (l3 : Int32) (l4 : Int32) (g : GH) : Prop :=
  Kd g l0 = 13 ∧ (((Gi g 1542 l0) ≤ l4 → ((¬ (l3 = (-1 : Int32)) → Kd g l0 = 13 ∧ ∃ a1 : Nat, Gr g 1551 l0 = some a1 ∧ Kd g l0 = 13 ∧ ∃ a2 : Nat, Gr g 1556 l0 = some a2 ∧ Kd g a2 = 20 ∧ inB l1 (Ln g a2) ∧ Kd g a1 = 20 ∧ inB (Ia g (Co g a2) (Ow g a2) l1.toNatClampNeg) (Ln g a1) ∧ ∀ x3 : Int32, x3 = (Ia g (Co g a1) (Ow g a1) (Ia g (Co g a2) (Ow g a2) l1.toNatClampNeg).toNatClampNeg) → K80 l3 x3 (0 : Int32) (0 : Int32) g) ∧ (l3 = (-1 : Int32) → K (9 : Int32) g))) ∧ (¬ ((Gi g 1542 l0) ≤ l4) → Kd g l0 = 13 ∧ ∃ a4 : Nat, Gr g 1571 l0 = some a4 ∧ Kd g a4 = 20 ∧ inB l4 (Ln g a4) ∧ ((¬ ((Ia g (Co g a4) (Ow g a4) l4.toNatClampNeg) = l1) → B_M_unlike_44 Γ K5 K80 K l0 l1 l2 l3 l4 g) ∧ ((Ia g (Co g a4) (Ow g a4) l4.toNatClampNeg) = l1 → Kd g l0 = 13 ∧ ∃ a5 : Nat, Gr g 1573 l0 = some a5 ∧ Kd g a5 = 20 ∧ inB l4 (Ln g a5) ∧ ((l2 < (Ia g (Co g a5) (Ow g a5) l4.toNatClampNeg) → B_M_unlike_44 Γ K5 K80 K l0 l1 l2 l3 l4 g) ∧ (¬ (l2 < (Ia g (Co g a5) (Ow g a5) l4.toNatClampNeg)) → Kd g l0 = 13 ∧ ∃ a6 : Nat, Gr g 1572 l0 = some a6 ∧ Kd g a6 = 20 ∧ inB l4 (Ln g a6) ∧ ∀ x7 : Int32, x7 = (Ia g (Co g a6) (Ow g a6) l4.toNatClampNeg) → B_M_unlike_44 Γ K5 K80 K l0 l1 l2 x7 l4 g))))))
set_option maxHeartbeats 4000000 in
set_option maxRecDepth 100000 in
theorem S_M_unlike_5 {Γ : GAM} {E : EV} {K : Int32 → GH → Prop} (hE : GE Γ E cX11_unlike 8 RX11 (some (.int)) 0 0 (fun r g' => ∃ x, r = some (.int x) ∧ K x g')) {K5 : Nat → Int32 → Int32 → Int32 → Int32 → GH → Prop} {K80 : Int32 → Int32 → Int32 → Int32 → GH → Prop} (hK5 : ∀ (l0 : Nat) (l1 : Int32) (l2 : Int32) (l3 : Int32) (l4 : Int32) (g : GH), K5 l0 l1 l2 l3 l4 g → JW Γ E 5 [some (.ref l0), some (.int l1), some (.int l2), some (.int l3), some (.int l4), none, none, none] [] g) (hK80 : ∀ (l4 : Int32) (l5 : Int32) (l6 : Int32) (l7 : Int32) (g : GH), K80 l4 l5 l6 l7 g → JW Γ E 80 [none, none, none, none, some (.int l4), some (.int l5), some (.int l6), some (.int l7)] [] g) (l0 : Nat) (l1 : Int32) (l2 : Int32) (l3 : Int32) (l4 : Int32) (g : GH) (h : B_M_unlike_5 Γ K5 K80 K l0 l1 l2 l3 l4 g) : JW Γ E 5 [some (.ref l0), some (.int l1), some (.int l2), some (.int l3), some (.int l4), none, none, none] [] g := by
  unfold B_M_unlike_5 at h
  refine j_iload hE (by decide +kernel : decode cX11_unlike 5 = .ok (.iload 4, 2)) rfl ?_
  refine j_aload_n hE (by decide +kernel : decode cX11_unlike 7 = .ok (.aload_n 0, 1)) rfl rfl ?_
  obtain ⟨hk, h⟩ := h
  refine j_getI hE fg_X11_282 hk (by decide +kernel : decode cX11_unlike 8 = .ok (.getfield 282, 3)) ?_
  refine j_icmp_ge hE (by decide +kernel : decode cX11_unlike 11 = .ok (.if_icmp .ge 39, 3)) (tgt := 50) (by decide) (fun q => ?_) (fun q => ?_)
  · replace h := h.1 q
    refine j_iload_n hE (by decide +kernel : decode cX11_unlike 50 = .ok (.iload_n 3, 1)) rfl rfl ?_
    refine j_iconst hE (by decide +kernel : decode cX11_unlike 51 = .ok (.iconst (-1), 1)) (v := (-1 : Int32)) (by decide) ?_
    refine j_icmp_ne hE (by decide +kernel : decode cX11_unlike 52 = .ok (.if_icmp .ne 6, 3)) (tgt := 58) (by decide) (fun q => ?_) (fun q => ?_)
    · replace h := h.1 q
      refine j_iload_n hE (by decide +kernel : decode cX11_unlike 58 = .ok (.iload_n 3, 1)) rfl rfl ?_
      refine j_istore hE (by decide +kernel : decode cX11_unlike 59 = .ok (.istore 4, 2)) (Nat.le_of_ble_eq_true rfl) rfl ?_
      refine j_aload_n hE (by decide +kernel : decode cX11_unlike 61 = .ok (.aload_n 0, 1)) rfl rfl ?_
      obtain ⟨hk, h⟩ := h
      obtain ⟨a1, ha, h⟩ := h
      refine j_getRn hE fg_X11_20 hk ha (by decide +kernel : decode cX11_unlike 62 = .ok (.getfield 20, 3)) ?_
      refine j_aload_n hE (by decide +kernel : decode cX11_unlike 65 = .ok (.aload_n 0, 1)) rfl rfl ?_
      obtain ⟨hk, h⟩ := h
      obtain ⟨a2, ha, h⟩ := h
      refine j_getRn hE fg_X11_35 hk ha (by decide +kernel : decode cX11_unlike 66 = .ok (.getfield 35, 3)) ?_
      refine j_iload_n hE (by decide +kernel : decode cX11_unlike 69 = .ok (.iload_n 1, 1)) rfl rfl ?_
      obtain ⟨hk, hb, h⟩ := h
      refine j_iald hE hk hb (by decide +kernel : decode cX11_unlike 70 = .ok (.iaload, 1)) ?_
      obtain ⟨hk, hb, h⟩ := h
      refine j_iald hE hk hb (by decide +kernel : decode cX11_unlike 71 = .ok (.iaload, 1)) ?_
      obtain ⟨x3, hx⟩ : ∃ z, z = (Ia g (Co g a1) (Ow g a1) (Ia g (Co g a2) (Ow g a2) l1.toNatClampNeg).toNatClampNeg) := ⟨_, rfl⟩; replace h := h x3 hx; rw [← hx]
      refine j_istore hE (by decide +kernel : decode cX11_unlike 72 = .ok (.istore 5, 2)) (Nat.le_of_ble_eq_true rfl) rfl ?_
      refine j_iconst hE (by decide +kernel : decode cX11_unlike 74 = .ok (.iconst 0, 1)) (v := (0 : Int32)) (by decide) ?_
      refine j_istore hE (by decide +kernel : decode cX11_unlike 75 = .ok (.istore 6, 2)) (Nat.le_of_ble_eq_true rfl) rfl ?_
      refine j_iconst hE (by decide +kernel : decode cX11_unlike 77 = .ok (.iconst 0, 1)) (v := (0 : Int32)) (by decide) ?_
      refine j_istore hE (by decide +kernel : decode cX11_unlike 78 = .ok (.istore 7, 2)) (Nat.le_of_ble_eq_true rfl) rfl ?_
      refine j_weak [none, none, none, none, some (.int l3), some (.int x3), some (.int (0 : Int32)), some (.int (0 : Int32))] ⟨rfl, ⟨rfl, ⟨rfl, ⟨rfl, trivial⟩⟩⟩⟩ ?_
      exact hK80 _ _ _ _ _ h
    · replace h := h.2 q
      refine j_bipush hE (by decide +kernel : decode cX11_unlike 55 = .ok (.bipush 9, 2)) (v := (9 : Int32)) (by decide) ?_
      exact j_iret hE (by decide +kernel : decode cX11_unlike 57 = .ok (.ireturn, 1)) ⟨_, rfl, h⟩
  · replace h := h.2 q
    refine j_aload_n hE (by decide +kernel : decode cX11_unlike 14 = .ok (.aload_n 0, 1)) rfl rfl ?_
    obtain ⟨hk, h⟩ := h
    obtain ⟨a4, ha, h⟩ := h
    refine j_getRn hE fg_X11_74 hk ha (by decide +kernel : decode cX11_unlike 15 = .ok (.getfield 74, 3)) ?_
    refine j_iload hE (by decide +kernel : decode cX11_unlike 18 = .ok (.iload 4, 2)) rfl ?_
    obtain ⟨hk, hb, h⟩ := h
    refine j_iald hE hk hb (by decide +kernel : decode cX11_unlike 20 = .ok (.iaload, 1)) ?_
    refine j_iload_n hE (by decide +kernel : decode cX11_unlike 21 = .ok (.iload_n 1, 1)) rfl rfl ?_
    refine j_icmp_ne hE (by decide +kernel : decode cX11_unlike 22 = .ok (.if_icmp .ne 22, 3)) (tgt := 44) (by decide) (fun q => ?_) (fun q => ?_)
    · replace h := h.1 q
      exact S_M_unlike_44 hE hK5 hK80 _ _ _ _ _ _ h
    · replace h := h.2 q
      refine j_aload_n hE (by decide +kernel : decode cX11_unlike 25 = .ok (.aload_n 0, 1)) rfl rfl ?_
      obtain ⟨hk, h⟩ := h
      obtain ⟨a5, ha, h⟩ := h
      refine j_getRn hE fg_X11_80 hk ha (by decide +kernel : decode cX11_unlike 26 = .ok (.getfield 80, 3)) ?_
      refine j_iload hE (by decide +kernel : decode cX11_unlike 29 = .ok (.iload 4, 2)) rfl ?_
      obtain ⟨hk, hb, h⟩ := h
      refine j_iald hE hk hb (by decide +kernel : decode cX11_unlike 31 = .ok (.iaload, 1)) ?_
      refine j_iload_n hE (by decide +kernel : decode cX11_unlike 32 = .ok (.iload_n 2, 1)) rfl rfl ?_
      refine j_icmp_gt hE (by decide +kernel : decode cX11_unlike 33 = .ok (.if_icmp .gt 11, 3)) (tgt := 44) (by decide) (fun q => ?_) (fun q => ?_)
      · replace h := h.1 q
        exact S_M_unlike_44 hE hK5 hK80 _ _ _ _ _ _ h
      · replace h := h.2 q
        refine j_aload_n hE (by decide +kernel : decode cX11_unlike 36 = .ok (.aload_n 0, 1)) rfl rfl ?_
        obtain ⟨hk, h⟩ := h
        obtain ⟨a6, ha, h⟩ := h
        refine j_getRn hE fg_X11_77 hk ha (by decide +kernel : decode cX11_unlike 37 = .ok (.getfield 77, 3)) ?_
        refine j_iload hE (by decide +kernel : decode cX11_unlike 40 = .ok (.iload 4, 2)) rfl ?_
        obtain ⟨hk, hb, h⟩ := h
        refine j_iald hE hk hb (by decide +kernel : decode cX11_unlike 42 = .ok (.iaload, 1)) ?_
        obtain ⟨x7, hx⟩ : ∃ z, z = (Ia g (Co g a6) (Ow g a6) l4.toNatClampNeg) := ⟨_, rfl⟩; replace h := h x7 hx; rw [← hx]
        refine j_istore_n hE (by decide +kernel : decode cX11_unlike 43 = .ok (.istore_n 3, 1)) rfl (Nat.le_of_ble_eq_true rfl) rfl ?_
        exact S_M_unlike_44 hE hK5 hK80 _ _ _ _ _ _ h
set_option maxRecDepth 100000 in
def B_M_unlike_0 (Γ : GAM) (K5 : Nat → Int32 → Int32 → Int32 → Int32 → GH → Prop) (K80 : Int32 → Int32 → Int32 → Int32 → GH → Prop) (K : Int32 → GH → Prop) (th : Nat) (p0 : Int32) (p1 : Int32) (g : GH) : Prop :=
  K5 th p0 p1 (-1 : Int32) (0 : Int32) g
set_option maxHeartbeats 4000000 in
set_option maxRecDepth 100000 in
theorem S_M_unlike_0 {Γ : GAM} {E : EV} {K : Int32 → GH → Prop} (hE : GE Γ E cX11_unlike 8 RX11 (some (.int)) 0 0 (fun r g' => ∃ x, r = some (.int x) ∧ K x g')) {K5 : Nat → Int32 → Int32 → Int32 → Int32 → GH → Prop} {K80 : Int32 → Int32 → Int32 → Int32 → GH → Prop} (hK5 : ∀ (l0 : Nat) (l1 : Int32) (l2 : Int32) (l3 : Int32) (l4 : Int32) (g : GH), K5 l0 l1 l2 l3 l4 g → JW Γ E 5 [some (.ref l0), some (.int l1), some (.int l2), some (.int l3), some (.int l4), none, none, none] [] g) (hK80 : ∀ (l4 : Int32) (l5 : Int32) (l6 : Int32) (l7 : Int32) (g : GH), K80 l4 l5 l6 l7 g → JW Γ E 80 [none, none, none, none, some (.int l4), some (.int l5), some (.int l6), some (.int l7)] [] g) (th : Nat) (p0 : Int32) (p1 : Int32) (g : GH) (h : B_M_unlike_0 Γ K5 K80 K th p0 p1 g) : JW Γ E 0 [some (.ref th), some (.int p0), some (.int p1), none, none, none, none, none] [] g := by
  unfold B_M_unlike_0 at h
  refine j_iconst hE (by decide +kernel : decode cX11_unlike 0 = .ok (.iconst (-1), 1)) (v := (-1 : Int32)) (by decide) ?_
  refine j_istore_n hE (by decide +kernel : decode cX11_unlike 1 = .ok (.istore_n 3, 1)) rfl (Nat.le_of_ble_eq_true rfl) rfl ?_
  refine j_iconst hE (by decide +kernel : decode cX11_unlike 2 = .ok (.iconst 0, 1)) (v := (0 : Int32)) (by decide) ?_
  refine j_istore hE (by decide +kernel : decode cX11_unlike 3 = .ok (.istore 4, 2)) (Nat.le_of_ble_eq_true rfl) rfl ?_
  exact hK5 _ _ _ _ _ _ h
set_option maxHeartbeats 4000000 in
set_option maxRecDepth 100000 in
theorem rl_M_unlike {Γ : GAM} {l : Launch} {th : Nat} {p0 : Int32} {p1 : Int32} {g : GH} {K : Int32 → GH → Prop} (I5 : Nat → Nat → Int32 → Int32 → Int32 → Int32 → GH → Prop) (I80 : Nat → Int32 → Int32 → Int32 → Int32 → GH → Prop) (hh5 : ∀ n (l0 : Nat) (l1 : Int32) (l2 : Int32) (l3 : Int32) (l4 : Int32) (g : GH), I5 n l0 l1 l2 l3 l4 g → B_M_unlike_5 Γ (fun l0 l1 l2 l3 l4 g => ∃ m, m < n ∧ I5 m l0 l1 l2 l3 l4 g) (fun l4 l5 l6 l7 g => ∃ m, m < n ∧ I80 m l4 l5 l6 l7 g) K l0 l1 l2 l3 l4 g) (hh80 : ∀ n (l4 : Int32) (l5 : Int32) (l6 : Int32) (l7 : Int32) (g : GH), I80 n l4 l5 l6 l7 g → B_M_unlike_80 Γ (fun l0 l1 l2 l3 l4 g => ∃ m, m < n ∧ I5 m l0 l1 l2 l3 l4 g) (fun l4 l5 l6 l7 g => ∃ m, m < n ∧ I80 m l4 l5 l6 l7 g) K l4 l5 l6 l7 g) (h0 : B_M_unlike_0 Γ (fun l0 l1 l2 l3 l4 g => ∃ m, I5 m l0 l1 l2 l3 l4 g) (fun l4 l5 l6 l7 g => ∃ m, I80 m l4 l5 l6 l7 g) K th p0 p1 g) : MetA Γ l yX11_unlike cX11_unlike 8 (some (.int)) 0 0 [.ref th, .int p0, .int p1] g (fun r g' => ∃ x, r = some (.int x) ∧ K x g') := by
  refine MetA.introL (Lx := [some (.ref th), some (.int p0), some (.int p1), none, none, none, none, none]) (by decide) (Nat.le_of_ble_eq_true rfl) rfl rfl ?_
  intro E hEl hE hnm
  have hall : ∀ n, (∀ (l0 : Nat) (l1 : Int32) (l2 : Int32) (l3 : Int32) (l4 : Int32) (g : GH), I5 n l0 l1 l2 l3 l4 g → JW Γ E 5 [some (.ref l0), some (.int l1), some (.int l2), some (.int l3), some (.int l4), none, none, none] [] g) ∧ (∀ (l4 : Int32) (l5 : Int32) (l6 : Int32) (l7 : Int32) (g : GH), I80 n l4 l5 l6 l7 g → JW Γ E 80 [none, none, none, none, some (.int l4), some (.int l5), some (.int l6), some (.int l7)] [] g) := by
    intro n
    induction n using Nat.strongRecOn with
    | ind n ih =>
      exact ⟨fun l0 l1 l2 l3 l4 g hi => S_M_unlike_5 hE (fun l0 l1 l2 l3 l4 g hm => by obtain ⟨m, hm, h⟩ := hm; exact (ih m hm).1 l0 l1 l2 l3 l4 g h) (fun l4 l5 l6 l7 g hm => by obtain ⟨m, hm, h⟩ := hm; exact (ih m hm).2 l4 l5 l6 l7 g h) l0 l1 l2 l3 l4 g (hh5 n l0 l1 l2 l3 l4 g hi), fun l4 l5 l6 l7 g hi => S_M_unlike_80 hE (fun l0 l1 l2 l3 l4 g hm => by obtain ⟨m, hm, h⟩ := hm; exact (ih m hm).1 l0 l1 l2 l3 l4 g h) (fun l4 l5 l6 l7 g hm => by obtain ⟨m, hm, h⟩ := hm; exact (ih m hm).2 l4 l5 l6 l7 g h) l4 l5 l6 l7 g (hh80 n l4 l5 l6 l7 g hi)⟩
  exact S_M_unlike_0 hE (fun l0 l1 l2 l3 l4 g hm => by obtain ⟨m, h⟩ := hm; exact (hall m).1 l0 l1 l2 l3 l4 g h) (fun l4 l5 l6 l7 g hm => by obtain ⟨m, h⟩ := hm; exact (hall m).2 l4 l5 l6 l7 g h) th p0 p1 g h0
theorem mt_M_unlike {Γ : GAM} {l : Launch} (th : Nat) (p0 : Int32) (p1 : Int32) (g : GH) (K : Int32 → GH → Prop) (h : Sp_M_unlike Γ th p0 p1 g K) : MetA Γ l yX11_unlike cX11_unlike 8 (some (.int)) 0 0 [.ref th, .int p0, .int p1] g (fun r g' => ∃ x, r = some (.int x) ∧ K x g') := by
  obtain ⟨ma, s, hI, hw, he, hK⟩ := h
  obtain ⟨x, hx, hex⟩ := eOk_get he
  obtain ⟨y, hy, hvy, hv0, hvl⟩ := vOk_get hw hx
  obtain ⟨hkd, hS⟩ := hI.1
  obtain ⟨f1, f2, f3⟩ := hI.rea
  obtain ⟨v1, v2, v3⟩ := hI.vot
  obtain ⟨w1, w2, w3⟩ := hI.env
  obtain ⟨z_readOf1, z_readOf2, z_readOf3, z_readOf4, z_readOf5⟩ := hS 1571 20 400 rfl
  obtain ⟨z_readSign1, z_readSign2, z_readSign3, z_readSign4, z_readSign5⟩ := hS 1572 20 400 rfl
  obtain ⟨z_readTold1, z_readTold2, z_readTold3, z_readTold4, z_readTold5⟩ := hS 1573 20 400 rfl
  obtain ⟨z_signOf1, z_signOf2, z_signOf3, z_signOf4, z_signOf5⟩ := hS 1551 20 60 rfl
  obtain ⟨z_voterOf1, z_voterOf2, z_voterOf3, z_voterOf4, z_voterOf5⟩ := hS 1556 20 200 rfl
  have hbe : inB p0 200 := ⟨he.1, by have := he.2; omega⟩
  have hbv : inB x.1 60 := ⟨hv0, by omega⟩
  refine rl_M_unlike (fun n l0 l1 l2 l3 l4 g' => g = g' ∧ th = l0 ∧ p0 = l1 ∧ p1 = l2 ∧ ∃ k, k ≤ (s_rea s).length ∧ n = 20 + (s_rea s).length - k ∧ l4 = nI k ∧ l3 = ((s_rea s).take k).foldl (unR p0 p1) (-1)) (fun n l4 l5 l6 l7 g' => g = g' ∧ ¬ sSign s p0 p1 = -1 ∧ ∃ k, k ≤ 8 ∧ n = 8 - k ∧ l7 = nI k ∧ (l4, l5, l6) = unIt k (sSign s p0 p1, y.2.2, 0)) ?_ ?_ ?_
  · rintro n l0 l1 l2 l3 l4 g' ⟨rfl, rfl, rfl, rfl, k, hk, hn, rfl, hf⟩
    simp only [B_M_unlike_5, B_M_unlike_44, hkd, f1, v1, w1, z_readOf1, z_readOf2, z_readOf3, z_readOf4, z_readOf5, z_readSign1, z_readSign2, z_readSign3, z_readSign4, z_readSign5, z_readTold1, z_readTold2, z_readTold3, z_readTold4, z_readTold5, z_signOf1, z_signOf2, z_signOf3, z_signOf4, z_signOf5, z_voterOf1, z_voterOf2, z_voterOf3, z_voterOf4, z_voterOf5, Option.some.injEq, exists_eq_left', true_and, forall_eq, nj_s, nj_le (show (s_rea s).length < 2147483648 by omega) (show k < 2147483648 by omega), nj_cl (show k < 2147483648 by omega), hbe, (w3 _ x hx).1, hbv, (v3 _ y hy).2.2]
    refine ⟨fun q => ?_, fun q => ?_⟩
    · have hz : (s_rea s).take k = s_rea s := List.take_of_length_le q
      rw [hz] at hf
      have hl3 : l3 = sSign s p0 p1 := hf
      rw [hl3]
      refine ⟨fun q2 => ⟨8, by omega, q2, 0, by omega, rfl, rfl, rfl⟩, fun q2 => ?_⟩
      unfold sUnl at hK
      rw [if_pos q2] at hK
      exact hK
    · obtain ⟨z, hz⟩ := get_lt (show k < (s_rea s).length by omega)
      have hrow := f3 k z hz
      have hb := inB_nI (show k < 400 by omega) (by omega)
      have hnext : ∀ l3', l3' = unR p0 p1 l3 z → ∃ m, m < n ∧ ∃ k_1, k_1 ≤ (s_rea s).length ∧ m = 20 + (s_rea s).length - k_1 ∧ nI (k + 1) = nI k_1 ∧ l3' = ((s_rea s).take k_1).foldl (unR p0 p1) (-1) := by
        intro l3' hab
        refine ⟨20 + (s_rea s).length - (k + 1), by omega, k + 1, by omega, rfl, rfl, ?_⟩
        rw [fold_take _ _ _ hz, ← hf]; exact hab
      unfold unR at hnext
      simp only [hrow, hb, true_and]
      repeat' with_reducible first | apply And.intro | intro _
      all_goals refine hnext _ ?_
      all_goals grind
  · rintro n l4 l5 l6 l7 g' ⟨rfl, hne, k, hk, hn, rfl, hf⟩
    unfold B_M_unlike_80
    have h8 : (8 : Int32) = nI 8 := rfl
    rw [h8, nj_le (by omega) (by omega)]
    refine ⟨fun q => ?_, fun q => ?_⟩
    · have : k = 8 := by omega
      subst this
      have hr : l6 = sUnl s p0 p1 := by
        unfold sUnl
        rw [if_neg hne, hex, hvy, ← hf]
      rw [hr]; exact hK
    · have hnext : ∀ c : Int32, (l4 / 10, l5 / 10, l6 + c) = unF (l4, l5, l6) → B_M_unlike_107 Γ (fun l0' l1 l2 l3 l4 g' => ∃ m, m < n ∧ g = g' ∧ th = l0' ∧ p0 = l1 ∧ p1 = l2 ∧ ∃ k, k ≤ (s_rea s).length ∧ m = 20 + (s_rea s).length - k ∧ l4 = nI k ∧ l3 = ((s_rea s).take k).foldl (unR p0 p1) (-1)) (fun l4 l5 l6 l7 g' => ∃ m, m < n ∧ g = g' ∧ ¬ sSign s p0 p1 = -1 ∧ ∃ k, k ≤ 8 ∧ m = 8 - k ∧ l7 = nI k ∧ (l4, l5, l6) = unIt k (sSign s p0 p1, y.2.2, 0)) K l4 l5 (nI k) c l6 g := by
        intro c hc
        unfold B_M_unlike_107
        intro x1 e1 x2 e2 x3 e3
        subst e1 e2 e3
        refine ⟨8 - (k + 1), by omega, rfl, hne, k + 1, by omega, rfl, nj_s k, ?_⟩
        show _ = unF (unIt k _)
        rw [← hf]; exact hc
      unfold unF at hnext
      refine ⟨fun q2 => hnext _ ?_, fun q2 => hnext _ ?_⟩
      · simp only [if_pos q2]
      · simp only [if_neg q2]
  · unfold B_M_unlike_0
    exact ⟨_, rfl, rfl, rfl, rfl, 0, Nat.zero_le _, rfl, rfl, rfl⟩
abbrev ok_shire (s : ST) (p0 p1 p2 : Int32) : Prop := (0 ≤ p0 ∧ p0 ≤ nI (s_vot s).length - 1) ∧ (0 ≤ p1 ∧ p1 ≤ 400) ∧ (0 ≤ p2 ∧ p2 ≤ s_now s)
def p_shire (s : ST) (p0 p1 p2 : Int32) : Int32 := if ok_shire s p0 p1 p2 then sShire s p0.toNatClampNeg p1 p2 else -1
/-- an index below a length, as the programs test it -/
theorem lt_of_in {v : Int32} {n : Nat} (hn : n < 2147483648) (h : 0 ≤ v ∧ v ≤ nI n - 1) : v.toNatClampNeg < n := by
  have h0 := nn32 h.1
  have h1 := Int32.le_iff_toInt_le.mp h.2
  rcases Nat.eq_zero_or_pos n with e | e
  · subst e
    have : (nI 0 - 1).toInt = -1 := by decide
    omega
  · have e1 : nI n - 1 = nI (n - 1) := by
      have := nj_s (n - 1)
      rw [show n - 1 + 1 = n by omega] at this
      rw [← this]; exact Int32.add_sub_cancel _ _
    rw [e1, nj_toInt (by omega)] at h1
    omega
def Sp_M_shireOn (Γ : GAM) (m : Nat) (v d q : Int32) (g : GH) (K : Int32 → GH → Prop) : Prop := ∃ ma s, RefI m ma g s ∧ 0 ≤ v ∧ v.toNatClampNeg < (s_vot s).length ∧ K (sShire s v.toNatClampNeg d q) g
def J_M_shireOn (s : ST) (th : Nat) (p0 : Int32) (p1 : Int32) (p2 : Int32) (g : GH) (n : Nat) (l0 : Nat) (l1 : Int32) (l2 : Int32) (l3 : Int32) (l4 : Int32) (l5 : Int32) (l6 : Int32) (g' : GH) : Prop := g = g' ∧ th = l0 ∧ p0 = l1 ∧ p1 = l2 ∧ p2 = l3 ∧ ∃ k, k ≤ (s_mov s).length ∧ n = (s_mov s).length - k ∧ l6 = nI k ∧ (l4, l5) = ((s_mov s).take k).foldl (sShS p0 p1 p2) (((s_vot s)[p0.toNatClampNeg]?.getD default).1, -1)
-- the walk of M_shireOn
set_option maxRecDepth 100000 in
def B_M_shireOn_86 (Γ : GAM) (K14 : Nat → Int32 → Int32 → Int32 → Int32 → Int32 → Int32 → GH → Prop) (K : Int32 → GH → Prop) (l0 : Nat) (l1 : Int32) (l2 : Int32) (l3 : Int32) (l4 : Int32) (l5 : Int32) (l6 : Int32) (g : GH) : Prop :=
  K14 l0 l1 l2 l3 l4 l5 (l6 + (1 : Int32)) g
set_option maxHeartbeats 4000000 in
set_option maxRecDepth 100000 in
theorem S_M_shireOn_86 {Γ : GAM} {E : EV} {K : Int32 → GH → Prop} (hE : GE Γ E cX11_shireOn 7 RX11 (some (.int)) 0 0 (fun r g' => ∃ x, r = some (.int x) ∧ K x g')) {K14 : Nat → Int32 → Int32 → Int32 → Int32 → Int32 → Int32 → GH → Prop} (hK14 : ∀ (l0 : Nat) (l1 : Int32) (l2 : Int32) (l3 : Int32) (l4 : Int32) (l5 : Int32) (l6 : Int32) (g : GH), K14 l0 l1 l2 l3 l4 l5 l6 g → JW Γ E 14 [some (.ref l0), some (.int l1), some (.int l2), some (.int l3), some (.int l4), some (.int l5), some (.int l6)] [] g) (l0 : Nat) (l1 : Int32) (l2 : Int32) (l3 : Int32) (l4 : Int32) (l5 : Int32) (l6 : Int32) (g : GH) (h : B_M_shireOn_86 Γ K14 K l0 l1 l2 l3 l4 l5 l6 g) : JW Γ E 86 [some (.ref l0), some (.int l1), some (.int l2), some (.int l3), some (.int l4), some (.int l5), some (.int l6)] [] g := by
  unfold B_M_shireOn_86 at h
  refine j_iinc hE (by decide +kernel : decode cX11_shireOn 86 = .ok (.iinc 6 1, 3)) (v := (1 : Int32)) (by decide) rfl (Nat.le_of_ble_eq_true rfl) rfl ?_
  refine j_goto hE (by decide +kernel : decode cX11_shireOn 89 = .ok (.goto (-75), 3)) (tgt := 14) (by decide) ?_
  exact hK14 _ _ _ _ _ _ _ _ h
set_option maxRecDepth 100000 in
def B_M_shireOn_14 (Γ : GAM) (K14 : Nat → Int32 → Int32 → Int32 → Int32 → Int32 → Int32 → GH → Prop) (K : Int32 → GH → Prop) (l0 : Nat) (l1 : Int32) (l2 : Int32) (l3 : Int32) (l4 : Int32) (l5 : Int32) (l6 : Int32) (g : GH) : Prop :=
  Kd g l0 = 13 ∧ (((Gi g 1538 l0) ≤ l6 → K l4 g) ∧ (¬ ((Gi g 1538 l0) ≤ l6) → Kd g l0 = 13 ∧ ∃ a1 : Nat, Gr g 1552 l0 = some a1 ∧ Kd g a1 = 20 ∧ inB l6 (Ln g a1) ∧ ((¬ ((Ia g (Co g a1) (Ow g a1) l6.toNatClampNeg) = l1) → B_M_shireOn_86 Γ K14 K l0 l1 l2 l3 l4 l5 l6 g) ∧ ((Ia g (Co g a1) (Ow g a1) l6.toNatClampNeg) = l1 → Kd g l0 = 13 ∧ ∃ a2 : Nat, Gr g 1555 l0 = some a2 ∧ Kd g a2 = 20 ∧ inB l6 (Ln g a2) ∧ ((l3 < (Ia g (Co g a2) (Ow g a2) l6.toNatClampNeg) → B_M_shireOn_86 Γ K14 K l0 l1 l2 l3 l4 l5 l6 g) ∧ (¬ (l3 < (Ia g (Co g a2) (Ow g a2) l6.toNatClampNeg)) → Kd g l0 = 13 ∧ ∃ a3 : Nat, Gr g 1554 l0 = some a3 ∧ Kd g a3 = 20 ∧ inB l6 (Ln g a3) ∧ ((l2 < (Ia g (Co g a3) (Ow g a3) l6.toNatClampNeg) → B_M_shireOn_86 Γ K14 K l0 l1 l2 l3 l4 l5 l6 g) ∧ (¬ (l2 < (Ia g (Co g a3) (Ow g a3) l6.toNatClampNeg)) → Kd g l0 = 13 ∧ ∃ a4 : Nat, Gr g 1554 l0 = some a4 ∧ Kd g a4 = 20 ∧ inB l6 (Ln g a4) ∧ (((Ia g (Co g a4) (Ow g a4) l6.toNatClampNeg) < l5 → B_M_shireOn_86 Γ K14 K l0 l1 l2 l3 l4 l5 l6 g) ∧ (¬ ((Ia g (Co g a4) (Ow g a4) l6.toNatClampNeg) < l5) → Kd g l0 = 13 ∧ ∃ a5 : Nat, Gr g 1553 l0 = some a5 ∧ Kd g a5 = 20 ∧ inB l6 (Ln g a5) ∧ ∀ x6 : Int32, x6 = (Ia g (Co g a5) (Ow g a5) l6.toNatClampNeg) → Kd g l0 = 13 ∧ ∃ a7 : Nat, Gr g 1554 l0 = some a7 ∧ Kd g a7 = 20 ∧ inB l6 (Ln g a7) ∧ ∀ x8 : Int32, x8 = (Ia g (Co g a7) (Ow g a7) l6.toNatClampNeg) → B_M_shireOn_86 Γ K14 K l0 l1 l2 l3 x6 x8 l6 g))))))))))
set_option maxHeartbeats 4000000 in
set_option maxRecDepth 100000 in
theorem S_M_shireOn_14 {Γ : GAM} {E : EV} {K : Int32 → GH → Prop} (hE : GE Γ E cX11_shireOn 7 RX11 (some (.int)) 0 0 (fun r g' => ∃ x, r = some (.int x) ∧ K x g')) {K14 : Nat → Int32 → Int32 → Int32 → Int32 → Int32 → Int32 → GH → Prop} (hK14 : ∀ (l0 : Nat) (l1 : Int32) (l2 : Int32) (l3 : Int32) (l4 : Int32) (l5 : Int32) (l6 : Int32) (g : GH), K14 l0 l1 l2 l3 l4 l5 l6 g → JW Γ E 14 [some (.ref l0), some (.int l1), some (.int l2), some (.int l3), some (.int l4), some (.int l5), some (.int l6)] [] g) (l0 : Nat) (l1 : Int32) (l2 : Int32) (l3 : Int32) (l4 : Int32) (l5 : Int32) (l6 : Int32) (g : GH) (h : B_M_shireOn_14 Γ K14 K l0 l1 l2 l3 l4 l5 l6 g) : JW Γ E 14 [some (.ref l0), some (.int l1), some (.int l2), some (.int l3), some (.int l4), some (.int l5), some (.int l6)] [] g := by
  unfold B_M_shireOn_14 at h
  refine j_iload hE (by decide +kernel : decode cX11_shireOn 14 = .ok (.iload 6, 2)) rfl ?_
  refine j_aload_n hE (by decide +kernel : decode cX11_shireOn 16 = .ok (.aload_n 0, 1)) rfl rfl ?_
  obtain ⟨hk, h⟩ := h
  refine j_getI hE fg_X11_231 hk (by decide +kernel : decode cX11_shireOn 17 = .ok (.getfield 231, 3)) ?_
  refine j_icmp_ge hE (by decide +kernel : decode cX11_shireOn 20 = .ok (.if_icmp .ge 72, 3)) (tgt := 92) (by decide) (fun q => ?_) (fun q => ?_)
  · replace h := h.1 q
    refine j_iload hE (by decide +kernel : decode cX11_shireOn 92 = .ok (.iload 4, 2)) rfl ?_
    exact j_iret hE (by decide +kernel : decode cX11_shireOn 94 = .ok (.ireturn, 1)) ⟨_, rfl, h⟩
  · replace h := h.2 q
    refine j_aload_n hE (by decide +kernel : decode cX11_shireOn 23 = .ok (.aload_n 0, 1)) rfl rfl ?_
    obtain ⟨hk, h⟩ := h
    obtain ⟨a1, ha, h⟩ := h
    refine j_getRn hE fg_X11_23 hk ha (by decide +kernel : decode cX11_shireOn 24 = .ok (.getfield 23, 3)) ?_
    refine j_iload hE (by decide +kernel : decode cX11_shireOn 27 = .ok (.iload 6, 2)) rfl ?_
    obtain ⟨hk, hb, h⟩ := h
    refine j_iald hE hk hb (by decide +kernel : decode cX11_shireOn 29 = .ok (.iaload, 1)) ?_
    refine j_iload_n hE (by decide +kernel : decode cX11_shireOn 30 = .ok (.iload_n 1, 1)) rfl rfl ?_
    refine j_icmp_ne hE (by decide +kernel : decode cX11_shireOn 31 = .ok (.if_icmp .ne 55, 3)) (tgt := 86) (by decide) (fun q => ?_) (fun q => ?_)
    · replace h := h.1 q
      exact S_M_shireOn_86 hE hK14 _ _ _ _ _ _ _ _ h
    · replace h := h.2 q
      refine j_aload_n hE (by decide +kernel : decode cX11_shireOn 34 = .ok (.aload_n 0, 1)) rfl rfl ?_
      obtain ⟨hk, h⟩ := h
      obtain ⟨a2, ha, h⟩ := h
      refine j_getRn hE fg_X11_32 hk ha (by decide +kernel : decode cX11_shireOn 35 = .ok (.getfield 32, 3)) ?_
      refine j_iload hE (by decide +kernel : decode cX11_shireOn 38 = .ok (.iload 6, 2)) rfl ?_
      obtain ⟨hk, hb, h⟩ := h
      refine j_iald hE hk hb (by decide +kernel : decode cX11_shireOn 40 = .ok (.iaload, 1)) ?_
      refine j_iload_n hE (by decide +kernel : decode cX11_shireOn 41 = .ok (.iload_n 3, 1)) rfl rfl ?_
      refine j_icmp_gt hE (by decide +kernel : decode cX11_shireOn 42 = .ok (.if_icmp .gt 44, 3)) (tgt := 86) (by decide) (fun q => ?_) (fun q => ?_)
      · replace h := h.1 q
        exact S_M_shireOn_86 hE hK14 _ _ _ _ _ _ _ _ h
      · replace h := h.2 q
        refine j_aload_n hE (by decide +kernel : decode cX11_shireOn 45 = .ok (.aload_n 0, 1)) rfl rfl ?_
        obtain ⟨hk, h⟩ := h
        obtain ⟨a3, ha, h⟩ := h
        refine j_getRn hE fg_X11_29 hk ha (by decide +kernel : decode cX11_shireOn 46 = .ok (.getfield 29, 3)) ?_
        refine j_iload hE (by decide +kernel : decode cX11_shireOn 49 = .ok (.iload 6, 2)) rfl ?_
        obtain ⟨hk, hb, h⟩ := h
        refine j_iald hE hk hb (by decide +kernel : decode cX11_shireOn 51 = .ok (.iaload, 1)) ?_
        refine j_iload_n hE (by decide +kernel : decode cX11_shireOn 52 = .ok (.iload_n 2, 1)) rfl rfl ?_
        refine j_icmp_gt hE (by decide +kernel : decode cX11_shireOn 53 = .ok (.if_icmp .gt 33, 3)) (tgt := 86) (by decide) (fun q => ?_) (fun q => ?_)
        · replace h := h.1 q
          exact S_M_shireOn_86 hE hK14 _ _ _ _ _ _ _ _ h
        · replace h := h.2 q
          refine j_aload_n hE (by decide +kernel : decode cX11_shireOn 56 = .ok (.aload_n 0, 1)) rfl rfl ?_
          obtain ⟨hk, h⟩ := h
          obtain ⟨a4, ha, h⟩ := h
          refine j_getRn hE fg_X11_29 hk ha (by decide +kernel : decode cX11_shireOn 57 = .ok (.getfield 29, 3)) ?_
          refine j_iload hE (by decide +kernel : decode cX11_shireOn 60 = .ok (.iload 6, 2)) rfl ?_
          obtain ⟨hk, hb, h⟩ := h
          refine j_iald hE hk hb (by decide +kernel : decode cX11_shireOn 62 = .ok (.iaload, 1)) ?_
          refine j_iload hE (by decide +kernel : decode cX11_shireOn 63 = .ok (.iload 5, 2)) rfl ?_
          refine j_icmp_lt hE (by decide +kernel : decode cX11_shireOn 65 = .ok (.if_icmp .lt 21, 3)) (tgt := 86) (by decide) (fun q => ?_) (fun q => ?_)
          · replace h := h.1 q
            exact S_M_shireOn_86 hE hK14 _ _ _ _ _ _ _ _ h
          · replace h := h.2 q
            refine j_aload_n hE (by decide +kernel : decode cX11_shireOn 68 = .ok (.aload_n 0, 1)) rfl rfl ?_
            obtain ⟨hk, h⟩ := h
            obtain ⟨a5, ha, h⟩ := h
            refine j_getRn hE fg_X11_26 hk ha (by decide +kernel : decode cX11_shireOn 69 = .ok (.getfield 26, 3)) ?_
            refine j_iload hE (by decide +kernel : decode cX11_shireOn 72 = .ok (.iload 6, 2)) rfl ?_
            obtain ⟨hk, hb, h⟩ := h
            refine j_iald hE hk hb (by decide +kernel : decode cX11_shireOn 74 = .ok (.iaload, 1)) ?_
            obtain ⟨x6, hx⟩ : ∃ z, z = (Ia g (Co g a5) (Ow g a5) l6.toNatClampNeg) := ⟨_, rfl⟩; replace h := h x6 hx; rw [← hx]
            refine j_istore hE (by decide +kernel : decode cX11_shireOn 75 = .ok (.istore 4, 2)) (Nat.le_of_ble_eq_true rfl) rfl ?_
            refine j_aload_n hE (by decide +kernel : decode cX11_shireOn 77 = .ok (.aload_n 0, 1)) rfl rfl ?_
            obtain ⟨hk, h⟩ := h
            obtain ⟨a7, ha, h⟩ := h
            refine j_getRn hE fg_X11_29 hk ha (by decide +kernel : decode cX11_shireOn 78 = .ok (.getfield 29, 3)) ?_
            refine j_iload hE (by decide +kernel : decode cX11_shireOn 81 = .ok (.iload 6, 2)) rfl ?_
            obtain ⟨hk, hb, h⟩ := h
            refine j_iald hE hk hb (by decide +kernel : decode cX11_shireOn 83 = .ok (.iaload, 1)) ?_
            obtain ⟨x8, hx⟩ : ∃ z, z = (Ia g (Co g a7) (Ow g a7) l6.toNatClampNeg) := ⟨_, rfl⟩; replace h := h x8 hx; rw [← hx]
            refine j_istore hE (by decide +kernel : decode cX11_shireOn 84 = .ok (.istore 5, 2)) (Nat.le_of_ble_eq_true rfl) rfl ?_
            exact S_M_shireOn_86 hE hK14 _ _ _ _ _ _ _ _ h
set_option maxRecDepth 100000 in
def B_M_shireOn_0 (Γ : GAM) (K14 : Nat → Int32 → Int32 → Int32 → Int32 → Int32 → Int32 → GH → Prop) (K : Int32 → GH → Prop) (th : Nat) (p0 : Int32) (p1 : Int32) (p2 : Int32) (g : GH) : Prop :=
  Kd g th = 13 ∧ ∃ a1 : Nat, Gr g 1549 th = some a1 ∧ Kd g a1 = 20 ∧ inB p0 (Ln g a1) ∧ ∀ x2 : Int32, x2 = (Ia g (Co g a1) (Ow g a1) p0.toNatClampNeg) → K14 th p0 p1 p2 x2 (-1 : Int32) (0 : Int32) g
set_option maxHeartbeats 4000000 in
set_option maxRecDepth 100000 in
theorem S_M_shireOn_0 {Γ : GAM} {E : EV} {K : Int32 → GH → Prop} (hE : GE Γ E cX11_shireOn 7 RX11 (some (.int)) 0 0 (fun r g' => ∃ x, r = some (.int x) ∧ K x g')) {K14 : Nat → Int32 → Int32 → Int32 → Int32 → Int32 → Int32 → GH → Prop} (hK14 : ∀ (l0 : Nat) (l1 : Int32) (l2 : Int32) (l3 : Int32) (l4 : Int32) (l5 : Int32) (l6 : Int32) (g : GH), K14 l0 l1 l2 l3 l4 l5 l6 g → JW Γ E 14 [some (.ref l0), some (.int l1), some (.int l2), some (.int l3), some (.int l4), some (.int l5), some (.int l6)] [] g) (th : Nat) (p0 : Int32) (p1 : Int32) (p2 : Int32) (g : GH) (h : B_M_shireOn_0 Γ K14 K th p0 p1 p2 g) : JW Γ E 0 [some (.ref th), some (.int p0), some (.int p1), some (.int p2), none, none, none] [] g := by
  unfold B_M_shireOn_0 at h
  refine j_aload_n hE (by decide +kernel : decode cX11_shireOn 0 = .ok (.aload_n 0, 1)) rfl rfl ?_
  obtain ⟨hk, h⟩ := h
  obtain ⟨a1, ha, h⟩ := h
  refine j_getRn hE fg_X11_13 hk ha (by decide +kernel : decode cX11_shireOn 1 = .ok (.getfield 13, 3)) ?_
  refine j_iload_n hE (by decide +kernel : decode cX11_shireOn 4 = .ok (.iload_n 1, 1)) rfl rfl ?_
  obtain ⟨hk, hb, h⟩ := h
  refine j_iald hE hk hb (by decide +kernel : decode cX11_shireOn 5 = .ok (.iaload, 1)) ?_
  obtain ⟨x2, hx⟩ : ∃ z, z = (Ia g (Co g a1) (Ow g a1) p0.toNatClampNeg) := ⟨_, rfl⟩; replace h := h x2 hx; rw [← hx]
  refine j_istore hE (by decide +kernel : decode cX11_shireOn 6 = .ok (.istore 4, 2)) (Nat.le_of_ble_eq_true rfl) rfl ?_
  refine j_iconst hE (by decide +kernel : decode cX11_shireOn 8 = .ok (.iconst (-1), 1)) (v := (-1 : Int32)) (by decide) ?_
  refine j_istore hE (by decide +kernel : decode cX11_shireOn 9 = .ok (.istore 5, 2)) (Nat.le_of_ble_eq_true rfl) rfl ?_
  refine j_iconst hE (by decide +kernel : decode cX11_shireOn 11 = .ok (.iconst 0, 1)) (v := (0 : Int32)) (by decide) ?_
  refine j_istore hE (by decide +kernel : decode cX11_shireOn 12 = .ok (.istore 6, 2)) (Nat.le_of_ble_eq_true rfl) rfl ?_
  exact hK14 _ _ _ _ _ _ _ _ h
set_option maxHeartbeats 4000000 in
set_option maxRecDepth 100000 in
theorem rl_M_shireOn {Γ : GAM} {l : Launch} {th : Nat} {p0 : Int32} {p1 : Int32} {p2 : Int32} {g : GH} {K : Int32 → GH → Prop} (I14 : Nat → Nat → Int32 → Int32 → Int32 → Int32 → Int32 → Int32 → GH → Prop) (hh14 : ∀ n (l0 : Nat) (l1 : Int32) (l2 : Int32) (l3 : Int32) (l4 : Int32) (l5 : Int32) (l6 : Int32) (g : GH), I14 n l0 l1 l2 l3 l4 l5 l6 g → B_M_shireOn_14 Γ (fun l0 l1 l2 l3 l4 l5 l6 g => ∃ m, m < n ∧ I14 m l0 l1 l2 l3 l4 l5 l6 g) K l0 l1 l2 l3 l4 l5 l6 g) (h0 : B_M_shireOn_0 Γ (fun l0 l1 l2 l3 l4 l5 l6 g => ∃ m, I14 m l0 l1 l2 l3 l4 l5 l6 g) K th p0 p1 p2 g) : MetA Γ l yX11_shireOn cX11_shireOn 7 (some (.int)) 0 0 [.ref th, .int p0, .int p1, .int p2] g (fun r g' => ∃ x, r = some (.int x) ∧ K x g') := by
  refine MetA.introL (Lx := [some (.ref th), some (.int p0), some (.int p1), some (.int p2), none, none, none]) (by decide) (Nat.le_of_ble_eq_true rfl) rfl rfl ?_
  intro E hEl hE hnm
  have hall : ∀ n, (∀ (l0 : Nat) (l1 : Int32) (l2 : Int32) (l3 : Int32) (l4 : Int32) (l5 : Int32) (l6 : Int32) (g : GH), I14 n l0 l1 l2 l3 l4 l5 l6 g → JW Γ E 14 [some (.ref l0), some (.int l1), some (.int l2), some (.int l3), some (.int l4), some (.int l5), some (.int l6)] [] g) := by
    intro n
    induction n using Nat.strongRecOn with
    | ind n ih =>
      exact fun l0 l1 l2 l3 l4 l5 l6 g hi => S_M_shireOn_14 hE (fun l0 l1 l2 l3 l4 l5 l6 g hm => by obtain ⟨m, hm, h⟩ := hm; exact (ih m hm) l0 l1 l2 l3 l4 l5 l6 g h) l0 l1 l2 l3 l4 l5 l6 g (hh14 n l0 l1 l2 l3 l4 l5 l6 g hi)
  exact S_M_shireOn_0 hE (fun l0 l1 l2 l3 l4 l5 l6 g hm => by obtain ⟨m, h⟩ := hm; exact (hall m) l0 l1 l2 l3 l4 l5 l6 g h) th p0 p1 p2 g h0
theorem mt_M_shireOn {Γ : GAM} {l : Launch} (th : Nat) (p0 : Int32) (p1 : Int32) (p2 : Int32) (g : GH) (K : Int32 → GH → Prop) (h : Sp_M_shireOn Γ th p0 p1 p2 g K) : MetA Γ l yX11_shireOn cX11_shireOn 7 (some (.int)) 0 0 [.ref th, .int p0, .int p1, .int p2] g (fun r g' => ∃ x, r = some (.int x) ∧ K x g') := by
  obtain ⟨ma, s, hI, hv0, hv, hK⟩ := h
  obtain ⟨v1, v2, v3⟩ := hI.vot
  obtain ⟨hvv, hvl⟩ := nj_of hv0
  obtain ⟨y, hy⟩ := get_lt hv
  obtain ⟨hkd, hS⟩ := hI.1
  obtain ⟨f1, f2, f3⟩ := hI.mov
  obtain ⟨z_moveOf1, z_moveOf2, z_moveOf3, z_moveOf4, z_moveOf5⟩ := hS 1552 20 60 rfl
  obtain ⟨z_moveTo1, z_moveTo2, z_moveTo3, z_moveTo4, z_moveTo5⟩ := hS 1553 20 60 rfl
  obtain ⟨z_moveDay1, z_moveDay2, z_moveDay3, z_moveDay4, z_moveDay5⟩ := hS 1554 20 60 rfl
  obtain ⟨z_moveTold1, z_moveTold2, z_moveTold3, z_moveTold4, z_moveTold5⟩ := hS 1555 20 60 rfl
  obtain ⟨z_shireOf1, z_shireOf2, z_shireOf3, z_shireOf4, z_shireOf5⟩ := hS 1549 20 60 rfl
  refine rl_M_shireOn (J_M_shireOn s th p0 p1 p2 g) ?_ ?_
  · rintro n l0 l1 l2 l3 l4 l5 l6 g' ⟨rfl, rfl, rfl, rfl, rfl, k, hk, hn, rfl, hf⟩
    simp only [B_M_shireOn_14, B_M_shireOn_86, B_M_shireOn_0, hkd, f1, z_moveOf1, z_moveOf2, z_moveOf3, z_moveOf4, z_moveOf5, z_moveTo1, z_moveTo2, z_moveTo3, z_moveTo4, z_moveTo5, z_moveDay1, z_moveDay2, z_moveDay3, z_moveDay4, z_moveDay5, z_moveTold1, z_moveTold2, z_moveTold3, z_moveTold4, z_moveTold5, z_shireOf1, z_shireOf2, z_shireOf3, z_shireOf4, z_shireOf5, Option.some.injEq, exists_eq_left', true_and, forall_eq, nj_s, nj_le (show (s_mov s).length < 2147483648 by omega) (show k < 2147483648 by omega), nj_cl (show k < 2147483648 by omega)]
    refine ⟨fun q => ?_, fun q => ?_⟩
    · have hz : (s_mov s).take k = (s_mov s) := List.take_of_length_le (by exact q)
      rw [hz] at hf
      have e : l4 = sShire s p0.toNatClampNeg p1 p2 := by
        unfold sShire
        rw [← hvv, ← hf]
      rw [e]; exact hK
    · obtain ⟨x, hx⟩ := get_lt (show k < (s_mov s).length by omega)
      have hrow := f3 k x hx
      have hb := inB_nI (show k < 60 by omega) (by omega)
      have hnext : ∀ l4' l5', (l4', l5') = (sShS p0 p1 p2) (((s_mov s).take k).foldl (sShS p0 p1 p2) (((s_vot s)[p0.toNatClampNeg]?.getD default).1, -1)) x → ∃ m, m < n ∧ J_M_shireOn s th p0 p1 p2 g m th p0 p1 p2 l4' l5' (nI (k + 1)) g := by
        intro l4' l5' hab
        refine ⟨(s_mov s).length - (k + 1), by omega, rfl, rfl, rfl, rfl, rfl, k + 1, by omega, rfl, rfl, ?_⟩
        rw [fold_take _ _ _ hx]; exact hab
      rw [← hf] at hnext
      unfold sShS at hnext
      simp only [hrow, hb, true_and]
      repeat' with_reducible first | apply And.intro | intro _
      all_goals refine hnext _ _ ?_
      all_goals grind
  · unfold B_M_shireOn_0
    have hbv : inB p0 60 := ⟨hv0, by omega⟩
    simp only [hkd, z_moveOf1, z_moveOf2, z_moveOf3, z_moveOf4, z_moveOf5, z_moveTo1, z_moveTo2, z_moveTo3, z_moveTo4, z_moveTo5, z_moveDay1, z_moveDay2, z_moveDay3, z_moveDay4, z_moveDay5, z_moveTold1, z_moveTold2, z_moveTold3, z_moveTold4, z_moveTold5, z_shireOf1, z_shireOf2, z_shireOf3, z_shireOf4, z_shireOf5, hbv, true_and, Option.some.injEq, exists_eq_left', forall_eq, (v3 _ y hy).1]
    exact ⟨_, rfl, rfl, rfl, rfl, rfl, 0, Nat.zero_le _, rfl, rfl, by rw [hy]; rfl⟩
