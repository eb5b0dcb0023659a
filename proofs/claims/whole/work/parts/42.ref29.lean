/-! the reference: the draw of lots -/
def rkN (x : Int64) : Int64 := x * (6364136223846793005 : Int64) + (1442695040888963407 : Int64)
def rkI (x : Int64) (n : Int32) : Int32 := ((((x.toUInt64 >>> ((33 : Int32).toInt64.toUInt64 &&& Int64.toUInt64 63)).toInt64) - ((x.toUInt64 >>> ((33 : Int32).toInt64.toUInt64 &&& Int64.toUInt64 63)).toInt64) / (n.toInt64) * (n.toInt64)).toInt32)
theorem rk_sh (x : UInt64) : (x >>> 33).toNat < 2147483648 := by
  rw [UInt64.toNat_shiftRight]
  have h : (33 : UInt64).toNat % 64 = 33 := rfl
  rw [h, Nat.shiftRight_eq_div_pow]
  have := x.toNat_lt
  omega
theorem rk_rem {a b : Int64} {m n : Nat} (ha : a.toInt = m) (hb : b.toInt = n) (hm : m < 2147483648) (h1 : 1 ≤ n) (h2 : n ≤ 200) : (a - a / b * b).toInt = ((m % n : Nat) : Int) := by
  have hd : (a / b).toInt = ((m / n : Nat) : Int) := by
    rw [Int64.toInt_div, ha, hb]
    rw [show (m : Int).tdiv (n : Int) = ((m / n : Nat) : Int) from by rw [Int.tdiv_eq_ediv_of_nonneg (by omega)]; norm_cast]
    have : m / n ≤ m := Nat.div_le_self _ _
    generalize m / n = q at *
    rw [Int.bmod_def]; split <;> omega
  have hle : m / n * n ≤ m := Nat.div_mul_le_self _ _
  have hmm : (a / b * b).toInt = ((m / n * n : Nat) : Int) := by
    rw [Int64.toInt_mul, hd, hb, ← Int.natCast_mul]
    generalize m / n * n = q at *
    rw [Int.bmod_def]; split <;> omega
  rw [Int64.toInt_sub, ha, hmm]
  have hr : m / n * n + m % n = m := Nat.div_add_mod' m n
  generalize m / n * n = q at *
  generalize m % n = r at *
  rw [Int.bmod_def]; split <;> omega
theorem rkI_v (x : Int64) {n : Nat} (h1 : 1 ≤ n) (h2 : n ≤ 200) : rkI x (nI n) = nI ((x.toUInt64 >>> 33).toNat % n) := by
  have hs : ((33 : Int32).toInt64.toUInt64 &&& Int64.toUInt64 63) = 33 := by decide
  have h3 := rk_sh x.toUInt64
  unfold rkI
  rw [hs]
  generalize x.toUInt64 >>> 33 = y at *
  have hy : y.toInt64.toInt = (y.toNat : Int) := by
    show y.toBitVec.toInt = _
    rw [BitVec.toInt_eq_toNat_bmod]
    have : y.toBitVec.toNat = y.toNat := rfl
    rw [this, Int.bmod_def]; split <;> omega
  have hn : (nI n).toInt64.toInt = (n : Int) := by
    rw [Int32.toInt_toInt64, nj_toInt (by omega)]
  have h4 := rk_rem hy hn h3 h1 h2
  have h5 : y.toNat % n < n := Nat.mod_lt _ (by omega)
  apply Int32.toInt_inj.mp
  rw [Int64.toInt_toInt32, h4, nj_toInt (by omega), Int.bmod_def]
  split <;> omega
theorem rkI_in (x : Int64) {n : Nat} (h1 : 1 ≤ n) (h2 : n ≤ 200) : inB (rkI x (nI n)) n := by
  rw [rkI_v x h1 h2]
  exact inB_nI (Nat.mod_lt _ (by omega)) (by omega)
def cnT (s : ST) (k e : Nat) : Bool := ((sCn s k).1 e).isSome
def sLo (s : ST) : List Nat := (List.range (s_env s).length).filter (cnT s (s_vot s).length)
theorem sCn_dom (s : ST) : ∀ k, k ≤ (s_vot s).length → ∀ e, cnT s k e = true → ∃ v, v < k ∧ sFG s (nI v) (s_now s) = some e := by
  intro k
  induction k with
  | zero => intro _ e h; simp [cnT, sCn] at h
  | succ k ih =>
    intro hk e h
    have hst : sCn s (k + 1) = cnS s (sCn s k) k := fold_take _ _ _ (range_get (show k < (s_vot s).length by omega))
    unfold cnT at h
    rw [hst] at h
    unfold cnS at h
    cases hf : sFG s (nI k) (s_now s) with
    | none =>
      rw [hf] at h
      obtain ⟨v, h1, h2⟩ := ih (by omega) e h
      exact ⟨v, by omega, h2⟩
    | some e2 =>
      rw [hf] at h
      by_cases u : e = e2
      · exact ⟨k, by omega, u ▸ hf⟩
      · simp only [if_neg u] at h
        obtain ⟨v, h1, h2⟩ := ih (by omega) e h
        exact ⟨v, by omega, h2⟩
theorem filter_one {l : List Nat} (hn : l.Nodup) {p p' : Nat → Bool} {a : Nat} (ha : a ∈ l) (hp : p a = false) (hp' : ∀ x, p' x = (p x || decide (x = a))) : (l.filter p').length = (l.filter p).length + 1 := by
  induction l with
  | nil => simp at ha
  | cons x t ih =>
    rw [List.nodup_cons] at hn
    rw [List.filter_cons, List.filter_cons, hp']
    by_cases u : x = a
    · subst u
      have : t.filter p' = t.filter p := by
        refine List.filter_congr (fun y hy => ?_)
        rw [hp']
        have : ¬ y = x := fun z => hn.1 (z ▸ hy)
        simp [this]
      simp [hp, this]
    · have := ih hn.2 (by rcases List.mem_cons.mp ha with z | z; exact absurd z.symm u; exact z)
      cases hpx : p x <;> simp [u, this]
theorem sCn_len {s : ST} (hw : WF s) : ∀ k, k ≤ (s_vot s).length → (sCn s k).2 = nI ((List.range (s_env s).length).filter (cnT s k)).length := by
  intro k
  induction k with
  | zero =>
    intro _
    have : (List.range (s_env s).length).filter (cnT s 0) = [] := by
      rw [List.filter_eq_nil_iff]; intro a _; simp [cnT, sCn]
    rw [this]; rfl
  | succ k ih =>
    intro hk
    have hst : sCn s (k + 1) = cnS s (sCn s k) k := fold_take _ _ _ (range_get (show k < (s_vot s).length by omega))
    cases hf : sFG s (nI k) (s_now s) with
    | none =>
      have e2 : sCn s (k + 1) = sCn s k := by rw [hst]; unfold cnS; rw [hf]
      unfold cnT
      rw [e2]
      exact ih (by omega)
    | some e =>
      have e2 : sCn s (k + 1) = (fun i => if i = e then some (sShire s k (sCome s (nI e) (s_now s)).1 (s_now s)) else (sCn s k).1 i, (sCn s k).2 + 1) := by rw [hst]; unfold cnS; rw [hf]
      obtain ⟨he, ⟨x, hx, hxv, _⟩, _⟩ := sFG_in hf
      have hno : cnT s k e = false := by
        cases hc : cnT s k e with
        | false => rfl
        | true =>
          obtain ⟨v, h1, h2⟩ := sCn_dom s k (by omega) e hc
          obtain ⟨_, ⟨y, hy, hyv, _⟩, _⟩ := sFG_in h2
          rw [hx] at hy; cases hy
          rw [hxv] at hyv
          have := hw.len.1
          have := (nj_eq (show k < 2147483648 by omega) (show v < 2147483648 by omega)).mp hyv
          omega
      have hl := filter_one (List.nodup_range (n := (s_env s).length)) (p := cnT s k) (p' := cnT s (k + 1)) (a := e) (List.mem_range.mpr he) hno (fun x => by
        unfold cnT; rw [e2]
        by_cases u : x = e
        · simp [u]
        · simp [u])
      rw [hl, e2]
      show (sCn s k).2 + 1 = _
      rw [ih (by omega), nj_s]
abbrev RkT : Type := Int32 × Int64 × List Nat
def rkS (a : RkT) : RkT := (nI (a.2.2.getD (rkI (rkN a.2.1) (nI a.2.2.length)).toNatClampNeg 0), rkN a.2.1, a.2.2.eraseIdx (rkI (rkN a.2.1) (nI a.2.2.length)).toNatClampNeg)
def rkD : Nat → RkT → RkT
  | 0, a => a
  | n + 1, a => rkS (rkD n a)
abbrev ok_recheck (s : ST) (k i : Int32) : Prop := (1 ≤ k ∧ k ≤ 50) ∧ (0 ≤ i ∧ i ≤ k - 1) ∧ k ≤ nI (sLo s).length
def p_recheck (s : ST) (k i : Int32) (x : Int64) : Int32 := if ok_recheck s k i then (rkD (i.toNatClampNeg + 1) (-1, x, sLo s)).1 else -1
theorem rkD_len (s : ST) (x : Int64) : ∀ j, j ≤ (sLo s).length → (sLo s).length ≤ 200 → (rkD j (-1, x, sLo s)).2.2.length = (sLo s).length - j := by
  intro j
  induction j with
  | zero => intro _ _; rfl
  | succ j ih =>
    intro h h2
    have h3 := ih (by omega) h2
    show ((rkD j (-1, x, sLo s)).2.2.eraseIdx _).length = _
    have hb := rkI_in (rkN (rkD j (-1, x, sLo s)).2.1) (n := (rkD j (-1, x, sLo s)).2.2.length) (by omega) (by omega)
    rw [List.length_eraseIdx, if_pos hb.2, h3]
    omega
/-- the lots stand in their row -/
def LoR (m : Nat) (g : GH) (l : List Nat) : Prop := ∀ k x, l[k]? = some x → Ia g 1609 m k = nI x
def Sp_M_recheck (Γ : GAM) (m : Nat) (p0 p1 : Int32) (p2 : Int64) (g : GH) (K : Int32 → GH → Prop) : Prop := ∃ ma s, RefI m ma g s ∧ WF s ∧ ∀ g', FrX m [1569, 1570, 1595, 1602] [1594, 1596, 1597, 1598, 1599, 1600, 1601, 1607, 1608, 1609] g g' → K (p_recheck s p0 p1 p2) g'
-- the walk of M_recheck
set_option maxRecDepth 100000 in
def B_M_recheck_129 (Γ : GAM) (K37 : Nat → Int32 → Int64 → Int32 → Int32 → GH → Prop) (K83 : Nat → Int32 → Int32 → Int64 → Int32 → Int32 → GH → Prop) (K129 : Nat → Int32 → Int32 → Int64 → Int32 → Int32 → Int32 → GH → Prop) (K : Int32 → GH → Prop) (l0 : Nat) (l2 : Int32) (l5 : Int32) (l6 : Int64) (l8 : Int32) (l9 : Int32) (l11 : Int32) (g : GH) : Prop :=
  ((l5 ≤ l11 → K83 l0 l2 l5 l6 l8 (l9 + (1 : Int32)) g) ∧ (¬ (l5 ≤ l11) → Kd g l0 = 13 ∧ ∃ a1 : Nat, Gr g 1609 l0 = some a1 ∧ Kd g l0 = 13 ∧ ∃ a2 : Nat, Gr g 1609 l0 = some a2 ∧ Kd g a2 = 20 ∧ inB (l11 + (1 : Int32)) (Ln g a2) ∧ Kd g a1 = 20 ∧ inB l11 (Ln g a1) ∧ ∀ g3 : GH, g3 = sA g (Co g a1) (Ow g a1) l11.toNatClampNeg (Ia g (Co g a2) (Ow g a2) (l11 + (1 : Int32)).toNatClampNeg) → K129 l0 l2 l5 l6 l8 l9 (l11 + (1 : Int32)) g3))
set_option maxHeartbeats 4000000 in
set_option maxRecDepth 100000 in
theorem S_M_recheck_129 {Γ : GAM} {E : EV} {K : Int32 → GH → Prop} (hE : GE Γ E cX11_recheck 12 RX11 (some (.int)) 9 226 (fun r g' => ∃ x, r = some (.int x) ∧ K x g')) {K37 : Nat → Int32 → Int64 → Int32 → Int32 → GH → Prop} {K83 : Nat → Int32 → Int32 → Int64 → Int32 → Int32 → GH → Prop} {K129 : Nat → Int32 → Int32 → Int64 → Int32 → Int32 → Int32 → GH → Prop} (hK37 : ∀ (l0 : Nat) (l2 : Int32) (l3 : Int64) (l5 : Int32) (l6 : Int32) (g : GH), K37 l0 l2 l3 l5 l6 g → JW Γ E 37 [some (.ref l0), none, some (.int l2), some (.long l3), none, some (.int l5), some (.int l6), none, none, none, none, none] [] g) (hK83 : ∀ (l0 : Nat) (l2 : Int32) (l5 : Int32) (l6 : Int64) (l8 : Int32) (l9 : Int32) (g : GH), K83 l0 l2 l5 l6 l8 l9 g → JW Γ E 83 [some (.ref l0), none, some (.int l2), none, none, some (.int l5), some (.long l6), none, some (.int l8), some (.int l9), none, none] [] g) (hK129 : ∀ (l0 : Nat) (l2 : Int32) (l5 : Int32) (l6 : Int64) (l8 : Int32) (l9 : Int32) (l11 : Int32) (g : GH), K129 l0 l2 l5 l6 l8 l9 l11 g → JW Γ E 129 [some (.ref l0), none, some (.int l2), none, none, some (.int l5), some (.long l6), none, some (.int l8), some (.int l9), none, some (.int l11)] [] g) (l0 : Nat) (l2 : Int32) (l5 : Int32) (l6 : Int64) (l8 : Int32) (l9 : Int32) (l11 : Int32) (g : GH) (h : B_M_recheck_129 Γ K37 K83 K129 K l0 l2 l5 l6 l8 l9 l11 g) : JW Γ E 129 [some (.ref l0), none, some (.int l2), none, none, some (.int l5), some (.long l6), none, some (.int l8), some (.int l9), none, some (.int l11)] [] g := by
  unfold B_M_recheck_129 at h
  refine j_iload hE (by decide +kernel : decode cX11_recheck 129 = .ok (.iload 11, 2)) rfl ?_
  refine j_iload hE (by decide +kernel : decode cX11_recheck 131 = .ok (.iload 5, 2)) rfl ?_
  refine j_icmp_ge hE (by decide +kernel : decode cX11_recheck 133 = .ok (.if_icmp .ge 25, 3)) (tgt := 158) (by decide) (fun q => ?_) (fun q => ?_)
  · replace h := h.1 q
    refine j_iinc hE (by decide +kernel : decode cX11_recheck 158 = .ok (.iinc 9 1, 3)) (v := (1 : Int32)) (by decide) rfl (Nat.le_of_ble_eq_true rfl) rfl ?_
    refine j_goto hE (by decide +kernel : decode cX11_recheck 161 = .ok (.goto (-78), 3)) (tgt := 83) (by decide) ?_
    refine j_weak [some (.ref l0), none, some (.int l2), none, none, some (.int l5), some (.long l6), none, some (.int l8), some (.int (l9 + (1 : Int32))), none, none] ⟨rfl, ⟨rfl, ⟨rfl, ⟨rfl, ⟨rfl, ⟨rfl, trivial⟩⟩⟩⟩⟩⟩ ?_
    exact hK83 _ _ _ _ _ _ _ h
  · replace h := h.2 q
    refine j_aload_n hE (by decide +kernel : decode cX11_recheck 136 = .ok (.aload_n 0, 1)) rfl rfl ?_
    obtain ⟨hk, h⟩ := h
    obtain ⟨a1, ha, h⟩ := h
    refine j_getRn hE fg_X11_153 hk ha (by decide +kernel : decode cX11_recheck 137 = .ok (.getfield 153, 3)) ?_
    refine j_iload hE (by decide +kernel : decode cX11_recheck 140 = .ok (.iload 11, 2)) rfl ?_
    refine j_aload_n hE (by decide +kernel : decode cX11_recheck 142 = .ok (.aload_n 0, 1)) rfl rfl ?_
    obtain ⟨hk, h⟩ := h
    obtain ⟨a2, ha, h⟩ := h
    refine j_getRn hE fg_X11_153 hk ha (by decide +kernel : decode cX11_recheck 143 = .ok (.getfield 153, 3)) ?_
    refine j_iload hE (by decide +kernel : decode cX11_recheck 146 = .ok (.iload 11, 2)) rfl ?_
    refine j_iconst hE (by decide +kernel : decode cX11_recheck 148 = .ok (.iconst 1, 1)) (v := (1 : Int32)) (by decide) ?_
    refine j_iadd hE (by decide +kernel : decode cX11_recheck 149 = .ok (.iadd, 1)) ?_
    obtain ⟨hk, hb, h⟩ := h
    refine j_iald hE hk hb (by decide +kernel : decode cX11_recheck 150 = .ok (.iaload, 1)) ?_
    obtain ⟨hk, hb, h⟩ := h
    obtain ⟨g3, hg⟩ : ∃ z, z = sA g (Co g a1) (Ow g a1) l11.toNatClampNeg (Ia g (Co g a2) (Ow g a2) (l11 + (1 : Int32)).toNatClampNeg) := ⟨_, rfl⟩; replace h := h g3 hg
    refine j_iast hE hk hb (by decide +kernel : decode cX11_recheck 151 = .ok (.iastore, 1)) ?_
    rw [← hg]
    refine j_iinc hE (by decide +kernel : decode cX11_recheck 152 = .ok (.iinc 11 1, 3)) (v := (1 : Int32)) (by decide) rfl (Nat.le_of_ble_eq_true rfl) rfl ?_
    refine j_goto hE (by decide +kernel : decode cX11_recheck 155 = .ok (.goto (-26), 3)) (tgt := 129) (by decide) ?_
    exact hK129 _ _ _ _ _ _ _ _ h
set_option maxRecDepth 100000 in
def B_M_recheck_83 (Γ : GAM) (K37 : Nat → Int32 → Int64 → Int32 → Int32 → GH → Prop) (K83 : Nat → Int32 → Int32 → Int64 → Int32 → Int32 → GH → Prop) (K129 : Nat → Int32 → Int32 → Int64 → Int32 → Int32 → Int32 → GH → Prop) (K : Int32 → GH → Prop) (l0 : Nat) (l2 : Int32) (l5 : Int32) (l6 : Int64) (l8 : Int32) (l9 : Int32) (g : GH) : Prop :=
  ((l2 < l9 → K l8 g) ∧ (¬ (l2 < l9) → ∀ x1 : Int64, x1 = ((l6 * (6364136223846793005 : Int64)) + (1442695040888963407 : Int64)) → ¬ ((l5.toInt64) = 0) ∧ ∀ x2 : Int32, x2 = ((((x1.toUInt64 >>> ((33 : Int32).toInt64.toUInt64 &&& Int64.toUInt64 63)).toInt64) - ((x1.toUInt64 >>> ((33 : Int32).toInt64.toUInt64 &&& Int64.toUInt64 63)).toInt64) / (l5.toInt64) * (l5.toInt64)).toInt32) → Kd g l0 = 13 ∧ ∃ a3 : Nat, Gr g 1609 l0 = some a3 ∧ Kd g a3 = 20 ∧ inB x2 (Ln g a3) ∧ ∀ x4 : Int32, x4 = (Ia g (Co g a3) (Ow g a3) x2.toNatClampNeg) → K129 l0 l2 (l5 + (-1 : Int32)) x1 x4 l9 x2 g))
set_option maxHeartbeats 4000000 in
set_option maxRecDepth 100000 in
theorem S_M_recheck_83 {Γ : GAM} {E : EV} {K : Int32 → GH → Prop} (hE : GE Γ E cX11_recheck 12 RX11 (some (.int)) 9 226 (fun r g' => ∃ x, r = some (.int x) ∧ K x g')) {K37 : Nat → Int32 → Int64 → Int32 → Int32 → GH → Prop} {K83 : Nat → Int32 → Int32 → Int64 → Int32 → Int32 → GH → Prop} {K129 : Nat → Int32 → Int32 → Int64 → Int32 → Int32 → Int32 → GH → Prop} (hK37 : ∀ (l0 : Nat) (l2 : Int32) (l3 : Int64) (l5 : Int32) (l6 : Int32) (g : GH), K37 l0 l2 l3 l5 l6 g → JW Γ E 37 [some (.ref l0), none, some (.int l2), some (.long l3), none, some (.int l5), some (.int l6), none, none, none, none, none] [] g) (hK83 : ∀ (l0 : Nat) (l2 : Int32) (l5 : Int32) (l6 : Int64) (l8 : Int32) (l9 : Int32) (g : GH), K83 l0 l2 l5 l6 l8 l9 g → JW Γ E 83 [some (.ref l0), none, some (.int l2), none, none, some (.int l5), some (.long l6), none, some (.int l8), some (.int l9), none, none] [] g) (hK129 : ∀ (l0 : Nat) (l2 : Int32) (l5 : Int32) (l6 : Int64) (l8 : Int32) (l9 : Int32) (l11 : Int32) (g : GH), K129 l0 l2 l5 l6 l8 l9 l11 g → JW Γ E 129 [some (.ref l0), none, some (.int l2), none, none, some (.int l5), some (.long l6), none, some (.int l8), some (.int l9), none, some (.int l11)] [] g) (l0 : Nat) (l2 : Int32) (l5 : Int32) (l6 : Int64) (l8 : Int32) (l9 : Int32) (g : GH) (h : B_M_recheck_83 Γ K37 K83 K129 K l0 l2 l5 l6 l8 l9 g) : JW Γ E 83 [some (.ref l0), none, some (.int l2), none, none, some (.int l5), some (.long l6), none, some (.int l8), some (.int l9), none, none] [] g := by
  unfold B_M_recheck_83 at h
  refine j_iload hE (by decide +kernel : decode cX11_recheck 83 = .ok (.iload 9, 2)) rfl ?_
  refine j_iload_n hE (by decide +kernel : decode cX11_recheck 85 = .ok (.iload_n 2, 1)) rfl rfl ?_
  refine j_icmp_gt hE (by decide +kernel : decode cX11_recheck 86 = .ok (.if_icmp .gt 78, 3)) (tgt := 164) (by decide) (fun q => ?_) (fun q => ?_)
  · replace h := h.1 q
    refine j_iload hE (by decide +kernel : decode cX11_recheck 164 = .ok (.iload 8, 2)) rfl ?_
    exact j_iret hE (by decide +kernel : decode cX11_recheck 166 = .ok (.ireturn, 1)) ⟨_, rfl, h⟩
  · replace h := h.2 q
    refine j_lload hE (by decide +kernel : decode cX11_recheck 89 = .ok (.lload 6, 2)) rfl ?_
    refine j_ldc2 hE ctL_X11_455 (by decide +kernel : decode cX11_recheck 91 = .ok (.ldc2_w 455, 3)) ?_
    refine j_lmul hE (by decide +kernel : decode cX11_recheck 94 = .ok (.lmul, 1)) ?_
    refine j_ldc2 hE ctL_X11_457 (by decide +kernel : decode cX11_recheck 95 = .ok (.ldc2_w 457, 3)) ?_
    refine j_ladd hE (by decide +kernel : decode cX11_recheck 98 = .ok (.ladd, 1)) ?_
    obtain ⟨x1, hx⟩ : ∃ z, z = ((l6 * (6364136223846793005 : Int64)) + (1442695040888963407 : Int64)) := ⟨_, rfl⟩; replace h := h x1 hx; rw [← hx]
    refine j_lstore hE (by decide +kernel : decode cX11_recheck 99 = .ok (.lstore 6, 2)) (Nat.le_of_ble_eq_true rfl) rfl ?_
    refine j_lload hE (by decide +kernel : decode cX11_recheck 101 = .ok (.lload 6, 2)) rfl ?_
    refine j_bipush hE (by decide +kernel : decode cX11_recheck 103 = .ok (.bipush 33, 2)) (v := (33 : Int32)) (by decide) ?_
    refine j_lushr hE (by decide +kernel : decode cX11_recheck 105 = .ok (.lushr, 1)) ?_
    refine j_iload hE (by decide +kernel : decode cX11_recheck 106 = .ok (.iload 5, 2)) rfl ?_
    refine j_i2l hE (by decide +kernel : decode cX11_recheck 108 = .ok (.i2l, 1)) ?_
    obtain ⟨hne, h⟩ := h
    refine j_lrem hE (by decide +kernel : decode cX11_recheck 109 = .ok (.lrem, 1)) hne ?_
    refine j_l2i hE (by decide +kernel : decode cX11_recheck 110 = .ok (.l2i, 1)) ?_
    obtain ⟨x2, hx⟩ : ∃ z, z = ((((x1.toUInt64 >>> ((33 : Int32).toInt64.toUInt64 &&& Int64.toUInt64 63)).toInt64) - ((x1.toUInt64 >>> ((33 : Int32).toInt64.toUInt64 &&& Int64.toUInt64 63)).toInt64) / (l5.toInt64) * (l5.toInt64)).toInt32) := ⟨_, rfl⟩; replace h := h x2 hx; rw [← hx]
    refine j_istore hE (by decide +kernel : decode cX11_recheck 111 = .ok (.istore 10, 2)) (Nat.le_of_ble_eq_true rfl) rfl ?_
    refine j_aload_n hE (by decide +kernel : decode cX11_recheck 113 = .ok (.aload_n 0, 1)) rfl rfl ?_
    obtain ⟨hk, h⟩ := h
    obtain ⟨a3, ha, h⟩ := h
    refine j_getRn hE fg_X11_153 hk ha (by decide +kernel : decode cX11_recheck 114 = .ok (.getfield 153, 3)) ?_
    refine j_iload hE (by decide +kernel : decode cX11_recheck 117 = .ok (.iload 10, 2)) rfl ?_
    obtain ⟨hk, hb, h⟩ := h
    refine j_iald hE hk hb (by decide +kernel : decode cX11_recheck 119 = .ok (.iaload, 1)) ?_
    obtain ⟨x4, hx⟩ : ∃ z, z = (Ia g (Co g a3) (Ow g a3) x2.toNatClampNeg) := ⟨_, rfl⟩; replace h := h x4 hx; rw [← hx]
    refine j_istore hE (by decide +kernel : decode cX11_recheck 120 = .ok (.istore 8, 2)) (Nat.le_of_ble_eq_true rfl) rfl ?_
    refine j_iinc hE (by decide +kernel : decode cX11_recheck 122 = .ok (.iinc 5 (-1), 3)) (v := (-1 : Int32)) (by decide) rfl (Nat.le_of_ble_eq_true rfl) rfl ?_
    refine j_iload hE (by decide +kernel : decode cX11_recheck 125 = .ok (.iload 10, 2)) rfl ?_
    refine j_istore hE (by decide +kernel : decode cX11_recheck 127 = .ok (.istore 11, 2)) (Nat.le_of_ble_eq_true rfl) rfl ?_
    refine j_weak [some (.ref l0), none, some (.int l2), none, none, some (.int (l5 + (-1 : Int32))), some (.long x1), none, some (.int x4), some (.int l9), none, some (.int x2)] ⟨rfl, ⟨rfl, ⟨rfl, ⟨rfl, ⟨rfl, ⟨rfl, ⟨rfl, trivial⟩⟩⟩⟩⟩⟩⟩ ?_
    exact hK129 _ _ _ _ _ _ _ _ h
set_option maxRecDepth 100000 in
def B_M_recheck_68 (Γ : GAM) (K37 : Nat → Int32 → Int64 → Int32 → Int32 → GH → Prop) (K83 : Nat → Int32 → Int32 → Int64 → Int32 → Int32 → GH → Prop) (K129 : Nat → Int32 → Int32 → Int64 → Int32 → Int32 → Int32 → GH → Prop) (K : Int32 → GH → Prop) (l0 : Nat) (l2 : Int32) (l3 : Int64) (l5 : Int32) (l6 : Int32) (g : GH) : Prop :=
  K37 l0 l2 l3 l5 (l6 + (1 : Int32)) g
set_option maxHeartbeats 4000000 in
set_option maxRecDepth 100000 in
theorem S_M_recheck_68 {Γ : GAM} {E : EV} {K : Int32 → GH → Prop} (hE : GE Γ E cX11_recheck 12 RX11 (some (.int)) 9 226 (fun r g' => ∃ x, r = some (.int x) ∧ K x g')) {K37 : Nat → Int32 → Int64 → Int32 → Int32 → GH → Prop} {K83 : Nat → Int32 → Int32 → Int64 → Int32 → Int32 → GH → Prop} {K129 : Nat → Int32 → Int32 → Int64 → Int32 → Int32 → Int32 → GH → Prop} (hK37 : ∀ (l0 : Nat) (l2 : Int32) (l3 : Int64) (l5 : Int32) (l6 : Int32) (g : GH), K37 l0 l2 l3 l5 l6 g → JW Γ E 37 [some (.ref l0), none, some (.int l2), some (.long l3), none, some (.int l5), some (.int l6), none, none, none, none, none] [] g) (hK83 : ∀ (l0 : Nat) (l2 : Int32) (l5 : Int32) (l6 : Int64) (l8 : Int32) (l9 : Int32) (g : GH), K83 l0 l2 l5 l6 l8 l9 g → JW Γ E 83 [some (.ref l0), none, some (.int l2), none, none, some (.int l5), some (.long l6), none, some (.int l8), some (.int l9), none, none] [] g) (hK129 : ∀ (l0 : Nat) (l2 : Int32) (l5 : Int32) (l6 : Int64) (l8 : Int32) (l9 : Int32) (l11 : Int32) (g : GH), K129 l0 l2 l5 l6 l8 l9 l11 g → JW Γ E 129 [some (.ref l0), none, some (.int l2), none, none, some (.int l5), some (.long l6), none, some (.int l8), some (.int l9), none, some (.int l11)] [] g) (l0 : Nat) (l2 : Int32) (l3 : Int64) (l5 : Int32) (l6 : Int32) (g : GH) (h : B_M_recheck_68 Γ K37 K83 K129 K l0 l2 l3 l5 l6 g) : JW Γ E 68 [some (.ref l0), none, some (.int l2), some (.long l3), none, some (.int l5), some (.int l6), none, none, none, none, none] [] g := by
  unfold B_M_recheck_68 at h
  refine j_iinc hE (by decide +kernel : decode cX11_recheck 68 = .ok (.iinc 6 1, 3)) (v := (1 : Int32)) (by decide) rfl (Nat.le_of_ble_eq_true rfl) rfl ?_
  refine j_goto hE (by decide +kernel : decode cX11_recheck 71 = .ok (.goto (-34), 3)) (tgt := 37) (by decide) ?_
  exact hK37 _ _ _ _ _ _ h
set_option maxRecDepth 100000 in
def B_M_recheck_37 (Γ : GAM) (K37 : Nat → Int32 → Int64 → Int32 → Int32 → GH → Prop) (K83 : Nat → Int32 → Int32 → Int64 → Int32 → Int32 → GH → Prop) (K129 : Nat → Int32 → Int32 → Int64 → Int32 → Int32 → Int32 → GH → Prop) (K : Int32 → GH → Prop) (l0 : Nat) (l2 : Int32) (l3 : Int64) (l5 : Int32) (l6 : Int32) (g : GH) : Prop :=
  Kd g l0 = 13 ∧ (((Gi g 1539 l0) ≤ l6 → K83 l0 l2 l5 l3 (-1 : Int32) (0 : Int32) g) ∧ (¬ ((Gi g 1539 l0) ≤ l6) → Kd g l0 = 13 ∧ ∃ a1 : Nat, Gr g 1607 l0 = some a1 ∧ Kd g a1 = 21 ∧ inB l6 (Ln g a1) ∧ (((Ia g (Co g a1) (Ow g a1) l6.toNatClampNeg) = 0 → B_M_recheck_68 Γ K37 K83 K129 K l0 l2 l3 l5 l6 g) ∧ (¬ ((Ia g (Co g a1) (Ow g a1) l6.toNatClampNeg) = 0) → Kd g l0 = 13 ∧ ∃ a2 : Nat, Gr g 1609 l0 = some a2 ∧ Kd g a2 = 20 ∧ inB l5 (Ln g a2) ∧ ∀ g3 : GH, g3 = sA g (Co g a2) (Ow g a2) l5.toNatClampNeg l6 → B_M_recheck_68 Γ K37 K83 K129 K l0 l2 l3 (l5 + (1 : Int32)) l6 g3))))
set_option maxHeartbeats 4000000 in
set_option maxRecDepth 100000 in
theorem S_M_recheck_37 {Γ : GAM} {E : EV} {K : Int32 → GH → Prop} (hE : GE Γ E cX11_recheck 12 RX11 (some (.int)) 9 226 (fun r g' => ∃ x, r = some (.int x) ∧ K x g')) {K37 : Nat → Int32 → Int64 → Int32 → Int32 → GH → Prop} {K83 : Nat → Int32 → Int32 → Int64 → Int32 → Int32 → GH → Prop} {K129 : Nat → Int32 → Int32 → Int64 → Int32 → Int32 → Int32 → GH → Prop} (hK37 : ∀ (l0 : Nat) (l2 : Int32) (l3 : Int64) (l5 : Int32) (l6 : Int32) (g : GH), K37 l0 l2 l3 l5 l6 g → JW Γ E 37 [some (.ref l0), none, some (.int l2), some (.long l3), none, some (.int l5), some (.int l6), none, none, none, none, none] [] g) (hK83 : ∀ (l0 : Nat) (l2 : Int32) (l5 : Int32) (l6 : Int64) (l8 : Int32) (l9 : Int32) (g : GH), K83 l0 l2 l5 l6 l8 l9 g → JW Γ E 83 [some (.ref l0), none, some (.int l2), none, none, some (.int l5), some (.long l6), none, some (.int l8), some (.int l9), none, none] [] g) (hK129 : ∀ (l0 : Nat) (l2 : Int32) (l5 : Int32) (l6 : Int64) (l8 : Int32) (l9 : Int32) (l11 : Int32) (g : GH), K129 l0 l2 l5 l6 l8 l9 l11 g → JW Γ E 129 [some (.ref l0), none, some (.int l2), none, none, some (.int l5), some (.long l6), none, some (.int l8), some (.int l9), none, some (.int l11)] [] g) (l0 : Nat) (l2 : Int32) (l3 : Int64) (l5 : Int32) (l6 : Int32) (g : GH) (h : B_M_recheck_37 Γ K37 K83 K129 K l0 l2 l3 l5 l6 g) : JW Γ E 37 [some (.ref l0), none, some (.int l2), some (.long l3), none, some (.int l5), some (.int l6), none, none, none, none, none] [] g := by
  unfold B_M_recheck_37 at h
  refine j_iload hE (by decide +kernel : decode cX11_recheck 37 = .ok (.iload 6, 2)) rfl ?_
  refine j_aload_n hE (by decide +kernel : decode cX11_recheck 39 = .ok (.aload_n 0, 1)) rfl rfl ?_
  obtain ⟨hk, h⟩ := h
  refine j_getI hE fg_X11_241 hk (by decide +kernel : decode cX11_recheck 40 = .ok (.getfield 241, 3)) ?_
  refine j_icmp_ge hE (by decide +kernel : decode cX11_recheck 43 = .ok (.if_icmp .ge 31, 3)) (tgt := 74) (by decide) (fun q => ?_) (fun q => ?_)
  · replace h := h.1 q
    refine j_lload_n hE (by decide +kernel : decode cX11_recheck 74 = .ok (.lload_n 3, 1)) rfl rfl ?_
    refine j_lstore hE (by decide +kernel : decode cX11_recheck 75 = .ok (.lstore 6, 2)) (Nat.le_of_ble_eq_true rfl) rfl ?_
    refine j_iconst hE (by decide +kernel : decode cX11_recheck 77 = .ok (.iconst (-1), 1)) (v := (-1 : Int32)) (by decide) ?_
    refine j_istore hE (by decide +kernel : decode cX11_recheck 78 = .ok (.istore 8, 2)) (Nat.le_of_ble_eq_true rfl) rfl ?_
    refine j_iconst hE (by decide +kernel : decode cX11_recheck 80 = .ok (.iconst 0, 1)) (v := (0 : Int32)) (by decide) ?_
    refine j_istore hE (by decide +kernel : decode cX11_recheck 81 = .ok (.istore 9, 2)) (Nat.le_of_ble_eq_true rfl) rfl ?_
    refine j_weak [some (.ref l0), none, some (.int l2), none, none, some (.int l5), some (.long l3), none, some (.int (-1 : Int32)), some (.int (0 : Int32)), none, none] ⟨rfl, ⟨rfl, ⟨rfl, ⟨rfl, ⟨rfl, ⟨rfl, trivial⟩⟩⟩⟩⟩⟩ ?_
    exact hK83 _ _ _ _ _ _ _ h
  · replace h := h.2 q
    refine j_aload_n hE (by decide +kernel : decode cX11_recheck 46 = .ok (.aload_n 0, 1)) rfl rfl ?_
    obtain ⟨hk, h⟩ := h
    obtain ⟨a1, ha, h⟩ := h
    refine j_getRn hE fg_X11_147 hk ha (by decide +kernel : decode cX11_recheck 47 = .ok (.getfield 147, 3)) ?_
    refine j_iload hE (by decide +kernel : decode cX11_recheck 50 = .ok (.iload 6, 2)) rfl ?_
    obtain ⟨hk, hb, h⟩ := h
    refine j_zald hE hk hb (by decide +kernel : decode cX11_recheck 52 = .ok (.baload, 1)) ?_
    refine j_if_eq hE (by decide +kernel : decode cX11_recheck 53 = .ok (.ifCond .eq 15, 3)) (tgt := 68) (by decide) (fun q => ?_) (fun q => ?_)
    · replace h := h.1 q
      exact S_M_recheck_68 hE hK37 hK83 hK129 _ _ _ _ _ _ h
    · replace h := h.2 q
      refine j_aload_n hE (by decide +kernel : decode cX11_recheck 56 = .ok (.aload_n 0, 1)) rfl rfl ?_
      obtain ⟨hk, h⟩ := h
      obtain ⟨a2, ha, h⟩ := h
      refine j_getRn hE fg_X11_153 hk ha (by decide +kernel : decode cX11_recheck 57 = .ok (.getfield 153, 3)) ?_
      refine j_iload hE (by decide +kernel : decode cX11_recheck 60 = .ok (.iload 5, 2)) rfl ?_
      refine j_iload hE (by decide +kernel : decode cX11_recheck 62 = .ok (.iload 6, 2)) rfl ?_
      obtain ⟨hk, hb, h⟩ := h
      obtain ⟨g3, hg⟩ : ∃ z, z = sA g (Co g a2) (Ow g a2) l5.toNatClampNeg l6 := ⟨_, rfl⟩; replace h := h g3 hg
      refine j_iast hE hk hb (by decide +kernel : decode cX11_recheck 64 = .ok (.iastore, 1)) ?_
      rw [← hg]
      refine j_iinc hE (by decide +kernel : decode cX11_recheck 65 = .ok (.iinc 5 1, 3)) (v := (1 : Int32)) (by decide) rfl (Nat.le_of_ble_eq_true rfl) rfl ?_
      exact S_M_recheck_68 hE hK37 hK83 hK129 _ _ _ _ _ _ h
set_option maxRecDepth 100000 in
def B_M_recheck_29 (Γ : GAM) (K37 : Nat → Int32 → Int64 → Int32 → Int32 → GH → Prop) (K83 : Nat → Int32 → Int32 → Int64 → Int32 → Int32 → GH → Prop) (K129 : Nat → Int32 → Int32 → Int64 → Int32 → Int32 → Int32 → GH → Prop) (K : Int32 → GH → Prop)  (g : GH) : Prop :=
  K (-1 : Int32) g
set_option maxHeartbeats 4000000 in
set_option maxRecDepth 100000 in
theorem S_M_recheck_29 {Γ : GAM} {E : EV} {K : Int32 → GH → Prop} (hE : GE Γ E cX11_recheck 12 RX11 (some (.int)) 9 226 (fun r g' => ∃ x, r = some (.int x) ∧ K x g')) {K37 : Nat → Int32 → Int64 → Int32 → Int32 → GH → Prop} {K83 : Nat → Int32 → Int32 → Int64 → Int32 → Int32 → GH → Prop} {K129 : Nat → Int32 → Int32 → Int64 → Int32 → Int32 → Int32 → GH → Prop} (hK37 : ∀ (l0 : Nat) (l2 : Int32) (l3 : Int64) (l5 : Int32) (l6 : Int32) (g : GH), K37 l0 l2 l3 l5 l6 g → JW Γ E 37 [some (.ref l0), none, some (.int l2), some (.long l3), none, some (.int l5), some (.int l6), none, none, none, none, none] [] g) (hK83 : ∀ (l0 : Nat) (l2 : Int32) (l5 : Int32) (l6 : Int64) (l8 : Int32) (l9 : Int32) (g : GH), K83 l0 l2 l5 l6 l8 l9 g → JW Γ E 83 [some (.ref l0), none, some (.int l2), none, none, some (.int l5), some (.long l6), none, some (.int l8), some (.int l9), none, none] [] g) (hK129 : ∀ (l0 : Nat) (l2 : Int32) (l5 : Int32) (l6 : Int64) (l8 : Int32) (l9 : Int32) (l11 : Int32) (g : GH), K129 l0 l2 l5 l6 l8 l9 l11 g → JW Γ E 129 [some (.ref l0), none, some (.int l2), none, none, some (.int l5), some (.long l6), none, some (.int l8), some (.int l9), none, some (.int l11)] [] g)  (g : GH) (h : B_M_recheck_29 Γ K37 K83 K129 K  g) : JW Γ E 29 [none, none, none, none, none, none, none, none, none, none, none, none] [] g := by
  unfold B_M_recheck_29 at h
  refine j_iconst hE (by decide +kernel : decode cX11_recheck 29 = .ok (.iconst (-1), 1)) (v := (-1 : Int32)) (by decide) ?_
  exact j_iret hE (by decide +kernel : decode cX11_recheck 30 = .ok (.ireturn, 1)) ⟨_, rfl, h⟩
set_option maxRecDepth 100000 in
def B_M_recheck_0 (Γ : GAM) (K37 : Nat → Int32 → Int64 → Int32 → Int32 → GH → Prop) (K83 : Nat → Int32 → Int32 → Int64 → Int32 → Int32 → GH → Prop) (K129 : Nat → Int32 → Int32 → Int64 → Int32 → Int32 → Int32 → GH → Prop) (K : Int32 → GH → Prop) (th : Nat) (p0 : Int32) (p1 : Int32) (p2 : Int64) (g : GH) : Prop :=
  Sp_M_in Γ p0 (1 : Int32) (50 : Int32) g (fun (x2 : Int32) (g1 : GH) => ((x2 = 0 → B_M_recheck_29 Γ K37 K83 K129 K g1) ∧ (¬ (x2 = 0) → Sp_M_in Γ p1 (0 : Int32) (p0 - (1 : Int32)) g1 (fun (x4 : Int32) (g3 : GH) => ((x4 = 0 → B_M_recheck_29 Γ K37 K83 K129 K g3) ∧ (¬ (x4 = 0) → Kd g3 th = 13 ∧ Sp_M_findCounted Γ th g3 (fun (x6 : Int32) (g5 : GH) => ((p0 ≤ x6 → K37 th p1 p2 (0 : Int32) (0 : Int32) g5) ∧ (¬ (p0 ≤ x6) → B_M_recheck_29 Γ K37 K83 K129 K g5)))))))))
set_option maxHeartbeats 4000000 in
set_option maxRecDepth 100000 in
theorem S_M_recheck_0 {Γ : GAM} {E : EV} {K : Int32 → GH → Prop} (hE : GE Γ E cX11_recheck 12 RX11 (some (.int)) 9 226 (fun r g' => ∃ x, r = some (.int x) ∧ K x g')) {K37 : Nat → Int32 → Int64 → Int32 → Int32 → GH → Prop} {K83 : Nat → Int32 → Int32 → Int64 → Int32 → Int32 → GH → Prop} {K129 : Nat → Int32 → Int32 → Int64 → Int32 → Int32 → Int32 → GH → Prop} (hK37 : ∀ (l0 : Nat) (l2 : Int32) (l3 : Int64) (l5 : Int32) (l6 : Int32) (g : GH), K37 l0 l2 l3 l5 l6 g → JW Γ E 37 [some (.ref l0), none, some (.int l2), some (.long l3), none, some (.int l5), some (.int l6), none, none, none, none, none] [] g) (hK83 : ∀ (l0 : Nat) (l2 : Int32) (l5 : Int32) (l6 : Int64) (l8 : Int32) (l9 : Int32) (g : GH), K83 l0 l2 l5 l6 l8 l9 g → JW Γ E 83 [some (.ref l0), none, some (.int l2), none, none, some (.int l5), some (.long l6), none, some (.int l8), some (.int l9), none, none] [] g) (hK129 : ∀ (l0 : Nat) (l2 : Int32) (l5 : Int32) (l6 : Int64) (l8 : Int32) (l9 : Int32) (l11 : Int32) (g : GH), K129 l0 l2 l5 l6 l8 l9 l11 g → JW Γ E 129 [some (.ref l0), none, some (.int l2), none, none, some (.int l5), some (.long l6), none, some (.int l8), some (.int l9), none, some (.int l11)] [] g) (th : Nat) (p0 : Int32) (p1 : Int32) (p2 : Int64) (g : GH) (h : B_M_recheck_0 Γ K37 K83 K129 K th p0 p1 p2 g) : JW Γ E 0 [some (.ref th), some (.int p0), some (.int p1), some (.long p2), none, none, none, none, none, none, none, none] [] g := by
  unfold B_M_recheck_0 at h
  refine j_iload_n hE (by decide +kernel : decode cX11_recheck 0 = .ok (.iload_n 1, 1)) rfl rfl ?_
  refine j_iconst hE (by decide +kernel : decode cX11_recheck 1 = .ok (.iconst 1, 1)) (v := (1 : Int32)) (by decide) ?_
  refine j_bipush hE (by decide +kernel : decode cX11_recheck 2 = .ok (.bipush 50, 2)) (v := (50 : Int32)) (by decide) ?_
  refine j_callS hE rfl cl_X11_213 st_X11_in ⟨by omega, by omega⟩ (As := [.int p0, .int (1 : Int32), .int (50 : Int32)]) (rest := []) rfl rfl (Nat.le_of_ble_eq_true rfl) (by decide +kernel : decode cX11_recheck 4 = .ok (.invokestatic 213, 3)) (mt_M_in _ _ _ _ _ h) ?_
  rintro _ g1 ⟨x2, rfl, h⟩
  refine j_if_eq hE (by decide +kernel : decode cX11_recheck 7 = .ok (.ifCond .eq 22, 3)) (tgt := 29) (by decide) (fun q => ?_) (fun q => ?_)
  · replace h := h.1 q
    refine j_weak [none, none, none, none, none, none, none, none, none, none, none, none] trivial ?_
    exact S_M_recheck_29 hE hK37 hK83 hK129 _ h
  · replace h := h.2 q
    refine j_iload_n hE (by decide +kernel : decode cX11_recheck 10 = .ok (.iload_n 2, 1)) rfl rfl ?_
    refine j_iconst hE (by decide +kernel : decode cX11_recheck 11 = .ok (.iconst 0, 1)) (v := (0 : Int32)) (by decide) ?_
    refine j_iload_n hE (by decide +kernel : decode cX11_recheck 12 = .ok (.iload_n 1, 1)) rfl rfl ?_
    refine j_iconst hE (by decide +kernel : decode cX11_recheck 13 = .ok (.iconst 1, 1)) (v := (1 : Int32)) (by decide) ?_
    refine j_isub hE (by decide +kernel : decode cX11_recheck 14 = .ok (.isub, 1)) ?_
    refine j_callS hE rfl cl_X11_213 st_X11_in ⟨by omega, by omega⟩ (As := [.int p1, .int (0 : Int32), .int (p0 - (1 : Int32))]) (rest := []) rfl rfl (Nat.le_of_ble_eq_true rfl) (by decide +kernel : decode cX11_recheck 15 = .ok (.invokestatic 213, 3)) (mt_M_in _ _ _ _ _ h) ?_
    rintro _ g3 ⟨x4, rfl, h⟩
    refine j_if_eq hE (by decide +kernel : decode cX11_recheck 18 = .ok (.ifCond .eq 11, 3)) (tgt := 29) (by decide) (fun q => ?_) (fun q => ?_)
    · replace h := h.1 q
      refine j_weak [none, none, none, none, none, none, none, none, none, none, none, none] trivial ?_
      exact S_M_recheck_29 hE hK37 hK83 hK129 _ h
    · replace h := h.2 q
      refine j_aload_n hE (by decide +kernel : decode cX11_recheck 21 = .ok (.aload_n 0, 1)) rfl rfl ?_
      obtain ⟨hk, h⟩ := h
      refine j_callV hE rfl cl_X11_452 cf_12 im_X11_findCounted se_X11_findCounted ⟨by omega, by omega⟩ (As := []) (rest := []) rfl rfl (Nat.le_of_ble_eq_true rfl) hk (by decide +kernel : decode cX11_recheck 22 = .ok (.invokevirtual 452, 3)) (mt_M_findCounted _ _ _ h) ?_
      rintro _ g5 ⟨x6, rfl, h⟩
      refine j_iload_n hE (by decide +kernel : decode cX11_recheck 25 = .ok (.iload_n 1, 1)) rfl rfl ?_
      refine j_icmp_ge hE (by decide +kernel : decode cX11_recheck 26 = .ok (.if_icmp .ge 5, 3)) (tgt := 31) (by decide) (fun q => ?_) (fun q => ?_)
      · replace h := h.1 q
        refine j_iconst hE (by decide +kernel : decode cX11_recheck 31 = .ok (.iconst 0, 1)) (v := (0 : Int32)) (by decide) ?_
        refine j_istore hE (by decide +kernel : decode cX11_recheck 32 = .ok (.istore 5, 2)) (Nat.le_of_ble_eq_true rfl) rfl ?_
        refine j_iconst hE (by decide +kernel : decode cX11_recheck 34 = .ok (.iconst 0, 1)) (v := (0 : Int32)) (by decide) ?_
        refine j_istore hE (by decide +kernel : decode cX11_recheck 35 = .ok (.istore 6, 2)) (Nat.le_of_ble_eq_true rfl) rfl ?_
        refine j_weak [some (.ref th), none, some (.int p1), some (.long p2), none, some (.int (0 : Int32)), some (.int (0 : Int32)), none, none, none, none, none] ⟨rfl, ⟨rfl, ⟨rfl, ⟨rfl, ⟨rfl, trivial⟩⟩⟩⟩⟩ ?_
        exact hK37 _ _ _ _ _ _ h
      · replace h := h.2 q
        refine j_weak [none, none, none, none, none, none, none, none, none, none, none, none] trivial ?_
        exact S_M_recheck_29 hE hK37 hK83 hK129 _ h
set_option maxHeartbeats 4000000 in
set_option maxRecDepth 100000 in
theorem rl_M_recheck {Γ : GAM} {l : Launch} {th : Nat} {p0 : Int32} {p1 : Int32} {p2 : Int64} {g : GH} {K : Int32 → GH → Prop} (I37 : Nat → Nat → Int32 → Int64 → Int32 → Int32 → GH → Prop) (I83 : Nat → Nat → Int32 → Int32 → Int64 → Int32 → Int32 → GH → Prop) (I129 : Nat → Nat → Int32 → Int32 → Int64 → Int32 → Int32 → Int32 → GH → Prop) (hh37 : ∀ n (l0 : Nat) (l2 : Int32) (l3 : Int64) (l5 : Int32) (l6 : Int32) (g : GH), I37 n l0 l2 l3 l5 l6 g → B_M_recheck_37 Γ (fun l0 l2 l3 l5 l6 g => ∃ m, m < n ∧ I37 m l0 l2 l3 l5 l6 g) (fun l0 l2 l5 l6 l8 l9 g => ∃ m, m < n ∧ I83 m l0 l2 l5 l6 l8 l9 g) (fun l0 l2 l5 l6 l8 l9 l11 g => ∃ m, m < n ∧ I129 m l0 l2 l5 l6 l8 l9 l11 g) K l0 l2 l3 l5 l6 g) (hh83 : ∀ n (l0 : Nat) (l2 : Int32) (l5 : Int32) (l6 : Int64) (l8 : Int32) (l9 : Int32) (g : GH), I83 n l0 l2 l5 l6 l8 l9 g → B_M_recheck_83 Γ (fun l0 l2 l3 l5 l6 g => ∃ m, m < n ∧ I37 m l0 l2 l3 l5 l6 g) (fun l0 l2 l5 l6 l8 l9 g => ∃ m, m < n ∧ I83 m l0 l2 l5 l6 l8 l9 g) (fun l0 l2 l5 l6 l8 l9 l11 g => ∃ m, m < n ∧ I129 m l0 l2 l5 l6 l8 l9 l11 g) K l0 l2 l5 l6 l8 l9 g) (hh129 : ∀ n (l0 : Nat) (l2 : Int32) (l5 : Int32) (l6 : Int64) (l8 : Int32) (l9 : Int32) (l11 : Int32) (g : GH), I129 n l0 l2 l5 l6 l8 l9 l11 g → B_M_recheck_129 Γ (fun l0 l2 l3 l5 l6 g => ∃ m, m < n ∧ I37 m l0 l2 l3 l5 l6 g) (fun l0 l2 l5 l6 l8 l9 g => ∃ m, m < n ∧ I83 m l0 l2 l5 l6 l8 l9 g) (fun l0 l2 l5 l6 l8 l9 l11 g => ∃ m, m < n ∧ I129 m l0 l2 l5 l6 l8 l9 l11 g) K l0 l2 l5 l6 l8 l9 l11 g) (h0 : B_M_recheck_0 Γ (fun l0 l2 l3 l5 l6 g => ∃ m, I37 m l0 l2 l3 l5 l6 g) (fun l0 l2 l5 l6 l8 l9 g => ∃ m, I83 m l0 l2 l5 l6 l8 l9 g) (fun l0 l2 l5 l6 l8 l9 l11 g => ∃ m, I129 m l0 l2 l5 l6 l8 l9 l11 g) K th p0 p1 p2 g) : MetA Γ l yX11_recheck cX11_recheck 12 (some (.int)) 9 226 [.ref th, .int p0, .int p1, .long p2] g (fun r g' => ∃ x, r = some (.int x) ∧ K x g') := by
  refine MetA.introL (Lx := [some (.ref th), some (.int p0), some (.int p1), some (.long p2), none, none, none, none, none, none, none, none]) (by decide) (Nat.le_of_ble_eq_true rfl) rfl rfl ?_
  intro E hEl hE hnm
  have hall : ∀ n, (∀ (l0 : Nat) (l2 : Int32) (l3 : Int64) (l5 : Int32) (l6 : Int32) (g : GH), I37 n l0 l2 l3 l5 l6 g → JW Γ E 37 [some (.ref l0), none, some (.int l2), some (.long l3), none, some (.int l5), some (.int l6), none, none, none, none, none] [] g) ∧ (∀ (l0 : Nat) (l2 : Int32) (l5 : Int32) (l6 : Int64) (l8 : Int32) (l9 : Int32) (g : GH), I83 n l0 l2 l5 l6 l8 l9 g → JW Γ E 83 [some (.ref l0), none, some (.int l2), none, none, some (.int l5), some (.long l6), none, some (.int l8), some (.int l9), none, none] [] g) ∧ (∀ (l0 : Nat) (l2 : Int32) (l5 : Int32) (l6 : Int64) (l8 : Int32) (l9 : Int32) (l11 : Int32) (g : GH), I129 n l0 l2 l5 l6 l8 l9 l11 g → JW Γ E 129 [some (.ref l0), none, some (.int l2), none, none, some (.int l5), some (.long l6), none, some (.int l8), some (.int l9), none, some (.int l11)] [] g) := by
    intro n
    induction n using Nat.strongRecOn with
    | ind n ih =>
      exact ⟨fun l0 l2 l3 l5 l6 g hi => S_M_recheck_37 hE (fun l0 l2 l3 l5 l6 g hm => by obtain ⟨m, hm, h⟩ := hm; exact (ih m hm).1 l0 l2 l3 l5 l6 g h) (fun l0 l2 l5 l6 l8 l9 g hm => by obtain ⟨m, hm, h⟩ := hm; exact (ih m hm).2.1 l0 l2 l5 l6 l8 l9 g h) (fun l0 l2 l5 l6 l8 l9 l11 g hm => by obtain ⟨m, hm, h⟩ := hm; exact (ih m hm).2.2 l0 l2 l5 l6 l8 l9 l11 g h) l0 l2 l3 l5 l6 g (hh37 n l0 l2 l3 l5 l6 g hi), fun l0 l2 l5 l6 l8 l9 g hi => S_M_recheck_83 hE (fun l0 l2 l3 l5 l6 g hm => by obtain ⟨m, hm, h⟩ := hm; exact (ih m hm).1 l0 l2 l3 l5 l6 g h) (fun l0 l2 l5 l6 l8 l9 g hm => by obtain ⟨m, hm, h⟩ := hm; exact (ih m hm).2.1 l0 l2 l5 l6 l8 l9 g h) (fun l0 l2 l5 l6 l8 l9 l11 g hm => by obtain ⟨m, hm, h⟩ := hm; exact (ih m hm).2.2 l0 l2 l5 l6 l8 l9 l11 g h) l0 l2 l5 l6 l8 l9 g (hh83 n l0 l2 l5 l6 l8 l9 g hi), fun l0 l2 l5 l6 l8 l9 l11 g hi => S_M_recheck_129 hE (fun l0 l2 l3 l5 l6 g hm => by obtain ⟨m, hm, h⟩ := hm; exact (ih m hm).1 l0 l2 l3 l5 l6 g h) (fun l0 l2 l5 l6 l8 l9 g hm => by obtain ⟨m, hm, h⟩ := hm; exact (ih m hm).2.1 l0 l2 l5 l6 l8 l9 g h) (fun l0 l2 l5 l6 l8 l9 l11 g hm => by obtain ⟨m, hm, h⟩ := hm; exact (ih m hm).2.2 l0 l2 l5 l6 l8 l9 l11 g h) l0 l2 l5 l6 l8 l9 l11 g (hh129 n l0 l2 l5 l6 l8 l9 l11 g hi)⟩
  exact S_M_recheck_0 hE (fun l0 l2 l3 l5 l6 g hm => by obtain ⟨m, h⟩ := hm; exact (hall m).1 l0 l2 l3 l5 l6 g h) (fun l0 l2 l5 l6 l8 l9 g hm => by obtain ⟨m, h⟩ := hm; exact (hall m).2.1 l0 l2 l5 l6 l8 l9 g h) (fun l0 l2 l5 l6 l8 l9 l11 g hm => by obtain ⟨m, h⟩ := hm; exact (hall m).2.2 l0 l2 l5 l6 l8 l9 l11 g h) th p0 p1 p2 g h0
theorem mt_M_recheck {Γ : GAM} {l : Launch} (th : Nat) (p0 : Int32) (p1 : Int32) (p2 : Int64) (g : GH) (K : Int32 → GH → Prop) (h : Sp_M_recheck Γ th p0 p1 p2 g K) : MetA Γ l yX11_recheck cX11_recheck 12 (some (.int)) 9 226 [.ref th, .int p0, .int p1, .long p2] g (fun r g' => ∃ x, r = some (.int x) ∧ K x g') := by
  obtain ⟨ma, s, hI, hw, hK⟩ := h
  have hN := hw.len.2.2.1
  have hV := hw.len.1
  have hkd := hI.1.1
  have hlo : (sLo s).length ≤ (s_env s).length := by
    have := List.length_filter_le (cnT s (s_vot s).length) (List.range (s_env s).length)
    rw [List.length_range] at this; exact this
  have hcl := sCn_len hw _ (Nat.le_refl (s_vot s).length)
  have hno : ∀ g', FrX th [1569, 1570, 1595, 1602] [1594, 1596, 1597, 1598, 1599, 1600, 1601, 1607, 1608, 1609] g g' → ¬ ok_recheck s p0 p1 → K (-1) g' := fun g' hx hn => by have := hK g' hx; unfold p_recheck at this; rw [if_neg hn] at this; exact this
  refine rl_M_recheck (fun n l0 l2 l3 l5 l6 g' => th = l0 ∧ p1 = l2 ∧ p2 = l3 ∧ ok_recheck s p0 p1 ∧ ∃ k, k ≤ (s_env s).length ∧ n = 1000000 + ((s_env s).length - k) ∧ l6 = nI k ∧ FrX th [1569, 1570, 1595, 1602] [1594, 1596, 1597, 1598, 1599, 1600, 1601, 1607, 1608, 1609] g g' ∧ CN th g' s (s_vot s).length ∧ l5 = nI (((List.range (s_env s).length).take k).filter (cnT s (s_vot s).length)).length ∧ LoR th g' (((List.range (s_env s).length).take k).filter (cnT s (s_vot s).length)))
    (fun n l0 l2 l5 l6 l8 l9 g' => th = l0 ∧ p1 = l2 ∧ ok_recheck s p0 p1 ∧ ∃ j, j ≤ p1.toNatClampNeg + 1 ∧ n = 1000 * (p1.toNatClampNeg + 1 - j) ∧ l9 = nI j ∧ FrX th [1569, 1570, 1595, 1602] [1594, 1596, 1597, 1598, 1599, 1600, 1601, 1607, 1608, 1609] g g' ∧ l8 = (rkD j (-1, p2, sLo s)).1 ∧ l6 = (rkD j (-1, p2, sLo s)).2.1 ∧ l5 = nI ((sLo s).length - j) ∧ LoR th g' (rkD j (-1, p2, sLo s)).2.2)
    (fun n l0 l2 l5 l6 l8 l9 l11 g' => th = l0 ∧ p1 = l2 ∧ ok_recheck s p0 p1 ∧ ∃ j i, j ≤ p1.toNatClampNeg ∧ n = 1000 * (p1.toNatClampNeg - j) + 1 + ((sLo s).length - (j + 1) - i) ∧ l9 = nI j ∧ l11 = nI i ∧ i ≤ (sLo s).length - (j + 1) ∧ FrX th [1569, 1570, 1595, 1602] [1594, 1596, 1597, 1598, 1599, 1600, 1601, 1607, 1608, 1609] g g' ∧ l8 = (rkD (j + 1) (-1, p2, sLo s)).1 ∧ l6 = (rkD (j + 1) (-1, p2, sLo s)).2.1 ∧ l5 = nI ((sLo s).length - (j + 1)) ∧ (∀ k x, k < i → (rkD (j + 1) (-1, p2, sLo s)).2.2[k]? = some x → Ia g' 1609 th k = nI x) ∧ (∀ k x, i ≤ k → (rkD (j + 1) (-1, p2, sLo s)).2.2[k]? = some x → Ia g' 1609 th (k + 1) = nI x)) ?_ ?_ ?_ ?_
  · rintro n l0 l2 l3 l5 l6 g' ⟨rfl, rfl, rfl, hok, k, hk, rfl, rfl, hfx, hC, rfl, hL⟩
    have hI' := hI.x hfx (by decide +kernel)
    obtain ⟨hkd', hS⟩ := hI'.1
    have hpb : p1.toNatClampNeg < 50 := by
      have h1 := nj_of hok.2.1.1
      have h2 : p1 < (50 : Int32) := by have := hok.1.2; have := hok.2.1.2; grind
      rw [h1.1] at h2
      exact (nj_lt (b := 50) h1.2 (by omega)).mp h2
    obtain ⟨z_counted1, z_counted2, z_counted3, z_counted4, z_counted5⟩ := hS 1607 21 200 rfl
    obtain ⟨z_lots1, z_lots2, z_lots3, z_lots4, z_lots5⟩ := hS 1609 20 200 rfl
    have hlt2 : (((List.range (s_env s).length).take k).filter (cnT s (s_vot s).length)).length ≤ k := by
      have := List.length_filter_le (cnT s (s_vot s).length) ((List.range (s_env s).length).take k)
      rw [List.length_take] at this; omega
    suffices H : ∀ (K37 : Nat → Int32 → Int64 → Int32 → Int32 → GH → Prop) (K83 : Nat → Int32 → Int32 → Int64 → Int32 → Int32 → GH → Prop) (K129 : Nat → Int32 → Int32 → Int64 → Int32 → Int32 → Int32 → GH → Prop), (∀ g2, k < (s_env s).length → FrX th [1569, 1570, 1595, 1602] [1594, 1596, 1597, 1598, 1599, 1600, 1601, 1607, 1608, 1609] g g2 → CN th g2 s (s_vot s).length → LoR th g2 (((List.range (s_env s).length).take (k + 1)).filter (cnT s (s_vot s).length)) → K37 th p1 p2 (nI (((List.range (s_env s).length).take (k + 1)).filter (cnT s (s_vot s).length)).length) (nI (k + 1)) g2) → (LoR th g' (sLo s) → K83 th p1 (nI (sLo s).length) p2 (-1) 0 g') → B_M_recheck_37 Γ K37 K83 K129 K th p1 p2 (nI (((List.range (s_env s).length).take k).filter (cnT s (s_vot s).length)).length) (nI k) g' from
      H _ _ _ (fun g2 hlt h1 h2 h3 => ⟨1000000 + ((s_env s).length - (k + 1)), by omega, rfl, rfl, rfl, hok, k + 1, by omega, rfl, rfl, h1, h2, rfl, h3⟩)
        (fun h => ⟨1000 * (p1.toNatClampNeg + 1 - 0), by omega, rfl, rfl, hok, 0, Nat.zero_le _, rfl, nj_0, hfx, rfl, rfl, rfl, h⟩)
    intro K37 K83 K129 h37 h83
    have hst : k < (s_env s).length → ((List.range (s_env s).length).take (k + 1)).filter (cnT s (s_vot s).length) = ((List.range (s_env s).length).take k).filter (cnT s (s_vot s).length) ++ (if cnT s (s_vot s).length k = true then [k] else []) := fun hlt => by
      rw [List.take_succ, List.filter_append, range_get hlt]
      congr 1
      cases hcc : cnT s (s_vot s).length k <;> simp [hcc]
    unfold B_M_recheck_37
    simp only [hkd', hI'.env.1, z_counted1, z_counted2, z_counted3, z_counted4, z_counted5, z_lots1, z_lots2, z_lots3, z_lots4, z_lots5, Option.some.injEq, exists_eq_left', true_and, nj_cl (show k < 2147483648 by omega), nj_le (show (s_env s).length < 2147483648 by omega) (show k < 2147483648 by omega)]
    refine ⟨fun z => ?_, fun z => ?_⟩
    · have hz : (List.range (s_env s).length).take k = List.range (s_env s).length := List.take_of_length_le (by rw [List.length_range]; exact z)
      rw [hz] at hL ⊢
      exact h83 hL
    · have hlt : k < (s_env s).length := by omega
      refine ⟨inB_nI (by omega) (by omega), fun u => ?_, fun u => ⟨inB_nI (by omega) (by omega), ?_⟩⟩
      · have hc : cnT s (s_vot s).length k = false := by
          cases hcc : cnT s (s_vot s).length k with
          | false => rfl
          | true => rw [(hC k hlt).1] at u; unfold cnT at hcc; simp [hcc] at u
        have := h37 g' hlt hfx hC (by rw [hst hlt, hc]; simpa using hL)
        rw [hst hlt, hc] at this
        unfold B_M_recheck_68
        rw [nj_s]
        simpa using this
      · have hc : cnT s (s_vot s).length k = true := by
          cases hcc : cnT s (s_vot s).length k with
          | true => rfl
          | false => rw [(hC k hlt).1] at u; unfold cnT at hcc; simp [hcc] at u
        rintro g2 hg2
        rw [nj_cl (show (((List.range (s_env s).length).take k).filter (cnT s (s_vot s).length)).length < 2147483648 by omega)] at hg2
        have := h37 g2 hlt (hfx.tr (by rw [hg2]; exact FrX.sA (by decide))) (hC.cg (by rw [hg2]; funext i; simp [Ia_sA]) (by rw [hg2]; funext i; simp [Ia_sA])) (by
          rw [hst hlt, if_pos hc]
          intro i x hx
          rw [List.getElem?_append] at hx
          rw [hg2]
          split at hx
          · rename_i hi
            have := hL i x hx
            rw [Ia_sA, if_neg (by intro z; omega)]; exact this
          · rename_i hi
            have hi2 := (List.getElem?_eq_some_iff.mp hx).1
            simp only [List.length_cons, List.length_nil] at hi2
            have hi3 : i = (((List.range (s_env s).length).take k).filter (cnT s (s_vot s).length)).length := by omega
            subst hi3
            simp at hx
            subst hx
            rw [Ia_sA, if_pos ⟨rfl, rfl, rfl⟩])
        rw [hst hlt, if_pos hc, List.length_append] at this
        unfold B_M_recheck_68
        rw [nj_s, nj_s]
        exact this
  · rintro n l0 l2 l5 l6 l8 l9 g' ⟨rfl, rfl, hok, j, hj, rfl, rfl, hfx, rfl, rfl, rfl, hL⟩
    have hI' := hI.x hfx (by decide +kernel)
    obtain ⟨hkd', hS⟩ := hI'.1
    obtain ⟨z_lots1, z_lots2, z_lots3, z_lots4, z_lots5⟩ := hS 1609 20 200 rfl
    have hp1 := nj_of hok.2.1.1
    have hp0 := nj_of (show 0 ≤ p0 from by have := hok.1.1; grind)
    have hip : p1.toNatClampNeg < (sLo s).length := by
      have h1 := hok.2.2
      have h2 : p1 < p0 := by have := hok.2.1.2; have := hok.1; grind
      rw [hp0.1, nj_le hp0.2 (by omega)] at h1
      rw [hp0.1, hp1.1, nj_lt hp1.2 hp0.2] at h2
      omega
    have hle := rkD_len s p2 j (by omega) (by omega)
    suffices H : ∀ (K37 : Nat → Int32 → Int64 → Int32 → Int32 → GH → Prop) (K83 : Nat → Int32 → Int32 → Int64 → Int32 → Int32 → GH → Prop) (K129 : Nat → Int32 → Int32 → Int64 → Int32 → Int32 → Int32 → GH → Prop), (∀ i, j ≤ p1.toNatClampNeg → i = (rkI (rkN (rkD j (-1, p2, sLo s)).2.1) (nI (rkD j (-1, p2, sLo s)).2.2.length)).toNatClampNeg → i ≤ (sLo s).length - (j + 1) → K129 th p1 (nI ((sLo s).length - (j + 1))) (rkD (j + 1) (-1, p2, sLo s)).2.1 (rkD (j + 1) (-1, p2, sLo s)).1 (nI j) (nI i) g') → B_M_recheck_83 Γ K37 K83 K129 K th p1 (nI ((sLo s).length - j)) (rkD j (-1, p2, sLo s)).2.1 (rkD j (-1, p2, sLo s)).1 (nI j) g' from
      H _ _ _ (fun i h1 h2 h3 => ⟨1000 * (p1.toNatClampNeg - j) + 1 + ((sLo s).length - (j + 1) - i), by omega, rfl, rfl, hok, j, i, h1, rfl, rfl, rfl, h3, hfx, rfl, rfl, rfl, fun k x hk hx => hL k x (by
          have : (rkD (j + 1) (-1, p2, sLo s)).2.2 = (rkD j (-1, p2, sLo s)).2.2.eraseIdx i := by rw [h2]; rfl
          rw [this, List.getElem?_eraseIdx, if_pos hk] at hx; exact hx), fun k x hk hx => hL (k + 1) x (by
          have : (rkD (j + 1) (-1, p2, sLo s)).2.2 = (rkD j (-1, p2, sLo s)).2.2.eraseIdx i := by rw [h2]; rfl
          rw [this, List.getElem?_eraseIdx, if_neg (by omega)] at hx; exact hx)⟩)
    intro K37 K83 K129 h129
    unfold B_M_recheck_83
    refine ⟨fun z => ?_, fun z => ?_⟩
    · rw [hp1.1, nj_lt hp1.2 (by omega)] at z
      have : j = p1.toNatClampNeg + 1 := by omega
      subst this
      have := hK g' hfx
      unfold p_recheck at this
      rw [if_pos hok] at this
      exact this
    · rw [hp1.1, nj_lt hp1.2 (by omega)] at z
      have hjl : j ≤ p1.toNatClampNeg := by omega
      have hb := rkI_in (rkN (rkD j (-1, p2, sLo s)).2.1) (n := (sLo s).length - j) (by omega) (by omega)
      have hb2 := nj_of hb.1
      intro x1 hx1
      have hx1' : x1 = rkN (rkD j (-1, p2, sLo s)).2.1 := hx1
      refine ⟨fun q => ?_, fun x2 hx2 => ?_⟩
      · have h1 := congrArg Int64.toInt q
        rw [Int32.toInt_toInt64, nj_toInt (by omega)] at h1
        have : (0 : Int64).toInt = 0 := by decide
        omega
      · have hx2' : x2 = rkI (rkN (rkD j (-1, p2, sLo s)).2.1) (nI ((sLo s).length - j)) := by rw [hx2, hx1']; rfl
        have hin : inB x2 200 := by rw [hx2']; exact ⟨hb.1, by have := hb.2; omega⟩
        refine ⟨hkd', _, z_lots1, z_lots2, by rw [z_lots5]; exact hin, ?_⟩
        rw [z_lots3, z_lots4]
        intro x4 hx4
        obtain ⟨y, hy⟩ := get_lt (show x2.toNatClampNeg < (rkD j (-1, p2, sLo s)).2.2.length by rw [hle, hx2']; exact hb.2)
        have h8 : x4 = (rkD (j + 1) (-1, p2, sLo s)).1 := by
          rw [hx4, hL _ y hy]
          show nI y = nI ((rkD j (-1, p2, sLo s)).2.2.getD (rkI (rkN (rkD j (-1, p2, sLo s)).2.1) (nI (rkD j (-1, p2, sLo s)).2.2.length)).toNatClampNeg 0)
          rw [hle, ← hx2', List.getD_eq_getElem?_getD, hy]; rfl
        have h5 : nI ((sLo s).length - j) + (-1) = nI ((sLo s).length - (j + 1)) := by
          rw [show (sLo s).length - j = ((sLo s).length - (j + 1)) + 1 by omega, ← nj_s, Int32.add_assoc]
          have : (1 : Int32) + -1 = 0 := by decide
          rw [this, Int32.add_zero]
        have hxx := nj_of hin.1
        have := h129 x2.toNatClampNeg hjl (by rw [hle, ← hx2']) (by have := hb.2; rw [← hx2'] at this; omega)
        rw [h5, h8, hx1']
        rw [← hxx.1] at this
        exact this
  · rintro n l0 l2 l5 l6 l8 l9 l11 g' ⟨rfl, rfl, hok, j, i, hj, rfl, rfl, rfl, hi, hfx, rfl, rfl, rfl, hL1, hL2⟩
    have hI' := hI.x hfx (by decide +kernel)
    obtain ⟨hkd', hS⟩ := hI'.1
    obtain ⟨z_lots1, z_lots2, z_lots3, z_lots4, z_lots5⟩ := hS 1609 20 200 rfl
    have hp1 := nj_of hok.2.1.1
    have hp0 := nj_of (show 0 ≤ p0 from by have := hok.1.1; grind)
    have hip : p1.toNatClampNeg < (sLo s).length := by
      have h1 := hok.2.2
      have h2 : p1 < p0 := by have := hok.2.1.2; have := hok.1; grind
      rw [hp0.1, nj_le hp0.2 (by omega)] at h1
      rw [hp0.1, hp1.1, nj_lt hp1.2 hp0.2] at h2
      omega
    have hle := rkD_len s p2 (j + 1) (by omega) (by omega)
    suffices H : ∀ (K37 : Nat → Int32 → Int64 → Int32 → Int32 → GH → Prop) (K83 : Nat → Int32 → Int32 → Int64 → Int32 → Int32 → GH → Prop) (K129 : Nat → Int32 → Int32 → Int64 → Int32 → Int32 → Int32 → GH → Prop), (LoR th g' (rkD (j + 1) (-1, p2, sLo s)).2.2 → K83 th p1 (nI ((sLo s).length - (j + 1))) (rkD (j + 1) (-1, p2, sLo s)).2.1 (rkD (j + 1) (-1, p2, sLo s)).1 (nI (j + 1)) g') → (∀ g2, i < (sLo s).length - (j + 1) → FrX th [1569, 1570, 1595, 1602] [1594, 1596, 1597, 1598, 1599, 1600, 1601, 1607, 1608, 1609] g g2 → (∀ k, Ia g2 1609 th k = if k = i then Ia g' 1609 th (i + 1) else Ia g' 1609 th k) → K129 th p1 (nI ((sLo s).length - (j + 1))) (rkD (j + 1) (-1, p2, sLo s)).2.1 (rkD (j + 1) (-1, p2, sLo s)).1 (nI j) (nI (i + 1)) g2) → B_M_recheck_129 Γ K37 K83 K129 K th p1 (nI ((sLo s).length - (j + 1))) (rkD (j + 1) (-1, p2, sLo s)).2.1 (rkD (j + 1) (-1, p2, sLo s)).1 (nI j) (nI i) g' from
      H _ _ _ (fun h => ⟨1000 * (p1.toNatClampNeg + 1 - (j + 1)), by omega, rfl, rfl, hok, j + 1, by omega, rfl, rfl, hfx, rfl, rfl, rfl, h⟩)
        (fun g2 hlt h1 h2 => ⟨1000 * (p1.toNatClampNeg - j) + 1 + ((sLo s).length - (j + 1) - (i + 1)), by omega, rfl, rfl, hok, j, i + 1, hj, rfl, rfl, rfl, by omega, h1, rfl, rfl, rfl,
          fun k x hk hx => by
            rw [h2 k]
            by_cases u : k = i
            · rw [if_pos u]; subst u; exact hL2 k x (Nat.le_refl _) hx
            · rw [if_neg u]; exact hL1 k x (by omega) hx,
          fun k x hk hx => by rw [h2 (k + 1), if_neg (by omega)]; exact hL2 k x (by omega) hx⟩)
    intro K37 K83 K129 h83 h129
    unfold B_M_recheck_129
    simp only [hkd', z_lots1, z_lots2, z_lots3, z_lots4, z_lots5, Option.some.injEq, exists_eq_left', true_and, nj_s, nj_cl (show i < 2147483648 by omega), nj_cl (show i + 1 < 2147483648 by omega), nj_le (show (sLo s).length - (j + 1) < 2147483648 by omega) (show i < 2147483648 by omega)]
    refine ⟨fun z => h83 (fun k x hx => hL1 k x ?_ hx), fun z => ⟨inB_nI (by omega) (by omega), inB_nI (by omega) (by omega), ?_⟩⟩
    · have := (List.getElem?_eq_some_iff.mp hx).1
      omega
    · intro g2 hg2
      exact h129 g2 (by omega) (hfx.tr (by rw [hg2]; exact FrX.sA (by decide))) (fun k => by rw [hg2, Ia_sA]; simp)
  · unfold B_M_recheck_0 B_M_recheck_29
    unfold Sp_M_in
    refine ⟨fun u => hno g FrX.rf (fun q => by rw [if_pos q.1] at u; exact absurd u (by decide)), fun u => ⟨fun u2 => hno g FrX.rf (fun q => by rw [if_pos q.2.1] at u2; exact absurd u2 (by decide)), fun u2 => ⟨hkd, ma, s, hI, hw, fun g2 hx2 hC => ?_⟩⟩⟩
    have hx3 : FrX th [1569, 1570, 1595, 1602] [1594, 1596, 1597, 1598, 1599, 1600, 1601, 1607, 1608, 1609] g g2 := hx2.up (by decide) (by decide)
    have o1 : 1 ≤ p0 ∧ p0 ≤ 50 := Classical.byContradiction (fun q => u (by rw [if_neg q]))
    have o2 : 0 ≤ p1 ∧ p1 ≤ p0 - 1 := Classical.byContradiction (fun q => u2 (by rw [if_neg q]))
    rw [hcl]
    refine ⟨fun u3 => ?_, fun u3 => hno g2 hx3 (fun q => u3 q.2.2)⟩
    refine ⟨_, rfl, rfl, rfl, ⟨o1, o2, u3⟩, 0, Nat.zero_le _, rfl, nj_0, hx3, hC, rfl, ?_⟩
    intro k x hx
    simp at hx
