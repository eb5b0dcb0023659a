/-! the law's loop: what stands at its head, between the two calls, behind them -/
/-- at the head: n calls are left at most -/
def LI (Γ : GAM) (Z : SCRT) (n : Nat) (l0 l1 l2 l3 : Nat) (l4 : Int32) (g : GH) : Prop := l0 = z_b Z ∧ ∃ C ma s k, (k ≤ 512 ∧ n = 512 - k ∧ l4 = nI (6 * k)) ∧ c_x C = l1 ∧ ClsI Γ C g s ∧ WF s ∧ RM Γ C g s n ∧ RefI l2 ma g s ∧ (Kd g l3 = 23 ∧ Ln g l3 = 1) ∧ z_n Z ≤ 3072
abbrev KN (Γ : GAM) (Z : SCRT) (n : Nat) : Nat → Nat → Nat → Nat → Int32 → GH → Prop := fun l0 l1 l2 l3 l4 g => ∃ m, m < n + 1 ∧ LI Γ Z m l0 l1 l2 l3 l4 g
abbrev KE : Int32 → GH → Prop := fun x _ => x = 1
abbrev HB (Z : SCRT) (n k : Nat) : Prop := n + 1 + k = 512 ∧ 6 * k + 6 ≤ z_n Z ∧ z_n Z ≤ 3072
def HD (Γ : GAM) (Z : SCRT) (n k l1 l2 l3 : Nat) (g : GH) (C : CDR) (ma : Nat → Nat) (s : ST) : Prop := c_x C = l1 ∧ ClsI Γ C g s ∧ WF s ∧ RM Γ C g s (n + 1) ∧ RefI l2 ma g s ∧ (Kd g l3 = 23 ∧ Ln g l3 = 1) ∧ HB Z n k
def HM (Γ : GAM) (Z : SCRT) (n k l1 l2 l3 : Nat) (g : GH) (C : CDR) (ma : Nat → Nat) (s s' : ST) : Prop := c_x C = l1 ∧ ClsI Γ C g s' ∧ RM Γ C g s' n ∧ RefI l2 ma g s ∧ (Kd g l3 = 23 ∧ Ln g l3 = 1) ∧ HB Z n k
section
variable {Γ : GAM} {Z : SCRT} {n k l1 l2 l3 : Nat} {g : GH} {C : CDR} {ma : Nat → Nat} {s s' : ST}
theorem HD.wf (S : HD Γ Z n k l1 l2 l3 g C ma s) : WF s := S.2.2.1
theorem HD.k1 (S : HD Γ Z n k l1 l2 l3 g C ma s) : Kd g l1 = 12 := by
  obtain ⟨rfl, hI, _⟩ := S
  exact hI.1.1.2
theorem HM.k2 (S : HM Γ Z n k l1 l2 l3 g C ma s s') : Kd g l2 = 13 := S.2.2.2.1.1.1
theorem HM.ref (S : HM Γ Z n k l1 l2 l3 g C ma s s') : RefI l2 ma g s := S.2.2.2.1
theorem HB.ib (h : HB Z n k) {j : Nat} (hj : j ≤ 5) : inB (nI (6 * k) + nI j) (z_n Z) := by
  obtain ⟨h1, h2, h3⟩ := h
  rw [nI_add9]
  exact inB_nI (by omega) (by omega)
theorem HD.i1 (S : HD Γ Z n k l1 l2 l3 g C ma s) : inB (nI (6 * k) + (1 : Int32)) (z_n Z) := HB.ib S.2.2.2.2.2.2 (j := 1) (by omega)
theorem HD.i2 (S : HD Γ Z n k l1 l2 l3 g C ma s) : inB (nI (6 * k) + (2 : Int32)) (z_n Z) := HB.ib S.2.2.2.2.2.2 (j := 2) (by omega)
theorem HD.i3 (S : HD Γ Z n k l1 l2 l3 g C ma s) : inB (nI (6 * k) + (3 : Int32)) (z_n Z) := HB.ib S.2.2.2.2.2.2 (j := 3) (by omega)
theorem HD.i4 (S : HD Γ Z n k l1 l2 l3 g C ma s) : inB (nI (6 * k) + (4 : Int32)) (z_n Z) := HB.ib S.2.2.2.2.2.2 (j := 4) (by omega)
theorem HD.i5 (S : HD Γ Z n k l1 l2 l3 g C ma s) : inB (nI (6 * k) + (5 : Int32)) (z_n Z) := HB.ib S.2.2.2.2.2.2 (j := 5) (by omega)
/-- the class's call -/
theorem HD.pv {α : Type} {p : ST → α} {q : ST → ST} {KK : α → GH → Prop} (S : HD Γ Z n k l1 l2 l3 g C ma s) (h : ∀ C' g', HM Γ Z n k l1 l2 l3 g' C' ma s (q s) → KK (p s) g') : PVC Γ l1 g KK p q := by
  obtain ⟨rfl, hI, hW, hR, hM, ho, hk⟩ := S
  refine ⟨C, s, n, rfl, hI, hW, hR, fun C' g' hF hx hI' hR' => h C' g' ⟨hx, hI', hR', hM.frc hF hI.en, ?_, hk⟩⟩
  have := hF.kd (hI.en.lt (a := l3) (by omega)) (by omega)
  exact ⟨this.1.trans ho.1, this.2.2.2.trans ho.2⟩
theorem HM.li (S : HM Γ Z n k l1 l2 l3 g C ma s s') (hW : WF s') {g2 : GH} (hf : FrL l2 g g2) (hr : RefI l2 ma g2 s') : LI Γ Z n (z_b Z) l1 l2 l3 (nI (6 * k) + (6 : Int32)) g2 := by
  obtain ⟨rfl, hI, hR, hM, ho, hk⟩ := S
  have hf' := hf
  obtain ⟨x1, x2, x3, x4, x5, x6, x7, x8, x9, x10, x11, x12⟩ := hf'
  refine ⟨rfl, C, ma, s', k + 1, ⟨by have := hk.1; omega, by have := hk.1; omega, ?_⟩, rfl, hI.frl hf, hW, hR.frl hf, hr, ⟨by rw [x6]; exact ho.1, by rw [x9]; exact ho.2⟩, hk.2.2⟩
  rw [show 6 * (k + 1) = 6 * k + 6 by omega]
  exact nI_add9 (6 * k) 6
theorem HM.nx (S : HM Γ Z n k l1 l2 l3 g C ma s s') (hW : WF s') {g2 : GH} (hf : FrL l2 g g2) (hr : RefI l2 ma g2 s') : KN Γ Z n (z_b Z) l1 l2 l3 (nI (6 * k) + (6 : Int32)) g2 := ⟨n, Nat.lt_succ_self n, S.li hW hf hr⟩
end
