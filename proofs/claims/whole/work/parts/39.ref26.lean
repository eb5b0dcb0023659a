/-! the reference: the usual days of a street -/
def tkV (s : ST) (p : Em × Nat) : Int32 := if 0 < (sCome s (nI p.2) (s_now s)).1 - p.1.2.1 then (sCome s (nI p.2) (s_now s)).1 - p.1.2.1 else 0
def tkS (s : ST) (st : Int32) (L : List Int32) (p : Em × Nat) : List Int32 := if (sVoter s p.1.1).2.1 = st ∧ ¬ (sCome s (nI p.2) (s_now s)).1 = -1 then L ++ [tkV s p] else L
def sTk (s : ST) (st : Int32) (k : Nat) : List Int32 := ((s_env s).zipIdx.take k).foldl (tkS s st) []
def cnS2 (d : Nat) (a t : Int32) : Int32 := a + (if nI d < t then 0 else 1)
def cntD (L : List Int32) (d k : Nat) : Int32 := (L.take k).foldl (cnS2 d) 0
def usF (L : List Int32) (p : Int32) (f d : Nat) : Int32 := match f with
  | 0 => nI d
  | f + 1 => if 1000 * cntD L d L.length < p * nI L.length then usF L p f (d + 1) else nI d
def sUs (s : ST) (st p : Int32) : Int32 := if s_siz s ≤ nI (sTk s st (s_env s).length).length then usF (sTk s st (s_env s).length) p 401 0 else -2
theorem cnt_all {d : Nat} : ∀ (L : List Int32) (j : Nat), (∀ t ∈ L, ¬ nI d < t) → L.foldl (cnS2 d) (nI j) = nI (j + L.length) := by
  intro L
  induction L with
  | nil => intro j _; rfl
  | cons x t ih =>
    intro j h
    rw [List.foldl_cons]
    unfold cnS2
    rw [if_neg (h x List.mem_cons_self), nj_s]
    have := ih (j + 1) (fun y hy => h y (List.mem_cons_of_mem _ hy))
    unfold cnS2 at this
    rw [this, List.length_cons, show j + 1 + t.length = j + (t.length + 1) by omega]
theorem us_end {p : Int32} {n : Nat} (h1 : 1 ≤ p) (h2 : p ≤ 1000) (hn : n ≤ 200) : ¬ 1000 * nI n < p * nI n := by
  obtain ⟨e1, e2⟩ := nj_of (show 0 ≤ p by grind)
  have h3 : p.toNatClampNeg ≤ 1000 := by
    rw [e1] at h2
    exact (nj_le (b := 1000) (by omega) (by omega)).mp h2
  have m1 : (1000 : Int32) * nI n = nI (1000 * n) := by unfold nI; rw [Int32.ofNat_mul]; rfl
  have m2 : p * nI n = nI (p.toNatClampNeg * n) := by
    conv => lhs; rw [e1]
    unfold nI; rw [Int32.ofNat_mul]
  have hm : p.toNatClampNeg * n ≤ 1000 * n := Nat.mul_le_mul_right _ h3
  rw [m1, m2, nj_lt (by omega) (by omega)]
  omega
theorem sTk_b {s : ST} (hw : WF s) {st : Int32} : ∀ k, ∀ t ∈ sTk s st k, 0 ≤ t ∧ t ≤ 400 := by
  intro k
  unfold sTk
  refine fold_inv (fun L => ∀ t ∈ L, 0 ≤ t ∧ t ≤ 400) _ _ _ (fun t h => by simp at h) (fun L p hp h => ?_)
  unfold tkS
  split
  · rename_i hc
    intro t ht
    rcases List.mem_append.mp ht with ht | ht
    · exact h t ht
    · rw [List.mem_singleton] at ht
      have hx := List.mem_of_mem_take hp
      obtain ⟨i, hi, hip⟩ := List.getElem_of_mem hx
      have hm : p.1 ∈ s_env s := by
        rw [List.getElem_zipIdx] at hip
        rw [← hip]; exact List.getElem_mem _
      have h1 := (hw.env _ hm).2.1
      have h2 := hw.now
      have h3 := sCome_b hw (nI p.2) (s_now s)
      rw [ht]
      unfold tkV
      generalize (sCome s (nI p.2) (s_now s)).1 = c at *
      rcases h3 with h3 | h3
      · exact absurd h3 hc.2
      · obtain ⟨c1, c2⟩ := nj_of h3.1
        obtain ⟨d1, d2⟩ := nj_of h1.1
        split
        · have hcd : (c - p.1.2.1).toInt = c.toInt - p.1.2.1.toInt := by
            rw [Int32.toInt_sub]
            have a1 := Int32.le_iff_toInt_le.mp h3.1
            have a2 := Int32.le_iff_toInt_le.mp h3.2
            have a3 := Int32.le_iff_toInt_le.mp h2.2
            have a4 := Int32.le_iff_toInt_le.mp h1.1
            have a5 := Int32.le_iff_toInt_le.mp h1.2
            have a6 : (400 : Int32).toInt = 400 := rfl
            have a7 : (0 : Int32).toInt = 0 := rfl
            rw [a6] at a3
            rw [a7] at a1 a4
            rw [Int.bmod_def]
            split <;> omega
          rename_i hlt
          have a1 := Int32.lt_iff_toInt_lt.mp hlt
          have a2 := Int32.le_iff_toInt_le.mp h3.2
          have a3 := Int32.le_iff_toInt_le.mp h2.2
          have a4 := Int32.le_iff_toInt_le.mp h1.1
          have a6 : (400 : Int32).toInt = 400 := rfl
          have a7 : (0 : Int32).toInt = 0 := rfl
          refine ⟨Int32.le_iff_toInt_le.mpr ?_, Int32.le_iff_toInt_le.mpr ?_⟩ <;> omega
        · exact ⟨by decide, by decide⟩
  · exact h
