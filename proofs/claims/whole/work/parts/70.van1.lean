/-! the class: its van; a search that leaves out what can't be better -/
def mN (P : List Nat) : Nat := P.foldl (fun m b => m ||| 2 ^ b) 0
theorem mN_app (P : List Nat) (b : Nat) : mN (P ++ [b]) = mN P ||| 2 ^ b := by
  unfold mN; rw [List.foldl_append]; rfl
theorem mN_fold (P : List Nat) : ∀ m i, (P.foldl (fun m b => m ||| 2 ^ b) m).testBit i = (m.testBit i || decide (i ∈ P)) := by
  induction P with
  | nil => intro m i; simp
  | cons a P ih =>
    intro m i
    rw [List.foldl_cons, ih, Nat.testBit_or, Nat.testBit_two_pow]
    by_cases e : i = a
    · subst e; simp
    · have e' : ¬ a = i := fun z => e z.symm
      simp [e, e']
theorem mN_bit (P : List Nat) (i : Nat) : (mN P).testBit i = decide (i ∈ P) := by
  unfold mN
  rw [mN_fold]; simp
theorem mN_mem {P P' : List Nat} (h : mN P = mN P') (x : Nat) : x ∈ P ↔ x ∈ P' := by
  have := congrArg (fun m => m.testBit x) h
  simp only [mN_bit] at this
  exact decide_eq_decide.mp this
theorem nd_len : ∀ {P P' : List Nat}, P.Nodup → (∀ x, x ∈ P → x ∈ P') → P.length ≤ P'.length := by
  intro P
  induction P with
  | nil => intro P' _ _; exact Nat.zero_le _
  | cons a P ih =>
    intro P' hn hs
    have ha := hs a List.mem_cons_self
    have hn' := List.nodup_cons.mp hn
    have h1 : (P'.erase a).length + 1 = P'.length := by
      rw [List.length_erase_of_mem ha]
      have := List.length_pos_of_mem ha
      omega
    have h2 := ih (P' := P'.erase a) hn'.2 (fun x hx => (List.mem_erase_of_ne (fun e => hn'.1 (by rw [← e]; exact hx))).mpr (hs x (List.mem_cons_of_mem _ hx)))
    rw [List.length_cons]
    omega
theorem mN_len {P P' : List Nat} (h : mN P = mN P') (h1 : P.Nodup) (h2 : P'.Nodup) : P.length = P'.length :=
  Nat.le_antisymm (nd_len h1 (fun x hx => (mN_mem h x).mp hx)) (nd_len h2 (fun x hx => (mN_mem h x).mpr hx))
/-- all ways on come home at h at the soonest -/
def Bd (s : ST) : Nat → List Nat → Nat → Nat → Nat → Prop
  | 0, _, at', t, h => h ≤ t + vRd s at' 8
  | n + 1, P, at', t, h => ∀ b, b < 8 → vMay s P at' t b → Bd s n (P ++ [b]) b (vAr s at' b t) h
theorem vAr_le {s : ST} {at' b t t' : Nat} (h : t ≤ t') : vAr s at' b t ≤ vAr s at' b t' := by
  unfold vAr; omega
theorem Bd_mono {s : ST} : ∀ {n : Nat} {P P' : List Nat} {at' t t' h h' : Nat}, t ≤ t' → (∀ x, x ∈ P ↔ x ∈ P') → h' ≤ h → Bd s n P at' t h → Bd s n P' at' t' h' := by
  intro n
  induction n with
  | zero =>
    intro P P' at' t t' h h' h1 _ h3 hB
    show h' ≤ t' + vRd s at' 8
    have : h ≤ t + vRd s at' 8 := hB
    omega
  | succ n ih =>
    intro P P' at' t t' h h' h1 h2 h3 hB b hb hm
    refine ih (vAr_le h1) (fun x => ?_) h3 (hB b hb ⟨hm.1, fun z => hm.2.1 ((h2 b).mp z), by have := hm.2.2; omega⟩)
    rw [List.mem_append, List.mem_append, h2 x]
def Bs (s : ST) (st : VB) (n : Nat) (P : List Nat) (at' t : Nat) : Prop := match st with
  | none => ∀ h, Bd s n P at' t h
  | some p => Bd s n P at' t p.1
/-- st' is no worse -/
def Bet (st st' : VB) : Prop := ∀ p, st = some p → ∃ p', st' = some p' ∧ p'.1 ≤ p.1
theorem Bet.rf {st : VB} : Bet st st := fun p h => ⟨p, h, Nat.le_refl _⟩
theorem Bet.tr {a b c : VB} (h : Bet a b) (k : Bet b c) : Bet a c := fun p hp => by
  obtain ⟨p1, h1, h2⟩ := h p hp
  obtain ⟨p2, k1, k2⟩ := k p1 h1
  exact ⟨p2, k1, by omega⟩
theorem Bs.up {s : ST} {st st' : VB} {n : Nat} {P P' : List Nat} {at' t t' : Nat} (h : Bs s st n P at' t) (hb : Bet st st') (h1 : t ≤ t') (h2 : ∀ x, x ∈ P ↔ x ∈ P') : Bs s st' n P' at' t' := by
  cases st with
  | none =>
    cases st' with
    | none => exact fun k => Bd_mono h1 h2 (Nat.le_refl _) (h k)
    | some p => exact Bd_mono h1 h2 (Nat.le_refl _) (h p.1)
  | some p =>
    obtain ⟨p', e, hle⟩ := hb p rfl
    subst e
    exact Bd_mono h1 h2 hle h
theorem Bs_no {s : ST} : ∀ {n : Nat} {P : List Nat} {at' t : Nat} {st : VB}, Bs s st n P at' t → vDr s n P at' t st = st := by
  intro n
  induction n with
  | zero =>
    intro P at' t st h
    cases st with
    | none =>
      have : t + vRd s at' 8 + 1 ≤ t + vRd s at' 8 := h _
      omega
    | some p =>
      have : p.1 ≤ t + vRd s at' 8 := h
      show (if _ < p.1 then _ else _) = _
      rw [if_neg (by omega)]
  | succ n ih =>
    intro P at' t st h
    refine fold_inv (fun q : VB => q = st) _ (List.range 8) st rfl (fun a b hb ha => ?_)
    split
    · rename_i hm
      rw [ha]
      refine ih ?_
      have hb8 : b < 8 := List.mem_range.mp hb
      cases st with
      | none => exact fun k => h k b hb8 hm
      | some p => exact h b hb8 hm
    · exact ha
theorem vUp_bet (st : VB) (h : Nat) (tr : List Nat) : Bet st (vUp st h tr) := by
  intro p hp
  subst hp
  unfold vUp
  simp only
  split
  · exact ⟨_, rfl, by simp only; omega⟩
  · exact ⟨_, rfl, Nat.le_refl _⟩
theorem vDr_bet {s : ST} : ∀ {n : Nat} {P : List Nat} {at' t : Nat} {st : VB}, Bet st (vDr s n P at' t st) := by
  intro n
  induction n with
  | zero => intro P at' t st; exact vUp_bet _ _ _
  | succ n ih =>
    intro P at' t st
    refine fold_inv (fun q : VB => Bet st q) _ (List.range 8) st Bet.rf (fun a b hb ha => ?_)
    split
    · exact ha.tr ih
    · exact ha
theorem vDr_bs {s : ST} : ∀ {n : Nat} {P : List Nat} {at' t : Nat} {st : VB}, Bs s (vDr s n P at' t st) n P at' t := by
  intro n
  induction n with
  | zero =>
    intro P at' t st
    show Bs s (vUp st _ P) 0 P at' t
    cases st with
    | none => exact Nat.le_refl _
    | some p =>
      show Bs s (if _ < p.1 then _ else _) 0 P at' t
      split
      · exact Nat.le_refl _
      · rename_i h
        show p.1 ≤ _
        omega
  | succ n ih =>
    intro P at' t st
    have key : ∀ (l : List Nat) (st : VB), Bet st (l.foldl (fun st b => if vMay s P at' t b then vDr s n (P ++ [b]) b (vAr s at' b t) st else st) st) ∧ ∀ b, b ∈ l → vMay s P at' t b → Bs s (l.foldl (fun st b => if vMay s P at' t b then vDr s n (P ++ [b]) b (vAr s at' b t) st else st) st) n (P ++ [b]) b (vAr s at' b t) := by
      intro l
      induction l with
      | nil => intro st; exact ⟨Bet.rf, fun b hb => by cases hb⟩
      | cons c l ihl =>
        intro st
        rw [List.foldl_cons]
        obtain ⟨k1, k2⟩ := ihl (if vMay s P at' t c then vDr s n (P ++ [c]) c (vAr s at' c t) st else st)
        refine ⟨Bet.tr ?_ k1, fun b hb hm => ?_⟩
        · split
          · exact vDr_bet
          · exact Bet.rf
        · rcases List.mem_cons.mp hb with e | hb
          · subst e
            rw [if_pos hm] at k1 ⊢
            exact (ih (st := st)).up k1 (Nat.le_refl _) (fun _ => Iff.rfl)
          · exact k2 b hb hm
    have k := (key (List.range 8) st).2
    show Bs s ((List.range 8).foldl _ st) (n + 1) P at' t
    cases hr : (List.range 8).foldl (fun st b => if vMay s P at' t b then vDr s n (P ++ [b]) b (vAr s at' b t) st else st) st with
    | none =>
      intro h b hb hm
      have := k b (List.mem_range.mpr hb) hm
      rw [hr] at this
      exact this h
    | some p =>
      intro b hb hm
      have := k b (List.mem_range.mpr hb) hm
      rw [hr] at this
      exact this
abbrev VQ : Type := (Nat → Nat → Nat) × VB
def vQ (s : ST) : Nat → List Nat → Nat → Nat → VQ → VQ
  | 0, P, at', t, q => (q.1, vUp q.2 (t + vRd s at' 8) P)
  | n + 1, P, at', t, q => (List.range 8).foldl (fun q b => if vMay s P at' t b ∧ t + vRd s at' b < q.1 (mN (P ++ [b])) b then vQ s n (P ++ [b]) b (vAr s at' b t) (fun m c => if m = mN (P ++ [b]) ∧ c = b then t + vRd s at' b else q.1 m c, q.2) else q) q
abbrev gP (P : List Nat) : Prop := P.Nodup ∧ ∀ x ∈ P, x < 8
/-- what is noted of longer ways is done with -/
def Cm (s : ST) (q : VQ) (k : Nat) : Prop := ∀ P b n, k ≤ P.length → n + P.length = vN s → gP P → b ∈ P → q.1 (mN P) b < 1000000 → Bs s q.2 n P b (max (q.1 (mN P) b) (vFr s b) + vSp s)
theorem gP_app {P : List Nat} {b : Nat} (h : gP P) (hb : b ∉ P) (h8 : b < 8) : gP (P ++ [b]) := by
  refine ⟨?_, fun x hx => ?_⟩
  · rw [List.nodup_append]
    refine ⟨h.1, by simp, fun a ha c hc => ?_⟩
    rw [List.mem_singleton] at hc
    rw [hc]
    intro e
    rw [e] at ha
    exact hb ha
  · rcases List.mem_append.mp hx with z | z
    · exact h.2 x z
    · rw [List.mem_singleton.mp z]; exact h8
theorem vQ_eq {s : ST} (hto : ∀ b, vTo s b < 1000000) : ∀ n P at' t q, n + P.length = vN s → gP P → Cm s q (P.length + 1) → (vQ s n P at' t q).2 = vDr s n P at' t q.2 ∧ Cm s (vQ s n P at' t q) (P.length + 1) ∧ ∀ P' c, gP P' → P'.length ≤ P.length → (vQ s n P at' t q).1 (mN P') c = q.1 (mN P') c := by
  intro n
  induction n with
  | zero =>
    intro P at' t q hn hg hC
    refine ⟨rfl, fun P' b n' h1 h2 h3 h4 h5 => ?_, fun _ _ _ _ => rfl⟩
    exact (hC P' b n' h1 h2 h3 h4 h5).up (vUp_bet _ _ _) (Nat.le_refl _) (fun _ => Iff.rfl)
  | succ n ih =>
    intro P at' t q hn hg hC
    have key : ∀ (l : List Nat), (∀ b ∈ l, b < 8) → ∀ q : VQ, Cm s q (P.length + 1) →
        (l.foldl (fun q b => if vMay s P at' t b ∧ t + vRd s at' b < q.1 (mN (P ++ [b])) b then vQ s n (P ++ [b]) b (vAr s at' b t) (fun m c => if m = mN (P ++ [b]) ∧ c = b then t + vRd s at' b else q.1 m c, q.2) else q) q).2 = l.foldl (fun st b => if vMay s P at' t b then vDr s n (P ++ [b]) b (vAr s at' b t) st else st) q.2 ∧
        Cm s (l.foldl (fun q b => if vMay s P at' t b ∧ t + vRd s at' b < q.1 (mN (P ++ [b])) b then vQ s n (P ++ [b]) b (vAr s at' b t) (fun m c => if m = mN (P ++ [b]) ∧ c = b then t + vRd s at' b else q.1 m c, q.2) else q) q) (P.length + 1) ∧
        ∀ P' c, gP P' → P'.length ≤ P.length → (l.foldl (fun q b => if vMay s P at' t b ∧ t + vRd s at' b < q.1 (mN (P ++ [b])) b then vQ s n (P ++ [b]) b (vAr s at' b t) (fun m c => if m = mN (P ++ [b]) ∧ c = b then t + vRd s at' b else q.1 m c, q.2) else q) q).1 (mN P') c = q.1 (mN P') c := by
      intro l
      induction l with
      | nil => intro _ q hC; exact ⟨rfl, hC, fun _ _ _ _ => rfl⟩
      | cons b l ihl =>
        intro hl q hC
        have hb8 := hl b List.mem_cons_self
        have hl' : ∀ c ∈ l, c < 8 := fun c hc => hl c (List.mem_cons_of_mem _ hc)
        rw [List.foldl_cons, List.foldl_cons]
        by_cases hm : vMay s P at' t b
        · rw [if_pos hm]
          have hgb := gP_app hg hm.2.1 hb8
          have hlen : (P ++ [b]).length = P.length + 1 := by simp
          by_cases hlt : t + vRd s at' b < q.1 (mN (P ++ [b])) b
          · rw [if_pos ⟨hm, hlt⟩]
            have hC1 : Cm s (fun m c => if m = mN (P ++ [b]) ∧ c = b then t + vRd s at' b else q.1 m c, q.2) ((P ++ [b]).length + 1) := fun P' c n' h1 h2 h3 h4 h5 => by
              have hne : ¬ (mN P' = mN (P ++ [b]) ∧ c = b) := fun z => by
                have := mN_len z.1 h3.1 hgb.1
                omega
              simp only [if_neg hne] at h5 ⊢
              exact hC P' c n' (by omega) h2 h3 h4 h5
            obtain ⟨i1, i2, i3⟩ := ih (P ++ [b]) b (vAr s at' b t) _ (by rw [hlen]; omega) hgb hC1
            simp only at i1 i3
            have hC2 : Cm s (vQ s n (P ++ [b]) b (vAr s at' b t) (fun m c => if m = mN (P ++ [b]) ∧ c = b then t + vRd s at' b else q.1 m c, q.2)) (P.length + 1) := fun P' c n' h1 h2 h3 h4 h5 => by
              by_cases hL : P'.length = P.length + 1
              · rw [i3 P' c h3 (by omega)] at h5 ⊢
                rw [i1]
                by_cases he : mN P' = mN (P ++ [b]) ∧ c = b
                · rw [if_pos he]
                  obtain ⟨he1, rfl⟩ := he
                  have e : n' = n := by omega
                  subst e
                  exact (vDr_bs (s := s) (n := n') (P := P ++ [c]) (at' := c) (t := vAr s at' c t) (st := q.2)).up Bet.rf (Nat.le_refl _) (fun x => (mN_mem he1 x).symm)
                · rw [if_neg he] at h5 ⊢
                  exact (hC P' c n' h1 h2 h3 h4 h5).up vDr_bet (Nat.le_refl _) (fun _ => Iff.rfl)
              · exact i2 P' c n' (by omega) h2 h3 h4 h5
            obtain ⟨j1, j2, j3⟩ := ihl hl' _ hC2
            refine ⟨by rw [j1, i1], j2, fun P' c h1 h2 => ?_⟩
            rw [j3 P' c h1 h2, i3 P' c h1 (by omega), if_neg]
            intro z
            have := mN_len z.1 h1.1 hgb.1
            omega
          · rw [if_neg (fun z => hlt z.2)]
            have h6 := hto b
            have hB := hC (P ++ [b]) b n (by omega) (by rw [hlen]; omega) hgb (by simp) (by have := hm.2.2; omega)
            have hB2 := hB.up (st' := q.2) (t' := vAr s at' b t) Bet.rf (by unfold vAr; omega) (fun _ => Iff.rfl)
            rw [Bs_no hB2]
            exact ihl hl' q hC
        · rw [if_neg hm, if_neg (fun z => hm z.1)]
          exact ihl hl' q hC
    exact key (List.range 8) (fun b hb => List.mem_range.mp hb) q hC
