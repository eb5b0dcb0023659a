/-! the class: a voter's envelopes, in pure words -/
def VPS (s : ST) (v : Nat) : List (Em × Nat) := (s_env s).zipIdx.filter (fun p => decide (p.1.1 = nI v))
theorem VPS_in {s : ST} {v : Nat} {p : Em × Nat} (h : p ∈ VPS s v) : (s_env s)[p.2]? = some p.1 ∧ p.1.1 = nI v := by
  unfold VPS at h
  rw [List.mem_filter] at h
  have := List.mem_zipIdx h.1
  refine ⟨?_, of_decide_eq_true h.2⟩
  rw [List.getElem?_eq_some_iff]
  exact ⟨by omega, by have := this.2.2; simp at this; exact this.symm⟩
theorem VPS_of {s : ST} {v e : Nat} {y : Em} (h : (s_env s)[e]? = some y) (hy : y.1 = nI v) : (y, e) ∈ VPS s v := by
  unfold VPS
  rw [List.mem_filter]
  exact ⟨List.mem_of_getElem? (zip_get h), decide_eq_true hy⟩
theorem VPS_fold {β : Type} {s : ST} {v : Nat} (f : β → Em × Nat → β) (h : ∀ a p, p.1.1 ≠ nI v → f a p = a) (b : β) : (s_env s).zipIdx.foldl f b = (VPS s v).foldl f b := by
  unfold VPS
  rw [List.foldl_filter]
  congr 1
  funext a p
  by_cases hp : p.1.1 = nI v
  · rw [if_pos (decide_eq_true hp)]
  · rw [if_neg (by simp [hp]), h a p hp]
theorem VPS_nd (s : ST) (v : Nat) : (evOf s v).Nodup := by
  unfold evOf
  have h1 : ((s_env s).zipIdx.map (·.2)).Nodup := by
    rw [List.zipIdx_map_snd]
    exact List.nodup_range'
  exact (List.filter_sublist.map _).nodup h1
theorem ev_ps (s : ST) (v : Nat) : evOf s v = (VPS s v).map (·.2) := rfl
theorem VPS_len (s : ST) (v : Nat) : (VPS s v).length ≤ (s_env s).length := by
  unfold VPS
  have := List.length_filter_le (fun p : Em × Nat => decide (p.1.1 = nI v)) (s_env s).zipIdx
  rw [List.length_zipIdx] at this
  exact this
theorem VPS_inj {s : ST} {v i j : Nat} {p p' : Em × Nat} (h : (VPS s v)[i]? = some p) (h' : (VPS s v)[j]? = some p') (e : p.2 = p'.2) : i = j := by
  have hn := VPS_nd s v
  rw [ev_ps] at hn
  have a : ((VPS s v).map (·.2))[i]? = some p.2 := by rw [List.getElem?_map, h]; rfl
  have b : ((VPS s v).map (·.2))[j]? = some p.2 := by rw [List.getElem?_map, h', e]; rfl
  obtain ⟨a1, a2⟩ := List.getElem?_eq_some_iff.mp a
  obtain ⟨b1, b2⟩ := List.getElem?_eq_some_iff.mp b
  exact (List.getElem_inj hn).mp (a2.trans b2.symm)
def vstk (s : ST) (v : Nat) (q : Int32) (i : Nat) : List Nat := ((VPS s v).take i).foldl (rowS s (nI v) q) []
theorem vstk_all (s : ST) (v : Nat) (q : Int32) : vstk s v q (VPS s v).length = sRevT s (nI v) q (s_env s).length := by
  unfold vstk sRevT
  rw [List.take_length, ← VPS_fold (rowS s (nI v) q) (fun a p hp => by unfold rowS; rw [if_neg (fun z => hp z.1)]), List.take_of_length_le (by rw [List.length_zipIdx]; exact Nat.le_refl _)]
theorem sent_all (s : ST) (v : Nat) (q : Int32) : (VPS s v).foldl (fun a p => seS (nI v) q a p.1) 0 = sSent s (nI v) q := by
  rw [← VPS_fold (fun a p => seS (nI v) q a p.1) (fun a p hp => by unfold seS; rw [if_neg (fun z => hp z.1)])]
  unfold sSent
  have key : ∀ (l : List Em) (n : Nat) (a : Int32), (l.zipIdx n).foldl (fun a p => seS (nI v) q a p.1) a = l.foldl (seS (nI v) q) a := by
    intro l
    induction l with
    | nil => intro n a; rfl
    | cons x l ih => intro n a; rw [List.zipIdx_cons, List.foldl_cons, List.foldl_cons, ih]
  exact key _ 0 0
theorem vstk_mem {s : ST} {v : Nat} {q : Int32} : ∀ i, i ≤ (VPS s v).length → (vstk s v q i).length ≤ i ∧ ∀ k ∈ vstk s v q i, ∃ j p, j < i ∧ (VPS s v)[j]? = some p ∧ p.2 = k ∧ p.1.2.2.1 ≤ q ∧ ¬ cmO s q k = -1 := by
  intro i
  induction i with
  | zero => intro _; exact ⟨Nat.le_refl _, fun k hk => by cases hk⟩
  | succ i ih =>
    intro h
    obtain ⟨h1, h2⟩ := ih (by omega)
    obtain ⟨p, hp⟩ := get_lt (show i < (VPS s v).length by omega)
    have e : vstk s v q (i + 1) = rowS s (nI v) q (vstk s v q i) p := by
      unfold vstk
      rw [fold_take _ _ _ hp]
    rw [e]
    unfold rowS
    split
    · rename_i hc
      refine ⟨by rw [rIns_len]; omega, fun k hk => ?_⟩
      rcases rIns_mem.mp hk with rfl | hk
      · exact ⟨i, p, by omega, hp, rfl, hc.2.1, hc.2.2⟩
      · obtain ⟨j, p', a, b⟩ := h2 k hk
        exact ⟨j, p', by omega, b⟩
    · refine ⟨by omega, fun k hk => ?_⟩
      obtain ⟨j, p', a, b⟩ := h2 k hk
      exact ⟨j, p', by omega, b⟩
theorem sJu_s {s : ST} {v q : Int32} {i e : Nat} (h : (sRow s v q)[i]? = some e) : sJu s v q (i + 1) = jS s q (sJu s v q i) e := by
  unfold sJu
  rw [fold_take _ _ _ h]
theorem sJ_at {s : ST} {v q : Int32} {i e : Nat} (h : (sRow s v q)[i]? = some e) : sJ s v q e = ((sOne s (nI e) q (sJu s v q i).2).1, (sOne s (nI e) q (sJu s v q i).2).2.1, (sOne s (nI e) q (sJu s v q i).2).2.2, (sJu s v q i).2) := by
  obtain ⟨-, -, hnd⟩ := sRow_ok s v q
  obtain ⟨hi, he⟩ := List.getElem?_eq_some_iff.mp h
  have e1 : sRow s v q = (sRow s v q).take (i + 1) ++ (sRow s v q).drop (i + 1) := (List.take_append_drop _ _).symm
  have hno : e ∉ (sRow s v q).drop (i + 1) := fun z => by
    obtain ⟨j, hj, hje⟩ := List.getElem_of_mem z
    rw [List.getElem_drop] at hje
    rw [List.length_drop] at hj
    have := (List.getElem_inj hnd (h₀ := by omega) (h₁ := hi)).mp (hje.trans he.symm)
    omega
  have e2 : sJ s v q e = (sJu s v q (i + 1)).1 e := by
    unfold sJ sJu
    rw [List.take_length]
    conv => lhs; rw [e1]
    rw [List.foldl_append, jS_out _ _ hno]
  rw [e2, sJu_s h]
  show (if e = e then _ else _) = _
  rw [if_pos rfl]
def gdE (s : ST) (v q : Int32) (e : Nat) : Bool := decide ((sJ s v q e).1 = 2)
theorem sJu_n {s : ST} {v q : Int32} : ∀ i, i ≤ (sRow s v q).length → ∃ m, m ≤ i ∧ (sJu s v q i).2 = nI m ∧ (m = 0 ↔ ((sRow s v q).take i).find? (gdE s v q) = none) := by
  intro i
  induction i with
  | zero => intro _; exact ⟨0, Nat.le_refl _, rfl, by simp⟩
  | succ i ih =>
    intro h
    obtain ⟨m, h1, h2, h3⟩ := ih (by omega)
    obtain ⟨e, he⟩ := get_lt (show i < (sRow s v q).length by omega)
    have hj := sJ_at he
    have hs : (sJu s v q (i + 1)).2 = (sJu s v q i).2 + (if (sOne s (nI e) q (sJu s v q i).2).1 = 2 then 1 else 0) := by rw [sJu_s he]; rfl
    have hg : gdE s v q e = decide ((sOne s (nI e) q (sJu s v q i).2).1 = 2) := by unfold gdE; rw [hj]
    have ht : (sRow s v q).take (i + 1) = (sRow s v q).take i ++ [e] := by rw [List.take_succ, he]; rfl
    rw [ht, List.find?_append]
    by_cases hc : (sOne s (nI e) q (sJu s v q i).2).1 = 2
    · refine ⟨m + 1, by omega, by rw [hs, if_pos hc, h2, nj_s], ?_⟩
      have : gdE s v q e = true := by rw [hg]; exact decide_eq_true hc
      rw [List.find?_cons_of_pos this]
      simp
    · refine ⟨m, by omega, by rw [hs, if_neg hc, h2, Int32.add_zero], ?_⟩
      have : ¬ gdE s v q e = true := by rw [hg]; simp [hc]
      rw [List.find?_cons_of_neg this, List.find?_nil, Option.or_none]
      exact h3
theorem oN_s {s : ST} {v q : Int32} {i e : Nat} (h200 : (s_env s).length ≤ 200) (he : (sRow s v q)[i]? = some e) : oN (((sRow s v q).take (i + 1)).find? (gdE s v q)) = if (sOne s (nI e) q (sJu s v q i).2).1 = 2 then (if (sJu s v q i).2 = 0 then nI e else oN (((sRow s v q).take i).find? (gdE s v q))) else oN (((sRow s v q).take i).find? (gdE s v q)) := by
  obtain ⟨hi, _⟩ := List.getElem?_eq_some_iff.mp he
  obtain ⟨m, h1, h2, h3⟩ := sJu_n (s := s) (v := v) (q := q) i (by omega)
  have hl := (sRow_ok s v q).2.1
  have hj := sJ_at he
  have hg : gdE s v q e = decide ((sOne s (nI e) q (sJu s v q i).2).1 = 2) := by unfold gdE; rw [hj]
  have ht : (sRow s v q).take (i + 1) = (sRow s v q).take i ++ [e] := by rw [List.take_succ, he]; rfl
  rw [ht, List.find?_append]
  by_cases hc : (sOne s (nI e) q (sJu s v q i).2).1 = 2
  · have : gdE s v q e = true := by rw [hg]; exact decide_eq_true hc
    rw [List.find?_cons_of_pos this, if_pos hc]
    cases hf : ((sRow s v q).take i).find? (gdE s v q) with
    | none =>
      rw [h2, h3.mpr hf, if_pos (show nI 0 = 0 from rfl)]; rfl
    | some a =>
      have hm : m ≠ 0 := fun z => by rw [h3.mp z] at hf; cases hf
      have : ¬ (sJu s v q i).2 = 0 := fun z => by
        rw [h2] at z
        have hlt : m < 2147483648 := by omega
        exact hm ((nj_eq hlt (by omega)).mp (show nI m = nI 0 from z))
      rw [if_neg this]; rfl
  · have : ¬ gdE s v q e = true := by rw [hg]; simp [hc]
    rw [List.find?_cons_of_neg this, List.find?_nil, Option.or_none, if_neg hc]
