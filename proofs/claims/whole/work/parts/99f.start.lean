/-! the start: what it gives, told in the ghost's words -/
abbrev T39 : Term := .static "java/util/ArrayList" "DEFAULTCAPACITY_EMPTY_ELEMENTDATA" "[Ljava/lang/Object;"
set_option maxRecDepth 100000 in
theorem na_de : inA (.exactly T39 "[Ljava/lang/Object;") narW = true := by decide +kernel
set_option maxRecDepth 100000 in
theorem na_da : inA (.arrayOf T39 (.object "java/lang/Object")) narW = true := by decide +kernel
set_option maxRecDepth 100000 in
theorem na_dl : inA (.eq (.length T39) (.int 0)) narW = true := by decide +kernel
set_option maxRecDepth 100000 in
theorem na_mi : inA (.isRef (.mirror "[Ljava/lang/Object;")) narW = true := by decide +kernel
theorem cf_all : ∀ c, c < 13 → ∃ C N T ty, CFx c C T N ty := by
  intro c hc
  rcases (show c = 0 ∨ c = 1 ∨ c = 2 ∨ c = 3 ∨ c = 4 ∨ c = 5 ∨ c = 6 ∨ c = 7 ∨ c = 8 ∨ c = 9 ∨ c = 10 ∨ c = 11 ∨ c = 12 by omega) with rfl | rfl | rfl | rfl | rfl | rfl | rfl | rfl | rfl | rfl | rfl | rfl | rfl
  · exact ⟨_, _, _, _, cf_0⟩
  · exact ⟨_, _, _, _, cf_1⟩
  · exact ⟨_, _, _, _, cf_2⟩
  · exact ⟨_, _, _, _, cf_3⟩
  · exact ⟨_, _, _, _, cf_4⟩
  · exact ⟨_, _, _, _, cf_5⟩
  · exact ⟨_, _, _, _, cf_6⟩
  · exact ⟨_, _, _, _, cf_7⟩
  · exact ⟨_, _, _, _, cf_8⟩
  · exact ⟨_, _, _, _, cf_9⟩
  · exact ⟨_, _, _, _, cf_10⟩
  · exact ⟨_, _, _, _, cf_11⟩
  · exact ⟨_, _, _, _, cf_12⟩
theorem gwl_s {args : Array Value} {s : State} (hts : ∀ w ∈ lw_tbl, w.before args s = true) : ∀ w ∈ gwl, w.before args s = true := fun w h => hts w (List.mem_filter.mp h).1
theorem start_D {args : Array Value} {s : State} (hts : ∀ w ∈ lw_tbl, w.before args s = true) : ∃ D : va_G, ∀ (c : Nat) (q : vw_C), vwCl[c]? = some q → u_Kn s q.1 q.2.1 q.2.2 (D.1 c) (D.2 c) := by
  have key : ∀ c : Nat, ∃ d : ClassId × (Nat → Nat), ∀ q : vw_C, vwCl[c]? = some q → u_Kn s q.1 q.2.1 q.2.2 d.1 d.2 := by
    intro c
    by_cases hc : c < 13
    · obtain ⟨C, N, T, ty, h1, h2, h3, h4, h5, h6, h7, h8⟩ := cf_all c hc
      obtain ⟨cC, iS, hk⟩ := u_known (gwl_s hts) h2 (gwl_s hts _ h8)
      exact ⟨(cC, iS), fun q hq => by rw [h1] at hq; cases hq; exact hk⟩
    · refine ⟨(0, fun _ => 0), fun q hq => ?_⟩
      have hl : vwCl.length = 13 := rfl
      have := (List.getElem?_eq_some_iff.mp hq).1
      omega
  obtain ⟨f, hf⟩ := Classical.axiomOfChoice key
  exact ⟨(fun c => (f c).1, fun c => (f c).2), hf⟩
theorem arr_C {args : Array Value} {s : State} {t : FieldType} (hp : ∀ C, t ≠ .object C) (h : (Cond.arrayClass t).before args s = true) : ∃ cA : ClassId, ArrOfT s cA t ∧ va_RA s cA t := by
  obtain ⟨c, k, comp, h1, h2, h3⟩ := Cond.arrayClass_spec h
  refine ⟨c, fun n z => ⟨fun k h => (by cases h), k, h2, comp, h3⟩, ?_⟩
  cases t with
  | object C => exact absurd rfl (hp C)
  | _ => exact h1
/-- the parameters, and what the start says in their words -/
theorem start_K {s : State} {b : Nat} (hts : ∀ w ∈ lw_tbl, w.before #[Value.ref b] s = true) (gn : narW.before #[Value.ref b] s = true) : ∃ Γ : GAM, Γ.2.2.1 = s.heap ∧ WK Γ s := by
  obtain ⟨D, hD⟩ := start_D hts
  have hg := gwl_s hts
  obtain ⟨c20, a20, r20⟩ := arr_C (by intro C z; cases z) (hg _ ac_int)
  obtain ⟨c21, a21, r21⟩ := arr_C (by intro C z; cases z) (hg _ ac_boolean)
  obtain ⟨c23, a23, r23⟩ := arr_C (by intro C z; cases z) (hg _ ac_long)
  obtain ⟨comp, c22, k22, o1, o2, o3, o4, o5⟩ := Cond.arrayOver_spec (hts _ (List.mem_append_right _ xt_ao))
  have a22 : ArrOfT s c22 (.object "java/lang/Object") := fun n z => ⟨fun k h => (by cases h), k22, o3, comp, o4⟩
  have r22 : va_RA s c22 (.object "java/lang/Object") := ⟨k22, comp, o3, o4, o1, o5⟩
  obtain ⟨e, cE, cell, kE, e1, e2, e3, e4, e5, e6, -⟩ := Cond.exactly_spec (inA_of na_de gn)
  obtain ⟨t1, -⟩ := Cond.arrayOf_spec (inA_of na_da gn) e1 e3
  have hle := ev_eqi (inA_of na_dl gn)
  obtain ⟨d, arr, g1, g2, g3⟩ := Term.length_spec hle
  have hsz : arr.slots.size < 2 ^ 31 := by
    rw [Term.eval, g1] at hle
    simp only [Option.bind_eq_bind, Option.bind_some, g2] at hle
    by_cases z : arr.slots.size < 2 ^ 31
    · exact z
    · rw [if_neg z] at hle; cases hle
  have h0 : arr.slots.size = 0 := by
    have e : (0 : Int32) = arr.slots.size.toInt32 := Value.int.inj g3
    have e1 : (nI 0) = nI arr.slots.size := e
    exact ((nj_eq (by omega) (by omega)).mp e1).symm
  rw [e1] at g1; cases g1
  obtain ⟨hh, -⟩ := arrayAt_spec g2
  rw [e3] at hh; cases hh
  have hc22 : cell.cls = c22 := by
    rw [e6]
    have o5' : s.vm.findClass "[Ljava/lang/Object;" = some c22 := o5
    exact Option.some.inj (e2.symm.trans o5')
  obtain ⟨mi, hmi⟩ := va_Mi.of (inA_of na_mi gn)
  obtain ⟨a361, -, -, -, f1, -⟩ := Cond.exactly_spec (inA_of na_ex gn)
  obtain ⟨cP, kP, hcP, -⟩ := Cond.instantiable_spec (hg _ cf_11.2.2.2.2.2.2.2)
  obtain ⟨-, -, -, a213, -, -, -, -, -, f2⟩ := Cond.stringRef_spec hcP (hts _ (List.mem_append_right _ xt_s2))
  obtain ⟨F, hF⟩ : ∃ F : Nat → Nat, F = fun n => if n = 20 then c20 else if n = 21 then c21 else if n = 22 then c22 else if n = 23 then c23 else if n = 97 then a213 else if n = 98 then a361 else mi := ⟨_, rfl⟩
  have F20 : F 20 = c20 := by rw [hF]; rfl
  have F21 : F 21 = c21 := by rw [hF]; rfl
  have F22 : F 22 = c22 := by rw [hF]; rfl
  have F23 : F 23 = c23 := by rw [hF]; rfl
  have F97 : F 97 = a213 := by rw [hF]; rfl
  have F98 : F 98 = a361 := by rw [hF]; rfl
  have F99 : F 99 = mi := by rw [hF]; rfl
  refine ⟨(D, F, s.heap, e), rfl, ⟨hD, fun k q hq => ?_⟩, fun w hw => ?_, fun w hw => word_at (State.WarmedH.refl s) (gwl_good w hw) (hg w hw), fun w hw => ?_, s, b, State.WarmedH.refl s, rfl, gn, hts, e1, ?_, ?_, ?_, cell, e3, h0, t1.1, ?_⟩
  · match k, hq with
    | 0, hq => cases hq; exact ⟨by show ArrOfT s (F 20) _; rw [F20]; exact a20, by show va_RA s (F 20) _; rw [F20]; exact r20⟩
    | 1, hq => cases hq; exact ⟨by show ArrOfT s (F 21) _; rw [F21]; exact a21, by show va_RA s (F 21) _; rw [F21]; exact r21⟩
    | 2, hq => cases hq; exact ⟨by show ArrOfT s (F 22) _; rw [F22]; exact a22, by show va_RA s (F 22) _; rw [F22]; exact r22⟩
    | 3, hq => cases hq; exact ⟨by show ArrOfT s (F 23) _; rw [F23]; exact a23, by show va_RA s (F 23) _; rw [F23]; exact r23⟩
    | k + 4, hq => simp at hq
  · have h : w ∈ tables_1 := by rw [← ge_methodLinkNest] at hw; exact (List.mem_filter.mp hw).1
    obtain ⟨a, i, x, ho, rfl⟩ := nest_form w hw
    exact va_Nw.of rfl (hts _ (List.mem_append_right _ h))
  · have h : w ∈ tables_1 := by rw [← ge_castable] at hw; exact (List.mem_filter.mp hw).1
    obtain ⟨a, c, rfl⟩ := cast_form w hw
    exact va_Nw.of rfl (hts _ (List.mem_append_right _ h))
  · show va_Mi _ (F 99) s
    rw [F99]; exact hmi
  · show _ = some (Value.ref (F 98))
    rw [F98]; exact f1
  · show _ = some (Value.ref (F 97))
    rw [F97]; exact f2
  · show cell.cls = F 22
    rw [F22]; exact hc22
/-- the ghost heap at the start: nothing but the shared empty row -/
def g00 (Γ : GAM) : GH := (fun _ _ => 0, fun _ _ => none, fun _ _ _ => 0, fun _ _ _ => none, fun _ _ => 0, fun a => if a = Γ.2.2.2 then 22 else 0, fun _ => 998, fun _ => 0, fun _ => 0, fun _ => [], Γ.2.2.1.size, 0)
theorem g00_k {Γ : GAM} {a : Nat} (h : Kd (g00 Γ) a ≠ 0) : a = Γ.2.2.2 ∧ Kd (g00 Γ) a = 22 := by
  have e : Kd (g00 Γ) a = if a = Γ.2.2.2 then 22 else 0 := rfl
  rw [e] at h ⊢
  by_cases z : a = Γ.2.2.2
  · exact ⟨z, if_pos z⟩
  · rw [if_neg z] at h; exact absurd rfl h
theorem g00_rep {Γ : GAM} (h : Γ.2.2.2 < Γ.2.2.1.size) : Rep Γ (g00 Γ) Γ.2.2.1 := by
  refine ⟨⟨rfl, Nat.le_refl _, Nat.le_add_right _ _, Nat.zero_le _, rfl⟩, fun q _ => rfl, fun a ha => ?_, fun a ci ha hci => ?_, fun a h1 h2 => ?_, fun a b h1 h2 _ _ => ?_, fun a _ => ⟨fun _ => rfl, fun _ => rfl⟩, fun a ha => ?_⟩
  · obtain ⟨rfl, h2⟩ := g00_k ha
    exact ⟨h, .inr ⟨h2, rfl, rfl⟩⟩
  · have := (g00_k (Γ := Γ) (a := a) (by omega)).2
    omega
  · obtain ⟨rfl, -⟩ := g00_k (Γ := Γ) (a := a) (by omega)
    unfold acell
    rw [if_pos (show Γ.2.2.2 < gB Γ from h)]
  · rw [(g00_k (Γ := Γ) (a := a) (by omega)).1, (g00_k (Γ := Γ) (a := b) (by omega)).1]
  · show 0 < Γ.2.2.1.size
    omega
theorem g00_en {Γ : GAM} (h : Γ.2.2.2 < Γ.2.2.1.size) : EN (g00 Γ) := fun b hb => by
  have hb' : Γ.2.2.1.size ≤ b := hb
  by_cases z : Kd (g00 Γ) b = 0
  · exact z
  · have := (g00_k z).1; omega
theorem g00_se {Γ : GAM} (h : Γ.2.2.2 < Γ.2.2.1.size) : SE Γ (g00 Γ) := ⟨h, by show (if Γ.2.2.2 = Γ.2.2.2 then 22 else 0) = 22; rw [if_pos rfl], rfl, rfl⟩
theorem g00_nt {Γ : GAM} : NT (g00 Γ) := fun b _ => ⟨by show 998 ≠ 1000; decide, by show 998 ≠ 999; decide⟩
