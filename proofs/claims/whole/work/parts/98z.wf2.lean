/-! what every state keeps to stays so -/
theorem pushW {α : Type} {P : α → Prop} {l : List α} {y : α} (h : ∀ x ∈ l, P x) (hy : P y) : ∀ x ∈ l ++ [y], P x := fun x hx => (List.mem_append.mp hx).elim (h x) (fun z => by rw [List.mem_singleton.mp z]; exact hy)
theorem push_len {α : Type} {l : List α} {y : α} {n : Nat} (h : l.length ≤ n) (hn : l.length ≠ n) : (l ++ [y]).length ≤ n := by
  rw [List.length_append]; simp only [List.length_cons, List.length_nil]; omega
theorem inl_ok {p : Int32} {n : Nat} (hn : n ≤ 1000) (h : 0 ≤ p ∧ p ≤ nI n - 1) : 0 ≤ p ∧ p.toNatClampNeg < n := by
  obtain ⟨i, rfl, hi⟩ := (wn_c hn).mp h
  exact ⟨nj_nneg (by omega), by rw [nj_cl (by omega)]; exact hi⟩
theorem fdL_in {a b c d f x : Int32} (hx : x ∈ fdL a b c d f 20) : 1 ≤ x ∧ x ≤ 255 := by
  rw [fdL_fil] at hx
  have key : ∀ y, x ∈ t4p y 4 → 1 ≤ x ∧ x ≤ 255 := fun y h => by
    rw [t4p_fil] at h
    obtain ⟨h1, h2⟩ := List.mem_filter.mp h
    have h0 : x ≠ 0 := by simpa using h2
    simp only [List.mem_cons, List.not_mem_nil, or_false] at h1
    rcases h1 with rfl | rfl | rfl | rfl <;> exact by4_bd _ _ h0
  simp only [List.mem_append] at hx
  rcases hx with (((h | h) | h) | h) | h <;> exact key _ h
theorem WF.days {s : ST} (h : WF s) (n : Int32) : WF (q_days s n) := by
  unfold q_days
  split
  · rename_i ok
    obtain ⟨now, siz, vot, mov, env, evt, emp, rea, tel, boo, len, tap, wav, prs, box, roa, stp, las, hof, hea, law⟩ := h
    have h1 := nj_of ok.1
    have h2 := nj_of now.1
    have h3 : s_now s ≤ s_now s + n ∧ 0 ≤ s_now s + n := by
      have a1 := ok.2.1
      have a2 := now.2
      rw [h1.1] at a1
      rw [h2.1] at a2
      have b1 := (nj_le (b := 400) h1.2 (by omega)).mp a1
      have b2 := (nj_le (b := 400) h2.2 (by omega)).mp a2
      rw [h1.1, h2.1, nI_add9]
      exact ⟨(nj_le h2.2 (by omega)).mpr (Nat.le_add_right _ _), nj_nneg (by omega)⟩
    have tr : ∀ {x : Int32}, x ≤ s_now s → x ≤ s_now s + n := fun a => Int32.le_trans a h3.1
    refine ⟨⟨h3.2, ok.2.2⟩, siz, vot, fun x hx => ?_, fun x hx => ?_, fun x hx => ?_, fun x hx => ?_, fun x hx => ?_, fun x hx => ?_, fun x hx => ?_, len, tap, wav, prs, box, roa, stp, las, hof, fun x hx => ?_, fun x hx => ?_⟩
    · obtain ⟨a, b, c, d⟩ := mov x hx
      exact ⟨a, b, ⟨c.1, tr c.2⟩, ⟨d.1, tr d.2⟩⟩
    · obtain ⟨a, b, c, d⟩ := env x hx
      exact ⟨a, ⟨b.1, tr b.2⟩, ⟨c.1, tr c.2⟩, d⟩
    · obtain ⟨a, b, c, d, e⟩ := evt x hx
      exact ⟨a, b, ⟨c.1, tr c.2⟩, d, ⟨e.1, tr e.2⟩⟩
    · obtain ⟨a, b, c, d⟩ := emp x hx
      exact ⟨a, ⟨b.1, tr b.2⟩, c, ⟨d.1, tr d.2⟩⟩
    · obtain ⟨a, b, c⟩ := rea x hx
      exact ⟨a, b, ⟨c.1, tr c.2⟩⟩
    · obtain ⟨a, b, c, d⟩ := tel x hx
      exact ⟨a, b, ⟨c.1, tr c.2⟩, d⟩
    · obtain ⟨a, b, c⟩ := boo x hx
      exact ⟨a, ⟨b.1, tr b.2⟩, ⟨c.1, tr c.2⟩⟩
    · obtain ⟨a, b⟩ := hea x hx
      exact ⟨a, ⟨b.1, tr b.2⟩⟩
    · obtain ⟨a, b, c, d⟩ := law x hx
      exact ⟨a, b, ⟨c.1, tr c.2⟩, d⟩
  · exact h
theorem WF.size {s : ST} (h : WF s) (p : Int32) : WF (q_size s p) := by
  unfold q_size
  split
  · rename_i ok
    obtain ⟨now, siz, r⟩ := h
    exact ⟨now, ok.1, r⟩
  · exact h
theorem WF.press {s : ST} (h : WF s) (p : Int32) : WF (q_press s p) := by
  unfold q_press
  split
  · rename_i ok
    obtain ⟨now, siz, vot, mov, env, evt, emp, rea, tel, boo, len, tap, wav, prs, r⟩ := h
    exact ⟨now, siz, vot, mov, env, evt, emp, rea, tel, boo, len, tap, wav, ok, r⟩
  · exact h
theorem WF.stops {s : ST} (h : WF s) (p : Int32) : WF (q_stops s p) := by
  unfold q_stops
  split
  · rename_i ok
    obtain ⟨now, siz, vot, mov, env, evt, emp, rea, tel, boo, len, tap, wav, prs, box, roa, stp, r⟩ := h
    exact ⟨now, siz, vot, mov, env, evt, emp, rea, tel, boo, len, tap, wav, prs, box, roa, ok, r⟩
  · exact h
theorem WF.stand {s : ST} (h : WF s) (p0 p1 p2 : Int32) : WF (q_stand s p0 p1 p2) := by
  unfold q_stand
  split
  · rename_i ok
    obtain ⟨now, siz, vot, mov, env, evt, emp, rea, tel, boo, len, tap, wav, prs, box, r⟩ := h
    refine ⟨now, siz, vot, mov, env, evt, emp, rea, tel, boo, len, tap, wav, prs, fun k x hx => ?_, r⟩
    have hx' : (if k = p0.toNatClampNeg then some (p1, p2) else s_box s k) = some x := hx
    split at hx'
    · rename_i hk
      cases hx'
      have hn := nj_of ok.1.1
      have h2 := ok.1.2
      rw [hn.1] at h2
      have := (nj_le (b := 7) hn.2 (by omega)).mp h2
      exact ⟨by omega, ok.2.1, ok.2.2⟩
    · exact box k x hx'
  · exact h
theorem WF.road {s : ST} (h : WF s) (p0 p1 p2 : Int32) : WF (q_road s p0 p1 p2) := by
  unfold q_road
  split
  · rename_i ok
    obtain ⟨now, siz, vot, mov, env, evt, emp, rea, tel, boo, len, tap, wav, prs, box, roa, r⟩ := h
    refine ⟨now, siz, vot, mov, env, evt, emp, rea, tel, boo, len, tap, wav, prs, box, fun a b ha hb hab => ?_, r⟩
    have h0 := nj_of ok.1.1
    have h1 := nj_of ok.2.1.1
    obtain ⟨i, hi⟩ : ∃ i, i = p0.toNatClampNeg := ⟨_, rfl⟩
    obtain ⟨j, hj⟩ : ∃ j, j = p1.toNatClampNeg := ⟨_, rfl⟩
    rw [← hi] at h0
    rw [← hj] at h1
    have i8 : i ≤ 8 := by
      have := ok.1.2
      rw [h0.1] at this
      exact (nj_le (b := 8) h0.2 (by omega)).mp this
    have j8 : j ≤ 8 := by
      have := ok.2.1.2
      rw [h1.1] at this
      exact (nj_le (b := 8) h1.2 (by omega)).mp this
    have e1 : (9 * p0 + p1).toNatClampNeg = 9 * i + j := by
      rw [h0.1, h1.1, show (9 : Int32) = nI 9 from rfl, nj_mul, nI_add9, nj_cl (by omega)]
    have e2 : (9 * p1 + p0).toNatClampNeg = 9 * j + i := by
      rw [h0.1, h1.1, show (9 : Int32) = nI 9 from rfl, nj_mul, nI_add9, nj_cl (by omega)]
    have e : ∀ k, s_roa (u_roa s (fun i => if i = (9 * p0 + p1).toNatClampNeg ∨ i = (9 * p1 + p0).toNatClampNeg then p2 else s_roa s i)) k = if k = 9 * i + j ∨ k = 9 * j + i then p2 else s_roa s k := fun k => by
      show (if k = (9 * p0 + p1).toNatClampNeg ∨ k = (9 * p1 + p0).toNatClampNeg then p2 else s_roa s k) = _
      rw [e1, e2]
    rw [e, e]
    by_cases c : 9 * a + b = 9 * i + j ∨ 9 * a + b = 9 * j + i
    · rw [if_pos c, if_pos (by omega)]
      exact ⟨ok.2.2.2.1, ok.2.2.2.2, rfl⟩
    · rw [if_neg c, if_neg (by omega)]
      exact roa a b ha hb hab
  · exact h
theorem WF.ends {s : ST} (h : WF s) (p0 p1 : Int32) : WF (q_ends s p0 p1) := by
  unfold q_ends
  split
  · rename_i ok
    obtain ⟨now, siz, vot, mov, env, evt, emp, rea, tel, boo, len, tap, wav, prs, box, roa, stp, las, r⟩ := h
    refine ⟨now, siz, vot, mov, env, evt, emp, rea, tel, boo, len, tap, wav, prs, box, roa, stp, fun k hk => ?_, r⟩
    show 0 ≤ (if k = p0.toNatClampNeg then p1 else s_las s k) ∧ (if k = p0.toNatClampNeg then p1 else s_las s k) ≤ 400
    split
    · exact ok.2
    · exact las k hk
  · exact h
theorem WF.endd {s : ST} (h : WF s) (p : Int32) : WF (q_end s p) := by
  unfold q_end
  split
  · obtain ⟨now, siz, vot, mov, env, evt, emp, rea, tel, boo, ⟨l1, l2, l3, l4, l5, l6, l7, l8, l9, l10⟩, tap, r⟩ := h
    refine ⟨now, siz, vot, mov, env, evt, emp, rea, tel, boo, ⟨l1, l2, l3, l4, l5, l6, l7, l8, ?_, l10⟩, fun x hx => tap x (List.mem_of_mem_take hx), r⟩
    show ((s_tap s).take p.toNatClampNeg).length ≤ 200
    rw [List.length_take]; omega
  · exact h
theorem WF.feed {s : ST} (h : WF s) (p0 p1 p2 p3 p4 : Int32) : WF (q_feed s p0 p1 p2 p3 p4) := by
  unfold q_feed
  split
  · rename_i ok
    obtain ⟨now, siz, vot, mov, env, evt, emp, rea, tel, boo, ⟨l1, l2, l3, l4, l5, l6, l7, l8, l9, l10⟩, tap, r⟩ := h
    refine ⟨now, siz, vot, mov, env, evt, emp, rea, tel, boo, ⟨l1, l2, l3, l4, l5, l6, l7, l8, ?_, l10⟩, fun x hx => ?_, r⟩
    · show (s_tap s ++ _).length ≤ 200
      rw [List.length_append]; exact ok
    · rcases List.mem_append.mp hx with hx | hx
      · exact tap x hx
      · exact fdL_in hx
  · exact h
theorem WF.wave {s : ST} (h : WF s) (p0 p1 p2 : Int32) : WF (q_wave s p0 p1 p2) := by
  unfold q_wave
  split
  · rename_i ok
    obtain ⟨now, siz, vot, mov, env, evt, emp, rea, tel, boo, ⟨l1, l2, l3, l4, l5, l6, l7, l8, l9, l10, l11, l12⟩, tap, wav, r⟩ := h
    exact ⟨now, siz, vot, mov, env, evt, emp, rea, tel, boo, ⟨l1, l2, l3, l4, l5, l6, l7, l8, l9, l10, push_len l11 ok.1, l12⟩, tap, pushW wav ⟨ok.2.1, ok.2.2.1, ok.2.2.2⟩, r⟩
  · exact h
theorem WF.voter {s : ST} (h : WF s) (p0 p1 p2 : Int32) : WF (q_voter s p0 p1 p2) := by
  unfold q_voter
  split
  · rename_i ok
    obtain ⟨now, siz, vot, mov, env, evt, emp, rea, tel, boo, ⟨l1, l2⟩, r⟩ := h
    have lt : ∀ {n : Nat}, n < (s_vot s).length → n < (s_vot s ++ [(p0, p1, p2)]).length := fun a => by rw [List.length_append]; omega
    refine ⟨now, siz, pushW vot ⟨ok.2.1, ok.2.2.1, ok.2.2.2⟩, fun x hx => ?_, fun x hx => ?_, evt, emp, rea, tel, fun x hx => ?_, ⟨push_len l1 ok.1, l2⟩, r⟩
    · obtain ⟨a, b⟩ := mov x hx
      exact ⟨⟨a.1, lt a.2⟩, b⟩
    · obtain ⟨a, b⟩ := env x hx
      exact ⟨⟨a.1, lt a.2⟩, b⟩
    · obtain ⟨a, b⟩ := boo x hx
      exact ⟨⟨a.1, lt a.2⟩, b⟩
  · exact h
theorem WF.move {s : ST} (h : WF s) (p0 p1 p2 : Int32) : WF (q_move s p0 p1 p2) := by
  unfold q_move
  split
  · rename_i ok
    obtain ⟨now, siz, vot, mov, env, evt, emp, rea, tel, boo, ⟨l1, l2, l3⟩, r⟩ := h
    exact ⟨now, siz, vot, pushW mov ⟨inl_ok (n := (s_vot s).length) (by omega) ok.2.1, ok.2.2.1, ok.2.2.2, ⟨now.1, Int32.le_refl _⟩⟩, env, evt, emp, rea, tel, boo, ⟨l1, push_len l2 ok.1, l3⟩, r⟩
  · exact h
theorem WF.booth {s : ST} (h : WF s) (p0 p1 : Int32) : WF (q_booth s p0 p1) := by
  unfold q_booth
  split
  · rename_i ok
    obtain ⟨now, siz, vot, mov, env, evt, emp, rea, tel, boo, ⟨l1, l2, l3, l4, l5, l6, l7, l8, l9⟩, r⟩ := h
    exact ⟨now, siz, vot, mov, env, evt, emp, rea, tel, pushW boo ⟨inl_ok (n := (s_vot s).length) (by omega) ok.2.1, ok.2.2, ⟨now.1, Int32.le_refl _⟩⟩, ⟨l1, l2, l3, l4, l5, l6, l7, push_len l8 ok.1, l9⟩, r⟩
  · exact h
theorem WF.send {s : ST} (h : WF s) (p0 p1 p2 : Int32) : WF (q_send s p0 p1 p2) := by
  unfold q_send
  split
  · rename_i ok
    obtain ⟨now, siz, vot, mov, env, evt, emp, rea, tel, boo, ⟨l1, l2, l3, l4⟩, tap, wav, prs, box, roa, stp, las, hof, r⟩ := h
    have lt : ∀ {n : Nat}, n < (s_env s).length → n < (s_env s ++ [(p0, p1, s_now s, p2)]).length := fun a => by rw [List.length_append]; omega
    refine ⟨now, siz, vot, mov, pushW env ⟨inl_ok (n := (s_vot s).length) (by omega) ok.2.1, ok.2.2.1, ⟨now.1, Int32.le_refl _⟩, ok.2.2.2⟩, fun x hx => ?_, emp, fun x hx => ?_, fun x hx => ?_, boo, ⟨l1, l2, push_len l3 ok.1, l4⟩, tap, wav, prs, box, roa, stp, las, fun e => ⟨(hof e).1, fun z => lt ((hof e).2 z)⟩, r⟩
    · obtain ⟨a, b⟩ := evt x hx
      exact ⟨⟨a.1, lt a.2⟩, b⟩
    · obtain ⟨a, b⟩ := rea x hx
      exact ⟨⟨a.1, lt a.2⟩, b⟩
    · obtain ⟨a, b⟩ := tel x hx
      exact ⟨⟨a.1, lt a.2⟩, b⟩
  · exact h
theorem WF.event {s : ST} (h : WF s) (p0 p1 p2 p3 : Int32) : WF (q_event s p0 p1 p2 p3) := by
  unfold q_event
  split
  · rename_i ok
    obtain ⟨now, siz, vot, mov, env, evt, emp, rea, tel, boo, ⟨l1, l2, l3, l4, l5⟩, r⟩ := h
    have h7 : 0 ≤ p3 ∧ p3 ≤ 7 := by
      rcases ok.2.2.2.2 with ⟨_, z⟩ | ⟨_, rfl⟩
      · exact z
      · exact ⟨by decide, by decide⟩
    exact ⟨now, siz, vot, mov, env, pushW evt ⟨inl_ok (n := (s_env s).length) (by omega) ok.2.1, ok.2.2.1, ok.2.2.2.1, h7, ⟨now.1, Int32.le_refl _⟩⟩, emp, rea, tel, boo, ⟨l1, l2, l3, push_len l4 ok.1, l5⟩, r⟩
  · exact h
theorem WF.empty {s : ST} (h : WF s) (p0 p1 p2 : Int32) : WF (q_empty s p0 p1 p2) := by
  unfold q_empty
  split
  · rename_i ok
    obtain ⟨now, siz, vot, mov, env, evt, emp, rea, tel, boo, ⟨l1, l2, l3, l4, l5, l6⟩, r⟩ := h
    exact ⟨now, siz, vot, mov, env, evt, pushW emp ⟨ok.2.1, ok.2.2.1, ok.2.2.2, ⟨now.1, Int32.le_refl _⟩⟩, rea, tel, boo, ⟨l1, l2, l3, l4, push_len l5 ok.1, l6⟩, r⟩
  · exact h
theorem WF.read {s : ST} (h : WF s) (p0 p1 : Int32) : WF (q_read s p0 p1) := by
  unfold q_read
  split
  · rename_i ok
    obtain ⟨now, siz, vot, mov, env, evt, emp, rea, tel, boo, ⟨l1, l2, l3, l4, l5, l6, l7⟩, r⟩ := h
    exact ⟨now, siz, vot, mov, env, evt, emp, pushW rea ⟨inl_ok (n := (s_env s).length) (by omega) ok.2.1, ok.2.2, ⟨now.1, Int32.le_refl _⟩⟩, tel, boo, ⟨l1, l2, l3, l4, l5, push_len l6 ok.1, l7⟩, r⟩
  · exact h
theorem WF.hand {s : ST} (h : WF s) (p0 p1 p2 : Int32) (h01 : p2 = 0 ∨ p2 = 1) : WF (q_hand s p0 p1 p2) := by
  unfold q_hand
  split
  · rename_i ok
    obtain ⟨now, siz, vot, mov, env, evt, emp, rea, tel, boo, ⟨l1, l2, l3, l4, l5, l6, l7, l8⟩, r⟩ := h
    exact ⟨now, siz, vot, mov, env, evt, emp, rea, pushW tel ⟨inl_ok (n := (s_env s).length) (by omega) ok.2.1, ok.2.2, ⟨now.1, Int32.le_refl _⟩, h01⟩, boo, ⟨l1, l2, l3, l4, l5, l6, push_len l7 ok.1, l8⟩, r⟩
  · exact h
theorem WF.law' {s : ST} (h : WF s) (p0 p1 : Int32) : WF (q_law s p0 p1) := by
  unfold q_law
  split
  · rename_i ok
    have hT := h.len.2.2.2.2.2.2.2.2.1
    cases hp : pAll (s_tap s) with
    | inl e => exact h
    | inr rs =>
      obtain ⟨a1, a2, a3, a4⟩ := pAll_ok hT hp
      obtain ⟨now, siz, vot, mov, env, evt, emp, rea, tel, boo, ⟨l1, l2, l3, l4, l5, l6, l7, l8, l9, l10, l11⟩, tap, wav, prs, box, roa, stp, las, hof, hea, law⟩ := h
      exact ⟨now, siz, vot, mov, env, evt, emp, rea, tel, boo, ⟨l1, l2, l3, l4, l5, l6, l7, l8, Nat.zero_le _, push_len l10 ok.2.2, l11⟩, fun x hx => (by cases hx), wav, prs, box, roa, stp, las, hof, hea, pushW law ⟨ok.1, ok.2.1, ⟨now.1, Int32.le_refl _⟩, a2, a4⟩⟩
  · exact h
theorem WF.opn {s : ST} (h : WF s) (p0 : Int32) : WF (q_open s p0) := by
  unfold q_open
  split
  · rename_i ok
    obtain ⟨now, siz, vot, mov, env, evt, emp, rea, tel, boo, ⟨l1, l2, l3, l4, l5, l6, l7, l8, l9, l10, l11, l12⟩, tap, wav, prs, box, roa, stp, las, hof, hea, law⟩ := h
    have hl : (s_hea s ++ [(p0, s_now s)]).length = (s_hea s).length + 1 := by rw [List.length_append]; rfl
    refine ⟨now, siz, vot, mov, env, evt, emp, rea, tel, boo, ⟨l1, l2, l3, l4, l5, l6, l7, l8, l9, l10, l11, push_len l12 ok.2.1⟩, tap, wav, prs, box, roa, stp, las, fun e => ?_, pushW hea ⟨ok.1, ⟨now.1, Int32.le_refl _⟩⟩, law⟩
    show opF s p0 (s_env s).length e ≤ (s_hea s ++ [(p0, s_now s)]).length ∧ (opF s p0 (s_env s).length e ≠ 0 → e < (s_env s).length)
    rw [hl]
    unfold opF
    split
    · rename_i z
      exact ⟨Nat.le_refl _, fun _ => z.1⟩
    · exact ⟨Nat.le_succ_of_le (hof e).1, (hof e).2⟩
  · exact h
theorem WF.st0 : WF st0 := by
  refine ⟨by decide, by decide, fun x hx => (by cases hx), fun x hx => (by cases hx), fun x hx => (by cases hx), fun x hx => (by cases hx), fun x hx => (by cases hx), fun x hx => (by cases hx), fun x hx => (by cases hx), fun x hx => (by cases hx), by decide, fun x hx => (by cases hx), fun x hx => (by cases hx), by decide, fun k x hx => (by cases hx), fun a b _ _ _ => ⟨(by decide : (1 : Int32) ≤ 30), (by decide : (30 : Int32) ≤ 300), rfl⟩, by decide, fun k _ => ⟨(by decide : (0 : Int32) ≤ 300), (by decide : (300 : Int32) ≤ 400)⟩, fun e => ⟨Nat.zero_le _, fun z => absurd rfl z⟩, fun x hx => (by cases hx), fun x hx => (by cases hx)⟩
