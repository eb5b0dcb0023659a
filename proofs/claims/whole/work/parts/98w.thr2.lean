/-! the class's own throw -/
abbrev nsL : List Cond := xt_at "PostVotes" 215 NSE 13 prog_36_method_4_code ["java/lang/RuntimeException", "java/lang/Exception"]
set_option maxRecDepth 100000 in
theorem ns_in : ∀ w ∈ nsL, w ∈ tables_1 := by decide +kernel
set_option maxRecDepth 100000 in
theorem ns_ot : ∀ w ∈ Cond.classLink "PostVotes" 211 NSE :: Cond.initialized NSE :: nsL, vx_ot w = true := by decide +kernel
def nsD : Cond → Bool := fun c => match c with | .declares .. => true | _ => false
set_option maxRecDepth 100000 in
theorem ns_ng : ∀ w ∈ nsL.filter (fun w => !goodWord w), w = Cond.castable NSE NSE ∨ nsD w = true := by decide +kernel
theorem ns_at {Γ : GAM} {args : Array Value} {s : State} (hts : ∀ w ∈ gwl, w.before args s = true) (hK : WK Γ s) : ∀ w ∈ nsL, w.before args s = true := by
  intro w hw
  by_cases g : goodWord w = true
  · exact hts w (List.mem_filter.mpr ⟨List.mem_append_right _ (ns_in w hw), g⟩)
  · have hng := ns_ng w (List.mem_filter.mpr ⟨hw, by simp [g]⟩)
    obtain ⟨s0, b, w1, w2, w3, w4, _⟩ := hK.2.2.2.2
    have h0 := w4 w (List.mem_append_right _ (ns_in w hw))
    rcases hng with rfl | hd
    · exact va_Nw.use rfl (va_Nw.warmC w1 (va_Nw.of rfl h0))
    · cases w with
      | declares x => exact va_Nw.use rfl (va_Nw.warmD w1 (va_Nw.of rfl h0))
      | _ => simp [nsD] at hd
set_option maxRecDepth 100000 in
theorem na_us : inA (.isRef (.static Bundle.tN "UNASSIGNED_STACK" Bundle.steD)) narW = true := by decide +kernel
set_option maxRecDepth 100000 in
theorem na_ss : inA (.isRef (.static Bundle.tN "SUPPRESSED_SENTINEL" Bundle.listD)) narW = true := by decide +kernel
set_option maxRecDepth 100000 in
theorem xt_us : Cond.laysStatic Bundle.tN "UNASSIGNED_STACK" Bundle.steD ∈ tables_1 := List.mem_of_getElem? (i := 1219) (by decide +kernel)
set_option maxRecDepth 100000 in
theorem xt_ss : Cond.laysStatic Bundle.tN "SUPPRESSED_SENTINEL" Bundle.listD ∈ tables_1 := List.mem_of_getElem? (i := 1221) (by decide +kernel)
set_option maxRecDepth 100000 in
theorem xt_ti : Cond.initialized Bundle.tN ∈ tables_1 := by decide +kernel
set_option maxRecDepth 100000 in
theorem xt_s2 : Cond.stringRef "PostVotes" 213 "no such envelope, letter or day" ∈ tables_1 := List.mem_of_getElem? (i := 1231) (by decide +kernel)
set_option maxRecDepth 100000 in
theorem ns_cl : Cond.classLink "PostVotes" 211 NSE ∈ gwl := by decide +kernel
set_option maxRecDepth 100000 in
theorem ns_in2 : Cond.initialized NSE ∈ gwl := by decide +kernel
theorem ns_st {Γ : GAM} {s : State} (hX : ∀ q, q < gB Γ → s.heap[q]? = Γ.2.2.1[q]?) (hK : WK Γ s) : vx_Zq Bundle.tN "UNASSIGNED_STACK" Bundle.steD (fun q => gB Γ ≤ q) s s.heap ∧ vx_Zq Bundle.tN "SUPPRESSED_SENTINEL" Bundle.listD (fun q => gB Γ ≤ q) s s.heap := by
  obtain ⟨s0, b, w1, w2, w3, w4, -⟩ := hK.2.2.2.2
  have hA : ∀ a : Nat, a < s0.heap.size → ¬ gB Γ ≤ a := fun a ha => by
    rw [w2] at ha
    exact Nat.not_le.mpr ha
  have hq : ∀ a : Nat, a < s0.heap.size → ¬ gB Γ ≤ a → s.heap[a]? = s0.heap[a]? := fun a ha hn => by
    rw [hX a (Nat.lt_of_not_le hn), w2]
  have hi := w4 _ (List.mem_append_right _ xt_ti)
  exact ⟨(vx_Zq.moved w1.alike (vx_Zqof (w4 _ (List.mem_append_right _ xt_us)) hi (inA_of na_us w3) hA)).kept hq, (vx_Zq.moved w1.alike (vx_Zqof (w4 _ (List.mem_append_right _ xt_ss)) hi (inA_of na_ss w3) hA)).kept hq⟩
theorem d_rx : decode prog_36_method_4_code 0 = .ok (.aload_n 0, 1) ∧ decode prog_36_method_4_code 1 = .ok (.aload_n 1, 1) ∧ decode prog_36_method_4_code 2 = .ok (.invokespecial 13, 3) ∧ decode prog_36_method_4_code 5 = .ok (.return_, 1) := ⟨by decide +kernel, by decide +kernel, by decide +kernel, by decide +kernel⟩
theorem j_throw {Γ : GAM} {E : EV} {cc : ByteArray} {nL : Nat} {ret : Option FieldType} {fr lo : Nat} {K : Option Value → GH → Prop} {KX : GH → Prop} {pc : Nat} {L : List (Option Value)} {g : GH} (hE : GE Γ E cc nL "PostVotes" ret fr lo K) (hX : EX Γ E K KX) (hl : E.2.1.stackTraces = false) (hnL : L.length = nL)
    (d0 : decode cc pc = .ok (.new 211, 3)) (d3 : decode cc (pc + 3) = .ok (.dup, 1)) (d4 : decode cc (pc + 4) = .ok (.ldc 213, 2)) (d6 : decode cc (pc + 6) = .ok (.invokespecial 215, 3)) (d9 : decode cc (pc + 9) = .ok (.athrow, 1)) (hfr1 : 6 ≤ fr) (hlo1 : 100 ≤ lo) (h1 : Hn g + 1 ≤ gB Γ + NCC) (h2 : Hu g + 6 ≤ NSS) (h : ∀ k u, k ≤ 1 → u ≤ 6 → KX (nY g k u)) : JW Γ E pc L [] g := by
  obtain ⟨p, l, e, R, s, m, args, below, meth, c, Q⟩ := E
  obtain ⟨hx, hb, hml, ho, hts, hret, hlk, hK, ⟨hfr, hlo, hcs, hB, u0, hu0, hs0⟩, -⟩ := hE
  obtain ⟨x1, x2, x3⟩ := hX
  intro H locs k n ls a1 a2 a3
  have r := a1
  obtain ⟨⟨r1, r2, r3, r4, r5⟩, r6, -⟩ := r
  refine W_tight2 fun t1 t2 => ?_
  refine W_imp (Q' := vx_MQ below (fun _ _ _ _ => False) (fun E _ t => E = NSE ∧ H.size ≤ t.heap.size ∧ ∀ q, q < H.size → t.heap[q]? = H[q]?) args s (H.size - s.heap.size + 1) (ssum H - ssum s.heap + 6) (fun q => gB Γ ≤ q)) (fun t ht => ?_) ?_
  · obtain ⟨o, b1, b2, b3⟩ := ht
    rcases b3 with ⟨hf, _⟩ | ⟨q, rfl, E, ce, Ls, ⟨rfl, f1, f2⟩, hce, hcv, hcl, hW, hsm, hL⟩
    · exact hf.elim
    · obtain ⟨y1, y2, y3, y4, y5, y6⟩ := id hsm
      have y3' : t.heap.size ≤ s.heap.size + (H.size - s.heap.size + 1) := y3
      have y5' : ((t.heap.toList.drop s.heap.size).map (·.slots.size)).sum ≤ ssum H - ssum s.heap + 6 := y5
      have e1 := ssum_split t.heap s.heap.size
      rw [take_eq (H := H) t1 (by omega) (fun q hq => f2 q (by omega))] at e1
      have e2 := ssum_split H s.heap.size
      have hle : ssum t.heap ≤ ssum H + 6 := by omega
      obtain ⟨hm, hR'⟩ := Rep_nY a1 f1 f2 (by omega) (by omega)
      exact x3 t ⟨.threw q, b1, b2, Or.inr ⟨q, rfl, NSE, ce, Ls, ⟨rfl, _, hR', h _ _ (by omega) (by omega)⟩, hce, hcv, hcl, hW, hsm.mono (by omega) (by omega), hL⟩⟩
  · obtain ⟨z1, z2⟩ := ns_st x2 hK
    have hstr : vk_R "PostVotes" 213 "no such envelope, letter or day" (Γ.2.1 97) s := by
      obtain ⟨s0, b, w1, w2, w3, w4, w5, w6, w7, w8, -⟩ := hK.2.2.2.2
      exact vk_R.warm w1 (vk_R.of (w4 _ (List.mem_append_right _ xt_s2)) w8)
    refine xt_throw hx hb hl (text := "no such envelope, letter or day") (names := ["java/lang/RuntimeException", "java/lang/Exception"]) (A := fun q => gB Γ ≤ q) d_rx.1 d_rx.2.1 d_rx.2.2.1 d_rx.2.2.2 ho (by decide) (by decide) (hts _ ns_cl) (hts _ ns_in2) hstr (ns_at hts hK) ns_ot z1 z2 ⟨t1, fun q hq hA => ?_, a2⟩ (by rw [hml, a3.1, hnL]) d0 d3 d4 d6 d9 (fun x hx => (x1 x hx).elim) (by show 2 + 3 < R.frames; omega) (by show 0 + (13 * (2 + 1) + 43) ≤ R.locals; omega) (by omega) (by omega) hlk (fun t _ f1 f2 => ⟨rfl, f1, f2⟩) a2 (Nat.le_refl _) (Nat.le_refl _)
    rw [r6 q (Nat.lt_of_not_le hA), x2 q (Nat.lt_of_not_le hA)]
