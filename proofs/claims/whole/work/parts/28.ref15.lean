/-! the reference: what is asked of the judged -/
abbrev ok_asked (s : ST) (e q : Int32) : Prop := (0 ≤ e ∧ e ≤ nI (s_env s).length - 1) ∧ (0 ≤ q ∧ q ≤ s_now s) ∧ (sEnv s e).2.2.1 ≤ q
theorem asked_ok {s : ST} (hw : WF s) {e q : Int32} (h : ok_asked s e q) : eOk s e := ⟨h.1.1, lt_of_in (by have := hw.len.2.2.1; omega) h.1⟩
theorem asked_in {s : ST} (hw : WF s) {e q : Int32} (h : ok_asked s e q) : inLn s (sEnv s e).1 q e.toNatClampNeg := by
  obtain ⟨x, hx, hex⟩ := eOk_get (asked_ok hw h)
  exact ⟨x, hx, by rw [hex], by rw [← hex]; exact h.2.2⟩
def Sp_M_isAsked (Γ : GAM) (m : Nat) (e q : Int32) (g : GH) (K : Int32 → GH → Prop) : Prop := ∃ ma s, RefI m ma g s ∧ WF s ∧ K (if ok_asked s e q then 1 else 0) g
-- the walk of M_isAsked
set_option maxRecDepth 100000 in
def B_M_isAsked_30 (Γ : GAM) (K : Int32 → GH → Prop) (s0 : Int32) (g : GH) : Prop :=
  ((s0 = 0 ∨ s0 = 1) ∧ K s0 g)
set_option maxHeartbeats 4000000 in
set_option maxRecDepth 100000 in
theorem S_M_isAsked_30 {Γ : GAM} {E : EV} {K : Int32 → GH → Prop} (hE : GE Γ E cX11_isAsked 3 RX11 (some (.boolean)) 2 43 (fun r g' => ∃ x, r = some (.int x) ∧ K x g')) (s0 : Int32) (g : GH) (h : B_M_isAsked_30 Γ K s0 g) : JW Γ E 30 [none, none, none] [.int s0] g := by
  unfold B_M_isAsked_30 at h
  exact j_zret hE h.1 (by decide +kernel : decode cX11_isAsked 30 = .ok (.ireturn, 1)) ⟨_, rfl, h.2⟩
set_option maxRecDepth 100000 in
def B_M_isAsked_29 (Γ : GAM) (K : Int32 → GH → Prop)  (g : GH) : Prop :=
  B_M_isAsked_30 Γ K (0 : Int32) g
set_option maxHeartbeats 4000000 in
set_option maxRecDepth 100000 in
theorem S_M_isAsked_29 {Γ : GAM} {E : EV} {K : Int32 → GH → Prop} (hE : GE Γ E cX11_isAsked 3 RX11 (some (.boolean)) 2 43 (fun r g' => ∃ x, r = some (.int x) ∧ K x g'))  (g : GH) (h : B_M_isAsked_29 Γ K  g) : JW Γ E 29 [none, none, none] [] g := by
  unfold B_M_isAsked_29 at h
  refine j_iconst hE (by decide +kernel : decode cX11_isAsked 29 = .ok (.iconst 0, 1)) (v := (0 : Int32)) (by decide) ?_
  exact S_M_isAsked_30 hE _ _ h
set_option maxRecDepth 100000 in
def B_M_isAsked_0 (Γ : GAM) (K : Int32 → GH → Prop) (th : Nat) (p0 : Int32) (p1 : Int32) (g : GH) : Prop :=
  Kd g th = 13 ∧ Sp_M_isEnvelope Γ th p0 g (fun (x2 : Int32) (g1 : GH) => ((x2 = 0 → B_M_isAsked_29 Γ K g1) ∧ (¬ (x2 = 0) → Kd g1 th = 13 ∧ Sp_M_isKnowing Γ th p1 g1 (fun (x4 : Int32) (g3 : GH) => ((x4 = 0 → B_M_isAsked_29 Γ K g3) ∧ (¬ (x4 = 0) → Kd g3 th = 13 ∧ Sp_M_isSent Γ th p0 p1 g3 (fun (x6 : Int32) (g5 : GH) => ((x6 = 0 → B_M_isAsked_29 Γ K g5) ∧ (¬ (x6 = 0) → B_M_isAsked_30 Γ K (1 : Int32) g5)))))))))
set_option maxHeartbeats 4000000 in
set_option maxRecDepth 100000 in
theorem S_M_isAsked_0 {Γ : GAM} {E : EV} {K : Int32 → GH → Prop} (hE : GE Γ E cX11_isAsked 3 RX11 (some (.boolean)) 2 43 (fun r g' => ∃ x, r = some (.int x) ∧ K x g')) (th : Nat) (p0 : Int32) (p1 : Int32) (g : GH) (h : B_M_isAsked_0 Γ K th p0 p1 g) : JW Γ E 0 [some (.ref th), some (.int p0), some (.int p1)] [] g := by
  unfold B_M_isAsked_0 at h
  refine j_aload_n hE (by decide +kernel : decode cX11_isAsked 0 = .ok (.aload_n 0, 1)) rfl rfl ?_
  refine j_iload_n hE (by decide +kernel : decode cX11_isAsked 1 = .ok (.iload_n 1, 1)) rfl rfl ?_
  obtain ⟨hk, h⟩ := h
  refine j_callV hE rfl cl_X11_244 cf_12 im_X11_isEnvelope se_X11_isEnvelope ⟨by omega, by omega⟩ (As := [.int p0]) (rest := []) rfl rfl (Nat.le_of_ble_eq_true rfl) hk (by decide +kernel : decode cX11_isAsked 2 = .ok (.invokevirtual 244, 3)) (mt_M_isEnvelope _ _ _ _ h) ?_
  rintro _ g1 ⟨x2, rfl, h⟩
  refine j_if_eq hE (by decide +kernel : decode cX11_isAsked 5 = .ok (.ifCond .eq 24, 3)) (tgt := 29) (by decide) (fun q => ?_) (fun q => ?_)
  · replace h := h.1 q
    refine j_weak [none, none, none] trivial ?_
    exact S_M_isAsked_29 hE _ h
  · replace h := h.2 q
    refine j_aload_n hE (by decide +kernel : decode cX11_isAsked 8 = .ok (.aload_n 0, 1)) rfl rfl ?_
    refine j_iload_n hE (by decide +kernel : decode cX11_isAsked 9 = .ok (.iload_n 2, 1)) rfl rfl ?_
    obtain ⟨hk, h⟩ := h
    refine j_callV hE rfl cl_X11_234 cf_12 im_X11_isKnowing se_X11_isKnowing ⟨by omega, by omega⟩ (As := [.int p1]) (rest := []) rfl rfl (Nat.le_of_ble_eq_true rfl) hk (by decide +kernel : decode cX11_isAsked 10 = .ok (.invokevirtual 234, 3)) (mt_M_isKnowing _ _ _ _ h) ?_
    rintro _ g3 ⟨x4, rfl, h⟩
    refine j_if_eq hE (by decide +kernel : decode cX11_isAsked 13 = .ok (.ifCond .eq 16, 3)) (tgt := 29) (by decide) (fun q => ?_) (fun q => ?_)
    · replace h := h.1 q
      refine j_weak [none, none, none] trivial ?_
      exact S_M_isAsked_29 hE _ h
    · replace h := h.2 q
      refine j_aload_n hE (by decide +kernel : decode cX11_isAsked 16 = .ok (.aload_n 0, 1)) rfl rfl ?_
      refine j_iload_n hE (by decide +kernel : decode cX11_isAsked 17 = .ok (.iload_n 1, 1)) rfl rfl ?_
      refine j_iload_n hE (by decide +kernel : decode cX11_isAsked 18 = .ok (.iload_n 2, 1)) rfl rfl ?_
      obtain ⟨hk, h⟩ := h
      refine j_callV hE rfl cl_X11_278 cf_12 im_X11_isSent se_X11_isSent ⟨by omega, by omega⟩ (As := [.int p0, .int p1]) (rest := []) rfl rfl (Nat.le_of_ble_eq_true rfl) hk (by decide +kernel : decode cX11_isAsked 19 = .ok (.invokevirtual 278, 3)) (mt_M_isSent _ _ _ _ _ h) ?_
      rintro _ g5 ⟨x6, rfl, h⟩
      refine j_if_eq hE (by decide +kernel : decode cX11_isAsked 22 = .ok (.ifCond .eq 7, 3)) (tgt := 29) (by decide) (fun q => ?_) (fun q => ?_)
      · replace h := h.1 q
        refine j_weak [none, none, none] trivial ?_
        exact S_M_isAsked_29 hE _ h
      · replace h := h.2 q
        refine j_iconst hE (by decide +kernel : decode cX11_isAsked 25 = .ok (.iconst 1, 1)) (v := (1 : Int32)) (by decide) ?_
        refine j_goto hE (by decide +kernel : decode cX11_isAsked 26 = .ok (.goto 4, 3)) (tgt := 30) (by decide) ?_
        refine j_weak [none, none, none] trivial ?_
        exact S_M_isAsked_30 hE _ _ h
set_option maxHeartbeats 4000000 in
set_option maxRecDepth 100000 in
theorem rl_M_isAsked {Γ : GAM} {l : Launch} {th : Nat} {p0 : Int32} {p1 : Int32} {g : GH} {K : Int32 → GH → Prop} (h0 : B_M_isAsked_0 Γ K th p0 p1 g) : MetA Γ l yX11_isAsked cX11_isAsked 3 (some (.boolean)) 2 43 [.ref th, .int p0, .int p1] g (fun r g' => ∃ x, r = some (.int x) ∧ K x g') := by
  refine MetA.introL (Lx := [some (.ref th), some (.int p0), some (.int p1)]) (by decide) (Nat.le_of_ble_eq_true rfl) rfl rfl ?_
  intro E hEl hE hnm
  exact S_M_isAsked_0 hE th p0 p1 g h0
theorem mt_M_isAsked {Γ : GAM} {l : Launch} (th : Nat) (p0 : Int32) (p1 : Int32) (g : GH) (K : Int32 → GH → Prop) (h : Sp_M_isAsked Γ th p0 p1 g K) : MetA Γ l yX11_isAsked cX11_isAsked 3 (some (.boolean)) 2 43 [.ref th, .int p0, .int p1] g (fun r g' => ∃ x, r = some (.int x) ∧ K x g') := by
  obtain ⟨ma, s, hI, hw, hK⟩ := h
  obtain ⟨hkd, hS⟩ := hI.1
  have hnow := hI.now
  obtain ⟨w1, w2, w3⟩ := hI.env
  have hn := hw.len.2.2.1
  obtain ⟨z_sentTold1, z_sentTold2, z_sentTold3, z_sentTold4, z_sentTold5⟩ := hS 1558 20 200 rfl
  have hno : ¬ ok_asked s p0 p1 → K 0 g := fun h => by rw [if_neg h] at hK; exact hK
  have hyes : ok_asked s p0 p1 → K 1 g := fun h => by rw [if_pos h] at hK; exact hK
  refine rl_M_isAsked ?_
  by_cases h1 : 0 ≤ p0 ∧ p0 ≤ nI (s_env s).length - 1
  · have hlt := lt_of_in (n := (s_env s).length) (by omega) h1
    obtain ⟨x, hx⟩ := get_lt hlt
    have hex : sEnv s p0 = x := by unfold sEnv; rw [hx]; rfl
    have hb : inB p0 200 := ⟨h1.1, by omega⟩
    rw [← hex] at hx
    simp only [B_M_isAsked_30, B_M_isAsked_29, B_M_isAsked_0, Sp_M_isEnvelope, Sp_M_isKnowing, Sp_M_isSent, ifz, hkd, hnow, w1, hb, (w3 _ _ hx).2.2.1, z_sentTold1, z_sentTold2, z_sentTold3, z_sentTold4, z_sentTold5, Option.some.injEq, exists_eq_left', true_and]
    repeat' with_reducible first | apply And.intro | intro _
    all_goals first | exact hno (by grind) | exact hyes (by grind) | grind
  · simp only [B_M_isAsked_30, B_M_isAsked_29, B_M_isAsked_0, Sp_M_isEnvelope, ifz, hkd, w1, h1, true_and, not_false_eq_true, true_implies, not_true_eq_false, false_implies, and_true]
    first | exact hno (fun z => h1 z.1) | exact ⟨.inl rfl, hno (fun z => h1 z.1)⟩ | (simp; exact hno (fun z => h1 z.1))
def Sp_M_isLetter (Γ : GAM) (c : Int32) (g : GH) (K : Int32 → GH → Prop) : Prop := K (if okLt c then 1 else 0) g
-- the walk of M_isLetter
set_option maxRecDepth 100000 in
def B_M_isLetter_0 (Γ : GAM) (K : Int32 → GH → Prop) (p0 : Int32) (g : GH) : Prop :=
  ((p0 = (98 : Int32) → K (1 : Int32) g) ∧ (¬ (p0 = (98 : Int32)) → ((p0 = (99 : Int32) → K (1 : Int32) g) ∧ (¬ (p0 = (99 : Int32)) → ((p0 = (101 : Int32) → K (1 : Int32) g) ∧ (¬ (p0 = (101 : Int32)) → ((p0 = (102 : Int32) → K (1 : Int32) g) ∧ (¬ (p0 = (102 : Int32)) → ((p0 = (105 : Int32) → K (1 : Int32) g) ∧ (¬ (p0 = (105 : Int32)) → ((p0 = (107 : Int32) → K (1 : Int32) g) ∧ (¬ (p0 = (107 : Int32)) → ((p0 = (108 : Int32) → K (1 : Int32) g) ∧ (¬ (p0 = (108 : Int32)) → ((p0 = (109 : Int32) → K (1 : Int32) g) ∧ (¬ (p0 = (109 : Int32)) → ((p0 = (110 : Int32) → K (1 : Int32) g) ∧ (¬ (p0 = (110 : Int32)) → ((p0 = (111 : Int32) → K (1 : Int32) g) ∧ (¬ (p0 = (111 : Int32)) → ((p0 = (112 : Int32) → K (1 : Int32) g) ∧ (¬ (p0 = (112 : Int32)) → ((p0 = (114 : Int32) → K (1 : Int32) g) ∧ (¬ (p0 = (114 : Int32)) → ((p0 = (115 : Int32) → K (1 : Int32) g) ∧ (¬ (p0 = (115 : Int32)) → ((p0 = (116 : Int32) → K (1 : Int32) g) ∧ (¬ (p0 = (116 : Int32)) → ((p0 = (120 : Int32) → K (1 : Int32) g) ∧ (¬ (p0 = (120 : Int32)) → ((p0 = (121 : Int32) → K (1 : Int32) g) ∧ (¬ (p0 = (121 : Int32)) → ((p0 = (122 : Int32) → K (1 : Int32) g) ∧ (¬ (p0 = (122 : Int32)) → K (0 : Int32) g))))))))))))))))))))))))))))))))))
set_option maxHeartbeats 4000000 in
set_option maxRecDepth 100000 in
theorem S_M_isLetter_0 {Γ : GAM} {E : EV} {K : Int32 → GH → Prop} (hE : GE Γ E cX11_isLetter 1 RX11 (some (.boolean)) 0 0 (fun r g' => ∃ x, r = some (.int x) ∧ K x g')) (p0 : Int32) (g : GH) (h : B_M_isLetter_0 Γ K p0 g) : JW Γ E 0 [some (.int p0)] [] g := by
  unfold B_M_isLetter_0 at h
  refine j_iload_n hE (by decide +kernel : decode cX11_isLetter 0 = .ok (.iload_n 0, 1)) rfl rfl ?_
  by_cases q0 : p0 = (98 : Int32)
  · replace h := h.1 q0
    refine j_tableIn hE (by decide +kernel : decode cX11_isLetter 1 = .ok (.tableswitch 117 98 122 #[115, 115, 117, 115, 115, 117, 117, 115, 117, 115, 115, 115, 115, 115, 115, 117, 115, 115, 115, 117, 117, 117, 115, 115, 115], 115)) (by rw [q0]; decide) (by rw [q0]; decide) (off := 115) (by rw [q0]; decide) (tgt := 116) (by decide) ?_
    refine j_iconst hE (by decide +kernel : decode cX11_isLetter 116 = .ok (.iconst 1, 1)) (v := (1 : Int32)) (by decide) ?_
    exact j_zret hE (Or.inr rfl) (by decide +kernel : decode cX11_isLetter 117 = .ok (.ireturn, 1)) ⟨_, rfl, h⟩
  · replace h := h.2 q0
    by_cases q1 : p0 = (99 : Int32)
    · replace h := h.1 q1
      refine j_tableIn hE (by decide +kernel : decode cX11_isLetter 1 = .ok (.tableswitch 117 98 122 #[115, 115, 117, 115, 115, 117, 117, 115, 117, 115, 115, 115, 115, 115, 115, 117, 115, 115, 115, 117, 117, 117, 115, 115, 115], 115)) (by rw [q1]; decide) (by rw [q1]; decide) (off := 115) (by rw [q1]; decide) (tgt := 116) (by decide) ?_
      refine j_iconst hE (by decide +kernel : decode cX11_isLetter 116 = .ok (.iconst 1, 1)) (v := (1 : Int32)) (by decide) ?_
      exact j_zret hE (Or.inr rfl) (by decide +kernel : decode cX11_isLetter 117 = .ok (.ireturn, 1)) ⟨_, rfl, h⟩
    · replace h := h.2 q1
      by_cases q2 : p0 = (101 : Int32)
      · replace h := h.1 q2
        refine j_tableIn hE (by decide +kernel : decode cX11_isLetter 1 = .ok (.tableswitch 117 98 122 #[115, 115, 117, 115, 115, 117, 117, 115, 117, 115, 115, 115, 115, 115, 115, 117, 115, 115, 115, 117, 117, 117, 115, 115, 115], 115)) (by rw [q2]; decide) (by rw [q2]; decide) (off := 115) (by rw [q2]; decide) (tgt := 116) (by decide) ?_
        refine j_iconst hE (by decide +kernel : decode cX11_isLetter 116 = .ok (.iconst 1, 1)) (v := (1 : Int32)) (by decide) ?_
        exact j_zret hE (Or.inr rfl) (by decide +kernel : decode cX11_isLetter 117 = .ok (.ireturn, 1)) ⟨_, rfl, h⟩
      · replace h := h.2 q2
        by_cases q3 : p0 = (102 : Int32)
        · replace h := h.1 q3
          refine j_tableIn hE (by decide +kernel : decode cX11_isLetter 1 = .ok (.tableswitch 117 98 122 #[115, 115, 117, 115, 115, 117, 117, 115, 117, 115, 115, 115, 115, 115, 115, 117, 115, 115, 115, 117, 117, 117, 115, 115, 115], 115)) (by rw [q3]; decide) (by rw [q3]; decide) (off := 115) (by rw [q3]; decide) (tgt := 116) (by decide) ?_
          refine j_iconst hE (by decide +kernel : decode cX11_isLetter 116 = .ok (.iconst 1, 1)) (v := (1 : Int32)) (by decide) ?_
          exact j_zret hE (Or.inr rfl) (by decide +kernel : decode cX11_isLetter 117 = .ok (.ireturn, 1)) ⟨_, rfl, h⟩
        · replace h := h.2 q3
          by_cases q4 : p0 = (105 : Int32)
          · replace h := h.1 q4
            refine j_tableIn hE (by decide +kernel : decode cX11_isLetter 1 = .ok (.tableswitch 117 98 122 #[115, 115, 117, 115, 115, 117, 117, 115, 117, 115, 115, 115, 115, 115, 115, 117, 115, 115, 115, 117, 117, 117, 115, 115, 115], 115)) (by rw [q4]; decide) (by rw [q4]; decide) (off := 115) (by rw [q4]; decide) (tgt := 116) (by decide) ?_
            refine j_iconst hE (by decide +kernel : decode cX11_isLetter 116 = .ok (.iconst 1, 1)) (v := (1 : Int32)) (by decide) ?_
            exact j_zret hE (Or.inr rfl) (by decide +kernel : decode cX11_isLetter 117 = .ok (.ireturn, 1)) ⟨_, rfl, h⟩
          · replace h := h.2 q4
            by_cases q5 : p0 = (107 : Int32)
            · replace h := h.1 q5
              refine j_tableIn hE (by decide +kernel : decode cX11_isLetter 1 = .ok (.tableswitch 117 98 122 #[115, 115, 117, 115, 115, 117, 117, 115, 117, 115, 115, 115, 115, 115, 115, 117, 115, 115, 115, 117, 117, 117, 115, 115, 115], 115)) (by rw [q5]; decide) (by rw [q5]; decide) (off := 115) (by rw [q5]; decide) (tgt := 116) (by decide) ?_
              refine j_iconst hE (by decide +kernel : decode cX11_isLetter 116 = .ok (.iconst 1, 1)) (v := (1 : Int32)) (by decide) ?_
              exact j_zret hE (Or.inr rfl) (by decide +kernel : decode cX11_isLetter 117 = .ok (.ireturn, 1)) ⟨_, rfl, h⟩
            · replace h := h.2 q5
              by_cases q6 : p0 = (108 : Int32)
              · replace h := h.1 q6
                refine j_tableIn hE (by decide +kernel : decode cX11_isLetter 1 = .ok (.tableswitch 117 98 122 #[115, 115, 117, 115, 115, 117, 117, 115, 117, 115, 115, 115, 115, 115, 115, 117, 115, 115, 115, 117, 117, 117, 115, 115, 115], 115)) (by rw [q6]; decide) (by rw [q6]; decide) (off := 115) (by rw [q6]; decide) (tgt := 116) (by decide) ?_
                refine j_iconst hE (by decide +kernel : decode cX11_isLetter 116 = .ok (.iconst 1, 1)) (v := (1 : Int32)) (by decide) ?_
                exact j_zret hE (Or.inr rfl) (by decide +kernel : decode cX11_isLetter 117 = .ok (.ireturn, 1)) ⟨_, rfl, h⟩
              · replace h := h.2 q6
                by_cases q7 : p0 = (109 : Int32)
                · replace h := h.1 q7
                  refine j_tableIn hE (by decide +kernel : decode cX11_isLetter 1 = .ok (.tableswitch 117 98 122 #[115, 115, 117, 115, 115, 117, 117, 115, 117, 115, 115, 115, 115, 115, 115, 117, 115, 115, 115, 117, 117, 117, 115, 115, 115], 115)) (by rw [q7]; decide) (by rw [q7]; decide) (off := 115) (by rw [q7]; decide) (tgt := 116) (by decide) ?_
                  refine j_iconst hE (by decide +kernel : decode cX11_isLetter 116 = .ok (.iconst 1, 1)) (v := (1 : Int32)) (by decide) ?_
                  exact j_zret hE (Or.inr rfl) (by decide +kernel : decode cX11_isLetter 117 = .ok (.ireturn, 1)) ⟨_, rfl, h⟩
                · replace h := h.2 q7
                  by_cases q8 : p0 = (110 : Int32)
                  · replace h := h.1 q8
                    refine j_tableIn hE (by decide +kernel : decode cX11_isLetter 1 = .ok (.tableswitch 117 98 122 #[115, 115, 117, 115, 115, 117, 117, 115, 117, 115, 115, 115, 115, 115, 115, 117, 115, 115, 115, 117, 117, 117, 115, 115, 115], 115)) (by rw [q8]; decide) (by rw [q8]; decide) (off := 115) (by rw [q8]; decide) (tgt := 116) (by decide) ?_
                    refine j_iconst hE (by decide +kernel : decode cX11_isLetter 116 = .ok (.iconst 1, 1)) (v := (1 : Int32)) (by decide) ?_
                    exact j_zret hE (Or.inr rfl) (by decide +kernel : decode cX11_isLetter 117 = .ok (.ireturn, 1)) ⟨_, rfl, h⟩
                  · replace h := h.2 q8
                    by_cases q9 : p0 = (111 : Int32)
                    · replace h := h.1 q9
                      refine j_tableIn hE (by decide +kernel : decode cX11_isLetter 1 = .ok (.tableswitch 117 98 122 #[115, 115, 117, 115, 115, 117, 117, 115, 117, 115, 115, 115, 115, 115, 115, 117, 115, 115, 115, 117, 117, 117, 115, 115, 115], 115)) (by rw [q9]; decide) (by rw [q9]; decide) (off := 115) (by rw [q9]; decide) (tgt := 116) (by decide) ?_
                      refine j_iconst hE (by decide +kernel : decode cX11_isLetter 116 = .ok (.iconst 1, 1)) (v := (1 : Int32)) (by decide) ?_
                      exact j_zret hE (Or.inr rfl) (by decide +kernel : decode cX11_isLetter 117 = .ok (.ireturn, 1)) ⟨_, rfl, h⟩
                    · replace h := h.2 q9
                      by_cases q10 : p0 = (112 : Int32)
                      · replace h := h.1 q10
                        refine j_tableIn hE (by decide +kernel : decode cX11_isLetter 1 = .ok (.tableswitch 117 98 122 #[115, 115, 117, 115, 115, 117, 117, 115, 117, 115, 115, 115, 115, 115, 115, 117, 115, 115, 115, 117, 117, 117, 115, 115, 115], 115)) (by rw [q10]; decide) (by rw [q10]; decide) (off := 115) (by rw [q10]; decide) (tgt := 116) (by decide) ?_
                        refine j_iconst hE (by decide +kernel : decode cX11_isLetter 116 = .ok (.iconst 1, 1)) (v := (1 : Int32)) (by decide) ?_
                        exact j_zret hE (Or.inr rfl) (by decide +kernel : decode cX11_isLetter 117 = .ok (.ireturn, 1)) ⟨_, rfl, h⟩
                      · replace h := h.2 q10
                        by_cases q11 : p0 = (114 : Int32)
                        · replace h := h.1 q11
                          refine j_tableIn hE (by decide +kernel : decode cX11_isLetter 1 = .ok (.tableswitch 117 98 122 #[115, 115, 117, 115, 115, 117, 117, 115, 117, 115, 115, 115, 115, 115, 115, 117, 115, 115, 115, 117, 117, 117, 115, 115, 115], 115)) (by rw [q11]; decide) (by rw [q11]; decide) (off := 115) (by rw [q11]; decide) (tgt := 116) (by decide) ?_
                          refine j_iconst hE (by decide +kernel : decode cX11_isLetter 116 = .ok (.iconst 1, 1)) (v := (1 : Int32)) (by decide) ?_
                          exact j_zret hE (Or.inr rfl) (by decide +kernel : decode cX11_isLetter 117 = .ok (.ireturn, 1)) ⟨_, rfl, h⟩
                        · replace h := h.2 q11
                          by_cases q12 : p0 = (115 : Int32)
                          · replace h := h.1 q12
                            refine j_tableIn hE (by decide +kernel : decode cX11_isLetter 1 = .ok (.tableswitch 117 98 122 #[115, 115, 117, 115, 115, 117, 117, 115, 117, 115, 115, 115, 115, 115, 115, 117, 115, 115, 115, 117, 117, 117, 115, 115, 115], 115)) (by rw [q12]; decide) (by rw [q12]; decide) (off := 115) (by rw [q12]; decide) (tgt := 116) (by decide) ?_
                            refine j_iconst hE (by decide +kernel : decode cX11_isLetter 116 = .ok (.iconst 1, 1)) (v := (1 : Int32)) (by decide) ?_
                            exact j_zret hE (Or.inr rfl) (by decide +kernel : decode cX11_isLetter 117 = .ok (.ireturn, 1)) ⟨_, rfl, h⟩
                          · replace h := h.2 q12
                            by_cases q13 : p0 = (116 : Int32)
                            · replace h := h.1 q13
                              refine j_tableIn hE (by decide +kernel : decode cX11_isLetter 1 = .ok (.tableswitch 117 98 122 #[115, 115, 117, 115, 115, 117, 117, 115, 117, 115, 115, 115, 115, 115, 115, 117, 115, 115, 115, 117, 117, 117, 115, 115, 115], 115)) (by rw [q13]; decide) (by rw [q13]; decide) (off := 115) (by rw [q13]; decide) (tgt := 116) (by decide) ?_
                              refine j_iconst hE (by decide +kernel : decode cX11_isLetter 116 = .ok (.iconst 1, 1)) (v := (1 : Int32)) (by decide) ?_
                              exact j_zret hE (Or.inr rfl) (by decide +kernel : decode cX11_isLetter 117 = .ok (.ireturn, 1)) ⟨_, rfl, h⟩
                            · replace h := h.2 q13
                              by_cases q14 : p0 = (120 : Int32)
                              · replace h := h.1 q14
                                refine j_tableIn hE (by decide +kernel : decode cX11_isLetter 1 = .ok (.tableswitch 117 98 122 #[115, 115, 117, 115, 115, 117, 117, 115, 117, 115, 115, 115, 115, 115, 115, 117, 115, 115, 115, 117, 117, 117, 115, 115, 115], 115)) (by rw [q14]; decide) (by rw [q14]; decide) (off := 115) (by rw [q14]; decide) (tgt := 116) (by decide) ?_
                                refine j_iconst hE (by decide +kernel : decode cX11_isLetter 116 = .ok (.iconst 1, 1)) (v := (1 : Int32)) (by decide) ?_
                                exact j_zret hE (Or.inr rfl) (by decide +kernel : decode cX11_isLetter 117 = .ok (.ireturn, 1)) ⟨_, rfl, h⟩
                              · replace h := h.2 q14
                                by_cases q15 : p0 = (121 : Int32)
                                · replace h := h.1 q15
                                  refine j_tableIn hE (by decide +kernel : decode cX11_isLetter 1 = .ok (.tableswitch 117 98 122 #[115, 115, 117, 115, 115, 117, 117, 115, 117, 115, 115, 115, 115, 115, 115, 117, 115, 115, 115, 117, 117, 117, 115, 115, 115], 115)) (by rw [q15]; decide) (by rw [q15]; decide) (off := 115) (by rw [q15]; decide) (tgt := 116) (by decide) ?_
                                  refine j_iconst hE (by decide +kernel : decode cX11_isLetter 116 = .ok (.iconst 1, 1)) (v := (1 : Int32)) (by decide) ?_
                                  exact j_zret hE (Or.inr rfl) (by decide +kernel : decode cX11_isLetter 117 = .ok (.ireturn, 1)) ⟨_, rfl, h⟩
                                · replace h := h.2 q15
                                  by_cases q16 : p0 = (122 : Int32)
                                  · replace h := h.1 q16
                                    refine j_tableIn hE (by decide +kernel : decode cX11_isLetter 1 = .ok (.tableswitch 117 98 122 #[115, 115, 117, 115, 115, 117, 117, 115, 117, 115, 115, 115, 115, 115, 115, 117, 115, 115, 115, 117, 117, 117, 115, 115, 115], 115)) (by rw [q16]; decide) (by rw [q16]; decide) (off := 115) (by rw [q16]; decide) (tgt := 116) (by decide) ?_
                                    refine j_iconst hE (by decide +kernel : decode cX11_isLetter 116 = .ok (.iconst 1, 1)) (v := (1 : Int32)) (by decide) ?_
                                    exact j_zret hE (Or.inr rfl) (by decide +kernel : decode cX11_isLetter 117 = .ok (.ireturn, 1)) ⟨_, rfl, h⟩
                                  · replace h := h.2 q16
                                    have hD : JW Γ E 118 [some (.int p0)] [] g := by
                                      refine j_iconst hE (by decide +kernel : decode cX11_isLetter 118 = .ok (.iconst 0, 1)) (v := (0 : Int32)) (by decide) ?_
                                      exact j_zret hE (Or.inl rfl) (by decide +kernel : decode cX11_isLetter 119 = .ok (.ireturn, 1)) ⟨_, rfl, h⟩
                                    by_cases u2 : p0 = (100 : Int32)
                                    · exact j_tableIn hE (by decide +kernel : decode cX11_isLetter 1 = .ok (.tableswitch 117 98 122 #[115, 115, 117, 115, 115, 117, 117, 115, 117, 115, 115, 115, 115, 115, 115, 117, 115, 115, 115, 117, 117, 117, 115, 115, 115], 115)) (by rw [u2]; decide) (by rw [u2]; decide) (off := 117) (by rw [u2]; decide) (tgt := 118) (by decide) hD
                                    by_cases u5 : p0 = (103 : Int32)
                                    · exact j_tableIn hE (by decide +kernel : decode cX11_isLetter 1 = .ok (.tableswitch 117 98 122 #[115, 115, 117, 115, 115, 117, 117, 115, 117, 115, 115, 115, 115, 115, 115, 117, 115, 115, 115, 117, 117, 117, 115, 115, 115], 115)) (by rw [u5]; decide) (by rw [u5]; decide) (off := 117) (by rw [u5]; decide) (tgt := 118) (by decide) hD
                                    by_cases u6 : p0 = (104 : Int32)
                                    · exact j_tableIn hE (by decide +kernel : decode cX11_isLetter 1 = .ok (.tableswitch 117 98 122 #[115, 115, 117, 115, 115, 117, 117, 115, 117, 115, 115, 115, 115, 115, 115, 117, 115, 115, 115, 117, 117, 117, 115, 115, 115], 115)) (by rw [u6]; decide) (by rw [u6]; decide) (off := 117) (by rw [u6]; decide) (tgt := 118) (by decide) hD
                                    by_cases u8 : p0 = (106 : Int32)
                                    · exact j_tableIn hE (by decide +kernel : decode cX11_isLetter 1 = .ok (.tableswitch 117 98 122 #[115, 115, 117, 115, 115, 117, 117, 115, 117, 115, 115, 115, 115, 115, 115, 117, 115, 115, 115, 117, 117, 117, 115, 115, 115], 115)) (by rw [u8]; decide) (by rw [u8]; decide) (off := 117) (by rw [u8]; decide) (tgt := 118) (by decide) hD
                                    by_cases u15 : p0 = (113 : Int32)
                                    · exact j_tableIn hE (by decide +kernel : decode cX11_isLetter 1 = .ok (.tableswitch 117 98 122 #[115, 115, 117, 115, 115, 117, 117, 115, 117, 115, 115, 115, 115, 115, 115, 117, 115, 115, 115, 117, 117, 117, 115, 115, 115], 115)) (by rw [u15]; decide) (by rw [u15]; decide) (off := 117) (by rw [u15]; decide) (tgt := 118) (by decide) hD
                                    by_cases u19 : p0 = (117 : Int32)
                                    · exact j_tableIn hE (by decide +kernel : decode cX11_isLetter 1 = .ok (.tableswitch 117 98 122 #[115, 115, 117, 115, 115, 117, 117, 115, 117, 115, 115, 115, 115, 115, 115, 117, 115, 115, 115, 117, 117, 117, 115, 115, 115], 115)) (by rw [u19]; decide) (by rw [u19]; decide) (off := 117) (by rw [u19]; decide) (tgt := 118) (by decide) hD
                                    by_cases u20 : p0 = (118 : Int32)
                                    · exact j_tableIn hE (by decide +kernel : decode cX11_isLetter 1 = .ok (.tableswitch 117 98 122 #[115, 115, 117, 115, 115, 117, 117, 115, 117, 115, 115, 115, 115, 115, 115, 117, 115, 115, 115, 117, 117, 117, 115, 115, 115], 115)) (by rw [u20]; decide) (by rw [u20]; decide) (off := 117) (by rw [u20]; decide) (tgt := 118) (by decide) hD
                                    by_cases u21 : p0 = (119 : Int32)
                                    · exact j_tableIn hE (by decide +kernel : decode cX11_isLetter 1 = .ok (.tableswitch 117 98 122 #[115, 115, 117, 115, 115, 117, 117, 115, 117, 115, 115, 115, 115, 115, 115, 117, 115, 115, 115, 117, 117, 117, 115, 115, 115], 115)) (by rw [u21]; decide) (by rw [u21]; decide) (off := 117) (by rw [u21]; decide) (tgt := 118) (by decide) hD
                                    have qq : (p0).toInt < 98 ∨ 122 < (p0).toInt := by
                                      have z0 : ¬ (p0).toInt = 98 := fun e => q0 (Int32.toInt_inj.mp (e.trans (by decide)))
                                      have z1 : ¬ (p0).toInt = 99 := fun e => q1 (Int32.toInt_inj.mp (e.trans (by decide)))
                                      have z3 : ¬ (p0).toInt = 101 := fun e => q2 (Int32.toInt_inj.mp (e.trans (by decide)))
                                      have z4 : ¬ (p0).toInt = 102 := fun e => q3 (Int32.toInt_inj.mp (e.trans (by decide)))
                                      have z7 : ¬ (p0).toInt = 105 := fun e => q4 (Int32.toInt_inj.mp (e.trans (by decide)))
                                      have z9 : ¬ (p0).toInt = 107 := fun e => q5 (Int32.toInt_inj.mp (e.trans (by decide)))
                                      have z10 : ¬ (p0).toInt = 108 := fun e => q6 (Int32.toInt_inj.mp (e.trans (by decide)))
                                      have z11 : ¬ (p0).toInt = 109 := fun e => q7 (Int32.toInt_inj.mp (e.trans (by decide)))
                                      have z12 : ¬ (p0).toInt = 110 := fun e => q8 (Int32.toInt_inj.mp (e.trans (by decide)))
                                      have z13 : ¬ (p0).toInt = 111 := fun e => q9 (Int32.toInt_inj.mp (e.trans (by decide)))
                                      have z14 : ¬ (p0).toInt = 112 := fun e => q10 (Int32.toInt_inj.mp (e.trans (by decide)))
                                      have z16 : ¬ (p0).toInt = 114 := fun e => q11 (Int32.toInt_inj.mp (e.trans (by decide)))
                                      have z17 : ¬ (p0).toInt = 115 := fun e => q12 (Int32.toInt_inj.mp (e.trans (by decide)))
                                      have z18 : ¬ (p0).toInt = 116 := fun e => q13 (Int32.toInt_inj.mp (e.trans (by decide)))
                                      have z22 : ¬ (p0).toInt = 120 := fun e => q14 (Int32.toInt_inj.mp (e.trans (by decide)))
                                      have z23 : ¬ (p0).toInt = 121 := fun e => q15 (Int32.toInt_inj.mp (e.trans (by decide)))
                                      have z24 : ¬ (p0).toInt = 122 := fun e => q16 (Int32.toInt_inj.mp (e.trans (by decide)))
                                      have z2 : ¬ (p0).toInt = 100 := fun e => u2 (Int32.toInt_inj.mp (e.trans (by decide)))
                                      have z5 : ¬ (p0).toInt = 103 := fun e => u5 (Int32.toInt_inj.mp (e.trans (by decide)))
                                      have z6 : ¬ (p0).toInt = 104 := fun e => u6 (Int32.toInt_inj.mp (e.trans (by decide)))
                                      have z8 : ¬ (p0).toInt = 106 := fun e => u8 (Int32.toInt_inj.mp (e.trans (by decide)))
                                      have z15 : ¬ (p0).toInt = 113 := fun e => u15 (Int32.toInt_inj.mp (e.trans (by decide)))
                                      have z19 : ¬ (p0).toInt = 117 := fun e => u19 (Int32.toInt_inj.mp (e.trans (by decide)))
                                      have z20 : ¬ (p0).toInt = 118 := fun e => u20 (Int32.toInt_inj.mp (e.trans (by decide)))
                                      have z21 : ¬ (p0).toInt = 119 := fun e => u21 (Int32.toInt_inj.mp (e.trans (by decide)))
                                      omega
                                    exact j_tableOut hE (by decide +kernel : decode cX11_isLetter 1 = .ok (.tableswitch 117 98 122 #[115, 115, 117, 115, 115, 117, 117, 115, 117, 115, 115, 115, 115, 115, 115, 117, 115, 115, 115, 117, 117, 117, 115, 115, 115], 115)) qq (tgt := 118) (by decide) hD
set_option maxHeartbeats 4000000 in
set_option maxRecDepth 100000 in
theorem rl_M_isLetter {Γ : GAM} {l : Launch} {p0 : Int32} {g : GH} {K : Int32 → GH → Prop} (h0 : B_M_isLetter_0 Γ K p0 g) : MetA Γ l yX11_isLetter cX11_isLetter 1 (some (.boolean)) 0 0 [.int p0] g (fun r g' => ∃ x, r = some (.int x) ∧ K x g') := by
  refine MetA.introL (Lx := [some (.int p0)]) (by decide) (Nat.le_of_ble_eq_true rfl) rfl rfl ?_
  intro E hEl hE hnm
  exact S_M_isLetter_0 hE p0 g h0
theorem mt_M_isLetter {Γ : GAM} {l : Launch} (p0 : Int32) (g : GH) (K : Int32 → GH → Prop) (h : Sp_M_isLetter Γ p0 g K) : MetA Γ l yX11_isLetter cX11_isLetter 1 (some (.boolean)) 0 0 [.int p0] g (fun r g' => ∃ x, r = some (.int x) ∧ K x g') := by
  unfold Sp_M_isLetter at h
  have hno : ¬ okLt p0 → K 0 g := fun z => by rw [if_neg z] at h; exact h
  have hyes : okLt p0 → K 1 g := fun z => by rw [if_pos z] at h; exact h
  refine rl_M_isLetter ?_
  unfold B_M_isLetter_0
  repeat' with_reducible first | apply And.intro | intro _
  all_goals first | exact hno (by grind) | exact hyes (by grind)
def Sp_M_thrown (Γ : GAM) (m : Nat) (g : GH) (K : Int32 → GH → Prop) : Prop := Kd g m = 13 ∧ K (Gi g 1603 m) g
-- the walk of M_thrown
set_option maxRecDepth 100000 in
def B_M_thrown_0 (Γ : GAM) (K : Int32 → GH → Prop) (th : Nat) (g : GH) : Prop :=
  Kd g th = 13 ∧ K (Gi g 1603 th) g
set_option maxHeartbeats 4000000 in
set_option maxRecDepth 100000 in
theorem S_M_thrown_0 {Γ : GAM} {E : EV} {K : Int32 → GH → Prop} (hE : GE Γ E cX11_thrown 1 RX11 (some (.int)) 0 0 (fun r g' => ∃ x, r = some (.int x) ∧ K x g')) (th : Nat) (g : GH) (h : B_M_thrown_0 Γ K th g) : JW Γ E 0 [some (.ref th)] [] g := by
  unfold B_M_thrown_0 at h
  refine j_aload_n hE (by decide +kernel : decode cX11_thrown 0 = .ok (.aload_n 0, 1)) rfl rfl ?_
  obtain ⟨hk, h⟩ := h
  refine j_getI hE fg_X11_425 hk (by decide +kernel : decode cX11_thrown 1 = .ok (.getfield 425, 3)) ?_
  exact j_iret hE (by decide +kernel : decode cX11_thrown 4 = .ok (.ireturn, 1)) ⟨_, rfl, h⟩
set_option maxHeartbeats 4000000 in
set_option maxRecDepth 100000 in
theorem rl_M_thrown {Γ : GAM} {l : Launch} {th : Nat} {g : GH} {K : Int32 → GH → Prop} (h0 : B_M_thrown_0 Γ K th g) : MetA Γ l yX11_thrown cX11_thrown 1 (some (.int)) 0 0 [.ref th] g (fun r g' => ∃ x, r = some (.int x) ∧ K x g') := by
  refine MetA.introL (Lx := [some (.ref th)]) (by decide) (Nat.le_of_ble_eq_true rfl) rfl rfl ?_
  intro E hEl hE hnm
  exact S_M_thrown_0 hE th g h0
theorem mt_M_thrown {Γ : GAM} {l : Launch} (th : Nat) (g : GH) (K : Int32 → GH → Prop) (h : Sp_M_thrown Γ th g K) : MetA Γ l yX11_thrown cX11_thrown 1 (some (.int)) 0 0 [.ref th] g (fun r g' => ∃ x, r = some (.int x) ∧ K x g') := by
  exact rl_M_thrown h
def sJe (s : ST) (e q : Int32) : JR := sJ s (sEnv s e).1 q e.toNatClampNeg
def p_state (s : ST) (p0 p1 : Int32) : Int32 := if ok_asked s p0 p1 then (sJe s p0 p1).1 else -1
def Sp_M_state (Γ : GAM) (m : Nat) (p0 p1 : Int32) (g : GH) (K : Int32 → GH → Prop) : Prop := ∃ ma s, RefI m ma g s ∧ WF s ∧ ∀ g', FrX m [1569, 1570, 1595, 1602] [1594, 1596, 1597, 1598, 1599, 1600, 1601] g g' → K (p_state s p0 p1) g'
-- the walk of M_state
set_option maxRecDepth 100000 in
def B_M_state_0 (Γ : GAM) (K : Int32 → GH → Prop) (th : Nat) (p0 : Int32) (p1 : Int32) (g : GH) : Prop :=
  Kd g th = 13 ∧ Sp_M_isAsked Γ th p0 p1 g (fun (x2 : Int32) (g1 : GH) => ((¬ (x2 = 0) → Kd g1 th = 13 ∧ ∃ a3 : Nat, Gr g1 1556 th = some a3 ∧ Kd g1 a3 = 20 ∧ inB p0 (Ln g1 a3) ∧ Kd g1 th = 13 ∧ Sp_M_judge Γ th (Ia g1 (Co g1 a3) (Ow g1 a3) p0.toNatClampNeg) p1 g1 (fun (g4 : GH) => Kd g4 th = 13 ∧ ∃ a5 : Nat, Gr g4 1596 th = some a5 ∧ Kd g4 a5 = 20 ∧ inB p0 (Ln g4 a5) ∧ K (Ia g4 (Co g4 a5) (Ow g4 a5) p0.toNatClampNeg) g4)) ∧ (x2 = 0 → K (-1 : Int32) g1)))
set_option maxHeartbeats 4000000 in
set_option maxRecDepth 100000 in
theorem S_M_state_0 {Γ : GAM} {E : EV} {K : Int32 → GH → Prop} (hE : GE Γ E cX11_state 3 RX11 (some (.int)) 8 203 (fun r g' => ∃ x, r = some (.int x) ∧ K x g')) (th : Nat) (p0 : Int32) (p1 : Int32) (g : GH) (h : B_M_state_0 Γ K th p0 p1 g) : JW Γ E 0 [some (.ref th), some (.int p0), some (.int p1)] [] g := by
  unfold B_M_state_0 at h
  refine j_aload_n hE (by decide +kernel : decode cX11_state 0 = .ok (.aload_n 0, 1)) rfl rfl ?_
  refine j_iload_n hE (by decide +kernel : decode cX11_state 1 = .ok (.iload_n 1, 1)) rfl rfl ?_
  refine j_iload_n hE (by decide +kernel : decode cX11_state 2 = .ok (.iload_n 2, 1)) rfl rfl ?_
  obtain ⟨hk, h⟩ := h
  refine j_callV hE rfl cl_X11_428 cf_12 im_X11_isAsked se_X11_isAsked ⟨by omega, by omega⟩ (As := [.int p0, .int p1]) (rest := []) rfl rfl (Nat.le_of_ble_eq_true rfl) hk (by decide +kernel : decode cX11_state 3 = .ok (.invokevirtual 428, 3)) (mt_M_isAsked _ _ _ _ _ h) ?_
  rintro _ g1 ⟨x2, rfl, h⟩
  refine j_if_ne hE (by decide +kernel : decode cX11_state 6 = .ok (.ifCond .ne 5, 3)) (tgt := 11) (by decide) (fun q => ?_) (fun q => ?_)
  · replace h := h.1 q
    refine j_aload_n hE (by decide +kernel : decode cX11_state 11 = .ok (.aload_n 0, 1)) rfl rfl ?_
    refine j_aload_n hE (by decide +kernel : decode cX11_state 12 = .ok (.aload_n 0, 1)) rfl rfl ?_
    obtain ⟨hk, h⟩ := h
    obtain ⟨a3, ha, h⟩ := h
    refine j_getRn hE fg_X11_35 hk ha (by decide +kernel : decode cX11_state 13 = .ok (.getfield 35, 3)) ?_
    refine j_iload_n hE (by decide +kernel : decode cX11_state 16 = .ok (.iload_n 1, 1)) rfl rfl ?_
    obtain ⟨hk, hb, h⟩ := h
    refine j_iald hE hk hb (by decide +kernel : decode cX11_state 17 = .ok (.iaload, 1)) ?_
    refine j_iload_n hE (by decide +kernel : decode cX11_state 18 = .ok (.iload_n 2, 1)) rfl rfl ?_
    obtain ⟨hk, h⟩ := h
    refine j_callV hE rfl cl_X11_431 cf_12 im_X11_judge se_X11_judge ⟨by omega, by omega⟩ (As := [.int (Ia g1 (Co g1 a3) (Ow g1 a3) p0.toNatClampNeg), .int p1]) (rest := []) rfl rfl (Nat.le_of_ble_eq_true rfl) hk (by decide +kernel : decode cX11_state 19 = .ok (.invokevirtual 431, 3)) (mt_M_judge _ _ _ _ _ h) ?_
    rintro _ g4 ⟨rfl, h⟩
    refine j_aload_n hE (by decide +kernel : decode cX11_state 22 = .ok (.aload_n 0, 1)) rfl rfl ?_
    obtain ⟨hk, h⟩ := h
    obtain ⟨a5, ha, h⟩ := h
    refine j_getRn hE fg_X11_129 hk ha (by decide +kernel : decode cX11_state 23 = .ok (.getfield 129, 3)) ?_
    refine j_iload_n hE (by decide +kernel : decode cX11_state 26 = .ok (.iload_n 1, 1)) rfl rfl ?_
    obtain ⟨hk, hb, h⟩ := h
    refine j_iald hE hk hb (by decide +kernel : decode cX11_state 27 = .ok (.iaload, 1)) ?_
    exact j_iret hE (by decide +kernel : decode cX11_state 28 = .ok (.ireturn, 1)) ⟨_, rfl, h⟩
  · replace h := h.2 q
    refine j_iconst hE (by decide +kernel : decode cX11_state 9 = .ok (.iconst (-1), 1)) (v := (-1 : Int32)) (by decide) ?_
    exact j_iret hE (by decide +kernel : decode cX11_state 10 = .ok (.ireturn, 1)) ⟨_, rfl, h⟩
set_option maxHeartbeats 4000000 in
set_option maxRecDepth 100000 in
theorem rl_M_state {Γ : GAM} {l : Launch} {th : Nat} {p0 : Int32} {p1 : Int32} {g : GH} {K : Int32 → GH → Prop} (h0 : B_M_state_0 Γ K th p0 p1 g) : MetA Γ l yX11_state cX11_state 3 (some (.int)) 8 203 [.ref th, .int p0, .int p1] g (fun r g' => ∃ x, r = some (.int x) ∧ K x g') := by
  refine MetA.introL (Lx := [some (.ref th), some (.int p0), some (.int p1)]) (by decide) (Nat.le_of_ble_eq_true rfl) rfl rfl ?_
  intro E hEl hE hnm
  exact S_M_state_0 hE th p0 p1 g h0
theorem mt_M_state {Γ : GAM} {l : Launch} (th : Nat) (p0 : Int32) (p1 : Int32) (g : GH) (K : Int32 → GH → Prop) (h : Sp_M_state Γ th p0 p1 g K) : MetA Γ l yX11_state cX11_state 3 (some (.int)) 8 203 [.ref th, .int p0, .int p1] g (fun r g' => ∃ x, r = some (.int x) ∧ K x g') := by
  obtain ⟨ma, s, hI, hw, hK⟩ := h
  obtain ⟨hkd, hS⟩ := hI.1
  obtain ⟨w1, w2, w3⟩ := hI.env
  obtain ⟨z_voterOf1, z_voterOf2, z_voterOf3, z_voterOf4, z_voterOf5⟩ := hS 1556 20 200 rfl
  refine rl_M_state ?_
  unfold B_M_state_0
  refine ⟨hkd, ma, s, hI, hw, ?_⟩
  by_cases hok : ok_asked s p0 p1
  · rw [if_pos hok]
    have heo := asked_ok hw hok
    have hil := asked_in hw hok
    obtain ⟨x, hx, hex⟩ := eOk_get heo
    have hb : inB p0 200 := ⟨heo.1, by have := heo.2; omega⟩
    rw [← hex] at hx
    refine ⟨fun _ => ?_, fun z => absurd z (by decide)⟩
    simp only [hkd, hb, (w3 _ _ hx).1, z_voterOf1, z_voterOf2, z_voterOf3, z_voterOf4, z_voterOf5, Option.some.injEq, exists_eq_left', true_and]
    refine ⟨ma, s, hI, hw, fun g2 hx2 hJ => ?_⟩
    have hI2 := hI.x hx2 (by decide +kernel)
    obtain ⟨hkd2, hS2⟩ := hI2.1
    obtain ⟨z_states1, z_states2, z_states3, z_states4, z_states5⟩ := hS2 1596 20 200 rfl
    have hv := hJ.2.2 _ hil
    have hK2 := hK g2 hx2
    unfold p_state at hK2
    rw [if_pos hok] at hK2
    refine ⟨hkd2, _, z_states1, z_states2, by rw [z_states5]; exact hb, ?_⟩
    rw [z_states3, z_states4, hv.2.1]
    exact hK2
  · rw [if_neg hok]
    refine ⟨fun z => absurd rfl z, fun _ => ?_⟩
    have hK2 := hK g FrX.rf
    unfold p_state at hK2
    rw [if_neg hok] at hK2
    exact hK2
def p_reason (s : ST) (p0 p1 : Int32) : Int32 := if ok_asked s p0 p1 then (sJe s p0 p1).2.1 else -1
def Sp_M_reason (Γ : GAM) (m : Nat) (p0 p1 : Int32) (g : GH) (K : Int32 → GH → Prop) : Prop := ∃ ma s, RefI m ma g s ∧ WF s ∧ ∀ g', FrX m [1569, 1570, 1595, 1602] [1594, 1596, 1597, 1598, 1599, 1600, 1601] g g' → K (p_reason s p0 p1) g'
-- the walk of M_reason
set_option maxRecDepth 100000 in
def B_M_reason_0 (Γ : GAM) (K : Int32 → GH → Prop) (th : Nat) (p0 : Int32) (p1 : Int32) (g : GH) : Prop :=
  Kd g th = 13 ∧ Sp_M_isAsked Γ th p0 p1 g (fun (x2 : Int32) (g1 : GH) => ((¬ (x2 = 0) → Kd g1 th = 13 ∧ ∃ a3 : Nat, Gr g1 1556 th = some a3 ∧ Kd g1 a3 = 20 ∧ inB p0 (Ln g1 a3) ∧ Kd g1 th = 13 ∧ Sp_M_judge Γ th (Ia g1 (Co g1 a3) (Ow g1 a3) p0.toNatClampNeg) p1 g1 (fun (g4 : GH) => Kd g4 th = 13 ∧ ∃ a5 : Nat, Gr g4 1597 th = some a5 ∧ Kd g4 a5 = 20 ∧ inB p0 (Ln g4 a5) ∧ K (Ia g4 (Co g4 a5) (Ow g4 a5) p0.toNatClampNeg) g4)) ∧ (x2 = 0 → K (-1 : Int32) g1)))
set_option maxHeartbeats 4000000 in
set_option maxRecDepth 100000 in
theorem S_M_reason_0 {Γ : GAM} {E : EV} {K : Int32 → GH → Prop} (hE : GE Γ E cX11_reason 3 RX11 (some (.int)) 8 203 (fun r g' => ∃ x, r = some (.int x) ∧ K x g')) (th : Nat) (p0 : Int32) (p1 : Int32) (g : GH) (h : B_M_reason_0 Γ K th p0 p1 g) : JW Γ E 0 [some (.ref th), some (.int p0), some (.int p1)] [] g := by
  unfold B_M_reason_0 at h
  refine j_aload_n hE (by decide +kernel : decode cX11_reason 0 = .ok (.aload_n 0, 1)) rfl rfl ?_
  refine j_iload_n hE (by decide +kernel : decode cX11_reason 1 = .ok (.iload_n 1, 1)) rfl rfl ?_
  refine j_iload_n hE (by decide +kernel : decode cX11_reason 2 = .ok (.iload_n 2, 1)) rfl rfl ?_
  obtain ⟨hk, h⟩ := h
  refine j_callV hE rfl cl_X11_428 cf_12 im_X11_isAsked se_X11_isAsked ⟨by omega, by omega⟩ (As := [.int p0, .int p1]) (rest := []) rfl rfl (Nat.le_of_ble_eq_true rfl) hk (by decide +kernel : decode cX11_reason 3 = .ok (.invokevirtual 428, 3)) (mt_M_isAsked _ _ _ _ _ h) ?_
  rintro _ g1 ⟨x2, rfl, h⟩
  refine j_if_ne hE (by decide +kernel : decode cX11_reason 6 = .ok (.ifCond .ne 5, 3)) (tgt := 11) (by decide) (fun q => ?_) (fun q => ?_)
  · replace h := h.1 q
    refine j_aload_n hE (by decide +kernel : decode cX11_reason 11 = .ok (.aload_n 0, 1)) rfl rfl ?_
    refine j_aload_n hE (by decide +kernel : decode cX11_reason 12 = .ok (.aload_n 0, 1)) rfl rfl ?_
    obtain ⟨hk, h⟩ := h
    obtain ⟨a3, ha, h⟩ := h
    refine j_getRn hE fg_X11_35 hk ha (by decide +kernel : decode cX11_reason 13 = .ok (.getfield 35, 3)) ?_
    refine j_iload_n hE (by decide +kernel : decode cX11_reason 16 = .ok (.iload_n 1, 1)) rfl rfl ?_
    obtain ⟨hk, hb, h⟩ := h
    refine j_iald hE hk hb (by decide +kernel : decode cX11_reason 17 = .ok (.iaload, 1)) ?_
    refine j_iload_n hE (by decide +kernel : decode cX11_reason 18 = .ok (.iload_n 2, 1)) rfl rfl ?_
    obtain ⟨hk, h⟩ := h
    refine j_callV hE rfl cl_X11_431 cf_12 im_X11_judge se_X11_judge ⟨by omega, by omega⟩ (As := [.int (Ia g1 (Co g1 a3) (Ow g1 a3) p0.toNatClampNeg), .int p1]) (rest := []) rfl rfl (Nat.le_of_ble_eq_true rfl) hk (by decide +kernel : decode cX11_reason 19 = .ok (.invokevirtual 431, 3)) (mt_M_judge _ _ _ _ _ h) ?_
    rintro _ g4 ⟨rfl, h⟩
    refine j_aload_n hE (by decide +kernel : decode cX11_reason 22 = .ok (.aload_n 0, 1)) rfl rfl ?_
    obtain ⟨hk, h⟩ := h
    obtain ⟨a5, ha, h⟩ := h
    refine j_getRn hE fg_X11_132 hk ha (by decide +kernel : decode cX11_reason 23 = .ok (.getfield 132, 3)) ?_
    refine j_iload_n hE (by decide +kernel : decode cX11_reason 26 = .ok (.iload_n 1, 1)) rfl rfl ?_
    obtain ⟨hk, hb, h⟩ := h
    refine j_iald hE hk hb (by decide +kernel : decode cX11_reason 27 = .ok (.iaload, 1)) ?_
    exact j_iret hE (by decide +kernel : decode cX11_reason 28 = .ok (.ireturn, 1)) ⟨_, rfl, h⟩
  · replace h := h.2 q
    refine j_iconst hE (by decide +kernel : decode cX11_reason 9 = .ok (.iconst (-1), 1)) (v := (-1 : Int32)) (by decide) ?_
    exact j_iret hE (by decide +kernel : decode cX11_reason 10 = .ok (.ireturn, 1)) ⟨_, rfl, h⟩
set_option maxHeartbeats 4000000 in
set_option maxRecDepth 100000 in
theorem rl_M_reason {Γ : GAM} {l : Launch} {th : Nat} {p0 : Int32} {p1 : Int32} {g : GH} {K : Int32 → GH → Prop} (h0 : B_M_reason_0 Γ K th p0 p1 g) : MetA Γ l yX11_reason cX11_reason 3 (some (.int)) 8 203 [.ref th, .int p0, .int p1] g (fun r g' => ∃ x, r = some (.int x) ∧ K x g') := by
  refine MetA.introL (Lx := [some (.ref th), some (.int p0), some (.int p1)]) (by decide) (Nat.le_of_ble_eq_true rfl) rfl rfl ?_
  intro E hEl hE hnm
  exact S_M_reason_0 hE th p0 p1 g h0
theorem mt_M_reason {Γ : GAM} {l : Launch} (th : Nat) (p0 : Int32) (p1 : Int32) (g : GH) (K : Int32 → GH → Prop) (h : Sp_M_reason Γ th p0 p1 g K) : MetA Γ l yX11_reason cX11_reason 3 (some (.int)) 8 203 [.ref th, .int p0, .int p1] g (fun r g' => ∃ x, r = some (.int x) ∧ K x g') := by
  obtain ⟨ma, s, hI, hw, hK⟩ := h
  obtain ⟨hkd, hS⟩ := hI.1
  obtain ⟨w1, w2, w3⟩ := hI.env
  obtain ⟨z_voterOf1, z_voterOf2, z_voterOf3, z_voterOf4, z_voterOf5⟩ := hS 1556 20 200 rfl
  refine rl_M_reason ?_
  unfold B_M_reason_0
  refine ⟨hkd, ma, s, hI, hw, ?_⟩
  by_cases hok : ok_asked s p0 p1
  · rw [if_pos hok]
    have heo := asked_ok hw hok
    have hil := asked_in hw hok
    obtain ⟨x, hx, hex⟩ := eOk_get heo
    have hb : inB p0 200 := ⟨heo.1, by have := heo.2; omega⟩
    rw [← hex] at hx
    refine ⟨fun _ => ?_, fun z => absurd z (by decide)⟩
    simp only [hkd, hb, (w3 _ _ hx).1, z_voterOf1, z_voterOf2, z_voterOf3, z_voterOf4, z_voterOf5, Option.some.injEq, exists_eq_left', true_and]
    refine ⟨ma, s, hI, hw, fun g2 hx2 hJ => ?_⟩
    have hI2 := hI.x hx2 (by decide +kernel)
    obtain ⟨hkd2, hS2⟩ := hI2.1
    obtain ⟨z_reasons1, z_reasons2, z_reasons3, z_reasons4, z_reasons5⟩ := hS2 1597 20 200 rfl
    have hv := hJ.2.2 _ hil
    have hK2 := hK g2 hx2
    unfold p_reason at hK2
    rw [if_pos hok] at hK2
    refine ⟨hkd2, _, z_reasons1, z_reasons2, by rw [z_reasons5]; exact hb, ?_⟩
    rw [z_reasons3, z_reasons4, hv.2.2.1]
    exact hK2
  · rw [if_neg hok]
    refine ⟨fun z => absurd rfl z, fun _ => ?_⟩
    have hK2 := hK g FrX.rf
    unfold p_reason at hK2
    rw [if_neg hok] at hK2
    exact hK2
def p_ruled (s : ST) (p0 p1 : Int32) : Int32 := if ok_asked s p0 p1 then (sJe s p0 p1).2.2.1 else -1
def Sp_M_ruled (Γ : GAM) (m : Nat) (p0 p1 : Int32) (g : GH) (K : Int32 → GH → Prop) : Prop := ∃ ma s, RefI m ma g s ∧ WF s ∧ ∀ g', FrX m [1569, 1570, 1595, 1602] [1594, 1596, 1597, 1598, 1599, 1600, 1601] g g' → K (p_ruled s p0 p1) g'
-- the walk of M_ruled
set_option maxRecDepth 100000 in
def B_M_ruled_0 (Γ : GAM) (K : Int32 → GH → Prop) (th : Nat) (p0 : Int32) (p1 : Int32) (g : GH) : Prop :=
  Kd g th = 13 ∧ Sp_M_isAsked Γ th p0 p1 g (fun (x2 : Int32) (g1 : GH) => ((¬ (x2 = 0) → Kd g1 th = 13 ∧ ∃ a3 : Nat, Gr g1 1556 th = some a3 ∧ Kd g1 a3 = 20 ∧ inB p0 (Ln g1 a3) ∧ Kd g1 th = 13 ∧ Sp_M_judge Γ th (Ia g1 (Co g1 a3) (Ow g1 a3) p0.toNatClampNeg) p1 g1 (fun (g4 : GH) => Kd g4 th = 13 ∧ ∃ a5 : Nat, Gr g4 1598 th = some a5 ∧ Kd g4 a5 = 20 ∧ inB p0 (Ln g4 a5) ∧ K (Ia g4 (Co g4 a5) (Ow g4 a5) p0.toNatClampNeg) g4)) ∧ (x2 = 0 → K (-1 : Int32) g1)))
set_option maxHeartbeats 4000000 in
set_option maxRecDepth 100000 in
theorem S_M_ruled_0 {Γ : GAM} {E : EV} {K : Int32 → GH → Prop} (hE : GE Γ E cX11_ruled 3 RX11 (some (.int)) 8 203 (fun r g' => ∃ x, r = some (.int x) ∧ K x g')) (th : Nat) (p0 : Int32) (p1 : Int32) (g : GH) (h : B_M_ruled_0 Γ K th p0 p1 g) : JW Γ E 0 [some (.ref th), some (.int p0), some (.int p1)] [] g := by
  unfold B_M_ruled_0 at h
  refine j_aload_n hE (by decide +kernel : decode cX11_ruled 0 = .ok (.aload_n 0, 1)) rfl rfl ?_
  refine j_iload_n hE (by decide +kernel : decode cX11_ruled 1 = .ok (.iload_n 1, 1)) rfl rfl ?_
  refine j_iload_n hE (by decide +kernel : decode cX11_ruled 2 = .ok (.iload_n 2, 1)) rfl rfl ?_
  obtain ⟨hk, h⟩ := h
  refine j_callV hE rfl cl_X11_428 cf_12 im_X11_isAsked se_X11_isAsked ⟨by omega, by omega⟩ (As := [.int p0, .int p1]) (rest := []) rfl rfl (Nat.le_of_ble_eq_true rfl) hk (by decide +kernel : decode cX11_ruled 3 = .ok (.invokevirtual 428, 3)) (mt_M_isAsked _ _ _ _ _ h) ?_
  rintro _ g1 ⟨x2, rfl, h⟩
  refine j_if_ne hE (by decide +kernel : decode cX11_ruled 6 = .ok (.ifCond .ne 5, 3)) (tgt := 11) (by decide) (fun q => ?_) (fun q => ?_)
  · replace h := h.1 q
    refine j_aload_n hE (by decide +kernel : decode cX11_ruled 11 = .ok (.aload_n 0, 1)) rfl rfl ?_
    refine j_aload_n hE (by decide +kernel : decode cX11_ruled 12 = .ok (.aload_n 0, 1)) rfl rfl ?_
    obtain ⟨hk, h⟩ := h
    obtain ⟨a3, ha, h⟩ := h
    refine j_getRn hE fg_X11_35 hk ha (by decide +kernel : decode cX11_ruled 13 = .ok (.getfield 35, 3)) ?_
    refine j_iload_n hE (by decide +kernel : decode cX11_ruled 16 = .ok (.iload_n 1, 1)) rfl rfl ?_
    obtain ⟨hk, hb, h⟩ := h
    refine j_iald hE hk hb (by decide +kernel : decode cX11_ruled 17 = .ok (.iaload, 1)) ?_
    refine j_iload_n hE (by decide +kernel : decode cX11_ruled 18 = .ok (.iload_n 2, 1)) rfl rfl ?_
    obtain ⟨hk, h⟩ := h
    refine j_callV hE rfl cl_X11_431 cf_12 im_X11_judge se_X11_judge ⟨by omega, by omega⟩ (As := [.int (Ia g1 (Co g1 a3) (Ow g1 a3) p0.toNatClampNeg), .int p1]) (rest := []) rfl rfl (Nat.le_of_ble_eq_true rfl) hk (by decide +kernel : decode cX11_ruled 19 = .ok (.invokevirtual 431, 3)) (mt_M_judge _ _ _ _ _ h) ?_
    rintro _ g4 ⟨rfl, h⟩
    refine j_aload_n hE (by decide +kernel : decode cX11_ruled 22 = .ok (.aload_n 0, 1)) rfl rfl ?_
    obtain ⟨hk, h⟩ := h
    obtain ⟨a5, ha, h⟩ := h
    refine j_getRn hE fg_X11_135 hk ha (by decide +kernel : decode cX11_ruled 23 = .ok (.getfield 135, 3)) ?_
    refine j_iload_n hE (by decide +kernel : decode cX11_ruled 26 = .ok (.iload_n 1, 1)) rfl rfl ?_
    obtain ⟨hk, hb, h⟩ := h
    refine j_iald hE hk hb (by decide +kernel : decode cX11_ruled 27 = .ok (.iaload, 1)) ?_
    exact j_iret hE (by decide +kernel : decode cX11_ruled 28 = .ok (.ireturn, 1)) ⟨_, rfl, h⟩
  · replace h := h.2 q
    refine j_iconst hE (by decide +kernel : decode cX11_ruled 9 = .ok (.iconst (-1), 1)) (v := (-1 : Int32)) (by decide) ?_
    exact j_iret hE (by decide +kernel : decode cX11_ruled 10 = .ok (.ireturn, 1)) ⟨_, rfl, h⟩
set_option maxHeartbeats 4000000 in
set_option maxRecDepth 100000 in
theorem rl_M_ruled {Γ : GAM} {l : Launch} {th : Nat} {p0 : Int32} {p1 : Int32} {g : GH} {K : Int32 → GH → Prop} (h0 : B_M_ruled_0 Γ K th p0 p1 g) : MetA Γ l yX11_ruled cX11_ruled 3 (some (.int)) 8 203 [.ref th, .int p0, .int p1] g (fun r g' => ∃ x, r = some (.int x) ∧ K x g') := by
  refine MetA.introL (Lx := [some (.ref th), some (.int p0), some (.int p1)]) (by decide) (Nat.le_of_ble_eq_true rfl) rfl rfl ?_
  intro E hEl hE hnm
  exact S_M_ruled_0 hE th p0 p1 g h0
theorem mt_M_ruled {Γ : GAM} {l : Launch} (th : Nat) (p0 : Int32) (p1 : Int32) (g : GH) (K : Int32 → GH → Prop) (h : Sp_M_ruled Γ th p0 p1 g K) : MetA Γ l yX11_ruled cX11_ruled 3 (some (.int)) 8 203 [.ref th, .int p0, .int p1] g (fun r g' => ∃ x, r = some (.int x) ∧ K x g') := by
  obtain ⟨ma, s, hI, hw, hK⟩ := h
  obtain ⟨hkd, hS⟩ := hI.1
  obtain ⟨w1, w2, w3⟩ := hI.env
  obtain ⟨z_voterOf1, z_voterOf2, z_voterOf3, z_voterOf4, z_voterOf5⟩ := hS 1556 20 200 rfl
  refine rl_M_ruled ?_
  unfold B_M_ruled_0
  refine ⟨hkd, ma, s, hI, hw, ?_⟩
  by_cases hok : ok_asked s p0 p1
  · rw [if_pos hok]
    have heo := asked_ok hw hok
    have hil := asked_in hw hok
    obtain ⟨x, hx, hex⟩ := eOk_get heo
    have hb : inB p0 200 := ⟨heo.1, by have := heo.2; omega⟩
    rw [← hex] at hx
    refine ⟨fun _ => ?_, fun z => absurd z (by decide)⟩
    simp only [hkd, hb, (w3 _ _ hx).1, z_voterOf1, z_voterOf2, z_voterOf3, z_voterOf4, z_voterOf5, Option.some.injEq, exists_eq_left', true_and]
    refine ⟨ma, s, hI, hw, fun g2 hx2 hJ => ?_⟩
    have hI2 := hI.x hx2 (by decide +kernel)
    obtain ⟨hkd2, hS2⟩ := hI2.1
    obtain ⟨z_rules1, z_rules2, z_rules3, z_rules4, z_rules5⟩ := hS2 1598 20 200 rfl
    have hv := hJ.2.2 _ hil
    have hK2 := hK g2 hx2
    unfold p_ruled at hK2
    rw [if_pos hok] at hK2
    refine ⟨hkd2, _, z_rules1, z_rules2, by rw [z_rules5]; exact hb, ?_⟩
    rw [z_rules3, z_rules4, hv.2.2.2.1]
    exact hK2
  · rw [if_neg hok]
    refine ⟨fun z => absurd rfl z, fun _ => ?_⟩
    have hK2 := hK g FrX.rf
    unfold p_ruled at hK2
    rw [if_neg hok] at hK2
    exact hK2
abbrev ok_letter (s : ST) (p0 p1 p2 : Int32) : Prop := ok_asked s p0 p2 ∧ okLt p1
def p_letter (s : ST) (p0 p1 p2 : Int32) : Int32 := if ok_letter s p0 p1 p2 then sLet s p0 p1 p2 (sJe s p0 p2).2.2.2 else 0
def Sp_M_letter (Γ : GAM) (m : Nat) (p0 p1 p2 : Int32) (g : GH) (K : Int32 → GH → Prop) : Prop := ∃ ma s, RefI m ma g s ∧ WF s ∧ ∀ g', FrX m [1569, 1570, 1595, 1602, 1603] [1594, 1596, 1597, 1598, 1599, 1600, 1601] g g' → Gi g' 1603 m = (if ok_letter s p0 p1 p2 then 0 else 1) → K (p_letter s p0 p1 p2) g'
-- the walk of M_letter
set_option maxRecDepth 100000 in
def B_M_letter_22 (Γ : GAM) (K : Int32 → GH → Prop) (l0 : Nat) (l1 : Int32) (l2 : Int32) (l3 : Int32) (s0 : Int32) (s1 : Nat) (g : GH) : Prop :=
  Kd g s1 = 13 ∧ ∀ g1 : GH, g1 = sI g 1603 s1 s0 → Kd g1 l0 = 13 ∧ ((¬ ((Gi g1 1603 l0) = (1 : Int32)) → Kd g1 l0 = 13 ∧ ∃ a2 : Nat, Gr g1 1556 l0 = some a2 ∧ Kd g1 a2 = 20 ∧ inB l1 (Ln g1 a2) ∧ Kd g1 l0 = 13 ∧ Sp_M_judge Γ l0 (Ia g1 (Co g1 a2) (Ow g1 a2) l1.toNatClampNeg) l3 g1 (fun (g3 : GH) => Kd g3 l0 = 13 ∧ ∃ a4 : Nat, Gr g3 1599 l0 = some a4 ∧ Kd g3 a4 = 20 ∧ inB l1 (Ln g3 a4) ∧ Kd g3 l0 = 13 ∧ Sp_M_letterOf Γ l0 l1 l2 l3 (Ia g3 (Co g3 a4) (Ow g3 a4) l1.toNatClampNeg) g3 (fun (x6 : Int32) (g5 : GH) => K x6 g5))) ∧ ((Gi g1 1603 l0) = (1 : Int32) → K (0 : Int32) g1))
set_option maxHeartbeats 4000000 in
set_option maxRecDepth 100000 in
theorem S_M_letter_22 {Γ : GAM} {E : EV} {K : Int32 → GH → Prop} (hE : GE Γ E cX11_letter 4 RX11 (some (.int)) 8 203 (fun r g' => ∃ x, r = some (.int x) ∧ K x g')) (l0 : Nat) (l1 : Int32) (l2 : Int32) (l3 : Int32) (s0 : Int32) (s1 : Nat) (g : GH) (h : B_M_letter_22 Γ K l0 l1 l2 l3 s0 s1 g) : JW Γ E 22 [some (.ref l0), some (.int l1), some (.int l2), some (.int l3)] [.int s0, .ref s1] g := by
  unfold B_M_letter_22 at h
  obtain ⟨hk, h⟩ := h
  obtain ⟨g1, hg⟩ : ∃ z, z = sI g 1603 s1 s0 := ⟨_, rfl⟩; replace h := h g1 hg
  refine j_putI hE fa_X11_425 hk (fun q => by cases q) (by decide +kernel : decode cX11_letter 22 = .ok (.putfield 425, 3)) ?_
  rw [← hg]
  refine j_aload_n hE (by decide +kernel : decode cX11_letter 25 = .ok (.aload_n 0, 1)) rfl rfl ?_
  obtain ⟨hk, h⟩ := h
  refine j_getI hE fg_X11_425 hk (by decide +kernel : decode cX11_letter 26 = .ok (.getfield 425, 3)) ?_
  refine j_iconst hE (by decide +kernel : decode cX11_letter 29 = .ok (.iconst 1, 1)) (v := (1 : Int32)) (by decide) ?_
  refine j_icmp_ne hE (by decide +kernel : decode cX11_letter 30 = .ok (.if_icmp .ne 5, 3)) (tgt := 35) (by decide) (fun q => ?_) (fun q => ?_)
  · replace h := h.1 q
    refine j_aload_n hE (by decide +kernel : decode cX11_letter 35 = .ok (.aload_n 0, 1)) rfl rfl ?_
    refine j_aload_n hE (by decide +kernel : decode cX11_letter 36 = .ok (.aload_n 0, 1)) rfl rfl ?_
    obtain ⟨hk, h⟩ := h
    obtain ⟨a2, ha, h⟩ := h
    refine j_getRn hE fg_X11_35 hk ha (by decide +kernel : decode cX11_letter 37 = .ok (.getfield 35, 3)) ?_
    refine j_iload_n hE (by decide +kernel : decode cX11_letter 40 = .ok (.iload_n 1, 1)) rfl rfl ?_
    obtain ⟨hk, hb, h⟩ := h
    refine j_iald hE hk hb (by decide +kernel : decode cX11_letter 41 = .ok (.iaload, 1)) ?_
    refine j_iload_n hE (by decide +kernel : decode cX11_letter 42 = .ok (.iload_n 3, 1)) rfl rfl ?_
    obtain ⟨hk, h⟩ := h
    refine j_callV hE rfl cl_X11_431 cf_12 im_X11_judge se_X11_judge ⟨by omega, by omega⟩ (As := [.int (Ia g1 (Co g1 a2) (Ow g1 a2) l1.toNatClampNeg), .int l3]) (rest := []) rfl rfl (Nat.le_of_ble_eq_true rfl) hk (by decide +kernel : decode cX11_letter 43 = .ok (.invokevirtual 431, 3)) (mt_M_judge _ _ _ _ _ h) ?_
    rintro _ g3 ⟨rfl, h⟩
    refine j_aload_n hE (by decide +kernel : decode cX11_letter 46 = .ok (.aload_n 0, 1)) rfl rfl ?_
    refine j_iload_n hE (by decide +kernel : decode cX11_letter 47 = .ok (.iload_n 1, 1)) rfl rfl ?_
    refine j_iload_n hE (by decide +kernel : decode cX11_letter 48 = .ok (.iload_n 2, 1)) rfl rfl ?_
    refine j_iload_n hE (by decide +kernel : decode cX11_letter 49 = .ok (.iload_n 3, 1)) rfl rfl ?_
    refine j_aload_n hE (by decide +kernel : decode cX11_letter 50 = .ok (.aload_n 0, 1)) rfl rfl ?_
    obtain ⟨hk, h⟩ := h
    obtain ⟨a4, ha, h⟩ := h
    refine j_getRn hE fg_X11_138 hk ha (by decide +kernel : decode cX11_letter 51 = .ok (.getfield 138, 3)) ?_
    refine j_iload_n hE (by decide +kernel : decode cX11_letter 54 = .ok (.iload_n 1, 1)) rfl rfl ?_
    obtain ⟨hk, hb, h⟩ := h
    refine j_iald hE hk hb (by decide +kernel : decode cX11_letter 55 = .ok (.iaload, 1)) ?_
    obtain ⟨hk, h⟩ := h
    refine j_callV hE rfl cl_X11_401 cf_12 im_X11_letterOf se_X11_letterOf ⟨by omega, by omega⟩ (As := [.int l1, .int l2, .int l3, .int (Ia g3 (Co g3 a4) (Ow g3 a4) l1.toNatClampNeg)]) (rest := []) rfl rfl (Nat.le_of_ble_eq_true rfl) hk (by decide +kernel : decode cX11_letter 56 = .ok (.invokevirtual 401, 3)) (mt_M_letterOf _ _ _ _ _ _ _ h) ?_
    rintro _ g5 ⟨x6, rfl, h⟩
    exact j_iret hE (by decide +kernel : decode cX11_letter 59 = .ok (.ireturn, 1)) ⟨_, rfl, h⟩
  · replace h := h.2 q
    refine j_iconst hE (by decide +kernel : decode cX11_letter 33 = .ok (.iconst 0, 1)) (v := (0 : Int32)) (by decide) ?_
    exact j_iret hE (by decide +kernel : decode cX11_letter 34 = .ok (.ireturn, 1)) ⟨_, rfl, h⟩
set_option maxRecDepth 100000 in
def B_M_letter_21 (Γ : GAM) (K : Int32 → GH → Prop) (l0 : Nat) (l1 : Int32) (l2 : Int32) (l3 : Int32) (s0 : Nat) (g : GH) : Prop :=
  B_M_letter_22 Γ K l0 l1 l2 l3 (1 : Int32) s0 g
set_option maxHeartbeats 4000000 in
set_option maxRecDepth 100000 in
theorem S_M_letter_21 {Γ : GAM} {E : EV} {K : Int32 → GH → Prop} (hE : GE Γ E cX11_letter 4 RX11 (some (.int)) 8 203 (fun r g' => ∃ x, r = some (.int x) ∧ K x g')) (l0 : Nat) (l1 : Int32) (l2 : Int32) (l3 : Int32) (s0 : Nat) (g : GH) (h : B_M_letter_21 Γ K l0 l1 l2 l3 s0 g) : JW Γ E 21 [some (.ref l0), some (.int l1), some (.int l2), some (.int l3)] [.ref s0] g := by
  unfold B_M_letter_21 at h
  refine j_iconst hE (by decide +kernel : decode cX11_letter 21 = .ok (.iconst 1, 1)) (v := (1 : Int32)) (by decide) ?_
  exact S_M_letter_22 hE _ _ _ _ _ _ _ h
set_option maxRecDepth 100000 in
def B_M_letter_0 (Γ : GAM) (K : Int32 → GH → Prop) (th : Nat) (p0 : Int32) (p1 : Int32) (p2 : Int32) (g : GH) : Prop :=
  Kd g th = 13 ∧ Sp_M_isAsked Γ th p0 p2 g (fun (x2 : Int32) (g1 : GH) => ((x2 = 0 → B_M_letter_21 Γ K th p0 p1 p2 th g1) ∧ (¬ (x2 = 0) → Sp_M_isLetter Γ p1 g1 (fun (x4 : Int32) (g3 : GH) => ((x4 = 0 → B_M_letter_21 Γ K th p0 p1 p2 th g3) ∧ (¬ (x4 = 0) → B_M_letter_22 Γ K th p0 p1 p2 (0 : Int32) th g3))))))
set_option maxHeartbeats 4000000 in
set_option maxRecDepth 100000 in
theorem S_M_letter_0 {Γ : GAM} {E : EV} {K : Int32 → GH → Prop} (hE : GE Γ E cX11_letter 4 RX11 (some (.int)) 8 203 (fun r g' => ∃ x, r = some (.int x) ∧ K x g')) (th : Nat) (p0 : Int32) (p1 : Int32) (p2 : Int32) (g : GH) (h : B_M_letter_0 Γ K th p0 p1 p2 g) : JW Γ E 0 [some (.ref th), some (.int p0), some (.int p1), some (.int p2)] [] g := by
  unfold B_M_letter_0 at h
  refine j_aload_n hE (by decide +kernel : decode cX11_letter 0 = .ok (.aload_n 0, 1)) rfl rfl ?_
  refine j_aload_n hE (by decide +kernel : decode cX11_letter 1 = .ok (.aload_n 0, 1)) rfl rfl ?_
  refine j_iload_n hE (by decide +kernel : decode cX11_letter 2 = .ok (.iload_n 1, 1)) rfl rfl ?_
  refine j_iload_n hE (by decide +kernel : decode cX11_letter 3 = .ok (.iload_n 3, 1)) rfl rfl ?_
  obtain ⟨hk, h⟩ := h
  refine j_callV hE rfl cl_X11_428 cf_12 im_X11_isAsked se_X11_isAsked ⟨by omega, by omega⟩ (As := [.int p0, .int p2]) (rest := [.ref th]) rfl rfl (Nat.le_of_ble_eq_true rfl) hk (by decide +kernel : decode cX11_letter 4 = .ok (.invokevirtual 428, 3)) (mt_M_isAsked _ _ _ _ _ h) ?_
  rintro _ g1 ⟨x2, rfl, h⟩
  refine j_if_eq hE (by decide +kernel : decode cX11_letter 7 = .ok (.ifCond .eq 14, 3)) (tgt := 21) (by decide) (fun q => ?_) (fun q => ?_)
  · replace h := h.1 q
    exact S_M_letter_21 hE _ _ _ _ _ _ h
  · replace h := h.2 q
    refine j_iload_n hE (by decide +kernel : decode cX11_letter 10 = .ok (.iload_n 2, 1)) rfl rfl ?_
    refine j_callS hE rfl cl_X11_340 st_X11_isLetter ⟨by omega, by omega⟩ (As := [.int p1]) (rest := [.ref th]) rfl rfl (Nat.le_of_ble_eq_true rfl) (by decide +kernel : decode cX11_letter 11 = .ok (.invokestatic 340, 3)) (mt_M_isLetter _ _ _ h) ?_
    rintro _ g3 ⟨x4, rfl, h⟩
    refine j_if_eq hE (by decide +kernel : decode cX11_letter 14 = .ok (.ifCond .eq 7, 3)) (tgt := 21) (by decide) (fun q => ?_) (fun q => ?_)
    · replace h := h.1 q
      exact S_M_letter_21 hE _ _ _ _ _ _ h
    · replace h := h.2 q
      refine j_iconst hE (by decide +kernel : decode cX11_letter 17 = .ok (.iconst 0, 1)) (v := (0 : Int32)) (by decide) ?_
      refine j_goto hE (by decide +kernel : decode cX11_letter 18 = .ok (.goto 4, 3)) (tgt := 22) (by decide) ?_
      exact S_M_letter_22 hE _ _ _ _ _ _ _ h
set_option maxHeartbeats 4000000 in
set_option maxRecDepth 100000 in
theorem rl_M_letter {Γ : GAM} {l : Launch} {th : Nat} {p0 : Int32} {p1 : Int32} {p2 : Int32} {g : GH} {K : Int32 → GH → Prop} (h0 : B_M_letter_0 Γ K th p0 p1 p2 g) : MetA Γ l yX11_letter cX11_letter 4 (some (.int)) 8 203 [.ref th, .int p0, .int p1, .int p2] g (fun r g' => ∃ x, r = some (.int x) ∧ K x g') := by
  refine MetA.introL (Lx := [some (.ref th), some (.int p0), some (.int p1), some (.int p2)]) (by decide) (Nat.le_of_ble_eq_true rfl) rfl rfl ?_
  intro E hEl hE hnm
  exact S_M_letter_0 hE th p0 p1 p2 g h0
theorem mt_M_letter {Γ : GAM} {l : Launch} (th : Nat) (p0 : Int32) (p1 : Int32) (p2 : Int32) (g : GH) (K : Int32 → GH → Prop) (h : Sp_M_letter Γ th p0 p1 p2 g K) : MetA Γ l yX11_letter cX11_letter 4 (some (.int)) 8 203 [.ref th, .int p0, .int p1, .int p2] g (fun r g' => ∃ x, r = some (.int x) ∧ K x g') := by
  obtain ⟨ma, s, hI, hw, hK⟩ := h
  obtain ⟨hkd, hS⟩ := hI.1
  obtain ⟨w1, w2, w3⟩ := hI.env
  refine rl_M_letter ?_
  unfold B_M_letter_0
  refine ⟨hkd, ma, s, hI, hw, ?_⟩
  have hno : ¬ ok_letter s p0 p1 p2 → B_M_letter_21 Γ K th p0 p1 p2 th g := by
    intro hn
    unfold B_M_letter_21 B_M_letter_22
    refine ⟨hkd, ?_⟩
    rintro g1 hg1
    have hf : FrX th [1569, 1570, 1595, 1602, 1603] [1594, 1596, 1597, 1598, 1599, 1600, 1601] g g1 := by rw [hg1]; exact FrX.sI (by decide)
    have ht : Gi g1 1603 th = 1 := by rw [hg1]; simp [Gi_sI]
    refine ⟨(hI.x hf (by decide +kernel)).1.1, fun z => absurd ht z, fun _ => ?_⟩
    have hK2 := hK g1 hf (by rw [if_neg hn]; exact ht)
    unfold p_letter at hK2
    rw [if_neg hn] at hK2
    exact hK2
  refine ⟨fun z => hno (fun y => by rw [if_pos y.1] at z; exact absurd z (by decide)), fun z => ?_⟩
  have hok : ok_asked s p0 p2 := by
    by_cases y : ok_asked s p0 p2
    · exact y
    · rw [if_neg y] at z; exact absurd rfl z
  unfold Sp_M_isLetter
  refine ⟨fun z => hno (fun y => by rw [if_pos y.2] at z; exact absurd z (by decide)), fun z2 => ?_⟩
  have hl : okLt p1 := by
    by_cases y : okLt p1
    · exact y
    · rw [if_neg y] at z2; exact absurd rfl z2
  have hokl : ok_letter s p0 p1 p2 := ⟨hok, hl⟩
  have heo := asked_ok hw hok
  have hil := asked_in hw hok
  obtain ⟨x, hx, hex⟩ := eOk_get heo
  have hb : inB p0 200 := ⟨heo.1, by have := heo.2; omega⟩
  rw [← hex] at hx
  unfold B_M_letter_22
  refine ⟨hkd, ?_⟩
  rintro g1 hg1
  have hf : FrX th [1569, 1570, 1595, 1602, 1603] [1594, 1596, 1597, 1598, 1599, 1600, 1601] g g1 := by rw [hg1]; exact FrX.sI (by decide)
  have ht : Gi g1 1603 th = 0 := by rw [hg1]; simp [Gi_sI]
  have hI1 := hI.x hf (by decide +kernel)
  obtain ⟨hkd1, hS1⟩ := hI1.1
  obtain ⟨v1, v2, v3⟩ := hI1.env
  obtain ⟨z_voterOf1, z_voterOf2, z_voterOf3, z_voterOf4, z_voterOf5⟩ := hS1 1556 20 200 rfl
  refine ⟨hkd1, fun _ => ?_, fun z => absurd (ht.symm.trans z) (by decide)⟩
  refine ⟨hkd1, _, z_voterOf1, z_voterOf2, by rw [z_voterOf5]; exact hb, hkd1, ?_⟩
  rw [z_voterOf3, z_voterOf4, (v3 _ _ hx).1]
  refine ⟨ma, s, hI1, hw, fun g2 hx2 hJ => ?_⟩
  have hI2 := hI1.x hx2 (by decide +kernel)
  obtain ⟨hkd2, hS2⟩ := hI2.1
  obtain ⟨z_goodAhead1, z_goodAhead2, z_goodAhead3, z_goodAhead4, z_goodAhead5⟩ := hS2 1599 20 200 rfl
  have hv := hJ.2.2 _ hil
  refine ⟨hkd2, _, z_goodAhead1, z_goodAhead2, by rw [z_goodAhead5]; exact hb, hkd2, ?_⟩
  rw [z_goodAhead3, z_goodAhead4, hv.2.2.2.2]
  refine ⟨ma, s, hI2, hw, heo, fun g3 hx3 => ?_⟩
  have hK3 := hK g3 ((hf.tr (hx2.up (by decide) (by decide))).tr (hx3.up (by decide) (by decide))) (by rw [if_pos hokl, hx3.2.1 1603 (by decide), hx2.2.1 1603 (by decide)]; exact ht)
  unfold p_letter at hK3
  rw [if_pos hokl] at hK3
  exact hK3
/-! the reference: first, doubles, many -/
def sFG (s : ST) (v q : Int32) : Option Nat := (sRow s v q).find? (fun e => decide ((sJ s v q e).1 = 2))
def oN (o : Option Nat) : Int32 := match o with
  | none => -1
  | some e => nI e
def Sp_M_firstGood (Γ : GAM) (m : Nat) (g : GH) (K : Int32 → GH → Prop) : Prop := ∃ ma s v q, RefI m ma g s ∧ WF s ∧ JD m g s v q ∧ K (oN (sFG s v q)) g
-- the walk of M_firstGood
set_option maxRecDepth 100000 in
def B_M_firstGood_2 (Γ : GAM) (K2 : Nat → Int32 → GH → Prop) (K : Int32 → GH → Prop) (l0 : Nat) (l1 : Int32) (g : GH) : Prop :=
  Kd g l0 = 13 ∧ (((Gi g 1602 l0) ≤ l1 → K (-1 : Int32) g) ∧ (¬ ((Gi g 1602 l0) ≤ l1) → Kd g l0 = 13 ∧ ∃ a1 : Nat, Gr g 1596 l0 = some a1 ∧ Kd g l0 = 13 ∧ ∃ a2 : Nat, Gr g 1601 l0 = some a2 ∧ Kd g a2 = 20 ∧ inB l1 (Ln g a2) ∧ Kd g a1 = 20 ∧ inB (Ia g (Co g a2) (Ow g a2) l1.toNatClampNeg) (Ln g a1) ∧ ((¬ ((Ia g (Co g a1) (Ow g a1) (Ia g (Co g a2) (Ow g a2) l1.toNatClampNeg).toNatClampNeg) = (2 : Int32)) → K2 l0 (l1 + (1 : Int32)) g) ∧ ((Ia g (Co g a1) (Ow g a1) (Ia g (Co g a2) (Ow g a2) l1.toNatClampNeg).toNatClampNeg) = (2 : Int32) → Kd g l0 = 13 ∧ ∃ a3 : Nat, Gr g 1601 l0 = some a3 ∧ Kd g a3 = 20 ∧ inB l1 (Ln g a3) ∧ K (Ia g (Co g a3) (Ow g a3) l1.toNatClampNeg) g))))
set_option maxHeartbeats 4000000 in
set_option maxRecDepth 100000 in
theorem S_M_firstGood_2 {Γ : GAM} {E : EV} {K : Int32 → GH → Prop} (hE : GE Γ E cX11_firstGood 2 RX11 (some (.int)) 0 0 (fun r g' => ∃ x, r = some (.int x) ∧ K x g')) {K2 : Nat → Int32 → GH → Prop} (hK2 : ∀ (l0 : Nat) (l1 : Int32) (g : GH), K2 l0 l1 g → JW Γ E 2 [some (.ref l0), some (.int l1)] [] g) (l0 : Nat) (l1 : Int32) (g : GH) (h : B_M_firstGood_2 Γ K2 K l0 l1 g) : JW Γ E 2 [some (.ref l0), some (.int l1)] [] g := by
  unfold B_M_firstGood_2 at h
  refine j_iload_n hE (by decide +kernel : decode cX11_firstGood 2 = .ok (.iload_n 1, 1)) rfl rfl ?_
  refine j_aload_n hE (by decide +kernel : decode cX11_firstGood 3 = .ok (.aload_n 0, 1)) rfl rfl ?_
  obtain ⟨hk, h⟩ := h
  refine j_getI hE fg_X11_412 hk (by decide +kernel : decode cX11_firstGood 4 = .ok (.getfield 412, 3)) ?_
  refine j_icmp_ge hE (by decide +kernel : decode cX11_firstGood 7 = .ok (.if_icmp .ge 31, 3)) (tgt := 38) (by decide) (fun q => ?_) (fun q => ?_)
  · replace h := h.1 q
    refine j_iconst hE (by decide +kernel : decode cX11_firstGood 38 = .ok (.iconst (-1), 1)) (v := (-1 : Int32)) (by decide) ?_
    exact j_iret hE (by decide +kernel : decode cX11_firstGood 39 = .ok (.ireturn, 1)) ⟨_, rfl, h⟩
  · replace h := h.2 q
    refine j_aload_n hE (by decide +kernel : decode cX11_firstGood 10 = .ok (.aload_n 0, 1)) rfl rfl ?_
    obtain ⟨hk, h⟩ := h
    obtain ⟨a1, ha, h⟩ := h
    refine j_getRn hE fg_X11_129 hk ha (by decide +kernel : decode cX11_firstGood 11 = .ok (.getfield 129, 3)) ?_
    refine j_aload_n hE (by decide +kernel : decode cX11_firstGood 14 = .ok (.aload_n 0, 1)) rfl rfl ?_
    obtain ⟨hk, h⟩ := h
    obtain ⟨a2, ha, h⟩ := h
    refine j_getRn hE fg_X11_144 hk ha (by decide +kernel : decode cX11_firstGood 15 = .ok (.getfield 144, 3)) ?_
    refine j_iload_n hE (by decide +kernel : decode cX11_firstGood 18 = .ok (.iload_n 1, 1)) rfl rfl ?_
    obtain ⟨hk, hb, h⟩ := h
    refine j_iald hE hk hb (by decide +kernel : decode cX11_firstGood 19 = .ok (.iaload, 1)) ?_
    obtain ⟨hk, hb, h⟩ := h
    refine j_iald hE hk hb (by decide +kernel : decode cX11_firstGood 20 = .ok (.iaload, 1)) ?_
    refine j_iconst hE (by decide +kernel : decode cX11_firstGood 21 = .ok (.iconst 2, 1)) (v := (2 : Int32)) (by decide) ?_
    refine j_icmp_ne hE (by decide +kernel : decode cX11_firstGood 22 = .ok (.if_icmp .ne 10, 3)) (tgt := 32) (by decide) (fun q => ?_) (fun q => ?_)
    · replace h := h.1 q
      refine j_iinc hE (by decide +kernel : decode cX11_firstGood 32 = .ok (.iinc 1 1, 3)) (v := (1 : Int32)) (by decide) rfl (Nat.le_of_ble_eq_true rfl) rfl ?_
      refine j_goto hE (by decide +kernel : decode cX11_firstGood 35 = .ok (.goto (-33), 3)) (tgt := 2) (by decide) ?_
      exact hK2 _ _ _ h
    · replace h := h.2 q
      refine j_aload_n hE (by decide +kernel : decode cX11_firstGood 25 = .ok (.aload_n 0, 1)) rfl rfl ?_
      obtain ⟨hk, h⟩ := h
      obtain ⟨a3, ha, h⟩ := h
      refine j_getRn hE fg_X11_144 hk ha (by decide +kernel : decode cX11_firstGood 26 = .ok (.getfield 144, 3)) ?_
      refine j_iload_n hE (by decide +kernel : decode cX11_firstGood 29 = .ok (.iload_n 1, 1)) rfl rfl ?_
      obtain ⟨hk, hb, h⟩ := h
      refine j_iald hE hk hb (by decide +kernel : decode cX11_firstGood 30 = .ok (.iaload, 1)) ?_
      exact j_iret hE (by decide +kernel : decode cX11_firstGood 31 = .ok (.ireturn, 1)) ⟨_, rfl, h⟩
set_option maxRecDepth 100000 in
def B_M_firstGood_0 (Γ : GAM) (K2 : Nat → Int32 → GH → Prop) (K : Int32 → GH → Prop) (th : Nat) (g : GH) : Prop :=
  K2 th (0 : Int32) g
set_option maxHeartbeats 4000000 in
set_option maxRecDepth 100000 in
theorem S_M_firstGood_0 {Γ : GAM} {E : EV} {K : Int32 → GH → Prop} (hE : GE Γ E cX11_firstGood 2 RX11 (some (.int)) 0 0 (fun r g' => ∃ x, r = some (.int x) ∧ K x g')) {K2 : Nat → Int32 → GH → Prop} (hK2 : ∀ (l0 : Nat) (l1 : Int32) (g : GH), K2 l0 l1 g → JW Γ E 2 [some (.ref l0), some (.int l1)] [] g) (th : Nat) (g : GH) (h : B_M_firstGood_0 Γ K2 K th g) : JW Γ E 0 [some (.ref th), none] [] g := by
  unfold B_M_firstGood_0 at h
  refine j_iconst hE (by decide +kernel : decode cX11_firstGood 0 = .ok (.iconst 0, 1)) (v := (0 : Int32)) (by decide) ?_
  refine j_istore_n hE (by decide +kernel : decode cX11_firstGood 1 = .ok (.istore_n 1, 1)) rfl (Nat.le_of_ble_eq_true rfl) rfl ?_
  exact hK2 _ _ _ h
set_option maxHeartbeats 4000000 in
set_option maxRecDepth 100000 in
theorem rl_M_firstGood {Γ : GAM} {l : Launch} {th : Nat} {g : GH} {K : Int32 → GH → Prop} (I2 : Nat → Nat → Int32 → GH → Prop) (hh2 : ∀ n (l0 : Nat) (l1 : Int32) (g : GH), I2 n l0 l1 g → B_M_firstGood_2 Γ (fun l0 l1 g => ∃ m, m < n ∧ I2 m l0 l1 g) K l0 l1 g) (h0 : B_M_firstGood_0 Γ (fun l0 l1 g => ∃ m, I2 m l0 l1 g) K th g) : MetA Γ l yX11_firstGood cX11_firstGood 2 (some (.int)) 0 0 [.ref th] g (fun r g' => ∃ x, r = some (.int x) ∧ K x g') := by
  refine MetA.introL (Lx := [some (.ref th), none]) (by decide) (Nat.le_of_ble_eq_true rfl) rfl rfl ?_
  intro E hEl hE hnm
  have hall : ∀ n, (∀ (l0 : Nat) (l1 : Int32) (g : GH), I2 n l0 l1 g → JW Γ E 2 [some (.ref l0), some (.int l1)] [] g) := by
    intro n
    induction n using Nat.strongRecOn with
    | ind n ih =>
      exact fun l0 l1 g hi => S_M_firstGood_2 hE (fun l0 l1 g hm => by obtain ⟨m, hm, h⟩ := hm; exact (ih m hm) l0 l1 g h) l0 l1 g (hh2 n l0 l1 g hi)
  exact S_M_firstGood_0 hE (fun l0 l1 g hm => by obtain ⟨m, h⟩ := hm; exact (hall m) l0 l1 g h) th g h0
theorem mt_M_firstGood {Γ : GAM} {l : Launch} (th : Nat) (g : GH) (K : Int32 → GH → Prop) (h : Sp_M_firstGood Γ th g K) : MetA Γ l yX11_firstGood cX11_firstGood 2 (some (.int)) 0 0 [.ref th] g (fun r g' => ∃ x, r = some (.int x) ∧ K x g') := by
  obtain ⟨ma, s, v, q, hI, hw, hJ, hK⟩ := h
  obtain ⟨hkd, hS⟩ := hI.1
  have hN := hw.len.2.2.1
  obtain ⟨hm, hln, hnd⟩ := sRow_ok s v q
  obtain ⟨h1, h2, h3⟩ := hJ
  obtain ⟨z_row1, z_row2, z_row3, z_row4, z_row5⟩ := hS 1601 20 200 rfl
  obtain ⟨z_states1, z_states2, z_states3, z_states4, z_states5⟩ := hS 1596 20 200 rfl
  refine rl_M_firstGood (fun n l0 l1 g' => g = g' ∧ th = l0 ∧ ∃ k, k ≤ (sRow s v q).length ∧ n = (sRow s v q).length - k ∧ l1 = nI k ∧ sFG s v q = ((sRow s v q).drop k).find? (fun e => decide ((sJ s v q e).1 = 2))) ?_ ?_
  · rintro n l0 l1 g' ⟨rfl, rfl, k, hk, rfl, rfl, hf⟩
    suffices H : ∀ K2 : Nat → Int32 → GH → Prop, (k < (sRow s v q).length → sFG s v q = ((sRow s v q).drop (k + 1)).find? (fun e => decide ((sJ s v q e).1 = 2)) → K2 th (nI (k + 1)) g) → B_M_firstGood_2 Γ K2 K th (nI k) g from
      H _ (fun hlt h => ⟨(sRow s v q).length - (k + 1), by omega, rfl, rfl, k + 1, by omega, rfl, rfl, h⟩)
    intro K2 hnext
    unfold B_M_firstGood_2
    simp only [hkd, h1, z_row1, z_row2, z_row3, z_row4, z_row5, z_states1, z_states2, z_states3, z_states4, z_states5, Option.some.injEq, exists_eq_left', true_and, nj_s, nj_cl (show k < 2147483648 by omega), nj_le (show (sRow s v q).length < 2147483648 by omega) (show k < 2147483648 by omega)]
    refine ⟨fun z => ?_, fun z => ?_⟩
    · rw [List.drop_eq_nil_of_le z] at hf
      rw [hf] at hK; exact hK
    · have hlt : k < (sRow s v q).length := by omega
      obtain ⟨e, he⟩ := get_lt hlt
      obtain ⟨he1, he2, he3⟩ := (hm e).mp (List.mem_of_getElem? he)
      have hb := inB_nI (show k < 200 by omega) (by omega)
      have hbe := inB_nI (show e < 200 by omega) (by omega)
      have hd : (sRow s v q).drop k = e :: (sRow s v q).drop (k + 1) := by
        rw [List.drop_eq_getElem_cons hlt]
        rw [(List.getElem?_eq_some_iff.mp he).2]
      rw [hd, List.find?_cons] at hf
      simp only [h2 k e he, (h3 e he2).2.1, hb, hbe, true_and, nj_cl (show e < 2147483648 by omega)]
      refine ⟨fun y => hnext hlt ?_, fun y => ?_⟩
      · rw [hf]; simp [y]
      · simp only [y, decide_true] at hf
        rw [hf] at hK; exact hK
  · unfold B_M_firstGood_0
    exact ⟨_, rfl, rfl, 0, Nat.zero_le _, rfl, nj_0, rfl⟩
abbrev ok_first (s : ST) (p0 p1 : Int32) : Prop := (0 ≤ p0 ∧ p0 ≤ nI (s_vot s).length - 1) ∧ (0 ≤ p1 ∧ p1 ≤ s_now s)
def p_first (s : ST) (p0 p1 : Int32) : Int32 := if ok_first s p0 p1 then oN (sFG s p0 p1) else -1
def Sp_M_first (Γ : GAM) (m : Nat) (p0 p1 : Int32) (g : GH) (K : Int32 → GH → Prop) : Prop := ∃ ma s, RefI m ma g s ∧ WF s ∧ ∀ g', FrX m [1569, 1570, 1595, 1602] [1594, 1596, 1597, 1598, 1599, 1600, 1601] g g' → K (p_first s p0 p1) g'
-- the walk of M_first
set_option maxRecDepth 100000 in
def B_M_first_16 (Γ : GAM) (K : Int32 → GH → Prop)  (g : GH) : Prop :=
  K (-1 : Int32) g
set_option maxHeartbeats 4000000 in
set_option maxRecDepth 100000 in
theorem S_M_first_16 {Γ : GAM} {E : EV} {K : Int32 → GH → Prop} (hE : GE Γ E cX11_first 3 RX11 (some (.int)) 8 203 (fun r g' => ∃ x, r = some (.int x) ∧ K x g'))  (g : GH) (h : B_M_first_16 Γ K  g) : JW Γ E 16 [none, none, none] [] g := by
  unfold B_M_first_16 at h
  refine j_iconst hE (by decide +kernel : decode cX11_first 16 = .ok (.iconst (-1), 1)) (v := (-1 : Int32)) (by decide) ?_
  exact j_iret hE (by decide +kernel : decode cX11_first 17 = .ok (.ireturn, 1)) ⟨_, rfl, h⟩
set_option maxRecDepth 100000 in
def B_M_first_0 (Γ : GAM) (K : Int32 → GH → Prop) (th : Nat) (p0 : Int32) (p1 : Int32) (g : GH) : Prop :=
  Kd g th = 13 ∧ Sp_M_isVoter Γ th p0 g (fun (x2 : Int32) (g1 : GH) => ((x2 = 0 → B_M_first_16 Γ K g1) ∧ (¬ (x2 = 0) → Kd g1 th = 13 ∧ Sp_M_isKnowing Γ th p1 g1 (fun (x4 : Int32) (g3 : GH) => ((¬ (x4 = 0) → Kd g3 th = 13 ∧ Sp_M_judge Γ th p0 p1 g3 (fun (g5 : GH) => Kd g5 th = 13 ∧ Sp_M_firstGood Γ th g5 (fun (x7 : Int32) (g6 : GH) => K x7 g6))) ∧ (x4 = 0 → B_M_first_16 Γ K g3))))))
set_option maxHeartbeats 4000000 in
set_option maxRecDepth 100000 in
theorem S_M_first_0 {Γ : GAM} {E : EV} {K : Int32 → GH → Prop} (hE : GE Γ E cX11_first 3 RX11 (some (.int)) 8 203 (fun r g' => ∃ x, r = some (.int x) ∧ K x g')) (th : Nat) (p0 : Int32) (p1 : Int32) (g : GH) (h : B_M_first_0 Γ K th p0 p1 g) : JW Γ E 0 [some (.ref th), some (.int p0), some (.int p1)] [] g := by
  unfold B_M_first_0 at h
  refine j_aload_n hE (by decide +kernel : decode cX11_first 0 = .ok (.aload_n 0, 1)) rfl rfl ?_
  refine j_iload_n hE (by decide +kernel : decode cX11_first 1 = .ok (.iload_n 1, 1)) rfl rfl ?_
  obtain ⟨hk, h⟩ := h
  refine j_callV hE rfl cl_X11_228 cf_12 im_X11_isVoter se_X11_isVoter ⟨by omega, by omega⟩ (As := [.int p0]) (rest := []) rfl rfl (Nat.le_of_ble_eq_true rfl) hk (by decide +kernel : decode cX11_first 2 = .ok (.invokevirtual 228, 3)) (mt_M_isVoter _ _ _ _ h) ?_
  rintro _ g1 ⟨x2, rfl, h⟩
  refine j_if_eq hE (by decide +kernel : decode cX11_first 5 = .ok (.ifCond .eq 11, 3)) (tgt := 16) (by decide) (fun q => ?_) (fun q => ?_)
  · replace h := h.1 q
    refine j_weak [none, none, none] trivial ?_
    exact S_M_first_16 hE _ h
  · replace h := h.2 q
    refine j_aload_n hE (by decide +kernel : decode cX11_first 8 = .ok (.aload_n 0, 1)) rfl rfl ?_
    refine j_iload_n hE (by decide +kernel : decode cX11_first 9 = .ok (.iload_n 2, 1)) rfl rfl ?_
    obtain ⟨hk, h⟩ := h
    refine j_callV hE rfl cl_X11_234 cf_12 im_X11_isKnowing se_X11_isKnowing ⟨by omega, by omega⟩ (As := [.int p1]) (rest := []) rfl rfl (Nat.le_of_ble_eq_true rfl) hk (by decide +kernel : decode cX11_first 10 = .ok (.invokevirtual 234, 3)) (mt_M_isKnowing _ _ _ _ h) ?_
    rintro _ g3 ⟨x4, rfl, h⟩
    refine j_if_ne hE (by decide +kernel : decode cX11_first 13 = .ok (.ifCond .ne 5, 3)) (tgt := 18) (by decide) (fun q => ?_) (fun q => ?_)
    · replace h := h.1 q
      refine j_aload_n hE (by decide +kernel : decode cX11_first 18 = .ok (.aload_n 0, 1)) rfl rfl ?_
      refine j_iload_n hE (by decide +kernel : decode cX11_first 19 = .ok (.iload_n 1, 1)) rfl rfl ?_
      refine j_iload_n hE (by decide +kernel : decode cX11_first 20 = .ok (.iload_n 2, 1)) rfl rfl ?_
      obtain ⟨hk, h⟩ := h
      refine j_callV hE rfl cl_X11_431 cf_12 im_X11_judge se_X11_judge ⟨by omega, by omega⟩ (As := [.int p0, .int p1]) (rest := []) rfl rfl (Nat.le_of_ble_eq_true rfl) hk (by decide +kernel : decode cX11_first 21 = .ok (.invokevirtual 431, 3)) (mt_M_judge _ _ _ _ _ h) ?_
      rintro _ g5 ⟨rfl, h⟩
      refine j_aload_n hE (by decide +kernel : decode cX11_first 24 = .ok (.aload_n 0, 1)) rfl rfl ?_
      obtain ⟨hk, h⟩ := h
      refine j_callV hE rfl cl_X11_434 cf_12 im_X11_firstGood se_X11_firstGood ⟨by omega, by omega⟩ (As := []) (rest := []) rfl rfl (Nat.le_of_ble_eq_true rfl) hk (by decide +kernel : decode cX11_first 25 = .ok (.invokevirtual 434, 3)) (mt_M_firstGood _ _ _ h) ?_
      rintro _ g6 ⟨x7, rfl, h⟩
      exact j_iret hE (by decide +kernel : decode cX11_first 28 = .ok (.ireturn, 1)) ⟨_, rfl, h⟩
    · replace h := h.2 q
      refine j_weak [none, none, none] trivial ?_
      exact S_M_first_16 hE _ h
set_option maxHeartbeats 4000000 in
set_option maxRecDepth 100000 in
theorem rl_M_first {Γ : GAM} {l : Launch} {th : Nat} {p0 : Int32} {p1 : Int32} {g : GH} {K : Int32 → GH → Prop} (h0 : B_M_first_0 Γ K th p0 p1 g) : MetA Γ l yX11_first cX11_first 3 (some (.int)) 8 203 [.ref th, .int p0, .int p1] g (fun r g' => ∃ x, r = some (.int x) ∧ K x g') := by
  refine MetA.introL (Lx := [some (.ref th), some (.int p0), some (.int p1)]) (by decide) (Nat.le_of_ble_eq_true rfl) rfl rfl ?_
  intro E hEl hE hnm
  exact S_M_first_0 hE th p0 p1 g h0
theorem mt_M_first {Γ : GAM} {l : Launch} (th : Nat) (p0 : Int32) (p1 : Int32) (g : GH) (K : Int32 → GH → Prop) (h : Sp_M_first Γ th p0 p1 g K) : MetA Γ l yX11_first cX11_first 3 (some (.int)) 8 203 [.ref th, .int p0, .int p1] g (fun r g' => ∃ x, r = some (.int x) ∧ K x g') := by
  obtain ⟨ma, s, hI, hw, hK⟩ := h
  have hkd := hI.1.1
  have hnow := hI.now
  have hv := hI.vot.1
  refine rl_M_first ?_
  have hno : ¬ ok_first s p0 p1 → K (-1) g := fun hn => by have := hK g FrX.rf; unfold p_first at this; rw [if_neg hn] at this; exact this
  have hyes : ok_first s p0 p1 → Sp_M_judge Γ th p0 p1 g (fun g5 => Kd g5 th = 13 ∧ Sp_M_firstGood Γ th g5 K) := fun hn => ⟨ma, s, hI, hw, fun g2 hx2 hJ => ⟨(hI.x hx2 (by decide +kernel)).1.1, ma, s, p0, p1, hI.x hx2 (by decide +kernel), hw, hJ, by have := hK g2 hx2; unfold p_first at this; rw [if_pos hn] at this; exact this⟩⟩
  simp only [B_M_first_16, B_M_first_0, Sp_M_isVoter, Sp_M_isKnowing, ifz, hkd, hnow, hv, true_and]
  repeat' with_reducible first | apply And.intro | intro _
  all_goals first | exact hno (by grind) | exact hyes (by grind)
