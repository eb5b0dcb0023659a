/-! the reference: bounds, signs, letters -/
def sBnd (v : Int64) : Int32 := (if (if v < (1000000 : Int64) then v else (1000000 : Int64)) < (-1000000 : Int64) then (-1000000 : Int64) else (if v < (1000000 : Int64) then v else (1000000 : Int64))).toInt32
def Sp_M_bounded (Γ : GAM) (v : Int64) (g : GH) (K : Int32 → GH → Prop) : Prop := K (sBnd v) g
-- the walk of M_bounded
set_option maxRecDepth 100000 in
def B_M_bounded_0 (Γ : GAM) (K : Int32 → GH → Prop) (p0 : Int64) (g : GH) : Prop :=
  K ((if (if p0 < (1000000 : Int64) then p0 else (1000000 : Int64)) < (-1000000 : Int64) then (-1000000 : Int64) else (if p0 < (1000000 : Int64) then p0 else (1000000 : Int64))).toInt32) g
set_option maxHeartbeats 4000000 in
set_option maxRecDepth 100000 in
theorem S_M_bounded_0 {Γ : GAM} {E : EV} {K : Int32 → GH → Prop} (hE : GE Γ E cX11_bounded 2 RX11 (some (.int)) 1 30 (fun r g' => ∃ x, r = some (.int x) ∧ K x g')) (p0 : Int64) (g : GH) (h : B_M_bounded_0 Γ K p0 g) : JW Γ E 0 [some (.long p0), none] [] g := by
  unfold B_M_bounded_0 at h
  refine j_ldc2 hE ctL_X11_388 (by decide +kernel : decode cX11_bounded 0 = .ok (.ldc2_w 388, 3)) ?_
  refine j_ldc2 hE ctL_X11_390 (by decide +kernel : decode cX11_bounded 3 = .ok (.ldc2_w 390, 3)) ?_
  refine j_lload_n hE (by decide +kernel : decode cX11_bounded 6 = .ok (.lload_n 0, 1)) rfl rfl ?_
  refine j_mmin_long hE rfl ml_X11_392 st_J9_min_f86c9 in_Math co_J9_min_f86c9 (Nat.le_of_ble_eq_true rfl) (by omega) (by omega) (by decide +kernel : decode cX11_bounded 7 = .ok (.invokestatic 392, 3)) ?_
  refine j_mmax_long hE rfl ml_X11_396 st_J9_max_f86c9 in_Math co_J9_max_f86c9 (Nat.le_of_ble_eq_true rfl) (by omega) (by omega) (by decide +kernel : decode cX11_bounded 10 = .ok (.invokestatic 396, 3)) ?_
  refine j_l2i hE (by decide +kernel : decode cX11_bounded 13 = .ok (.l2i, 1)) ?_
  exact j_iret hE (by decide +kernel : decode cX11_bounded 14 = .ok (.ireturn, 1)) ⟨_, rfl, h⟩
set_option maxHeartbeats 4000000 in
set_option maxRecDepth 100000 in
theorem rl_M_bounded {Γ : GAM} {l : Launch} {p0 : Int64} {g : GH} {K : Int32 → GH → Prop} (h0 : B_M_bounded_0 Γ K p0 g) : MetA Γ l yX11_bounded cX11_bounded 2 (some (.int)) 1 30 [.long p0] g (fun r g' => ∃ x, r = some (.int x) ∧ K x g') := by
  refine MetA.introL (Lx := [some (.long p0), none]) (by decide) (Nat.le_of_ble_eq_true rfl) rfl rfl ?_
  intro E hEl hE hnm
  exact S_M_bounded_0 hE p0 g h0
theorem mt_M_bounded {Γ : GAM} {l : Launch} (p0 : Int64) (g : GH) (K : Int32 → GH → Prop) (h : Sp_M_bounded Γ p0 g K) : MetA Γ l yX11_bounded cX11_bounded 2 (some (.int)) 1 30 [.long p0] g (fun r g' => ∃ x, r = some (.int x) ∧ K x g') := by
  exact rl_M_bounded h
def b01 (p : Prop) (d : Decidable p) : Int32 := @ite Int32 p d 1 0
def sBoth (c a b : Int32) : Int32 :=
  if c = 43 then sBnd (a.toInt64 + b.toInt64) else if c = 45 then sBnd (a.toInt64 - b.toInt64) else if c = 42 then sBnd (a.toInt64 * b.toInt64)
  else if c = 61 then (if a = b then 1 else 0) else if c = 60 then (if a < b then 1 else 0) else if c = 62 then (if b < a then 1 else 0) else if c = 35 then (if a = b then 0 else 1)
  else if c = 38 then (if a = 0 then 0 else if b = 0 then 0 else 1) else if a = 0 then (if b = 0 then 0 else 1) else 1
def Sp_M_both (Γ : GAM) (c a b : Int32) (g : GH) (K : Int32 → GH → Prop) : Prop := K (sBoth c a b) g
-- the walk of M_both
set_option maxRecDepth 100000 in
def B_M_both_226 (Γ : GAM) (K : Int32 → GH → Prop) (s0 : Int32) (g : GH) : Prop :=
  K s0 g
set_option maxHeartbeats 4000000 in
set_option maxRecDepth 100000 in
theorem S_M_both_226 {Γ : GAM} {E : EV} {K : Int32 → GH → Prop} (hE : GE Γ E cX11_both 3 RX11 (some (.int)) 2 51 (fun r g' => ∃ x, r = some (.int x) ∧ K x g')) (s0 : Int32) (g : GH) (h : B_M_both_226 Γ K s0 g) : JW Γ E 226 [none, none, none] [.int s0] g := by
  unfold B_M_both_226 at h
  exact j_iret hE (by decide +kernel : decode cX11_both 226 = .ok (.ireturn, 1)) ⟨_, rfl, h⟩
set_option maxRecDepth 100000 in
def B_M_both_221 (Γ : GAM) (K : Int32 → GH → Prop)  (g : GH) : Prop :=
  B_M_both_226 Γ K (1 : Int32) g
set_option maxHeartbeats 4000000 in
set_option maxRecDepth 100000 in
theorem S_M_both_221 {Γ : GAM} {E : EV} {K : Int32 → GH → Prop} (hE : GE Γ E cX11_both 3 RX11 (some (.int)) 2 51 (fun r g' => ∃ x, r = some (.int x) ∧ K x g'))  (g : GH) (h : B_M_both_221 Γ K  g) : JW Γ E 221 [none, none, none] [] g := by
  unfold B_M_both_221 at h
  refine j_iconst hE (by decide +kernel : decode cX11_both 221 = .ok (.iconst 1, 1)) (v := (1 : Int32)) (by decide) ?_
  refine j_goto hE (by decide +kernel : decode cX11_both 222 = .ok (.goto 4, 3)) (tgt := 226) (by decide) ?_
  exact S_M_both_226 hE _ _ h
set_option maxRecDepth 100000 in
def B_M_both_212 (Γ : GAM) (K : Int32 → GH → Prop) (s0 : Int32) (g : GH) : Prop :=
  K s0 g
set_option maxHeartbeats 4000000 in
set_option maxRecDepth 100000 in
theorem S_M_both_212 {Γ : GAM} {E : EV} {K : Int32 → GH → Prop} (hE : GE Γ E cX11_both 3 RX11 (some (.int)) 2 51 (fun r g' => ∃ x, r = some (.int x) ∧ K x g')) (s0 : Int32) (g : GH) (h : B_M_both_212 Γ K s0 g) : JW Γ E 212 [none, none, none] [.int s0] g := by
  unfold B_M_both_212 at h
  exact j_iret hE (by decide +kernel : decode cX11_both 212 = .ok (.ireturn, 1)) ⟨_, rfl, h⟩
set_option maxRecDepth 100000 in
def B_M_both_211 (Γ : GAM) (K : Int32 → GH → Prop)  (g : GH) : Prop :=
  B_M_both_212 Γ K (0 : Int32) g
set_option maxHeartbeats 4000000 in
set_option maxRecDepth 100000 in
theorem S_M_both_211 {Γ : GAM} {E : EV} {K : Int32 → GH → Prop} (hE : GE Γ E cX11_both 3 RX11 (some (.int)) 2 51 (fun r g' => ∃ x, r = some (.int x) ∧ K x g'))  (g : GH) (h : B_M_both_211 Γ K  g) : JW Γ E 211 [none, none, none] [] g := by
  unfold B_M_both_211 at h
  refine j_iconst hE (by decide +kernel : decode cX11_both 211 = .ok (.iconst 0, 1)) (v := (0 : Int32)) (by decide) ?_
  exact S_M_both_212 hE _ _ h
set_option maxRecDepth 100000 in
def B_M_both_198 (Γ : GAM) (K : Int32 → GH → Prop) (s0 : Int32) (g : GH) : Prop :=
  K s0 g
set_option maxHeartbeats 4000000 in
set_option maxRecDepth 100000 in
theorem S_M_both_198 {Γ : GAM} {E : EV} {K : Int32 → GH → Prop} (hE : GE Γ E cX11_both 3 RX11 (some (.int)) 2 51 (fun r g' => ∃ x, r = some (.int x) ∧ K x g')) (s0 : Int32) (g : GH) (h : B_M_both_198 Γ K s0 g) : JW Γ E 198 [none, none, none] [.int s0] g := by
  unfold B_M_both_198 at h
  exact j_iret hE (by decide +kernel : decode cX11_both 198 = .ok (.ireturn, 1)) ⟨_, rfl, h⟩
set_option maxRecDepth 100000 in
def B_M_both_187 (Γ : GAM) (K : Int32 → GH → Prop) (s0 : Int32) (g : GH) : Prop :=
  K s0 g
set_option maxHeartbeats 4000000 in
set_option maxRecDepth 100000 in
theorem S_M_both_187 {Γ : GAM} {E : EV} {K : Int32 → GH → Prop} (hE : GE Γ E cX11_both 3 RX11 (some (.int)) 2 51 (fun r g' => ∃ x, r = some (.int x) ∧ K x g')) (s0 : Int32) (g : GH) (h : B_M_both_187 Γ K s0 g) : JW Γ E 187 [none, none, none] [.int s0] g := by
  unfold B_M_both_187 at h
  exact j_iret hE (by decide +kernel : decode cX11_both 187 = .ok (.ireturn, 1)) ⟨_, rfl, h⟩
set_option maxRecDepth 100000 in
def B_M_both_176 (Γ : GAM) (K : Int32 → GH → Prop) (s0 : Int32) (g : GH) : Prop :=
  K s0 g
set_option maxHeartbeats 4000000 in
set_option maxRecDepth 100000 in
theorem S_M_both_176 {Γ : GAM} {E : EV} {K : Int32 → GH → Prop} (hE : GE Γ E cX11_both 3 RX11 (some (.int)) 2 51 (fun r g' => ∃ x, r = some (.int x) ∧ K x g')) (s0 : Int32) (g : GH) (h : B_M_both_176 Γ K s0 g) : JW Γ E 176 [none, none, none] [.int s0] g := by
  unfold B_M_both_176 at h
  exact j_iret hE (by decide +kernel : decode cX11_both 176 = .ok (.ireturn, 1)) ⟨_, rfl, h⟩
set_option maxRecDepth 100000 in
def B_M_both_165 (Γ : GAM) (K : Int32 → GH → Prop) (s0 : Int32) (g : GH) : Prop :=
  K s0 g
set_option maxHeartbeats 4000000 in
set_option maxRecDepth 100000 in
theorem S_M_both_165 {Γ : GAM} {E : EV} {K : Int32 → GH → Prop} (hE : GE Γ E cX11_both 3 RX11 (some (.int)) 2 51 (fun r g' => ∃ x, r = some (.int x) ∧ K x g')) (s0 : Int32) (g : GH) (h : B_M_both_165 Γ K s0 g) : JW Γ E 165 [none, none, none] [.int s0] g := by
  unfold B_M_both_165 at h
  exact j_iret hE (by decide +kernel : decode cX11_both 165 = .ok (.ireturn, 1)) ⟨_, rfl, h⟩
set_option maxRecDepth 100000 in
def B_M_both_0 (Γ : GAM) (K : Int32 → GH → Prop) (p0 : Int32) (p1 : Int32) (p2 : Int32) (g : GH) : Prop :=
  ((p0 = (35 : Int32) → ((p1 = p2 → B_M_both_198 Γ K (0 : Int32) g) ∧ (¬ (p1 = p2) → B_M_both_198 Γ K (1 : Int32) g))) ∧ (¬ (p0 = (35 : Int32)) → ((p0 = (38 : Int32) → ((p1 = 0 → B_M_both_211 Γ K g) ∧ (¬ (p1 = 0) → ((p2 = 0 → B_M_both_211 Γ K g) ∧ (¬ (p2 = 0) → B_M_both_212 Γ K (1 : Int32) g))))) ∧ (¬ (p0 = (38 : Int32)) → ((p0 = (42 : Int32) → Sp_M_bounded Γ ((p1.toInt64) * (p2.toInt64)) g (fun (x2 : Int32) (g1 : GH) => K x2 g1)) ∧ (¬ (p0 = (42 : Int32)) → ((p0 = (43 : Int32) → Sp_M_bounded Γ ((p1.toInt64) + (p2.toInt64)) g (fun (x4 : Int32) (g3 : GH) => K x4 g3)) ∧ (¬ (p0 = (43 : Int32)) → ((p0 = (45 : Int32) → Sp_M_bounded Γ ((p1.toInt64) - (p2.toInt64)) g (fun (x6 : Int32) (g5 : GH) => K x6 g5)) ∧ (¬ (p0 = (45 : Int32)) → ((p0 = (60 : Int32) → ((p2 ≤ p1 → B_M_both_176 Γ K (0 : Int32) g) ∧ (¬ (p2 ≤ p1) → B_M_both_176 Γ K (1 : Int32) g))) ∧ (¬ (p0 = (60 : Int32)) → ((p0 = (61 : Int32) → ((¬ (p1 = p2) → B_M_both_165 Γ K (0 : Int32) g) ∧ (p1 = p2 → B_M_both_165 Γ K (1 : Int32) g))) ∧ (¬ (p0 = (61 : Int32)) → ((p0 = (62 : Int32) → ((p1 ≤ p2 → B_M_both_187 Γ K (0 : Int32) g) ∧ (¬ (p1 ≤ p2) → B_M_both_187 Γ K (1 : Int32) g))) ∧ (¬ (p0 = (62 : Int32)) → ((¬ (p1 = 0) → B_M_both_221 Γ K g) ∧ (p1 = 0 → ((p2 = 0 → B_M_both_226 Γ K (0 : Int32) g) ∧ (¬ (p2 = 0) → B_M_both_221 Γ K g))))))))))))))))))))
set_option maxHeartbeats 4000000 in
set_option maxRecDepth 100000 in
theorem S_M_both_0 {Γ : GAM} {E : EV} {K : Int32 → GH → Prop} (hE : GE Γ E cX11_both 3 RX11 (some (.int)) 2 51 (fun r g' => ∃ x, r = some (.int x) ∧ K x g')) (p0 : Int32) (p1 : Int32) (p2 : Int32) (g : GH) (h : B_M_both_0 Γ K p0 p1 p2 g) : JW Γ E 0 [some (.int p0), some (.int p1), some (.int p2)] [] g := by
  unfold B_M_both_0 at h
  refine j_iload_n hE (by decide +kernel : decode cX11_both 0 = .ok (.iload_n 0, 1)) rfl rfl ?_
  by_cases q0 : p0 = (35 : Int32)
  · replace h := h.1 q0
    refine j_tableIn hE (by decide +kernel : decode cX11_both 1 = .ok (.tableswitch 212 35 62 #[187, 212, 212, 198, 212, 212, 212, 145, 127, 212, 136, 212, 212, 212, 212, 212, 212, 212, 212, 212, 212, 212, 212, 212, 212, 165, 154, 176], 127)) (by rw [q0]; decide) (by rw [q0]; decide) (off := 187) (by rw [q0]; decide) (tgt := 188) (by decide) ?_
    refine j_iload_n hE (by decide +kernel : decode cX11_both 188 = .ok (.iload_n 1, 1)) rfl rfl ?_
    refine j_iload_n hE (by decide +kernel : decode cX11_both 189 = .ok (.iload_n 2, 1)) rfl rfl ?_
    refine j_icmp_eq hE (by decide +kernel : decode cX11_both 190 = .ok (.if_icmp .eq 7, 3)) (tgt := 197) (by decide) (fun q => ?_) (fun q => ?_)
    · replace h := h.1 q
      refine j_iconst hE (by decide +kernel : decode cX11_both 197 = .ok (.iconst 0, 1)) (v := (0 : Int32)) (by decide) ?_
      refine j_weak [none, none, none] trivial ?_
      exact S_M_both_198 hE _ _ h
    · replace h := h.2 q
      refine j_iconst hE (by decide +kernel : decode cX11_both 193 = .ok (.iconst 1, 1)) (v := (1 : Int32)) (by decide) ?_
      refine j_goto hE (by decide +kernel : decode cX11_both 194 = .ok (.goto 4, 3)) (tgt := 198) (by decide) ?_
      refine j_weak [none, none, none] trivial ?_
      exact S_M_both_198 hE _ _ h
  · replace h := h.2 q0
    by_cases q1 : p0 = (38 : Int32)
    · replace h := h.1 q1
      refine j_tableIn hE (by decide +kernel : decode cX11_both 1 = .ok (.tableswitch 212 35 62 #[187, 212, 212, 198, 212, 212, 212, 145, 127, 212, 136, 212, 212, 212, 212, 212, 212, 212, 212, 212, 212, 212, 212, 212, 212, 165, 154, 176], 127)) (by rw [q1]; decide) (by rw [q1]; decide) (off := 198) (by rw [q1]; decide) (tgt := 199) (by decide) ?_
      refine j_iload_n hE (by decide +kernel : decode cX11_both 199 = .ok (.iload_n 1, 1)) rfl rfl ?_
      refine j_if_eq hE (by decide +kernel : decode cX11_both 200 = .ok (.ifCond .eq 11, 3)) (tgt := 211) (by decide) (fun q => ?_) (fun q => ?_)
      · replace h := h.1 q
        refine j_weak [none, none, none] trivial ?_
        exact S_M_both_211 hE _ h
      · replace h := h.2 q
        refine j_iload_n hE (by decide +kernel : decode cX11_both 203 = .ok (.iload_n 2, 1)) rfl rfl ?_
        refine j_if_eq hE (by decide +kernel : decode cX11_both 204 = .ok (.ifCond .eq 7, 3)) (tgt := 211) (by decide) (fun q => ?_) (fun q => ?_)
        · replace h := h.1 q
          refine j_weak [none, none, none] trivial ?_
          exact S_M_both_211 hE _ h
        · replace h := h.2 q
          refine j_iconst hE (by decide +kernel : decode cX11_both 207 = .ok (.iconst 1, 1)) (v := (1 : Int32)) (by decide) ?_
          refine j_goto hE (by decide +kernel : decode cX11_both 208 = .ok (.goto 4, 3)) (tgt := 212) (by decide) ?_
          refine j_weak [none, none, none] trivial ?_
          exact S_M_both_212 hE _ _ h
    · replace h := h.2 q1
      by_cases q2 : p0 = (42 : Int32)
      · replace h := h.1 q2
        refine j_tableIn hE (by decide +kernel : decode cX11_both 1 = .ok (.tableswitch 212 35 62 #[187, 212, 212, 198, 212, 212, 212, 145, 127, 212, 136, 212, 212, 212, 212, 212, 212, 212, 212, 212, 212, 212, 212, 212, 212, 165, 154, 176], 127)) (by rw [q2]; decide) (by rw [q2]; decide) (off := 145) (by rw [q2]; decide) (tgt := 146) (by decide) ?_
        refine j_iload_n hE (by decide +kernel : decode cX11_both 146 = .ok (.iload_n 1, 1)) rfl rfl ?_
        refine j_i2l hE (by decide +kernel : decode cX11_both 147 = .ok (.i2l, 1)) ?_
        refine j_iload_n hE (by decide +kernel : decode cX11_both 148 = .ok (.iload_n 2, 1)) rfl rfl ?_
        refine j_i2l hE (by decide +kernel : decode cX11_both 149 = .ok (.i2l, 1)) ?_
        refine j_lmul hE (by decide +kernel : decode cX11_both 150 = .ok (.lmul, 1)) ?_
        refine j_callS hE rfl cl_X11_405 st_X11_bounded ⟨by omega, by omega⟩ (As := [.long ((p1.toInt64) * (p2.toInt64))]) (rest := []) rfl rfl (Nat.le_of_ble_eq_true rfl) (by decide +kernel : decode cX11_both 151 = .ok (.invokestatic 405, 3)) (mt_M_bounded _ _ _ h) ?_
        rintro _ g1 ⟨x2, rfl, h⟩
        exact j_iret hE (by decide +kernel : decode cX11_both 154 = .ok (.ireturn, 1)) ⟨_, rfl, h⟩
      · replace h := h.2 q2
        by_cases q3 : p0 = (43 : Int32)
        · replace h := h.1 q3
          refine j_tableIn hE (by decide +kernel : decode cX11_both 1 = .ok (.tableswitch 212 35 62 #[187, 212, 212, 198, 212, 212, 212, 145, 127, 212, 136, 212, 212, 212, 212, 212, 212, 212, 212, 212, 212, 212, 212, 212, 212, 165, 154, 176], 127)) (by rw [q3]; decide) (by rw [q3]; decide) (off := 127) (by rw [q3]; decide) (tgt := 128) (by decide) ?_
          refine j_iload_n hE (by decide +kernel : decode cX11_both 128 = .ok (.iload_n 1, 1)) rfl rfl ?_
          refine j_i2l hE (by decide +kernel : decode cX11_both 129 = .ok (.i2l, 1)) ?_
          refine j_iload_n hE (by decide +kernel : decode cX11_both 130 = .ok (.iload_n 2, 1)) rfl rfl ?_
          refine j_i2l hE (by decide +kernel : decode cX11_both 131 = .ok (.i2l, 1)) ?_
          refine j_ladd hE (by decide +kernel : decode cX11_both 132 = .ok (.ladd, 1)) ?_
          refine j_callS hE rfl cl_X11_405 st_X11_bounded ⟨by omega, by omega⟩ (As := [.long ((p1.toInt64) + (p2.toInt64))]) (rest := []) rfl rfl (Nat.le_of_ble_eq_true rfl) (by decide +kernel : decode cX11_both 133 = .ok (.invokestatic 405, 3)) (mt_M_bounded _ _ _ h) ?_
          rintro _ g3 ⟨x4, rfl, h⟩
          exact j_iret hE (by decide +kernel : decode cX11_both 136 = .ok (.ireturn, 1)) ⟨_, rfl, h⟩
        · replace h := h.2 q3
          by_cases q4 : p0 = (45 : Int32)
          · replace h := h.1 q4
            refine j_tableIn hE (by decide +kernel : decode cX11_both 1 = .ok (.tableswitch 212 35 62 #[187, 212, 212, 198, 212, 212, 212, 145, 127, 212, 136, 212, 212, 212, 212, 212, 212, 212, 212, 212, 212, 212, 212, 212, 212, 165, 154, 176], 127)) (by rw [q4]; decide) (by rw [q4]; decide) (off := 136) (by rw [q4]; decide) (tgt := 137) (by decide) ?_
            refine j_iload_n hE (by decide +kernel : decode cX11_both 137 = .ok (.iload_n 1, 1)) rfl rfl ?_
            refine j_i2l hE (by decide +kernel : decode cX11_both 138 = .ok (.i2l, 1)) ?_
            refine j_iload_n hE (by decide +kernel : decode cX11_both 139 = .ok (.iload_n 2, 1)) rfl rfl ?_
            refine j_i2l hE (by decide +kernel : decode cX11_both 140 = .ok (.i2l, 1)) ?_
            refine j_lsub hE (by decide +kernel : decode cX11_both 141 = .ok (.lsub, 1)) ?_
            refine j_callS hE rfl cl_X11_405 st_X11_bounded ⟨by omega, by omega⟩ (As := [.long ((p1.toInt64) - (p2.toInt64))]) (rest := []) rfl rfl (Nat.le_of_ble_eq_true rfl) (by decide +kernel : decode cX11_both 142 = .ok (.invokestatic 405, 3)) (mt_M_bounded _ _ _ h) ?_
            rintro _ g5 ⟨x6, rfl, h⟩
            exact j_iret hE (by decide +kernel : decode cX11_both 145 = .ok (.ireturn, 1)) ⟨_, rfl, h⟩
          · replace h := h.2 q4
            by_cases q5 : p0 = (60 : Int32)
            · replace h := h.1 q5
              refine j_tableIn hE (by decide +kernel : decode cX11_both 1 = .ok (.tableswitch 212 35 62 #[187, 212, 212, 198, 212, 212, 212, 145, 127, 212, 136, 212, 212, 212, 212, 212, 212, 212, 212, 212, 212, 212, 212, 212, 212, 165, 154, 176], 127)) (by rw [q5]; decide) (by rw [q5]; decide) (off := 165) (by rw [q5]; decide) (tgt := 166) (by decide) ?_
              refine j_iload_n hE (by decide +kernel : decode cX11_both 166 = .ok (.iload_n 1, 1)) rfl rfl ?_
              refine j_iload_n hE (by decide +kernel : decode cX11_both 167 = .ok (.iload_n 2, 1)) rfl rfl ?_
              refine j_icmp_ge hE (by decide +kernel : decode cX11_both 168 = .ok (.if_icmp .ge 7, 3)) (tgt := 175) (by decide) (fun q => ?_) (fun q => ?_)
              · replace h := h.1 q
                refine j_iconst hE (by decide +kernel : decode cX11_both 175 = .ok (.iconst 0, 1)) (v := (0 : Int32)) (by decide) ?_
                refine j_weak [none, none, none] trivial ?_
                exact S_M_both_176 hE _ _ h
              · replace h := h.2 q
                refine j_iconst hE (by decide +kernel : decode cX11_both 171 = .ok (.iconst 1, 1)) (v := (1 : Int32)) (by decide) ?_
                refine j_goto hE (by decide +kernel : decode cX11_both 172 = .ok (.goto 4, 3)) (tgt := 176) (by decide) ?_
                refine j_weak [none, none, none] trivial ?_
                exact S_M_both_176 hE _ _ h
            · replace h := h.2 q5
              by_cases q6 : p0 = (61 : Int32)
              · replace h := h.1 q6
                refine j_tableIn hE (by decide +kernel : decode cX11_both 1 = .ok (.tableswitch 212 35 62 #[187, 212, 212, 198, 212, 212, 212, 145, 127, 212, 136, 212, 212, 212, 212, 212, 212, 212, 212, 212, 212, 212, 212, 212, 212, 165, 154, 176], 127)) (by rw [q6]; decide) (by rw [q6]; decide) (off := 154) (by rw [q6]; decide) (tgt := 155) (by decide) ?_
                refine j_iload_n hE (by decide +kernel : decode cX11_both 155 = .ok (.iload_n 1, 1)) rfl rfl ?_
                refine j_iload_n hE (by decide +kernel : decode cX11_both 156 = .ok (.iload_n 2, 1)) rfl rfl ?_
                refine j_icmp_ne hE (by decide +kernel : decode cX11_both 157 = .ok (.if_icmp .ne 7, 3)) (tgt := 164) (by decide) (fun q => ?_) (fun q => ?_)
                · replace h := h.1 q
                  refine j_iconst hE (by decide +kernel : decode cX11_both 164 = .ok (.iconst 0, 1)) (v := (0 : Int32)) (by decide) ?_
                  refine j_weak [none, none, none] trivial ?_
                  exact S_M_both_165 hE _ _ h
                · replace h := h.2 q
                  refine j_iconst hE (by decide +kernel : decode cX11_both 160 = .ok (.iconst 1, 1)) (v := (1 : Int32)) (by decide) ?_
                  refine j_goto hE (by decide +kernel : decode cX11_both 161 = .ok (.goto 4, 3)) (tgt := 165) (by decide) ?_
                  refine j_weak [none, none, none] trivial ?_
                  exact S_M_both_165 hE _ _ h
              · replace h := h.2 q6
                by_cases q7 : p0 = (62 : Int32)
                · replace h := h.1 q7
                  refine j_tableIn hE (by decide +kernel : decode cX11_both 1 = .ok (.tableswitch 212 35 62 #[187, 212, 212, 198, 212, 212, 212, 145, 127, 212, 136, 212, 212, 212, 212, 212, 212, 212, 212, 212, 212, 212, 212, 212, 212, 165, 154, 176], 127)) (by rw [q7]; decide) (by rw [q7]; decide) (off := 176) (by rw [q7]; decide) (tgt := 177) (by decide) ?_
                  refine j_iload_n hE (by decide +kernel : decode cX11_both 177 = .ok (.iload_n 1, 1)) rfl rfl ?_
                  refine j_iload_n hE (by decide +kernel : decode cX11_both 178 = .ok (.iload_n 2, 1)) rfl rfl ?_
                  refine j_icmp_le hE (by decide +kernel : decode cX11_both 179 = .ok (.if_icmp .le 7, 3)) (tgt := 186) (by decide) (fun q => ?_) (fun q => ?_)
                  · replace h := h.1 q
                    refine j_iconst hE (by decide +kernel : decode cX11_both 186 = .ok (.iconst 0, 1)) (v := (0 : Int32)) (by decide) ?_
                    refine j_weak [none, none, none] trivial ?_
                    exact S_M_both_187 hE _ _ h
                  · replace h := h.2 q
                    refine j_iconst hE (by decide +kernel : decode cX11_both 182 = .ok (.iconst 1, 1)) (v := (1 : Int32)) (by decide) ?_
                    refine j_goto hE (by decide +kernel : decode cX11_both 183 = .ok (.goto 4, 3)) (tgt := 187) (by decide) ?_
                    refine j_weak [none, none, none] trivial ?_
                    exact S_M_both_187 hE _ _ h
                · replace h := h.2 q7
                  have hD : JW Γ E 213 [some (.int p0), some (.int p1), some (.int p2)] [] g := by
                    refine j_iload_n hE (by decide +kernel : decode cX11_both 213 = .ok (.iload_n 1, 1)) rfl rfl ?_
                    refine j_if_ne hE (by decide +kernel : decode cX11_both 214 = .ok (.ifCond .ne 7, 3)) (tgt := 221) (by decide) (fun q => ?_) (fun q => ?_)
                    · replace h := h.1 q
                      refine j_weak [none, none, none] trivial ?_
                      exact S_M_both_221 hE _ h
                    · replace h := h.2 q
                      refine j_iload_n hE (by decide +kernel : decode cX11_both 217 = .ok (.iload_n 2, 1)) rfl rfl ?_
                      refine j_if_eq hE (by decide +kernel : decode cX11_both 218 = .ok (.ifCond .eq 7, 3)) (tgt := 225) (by decide) (fun q => ?_) (fun q => ?_)
                      · replace h := h.1 q
                        refine j_iconst hE (by decide +kernel : decode cX11_both 225 = .ok (.iconst 0, 1)) (v := (0 : Int32)) (by decide) ?_
                        refine j_weak [none, none, none] trivial ?_
                        exact S_M_both_226 hE _ _ h
                      · replace h := h.2 q
                        refine j_weak [none, none, none] trivial ?_
                        exact S_M_both_221 hE _ h
                  by_cases u1 : p0 = (36 : Int32)
                  · exact j_tableIn hE (by decide +kernel : decode cX11_both 1 = .ok (.tableswitch 212 35 62 #[187, 212, 212, 198, 212, 212, 212, 145, 127, 212, 136, 212, 212, 212, 212, 212, 212, 212, 212, 212, 212, 212, 212, 212, 212, 165, 154, 176], 127)) (by rw [u1]; decide) (by rw [u1]; decide) (off := 212) (by rw [u1]; decide) (tgt := 213) (by decide) hD
                  by_cases u2 : p0 = (37 : Int32)
                  · exact j_tableIn hE (by decide +kernel : decode cX11_both 1 = .ok (.tableswitch 212 35 62 #[187, 212, 212, 198, 212, 212, 212, 145, 127, 212, 136, 212, 212, 212, 212, 212, 212, 212, 212, 212, 212, 212, 212, 212, 212, 165, 154, 176], 127)) (by rw [u2]; decide) (by rw [u2]; decide) (off := 212) (by rw [u2]; decide) (tgt := 213) (by decide) hD
                  by_cases u4 : p0 = (39 : Int32)
                  · exact j_tableIn hE (by decide +kernel : decode cX11_both 1 = .ok (.tableswitch 212 35 62 #[187, 212, 212, 198, 212, 212, 212, 145, 127, 212, 136, 212, 212, 212, 212, 212, 212, 212, 212, 212, 212, 212, 212, 212, 212, 165, 154, 176], 127)) (by rw [u4]; decide) (by rw [u4]; decide) (off := 212) (by rw [u4]; decide) (tgt := 213) (by decide) hD
                  by_cases u5 : p0 = (40 : Int32)
                  · exact j_tableIn hE (by decide +kernel : decode cX11_both 1 = .ok (.tableswitch 212 35 62 #[187, 212, 212, 198, 212, 212, 212, 145, 127, 212, 136, 212, 212, 212, 212, 212, 212, 212, 212, 212, 212, 212, 212, 212, 212, 165, 154, 176], 127)) (by rw [u5]; decide) (by rw [u5]; decide) (off := 212) (by rw [u5]; decide) (tgt := 213) (by decide) hD
                  by_cases u6 : p0 = (41 : Int32)
                  · exact j_tableIn hE (by decide +kernel : decode cX11_both 1 = .ok (.tableswitch 212 35 62 #[187, 212, 212, 198, 212, 212, 212, 145, 127, 212, 136, 212, 212, 212, 212, 212, 212, 212, 212, 212, 212, 212, 212, 212, 212, 165, 154, 176], 127)) (by rw [u6]; decide) (by rw [u6]; decide) (off := 212) (by rw [u6]; decide) (tgt := 213) (by decide) hD
                  by_cases u9 : p0 = (44 : Int32)
                  · exact j_tableIn hE (by decide +kernel : decode cX11_both 1 = .ok (.tableswitch 212 35 62 #[187, 212, 212, 198, 212, 212, 212, 145, 127, 212, 136, 212, 212, 212, 212, 212, 212, 212, 212, 212, 212, 212, 212, 212, 212, 165, 154, 176], 127)) (by rw [u9]; decide) (by rw [u9]; decide) (off := 212) (by rw [u9]; decide) (tgt := 213) (by decide) hD
                  by_cases u11 : p0 = (46 : Int32)
                  · exact j_tableIn hE (by decide +kernel : decode cX11_both 1 = .ok (.tableswitch 212 35 62 #[187, 212, 212, 198, 212, 212, 212, 145, 127, 212, 136, 212, 212, 212, 212, 212, 212, 212, 212, 212, 212, 212, 212, 212, 212, 165, 154, 176], 127)) (by rw [u11]; decide) (by rw [u11]; decide) (off := 212) (by rw [u11]; decide) (tgt := 213) (by decide) hD
                  by_cases u12 : p0 = (47 : Int32)
                  · exact j_tableIn hE (by decide +kernel : decode cX11_both 1 = .ok (.tableswitch 212 35 62 #[187, 212, 212, 198, 212, 212, 212, 145, 127, 212, 136, 212, 212, 212, 212, 212, 212, 212, 212, 212, 212, 212, 212, 212, 212, 165, 154, 176], 127)) (by rw [u12]; decide) (by rw [u12]; decide) (off := 212) (by rw [u12]; decide) (tgt := 213) (by decide) hD
                  by_cases u13 : p0 = (48 : Int32)
                  · exact j_tableIn hE (by decide +kernel : decode cX11_both 1 = .ok (.tableswitch 212 35 62 #[187, 212, 212, 198, 212, 212, 212, 145, 127, 212, 136, 212, 212, 212, 212, 212, 212, 212, 212, 212, 212, 212, 212, 212, 212, 165, 154, 176], 127)) (by rw [u13]; decide) (by rw [u13]; decide) (off := 212) (by rw [u13]; decide) (tgt := 213) (by decide) hD
                  by_cases u14 : p0 = (49 : Int32)
                  · exact j_tableIn hE (by decide +kernel : decode cX11_both 1 = .ok (.tableswitch 212 35 62 #[187, 212, 212, 198, 212, 212, 212, 145, 127, 212, 136, 212, 212, 212, 212, 212, 212, 212, 212, 212, 212, 212, 212, 212, 212, 165, 154, 176], 127)) (by rw [u14]; decide) (by rw [u14]; decide) (off := 212) (by rw [u14]; decide) (tgt := 213) (by decide) hD
                  by_cases u15 : p0 = (50 : Int32)
                  · exact j_tableIn hE (by decide +kernel : decode cX11_both 1 = .ok (.tableswitch 212 35 62 #[187, 212, 212, 198, 212, 212, 212, 145, 127, 212, 136, 212, 212, 212, 212, 212, 212, 212, 212, 212, 212, 212, 212, 212, 212, 165, 154, 176], 127)) (by rw [u15]; decide) (by rw [u15]; decide) (off := 212) (by rw [u15]; decide) (tgt := 213) (by decide) hD
                  by_cases u16 : p0 = (51 : Int32)
                  · exact j_tableIn hE (by decide +kernel : decode cX11_both 1 = .ok (.tableswitch 212 35 62 #[187, 212, 212, 198, 212, 212, 212, 145, 127, 212, 136, 212, 212, 212, 212, 212, 212, 212, 212, 212, 212, 212, 212, 212, 212, 165, 154, 176], 127)) (by rw [u16]; decide) (by rw [u16]; decide) (off := 212) (by rw [u16]; decide) (tgt := 213) (by decide) hD
                  by_cases u17 : p0 = (52 : Int32)
                  · exact j_tableIn hE (by decide +kernel : decode cX11_both 1 = .ok (.tableswitch 212 35 62 #[187, 212, 212, 198, 212, 212, 212, 145, 127, 212, 136, 212, 212, 212, 212, 212, 212, 212, 212, 212, 212, 212, 212, 212, 212, 165, 154, 176], 127)) (by rw [u17]; decide) (by rw [u17]; decide) (off := 212) (by rw [u17]; decide) (tgt := 213) (by decide) hD
                  by_cases u18 : p0 = (53 : Int32)
                  · exact j_tableIn hE (by decide +kernel : decode cX11_both 1 = .ok (.tableswitch 212 35 62 #[187, 212, 212, 198, 212, 212, 212, 145, 127, 212, 136, 212, 212, 212, 212, 212, 212, 212, 212, 212, 212, 212, 212, 212, 212, 165, 154, 176], 127)) (by rw [u18]; decide) (by rw [u18]; decide) (off := 212) (by rw [u18]; decide) (tgt := 213) (by decide) hD
                  by_cases u19 : p0 = (54 : Int32)
                  · exact j_tableIn hE (by decide +kernel : decode cX11_both 1 = .ok (.tableswitch 212 35 62 #[187, 212, 212, 198, 212, 212, 212, 145, 127, 212, 136, 212, 212, 212, 212, 212, 212, 212, 212, 212, 212, 212, 212, 212, 212, 165, 154, 176], 127)) (by rw [u19]; decide) (by rw [u19]; decide) (off := 212) (by rw [u19]; decide) (tgt := 213) (by decide) hD
                  by_cases u20 : p0 = (55 : Int32)
                  · exact j_tableIn hE (by decide +kernel : decode cX11_both 1 = .ok (.tableswitch 212 35 62 #[187, 212, 212, 198, 212, 212, 212, 145, 127, 212, 136, 212, 212, 212, 212, 212, 212, 212, 212, 212, 212, 212, 212, 212, 212, 165, 154, 176], 127)) (by rw [u20]; decide) (by rw [u20]; decide) (off := 212) (by rw [u20]; decide) (tgt := 213) (by decide) hD
                  by_cases u21 : p0 = (56 : Int32)
                  · exact j_tableIn hE (by decide +kernel : decode cX11_both 1 = .ok (.tableswitch 212 35 62 #[187, 212, 212, 198, 212, 212, 212, 145, 127, 212, 136, 212, 212, 212, 212, 212, 212, 212, 212, 212, 212, 212, 212, 212, 212, 165, 154, 176], 127)) (by rw [u21]; decide) (by rw [u21]; decide) (off := 212) (by rw [u21]; decide) (tgt := 213) (by decide) hD
                  by_cases u22 : p0 = (57 : Int32)
                  · exact j_tableIn hE (by decide +kernel : decode cX11_both 1 = .ok (.tableswitch 212 35 62 #[187, 212, 212, 198, 212, 212, 212, 145, 127, 212, 136, 212, 212, 212, 212, 212, 212, 212, 212, 212, 212, 212, 212, 212, 212, 165, 154, 176], 127)) (by rw [u22]; decide) (by rw [u22]; decide) (off := 212) (by rw [u22]; decide) (tgt := 213) (by decide) hD
                  by_cases u23 : p0 = (58 : Int32)
                  · exact j_tableIn hE (by decide +kernel : decode cX11_both 1 = .ok (.tableswitch 212 35 62 #[187, 212, 212, 198, 212, 212, 212, 145, 127, 212, 136, 212, 212, 212, 212, 212, 212, 212, 212, 212, 212, 212, 212, 212, 212, 165, 154, 176], 127)) (by rw [u23]; decide) (by rw [u23]; decide) (off := 212) (by rw [u23]; decide) (tgt := 213) (by decide) hD
                  by_cases u24 : p0 = (59 : Int32)
                  · exact j_tableIn hE (by decide +kernel : decode cX11_both 1 = .ok (.tableswitch 212 35 62 #[187, 212, 212, 198, 212, 212, 212, 145, 127, 212, 136, 212, 212, 212, 212, 212, 212, 212, 212, 212, 212, 212, 212, 212, 212, 165, 154, 176], 127)) (by rw [u24]; decide) (by rw [u24]; decide) (off := 212) (by rw [u24]; decide) (tgt := 213) (by decide) hD
                  have qq : (p0).toInt < 35 ∨ 62 < (p0).toInt := by
                    have z0 : ¬ (p0).toInt = 35 := fun e => q0 (Int32.toInt_inj.mp (e.trans (by decide)))
                    have z3 : ¬ (p0).toInt = 38 := fun e => q1 (Int32.toInt_inj.mp (e.trans (by decide)))
                    have z7 : ¬ (p0).toInt = 42 := fun e => q2 (Int32.toInt_inj.mp (e.trans (by decide)))
                    have z8 : ¬ (p0).toInt = 43 := fun e => q3 (Int32.toInt_inj.mp (e.trans (by decide)))
                    have z10 : ¬ (p0).toInt = 45 := fun e => q4 (Int32.toInt_inj.mp (e.trans (by decide)))
                    have z25 : ¬ (p0).toInt = 60 := fun e => q5 (Int32.toInt_inj.mp (e.trans (by decide)))
                    have z26 : ¬ (p0).toInt = 61 := fun e => q6 (Int32.toInt_inj.mp (e.trans (by decide)))
                    have z27 : ¬ (p0).toInt = 62 := fun e => q7 (Int32.toInt_inj.mp (e.trans (by decide)))
                    have z1 : ¬ (p0).toInt = 36 := fun e => u1 (Int32.toInt_inj.mp (e.trans (by decide)))
                    have z2 : ¬ (p0).toInt = 37 := fun e => u2 (Int32.toInt_inj.mp (e.trans (by decide)))
                    have z4 : ¬ (p0).toInt = 39 := fun e => u4 (Int32.toInt_inj.mp (e.trans (by decide)))
                    have z5 : ¬ (p0).toInt = 40 := fun e => u5 (Int32.toInt_inj.mp (e.trans (by decide)))
                    have z6 : ¬ (p0).toInt = 41 := fun e => u6 (Int32.toInt_inj.mp (e.trans (by decide)))
                    have z9 : ¬ (p0).toInt = 44 := fun e => u9 (Int32.toInt_inj.mp (e.trans (by decide)))
                    have z11 : ¬ (p0).toInt = 46 := fun e => u11 (Int32.toInt_inj.mp (e.trans (by decide)))
                    have z12 : ¬ (p0).toInt = 47 := fun e => u12 (Int32.toInt_inj.mp (e.trans (by decide)))
                    have z13 : ¬ (p0).toInt = 48 := fun e => u13 (Int32.toInt_inj.mp (e.trans (by decide)))
                    have z14 : ¬ (p0).toInt = 49 := fun e => u14 (Int32.toInt_inj.mp (e.trans (by decide)))
                    have z15 : ¬ (p0).toInt = 50 := fun e => u15 (Int32.toInt_inj.mp (e.trans (by decide)))
                    have z16 : ¬ (p0).toInt = 51 := fun e => u16 (Int32.toInt_inj.mp (e.trans (by decide)))
                    have z17 : ¬ (p0).toInt = 52 := fun e => u17 (Int32.toInt_inj.mp (e.trans (by decide)))
                    have z18 : ¬ (p0).toInt = 53 := fun e => u18 (Int32.toInt_inj.mp (e.trans (by decide)))
                    have z19 : ¬ (p0).toInt = 54 := fun e => u19 (Int32.toInt_inj.mp (e.trans (by decide)))
                    have z20 : ¬ (p0).toInt = 55 := fun e => u20 (Int32.toInt_inj.mp (e.trans (by decide)))
                    have z21 : ¬ (p0).toInt = 56 := fun e => u21 (Int32.toInt_inj.mp (e.trans (by decide)))
                    have z22 : ¬ (p0).toInt = 57 := fun e => u22 (Int32.toInt_inj.mp (e.trans (by decide)))
                    have z23 : ¬ (p0).toInt = 58 := fun e => u23 (Int32.toInt_inj.mp (e.trans (by decide)))
                    have z24 : ¬ (p0).toInt = 59 := fun e => u24 (Int32.toInt_inj.mp (e.trans (by decide)))
                    omega
                  exact j_tableOut hE (by decide +kernel : decode cX11_both 1 = .ok (.tableswitch 212 35 62 #[187, 212, 212, 198, 212, 212, 212, 145, 127, 212, 136, 212, 212, 212, 212, 212, 212, 212, 212, 212, 212, 212, 212, 212, 212, 165, 154, 176], 127)) qq (tgt := 213) (by decide) hD
set_option maxHeartbeats 4000000 in
set_option maxRecDepth 100000 in
theorem rl_M_both {Γ : GAM} {l : Launch} {p0 : Int32} {p1 : Int32} {p2 : Int32} {g : GH} {K : Int32 → GH → Prop} (h0 : B_M_both_0 Γ K p0 p1 p2 g) : MetA Γ l yX11_both cX11_both 3 (some (.int)) 2 51 [.int p0, .int p1, .int p2] g (fun r g' => ∃ x, r = some (.int x) ∧ K x g') := by
  refine MetA.introL (Lx := [some (.int p0), some (.int p1), some (.int p2)]) (by decide) (Nat.le_of_ble_eq_true rfl) rfl rfl ?_
  intro E hEl hE hnm
  exact S_M_both_0 hE p0 p1 p2 g h0
theorem mt_M_both {Γ : GAM} {l : Launch} (p0 : Int32) (p1 : Int32) (p2 : Int32) (g : GH) (K : Int32 → GH → Prop) (h : Sp_M_both Γ p0 p1 p2 g K) : MetA Γ l yX11_both cX11_both 3 (some (.int)) 2 51 [.int p0, .int p1, .int p2] g (fun r g' => ∃ x, r = some (.int x) ∧ K x g') := by
  unfold Sp_M_both sBoth at h
  refine rl_M_both ?_
  simp only [B_M_both_226, B_M_both_221, B_M_both_212, B_M_both_211, B_M_both_198, B_M_both_187, B_M_both_176, B_M_both_165, B_M_both_0, Sp_M_bounded]
  repeat' with_reducible first | apply And.intro | intro _
  all_goals first | (subst_vars; simpa [*] using h) | (subst_vars; simp at h; split at h <;> first | exact h | (exfalso; grind))
/-- the letter of an envelope -/
def sLet (s : ST) (e c q ahead : Int32) : Int32 :=
  if c = 116 then q else if c = 111 then (sEnv s e).2.1 else if c = 109 then sDay s e 1 q else if c = 99 then (sCome s e q).1 else if c = 120 then sDay s e 6 q else if c = 108 then sDay s e 4 q
  else if c = 102 then sDay s e 5 q else if c = 112 then sDay s e 7 q else if c = 114 then sDay s e 8 q else if c = 98 then sBooth s (sEnv s e).1 q else if c = 105 then (if (sCome s e q).2 = -1 then 0 else 1)
  else if c = 115 then sUnl s e q else if c = 121 then sWords s e 1 q else if c = 122 then sWords s e 0 q else if c = 110 then ahead else if c = 101 then sSent s (sEnv s e).1 q else (sVoter s (sEnv s e).1).2.1
def Sp_M_letterOf (Γ : GAM) (m : Nat) (e c q ahead : Int32) (g : GH) (K : Int32 → GH → Prop) : Prop := ∃ ma s, RefI m ma g s ∧ WF s ∧ eOk s e ∧ ∀ g', FrX m [1569, 1570] [] g g' → K (sLet s e c q ahead) g'
-- the walk of M_letterOf
set_option maxRecDepth 100000 in
def B_M_letterOf_214 (Γ : GAM) (K : Int32 → GH → Prop) (s0 : Int32) (g : GH) : Prop :=
  K s0 g
set_option maxHeartbeats 4000000 in
set_option maxRecDepth 100000 in
theorem S_M_letterOf_214 {Γ : GAM} {E : EV} {K : Int32 → GH → Prop} (hE : GE Γ E cX11_letterOf 5 RX11 (some (.int)) 4 99 (fun r g' => ∃ x, r = some (.int x) ∧ K x g')) (s0 : Int32) (g : GH) (h : B_M_letterOf_214 Γ K s0 g) : JW Γ E 214 [none, none, none, none, none] [.int s0] g := by
  unfold B_M_letterOf_214 at h
  exact j_iret hE (by decide +kernel : decode cX11_letterOf 214 = .ok (.ireturn, 1)) ⟨_, rfl, h⟩
set_option maxRecDepth 100000 in
def B_M_letterOf_0 (Γ : GAM) (K : Int32 → GH → Prop) (th : Nat) (p0 : Int32) (p1 : Int32) (p2 : Int32) (p3 : Int32) (g : GH) : Prop :=
  ((p1 = (98 : Int32) → Kd g th = 13 ∧ ∃ a1 : Nat, Gr g 1556 th = some a1 ∧ Kd g a1 = 20 ∧ inB p0 (Ln g a1) ∧ Kd g th = 13 ∧ Sp_M_boothFor Γ th (Ia g (Co g a1) (Ow g a1) p0.toNatClampNeg) p2 g (fun (x3 : Int32) (g2 : GH) => K x3 g2)) ∧ (¬ (p1 = (98 : Int32)) → ((p1 = (99 : Int32) → Kd g th = 13 ∧ Sp_M_comesOn Γ th p0 p2 g (fun (x5 : Int32) (g4 : GH) => K x5 g4)) ∧ (¬ (p1 = (99 : Int32)) → ((p1 = (101 : Int32) → Kd g th = 13 ∧ ∃ a6 : Nat, Gr g 1556 th = some a6 ∧ Kd g a6 = 20 ∧ inB p0 (Ln g a6) ∧ Kd g th = 13 ∧ Sp_M_sentTo Γ th (Ia g (Co g a6) (Ow g a6) p0.toNatClampNeg) p2 g (fun (x8 : Int32) (g7 : GH) => K x8 g7)) ∧ (¬ (p1 = (101 : Int32)) → ((p1 = (102 : Int32) → Kd g th = 13 ∧ Sp_M_dayOf Γ th p0 (5 : Int32) p2 g (fun (x10 : Int32) (g9 : GH) => K x10 g9)) ∧ (¬ (p1 = (102 : Int32)) → ((p1 = (105 : Int32) → Kd g th = 13 ∧ Sp_M_ask Γ th p0 p2 g (fun (g11 : GH) => Kd g11 th = 13 ∧ (((Gi g11 1570 th) = (-1 : Int32) → B_M_letterOf_214 Γ K (0 : Int32) g11) ∧ (¬ ((Gi g11 1570 th) = (-1 : Int32)) → B_M_letterOf_214 Γ K (1 : Int32) g11)))) ∧ (¬ (p1 = (105 : Int32)) → ((p1 = (108 : Int32) → Kd g th = 13 ∧ Sp_M_dayOf Γ th p0 (4 : Int32) p2 g (fun (x13 : Int32) (g12 : GH) => K x13 g12)) ∧ (¬ (p1 = (108 : Int32)) → ((p1 = (109 : Int32) → Kd g th = 13 ∧ Sp_M_dayOf Γ th p0 (1 : Int32) p2 g (fun (x15 : Int32) (g14 : GH) => K x15 g14)) ∧ (¬ (p1 = (109 : Int32)) → ((p1 = (110 : Int32) → K p3 g) ∧ (¬ (p1 = (110 : Int32)) → ((p1 = (111 : Int32) → Kd g th = 13 ∧ ∃ a16 : Nat, Gr g 1557 th = some a16 ∧ Kd g a16 = 20 ∧ inB p0 (Ln g a16) ∧ K (Ia g (Co g a16) (Ow g a16) p0.toNatClampNeg) g) ∧ (¬ (p1 = (111 : Int32)) → ((p1 = (112 : Int32) → Kd g th = 13 ∧ Sp_M_dayOf Γ th p0 (7 : Int32) p2 g (fun (x18 : Int32) (g17 : GH) => K x18 g17)) ∧ (¬ (p1 = (112 : Int32)) → ((p1 = (114 : Int32) → Kd g th = 13 ∧ Sp_M_dayOf Γ th p0 (8 : Int32) p2 g (fun (x20 : Int32) (g19 : GH) => K x20 g19)) ∧ (¬ (p1 = (114 : Int32)) → ((p1 = (115 : Int32) → Kd g th = 13 ∧ Sp_M_unlike Γ th p0 p2 g (fun (x22 : Int32) (g21 : GH) => K x22 g21)) ∧ (¬ (p1 = (115 : Int32)) → ((p1 = (116 : Int32) → K p2 g) ∧ (¬ (p1 = (116 : Int32)) → ((p1 = (120 : Int32) → Kd g th = 13 ∧ Sp_M_dayOf Γ th p0 (6 : Int32) p2 g (fun (x24 : Int32) (g23 : GH) => K x24 g23)) ∧ (¬ (p1 = (120 : Int32)) → ((p1 = (121 : Int32) → Kd g th = 13 ∧ Sp_M_wordsOf Γ th p0 (1 : Int32) p2 g (fun (x26 : Int32) (g25 : GH) => K x26 g25)) ∧ (¬ (p1 = (121 : Int32)) → ((p1 = (122 : Int32) → Kd g th = 13 ∧ Sp_M_wordsOf Γ th p0 (0 : Int32) p2 g (fun (x28 : Int32) (g27 : GH) => K x28 g27)) ∧ (¬ (p1 = (122 : Int32)) → Kd g th = 13 ∧ ∃ a29 : Nat, Gr g 1550 th = some a29 ∧ Kd g th = 13 ∧ ∃ a30 : Nat, Gr g 1556 th = some a30 ∧ Kd g a30 = 20 ∧ inB p0 (Ln g a30) ∧ Kd g a29 = 20 ∧ inB (Ia g (Co g a30) (Ow g a30) p0.toNatClampNeg) (Ln g a29) ∧ K (Ia g (Co g a29) (Ow g a29) (Ia g (Co g a30) (Ow g a30) p0.toNatClampNeg).toNatClampNeg) g))))))))))))))))))))))))))))))))
set_option maxHeartbeats 4000000 in
set_option maxRecDepth 100000 in
theorem S_M_letterOf_0 {Γ : GAM} {E : EV} {K : Int32 → GH → Prop} (hE : GE Γ E cX11_letterOf 5 RX11 (some (.int)) 4 99 (fun r g' => ∃ x, r = some (.int x) ∧ K x g')) (th : Nat) (p0 : Int32) (p1 : Int32) (p2 : Int32) (p3 : Int32) (g : GH) (h : B_M_letterOf_0 Γ K th p0 p1 p2 p3 g) : JW Γ E 0 [some (.ref th), some (.int p0), some (.int p1), some (.int p2), some (.int p3)] [] g := by
  unfold B_M_letterOf_0 at h
  refine j_iload_n hE (by decide +kernel : decode cX11_letterOf 0 = .ok (.iload_n 2, 1)) rfl rfl ?_
  by_cases q0 : p1 = (98 : Int32)
  · replace h := h.1 q0
    refine j_tableIn hE (by decide +kernel : decode cX11_letterOf 1 = .ok (.tableswitch 252 98 122 #[182, 132, 252, 240, 156, 252, 252, 194, 252, 252, 148, 124, 237, 117, 164, 252, 173, 214, 115, 252, 252, 252, 139, 221, 229], 115)) (by rw [q0]; decide) (by rw [q0]; decide) (off := 182) (by rw [q0]; decide) (tgt := 183) (by decide) ?_
    refine j_aload_n hE (by decide +kernel : decode cX11_letterOf 183 = .ok (.aload_n 0, 1)) rfl rfl ?_
    refine j_aload_n hE (by decide +kernel : decode cX11_letterOf 184 = .ok (.aload_n 0, 1)) rfl rfl ?_
    obtain ⟨hk, h⟩ := h
    obtain ⟨a1, ha, h⟩ := h
    refine j_getRn hE fg_X11_35 hk ha (by decide +kernel : decode cX11_letterOf 185 = .ok (.getfield 35, 3)) ?_
    refine j_iload_n hE (by decide +kernel : decode cX11_letterOf 188 = .ok (.iload_n 1, 1)) rfl rfl ?_
    obtain ⟨hk, hb, h⟩ := h
    refine j_iald hE hk hb (by decide +kernel : decode cX11_letterOf 189 = .ok (.iaload, 1)) ?_
    refine j_iload_n hE (by decide +kernel : decode cX11_letterOf 190 = .ok (.iload_n 3, 1)) rfl rfl ?_
    obtain ⟨hk, h⟩ := h
    refine j_callV hE rfl cl_X11_376 cf_12 im_X11_boothFor se_X11_boothFor ⟨by omega, by omega⟩ (As := [.int (Ia g (Co g a1) (Ow g a1) p0.toNatClampNeg), .int p2]) (rest := []) rfl rfl (Nat.le_of_ble_eq_true rfl) hk (by decide +kernel : decode cX11_letterOf 191 = .ok (.invokevirtual 376, 3)) (mt_M_boothFor _ _ _ _ _ h) ?_
    rintro _ g2 ⟨x3, rfl, h⟩
    exact j_iret hE (by decide +kernel : decode cX11_letterOf 194 = .ok (.ireturn, 1)) ⟨_, rfl, h⟩
  · replace h := h.2 q0
    by_cases q1 : p1 = (99 : Int32)
    · replace h := h.1 q1
      refine j_tableIn hE (by decide +kernel : decode cX11_letterOf 1 = .ok (.tableswitch 252 98 122 #[182, 132, 252, 240, 156, 252, 252, 194, 252, 252, 148, 124, 237, 117, 164, 252, 173, 214, 115, 252, 252, 252, 139, 221, 229], 115)) (by rw [q1]; decide) (by rw [q1]; decide) (off := 132) (by rw [q1]; decide) (tgt := 133) (by decide) ?_
      refine j_aload_n hE (by decide +kernel : decode cX11_letterOf 133 = .ok (.aload_n 0, 1)) rfl rfl ?_
      refine j_iload_n hE (by decide +kernel : decode cX11_letterOf 134 = .ok (.iload_n 1, 1)) rfl rfl ?_
      refine j_iload_n hE (by decide +kernel : decode cX11_letterOf 135 = .ok (.iload_n 3, 1)) rfl rfl ?_
      obtain ⟨hk, h⟩ := h
      refine j_callV hE rfl cl_X11_373 cf_12 im_X11_comesOn se_X11_comesOn ⟨by omega, by omega⟩ (As := [.int p0, .int p2]) (rest := []) rfl rfl (Nat.le_of_ble_eq_true rfl) hk (by decide +kernel : decode cX11_letterOf 136 = .ok (.invokevirtual 373, 3)) (mt_M_comesOn _ _ _ _ _ h) ?_
      rintro _ g4 ⟨x5, rfl, h⟩
      exact j_iret hE (by decide +kernel : decode cX11_letterOf 139 = .ok (.ireturn, 1)) ⟨_, rfl, h⟩
    · replace h := h.2 q1
      by_cases q2 : p1 = (101 : Int32)
      · replace h := h.1 q2
        refine j_tableIn hE (by decide +kernel : decode cX11_letterOf 1 = .ok (.tableswitch 252 98 122 #[182, 132, 252, 240, 156, 252, 252, 194, 252, 252, 148, 124, 237, 117, 164, 252, 173, 214, 115, 252, 252, 252, 139, 221, 229], 115)) (by rw [q2]; decide) (by rw [q2]; decide) (off := 240) (by rw [q2]; decide) (tgt := 241) (by decide) ?_
        refine j_aload_n hE (by decide +kernel : decode cX11_letterOf 241 = .ok (.aload_n 0, 1)) rfl rfl ?_
        refine j_aload_n hE (by decide +kernel : decode cX11_letterOf 242 = .ok (.aload_n 0, 1)) rfl rfl ?_
        obtain ⟨hk, h⟩ := h
        obtain ⟨a6, ha, h⟩ := h
        refine j_getRn hE fg_X11_35 hk ha (by decide +kernel : decode cX11_letterOf 243 = .ok (.getfield 35, 3)) ?_
        refine j_iload_n hE (by decide +kernel : decode cX11_letterOf 246 = .ok (.iload_n 1, 1)) rfl rfl ?_
        obtain ⟨hk, hb, h⟩ := h
        refine j_iald hE hk hb (by decide +kernel : decode cX11_letterOf 247 = .ok (.iaload, 1)) ?_
        refine j_iload_n hE (by decide +kernel : decode cX11_letterOf 248 = .ok (.iload_n 3, 1)) rfl rfl ?_
        obtain ⟨hk, h⟩ := h
        refine j_callV hE rfl cl_X11_385 cf_12 im_X11_sentTo se_X11_sentTo ⟨by omega, by omega⟩ (As := [.int (Ia g (Co g a6) (Ow g a6) p0.toNatClampNeg), .int p2]) (rest := []) rfl rfl (Nat.le_of_ble_eq_true rfl) hk (by decide +kernel : decode cX11_letterOf 249 = .ok (.invokevirtual 385, 3)) (mt_M_sentTo _ _ _ _ _ h) ?_
        rintro _ g7 ⟨x8, rfl, h⟩
        exact j_iret hE (by decide +kernel : decode cX11_letterOf 252 = .ok (.ireturn, 1)) ⟨_, rfl, h⟩
      · replace h := h.2 q2
        by_cases q3 : p1 = (102 : Int32)
        · replace h := h.1 q3
          refine j_tableIn hE (by decide +kernel : decode cX11_letterOf 1 = .ok (.tableswitch 252 98 122 #[182, 132, 252, 240, 156, 252, 252, 194, 252, 252, 148, 124, 237, 117, 164, 252, 173, 214, 115, 252, 252, 252, 139, 221, 229], 115)) (by rw [q3]; decide) (by rw [q3]; decide) (off := 156) (by rw [q3]; decide) (tgt := 157) (by decide) ?_
          refine j_aload_n hE (by decide +kernel : decode cX11_letterOf 157 = .ok (.aload_n 0, 1)) rfl rfl ?_
          refine j_iload_n hE (by decide +kernel : decode cX11_letterOf 158 = .ok (.iload_n 1, 1)) rfl rfl ?_
          refine j_iconst hE (by decide +kernel : decode cX11_letterOf 159 = .ok (.iconst 5, 1)) (v := (5 : Int32)) (by decide) ?_
          refine j_iload_n hE (by decide +kernel : decode cX11_letterOf 160 = .ok (.iload_n 3, 1)) rfl rfl ?_
          obtain ⟨hk, h⟩ := h
          refine j_callV hE rfl cl_X11_256 cf_12 im_X11_dayOf se_X11_dayOf ⟨by omega, by omega⟩ (As := [.int p0, .int (5 : Int32), .int p2]) (rest := []) rfl rfl (Nat.le_of_ble_eq_true rfl) hk (by decide +kernel : decode cX11_letterOf 161 = .ok (.invokevirtual 256, 3)) (mt_M_dayOf _ _ _ _ _ _ h) ?_
          rintro _ g9 ⟨x10, rfl, h⟩
          exact j_iret hE (by decide +kernel : decode cX11_letterOf 164 = .ok (.ireturn, 1)) ⟨_, rfl, h⟩
        · replace h := h.2 q3
          by_cases q4 : p1 = (105 : Int32)
          · replace h := h.1 q4
            refine j_tableIn hE (by decide +kernel : decode cX11_letterOf 1 = .ok (.tableswitch 252 98 122 #[182, 132, 252, 240, 156, 252, 252, 194, 252, 252, 148, 124, 237, 117, 164, 252, 173, 214, 115, 252, 252, 252, 139, 221, 229], 115)) (by rw [q4]; decide) (by rw [q4]; decide) (off := 194) (by rw [q4]; decide) (tgt := 195) (by decide) ?_
            refine j_aload_n hE (by decide +kernel : decode cX11_letterOf 195 = .ok (.aload_n 0, 1)) rfl rfl ?_
            refine j_iload_n hE (by decide +kernel : decode cX11_letterOf 196 = .ok (.iload_n 1, 1)) rfl rfl ?_
            refine j_iload_n hE (by decide +kernel : decode cX11_letterOf 197 = .ok (.iload_n 3, 1)) rfl rfl ?_
            obtain ⟨hk, h⟩ := h
            refine j_callV hE rfl cl_X11_274 cf_12 im_X11_ask se_X11_ask ⟨by omega, by omega⟩ (As := [.int p0, .int p2]) (rest := []) rfl rfl (Nat.le_of_ble_eq_true rfl) hk (by decide +kernel : decode cX11_letterOf 198 = .ok (.invokevirtual 274, 3)) (mt_M_ask _ _ _ _ _ h) ?_
            rintro _ g11 ⟨rfl, h⟩
            refine j_aload_n hE (by decide +kernel : decode cX11_letterOf 201 = .ok (.aload_n 0, 1)) rfl rfl ?_
            obtain ⟨hk, h⟩ := h
            refine j_getI hE fg_X11_263 hk (by decide +kernel : decode cX11_letterOf 202 = .ok (.getfield 263, 3)) ?_
            refine j_iconst hE (by decide +kernel : decode cX11_letterOf 205 = .ok (.iconst (-1), 1)) (v := (-1 : Int32)) (by decide) ?_
            refine j_icmp_eq hE (by decide +kernel : decode cX11_letterOf 206 = .ok (.if_icmp .eq 7, 3)) (tgt := 213) (by decide) (fun q => ?_) (fun q => ?_)
            · replace h := h.1 q
              refine j_iconst hE (by decide +kernel : decode cX11_letterOf 213 = .ok (.iconst 0, 1)) (v := (0 : Int32)) (by decide) ?_
              refine j_weak [none, none, none, none, none] trivial ?_
              exact S_M_letterOf_214 hE _ _ h
            · replace h := h.2 q
              refine j_iconst hE (by decide +kernel : decode cX11_letterOf 209 = .ok (.iconst 1, 1)) (v := (1 : Int32)) (by decide) ?_
              refine j_goto hE (by decide +kernel : decode cX11_letterOf 210 = .ok (.goto 4, 3)) (tgt := 214) (by decide) ?_
              refine j_weak [none, none, none, none, none] trivial ?_
              exact S_M_letterOf_214 hE _ _ h
          · replace h := h.2 q4
            by_cases q5 : p1 = (108 : Int32)
            · replace h := h.1 q5
              refine j_tableIn hE (by decide +kernel : decode cX11_letterOf 1 = .ok (.tableswitch 252 98 122 #[182, 132, 252, 240, 156, 252, 252, 194, 252, 252, 148, 124, 237, 117, 164, 252, 173, 214, 115, 252, 252, 252, 139, 221, 229], 115)) (by rw [q5]; decide) (by rw [q5]; decide) (off := 148) (by rw [q5]; decide) (tgt := 149) (by decide) ?_
              refine j_aload_n hE (by decide +kernel : decode cX11_letterOf 149 = .ok (.aload_n 0, 1)) rfl rfl ?_
              refine j_iload_n hE (by decide +kernel : decode cX11_letterOf 150 = .ok (.iload_n 1, 1)) rfl rfl ?_
              refine j_iconst hE (by decide +kernel : decode cX11_letterOf 151 = .ok (.iconst 4, 1)) (v := (4 : Int32)) (by decide) ?_
              refine j_iload_n hE (by decide +kernel : decode cX11_letterOf 152 = .ok (.iload_n 3, 1)) rfl rfl ?_
              obtain ⟨hk, h⟩ := h
              refine j_callV hE rfl cl_X11_256 cf_12 im_X11_dayOf se_X11_dayOf ⟨by omega, by omega⟩ (As := [.int p0, .int (4 : Int32), .int p2]) (rest := []) rfl rfl (Nat.le_of_ble_eq_true rfl) hk (by decide +kernel : decode cX11_letterOf 153 = .ok (.invokevirtual 256, 3)) (mt_M_dayOf _ _ _ _ _ _ h) ?_
              rintro _ g12 ⟨x13, rfl, h⟩
              exact j_iret hE (by decide +kernel : decode cX11_letterOf 156 = .ok (.ireturn, 1)) ⟨_, rfl, h⟩
            · replace h := h.2 q5
              by_cases q6 : p1 = (109 : Int32)
              · replace h := h.1 q6
                refine j_tableIn hE (by decide +kernel : decode cX11_letterOf 1 = .ok (.tableswitch 252 98 122 #[182, 132, 252, 240, 156, 252, 252, 194, 252, 252, 148, 124, 237, 117, 164, 252, 173, 214, 115, 252, 252, 252, 139, 221, 229], 115)) (by rw [q6]; decide) (by rw [q6]; decide) (off := 124) (by rw [q6]; decide) (tgt := 125) (by decide) ?_
                refine j_aload_n hE (by decide +kernel : decode cX11_letterOf 125 = .ok (.aload_n 0, 1)) rfl rfl ?_
                refine j_iload_n hE (by decide +kernel : decode cX11_letterOf 126 = .ok (.iload_n 1, 1)) rfl rfl ?_
                refine j_iconst hE (by decide +kernel : decode cX11_letterOf 127 = .ok (.iconst 1, 1)) (v := (1 : Int32)) (by decide) ?_
                refine j_iload_n hE (by decide +kernel : decode cX11_letterOf 128 = .ok (.iload_n 3, 1)) rfl rfl ?_
                obtain ⟨hk, h⟩ := h
                refine j_callV hE rfl cl_X11_256 cf_12 im_X11_dayOf se_X11_dayOf ⟨by omega, by omega⟩ (As := [.int p0, .int (1 : Int32), .int p2]) (rest := []) rfl rfl (Nat.le_of_ble_eq_true rfl) hk (by decide +kernel : decode cX11_letterOf 129 = .ok (.invokevirtual 256, 3)) (mt_M_dayOf _ _ _ _ _ _ h) ?_
                rintro _ g14 ⟨x15, rfl, h⟩
                exact j_iret hE (by decide +kernel : decode cX11_letterOf 132 = .ok (.ireturn, 1)) ⟨_, rfl, h⟩
              · replace h := h.2 q6
                by_cases q7 : p1 = (110 : Int32)
                · replace h := h.1 q7
                  refine j_tableIn hE (by decide +kernel : decode cX11_letterOf 1 = .ok (.tableswitch 252 98 122 #[182, 132, 252, 240, 156, 252, 252, 194, 252, 252, 148, 124, 237, 117, 164, 252, 173, 214, 115, 252, 252, 252, 139, 221, 229], 115)) (by rw [q7]; decide) (by rw [q7]; decide) (off := 237) (by rw [q7]; decide) (tgt := 238) (by decide) ?_
                  refine j_iload hE (by decide +kernel : decode cX11_letterOf 238 = .ok (.iload 4, 2)) rfl ?_
                  exact j_iret hE (by decide +kernel : decode cX11_letterOf 240 = .ok (.ireturn, 1)) ⟨_, rfl, h⟩
                · replace h := h.2 q7
                  by_cases q8 : p1 = (111 : Int32)
                  · replace h := h.1 q8
                    refine j_tableIn hE (by decide +kernel : decode cX11_letterOf 1 = .ok (.tableswitch 252 98 122 #[182, 132, 252, 240, 156, 252, 252, 194, 252, 252, 148, 124, 237, 117, 164, 252, 173, 214, 115, 252, 252, 252, 139, 221, 229], 115)) (by rw [q8]; decide) (by rw [q8]; decide) (off := 117) (by rw [q8]; decide) (tgt := 118) (by decide) ?_
                    refine j_aload_n hE (by decide +kernel : decode cX11_letterOf 118 = .ok (.aload_n 0, 1)) rfl rfl ?_
                    obtain ⟨hk, h⟩ := h
                    obtain ⟨a16, ha, h⟩ := h
                    refine j_getRn hE fg_X11_38 hk ha (by decide +kernel : decode cX11_letterOf 119 = .ok (.getfield 38, 3)) ?_
                    refine j_iload_n hE (by decide +kernel : decode cX11_letterOf 122 = .ok (.iload_n 1, 1)) rfl rfl ?_
                    obtain ⟨hk, hb, h⟩ := h
                    refine j_iald hE hk hb (by decide +kernel : decode cX11_letterOf 123 = .ok (.iaload, 1)) ?_
                    exact j_iret hE (by decide +kernel : decode cX11_letterOf 124 = .ok (.ireturn, 1)) ⟨_, rfl, h⟩
                  · replace h := h.2 q8
                    by_cases q9 : p1 = (112 : Int32)
                    · replace h := h.1 q9
                      refine j_tableIn hE (by decide +kernel : decode cX11_letterOf 1 = .ok (.tableswitch 252 98 122 #[182, 132, 252, 240, 156, 252, 252, 194, 252, 252, 148, 124, 237, 117, 164, 252, 173, 214, 115, 252, 252, 252, 139, 221, 229], 115)) (by rw [q9]; decide) (by rw [q9]; decide) (off := 164) (by rw [q9]; decide) (tgt := 165) (by decide) ?_
                      refine j_aload_n hE (by decide +kernel : decode cX11_letterOf 165 = .ok (.aload_n 0, 1)) rfl rfl ?_
                      refine j_iload_n hE (by decide +kernel : decode cX11_letterOf 166 = .ok (.iload_n 1, 1)) rfl rfl ?_
                      refine j_bipush hE (by decide +kernel : decode cX11_letterOf 167 = .ok (.bipush 7, 2)) (v := (7 : Int32)) (by decide) ?_
                      refine j_iload_n hE (by decide +kernel : decode cX11_letterOf 169 = .ok (.iload_n 3, 1)) rfl rfl ?_
                      obtain ⟨hk, h⟩ := h
                      refine j_callV hE rfl cl_X11_256 cf_12 im_X11_dayOf se_X11_dayOf ⟨by omega, by omega⟩ (As := [.int p0, .int (7 : Int32), .int p2]) (rest := []) rfl rfl (Nat.le_of_ble_eq_true rfl) hk (by decide +kernel : decode cX11_letterOf 170 = .ok (.invokevirtual 256, 3)) (mt_M_dayOf _ _ _ _ _ _ h) ?_
                      rintro _ g17 ⟨x18, rfl, h⟩
                      exact j_iret hE (by decide +kernel : decode cX11_letterOf 173 = .ok (.ireturn, 1)) ⟨_, rfl, h⟩
                    · replace h := h.2 q9
                      by_cases q10 : p1 = (114 : Int32)
                      · replace h := h.1 q10
                        refine j_tableIn hE (by decide +kernel : decode cX11_letterOf 1 = .ok (.tableswitch 252 98 122 #[182, 132, 252, 240, 156, 252, 252, 194, 252, 252, 148, 124, 237, 117, 164, 252, 173, 214, 115, 252, 252, 252, 139, 221, 229], 115)) (by rw [q10]; decide) (by rw [q10]; decide) (off := 173) (by rw [q10]; decide) (tgt := 174) (by decide) ?_
                        refine j_aload_n hE (by decide +kernel : decode cX11_letterOf 174 = .ok (.aload_n 0, 1)) rfl rfl ?_
                        refine j_iload_n hE (by decide +kernel : decode cX11_letterOf 175 = .ok (.iload_n 1, 1)) rfl rfl ?_
                        refine j_bipush hE (by decide +kernel : decode cX11_letterOf 176 = .ok (.bipush 8, 2)) (v := (8 : Int32)) (by decide) ?_
                        refine j_iload_n hE (by decide +kernel : decode cX11_letterOf 178 = .ok (.iload_n 3, 1)) rfl rfl ?_
                        obtain ⟨hk, h⟩ := h
                        refine j_callV hE rfl cl_X11_256 cf_12 im_X11_dayOf se_X11_dayOf ⟨by omega, by omega⟩ (As := [.int p0, .int (8 : Int32), .int p2]) (rest := []) rfl rfl (Nat.le_of_ble_eq_true rfl) hk (by decide +kernel : decode cX11_letterOf 179 = .ok (.invokevirtual 256, 3)) (mt_M_dayOf _ _ _ _ _ _ h) ?_
                        rintro _ g19 ⟨x20, rfl, h⟩
                        exact j_iret hE (by decide +kernel : decode cX11_letterOf 182 = .ok (.ireturn, 1)) ⟨_, rfl, h⟩
                      · replace h := h.2 q10
                        by_cases q11 : p1 = (115 : Int32)
                        · replace h := h.1 q11
                          refine j_tableIn hE (by decide +kernel : decode cX11_letterOf 1 = .ok (.tableswitch 252 98 122 #[182, 132, 252, 240, 156, 252, 252, 194, 252, 252, 148, 124, 237, 117, 164, 252, 173, 214, 115, 252, 252, 252, 139, 221, 229], 115)) (by rw [q11]; decide) (by rw [q11]; decide) (off := 214) (by rw [q11]; decide) (tgt := 215) (by decide) ?_
                          refine j_aload_n hE (by decide +kernel : decode cX11_letterOf 215 = .ok (.aload_n 0, 1)) rfl rfl ?_
                          refine j_iload_n hE (by decide +kernel : decode cX11_letterOf 216 = .ok (.iload_n 1, 1)) rfl rfl ?_
                          refine j_iload_n hE (by decide +kernel : decode cX11_letterOf 217 = .ok (.iload_n 3, 1)) rfl rfl ?_
                          obtain ⟨hk, h⟩ := h
                          refine j_callV hE rfl cl_X11_379 cf_12 im_X11_unlike se_X11_unlike ⟨by omega, by omega⟩ (As := [.int p0, .int p2]) (rest := []) rfl rfl (Nat.le_of_ble_eq_true rfl) hk (by decide +kernel : decode cX11_letterOf 218 = .ok (.invokevirtual 379, 3)) (mt_M_unlike _ _ _ _ _ h) ?_
                          rintro _ g21 ⟨x22, rfl, h⟩
                          exact j_iret hE (by decide +kernel : decode cX11_letterOf 221 = .ok (.ireturn, 1)) ⟨_, rfl, h⟩
                        · replace h := h.2 q11
                          by_cases q12 : p1 = (116 : Int32)
                          · replace h := h.1 q12
                            refine j_tableIn hE (by decide +kernel : decode cX11_letterOf 1 = .ok (.tableswitch 252 98 122 #[182, 132, 252, 240, 156, 252, 252, 194, 252, 252, 148, 124, 237, 117, 164, 252, 173, 214, 115, 252, 252, 252, 139, 221, 229], 115)) (by rw [q12]; decide) (by rw [q12]; decide) (off := 115) (by rw [q12]; decide) (tgt := 116) (by decide) ?_
                            refine j_iload_n hE (by decide +kernel : decode cX11_letterOf 116 = .ok (.iload_n 3, 1)) rfl rfl ?_
                            exact j_iret hE (by decide +kernel : decode cX11_letterOf 117 = .ok (.ireturn, 1)) ⟨_, rfl, h⟩
                          · replace h := h.2 q12
                            by_cases q13 : p1 = (120 : Int32)
                            · replace h := h.1 q13
                              refine j_tableIn hE (by decide +kernel : decode cX11_letterOf 1 = .ok (.tableswitch 252 98 122 #[182, 132, 252, 240, 156, 252, 252, 194, 252, 252, 148, 124, 237, 117, 164, 252, 173, 214, 115, 252, 252, 252, 139, 221, 229], 115)) (by rw [q13]; decide) (by rw [q13]; decide) (off := 139) (by rw [q13]; decide) (tgt := 140) (by decide) ?_
                              refine j_aload_n hE (by decide +kernel : decode cX11_letterOf 140 = .ok (.aload_n 0, 1)) rfl rfl ?_
                              refine j_iload_n hE (by decide +kernel : decode cX11_letterOf 141 = .ok (.iload_n 1, 1)) rfl rfl ?_
                              refine j_bipush hE (by decide +kernel : decode cX11_letterOf 142 = .ok (.bipush 6, 2)) (v := (6 : Int32)) (by decide) ?_
                              refine j_iload_n hE (by decide +kernel : decode cX11_letterOf 144 = .ok (.iload_n 3, 1)) rfl rfl ?_
                              obtain ⟨hk, h⟩ := h
                              refine j_callV hE rfl cl_X11_256 cf_12 im_X11_dayOf se_X11_dayOf ⟨by omega, by omega⟩ (As := [.int p0, .int (6 : Int32), .int p2]) (rest := []) rfl rfl (Nat.le_of_ble_eq_true rfl) hk (by decide +kernel : decode cX11_letterOf 145 = .ok (.invokevirtual 256, 3)) (mt_M_dayOf _ _ _ _ _ _ h) ?_
                              rintro _ g23 ⟨x24, rfl, h⟩
                              exact j_iret hE (by decide +kernel : decode cX11_letterOf 148 = .ok (.ireturn, 1)) ⟨_, rfl, h⟩
                            · replace h := h.2 q13
                              by_cases q14 : p1 = (121 : Int32)
                              · replace h := h.1 q14
                                refine j_tableIn hE (by decide +kernel : decode cX11_letterOf 1 = .ok (.tableswitch 252 98 122 #[182, 132, 252, 240, 156, 252, 252, 194, 252, 252, 148, 124, 237, 117, 164, 252, 173, 214, 115, 252, 252, 252, 139, 221, 229], 115)) (by rw [q14]; decide) (by rw [q14]; decide) (off := 221) (by rw [q14]; decide) (tgt := 222) (by decide) ?_
                                refine j_aload_n hE (by decide +kernel : decode cX11_letterOf 222 = .ok (.aload_n 0, 1)) rfl rfl ?_
                                refine j_iload_n hE (by decide +kernel : decode cX11_letterOf 223 = .ok (.iload_n 1, 1)) rfl rfl ?_
                                refine j_iconst hE (by decide +kernel : decode cX11_letterOf 224 = .ok (.iconst 1, 1)) (v := (1 : Int32)) (by decide) ?_
                                refine j_iload_n hE (by decide +kernel : decode cX11_letterOf 225 = .ok (.iload_n 3, 1)) rfl rfl ?_
                                obtain ⟨hk, h⟩ := h
                                refine j_callV hE rfl cl_X11_382 cf_12 im_X11_wordsOf se_X11_wordsOf ⟨by omega, by omega⟩ (As := [.int p0, .int (1 : Int32), .int p2]) (rest := []) rfl rfl (Nat.le_of_ble_eq_true rfl) hk (by decide +kernel : decode cX11_letterOf 226 = .ok (.invokevirtual 382, 3)) (mt_M_wordsOf _ _ _ _ _ _ h) ?_
                                rintro _ g25 ⟨x26, rfl, h⟩
                                exact j_iret hE (by decide +kernel : decode cX11_letterOf 229 = .ok (.ireturn, 1)) ⟨_, rfl, h⟩
                              · replace h := h.2 q14
                                by_cases q15 : p1 = (122 : Int32)
                                · replace h := h.1 q15
                                  refine j_tableIn hE (by decide +kernel : decode cX11_letterOf 1 = .ok (.tableswitch 252 98 122 #[182, 132, 252, 240, 156, 252, 252, 194, 252, 252, 148, 124, 237, 117, 164, 252, 173, 214, 115, 252, 252, 252, 139, 221, 229], 115)) (by rw [q15]; decide) (by rw [q15]; decide) (off := 229) (by rw [q15]; decide) (tgt := 230) (by decide) ?_
                                  refine j_aload_n hE (by decide +kernel : decode cX11_letterOf 230 = .ok (.aload_n 0, 1)) rfl rfl ?_
                                  refine j_iload_n hE (by decide +kernel : decode cX11_letterOf 231 = .ok (.iload_n 1, 1)) rfl rfl ?_
                                  refine j_iconst hE (by decide +kernel : decode cX11_letterOf 232 = .ok (.iconst 0, 1)) (v := (0 : Int32)) (by decide) ?_
                                  refine j_iload_n hE (by decide +kernel : decode cX11_letterOf 233 = .ok (.iload_n 3, 1)) rfl rfl ?_
                                  obtain ⟨hk, h⟩ := h
                                  refine j_callV hE rfl cl_X11_382 cf_12 im_X11_wordsOf se_X11_wordsOf ⟨by omega, by omega⟩ (As := [.int p0, .int (0 : Int32), .int p2]) (rest := []) rfl rfl (Nat.le_of_ble_eq_true rfl) hk (by decide +kernel : decode cX11_letterOf 234 = .ok (.invokevirtual 382, 3)) (mt_M_wordsOf _ _ _ _ _ _ h) ?_
                                  rintro _ g27 ⟨x28, rfl, h⟩
                                  exact j_iret hE (by decide +kernel : decode cX11_letterOf 237 = .ok (.ireturn, 1)) ⟨_, rfl, h⟩
                                · replace h := h.2 q15
                                  have hD : JW Γ E 253 [some (.ref th), some (.int p0), some (.int p1), some (.int p2), some (.int p3)] [] g := by
                                    refine j_aload_n hE (by decide +kernel : decode cX11_letterOf 253 = .ok (.aload_n 0, 1)) rfl rfl ?_
                                    obtain ⟨hk, h⟩ := h
                                    obtain ⟨a29, ha, h⟩ := h
                                    refine j_getRn hE fg_X11_17 hk ha (by decide +kernel : decode cX11_letterOf 254 = .ok (.getfield 17, 3)) ?_
                                    refine j_aload_n hE (by decide +kernel : decode cX11_letterOf 257 = .ok (.aload_n 0, 1)) rfl rfl ?_
                                    obtain ⟨hk, h⟩ := h
                                    obtain ⟨a30, ha, h⟩ := h
                                    refine j_getRn hE fg_X11_35 hk ha (by decide +kernel : decode cX11_letterOf 258 = .ok (.getfield 35, 3)) ?_
                                    refine j_iload_n hE (by decide +kernel : decode cX11_letterOf 261 = .ok (.iload_n 1, 1)) rfl rfl ?_
                                    obtain ⟨hk, hb, h⟩ := h
                                    refine j_iald hE hk hb (by decide +kernel : decode cX11_letterOf 262 = .ok (.iaload, 1)) ?_
                                    obtain ⟨hk, hb, h⟩ := h
                                    refine j_iald hE hk hb (by decide +kernel : decode cX11_letterOf 263 = .ok (.iaload, 1)) ?_
                                    exact j_iret hE (by decide +kernel : decode cX11_letterOf 264 = .ok (.ireturn, 1)) ⟨_, rfl, h⟩
                                  by_cases u2 : p1 = (100 : Int32)
                                  · exact j_tableIn hE (by decide +kernel : decode cX11_letterOf 1 = .ok (.tableswitch 252 98 122 #[182, 132, 252, 240, 156, 252, 252, 194, 252, 252, 148, 124, 237, 117, 164, 252, 173, 214, 115, 252, 252, 252, 139, 221, 229], 115)) (by rw [u2]; decide) (by rw [u2]; decide) (off := 252) (by rw [u2]; decide) (tgt := 253) (by decide) hD
                                  by_cases u5 : p1 = (103 : Int32)
                                  · exact j_tableIn hE (by decide +kernel : decode cX11_letterOf 1 = .ok (.tableswitch 252 98 122 #[182, 132, 252, 240, 156, 252, 252, 194, 252, 252, 148, 124, 237, 117, 164, 252, 173, 214, 115, 252, 252, 252, 139, 221, 229], 115)) (by rw [u5]; decide) (by rw [u5]; decide) (off := 252) (by rw [u5]; decide) (tgt := 253) (by decide) hD
                                  by_cases u6 : p1 = (104 : Int32)
                                  · exact j_tableIn hE (by decide +kernel : decode cX11_letterOf 1 = .ok (.tableswitch 252 98 122 #[182, 132, 252, 240, 156, 252, 252, 194, 252, 252, 148, 124, 237, 117, 164, 252, 173, 214, 115, 252, 252, 252, 139, 221, 229], 115)) (by rw [u6]; decide) (by rw [u6]; decide) (off := 252) (by rw [u6]; decide) (tgt := 253) (by decide) hD
                                  by_cases u8 : p1 = (106 : Int32)
                                  · exact j_tableIn hE (by decide +kernel : decode cX11_letterOf 1 = .ok (.tableswitch 252 98 122 #[182, 132, 252, 240, 156, 252, 252, 194, 252, 252, 148, 124, 237, 117, 164, 252, 173, 214, 115, 252, 252, 252, 139, 221, 229], 115)) (by rw [u8]; decide) (by rw [u8]; decide) (off := 252) (by rw [u8]; decide) (tgt := 253) (by decide) hD
                                  by_cases u9 : p1 = (107 : Int32)
                                  · exact j_tableIn hE (by decide +kernel : decode cX11_letterOf 1 = .ok (.tableswitch 252 98 122 #[182, 132, 252, 240, 156, 252, 252, 194, 252, 252, 148, 124, 237, 117, 164, 252, 173, 214, 115, 252, 252, 252, 139, 221, 229], 115)) (by rw [u9]; decide) (by rw [u9]; decide) (off := 252) (by rw [u9]; decide) (tgt := 253) (by decide) hD
                                  by_cases u15 : p1 = (113 : Int32)
                                  · exact j_tableIn hE (by decide +kernel : decode cX11_letterOf 1 = .ok (.tableswitch 252 98 122 #[182, 132, 252, 240, 156, 252, 252, 194, 252, 252, 148, 124, 237, 117, 164, 252, 173, 214, 115, 252, 252, 252, 139, 221, 229], 115)) (by rw [u15]; decide) (by rw [u15]; decide) (off := 252) (by rw [u15]; decide) (tgt := 253) (by decide) hD
                                  by_cases u19 : p1 = (117 : Int32)
                                  · exact j_tableIn hE (by decide +kernel : decode cX11_letterOf 1 = .ok (.tableswitch 252 98 122 #[182, 132, 252, 240, 156, 252, 252, 194, 252, 252, 148, 124, 237, 117, 164, 252, 173, 214, 115, 252, 252, 252, 139, 221, 229], 115)) (by rw [u19]; decide) (by rw [u19]; decide) (off := 252) (by rw [u19]; decide) (tgt := 253) (by decide) hD
                                  by_cases u20 : p1 = (118 : Int32)
                                  · exact j_tableIn hE (by decide +kernel : decode cX11_letterOf 1 = .ok (.tableswitch 252 98 122 #[182, 132, 252, 240, 156, 252, 252, 194, 252, 252, 148, 124, 237, 117, 164, 252, 173, 214, 115, 252, 252, 252, 139, 221, 229], 115)) (by rw [u20]; decide) (by rw [u20]; decide) (off := 252) (by rw [u20]; decide) (tgt := 253) (by decide) hD
                                  by_cases u21 : p1 = (119 : Int32)
                                  · exact j_tableIn hE (by decide +kernel : decode cX11_letterOf 1 = .ok (.tableswitch 252 98 122 #[182, 132, 252, 240, 156, 252, 252, 194, 252, 252, 148, 124, 237, 117, 164, 252, 173, 214, 115, 252, 252, 252, 139, 221, 229], 115)) (by rw [u21]; decide) (by rw [u21]; decide) (off := 252) (by rw [u21]; decide) (tgt := 253) (by decide) hD
                                  have qq : (p1).toInt < 98 ∨ 122 < (p1).toInt := by
                                    have z0 : ¬ (p1).toInt = 98 := fun e => q0 (Int32.toInt_inj.mp (e.trans (by decide)))
                                    have z1 : ¬ (p1).toInt = 99 := fun e => q1 (Int32.toInt_inj.mp (e.trans (by decide)))
                                    have z3 : ¬ (p1).toInt = 101 := fun e => q2 (Int32.toInt_inj.mp (e.trans (by decide)))
                                    have z4 : ¬ (p1).toInt = 102 := fun e => q3 (Int32.toInt_inj.mp (e.trans (by decide)))
                                    have z7 : ¬ (p1).toInt = 105 := fun e => q4 (Int32.toInt_inj.mp (e.trans (by decide)))
                                    have z10 : ¬ (p1).toInt = 108 := fun e => q5 (Int32.toInt_inj.mp (e.trans (by decide)))
                                    have z11 : ¬ (p1).toInt = 109 := fun e => q6 (Int32.toInt_inj.mp (e.trans (by decide)))
                                    have z12 : ¬ (p1).toInt = 110 := fun e => q7 (Int32.toInt_inj.mp (e.trans (by decide)))
                                    have z13 : ¬ (p1).toInt = 111 := fun e => q8 (Int32.toInt_inj.mp (e.trans (by decide)))
                                    have z14 : ¬ (p1).toInt = 112 := fun e => q9 (Int32.toInt_inj.mp (e.trans (by decide)))
                                    have z16 : ¬ (p1).toInt = 114 := fun e => q10 (Int32.toInt_inj.mp (e.trans (by decide)))
                                    have z17 : ¬ (p1).toInt = 115 := fun e => q11 (Int32.toInt_inj.mp (e.trans (by decide)))
                                    have z18 : ¬ (p1).toInt = 116 := fun e => q12 (Int32.toInt_inj.mp (e.trans (by decide)))
                                    have z22 : ¬ (p1).toInt = 120 := fun e => q13 (Int32.toInt_inj.mp (e.trans (by decide)))
                                    have z23 : ¬ (p1).toInt = 121 := fun e => q14 (Int32.toInt_inj.mp (e.trans (by decide)))
                                    have z24 : ¬ (p1).toInt = 122 := fun e => q15 (Int32.toInt_inj.mp (e.trans (by decide)))
                                    have z2 : ¬ (p1).toInt = 100 := fun e => u2 (Int32.toInt_inj.mp (e.trans (by decide)))
                                    have z5 : ¬ (p1).toInt = 103 := fun e => u5 (Int32.toInt_inj.mp (e.trans (by decide)))
                                    have z6 : ¬ (p1).toInt = 104 := fun e => u6 (Int32.toInt_inj.mp (e.trans (by decide)))
                                    have z8 : ¬ (p1).toInt = 106 := fun e => u8 (Int32.toInt_inj.mp (e.trans (by decide)))
                                    have z9 : ¬ (p1).toInt = 107 := fun e => u9 (Int32.toInt_inj.mp (e.trans (by decide)))
                                    have z15 : ¬ (p1).toInt = 113 := fun e => u15 (Int32.toInt_inj.mp (e.trans (by decide)))
                                    have z19 : ¬ (p1).toInt = 117 := fun e => u19 (Int32.toInt_inj.mp (e.trans (by decide)))
                                    have z20 : ¬ (p1).toInt = 118 := fun e => u20 (Int32.toInt_inj.mp (e.trans (by decide)))
                                    have z21 : ¬ (p1).toInt = 119 := fun e => u21 (Int32.toInt_inj.mp (e.trans (by decide)))
                                    omega
                                  exact j_tableOut hE (by decide +kernel : decode cX11_letterOf 1 = .ok (.tableswitch 252 98 122 #[182, 132, 252, 240, 156, 252, 252, 194, 252, 252, 148, 124, 237, 117, 164, 252, 173, 214, 115, 252, 252, 252, 139, 221, 229], 115)) qq (tgt := 253) (by decide) hD
set_option maxHeartbeats 4000000 in
set_option maxRecDepth 100000 in
theorem rl_M_letterOf {Γ : GAM} {l : Launch} {th : Nat} {p0 : Int32} {p1 : Int32} {p2 : Int32} {p3 : Int32} {g : GH} {K : Int32 → GH → Prop} (h0 : B_M_letterOf_0 Γ K th p0 p1 p2 p3 g) : MetA Γ l yX11_letterOf cX11_letterOf 5 (some (.int)) 4 99 [.ref th, .int p0, .int p1, .int p2, .int p3] g (fun r g' => ∃ x, r = some (.int x) ∧ K x g') := by
  refine MetA.introL (Lx := [some (.ref th), some (.int p0), some (.int p1), some (.int p2), some (.int p3)]) (by decide) (Nat.le_of_ble_eq_true rfl) rfl rfl ?_
  intro E hEl hE hnm
  exact S_M_letterOf_0 hE th p0 p1 p2 p3 g h0
theorem mt_M_letterOf {Γ : GAM} {l : Launch} (th : Nat) (p0 : Int32) (p1 : Int32) (p2 : Int32) (p3 : Int32) (g : GH) (K : Int32 → GH → Prop) (h : Sp_M_letterOf Γ th p0 p1 p2 p3 g K) : MetA Γ l yX11_letterOf cX11_letterOf 5 (some (.int)) 4 99 [.ref th, .int p0, .int p1, .int p2, .int p3] g (fun r g' => ∃ x, r = some (.int x) ∧ K x g') := by
  obtain ⟨ma, s, hI, hw, he, hK⟩ := h
  obtain ⟨x, hx, hex⟩ := eOk_get he
  obtain ⟨y, hy, hvy, hv0, hvl⟩ := vOk_get hw hx
  obtain ⟨hkd, hS⟩ := hI.1
  obtain ⟨v1, v2, v3⟩ := hI.vot
  obtain ⟨w1, w2, w3⟩ := hI.env
  obtain ⟨z_streetOf1, z_streetOf2, z_streetOf3, z_streetOf4, z_streetOf5⟩ := hS 1550 20 60 rfl
  obtain ⟨z_voterOf1, z_voterOf2, z_voterOf3, z_voterOf4, z_voterOf5⟩ := hS 1556 20 200 rfl
  obtain ⟨z_sentOn1, z_sentOn2, z_sentOn3, z_sentOn4, z_sentOn5⟩ := hS 1557 20 200 rfl
  have hbe : inB p0 200 := ⟨he.1, by have := he.2; omega⟩
  have hbv : inB x.1 60 := ⟨hv0, by omega⟩
  have hK0 := hK g FrX.rf
  have hd : ∀ k K, K (sDay s p0 k p2) g → Sp_M_dayOf Γ th p0 k p2 g K := fun k K h => ⟨ma, s, hI, h⟩
  unfold sLet at hK hK0
  rw [hex] at hK hK0
  rw [hvy] at hK hK0
  refine rl_M_letterOf ?_
  simp only [B_M_letterOf_214, B_M_letterOf_0, hkd, z_streetOf1, z_streetOf2, z_streetOf3, z_streetOf4, z_streetOf5, z_voterOf1, z_voterOf2, z_voterOf3, z_voterOf4, z_voterOf5, z_sentOn1, z_sentOn2, z_sentOn3, z_sentOn4, z_sentOn5, hbe, hbv, (w3 _ x hx).1, (w3 _ x hx).2.1, (v3 _ y hy).2.1, true_and, Option.some.injEq, exists_eq_left']
  repeat' with_reducible first | apply And.intro | intro _
  all_goals first
    | (subst_vars; simpa [*] using hK0)
    | (refine hd _ _ ?_; subst_vars; simpa [*] using hK0)
    | (refine ⟨ma, s, hI, ?_⟩; subst_vars; simpa [*] using hK0)
    | (refine ⟨ma, s, hI, hw, he, ?_⟩; subst_vars; simpa [*] using hK0)
    | (refine ⟨ma, s, hI, fun g' hx1 hx2 => ?_⟩; subst_vars; simpa [*] using hK g' hx1)
    | (refine ⟨ma, s, hI, fun g' hx1 hx2 hx3 => ⟨by rw [hx1.1.2.2.2.2.2.1]; exact hkd, fun q => ?_, fun q => ?_⟩⟩ <;> rw [hx3] at q <;> subst_vars <;> simpa [*] using hK g' hx1)
