/-! the law's own letter: the number in a place of a row, or the throw caught -/
theorem ClsI.la {Γ : GAM} {C : CDR} {g : GH} {s : ST} {a i : Nat} {v : Int64} (h : ClsI Γ C g s) : ClsI Γ C (sLA g a i v) s := h
theorem RM.la {Γ : GAM} {C : CDR} {g : GH} {s : ST} {a i n : Nat} {v : Int64} (h : RM Γ C g s n) : RM Γ C (sLA g a i v) s n := h
theorem RefI.la {m : Nat} {ma : Nat → Nat} {g : GH} {s : ST} {a i : Nat} {v : Int64} (h : RefI m ma g s) : RefI m ma (sLA g a i v) s :=
  h.cg h.1 (fun _ _ => rfl) (fun _ _ => rfl)
theorem cw_L : Cond.codeWith yL_letter cL_letter 6 (some .int) [(0, 12, 15, 13)] ∈ gwl ∧ Cond.initialized yL_letter.cls ∈ gwl ∧ Cond.methodLink RL 92 yL_letter ∈ gwl ∧ Cond.static yL_letter ∈ gwl := by
  refine ⟨?_, ?_, ?_, ?_⟩ <;> decide +kernel
def Sp_LAW_letter (Γ : GAM) (x : Nat) (p0 p1 p2 : Int32) (o : Nat) (g : GH) (K : Int32 → GH → Prop) : Prop := ∃ C s n, c_x C = x ∧ ClsI Γ C g s ∧ WF s ∧ RM Γ C g s (n + 1) ∧ (Kd g o = 23 ∧ 1 ≤ Ln g o) ∧ ∀ g', FrC g g' → ClsI Γ C g' s → RM Γ C g' s n → (ok_letter s p0 p1 p2 → K 0 (sLA g' o 0 (p_letter s p0 p1 p2).toInt64)) ∧ (¬ ok_letter s p0 p1 p2 → K 1 g')
theorem FrC.kd {g g' : GH} (h : FrC g g') {a : Nat} (ha : a < Hn g) (hk : Kd g a ≠ 22) : Kd g' a = Kd g a ∧ Co g' a = Co g a ∧ Ow g' a = Ow g a ∧ Ln g' a = Ln g a := by
  obtain ⟨fs, cs, als, h1, h2, k⟩ := h
  exact k.kd ha hk
theorem mt_LAW_letter {Γ : GAM} {l : Launch} (hl : l.stackTraces = false) (th : Nat) (p0 p1 p2 : Int32) (p3 : Nat) (g : GH) (K : Int32 → GH → Prop) (h : Sp_LAW_letter Γ th p0 p1 p2 p3 g K) : MetH Γ l yL_letter cL_letter 6 (some .int) [(0, 12, 15, 13)] 11 423 [.ref th, .int p0, .int p1, .int p2, .ref p3] g (fun r g' => ∃ x, r = some (.int x) ∧ K x g') := by
  obtain ⟨C, s, n, rfl, hI, hW, hR, ⟨ho1, ho2⟩, hK⟩ := h
  refine MetH.introL (Lx := [some (.ref (c_x C)), some (.int p0), some (.int p1), some (.int p2), some (.ref p3), none]) (by decide) (Nat.le_of_ble_eq_true rfl) rfl rfl ?_
  intro E hEl hE htab
  have hk12 := hI.1.1.2
  refine j_aload hE (by decide +kernel : decode cL_letter 0 = .ok (.aload 4, 2)) rfl ?_
  refine j_iconst hE (by decide +kernel : decode cL_letter 2 = .ok (.iconst 0, 1)) (v := (0 : Int32)) (by decide) ?_
  refine j_aload_n hE (by decide +kernel : decode cL_letter 3 = .ok (.aload_n 0, 1)) rfl rfl ?_
  refine j_iload_n hE (by decide +kernel : decode cL_letter 4 = .ok (.iload_n 1, 1)) rfl rfl ?_
  refine j_iload_n hE (by decide +kernel : decode cL_letter 5 = .ok (.iload_n 2, 1)) rfl rfl ?_
  refine j_iload_n hE (by decide +kernel : decode cL_letter 6 = .ok (.iload_n 3, 1)) rfl rfl ?_
  refine j_callVX hE rfl cl_L_7 cf_11 im_X10_letter se_X10_letter ⟨by omega, by omega⟩ (As := [.int p0, .int p1, .int p2]) (rest := [.int 0, .ref p3]) rfl rfl (Nat.le_of_ble_eq_true rfl) hk12 (by decide +kernel : decode cL_letter 7 = .ok (.invokevirtual 7, 3)) ⟨0, 12, 15, 13⟩ htab (by decide) (by decide) ck_L_13 ca_NSE
    (mx_PV_letter _ _ _ _ _ (fun x g' => (Kd g' p3 = 23 ∧ 1 ≤ Ln g' p3) ∧ K 0 (sLA g' p3 0 x.toInt64)) (fun g' => K 1 g') (by rw [hEl]; exact hl) ⟨C, s, n, rfl, hI, hW, hR, fun g' a b c => ⟨fun ok => ⟨?_, (hK g' a b c).1 ok⟩, fun ok => (hK g' a b c).2 ok⟩⟩) ?_ ?_
  · have := a.kd (hI.en.lt (a := p3) (by omega)) (by omega)
    exact ⟨this.1.trans ho1, by rw [this.2.2.2]; exact ho2⟩
  · rintro _ g1 ⟨x, rfl, ⟨hk3, hl3⟩, hK1⟩
    refine j_i2l hE (by decide +kernel : decode cL_letter 10 = .ok (.i2l, 1)) ?_
    refine j_last hE hk3 (i := (0 : Int32)) ⟨Int32.le_refl _, by rw [show (0 : Int32).toNatClampNeg = 0 from by decide]; omega⟩ (by decide +kernel : decode cL_letter 11 = .ok (.lastore, 1)) ?_
    refine j_goto hE (by decide +kernel : decode cL_letter 12 = .ok (.goto 7, 3)) (tgt := 19) (by decide) ?_
    refine j_iconst hE (by decide +kernel : decode cL_letter 19 = .ok (.iconst 0, 1)) (v := (0 : Int32)) (by decide) ?_
    exact j_iret hE (by decide +kernel : decode cL_letter 20 = .ok (.ireturn, 1)) ⟨_, rfl, hK1⟩
  · intro q g1 hKX
    refine j_astore hE (by decide +kernel : decode cL_letter 15 = .ok (.astore 5, 2)) (Nat.le_of_ble_eq_true rfl) rfl ?_
    refine j_iconst hE (by decide +kernel : decode cL_letter 17 = .ok (.iconst 1, 1)) (v := (1 : Int32)) (by decide) ?_
    exact j_iret hE (by decide +kernel : decode cL_letter 18 = .ok (.ireturn, 1)) ⟨_, rfl, hKX⟩
