/-! by program: what the tables say -/
theorem gw_sel {q : MethodName × Nat} {x : Cond} (h : q ∈ lw_privs) (e : x = Cond.selects q.1.cls q.1 q.1 := by rfl) : x ∈ gwl := by
  subst e
  exact List.mem_filter.mpr ⟨List.mem_append_left _ (List.mem_map.mpr ⟨q, h, rfl⟩), rfl⟩
theorem lays_in : ∀ w ∈ gc_lays ++ gc_laysFinal, w ∈ gwl := fun w h => (List.mem_append.mp h).elim (fun h => gw_of ge_lays gg_lays h) (fun h => gw_of ge_laysFinal gg_laysF h)
set_option maxRecDepth 100000 in
theorem cf_0 : CFx 0 RJx4a65c TJx4a65c 3 tyJx4a65c := by
  refine ⟨rfl, fun w h => lays_in w ((by decide +kernel : ∀ w ∈ u_ws RJx4a65c TJx4a65c 3, w ∈ gc_lays ++ gc_laysFinal) w h), tyJx4a65c_ok, nmJx4a65c, by decide +kernel, ?_, by omega, gw_of ge_instantiable gg_inst (List.mem_of_getElem? (i := 2) rfl)⟩
  intro k hk
  rcases (show k = 0 ∨ k = 1 ∨ k = 2 by omega) with rfl | rfl | rfl
  · exact (rfl : tyJx4a65c 0 = .int)
  · exact Or.inr ⟨_, rfl⟩
  · exact (rfl : tyJx4a65c 2 = .int)
set_option maxRecDepth 100000 in
theorem cf_1 : CFx 1 RX0 TX0 15 tyX0 := by
  refine ⟨rfl, fun w h => lays_in w ((by decide +kernel : ∀ w ∈ u_ws RX0 TX0 15, w ∈ gc_lays ++ gc_laysFinal) w h), tyX0_ok, nmX0, by decide +kernel, ?_, by omega, gw_of ge_instantiable gg_inst (List.mem_of_getElem? (i := 9) rfl)⟩
  intro k hk
  rcases (show k = 0 ∨ k = 1 ∨ k = 2 ∨ k = 3 ∨ k = 4 ∨ k = 5 ∨ k = 6 ∨ k = 7 ∨ k = 8 ∨ k = 9 ∨ k = 10 ∨ k = 11 ∨ k = 12 ∨ k = 13 ∨ k = 14 by omega) with rfl | rfl | rfl | rfl | rfl | rfl | rfl | rfl | rfl | rfl | rfl | rfl | rfl | rfl | rfl
  · exact (rfl : tyX0 0 = .int)
  · exact Or.inl ⟨_, rfl⟩
  · exact (rfl : tyX0 2 = .int)
  · exact (rfl : tyX0 3 = .int)
  · exact (rfl : tyX0 4 = .int)
  · exact Or.inl ⟨_, rfl⟩
  · exact (rfl : tyX0 6 = .int)
  · exact Or.inr ⟨_, rfl⟩
  · exact Or.inr ⟨_, rfl⟩
  · exact (rfl : tyX0 9 = .int)
  · exact (rfl : tyX0 10 = .int)
  · exact (rfl : tyX0 11 = .int)
  · exact (rfl : tyX0 12 = .int)
  · exact (rfl : tyX0 13 = .int)
  · exact (rfl : tyX0 14 = .int)
set_option maxRecDepth 100000 in
theorem cf_2 : CFx 2 RX1 TX1 4 tyX1 := by
  refine ⟨rfl, fun w h => lays_in w ((by decide +kernel : ∀ w ∈ u_ws RX1 TX1 4, w ∈ gc_lays ++ gc_laysFinal) w h), tyX1_ok, nmX1, by decide +kernel, ?_, by omega, gw_of ge_instantiable gg_inst (List.mem_of_getElem? (i := 11) rfl)⟩
  intro k hk
  rcases (show k = 0 ∨ k = 1 ∨ k = 2 ∨ k = 3 by omega) with rfl | rfl | rfl | rfl
  · exact (rfl : tyX1 0 = .int)
  · exact (rfl : tyX1 1 = .int)
  · exact Or.inr ⟨_, rfl⟩
  · exact (rfl : tyX1 3 = .int)
set_option maxRecDepth 100000 in
theorem cf_3 : CFx 3 RX2 TX2 3 tyX2 := by
  refine ⟨rfl, fun w h => lays_in w ((by decide +kernel : ∀ w ∈ u_ws RX2 TX2 3, w ∈ gc_lays ++ gc_laysFinal) w h), tyX2_ok, nmX2, by decide +kernel, ?_, by omega, gw_of ge_instantiable gg_inst (List.mem_of_getElem? (i := 3) rfl)⟩
  intro k hk
  rcases (show k = 0 ∨ k = 1 ∨ k = 2 by omega) with rfl | rfl | rfl
  · exact Or.inl ⟨_, rfl⟩
  · exact Or.inr ⟨_, rfl⟩
  · exact (rfl : tyX2 2 = .int)
set_option maxRecDepth 100000 in
theorem cf_4 : CFx 4 RX3 TX3 7 tyX3 := by
  refine ⟨rfl, fun w h => lays_in w ((by decide +kernel : ∀ w ∈ u_ws RX3 TX3 7, w ∈ gc_lays ++ gc_laysFinal) w h), tyX3_ok, nmX3, by decide +kernel, ?_, by omega, gw_of ge_instantiable gg_inst (List.mem_of_getElem? (i := 10) rfl)⟩
  intro k hk
  rcases (show k = 0 ∨ k = 1 ∨ k = 2 ∨ k = 3 ∨ k = 4 ∨ k = 5 ∨ k = 6 by omega) with rfl | rfl | rfl | rfl | rfl | rfl | rfl
  · exact (rfl : tyX3 0 = .int)
  · exact (rfl : tyX3 1 = .int)
  · exact (rfl : tyX3 2 = .int)
  · exact (rfl : tyX3 3 = .int)
  · exact Or.inr ⟨_, rfl⟩
  · exact Or.inr ⟨_, rfl⟩
  · exact Or.inr ⟨_, rfl⟩
set_option maxRecDepth 100000 in
theorem cf_5 : CFx 5 RX4 TX4 10 tyX4 := by
  refine ⟨rfl, fun w h => lays_in w ((by decide +kernel : ∀ w ∈ u_ws RX4 TX4 10, w ∈ gc_lays ++ gc_laysFinal) w h), tyX4_ok, nmX4, by decide +kernel, ?_, by omega, gw_of ge_instantiable gg_inst (List.mem_of_getElem? (i := 1) rfl)⟩
  intro k hk
  rcases (show k = 0 ∨ k = 1 ∨ k = 2 ∨ k = 3 ∨ k = 4 ∨ k = 5 ∨ k = 6 ∨ k = 7 ∨ k = 8 ∨ k = 9 by omega) with rfl | rfl | rfl | rfl | rfl | rfl | rfl | rfl | rfl | rfl
  · exact Or.inl ⟨_, rfl⟩
  · exact Or.inl ⟨_, rfl⟩
  · exact Or.inl ⟨_, rfl⟩
  · exact Or.inl ⟨_, rfl⟩
  · exact Or.inl ⟨_, rfl⟩
  · exact (rfl : tyX4 5 = .int)
  · exact (rfl : tyX4 6 = .int)
  · exact (rfl : tyX4 7 = .int)
  · exact (rfl : tyX4 8 = .int)
  · exact (rfl : tyX4 9 = .int)
set_option maxRecDepth 100000 in
theorem cf_6 : CFx 6 RX5 TX5 7 tyX5 := by
  refine ⟨rfl, fun w h => lays_in w ((by decide +kernel : ∀ w ∈ u_ws RX5 TX5 7, w ∈ gc_lays ++ gc_laysFinal) w h), tyX5_ok, nmX5, by decide +kernel, ?_, by omega, gw_of ge_instantiable gg_inst (List.mem_of_getElem? (i := 5) rfl)⟩
  intro k hk
  rcases (show k = 0 ∨ k = 1 ∨ k = 2 ∨ k = 3 ∨ k = 4 ∨ k = 5 ∨ k = 6 by omega) with rfl | rfl | rfl | rfl | rfl | rfl | rfl
  · exact Or.inr ⟨_, rfl⟩
  · exact Or.inr ⟨_, rfl⟩
  · exact Or.inr ⟨_, rfl⟩
  · exact Or.inr ⟨_, rfl⟩
  · exact Or.inr ⟨_, rfl⟩
  · exact (rfl : tyX5 5 = .int)
  · exact (rfl : tyX5 6 = .int)
set_option maxRecDepth 100000 in
theorem cf_7 : CFx 7 RX6 TX6 8 tyX6 := by
  refine ⟨rfl, fun w h => lays_in w ((by decide +kernel : ∀ w ∈ u_ws RX6 TX6 8, w ∈ gc_lays ++ gc_laysFinal) w h), tyX6_ok, nmX6, by decide +kernel, ?_, by omega, gw_of ge_instantiable gg_inst (List.mem_of_getElem? (i := 4) rfl)⟩
  intro k hk
  rcases (show k = 0 ∨ k = 1 ∨ k = 2 ∨ k = 3 ∨ k = 4 ∨ k = 5 ∨ k = 6 ∨ k = 7 by omega) with rfl | rfl | rfl | rfl | rfl | rfl | rfl | rfl
  · exact Or.inr ⟨_, rfl⟩
  · exact (rfl : tyX6 1 = .int)
  · exact Or.inr ⟨_, rfl⟩
  · exact (rfl : tyX6 3 = .int)
  · exact Or.inr ⟨_, rfl⟩
  · exact Or.inr ⟨_, rfl⟩
  · exact (rfl : tyX6 6 = .int)
  · exact (rfl : tyX6 7 = .int)
set_option maxRecDepth 100000 in
theorem cf_8 : CFx 8 RX7 TX7 4 tyX7 := by
  refine ⟨rfl, fun w h => lays_in w ((by decide +kernel : ∀ w ∈ u_ws RX7 TX7 4, w ∈ gc_lays ++ gc_laysFinal) w h), tyX7_ok, nmX7, by decide +kernel, ?_, by omega, gw_of ge_instantiable gg_inst (List.mem_of_getElem? (i := 8) rfl)⟩
  intro k hk
  rcases (show k = 0 ∨ k = 1 ∨ k = 2 ∨ k = 3 by omega) with rfl | rfl | rfl | rfl
  · exact (rfl : tyX7 0 = .int)
  · exact (rfl : tyX7 1 = .int)
  · exact (rfl : tyX7 2 = .int)
  · exact (rfl : tyX7 3 = .int)
set_option maxRecDepth 100000 in
theorem cf_9 : CFx 9 RX8 TX8 11 tyX8 := by
  refine ⟨rfl, fun w h => lays_in w ((by decide +kernel : ∀ w ∈ u_ws RX8 TX8 11, w ∈ gc_lays ++ gc_laysFinal) w h), tyX8_ok, nmX8, by decide +kernel, ?_, by omega, gw_of ge_instantiable gg_inst (List.mem_of_getElem? (i := 6) rfl)⟩
  intro k hk
  rcases (show k = 0 ∨ k = 1 ∨ k = 2 ∨ k = 3 ∨ k = 4 ∨ k = 5 ∨ k = 6 ∨ k = 7 ∨ k = 8 ∨ k = 9 ∨ k = 10 by omega) with rfl | rfl | rfl | rfl | rfl | rfl | rfl | rfl | rfl | rfl | rfl
  · exact Or.inr ⟨_, rfl⟩
  · exact Or.inr ⟨_, rfl⟩
  · exact Or.inr ⟨_, rfl⟩
  · exact Or.inr ⟨_, rfl⟩
  · exact Or.inr ⟨_, rfl⟩
  · exact Or.inr ⟨_, rfl⟩
  · exact (rfl : tyX8 6 = .int)
  · exact (rfl : tyX8 7 = .int)
  · exact (rfl : tyX8 8 = .int)
  · exact (rfl : tyX8 9 = .int)
  · exact (rfl : tyX8 10 = .int)
set_option maxRecDepth 100000 in
theorem cf_10 : CFx 10 RX9 TX9 9 tyX9 := by
  refine ⟨rfl, fun w h => lays_in w ((by decide +kernel : ∀ w ∈ u_ws RX9 TX9 9, w ∈ gc_lays ++ gc_laysFinal) w h), tyX9_ok, nmX9, by decide +kernel, ?_, by omega, gw_of ge_instantiable gg_inst (List.mem_of_getElem? (i := 7) rfl)⟩
  intro k hk
  rcases (show k = 0 ∨ k = 1 ∨ k = 2 ∨ k = 3 ∨ k = 4 ∨ k = 5 ∨ k = 6 ∨ k = 7 ∨ k = 8 by omega) with rfl | rfl | rfl | rfl | rfl | rfl | rfl | rfl | rfl
  · exact (rfl : tyX9 0 = .int)
  · exact (rfl : tyX9 1 = .int)
  · exact (rfl : tyX9 2 = .int)
  · exact Or.inl ⟨_, rfl⟩
  · exact Or.inl ⟨_, rfl⟩
  · exact (rfl : tyX9 5 = .int)
  · exact (rfl : tyX9 6 = .int)
  · exact (rfl : tyX9 7 = .int)
  · exact (rfl : tyX9 8 = .int)
set_option maxRecDepth 100000 in
theorem cf_11 : CFx 11 RX10 TX10 10 tyX10 := by
  refine ⟨rfl, fun w h => lays_in w ((by decide +kernel : ∀ w ∈ u_ws RX10 TX10 10, w ∈ gc_lays ++ gc_laysFinal) w h), tyX10_ok, nmX10, by decide +kernel, ?_, by omega, gw_of ge_instantiable gg_inst (List.mem_of_getElem? (i := 0) rfl)⟩
  intro k hk
  rcases (show k = 0 ∨ k = 1 ∨ k = 2 ∨ k = 3 ∨ k = 4 ∨ k = 5 ∨ k = 6 ∨ k = 7 ∨ k = 8 ∨ k = 9 by omega) with rfl | rfl | rfl | rfl | rfl | rfl | rfl | rfl | rfl | rfl
  · exact (rfl : tyX10 0 = .int)
  · exact (rfl : tyX10 1 = .int)
  · exact Or.inl ⟨_, rfl⟩
  · exact Or.inl ⟨_, rfl⟩
  · exact Or.inl ⟨_, rfl⟩
  · exact Or.inl ⟨_, rfl⟩
  · exact Or.inl ⟨_, rfl⟩
  · exact Or.inr ⟨_, rfl⟩
  · exact Or.inr ⟨_, rfl⟩
  · exact Or.inr ⟨_, rfl⟩
set_option maxRecDepth 100000 in
theorem cf_12 : CFx 12 RX11 TX11 95 tyX11 := by
  refine ⟨rfl, fun w h => lays_in w ((by decide +kernel : ∀ w ∈ u_ws RX11 TX11 95, w ∈ gc_lays ++ gc_laysFinal) w h), tyX11_ok, nmX11, by decide +kernel, ?_, by omega, gw_of ge_instantiable gg_inst (List.mem_of_getElem? (i := 14) rfl)⟩
  intro k hk
  rcases (show k = 0 ∨ k = 1 ∨ k = 2 ∨ k = 3 ∨ k = 4 ∨ k = 5 ∨ k = 6 ∨ k = 7 ∨ k = 8 ∨ k = 9 ∨ k = 10 ∨ k = 11 ∨ k = 12 ∨ k = 13 ∨ k = 14 ∨ k = 15 ∨ k = 16 ∨ k = 17 ∨ k = 18 ∨ k = 19 ∨ k = 20 ∨ k = 21 ∨ k = 22 ∨ k = 23 ∨ k = 24 ∨ k = 25 ∨ k = 26 ∨ k = 27 ∨ k = 28 ∨ k = 29 ∨ k = 30 ∨ k = 31 ∨ k = 32 ∨ k = 33 ∨ k = 34 ∨ k = 35 ∨ k = 36 ∨ k = 37 ∨ k = 38 ∨ k = 39 ∨ k = 40 ∨ k = 41 ∨ k = 42 ∨ k = 43 ∨ k = 44 ∨ k = 45 ∨ k = 46 ∨ k = 47 ∨ k = 48 ∨ k = 49 ∨ k = 50 ∨ k = 51 ∨ k = 52 ∨ k = 53 ∨ k = 54 ∨ k = 55 ∨ k = 56 ∨ k = 57 ∨ k = 58 ∨ k = 59 ∨ k = 60 ∨ k = 61 ∨ k = 62 ∨ k = 63 ∨ k = 64 ∨ k = 65 ∨ k = 66 ∨ k = 67 ∨ k = 68 ∨ k = 69 ∨ k = 70 ∨ k = 71 ∨ k = 72 ∨ k = 73 ∨ k = 74 ∨ k = 75 ∨ k = 76 ∨ k = 77 ∨ k = 78 ∨ k = 79 ∨ k = 80 ∨ k = 81 ∨ k = 82 ∨ k = 83 ∨ k = 84 ∨ k = 85 ∨ k = 86 ∨ k = 87 ∨ k = 88 ∨ k = 89 ∨ k = 90 ∨ k = 91 ∨ k = 92 ∨ k = 93 ∨ k = 94 by omega) with rfl | rfl | rfl | rfl | rfl | rfl | rfl | rfl | rfl | rfl | rfl | rfl | rfl | rfl | rfl | rfl | rfl | rfl | rfl | rfl | rfl | rfl | rfl | rfl | rfl | rfl | rfl | rfl | rfl | rfl | rfl | rfl | rfl | rfl | rfl | rfl | rfl | rfl | rfl | rfl | rfl | rfl | rfl | rfl | rfl | rfl | rfl | rfl | rfl | rfl | rfl | rfl | rfl | rfl | rfl | rfl | rfl | rfl | rfl | rfl | rfl | rfl | rfl | rfl | rfl | rfl | rfl | rfl | rfl | rfl | rfl | rfl | rfl | rfl | rfl | rfl | rfl | rfl | rfl | rfl | rfl | rfl | rfl | rfl | rfl | rfl | rfl | rfl | rfl | rfl | rfl | rfl | rfl | rfl | rfl
  · exact (rfl : tyX11 0 = .int)
  · exact (rfl : tyX11 1 = .int)
  · exact (rfl : tyX11 2 = .int)
  · exact (rfl : tyX11 3 = .int)
  · exact (rfl : tyX11 4 = .int)
  · exact (rfl : tyX11 5 = .int)
  · exact (rfl : tyX11 6 = .int)
  · exact (rfl : tyX11 7 = .int)
  · exact (rfl : tyX11 8 = .int)
  · exact (rfl : tyX11 9 = .int)
  · exact (rfl : tyX11 10 = .int)
  · exact (rfl : tyX11 11 = .int)
  · exact (rfl : tyX11 12 = .int)
  · exact Or.inr ⟨_, rfl⟩
  · exact Or.inr ⟨_, rfl⟩
  · exact Or.inr ⟨_, rfl⟩
  · exact Or.inr ⟨_, rfl⟩
  · exact Or.inr ⟨_, rfl⟩
  · exact Or.inr ⟨_, rfl⟩
  · exact Or.inr ⟨_, rfl⟩
  · exact Or.inr ⟨_, rfl⟩
  · exact Or.inr ⟨_, rfl⟩
  · exact Or.inr ⟨_, rfl⟩
  · exact Or.inr ⟨_, rfl⟩
  · exact Or.inr ⟨_, rfl⟩
  · exact Or.inr ⟨_, rfl⟩
  · exact Or.inr ⟨_, rfl⟩
  · exact Or.inr ⟨_, rfl⟩
  · exact Or.inr ⟨_, rfl⟩
  · exact Or.inr ⟨_, rfl⟩
  · exact Or.inr ⟨_, rfl⟩
  · exact Or.inr ⟨_, rfl⟩
  · exact Or.inr ⟨_, rfl⟩
  · exact (rfl : tyX11 33 = .int)
  · exact (rfl : tyX11 34 = .int)
  · exact Or.inr ⟨_, rfl⟩
  · exact Or.inr ⟨_, rfl⟩
  · exact Or.inr ⟨_, rfl⟩
  · exact Or.inr ⟨_, rfl⟩
  · exact Or.inr ⟨_, rfl⟩
  · exact Or.inr ⟨_, rfl⟩
  · exact Or.inr ⟨_, rfl⟩
  · exact Or.inr ⟨_, rfl⟩
  · exact Or.inr ⟨_, rfl⟩
  · exact Or.inr ⟨_, rfl⟩
  · exact Or.inr ⟨_, rfl⟩
  · exact Or.inr ⟨_, rfl⟩
  · exact Or.inr ⟨_, rfl⟩
  · exact Or.inr ⟨_, rfl⟩
  · exact Or.inr ⟨_, rfl⟩
  · exact Or.inr ⟨_, rfl⟩
  · exact Or.inr ⟨_, rfl⟩
  · exact (rfl : tyX11 52 = .int)
  · exact (rfl : tyX11 53 = .int)
  · exact (rfl : tyX11 54 = .int)
  · exact (rfl : tyX11 55 = .int)
  · exact (rfl : tyX11 56 = .int)
  · exact (rfl : tyX11 57 = .int)
  · exact Or.inr ⟨_, rfl⟩
  · exact (rfl : tyX11 59 = .int)
  · exact Or.inr ⟨_, rfl⟩
  · exact Or.inr ⟨_, rfl⟩
  · exact Or.inr ⟨_, rfl⟩
  · exact Or.inr ⟨_, rfl⟩
  · exact Or.inr ⟨_, rfl⟩
  · exact Or.inr ⟨_, rfl⟩
  · exact (rfl : tyX11 66 = .int)
  · exact (rfl : tyX11 67 = .int)
  · exact (rfl : tyX11 68 = .int)
  · exact (rfl : tyX11 69 = .int)
  · exact (rfl : tyX11 70 = .int)
  · exact Or.inr ⟨_, rfl⟩
  · exact Or.inr ⟨_, rfl⟩
  · exact Or.inr ⟨_, rfl⟩
  · exact Or.inr ⟨_, rfl⟩
  · exact Or.inr ⟨_, rfl⟩
  · exact Or.inr ⟨_, rfl⟩
  · exact Or.inr ⟨_, rfl⟩
  · exact Or.inr ⟨_, rfl⟩
  · exact (rfl : tyX11 79 = .int)
  · exact Or.inr ⟨_, rfl⟩
  · exact Or.inr ⟨_, rfl⟩
  · exact Or.inr ⟨_, rfl⟩
  · exact Or.inr ⟨_, rfl⟩
  · exact Or.inr ⟨_, rfl⟩
  · exact Or.inr ⟨_, rfl⟩
  · exact Or.inr ⟨_, rfl⟩
  · exact (rfl : tyX11 87 = .int)
  · exact (rfl : tyX11 88 = .int)
  · exact (rfl : tyX11 89 = .int)
  · exact Or.inr ⟨_, rfl⟩
  · exact Or.inr ⟨_, rfl⟩
  · exact Or.inr ⟨_, rfl⟩
  · exact Or.inr ⟨_, rfl⟩
  · exact Or.inr ⟨_, rfl⟩
theorem fg_X10_9 : FGx RX10 9 11 1 false := ⟨RX10, TX10, 10, tyX10, "PostVotes", cf_11, by omega, rfl, gw_of ge_fieldLink gg_fl (List.mem_of_getElem? (i := 61) rfl), Or.inl rfl⟩
theorem fa_X10_9 : FAx RX10 9 11 1 false false := ⟨RX10, TX10, 10, tyX10, "PostVotes", cf_11, by omega, rfl, rfl, gw_of ge_fieldLink gg_fl (List.mem_of_getElem? (i := 61) rfl), Or.inl rfl, (fun h => by cases h)⟩
theorem fg_X10_16 : FGx RX10 16 11 2 true := ⟨RX10, TX10, 10, tyX10, "PostVotes", cf_11, by omega, rfl, gw_of ge_fieldLink gg_fl (List.mem_of_getElem? (i := 62) rfl), Or.inl rfl⟩
theorem fa_X10_16 : FAx RX10 16 11 2 true true := ⟨RX10, TX10, 10, tyX10, "PostVotes", cf_11, by omega, rfl, rfl, gw_of ge_fieldLink gg_fl (List.mem_of_getElem? (i := 62) rfl), Or.inl rfl, fun _ => rfl⟩
theorem fg_X10_23 : FGx RX10 23 11 3 true := ⟨RX10, TX10, 10, tyX10, "PostVotes", cf_11, by omega, rfl, gw_of ge_fieldLink gg_fl (List.mem_of_getElem? (i := 63) rfl), Or.inl rfl⟩
theorem fa_X10_23 : FAx RX10 23 11 3 true true := ⟨RX10, TX10, 10, tyX10, "PostVotes", cf_11, by omega, rfl, rfl, gw_of ge_fieldLink gg_fl (List.mem_of_getElem? (i := 63) rfl), Or.inl rfl, fun _ => rfl⟩
theorem fg_X10_30 : FGx RX10 30 11 4 true := ⟨RX10, TX10, 10, tyX10, "PostVotes", cf_11, by omega, rfl, gw_of ge_fieldLink gg_fl (List.mem_of_getElem? (i := 64) rfl), Or.inl rfl⟩
theorem fa_X10_30 : FAx RX10 30 11 4 true true := ⟨RX10, TX10, 10, tyX10, "PostVotes", cf_11, by omega, rfl, rfl, gw_of ge_fieldLink gg_fl (List.mem_of_getElem? (i := 64) rfl), Or.inl rfl, fun _ => rfl⟩
theorem fg_X10_37 : FGx RX10 37 11 5 true := ⟨RX10, TX10, 10, tyX10, "PostVotes", cf_11, by omega, rfl, gw_of ge_fieldLink gg_fl (List.mem_of_getElem? (i := 65) rfl), Or.inl rfl⟩
theorem fa_X10_37 : FAx RX10 37 11 5 true true := ⟨RX10, TX10, 10, tyX10, "PostVotes", cf_11, by omega, rfl, rfl, gw_of ge_fieldLink gg_fl (List.mem_of_getElem? (i := 65) rfl), Or.inl rfl, fun _ => rfl⟩
theorem fg_X10_44 : FGx RX10 44 11 6 true := ⟨RX10, TX10, 10, tyX10, "PostVotes", cf_11, by omega, rfl, gw_of ge_fieldLink gg_fl (List.mem_of_getElem? (i := 66) rfl), Or.inl rfl⟩
theorem fa_X10_44 : FAx RX10 44 11 6 true true := ⟨RX10, TX10, 10, tyX10, "PostVotes", cf_11, by omega, rfl, rfl, gw_of ge_fieldLink gg_fl (List.mem_of_getElem? (i := 66) rfl), Or.inl rfl, fun _ => rfl⟩
theorem fg_X10_48 : FGx RX10 48 11 7 true := ⟨RX10, TX10, 10, tyX10, "PostVotes", cf_11, by omega, rfl, gw_of ge_fieldLink gg_fl (List.mem_of_getElem? (i := 67) rfl), Or.inl rfl⟩
theorem fa_X10_48 : FAx RX10 48 11 7 true true := ⟨RX10, TX10, 10, tyX10, "PostVotes", cf_11, by omega, rfl, rfl, gw_of ge_fieldLink gg_fl (List.mem_of_getElem? (i := 67) rfl), Or.inl rfl, fun _ => rfl⟩
theorem fg_X10_52 : FGx RX10 52 11 8 true := ⟨RX10, TX10, 10, tyX10, "PostVotes", cf_11, by omega, rfl, gw_of ge_fieldLink gg_fl (List.mem_of_getElem? (i := 68) rfl), Or.inl rfl⟩
theorem fa_X10_52 : FAx RX10 52 11 8 true true := ⟨RX10, TX10, 10, tyX10, "PostVotes", cf_11, by omega, rfl, rfl, gw_of ge_fieldLink gg_fl (List.mem_of_getElem? (i := 68) rfl), Or.inl rfl, fun _ => rfl⟩
theorem fg_X10_55 : FGx RX10 55 11 9 true := ⟨RX10, TX10, 10, tyX10, "PostVotes", cf_11, by omega, rfl, gw_of ge_fieldLink gg_fl (List.mem_of_getElem? (i := 69) rfl), Or.inl rfl⟩
theorem fa_X10_55 : FAx RX10 55 11 9 true true := ⟨RX10, TX10, 10, tyX10, "PostVotes", cf_11, by omega, rfl, rfl, gw_of ge_fieldLink gg_fl (List.mem_of_getElem? (i := 69) rfl), Or.inl rfl, fun _ => rfl⟩
theorem fg_X10_68 : FGx RX10 68 11 0 false := ⟨RX10, TX10, 10, tyX10, "PostVotes", cf_11, by omega, rfl, gw_of ge_fieldLink gg_fl (List.mem_of_getElem? (i := 60) rfl), Or.inl rfl⟩
theorem fa_X10_68 : FAx RX10 68 11 0 false false := ⟨RX10, TX10, 10, tyX10, "PostVotes", cf_11, by omega, rfl, rfl, gw_of ge_fieldLink gg_fl (List.mem_of_getElem? (i := 60) rfl), Or.inl rfl, (fun h => by cases h)⟩
theorem fg_X10_81 : FGx RX10 81 5 0 true := ⟨RX4, TX4, 10, tyX4, "PostVotes$Post", cf_5, by omega, rfl, gw_of ge_fieldLink gg_fl (List.mem_of_getElem? (i := 10) rfl), Or.inl rfl⟩
theorem fg_X10_103 : FGx RX10 103 5 5 false := ⟨RX4, TX4, 10, tyX4, "PostVotes$Post", cf_5, by omega, rfl, gw_of ge_fieldLink gg_fl (List.mem_of_getElem? (i := 18) rfl), Or.inl rfl⟩
theorem fa_X10_103 : FAx RX10 103 5 5 false false := ⟨RX4, TX4, 10, tyX4, "PostVotes$Post", cf_5, by omega, rfl, rfl, gw_of ge_fieldLink gg_fl (List.mem_of_getElem? (i := 18) rfl), Or.inl rfl, (fun h => by cases h)⟩
theorem fg_X10_106 : FGx RX10 106 10 3 true := ⟨RX9, TX9, 9, tyX9, "PostVotes$Voter", cf_10, by omega, rfl, gw_of ge_fieldLink gg_fl (List.mem_of_getElem? (i := 78) rfl), Or.inl rfl⟩
theorem fg_X10_124 : FGx RX10 124 5 1 true := ⟨RX4, TX4, 10, tyX4, "PostVotes$Post", cf_5, by omega, rfl, gw_of ge_fieldLink gg_fl (List.mem_of_getElem? (i := 12) rfl), Or.inl rfl⟩
theorem fg_X10_132 : FGx RX10 132 10 4 true := ⟨RX9, TX9, 9, tyX9, "PostVotes$Voter", cf_10, by omega, rfl, gw_of ge_fieldLink gg_fl (List.mem_of_getElem? (i := 80) rfl), Or.inl rfl⟩
theorem fg_X10_140 : FGx RX10 140 5 6 false := ⟨RX4, TX4, 10, tyX4, "PostVotes$Post", cf_5, by omega, rfl, gw_of ge_fieldLink gg_fl (List.mem_of_getElem? (i := 19) rfl), Or.inl rfl⟩
theorem fa_X10_140 : FAx RX10 140 5 6 false false := ⟨RX4, TX4, 10, tyX4, "PostVotes$Post", cf_5, by omega, rfl, rfl, gw_of ge_fieldLink gg_fl (List.mem_of_getElem? (i := 19) rfl), Or.inl rfl, (fun h => by cases h)⟩
theorem fg_X10_143 : FGx RX10 143 1 5 true := ⟨RX0, TX0, 15, tyX0, "PostVotes$Envelope", cf_1, by omega, rfl, gw_of ge_fieldLink gg_fl (List.mem_of_getElem? (i := 125) rfl), Or.inl rfl⟩
theorem fg_X10_144 : FGx RX10 144 5 2 true := ⟨RX4, TX4, 10, tyX4, "PostVotes$Post", cf_5, by omega, rfl, gw_of ge_fieldLink gg_fl (List.mem_of_getElem? (i := 14) rfl), Or.inl rfl⟩
theorem fg_X10_151 : FGx RX10 151 8 3 false := ⟨RX7, TX7, 4, tyX7, "PostVotes$Told", cf_8, by omega, rfl, gw_of ge_fieldLink gg_fl (List.mem_of_getElem? (i := 110) rfl), Or.inl rfl⟩
theorem fg_X10_154 : FGx RX10 154 8 2 false := ⟨RX7, TX7, 4, tyX7, "PostVotes$Told", cf_8, by omega, rfl, gw_of ge_fieldLink gg_fl (List.mem_of_getElem? (i := 105) rfl), Or.inl rfl⟩
theorem fg_X10_160 : FGx RX10 160 5 7 false := ⟨RX4, TX4, 10, tyX4, "PostVotes$Post", cf_5, by omega, rfl, gw_of ge_fieldLink gg_fl (List.mem_of_getElem? (i := 20) rfl), Or.inl rfl⟩
theorem fa_X10_160 : FAx RX10 160 5 7 false false := ⟨RX4, TX4, 10, tyX4, "PostVotes$Post", cf_5, by omega, rfl, rfl, gw_of ge_fieldLink gg_fl (List.mem_of_getElem? (i := 20) rfl), Or.inl rfl, (fun h => by cases h)⟩
theorem fg_X10_166 : FGx RX10 166 5 8 false := ⟨RX4, TX4, 10, tyX4, "PostVotes$Post", cf_5, by omega, rfl, gw_of ge_fieldLink gg_fl (List.mem_of_getElem? (i := 21) rfl), Or.inl rfl⟩
theorem fa_X10_166 : FAx RX10 166 5 8 false false := ⟨RX4, TX4, 10, tyX4, "PostVotes$Post", cf_5, by omega, rfl, rfl, gw_of ge_fieldLink gg_fl (List.mem_of_getElem? (i := 21) rfl), Or.inl rfl, (fun h => by cases h)⟩
theorem fg_X10_169 : FGx RX10 169 5 9 false := ⟨RX4, TX4, 10, tyX4, "PostVotes$Post", cf_5, by omega, rfl, gw_of ge_fieldLink gg_fl (List.mem_of_getElem? (i := 22) rfl), Or.inl rfl⟩
theorem fa_X10_169 : FAx RX10 169 5 9 false false := ⟨RX4, TX4, 10, tyX4, "PostVotes$Post", cf_5, by omega, rfl, rfl, gw_of ge_fieldLink gg_fl (List.mem_of_getElem? (i := 22) rfl), Or.inl rfl, (fun h => by cases h)⟩
theorem fg_X10_176 : FGx RX10 176 7 1 false := ⟨RX6, TX6, 8, tyX6, "PostVotes$Tape", cf_7, by omega, rfl, gw_of ge_fieldLink gg_fl (List.mem_of_getElem? (i := 25) rfl), Or.inl rfl⟩
theorem fa_X10_176 : FAx RX10 176 7 1 false false := ⟨RX6, TX6, 8, tyX6, "PostVotes$Tape", cf_7, by omega, rfl, rfl, gw_of ge_fieldLink gg_fl (List.mem_of_getElem? (i := 25) rfl), Or.inl rfl, (fun h => by cases h)⟩
theorem fg_X10_186 : FGx RX10 186 5 3 true := ⟨RX4, TX4, 10, tyX4, "PostVotes$Post", cf_5, by omega, rfl, gw_of ge_fieldLink gg_fl (List.mem_of_getElem? (i := 16) rfl), Or.inl rfl⟩
theorem fg_X10_190 : FGx RX10 190 3 0 true := ⟨RX2, TX2, 3, tyX2, "PostVotes$Judge", cf_3, by omega, rfl, gw_of ge_fieldLink gg_fl (List.mem_of_getElem? (i := 6) rfl), Or.inl rfl⟩
theorem fg_X10_221 : FGx RX10 221 1 12 false := ⟨RX0, TX0, 15, tyX0, "PostVotes$Envelope", cf_1, by omega, rfl, gw_of ge_fieldLink gg_fl (List.mem_of_getElem? (i := 145) rfl), Or.inl rfl⟩
theorem fa_X10_221 : FAx RX10 221 1 12 false false := ⟨RX0, TX0, 15, tyX0, "PostVotes$Envelope", cf_1, by omega, rfl, rfl, gw_of ge_fieldLink gg_fl (List.mem_of_getElem? (i := 145) rfl), Or.inl rfl, (fun h => by cases h)⟩
theorem fg_X10_224 : FGx RX10 224 1 13 false := ⟨RX0, TX0, 15, tyX0, "PostVotes$Envelope", cf_1, by omega, rfl, gw_of ge_fieldLink gg_fl (List.mem_of_getElem? (i := 148) rfl), Or.inl rfl⟩
theorem fa_X10_224 : FAx RX10 224 1 13 false false := ⟨RX0, TX0, 15, tyX0, "PostVotes$Envelope", cf_1, by omega, rfl, rfl, gw_of ge_fieldLink gg_fl (List.mem_of_getElem? (i := 148) rfl), Or.inl rfl, (fun h => by cases h)⟩
theorem fg_X10_227 : FGx RX10 227 1 14 false := ⟨RX0, TX0, 15, tyX0, "PostVotes$Envelope", cf_1, by omega, rfl, gw_of ge_fieldLink gg_fl (List.mem_of_getElem? (i := 151) rfl), Or.inl rfl⟩
theorem fa_X10_227 : FAx RX10 227 1 14 false false := ⟨RX0, TX0, 15, tyX0, "PostVotes$Envelope", cf_1, by omega, rfl, rfl, gw_of ge_fieldLink gg_fl (List.mem_of_getElem? (i := 151) rfl), Or.inl rfl, (fun h => by cases h)⟩
theorem fg_X10_234 : FGx RX10 234 10 7 false := ⟨RX9, TX9, 9, tyX9, "PostVotes$Voter", cf_10, by omega, rfl, gw_of ge_fieldLink gg_fl (List.mem_of_getElem? (i := 91) rfl), Or.inl rfl⟩
theorem fa_X10_234 : FAx RX10 234 10 7 false false := ⟨RX9, TX9, 9, tyX9, "PostVotes$Voter", cf_10, by omega, rfl, rfl, gw_of ge_fieldLink gg_fl (List.mem_of_getElem? (i := 91) rfl), Or.inl rfl, (fun h => by cases h)⟩
theorem fg_X10_240 : FGx RX10 240 10 6 false := ⟨RX9, TX9, 9, tyX9, "PostVotes$Voter", cf_10, by omega, rfl, gw_of ge_fieldLink gg_fl (List.mem_of_getElem? (i := 87) rfl), Or.inl rfl⟩
theorem fa_X10_240 : FAx RX10 240 10 6 false false := ⟨RX9, TX9, 9, tyX9, "PostVotes$Voter", cf_10, by omega, rfl, rfl, gw_of ge_fieldLink gg_fl (List.mem_of_getElem? (i := 87) rfl), Or.inl rfl, (fun h => by cases h)⟩
theorem fg_X10_267 : FGx RX10 267 6 5 false := ⟨RX5, TX5, 7, tyX5, "PostVotes$Press", cf_6, by omega, rfl, gw_of ge_fieldLink gg_fl (List.mem_of_getElem? (i := 45) rfl), Or.inl rfl⟩
theorem fa_X10_267 : FAx RX10 267 6 5 false false := ⟨RX5, TX5, 7, tyX5, "PostVotes$Press", cf_6, by omega, rfl, rfl, gw_of ge_fieldLink gg_fl (List.mem_of_getElem? (i := 45) rfl), Or.inl rfl, (fun h => by cases h)⟩
theorem fg_X10_273 : FGx RX10 273 6 6 false := ⟨RX5, TX5, 7, tyX5, "PostVotes$Press", cf_6, by omega, rfl, gw_of ge_fieldLink gg_fl (List.mem_of_getElem? (i := 47) rfl), Or.inl rfl⟩
theorem fa_X10_273 : FAx RX10 273 6 6 false false := ⟨RX5, TX5, 7, tyX5, "PostVotes$Press", cf_6, by omega, rfl, rfl, gw_of ge_fieldLink gg_fl (List.mem_of_getElem? (i := 47) rfl), Or.inl rfl, (fun h => by cases h)⟩
theorem fg_X10_279 : FGx RX10 279 6 4 true := ⟨RX5, TX5, 7, tyX5, "PostVotes$Press", cf_6, by omega, rfl, gw_of ge_fieldLink gg_fl (List.mem_of_getElem? (i := 43) rfl), Or.inl rfl⟩
theorem fg_X10_282 : FGx RX10 282 6 2 true := ⟨RX5, TX5, 7, tyX5, "PostVotes$Press", cf_6, by omega, rfl, gw_of ge_fieldLink gg_fl (List.mem_of_getElem? (i := 40) rfl), Or.inl rfl⟩
theorem fg_X10_304 : FGx RX10 304 9 9 false := ⟨RX8, TX8, 11, tyX8, "PostVotes$Van", cf_9, by omega, rfl, gw_of ge_fieldLink gg_fl (List.mem_of_getElem? (i := 58) rfl), Or.inl rfl⟩
theorem fa_X10_304 : FAx RX10 304 9 9 false false := ⟨RX8, TX8, 11, tyX8, "PostVotes$Van", cf_9, by omega, rfl, rfl, gw_of ge_fieldLink gg_fl (List.mem_of_getElem? (i := 58) rfl), Or.inl rfl, (fun h => by cases h)⟩
theorem fg_X10_313 : FGx RX10 313 1 1 true := ⟨RX0, TX0, 15, tyX0, "PostVotes$Envelope", cf_1, by omega, rfl, gw_of ge_fieldLink gg_fl (List.mem_of_getElem? (i := 115) rfl), Or.inl rfl⟩
theorem fg_X10_317 : FGx RX10 317 10 1 false := ⟨RX9, TX9, 9, tyX9, "PostVotes$Voter", cf_10, by omega, rfl, gw_of ge_fieldLink gg_fl (List.mem_of_getElem? (i := 74) rfl), Or.inl rfl⟩
theorem fg_X10_320 : FGx RX10 320 1 2 false := ⟨RX0, TX0, 15, tyX0, "PostVotes$Envelope", cf_1, by omega, rfl, gw_of ge_fieldLink gg_fl (List.mem_of_getElem? (i := 117) rfl), Or.inl rfl⟩
theorem fg_X10_336 : FGx RX10 336 2 3 false := ⟨RX1, TX1, 4, tyX1, "PostVotes$Heap", cf_2, by omega, rfl, gw_of ge_fieldLink gg_fl (List.mem_of_getElem? (i := 178) rfl), Or.inl rfl⟩
theorem fa_X10_336 : FAx RX10 336 2 3 false false := ⟨RX1, TX1, 4, tyX1, "PostVotes$Heap", cf_2, by omega, rfl, rfl, gw_of ge_fieldLink gg_fl (List.mem_of_getElem? (i := 178) rfl), Or.inl rfl, (fun h => by cases h)⟩
theorem fg_X10_339 : FGx RX10 339 2 0 false := ⟨RX1, TX1, 4, tyX1, "PostVotes$Heap", cf_2, by omega, rfl, gw_of ge_fieldLink gg_fl (List.mem_of_getElem? (i := 172) rfl), Or.inl rfl⟩
theorem fg_X10_342 : FGx RX10 342 2 1 false := ⟨RX1, TX1, 4, tyX1, "PostVotes$Heap", cf_2, by omega, rfl, gw_of ge_fieldLink gg_fl (List.mem_of_getElem? (i := 174) rfl), Or.inl rfl⟩
theorem fg_X10_345 : FGx RX10 345 2 2 true := ⟨RX1, TX1, 4, tyX1, "PostVotes$Heap", cf_2, by omega, rfl, gw_of ge_fieldLink gg_fl (List.mem_of_getElem? (i := 176) rfl), Or.inl rfl⟩
theorem fg_X10_348 : FGx RX10 348 1 6 false := ⟨RX0, TX0, 15, tyX0, "PostVotes$Envelope", cf_1, by omega, rfl, gw_of ge_fieldLink gg_fl (List.mem_of_getElem? (i := 128) rfl), Or.inl rfl⟩
theorem fa_X10_348 : FAx RX10 348 1 6 false false := ⟨RX0, TX0, 15, tyX0, "PostVotes$Envelope", cf_1, by omega, rfl, rfl, gw_of ge_fieldLink gg_fl (List.mem_of_getElem? (i := 128) rfl), Or.inl rfl, (fun h => by cases h)⟩
theorem fg_X10_351 : FGx RX10 351 1 3 false := ⟨RX0, TX0, 15, tyX0, "PostVotes$Envelope", cf_1, by omega, rfl, gw_of ge_fieldLink gg_fl (List.mem_of_getElem? (i := 120) rfl), Or.inl rfl⟩
theorem fg_X10_368 : FGx RX10 368 1 4 false := ⟨RX0, TX0, 15, tyX0, "PostVotes$Envelope", cf_1, by omega, rfl, gw_of ge_fieldLink gg_fl (List.mem_of_getElem? (i := 123) rfl), Or.inl rfl⟩
theorem fg_X10_376 : FGx RX10 376 1 9 false := ⟨RX0, TX0, 15, tyX0, "PostVotes$Envelope", cf_1, by omega, rfl, gw_of ge_fieldLink gg_fl (List.mem_of_getElem? (i := 137) rfl), Or.inl rfl⟩
theorem fa_X10_376 : FAx RX10 376 1 9 false false := ⟨RX0, TX0, 15, tyX0, "PostVotes$Envelope", cf_1, by omega, rfl, rfl, gw_of ge_fieldLink gg_fl (List.mem_of_getElem? (i := 137) rfl), Or.inl rfl, (fun h => by cases h)⟩
theorem fg_X0_12 : FGx RX0 12 1 5 true := ⟨RX0, TX0, 15, tyX0, "PostVotes$Envelope", cf_1, by omega, rfl, gw_of ge_fieldLink gg_fl (List.mem_of_getElem? (i := 124) rfl), Or.inl rfl⟩
theorem fa_X0_12 : FAx RX0 12 1 5 true true := ⟨RX0, TX0, 15, tyX0, "PostVotes$Envelope", cf_1, by omega, rfl, rfl, gw_of ge_fieldLink gg_fl (List.mem_of_getElem? (i := 124) rfl), Or.inl rfl, fun _ => rfl⟩
theorem fg_X0_18 : FGx RX0 18 1 6 false := ⟨RX0, TX0, 15, tyX0, "PostVotes$Envelope", cf_1, by omega, rfl, gw_of ge_fieldLink gg_fl (List.mem_of_getElem? (i := 126) rfl), Or.inl rfl⟩
theorem fa_X0_18 : FAx RX0 18 1 6 false false := ⟨RX0, TX0, 15, tyX0, "PostVotes$Envelope", cf_1, by omega, rfl, rfl, gw_of ge_fieldLink gg_fl (List.mem_of_getElem? (i := 126) rfl), Or.inl rfl, (fun h => by cases h)⟩
theorem fg_X0_22 : FGx RX0 22 1 7 true := ⟨RX0, TX0, 15, tyX0, "PostVotes$Envelope", cf_1, by omega, rfl, gw_of ge_fieldLink gg_fl (List.mem_of_getElem? (i := 129) rfl), Or.inl rfl⟩
theorem fa_X0_22 : FAx RX0 22 1 7 true true := ⟨RX0, TX0, 15, tyX0, "PostVotes$Envelope", cf_1, by omega, rfl, rfl, gw_of ge_fieldLink gg_fl (List.mem_of_getElem? (i := 129) rfl), Or.inl rfl, fun _ => rfl⟩
theorem fg_X0_26 : FGx RX0 26 1 8 true := ⟨RX0, TX0, 15, tyX0, "PostVotes$Envelope", cf_1, by omega, rfl, gw_of ge_fieldLink gg_fl (List.mem_of_getElem? (i := 132) rfl), Or.inl rfl⟩
theorem fa_X0_26 : FAx RX0 26 1 8 true true := ⟨RX0, TX0, 15, tyX0, "PostVotes$Envelope", cf_1, by omega, rfl, rfl, gw_of ge_fieldLink gg_fl (List.mem_of_getElem? (i := 132) rfl), Or.inl rfl, fun _ => rfl⟩
theorem fg_X0_29 : FGx RX0 29 1 9 false := ⟨RX0, TX0, 15, tyX0, "PostVotes$Envelope", cf_1, by omega, rfl, gw_of ge_fieldLink gg_fl (List.mem_of_getElem? (i := 134) rfl), Or.inl rfl⟩
theorem fa_X0_29 : FAx RX0 29 1 9 false false := ⟨RX0, TX0, 15, tyX0, "PostVotes$Envelope", cf_1, by omega, rfl, rfl, gw_of ge_fieldLink gg_fl (List.mem_of_getElem? (i := 134) rfl), Or.inl rfl, (fun h => by cases h)⟩
theorem fg_X0_32 : FGx RX0 32 1 10 false := ⟨RX0, TX0, 15, tyX0, "PostVotes$Envelope", cf_1, by omega, rfl, gw_of ge_fieldLink gg_fl (List.mem_of_getElem? (i := 138) rfl), Or.inl rfl⟩
theorem fa_X0_32 : FAx RX0 32 1 10 false false := ⟨RX0, TX0, 15, tyX0, "PostVotes$Envelope", cf_1, by omega, rfl, rfl, gw_of ge_fieldLink gg_fl (List.mem_of_getElem? (i := 138) rfl), Or.inl rfl, (fun h => by cases h)⟩
theorem fg_X0_35 : FGx RX0 35 1 12 false := ⟨RX0, TX0, 15, tyX0, "PostVotes$Envelope", cf_1, by omega, rfl, gw_of ge_fieldLink gg_fl (List.mem_of_getElem? (i := 142) rfl), Or.inl rfl⟩
theorem fa_X0_35 : FAx RX0 35 1 12 false false := ⟨RX0, TX0, 15, tyX0, "PostVotes$Envelope", cf_1, by omega, rfl, rfl, gw_of ge_fieldLink gg_fl (List.mem_of_getElem? (i := 142) rfl), Or.inl rfl, (fun h => by cases h)⟩
theorem fg_X0_38 : FGx RX0 38 1 13 false := ⟨RX0, TX0, 15, tyX0, "PostVotes$Envelope", cf_1, by omega, rfl, gw_of ge_fieldLink gg_fl (List.mem_of_getElem? (i := 146) rfl), Or.inl rfl⟩
theorem fa_X0_38 : FAx RX0 38 1 13 false false := ⟨RX0, TX0, 15, tyX0, "PostVotes$Envelope", cf_1, by omega, rfl, rfl, gw_of ge_fieldLink gg_fl (List.mem_of_getElem? (i := 146) rfl), Or.inl rfl, (fun h => by cases h)⟩
theorem fg_X0_41 : FGx RX0 41 1 14 false := ⟨RX0, TX0, 15, tyX0, "PostVotes$Envelope", cf_1, by omega, rfl, gw_of ge_fieldLink gg_fl (List.mem_of_getElem? (i := 149) rfl), Or.inl rfl⟩
theorem fa_X0_41 : FAx RX0 41 1 14 false false := ⟨RX0, TX0, 15, tyX0, "PostVotes$Envelope", cf_1, by omega, rfl, rfl, gw_of ge_fieldLink gg_fl (List.mem_of_getElem? (i := 149) rfl), Or.inl rfl, (fun h => by cases h)⟩
theorem fg_X0_44 : FGx RX0 44 1 0 false := ⟨RX0, TX0, 15, tyX0, "PostVotes$Envelope", cf_1, by omega, rfl, gw_of ge_fieldLink gg_fl (List.mem_of_getElem? (i := 111) rfl), Or.inl rfl⟩
theorem fa_X0_44 : FAx RX0 44 1 0 false true := ⟨RX0, TX0, 15, tyX0, "PostVotes$Envelope", cf_1, by omega, rfl, rfl, gw_of ge_fieldLink gg_fl (List.mem_of_getElem? (i := 111) rfl), Or.inl rfl, fun _ => rfl⟩
theorem fg_X0_47 : FGx RX0 47 1 1 true := ⟨RX0, TX0, 15, tyX0, "PostVotes$Envelope", cf_1, by omega, rfl, gw_of ge_fieldLink gg_fl (List.mem_of_getElem? (i := 113) rfl), Or.inl rfl⟩
theorem fa_X0_47 : FAx RX0 47 1 1 true true := ⟨RX0, TX0, 15, tyX0, "PostVotes$Envelope", cf_1, by omega, rfl, rfl, gw_of ge_fieldLink gg_fl (List.mem_of_getElem? (i := 113) rfl), Or.inl rfl, fun _ => rfl⟩
theorem fg_X0_51 : FGx RX0 51 1 2 false := ⟨RX0, TX0, 15, tyX0, "PostVotes$Envelope", cf_1, by omega, rfl, gw_of ge_fieldLink gg_fl (List.mem_of_getElem? (i := 116) rfl), Or.inl rfl⟩
theorem fa_X0_51 : FAx RX0 51 1 2 false true := ⟨RX0, TX0, 15, tyX0, "PostVotes$Envelope", cf_1, by omega, rfl, rfl, gw_of ge_fieldLink gg_fl (List.mem_of_getElem? (i := 116) rfl), Or.inl rfl, fun _ => rfl⟩
theorem fg_X0_54 : FGx RX0 54 1 3 false := ⟨RX0, TX0, 15, tyX0, "PostVotes$Envelope", cf_1, by omega, rfl, gw_of ge_fieldLink gg_fl (List.mem_of_getElem? (i := 118) rfl), Or.inl rfl⟩
theorem fa_X0_54 : FAx RX0 54 1 3 false true := ⟨RX0, TX0, 15, tyX0, "PostVotes$Envelope", cf_1, by omega, rfl, rfl, gw_of ge_fieldLink gg_fl (List.mem_of_getElem? (i := 118) rfl), Or.inl rfl, fun _ => rfl⟩
theorem fg_X0_57 : FGx RX0 57 1 4 false := ⟨RX0, TX0, 15, tyX0, "PostVotes$Envelope", cf_1, by omega, rfl, gw_of ge_fieldLink gg_fl (List.mem_of_getElem? (i := 121) rfl), Or.inl rfl⟩
theorem fa_X0_57 : FAx RX0 57 1 4 false true := ⟨RX0, TX0, 15, tyX0, "PostVotes$Envelope", cf_1, by omega, rfl, rfl, gw_of ge_fieldLink gg_fl (List.mem_of_getElem? (i := 121) rfl), Or.inl rfl, fun _ => rfl⟩
theorem fg_X0_66 : FGx RX0 66 1 11 false := ⟨RX0, TX0, 15, tyX0, "PostVotes$Envelope", cf_1, by omega, rfl, gw_of ge_fieldLink gg_fl (List.mem_of_getElem? (i := 140) rfl), Or.inl rfl⟩
theorem fa_X0_66 : FAx RX0 66 1 11 false false := ⟨RX0, TX0, 15, tyX0, "PostVotes$Envelope", cf_1, by omega, rfl, rfl, gw_of ge_fieldLink gg_fl (List.mem_of_getElem? (i := 140) rfl), Or.inl rfl, (fun h => by cases h)⟩
theorem fg_X0_82 : FGx RX0 82 8 3 false := ⟨RX7, TX7, 4, tyX7, "PostVotes$Told", cf_8, by omega, rfl, gw_of ge_fieldLink gg_fl (List.mem_of_getElem? (i := 108) rfl), Or.inl rfl⟩
theorem fg_X0_83 : FGx RX0 83 8 0 false := ⟨RX7, TX7, 4, tyX7, "PostVotes$Told", cf_8, by omega, rfl, gw_of ge_fieldLink gg_fl (List.mem_of_getElem? (i := 96) rfl), Or.inl rfl⟩
theorem fg_X0_90 : FGx RX0 90 8 1 false := ⟨RX7, TX7, 4, tyX7, "PostVotes$Told", cf_8, by omega, rfl, gw_of ge_fieldLink gg_fl (List.mem_of_getElem? (i := 100) rfl), Or.inl rfl⟩
theorem fg_X0_93 : FGx RX0 93 8 2 false := ⟨RX7, TX7, 4, tyX7, "PostVotes$Told", cf_8, by omega, rfl, gw_of ge_fieldLink gg_fl (List.mem_of_getElem? (i := 104) rfl), Or.inl rfl⟩
theorem fg_X0_96 : FGx RX0 96 10 7 false := ⟨RX9, TX9, 9, tyX9, "PostVotes$Voter", cf_10, by omega, rfl, gw_of ge_fieldLink gg_fl (List.mem_of_getElem? (i := 89) rfl), Or.inl rfl⟩
theorem fa_X0_96 : FAx RX0 96 10 7 false false := ⟨RX9, TX9, 9, tyX9, "PostVotes$Voter", cf_10, by omega, rfl, rfl, gw_of ge_fieldLink gg_fl (List.mem_of_getElem? (i := 89) rfl), Or.inl rfl, (fun h => by cases h)⟩
theorem fg_X0_105 : FGx RX0 105 10 2 false := ⟨RX9, TX9, 9, tyX9, "PostVotes$Voter", cf_10, by omega, rfl, gw_of ge_fieldLink gg_fl (List.mem_of_getElem? (i := 76) rfl), Or.inl rfl⟩
theorem fg_X0_116 : FGx RX0 116 10 8 false := ⟨RX9, TX9, 9, tyX9, "PostVotes$Voter", cf_10, by omega, rfl, gw_of ge_fieldLink gg_fl (List.mem_of_getElem? (i := 93) rfl), Or.inl rfl⟩
theorem fa_X0_116 : FAx RX0 116 10 8 false false := ⟨RX9, TX9, 9, tyX9, "PostVotes$Voter", cf_10, by omega, rfl, rfl, gw_of ge_fieldLink gg_fl (List.mem_of_getElem? (i := 93) rfl), Or.inl rfl, (fun h => by cases h)⟩
theorem fg_X0_122 : FGx RX0 122 10 5 false := ⟨RX9, TX9, 9, tyX9, "PostVotes$Voter", cf_10, by omega, rfl, gw_of ge_fieldLink gg_fl (List.mem_of_getElem? (i := 84) rfl), Or.inl rfl⟩
theorem fa_X0_122 : FAx RX0 122 10 5 false false := ⟨RX9, TX9, 9, tyX9, "PostVotes$Voter", cf_10, by omega, rfl, rfl, gw_of ge_fieldLink gg_fl (List.mem_of_getElem? (i := 84) rfl), Or.inl rfl, (fun h => by cases h)⟩
theorem fg_X0_125 : FGx RX0 125 10 1 false := ⟨RX9, TX9, 9, tyX9, "PostVotes$Voter", cf_10, by omega, rfl, gw_of ge_fieldLink gg_fl (List.mem_of_getElem? (i := 72) rfl), Or.inl rfl⟩
theorem fg_X1_9 : FGx RX1 9 2 2 true := ⟨RX1, TX1, 4, tyX1, "PostVotes$Heap", cf_2, by omega, rfl, gw_of ge_fieldLink gg_fl (List.mem_of_getElem? (i := 175) rfl), Or.inl rfl⟩
theorem fa_X1_9 : FAx RX1 9 2 2 true true := ⟨RX1, TX1, 4, tyX1, "PostVotes$Heap", cf_2, by omega, rfl, rfl, gw_of ge_fieldLink gg_fl (List.mem_of_getElem? (i := 175) rfl), Or.inl rfl, fun _ => rfl⟩
theorem fg_X1_15 : FGx RX1 15 2 0 false := ⟨RX1, TX1, 4, tyX1, "PostVotes$Heap", cf_2, by omega, rfl, gw_of ge_fieldLink gg_fl (List.mem_of_getElem? (i := 171) rfl), Or.inl rfl⟩
theorem fa_X1_15 : FAx RX1 15 2 0 false true := ⟨RX1, TX1, 4, tyX1, "PostVotes$Heap", cf_2, by omega, rfl, rfl, gw_of ge_fieldLink gg_fl (List.mem_of_getElem? (i := 171) rfl), Or.inl rfl, fun _ => rfl⟩
theorem fg_X1_19 : FGx RX1 19 2 1 false := ⟨RX1, TX1, 4, tyX1, "PostVotes$Heap", cf_2, by omega, rfl, gw_of ge_fieldLink gg_fl (List.mem_of_getElem? (i := 173) rfl), Or.inl rfl⟩
theorem fa_X1_19 : FAx RX1 19 2 1 false true := ⟨RX1, TX1, 4, tyX1, "PostVotes$Heap", cf_2, by omega, rfl, rfl, gw_of ge_fieldLink gg_fl (List.mem_of_getElem? (i := 173) rfl), Or.inl rfl, fun _ => rfl⟩
theorem fg_X1_22 : FGx RX1 22 1 3 false := ⟨RX0, TX0, 15, tyX0, "PostVotes$Envelope", cf_1, by omega, rfl, gw_of ge_fieldLink gg_fl (List.mem_of_getElem? (i := 119) rfl), Or.inl rfl⟩
theorem fg_X1_31 : FGx RX1 31 1 6 false := ⟨RX0, TX0, 15, tyX0, "PostVotes$Envelope", cf_1, by omega, rfl, gw_of ge_fieldLink gg_fl (List.mem_of_getElem? (i := 127) rfl), Or.inl rfl⟩
theorem fa_X1_31 : FAx RX1 31 1 6 false false := ⟨RX0, TX0, 15, tyX0, "PostVotes$Envelope", cf_1, by omega, rfl, rfl, gw_of ge_fieldLink gg_fl (List.mem_of_getElem? (i := 127) rfl), Or.inl rfl, (fun h => by cases h)⟩
theorem fg_X1_34 : FGx RX1 34 2 3 false := ⟨RX1, TX1, 4, tyX1, "PostVotes$Heap", cf_2, by omega, rfl, gw_of ge_fieldLink gg_fl (List.mem_of_getElem? (i := 177) rfl), Or.inl rfl⟩
theorem fa_X1_34 : FAx RX1 34 2 3 false false := ⟨RX1, TX1, 4, tyX1, "PostVotes$Heap", cf_2, by omega, rfl, rfl, gw_of ge_fieldLink gg_fl (List.mem_of_getElem? (i := 177) rfl), Or.inl rfl, (fun h => by cases h)⟩
theorem fg_X2_12 : FGx RX2 12 3 0 true := ⟨RX2, TX2, 3, tyX2, "PostVotes$Judge", cf_3, by omega, rfl, gw_of ge_fieldLink gg_fl (List.mem_of_getElem? (i := 5) rfl), Or.inl rfl⟩
theorem fa_X2_12 : FAx RX2 12 3 0 true true := ⟨RX2, TX2, 3, tyX2, "PostVotes$Judge", cf_3, by omega, rfl, rfl, gw_of ge_fieldLink gg_fl (List.mem_of_getElem? (i := 5) rfl), Or.inl rfl, fun _ => rfl⟩
theorem fg_X2_18 : FGx RX2 18 3 1 true := ⟨RX2, TX2, 3, tyX2, "PostVotes$Judge", cf_3, by omega, rfl, gw_of ge_fieldLink gg_fl (List.mem_of_getElem? (i := 7) rfl), Or.inl rfl⟩
theorem fa_X2_18 : FAx RX2 18 3 1 true true := ⟨RX2, TX2, 3, tyX2, "PostVotes$Judge", cf_3, by omega, rfl, rfl, gw_of ge_fieldLink gg_fl (List.mem_of_getElem? (i := 7) rfl), Or.inl rfl, fun _ => rfl⟩
theorem fg_X2_32 : FGx RX2 32 4 0 false := ⟨RX3, TX3, 7, tyX3, "PostVotes$Law", cf_4, by omega, rfl, gw_of ge_fieldLink gg_fl (List.mem_of_getElem? (i := 158) rfl), Or.inl rfl⟩
theorem fg_X2_36 : FGx RX2 36 4 2 false := ⟨RX3, TX3, 7, tyX3, "PostVotes$Law", cf_4, by omega, rfl, gw_of ge_fieldLink gg_fl (List.mem_of_getElem? (i := 162) rfl), Or.inl rfl⟩
theorem fg_X2_39 : FGx RX2 39 4 1 false := ⟨RX3, TX3, 7, tyX3, "PostVotes$Law", cf_4, by omega, rfl, gw_of ge_fieldLink gg_fl (List.mem_of_getElem? (i := 160) rfl), Or.inl rfl⟩
theorem fg_X2_48 : FGx RX2 48 1 9 false := ⟨RX0, TX0, 15, tyX0, "PostVotes$Envelope", cf_1, by omega, rfl, gw_of ge_fieldLink gg_fl (List.mem_of_getElem? (i := 135) rfl), Or.inl rfl⟩
theorem fa_X2_48 : FAx RX2 48 1 9 false false := ⟨RX0, TX0, 15, tyX0, "PostVotes$Envelope", cf_1, by omega, rfl, rfl, gw_of ge_fieldLink gg_fl (List.mem_of_getElem? (i := 135) rfl), Or.inl rfl, (fun h => by cases h)⟩
theorem fg_X2_59 : FGx RX2 59 1 12 false := ⟨RX0, TX0, 15, tyX0, "PostVotes$Envelope", cf_1, by omega, rfl, gw_of ge_fieldLink gg_fl (List.mem_of_getElem? (i := 143) rfl), Or.inl rfl⟩
theorem fa_X2_59 : FAx RX2 59 1 12 false false := ⟨RX0, TX0, 15, tyX0, "PostVotes$Envelope", cf_1, by omega, rfl, rfl, gw_of ge_fieldLink gg_fl (List.mem_of_getElem? (i := 143) rfl), Or.inl rfl, (fun h => by cases h)⟩
theorem fg_X2_62 : FGx RX2 62 4 3 false := ⟨RX3, TX3, 7, tyX3, "PostVotes$Law", cf_4, by omega, rfl, gw_of ge_fieldLink gg_fl (List.mem_of_getElem? (i := 164) rfl), Or.inl rfl⟩
theorem fg_X2_69 : FGx RX2 69 1 14 false := ⟨RX0, TX0, 15, tyX0, "PostVotes$Envelope", cf_1, by omega, rfl, gw_of ge_fieldLink gg_fl (List.mem_of_getElem? (i := 150) rfl), Or.inl rfl⟩
theorem fa_X2_69 : FAx RX2 69 1 14 false false := ⟨RX0, TX0, 15, tyX0, "PostVotes$Envelope", cf_1, by omega, rfl, rfl, gw_of ge_fieldLink gg_fl (List.mem_of_getElem? (i := 150) rfl), Or.inl rfl, (fun h => by cases h)⟩
theorem fg_X2_72 : FGx RX2 72 4 6 true := ⟨RX3, TX3, 7, tyX3, "PostVotes$Law", cf_4, by omega, rfl, gw_of ge_fieldLink gg_fl (List.mem_of_getElem? (i := 170) rfl), Or.inl rfl⟩
theorem fg_X2_79 : FGx RX2 79 1 13 false := ⟨RX0, TX0, 15, tyX0, "PostVotes$Envelope", cf_1, by omega, rfl, gw_of ge_fieldLink gg_fl (List.mem_of_getElem? (i := 147) rfl), Or.inl rfl⟩
theorem fa_X2_79 : FAx RX2 79 1 13 false false := ⟨RX0, TX0, 15, tyX0, "PostVotes$Envelope", cf_1, by omega, rfl, rfl, gw_of ge_fieldLink gg_fl (List.mem_of_getElem? (i := 147) rfl), Or.inl rfl, (fun h => by cases h)⟩
theorem fg_X2_86 : FGx RX2 86 1 7 true := ⟨RX0, TX0, 15, tyX0, "PostVotes$Envelope", cf_1, by omega, rfl, gw_of ge_fieldLink gg_fl (List.mem_of_getElem? (i := 131) rfl), Or.inl rfl⟩
theorem fg_X2_89 : FGx RX2 89 4 5 true := ⟨RX3, TX3, 7, tyX3, "PostVotes$Law", cf_4, by omega, rfl, gw_of ge_fieldLink gg_fl (List.mem_of_getElem? (i := 168) rfl), Or.inl rfl⟩
theorem fg_X2_92 : FGx RX2 92 3 2 false := ⟨RX2, TX2, 3, tyX2, "PostVotes$Judge", cf_3, by omega, rfl, gw_of ge_fieldLink gg_fl (List.mem_of_getElem? (i := 8) rfl), Or.inl rfl⟩
theorem fa_X2_92 : FAx RX2 92 3 2 false false := ⟨RX2, TX2, 3, tyX2, "PostVotes$Judge", cf_3, by omega, rfl, rfl, gw_of ge_fieldLink gg_fl (List.mem_of_getElem? (i := 8) rfl), Or.inl rfl, (fun h => by cases h)⟩
theorem fg_X2_95 : FGx RX2 95 4 4 true := ⟨RX3, TX3, 7, tyX3, "PostVotes$Law", cf_4, by omega, rfl, gw_of ge_fieldLink gg_fl (List.mem_of_getElem? (i := 166) rfl), Or.inl rfl⟩
theorem fg_X3_7 : FGx RX3 7 4 0 false := ⟨RX3, TX3, 7, tyX3, "PostVotes$Law", cf_4, by omega, rfl, gw_of ge_fieldLink gg_fl (List.mem_of_getElem? (i := 157) rfl), Or.inl rfl⟩
theorem fa_X3_7 : FAx RX3 7 4 0 false true := ⟨RX3, TX3, 7, tyX3, "PostVotes$Law", cf_4, by omega, rfl, rfl, gw_of ge_fieldLink gg_fl (List.mem_of_getElem? (i := 157) rfl), Or.inl rfl, fun _ => rfl⟩
theorem fg_X3_13 : FGx RX3 13 4 1 false := ⟨RX3, TX3, 7, tyX3, "PostVotes$Law", cf_4, by omega, rfl, gw_of ge_fieldLink gg_fl (List.mem_of_getElem? (i := 159) rfl), Or.inl rfl⟩
theorem fa_X3_13 : FAx RX3 13 4 1 false true := ⟨RX3, TX3, 7, tyX3, "PostVotes$Law", cf_4, by omega, rfl, rfl, gw_of ge_fieldLink gg_fl (List.mem_of_getElem? (i := 159) rfl), Or.inl rfl, fun _ => rfl⟩
theorem fg_X3_16 : FGx RX3 16 4 2 false := ⟨RX3, TX3, 7, tyX3, "PostVotes$Law", cf_4, by omega, rfl, gw_of ge_fieldLink gg_fl (List.mem_of_getElem? (i := 161) rfl), Or.inl rfl⟩
theorem fa_X3_16 : FAx RX3 16 4 2 false true := ⟨RX3, TX3, 7, tyX3, "PostVotes$Law", cf_4, by omega, rfl, rfl, gw_of ge_fieldLink gg_fl (List.mem_of_getElem? (i := 161) rfl), Or.inl rfl, fun _ => rfl⟩
theorem fg_X3_19 : FGx RX3 19 7 6 false := ⟨RX6, TX6, 8, tyX6, "PostVotes$Tape", cf_7, by omega, rfl, gw_of ge_fieldLink gg_fl (List.mem_of_getElem? (i := 34) rfl), Or.inl rfl⟩
theorem fa_X3_19 : FAx RX3 19 7 6 false false := ⟨RX6, TX6, 8, tyX6, "PostVotes$Tape", cf_7, by omega, rfl, rfl, gw_of ge_fieldLink gg_fl (List.mem_of_getElem? (i := 34) rfl), Or.inl rfl, (fun h => by cases h)⟩
theorem fg_X3_24 : FGx RX3 24 4 3 false := ⟨RX3, TX3, 7, tyX3, "PostVotes$Law", cf_4, by omega, rfl, gw_of ge_fieldLink gg_fl (List.mem_of_getElem? (i := 163) rfl), Or.inl rfl⟩
theorem fa_X3_24 : FAx RX3 24 4 3 false true := ⟨RX3, TX3, 7, tyX3, "PostVotes$Law", cf_4, by omega, rfl, rfl, gw_of ge_fieldLink gg_fl (List.mem_of_getElem? (i := 163) rfl), Or.inl rfl, fun _ => rfl⟩
theorem fg_X3_25 : FGx RX3 25 7 2 true := ⟨RX6, TX6, 8, tyX6, "PostVotes$Tape", cf_7, by omega, rfl, gw_of ge_fieldLink gg_fl (List.mem_of_getElem? (i := 27) rfl), Or.inl rfl⟩
theorem fg_X3_29 : FGx RX3 29 7 3 false := ⟨RX6, TX6, 8, tyX6, "PostVotes$Tape", cf_7, by omega, rfl, gw_of ge_fieldLink gg_fl (List.mem_of_getElem? (i := 28) rfl), Or.inl rfl⟩
theorem fa_X3_29 : FAx RX3 29 7 3 false false := ⟨RX6, TX6, 8, tyX6, "PostVotes$Tape", cf_7, by omega, rfl, rfl, gw_of ge_fieldLink gg_fl (List.mem_of_getElem? (i := 28) rfl), Or.inl rfl, (fun h => by cases h)⟩
theorem fg_X3_38 : FGx RX3 38 4 4 true := ⟨RX3, TX3, 7, tyX3, "PostVotes$Law", cf_4, by omega, rfl, gw_of ge_fieldLink gg_fl (List.mem_of_getElem? (i := 165) rfl), Or.inl rfl⟩
theorem fa_X3_38 : FAx RX3 38 4 4 true true := ⟨RX3, TX3, 7, tyX3, "PostVotes$Law", cf_4, by omega, rfl, rfl, gw_of ge_fieldLink gg_fl (List.mem_of_getElem? (i := 165) rfl), Or.inl rfl, fun _ => rfl⟩
theorem fg_X3_39 : FGx RX3 39 7 4 true := ⟨RX6, TX6, 8, tyX6, "PostVotes$Tape", cf_7, by omega, rfl, gw_of ge_fieldLink gg_fl (List.mem_of_getElem? (i := 31) rfl), Or.inl rfl⟩
theorem fg_X3_42 : FGx RX3 42 4 5 true := ⟨RX3, TX3, 7, tyX3, "PostVotes$Law", cf_4, by omega, rfl, gw_of ge_fieldLink gg_fl (List.mem_of_getElem? (i := 167) rfl), Or.inl rfl⟩
theorem fa_X3_42 : FAx RX3 42 4 5 true true := ⟨RX3, TX3, 7, tyX3, "PostVotes$Law", cf_4, by omega, rfl, rfl, gw_of ge_fieldLink gg_fl (List.mem_of_getElem? (i := 167) rfl), Or.inl rfl, fun _ => rfl⟩
theorem fg_X3_43 : FGx RX3 43 7 5 true := ⟨RX6, TX6, 8, tyX6, "PostVotes$Tape", cf_7, by omega, rfl, gw_of ge_fieldLink gg_fl (List.mem_of_getElem? (i := 33) rfl), Or.inl rfl⟩
theorem fg_X3_46 : FGx RX3 46 4 6 true := ⟨RX3, TX3, 7, tyX3, "PostVotes$Law", cf_4, by omega, rfl, gw_of ge_fieldLink gg_fl (List.mem_of_getElem? (i := 169) rfl), Or.inl rfl⟩
theorem fa_X3_46 : FAx RX3 46 4 6 true true := ⟨RX3, TX3, 7, tyX3, "PostVotes$Law", cf_4, by omega, rfl, rfl, gw_of ge_fieldLink gg_fl (List.mem_of_getElem? (i := 169) rfl), Or.inl rfl, fun _ => rfl⟩
theorem fg_X4_12 : FGx RX4 12 5 0 true := ⟨RX4, TX4, 10, tyX4, "PostVotes$Post", cf_5, by omega, rfl, gw_of ge_fieldLink gg_fl (List.mem_of_getElem? (i := 9) rfl), Or.inl rfl⟩
theorem fa_X4_12 : FAx RX4 12 5 0 true true := ⟨RX4, TX4, 10, tyX4, "PostVotes$Post", cf_5, by omega, rfl, rfl, gw_of ge_fieldLink gg_fl (List.mem_of_getElem? (i := 9) rfl), Or.inl rfl, fun _ => rfl⟩
theorem fg_X4_18 : FGx RX4 18 5 1 true := ⟨RX4, TX4, 10, tyX4, "PostVotes$Post", cf_5, by omega, rfl, gw_of ge_fieldLink gg_fl (List.mem_of_getElem? (i := 11) rfl), Or.inl rfl⟩
theorem fa_X4_18 : FAx RX4 18 5 1 true true := ⟨RX4, TX4, 10, tyX4, "PostVotes$Post", cf_5, by omega, rfl, rfl, gw_of ge_fieldLink gg_fl (List.mem_of_getElem? (i := 11) rfl), Or.inl rfl, fun _ => rfl⟩
theorem fg_X4_21 : FGx RX4 21 5 2 true := ⟨RX4, TX4, 10, tyX4, "PostVotes$Post", cf_5, by omega, rfl, gw_of ge_fieldLink gg_fl (List.mem_of_getElem? (i := 13) rfl), Or.inl rfl⟩
theorem fa_X4_21 : FAx RX4 21 5 2 true true := ⟨RX4, TX4, 10, tyX4, "PostVotes$Post", cf_5, by omega, rfl, rfl, gw_of ge_fieldLink gg_fl (List.mem_of_getElem? (i := 13) rfl), Or.inl rfl, fun _ => rfl⟩
theorem fg_X4_27 : FGx RX4 27 5 3 true := ⟨RX4, TX4, 10, tyX4, "PostVotes$Post", cf_5, by omega, rfl, gw_of ge_fieldLink gg_fl (List.mem_of_getElem? (i := 15) rfl), Or.inl rfl⟩
theorem fa_X4_27 : FAx RX4 27 5 3 true true := ⟨RX4, TX4, 10, tyX4, "PostVotes$Post", cf_5, by omega, rfl, rfl, gw_of ge_fieldLink gg_fl (List.mem_of_getElem? (i := 15) rfl), Or.inl rfl, fun _ => rfl⟩
theorem fg_X4_31 : FGx RX4 31 5 4 true := ⟨RX4, TX4, 10, tyX4, "PostVotes$Post", cf_5, by omega, rfl, gw_of ge_fieldLink gg_fl (List.mem_of_getElem? (i := 17) rfl), Or.inl rfl⟩
theorem fa_X4_31 : FAx RX4 31 5 4 true true := ⟨RX4, TX4, 10, tyX4, "PostVotes$Post", cf_5, by omega, rfl, rfl, gw_of ge_fieldLink gg_fl (List.mem_of_getElem? (i := 17) rfl), Or.inl rfl, fun _ => rfl⟩
theorem fg_X4_54 : FGx RX4 54 1 7 true := ⟨RX0, TX0, 15, tyX0, "PostVotes$Envelope", cf_1, by omega, rfl, gw_of ge_fieldLink gg_fl (List.mem_of_getElem? (i := 130) rfl), Or.inl rfl⟩
theorem fg_X4_58 : FGx RX4 58 1 9 false := ⟨RX0, TX0, 15, tyX0, "PostVotes$Envelope", cf_1, by omega, rfl, gw_of ge_fieldLink gg_fl (List.mem_of_getElem? (i := 136) rfl), Or.inl rfl⟩
theorem fa_X4_58 : FAx RX4 58 1 9 false false := ⟨RX0, TX0, 15, tyX0, "PostVotes$Envelope", cf_1, by omega, rfl, rfl, gw_of ge_fieldLink gg_fl (List.mem_of_getElem? (i := 136) rfl), Or.inl rfl, (fun h => by cases h)⟩
theorem fg_X4_62 : FGx RX4 62 1 8 true := ⟨RX0, TX0, 15, tyX0, "PostVotes$Envelope", cf_1, by omega, rfl, gw_of ge_fieldLink gg_fl (List.mem_of_getElem? (i := 133) rfl), Or.inl rfl⟩
theorem fg_X4_71 : FGx RX4 71 8 1 false := ⟨RX7, TX7, 4, tyX7, "PostVotes$Told", cf_8, by omega, rfl, gw_of ge_fieldLink gg_fl (List.mem_of_getElem? (i := 101) rfl), Or.inl rfl⟩
theorem fg_X4_74 : FGx RX4 74 1 10 false := ⟨RX0, TX0, 15, tyX0, "PostVotes$Envelope", cf_1, by omega, rfl, gw_of ge_fieldLink gg_fl (List.mem_of_getElem? (i := 139) rfl), Or.inl rfl⟩
theorem fa_X4_74 : FAx RX4 74 1 10 false false := ⟨RX0, TX0, 15, tyX0, "PostVotes$Envelope", cf_1, by omega, rfl, rfl, gw_of ge_fieldLink gg_fl (List.mem_of_getElem? (i := 139) rfl), Or.inl rfl, (fun h => by cases h)⟩
theorem fg_X4_83 : FGx RX4 83 8 0 false := ⟨RX7, TX7, 4, tyX7, "PostVotes$Told", cf_8, by omega, rfl, gw_of ge_fieldLink gg_fl (List.mem_of_getElem? (i := 97) rfl), Or.inl rfl⟩
theorem fg_X4_86 : FGx RX4 86 8 3 false := ⟨RX7, TX7, 4, tyX7, "PostVotes$Told", cf_8, by omega, rfl, gw_of ge_fieldLink gg_fl (List.mem_of_getElem? (i := 109) rfl), Or.inl rfl⟩
theorem fg_X4_89 : FGx RX4 89 1 4 false := ⟨RX0, TX0, 15, tyX0, "PostVotes$Envelope", cf_1, by omega, rfl, gw_of ge_fieldLink gg_fl (List.mem_of_getElem? (i := 122) rfl), Or.inl rfl⟩
theorem fg_X4_102 : FGx RX4 102 10 4 true := ⟨RX9, TX9, 9, tyX9, "PostVotes$Voter", cf_10, by omega, rfl, gw_of ge_fieldLink gg_fl (List.mem_of_getElem? (i := 81) rfl), Or.inl rfl⟩
theorem fg_X4_106 : FGx RX4 106 10 5 false := ⟨RX9, TX9, 9, tyX9, "PostVotes$Voter", cf_10, by omega, rfl, gw_of ge_fieldLink gg_fl (List.mem_of_getElem? (i := 83) rfl), Or.inl rfl⟩
theorem fa_X4_106 : FAx RX4 106 10 5 false false := ⟨RX9, TX9, 9, tyX9, "PostVotes$Voter", cf_10, by omega, rfl, rfl, gw_of ge_fieldLink gg_fl (List.mem_of_getElem? (i := 83) rfl), Or.inl rfl, (fun h => by cases h)⟩
theorem fg_X4_113 : FGx RX4 113 10 6 false := ⟨RX9, TX9, 9, tyX9, "PostVotes$Voter", cf_10, by omega, rfl, gw_of ge_fieldLink gg_fl (List.mem_of_getElem? (i := 86) rfl), Or.inl rfl⟩
theorem fa_X4_113 : FAx RX4 113 10 6 false false := ⟨RX9, TX9, 9, tyX9, "PostVotes$Voter", cf_10, by omega, rfl, rfl, gw_of ge_fieldLink gg_fl (List.mem_of_getElem? (i := 86) rfl), Or.inl rfl, (fun h => by cases h)⟩
theorem fg_X4_116 : FGx RX4 116 1 11 false := ⟨RX0, TX0, 15, tyX0, "PostVotes$Envelope", cf_1, by omega, rfl, gw_of ge_fieldLink gg_fl (List.mem_of_getElem? (i := 141) rfl), Or.inl rfl⟩
theorem fa_X4_116 : FAx RX4 116 1 11 false false := ⟨RX0, TX0, 15, tyX0, "PostVotes$Envelope", cf_1, by omega, rfl, rfl, gw_of ge_fieldLink gg_fl (List.mem_of_getElem? (i := 141) rfl), Or.inl rfl, (fun h => by cases h)⟩
theorem fg_X4_122 : FGx RX4 122 1 12 false := ⟨RX0, TX0, 15, tyX0, "PostVotes$Envelope", cf_1, by omega, rfl, gw_of ge_fieldLink gg_fl (List.mem_of_getElem? (i := 144) rfl), Or.inl rfl⟩
theorem fa_X4_122 : FAx RX4 122 1 12 false false := ⟨RX0, TX0, 15, tyX0, "PostVotes$Envelope", cf_1, by omega, rfl, rfl, gw_of ge_fieldLink gg_fl (List.mem_of_getElem? (i := 144) rfl), Or.inl rfl, (fun h => by cases h)⟩
theorem fg_X4_125 : FGx RX4 125 1 0 false := ⟨RX0, TX0, 15, tyX0, "PostVotes$Envelope", cf_1, by omega, rfl, gw_of ge_fieldLink gg_fl (List.mem_of_getElem? (i := 112) rfl), Or.inl rfl⟩
theorem fg_X4_128 : FGx RX4 128 10 7 false := ⟨RX9, TX9, 9, tyX9, "PostVotes$Voter", cf_10, by omega, rfl, gw_of ge_fieldLink gg_fl (List.mem_of_getElem? (i := 90) rfl), Or.inl rfl⟩
theorem fa_X4_128 : FAx RX4 128 10 7 false false := ⟨RX9, TX9, 9, tyX9, "PostVotes$Voter", cf_10, by omega, rfl, rfl, gw_of ge_fieldLink gg_fl (List.mem_of_getElem? (i := 90) rfl), Or.inl rfl, (fun h => by cases h)⟩
theorem fg_X4_135 : FGx RX4 135 1 1 true := ⟨RX0, TX0, 15, tyX0, "PostVotes$Envelope", cf_1, by omega, rfl, gw_of ge_fieldLink gg_fl (List.mem_of_getElem? (i := 114) rfl), Or.inl rfl⟩
theorem fg_X4_139 : FGx RX4 139 10 1 false := ⟨RX9, TX9, 9, tyX9, "PostVotes$Voter", cf_10, by omega, rfl, gw_of ge_fieldLink gg_fl (List.mem_of_getElem? (i := 73) rfl), Or.inl rfl⟩
theorem fg_X5_9 : FGx RX5 9 6 0 true := ⟨RX5, TX5, 7, tyX5, "PostVotes$Press", cf_6, by omega, rfl, gw_of ge_fieldLink gg_fl (List.mem_of_getElem? (i := 37) rfl), Or.inl rfl⟩
theorem fa_X5_9 : FAx RX5 9 6 0 true true := ⟨RX5, TX5, 7, tyX5, "PostVotes$Press", cf_6, by omega, rfl, rfl, gw_of ge_fieldLink gg_fl (List.mem_of_getElem? (i := 37) rfl), Or.inl rfl, fun _ => rfl⟩
theorem fg_X5_15 : FGx RX5 15 6 1 true := ⟨RX5, TX5, 7, tyX5, "PostVotes$Press", cf_6, by omega, rfl, gw_of ge_fieldLink gg_fl (List.mem_of_getElem? (i := 38) rfl), Or.inl rfl⟩
theorem fa_X5_15 : FAx RX5 15 6 1 true true := ⟨RX5, TX5, 7, tyX5, "PostVotes$Press", cf_6, by omega, rfl, rfl, gw_of ge_fieldLink gg_fl (List.mem_of_getElem? (i := 38) rfl), Or.inl rfl, fun _ => rfl⟩
theorem fg_X5_18 : FGx RX5 18 6 2 true := ⟨RX5, TX5, 7, tyX5, "PostVotes$Press", cf_6, by omega, rfl, gw_of ge_fieldLink gg_fl (List.mem_of_getElem? (i := 39) rfl), Or.inl rfl⟩
theorem fa_X5_18 : FAx RX5 18 6 2 true true := ⟨RX5, TX5, 7, tyX5, "PostVotes$Press", cf_6, by omega, rfl, rfl, gw_of ge_fieldLink gg_fl (List.mem_of_getElem? (i := 39) rfl), Or.inl rfl, fun _ => rfl⟩
theorem fg_X5_21 : FGx RX5 21 6 3 true := ⟨RX5, TX5, 7, tyX5, "PostVotes$Press", cf_6, by omega, rfl, gw_of ge_fieldLink gg_fl (List.mem_of_getElem? (i := 41) rfl), Or.inl rfl⟩
theorem fa_X5_21 : FAx RX5 21 6 3 true true := ⟨RX5, TX5, 7, tyX5, "PostVotes$Press", cf_6, by omega, rfl, rfl, gw_of ge_fieldLink gg_fl (List.mem_of_getElem? (i := 41) rfl), Or.inl rfl, fun _ => rfl⟩
theorem fg_X5_24 : FGx RX5 24 6 4 true := ⟨RX5, TX5, 7, tyX5, "PostVotes$Press", cf_6, by omega, rfl, gw_of ge_fieldLink gg_fl (List.mem_of_getElem? (i := 42) rfl), Or.inl rfl⟩
theorem fa_X5_24 : FAx RX5 24 6 4 true true := ⟨RX5, TX5, 7, tyX5, "PostVotes$Press", cf_6, by omega, rfl, rfl, gw_of ge_fieldLink gg_fl (List.mem_of_getElem? (i := 42) rfl), Or.inl rfl, fun _ => rfl⟩
theorem fg_X5_27 : FGx RX5 27 6 6 false := ⟨RX5, TX5, 7, tyX5, "PostVotes$Press", cf_6, by omega, rfl, gw_of ge_fieldLink gg_fl (List.mem_of_getElem? (i := 46) rfl), Or.inl rfl⟩
theorem fa_X5_27 : FAx RX5 27 6 6 false false := ⟨RX5, TX5, 7, tyX5, "PostVotes$Press", cf_6, by omega, rfl, rfl, gw_of ge_fieldLink gg_fl (List.mem_of_getElem? (i := 46) rfl), Or.inl rfl, (fun h => by cases h)⟩
theorem fg_X5_31 : FGx RX5 31 6 5 false := ⟨RX5, TX5, 7, tyX5, "PostVotes$Press", cf_6, by omega, rfl, gw_of ge_fieldLink gg_fl (List.mem_of_getElem? (i := 44) rfl), Or.inl rfl⟩
theorem fa_X5_31 : FAx RX5 31 6 5 false false := ⟨RX5, TX5, 7, tyX5, "PostVotes$Press", cf_6, by omega, rfl, rfl, gw_of ge_fieldLink gg_fl (List.mem_of_getElem? (i := 44) rfl), Or.inl rfl, (fun h => by cases h)⟩
theorem fg_X6_9 : FGx RX6 9 7 0 true := ⟨RX6, TX6, 8, tyX6, "PostVotes$Tape", cf_7, by omega, rfl, gw_of ge_fieldLink gg_fl (List.mem_of_getElem? (i := 23) rfl), Or.inl rfl⟩
theorem fa_X6_9 : FAx RX6 9 7 0 true true := ⟨RX6, TX6, 8, tyX6, "PostVotes$Tape", cf_7, by omega, rfl, rfl, gw_of ge_fieldLink gg_fl (List.mem_of_getElem? (i := 23) rfl), Or.inl rfl, fun _ => rfl⟩
theorem fg_X6_15 : FGx RX6 15 7 2 true := ⟨RX6, TX6, 8, tyX6, "PostVotes$Tape", cf_7, by omega, rfl, gw_of ge_fieldLink gg_fl (List.mem_of_getElem? (i := 26) rfl), Or.inl rfl⟩
theorem fa_X6_15 : FAx RX6 15 7 2 true true := ⟨RX6, TX6, 8, tyX6, "PostVotes$Tape", cf_7, by omega, rfl, rfl, gw_of ge_fieldLink gg_fl (List.mem_of_getElem? (i := 26) rfl), Or.inl rfl, fun _ => rfl⟩
theorem fg_X6_18 : FGx RX6 18 7 4 true := ⟨RX6, TX6, 8, tyX6, "PostVotes$Tape", cf_7, by omega, rfl, gw_of ge_fieldLink gg_fl (List.mem_of_getElem? (i := 30) rfl), Or.inl rfl⟩
theorem fa_X6_18 : FAx RX6 18 7 4 true true := ⟨RX6, TX6, 8, tyX6, "PostVotes$Tape", cf_7, by omega, rfl, rfl, gw_of ge_fieldLink gg_fl (List.mem_of_getElem? (i := 30) rfl), Or.inl rfl, fun _ => rfl⟩
theorem fg_X6_21 : FGx RX6 21 7 5 true := ⟨RX6, TX6, 8, tyX6, "PostVotes$Tape", cf_7, by omega, rfl, gw_of ge_fieldLink gg_fl (List.mem_of_getElem? (i := 32) rfl), Or.inl rfl⟩
theorem fa_X6_21 : FAx RX6 21 7 5 true true := ⟨RX6, TX6, 8, tyX6, "PostVotes$Tape", cf_7, by omega, rfl, rfl, gw_of ge_fieldLink gg_fl (List.mem_of_getElem? (i := 32) rfl), Or.inl rfl, fun _ => rfl⟩
theorem fg_X6_24 : FGx RX6 24 7 1 false := ⟨RX6, TX6, 8, tyX6, "PostVotes$Tape", cf_7, by omega, rfl, gw_of ge_fieldLink gg_fl (List.mem_of_getElem? (i := 24) rfl), Or.inl rfl⟩
theorem fa_X6_24 : FAx RX6 24 7 1 false false := ⟨RX6, TX6, 8, tyX6, "PostVotes$Tape", cf_7, by omega, rfl, rfl, gw_of ge_fieldLink gg_fl (List.mem_of_getElem? (i := 24) rfl), Or.inl rfl, (fun h => by cases h)⟩
theorem fg_X6_28 : FGx RX6 28 7 7 false := ⟨RX6, TX6, 8, tyX6, "PostVotes$Tape", cf_7, by omega, rfl, gw_of ge_fieldLink gg_fl (List.mem_of_getElem? (i := 36) rfl), Or.inl rfl⟩
theorem fa_X6_28 : FAx RX6 28 7 7 false false := ⟨RX6, TX6, 8, tyX6, "PostVotes$Tape", cf_7, by omega, rfl, rfl, gw_of ge_fieldLink gg_fl (List.mem_of_getElem? (i := 36) rfl), Or.inl rfl, (fun h => by cases h)⟩
theorem fg_X6_31 : FGx RX6 31 7 3 false := ⟨RX6, TX6, 8, tyX6, "PostVotes$Tape", cf_7, by omega, rfl, gw_of ge_fieldLink gg_fl (List.mem_of_getElem? (i := 29) rfl), Or.inl rfl⟩
theorem fa_X6_31 : FAx RX6 31 7 3 false false := ⟨RX6, TX6, 8, tyX6, "PostVotes$Tape", cf_7, by omega, rfl, rfl, gw_of ge_fieldLink gg_fl (List.mem_of_getElem? (i := 29) rfl), Or.inl rfl, (fun h => by cases h)⟩
theorem fg_X6_34 : FGx RX6 34 7 6 false := ⟨RX6, TX6, 8, tyX6, "PostVotes$Tape", cf_7, by omega, rfl, gw_of ge_fieldLink gg_fl (List.mem_of_getElem? (i := 35) rfl), Or.inl rfl⟩
theorem fa_X6_34 : FAx RX6 34 7 6 false false := ⟨RX6, TX6, 8, tyX6, "PostVotes$Tape", cf_7, by omega, rfl, rfl, gw_of ge_fieldLink gg_fl (List.mem_of_getElem? (i := 35) rfl), Or.inl rfl, (fun h => by cases h)⟩
theorem fg_X7_7 : FGx RX7 7 8 0 false := ⟨RX7, TX7, 4, tyX7, "PostVotes$Told", cf_8, by omega, rfl, gw_of ge_fieldLink gg_fl (List.mem_of_getElem? (i := 94) rfl), Or.inl rfl⟩
theorem fa_X7_7 : FAx RX7 7 8 0 false true := ⟨RX7, TX7, 4, tyX7, "PostVotes$Told", cf_8, by omega, rfl, rfl, gw_of ge_fieldLink gg_fl (List.mem_of_getElem? (i := 94) rfl), Or.inl rfl, fun _ => rfl⟩
theorem fg_X7_13 : FGx RX7 13 8 1 false := ⟨RX7, TX7, 4, tyX7, "PostVotes$Told", cf_8, by omega, rfl, gw_of ge_fieldLink gg_fl (List.mem_of_getElem? (i := 98) rfl), Or.inl rfl⟩
theorem fa_X7_13 : FAx RX7 13 8 1 false true := ⟨RX7, TX7, 4, tyX7, "PostVotes$Told", cf_8, by omega, rfl, rfl, gw_of ge_fieldLink gg_fl (List.mem_of_getElem? (i := 98) rfl), Or.inl rfl, fun _ => rfl⟩
theorem fg_X7_16 : FGx RX7 16 8 2 false := ⟨RX7, TX7, 4, tyX7, "PostVotes$Told", cf_8, by omega, rfl, gw_of ge_fieldLink gg_fl (List.mem_of_getElem? (i := 102) rfl), Or.inl rfl⟩
theorem fa_X7_16 : FAx RX7 16 8 2 false true := ⟨RX7, TX7, 4, tyX7, "PostVotes$Told", cf_8, by omega, rfl, rfl, gw_of ge_fieldLink gg_fl (List.mem_of_getElem? (i := 102) rfl), Or.inl rfl, fun _ => rfl⟩
theorem fg_X7_19 : FGx RX7 19 8 3 false := ⟨RX7, TX7, 4, tyX7, "PostVotes$Told", cf_8, by omega, rfl, gw_of ge_fieldLink gg_fl (List.mem_of_getElem? (i := 106) rfl), Or.inl rfl⟩
theorem fa_X7_19 : FAx RX7 19 8 3 false true := ⟨RX7, TX7, 4, tyX7, "PostVotes$Told", cf_8, by omega, rfl, rfl, gw_of ge_fieldLink gg_fl (List.mem_of_getElem? (i := 106) rfl), Or.inl rfl, fun _ => rfl⟩
theorem fg_X8_9 : FGx RX8 9 9 0 true := ⟨RX8, TX8, 11, tyX8, "PostVotes$Van", cf_9, by omega, rfl, gw_of ge_fieldLink gg_fl (List.mem_of_getElem? (i := 48) rfl), Or.inl rfl⟩
theorem fa_X8_9 : FAx RX8 9 9 0 true true := ⟨RX8, TX8, 11, tyX8, "PostVotes$Van", cf_9, by omega, rfl, rfl, gw_of ge_fieldLink gg_fl (List.mem_of_getElem? (i := 48) rfl), Or.inl rfl, fun _ => rfl⟩
theorem fg_X8_15 : FGx RX8 15 9 1 true := ⟨RX8, TX8, 11, tyX8, "PostVotes$Van", cf_9, by omega, rfl, gw_of ge_fieldLink gg_fl (List.mem_of_getElem? (i := 49) rfl), Or.inl rfl⟩
theorem fa_X8_15 : FAx RX8 15 9 1 true true := ⟨RX8, TX8, 11, tyX8, "PostVotes$Van", cf_9, by omega, rfl, rfl, gw_of ge_fieldLink gg_fl (List.mem_of_getElem? (i := 49) rfl), Or.inl rfl, fun _ => rfl⟩
theorem fg_X8_18 : FGx RX8 18 9 2 true := ⟨RX8, TX8, 11, tyX8, "PostVotes$Van", cf_9, by omega, rfl, gw_of ge_fieldLink gg_fl (List.mem_of_getElem? (i := 50) rfl), Or.inl rfl⟩
theorem fa_X8_18 : FAx RX8 18 9 2 true true := ⟨RX8, TX8, 11, tyX8, "PostVotes$Van", cf_9, by omega, rfl, rfl, gw_of ge_fieldLink gg_fl (List.mem_of_getElem? (i := 50) rfl), Or.inl rfl, fun _ => rfl⟩
theorem fg_X8_21 : FGx RX8 21 9 3 true := ⟨RX8, TX8, 11, tyX8, "PostVotes$Van", cf_9, by omega, rfl, gw_of ge_fieldLink gg_fl (List.mem_of_getElem? (i := 51) rfl), Or.inl rfl⟩
theorem fa_X8_21 : FAx RX8 21 9 3 true true := ⟨RX8, TX8, 11, tyX8, "PostVotes$Van", cf_9, by omega, rfl, rfl, gw_of ge_fieldLink gg_fl (List.mem_of_getElem? (i := 51) rfl), Or.inl rfl, fun _ => rfl⟩
theorem fg_X8_24 : FGx RX8 24 9 4 true := ⟨RX8, TX8, 11, tyX8, "PostVotes$Van", cf_9, by omega, rfl, gw_of ge_fieldLink gg_fl (List.mem_of_getElem? (i := 52) rfl), Or.inl rfl⟩
theorem fa_X8_24 : FAx RX8 24 9 4 true true := ⟨RX8, TX8, 11, tyX8, "PostVotes$Van", cf_9, by omega, rfl, rfl, gw_of ge_fieldLink gg_fl (List.mem_of_getElem? (i := 52) rfl), Or.inl rfl, fun _ => rfl⟩
theorem fg_X8_27 : FGx RX8 27 9 5 true := ⟨RX8, TX8, 11, tyX8, "PostVotes$Van", cf_9, by omega, rfl, gw_of ge_fieldLink gg_fl (List.mem_of_getElem? (i := 53) rfl), Or.inl rfl⟩
theorem fa_X8_27 : FAx RX8 27 9 5 true true := ⟨RX8, TX8, 11, tyX8, "PostVotes$Van", cf_9, by omega, rfl, rfl, gw_of ge_fieldLink gg_fl (List.mem_of_getElem? (i := 53) rfl), Or.inl rfl, fun _ => rfl⟩
theorem fg_X8_30 : FGx RX8 30 9 6 false := ⟨RX8, TX8, 11, tyX8, "PostVotes$Van", cf_9, by omega, rfl, gw_of ge_fieldLink gg_fl (List.mem_of_getElem? (i := 54) rfl), Or.inl rfl⟩
theorem fa_X8_30 : FAx RX8 30 9 6 false false := ⟨RX8, TX8, 11, tyX8, "PostVotes$Van", cf_9, by omega, rfl, rfl, gw_of ge_fieldLink gg_fl (List.mem_of_getElem? (i := 54) rfl), Or.inl rfl, (fun h => by cases h)⟩
theorem fg_X8_34 : FGx RX8 34 9 9 false := ⟨RX8, TX8, 11, tyX8, "PostVotes$Van", cf_9, by omega, rfl, gw_of ge_fieldLink gg_fl (List.mem_of_getElem? (i := 57) rfl), Or.inl rfl⟩
theorem fa_X8_34 : FAx RX8 34 9 9 false false := ⟨RX8, TX8, 11, tyX8, "PostVotes$Van", cf_9, by omega, rfl, rfl, gw_of ge_fieldLink gg_fl (List.mem_of_getElem? (i := 57) rfl), Or.inl rfl, (fun h => by cases h)⟩
theorem fg_X8_37 : FGx RX8 37 9 10 false := ⟨RX8, TX8, 11, tyX8, "PostVotes$Van", cf_9, by omega, rfl, gw_of ge_fieldLink gg_fl (List.mem_of_getElem? (i := 59) rfl), Or.inl rfl⟩
theorem fa_X8_37 : FAx RX8 37 9 10 false false := ⟨RX8, TX8, 11, tyX8, "PostVotes$Van", cf_9, by omega, rfl, rfl, gw_of ge_fieldLink gg_fl (List.mem_of_getElem? (i := 59) rfl), Or.inl rfl, (fun h => by cases h)⟩
theorem fg_X8_50 : FGx RX8 50 9 8 false := ⟨RX8, TX8, 11, tyX8, "PostVotes$Van", cf_9, by omega, rfl, gw_of ge_fieldLink gg_fl (List.mem_of_getElem? (i := 56) rfl), Or.inl rfl⟩
theorem fa_X8_50 : FAx RX8 50 9 8 false false := ⟨RX8, TX8, 11, tyX8, "PostVotes$Van", cf_9, by omega, rfl, rfl, gw_of ge_fieldLink gg_fl (List.mem_of_getElem? (i := 56) rfl), Or.inl rfl, (fun h => by cases h)⟩
theorem fg_X8_53 : FGx RX8 53 9 7 false := ⟨RX8, TX8, 11, tyX8, "PostVotes$Van", cf_9, by omega, rfl, gw_of ge_fieldLink gg_fl (List.mem_of_getElem? (i := 55) rfl), Or.inl rfl⟩
theorem fa_X8_53 : FAx RX8 53 9 7 false false := ⟨RX8, TX8, 11, tyX8, "PostVotes$Van", cf_9, by omega, rfl, rfl, gw_of ge_fieldLink gg_fl (List.mem_of_getElem? (i := 55) rfl), Or.inl rfl, (fun h => by cases h)⟩
theorem fg_X9_12 : FGx RX9 12 10 3 true := ⟨RX9, TX9, 9, tyX9, "PostVotes$Voter", cf_10, by omega, rfl, gw_of ge_fieldLink gg_fl (List.mem_of_getElem? (i := 77) rfl), Or.inl rfl⟩
theorem fa_X9_12 : FAx RX9 12 10 3 true true := ⟨RX9, TX9, 9, tyX9, "PostVotes$Voter", cf_10, by omega, rfl, rfl, gw_of ge_fieldLink gg_fl (List.mem_of_getElem? (i := 77) rfl), Or.inl rfl, fun _ => rfl⟩
theorem fg_X9_18 : FGx RX9 18 10 4 true := ⟨RX9, TX9, 9, tyX9, "PostVotes$Voter", cf_10, by omega, rfl, gw_of ge_fieldLink gg_fl (List.mem_of_getElem? (i := 79) rfl), Or.inl rfl⟩
theorem fa_X9_18 : FAx RX9 18 10 4 true true := ⟨RX9, TX9, 9, tyX9, "PostVotes$Voter", cf_10, by omega, rfl, rfl, gw_of ge_fieldLink gg_fl (List.mem_of_getElem? (i := 79) rfl), Or.inl rfl, fun _ => rfl⟩
theorem fg_X9_21 : FGx RX9 21 10 7 false := ⟨RX9, TX9, 9, tyX9, "PostVotes$Voter", cf_10, by omega, rfl, gw_of ge_fieldLink gg_fl (List.mem_of_getElem? (i := 88) rfl), Or.inl rfl⟩
theorem fa_X9_21 : FAx RX9 21 10 7 false false := ⟨RX9, TX9, 9, tyX9, "PostVotes$Voter", cf_10, by omega, rfl, rfl, gw_of ge_fieldLink gg_fl (List.mem_of_getElem? (i := 88) rfl), Or.inl rfl, (fun h => by cases h)⟩
theorem fg_X9_25 : FGx RX9 25 10 8 false := ⟨RX9, TX9, 9, tyX9, "PostVotes$Voter", cf_10, by omega, rfl, gw_of ge_fieldLink gg_fl (List.mem_of_getElem? (i := 92) rfl), Or.inl rfl⟩
theorem fa_X9_25 : FAx RX9 25 10 8 false false := ⟨RX9, TX9, 9, tyX9, "PostVotes$Voter", cf_10, by omega, rfl, rfl, gw_of ge_fieldLink gg_fl (List.mem_of_getElem? (i := 92) rfl), Or.inl rfl, (fun h => by cases h)⟩
theorem fg_X9_28 : FGx RX9 28 10 0 false := ⟨RX9, TX9, 9, tyX9, "PostVotes$Voter", cf_10, by omega, rfl, gw_of ge_fieldLink gg_fl (List.mem_of_getElem? (i := 70) rfl), Or.inl rfl⟩
theorem fa_X9_28 : FAx RX9 28 10 0 false true := ⟨RX9, TX9, 9, tyX9, "PostVotes$Voter", cf_10, by omega, rfl, rfl, gw_of ge_fieldLink gg_fl (List.mem_of_getElem? (i := 70) rfl), Or.inl rfl, fun _ => rfl⟩
theorem fg_X9_31 : FGx RX9 31 10 1 false := ⟨RX9, TX9, 9, tyX9, "PostVotes$Voter", cf_10, by omega, rfl, gw_of ge_fieldLink gg_fl (List.mem_of_getElem? (i := 71) rfl), Or.inl rfl⟩
theorem fa_X9_31 : FAx RX9 31 10 1 false true := ⟨RX9, TX9, 9, tyX9, "PostVotes$Voter", cf_10, by omega, rfl, rfl, gw_of ge_fieldLink gg_fl (List.mem_of_getElem? (i := 71) rfl), Or.inl rfl, fun _ => rfl⟩
theorem fg_X9_34 : FGx RX9 34 10 2 false := ⟨RX9, TX9, 9, tyX9, "PostVotes$Voter", cf_10, by omega, rfl, gw_of ge_fieldLink gg_fl (List.mem_of_getElem? (i := 75) rfl), Or.inl rfl⟩
theorem fa_X9_34 : FAx RX9 34 10 2 false true := ⟨RX9, TX9, 9, tyX9, "PostVotes$Voter", cf_10, by omega, rfl, rfl, gw_of ge_fieldLink gg_fl (List.mem_of_getElem? (i := 75) rfl), Or.inl rfl, fun _ => rfl⟩
theorem fg_X9_47 : FGx RX9 47 8 0 false := ⟨RX7, TX7, 4, tyX7, "PostVotes$Told", cf_8, by omega, rfl, gw_of ge_fieldLink gg_fl (List.mem_of_getElem? (i := 95) rfl), Or.inl rfl⟩
theorem fg_X9_50 : FGx RX9 50 8 3 false := ⟨RX7, TX7, 4, tyX7, "PostVotes$Told", cf_8, by omega, rfl, gw_of ge_fieldLink gg_fl (List.mem_of_getElem? (i := 107) rfl), Or.inl rfl⟩
theorem fg_X9_53 : FGx RX9 53 8 1 false := ⟨RX7, TX7, 4, tyX7, "PostVotes$Told", cf_8, by omega, rfl, gw_of ge_fieldLink gg_fl (List.mem_of_getElem? (i := 99) rfl), Or.inl rfl⟩
theorem fg_X9_56 : FGx RX9 56 8 2 false := ⟨RX7, TX7, 4, tyX7, "PostVotes$Told", cf_8, by omega, rfl, gw_of ge_fieldLink gg_fl (List.mem_of_getElem? (i := 103) rfl), Or.inl rfl⟩
theorem fg_X9_59 : FGx RX9 59 10 5 false := ⟨RX9, TX9, 9, tyX9, "PostVotes$Voter", cf_10, by omega, rfl, gw_of ge_fieldLink gg_fl (List.mem_of_getElem? (i := 82) rfl), Or.inl rfl⟩
theorem fa_X9_59 : FAx RX9 59 10 5 false false := ⟨RX9, TX9, 9, tyX9, "PostVotes$Voter", cf_10, by omega, rfl, rfl, gw_of ge_fieldLink gg_fl (List.mem_of_getElem? (i := 82) rfl), Or.inl rfl, (fun h => by cases h)⟩
theorem fg_X9_62 : FGx RX9 62 10 6 false := ⟨RX9, TX9, 9, tyX9, "PostVotes$Voter", cf_10, by omega, rfl, gw_of ge_fieldLink gg_fl (List.mem_of_getElem? (i := 85) rfl), Or.inl rfl⟩
theorem fa_X9_62 : FAx RX9 62 10 6 false false := ⟨RX9, TX9, 9, tyX9, "PostVotes$Voter", cf_10, by omega, rfl, rfl, gw_of ge_fieldLink gg_fl (List.mem_of_getElem? (i := 85) rfl), Or.inl rfl, (fun h => by cases h)⟩
theorem fg_X11_7 : FGx RX11 7 12 12 false := ⟨RX11, TX11, 95, tyX11, "PostVotesModel", cf_12, by omega, rfl, gw_of ge_fieldLink gg_fl (List.mem_of_getElem? (i := 199) rfl), Or.inl rfl⟩
theorem fa_X11_7 : FAx RX11 7 12 12 false false := ⟨RX11, TX11, 95, tyX11, "PostVotesModel", cf_12, by omega, rfl, rfl, gw_of ge_fieldLink gg_fl (List.mem_of_getElem? (i := 199) rfl), Or.inl rfl, (fun h => by cases h)⟩
theorem fg_X11_13 : FGx RX11 13 12 13 true := ⟨RX11, TX11, 95, tyX11, "PostVotesModel", cf_12, by omega, rfl, gw_of ge_fieldLink gg_fl (List.mem_of_getElem? (i := 200) rfl), Or.inl rfl⟩
theorem fa_X11_13 : FAx RX11 13 12 13 true true := ⟨RX11, TX11, 95, tyX11, "PostVotesModel", cf_12, by omega, rfl, rfl, gw_of ge_fieldLink gg_fl (List.mem_of_getElem? (i := 200) rfl), Or.inl rfl, fun _ => rfl⟩
theorem fg_X11_17 : FGx RX11 17 12 14 true := ⟨RX11, TX11, 95, tyX11, "PostVotesModel", cf_12, by omega, rfl, gw_of ge_fieldLink gg_fl (List.mem_of_getElem? (i := 201) rfl), Or.inl rfl⟩
theorem fa_X11_17 : FAx RX11 17 12 14 true true := ⟨RX11, TX11, 95, tyX11, "PostVotesModel", cf_12, by omega, rfl, rfl, gw_of ge_fieldLink gg_fl (List.mem_of_getElem? (i := 201) rfl), Or.inl rfl, fun _ => rfl⟩
theorem fg_X11_20 : FGx RX11 20 12 15 true := ⟨RX11, TX11, 95, tyX11, "PostVotesModel", cf_12, by omega, rfl, gw_of ge_fieldLink gg_fl (List.mem_of_getElem? (i := 202) rfl), Or.inl rfl⟩
theorem fa_X11_20 : FAx RX11 20 12 15 true true := ⟨RX11, TX11, 95, tyX11, "PostVotesModel", cf_12, by omega, rfl, rfl, gw_of ge_fieldLink gg_fl (List.mem_of_getElem? (i := 202) rfl), Or.inl rfl, fun _ => rfl⟩
theorem fg_X11_23 : FGx RX11 23 12 16 true := ⟨RX11, TX11, 95, tyX11, "PostVotesModel", cf_12, by omega, rfl, gw_of ge_fieldLink gg_fl (List.mem_of_getElem? (i := 203) rfl), Or.inl rfl⟩
theorem fa_X11_23 : FAx RX11 23 12 16 true true := ⟨RX11, TX11, 95, tyX11, "PostVotesModel", cf_12, by omega, rfl, rfl, gw_of ge_fieldLink gg_fl (List.mem_of_getElem? (i := 203) rfl), Or.inl rfl, fun _ => rfl⟩
theorem fg_X11_26 : FGx RX11 26 12 17 true := ⟨RX11, TX11, 95, tyX11, "PostVotesModel", cf_12, by omega, rfl, gw_of ge_fieldLink gg_fl (List.mem_of_getElem? (i := 204) rfl), Or.inl rfl⟩
theorem fa_X11_26 : FAx RX11 26 12 17 true true := ⟨RX11, TX11, 95, tyX11, "PostVotesModel", cf_12, by omega, rfl, rfl, gw_of ge_fieldLink gg_fl (List.mem_of_getElem? (i := 204) rfl), Or.inl rfl, fun _ => rfl⟩
theorem fg_X11_29 : FGx RX11 29 12 18 true := ⟨RX11, TX11, 95, tyX11, "PostVotesModel", cf_12, by omega, rfl, gw_of ge_fieldLink gg_fl (List.mem_of_getElem? (i := 205) rfl), Or.inl rfl⟩
theorem fa_X11_29 : FAx RX11 29 12 18 true true := ⟨RX11, TX11, 95, tyX11, "PostVotesModel", cf_12, by omega, rfl, rfl, gw_of ge_fieldLink gg_fl (List.mem_of_getElem? (i := 205) rfl), Or.inl rfl, fun _ => rfl⟩
theorem fg_X11_32 : FGx RX11 32 12 19 true := ⟨RX11, TX11, 95, tyX11, "PostVotesModel", cf_12, by omega, rfl, gw_of ge_fieldLink gg_fl (List.mem_of_getElem? (i := 206) rfl), Or.inl rfl⟩
theorem fa_X11_32 : FAx RX11 32 12 19 true true := ⟨RX11, TX11, 95, tyX11, "PostVotesModel", cf_12, by omega, rfl, rfl, gw_of ge_fieldLink gg_fl (List.mem_of_getElem? (i := 206) rfl), Or.inl rfl, fun _ => rfl⟩
theorem fg_X11_35 : FGx RX11 35 12 20 true := ⟨RX11, TX11, 95, tyX11, "PostVotesModel", cf_12, by omega, rfl, gw_of ge_fieldLink gg_fl (List.mem_of_getElem? (i := 207) rfl), Or.inl rfl⟩
theorem fa_X11_35 : FAx RX11 35 12 20 true true := ⟨RX11, TX11, 95, tyX11, "PostVotesModel", cf_12, by omega, rfl, rfl, gw_of ge_fieldLink gg_fl (List.mem_of_getElem? (i := 207) rfl), Or.inl rfl, fun _ => rfl⟩
theorem fg_X11_38 : FGx RX11 38 12 21 true := ⟨RX11, TX11, 95, tyX11, "PostVotesModel", cf_12, by omega, rfl, gw_of ge_fieldLink gg_fl (List.mem_of_getElem? (i := 208) rfl), Or.inl rfl⟩
theorem fa_X11_38 : FAx RX11 38 12 21 true true := ⟨RX11, TX11, 95, tyX11, "PostVotesModel", cf_12, by omega, rfl, rfl, gw_of ge_fieldLink gg_fl (List.mem_of_getElem? (i := 208) rfl), Or.inl rfl, fun _ => rfl⟩
theorem fg_X11_41 : FGx RX11 41 12 22 true := ⟨RX11, TX11, 95, tyX11, "PostVotesModel", cf_12, by omega, rfl, gw_of ge_fieldLink gg_fl (List.mem_of_getElem? (i := 209) rfl), Or.inl rfl⟩
theorem fa_X11_41 : FAx RX11 41 12 22 true true := ⟨RX11, TX11, 95, tyX11, "PostVotesModel", cf_12, by omega, rfl, rfl, gw_of ge_fieldLink gg_fl (List.mem_of_getElem? (i := 209) rfl), Or.inl rfl, fun _ => rfl⟩
theorem fg_X11_44 : FGx RX11 44 12 23 true := ⟨RX11, TX11, 95, tyX11, "PostVotesModel", cf_12, by omega, rfl, gw_of ge_fieldLink gg_fl (List.mem_of_getElem? (i := 210) rfl), Or.inl rfl⟩
theorem fa_X11_44 : FAx RX11 44 12 23 true true := ⟨RX11, TX11, 95, tyX11, "PostVotesModel", cf_12, by omega, rfl, rfl, gw_of ge_fieldLink gg_fl (List.mem_of_getElem? (i := 210) rfl), Or.inl rfl, fun _ => rfl⟩
theorem fg_X11_47 : FGx RX11 47 12 24 true := ⟨RX11, TX11, 95, tyX11, "PostVotesModel", cf_12, by omega, rfl, gw_of ge_fieldLink gg_fl (List.mem_of_getElem? (i := 211) rfl), Or.inl rfl⟩
theorem fa_X11_47 : FAx RX11 47 12 24 true true := ⟨RX11, TX11, 95, tyX11, "PostVotesModel", cf_12, by omega, rfl, rfl, gw_of ge_fieldLink gg_fl (List.mem_of_getElem? (i := 211) rfl), Or.inl rfl, fun _ => rfl⟩
theorem fg_X11_50 : FGx RX11 50 12 25 true := ⟨RX11, TX11, 95, tyX11, "PostVotesModel", cf_12, by omega, rfl, gw_of ge_fieldLink gg_fl (List.mem_of_getElem? (i := 212) rfl), Or.inl rfl⟩
theorem fa_X11_50 : FAx RX11 50 12 25 true true := ⟨RX11, TX11, 95, tyX11, "PostVotesModel", cf_12, by omega, rfl, rfl, gw_of ge_fieldLink gg_fl (List.mem_of_getElem? (i := 212) rfl), Or.inl rfl, fun _ => rfl⟩
theorem fg_X11_53 : FGx RX11 53 12 26 true := ⟨RX11, TX11, 95, tyX11, "PostVotesModel", cf_12, by omega, rfl, gw_of ge_fieldLink gg_fl (List.mem_of_getElem? (i := 213) rfl), Or.inl rfl⟩
theorem fa_X11_53 : FAx RX11 53 12 26 true true := ⟨RX11, TX11, 95, tyX11, "PostVotesModel", cf_12, by omega, rfl, rfl, gw_of ge_fieldLink gg_fl (List.mem_of_getElem? (i := 213) rfl), Or.inl rfl, fun _ => rfl⟩
theorem fg_X11_56 : FGx RX11 56 12 27 true := ⟨RX11, TX11, 95, tyX11, "PostVotesModel", cf_12, by omega, rfl, gw_of ge_fieldLink gg_fl (List.mem_of_getElem? (i := 214) rfl), Or.inl rfl⟩
theorem fa_X11_56 : FAx RX11 56 12 27 true true := ⟨RX11, TX11, 95, tyX11, "PostVotesModel", cf_12, by omega, rfl, rfl, gw_of ge_fieldLink gg_fl (List.mem_of_getElem? (i := 214) rfl), Or.inl rfl, fun _ => rfl⟩
theorem fg_X11_59 : FGx RX11 59 12 28 true := ⟨RX11, TX11, 95, tyX11, "PostVotesModel", cf_12, by omega, rfl, gw_of ge_fieldLink gg_fl (List.mem_of_getElem? (i := 215) rfl), Or.inl rfl⟩
theorem fa_X11_59 : FAx RX11 59 12 28 true true := ⟨RX11, TX11, 95, tyX11, "PostVotesModel", cf_12, by omega, rfl, rfl, gw_of ge_fieldLink gg_fl (List.mem_of_getElem? (i := 215) rfl), Or.inl rfl, fun _ => rfl⟩
theorem fg_X11_62 : FGx RX11 62 12 29 true := ⟨RX11, TX11, 95, tyX11, "PostVotesModel", cf_12, by omega, rfl, gw_of ge_fieldLink gg_fl (List.mem_of_getElem? (i := 216) rfl), Or.inl rfl⟩
theorem fa_X11_62 : FAx RX11 62 12 29 true true := ⟨RX11, TX11, 95, tyX11, "PostVotesModel", cf_12, by omega, rfl, rfl, gw_of ge_fieldLink gg_fl (List.mem_of_getElem? (i := 216) rfl), Or.inl rfl, fun _ => rfl⟩
theorem fg_X11_65 : FGx RX11 65 12 30 true := ⟨RX11, TX11, 95, tyX11, "PostVotesModel", cf_12, by omega, rfl, gw_of ge_fieldLink gg_fl (List.mem_of_getElem? (i := 217) rfl), Or.inl rfl⟩
theorem fa_X11_65 : FAx RX11 65 12 30 true true := ⟨RX11, TX11, 95, tyX11, "PostVotesModel", cf_12, by omega, rfl, rfl, gw_of ge_fieldLink gg_fl (List.mem_of_getElem? (i := 217) rfl), Or.inl rfl, fun _ => rfl⟩
theorem fg_X11_68 : FGx RX11 68 12 31 true := ⟨RX11, TX11, 95, tyX11, "PostVotesModel", cf_12, by omega, rfl, gw_of ge_fieldLink gg_fl (List.mem_of_getElem? (i := 218) rfl), Or.inl rfl⟩
theorem fa_X11_68 : FAx RX11 68 12 31 true true := ⟨RX11, TX11, 95, tyX11, "PostVotesModel", cf_12, by omega, rfl, rfl, gw_of ge_fieldLink gg_fl (List.mem_of_getElem? (i := 218) rfl), Or.inl rfl, fun _ => rfl⟩
theorem fg_X11_71 : FGx RX11 71 12 32 true := ⟨RX11, TX11, 95, tyX11, "PostVotesModel", cf_12, by omega, rfl, gw_of ge_fieldLink gg_fl (List.mem_of_getElem? (i := 219) rfl), Or.inl rfl⟩
theorem fa_X11_71 : FAx RX11 71 12 32 true true := ⟨RX11, TX11, 95, tyX11, "PostVotesModel", cf_12, by omega, rfl, rfl, gw_of ge_fieldLink gg_fl (List.mem_of_getElem? (i := 219) rfl), Or.inl rfl, fun _ => rfl⟩
theorem fg_X11_74 : FGx RX11 74 12 35 true := ⟨RX11, TX11, 95, tyX11, "PostVotesModel", cf_12, by omega, rfl, gw_of ge_fieldLink gg_fl (List.mem_of_getElem? (i := 222) rfl), Or.inl rfl⟩
theorem fa_X11_74 : FAx RX11 74 12 35 true true := ⟨RX11, TX11, 95, tyX11, "PostVotesModel", cf_12, by omega, rfl, rfl, gw_of ge_fieldLink gg_fl (List.mem_of_getElem? (i := 222) rfl), Or.inl rfl, fun _ => rfl⟩
theorem fg_X11_77 : FGx RX11 77 12 36 true := ⟨RX11, TX11, 95, tyX11, "PostVotesModel", cf_12, by omega, rfl, gw_of ge_fieldLink gg_fl (List.mem_of_getElem? (i := 223) rfl), Or.inl rfl⟩
theorem fa_X11_77 : FAx RX11 77 12 36 true true := ⟨RX11, TX11, 95, tyX11, "PostVotesModel", cf_12, by omega, rfl, rfl, gw_of ge_fieldLink gg_fl (List.mem_of_getElem? (i := 223) rfl), Or.inl rfl, fun _ => rfl⟩
theorem fg_X11_80 : FGx RX11 80 12 37 true := ⟨RX11, TX11, 95, tyX11, "PostVotesModel", cf_12, by omega, rfl, gw_of ge_fieldLink gg_fl (List.mem_of_getElem? (i := 224) rfl), Or.inl rfl⟩
theorem fa_X11_80 : FAx RX11 80 12 37 true true := ⟨RX11, TX11, 95, tyX11, "PostVotesModel", cf_12, by omega, rfl, rfl, gw_of ge_fieldLink gg_fl (List.mem_of_getElem? (i := 224) rfl), Or.inl rfl, fun _ => rfl⟩
theorem fg_X11_83 : FGx RX11 83 12 38 true := ⟨RX11, TX11, 95, tyX11, "PostVotesModel", cf_12, by omega, rfl, gw_of ge_fieldLink gg_fl (List.mem_of_getElem? (i := 225) rfl), Or.inl rfl⟩
theorem fa_X11_83 : FAx RX11 83 12 38 true true := ⟨RX11, TX11, 95, tyX11, "PostVotesModel", cf_12, by omega, rfl, rfl, gw_of ge_fieldLink gg_fl (List.mem_of_getElem? (i := 225) rfl), Or.inl rfl, fun _ => rfl⟩
theorem fg_X11_86 : FGx RX11 86 12 39 true := ⟨RX11, TX11, 95, tyX11, "PostVotesModel", cf_12, by omega, rfl, gw_of ge_fieldLink gg_fl (List.mem_of_getElem? (i := 226) rfl), Or.inl rfl⟩
theorem fa_X11_86 : FAx RX11 86 12 39 true true := ⟨RX11, TX11, 95, tyX11, "PostVotesModel", cf_12, by omega, rfl, rfl, gw_of ge_fieldLink gg_fl (List.mem_of_getElem? (i := 226) rfl), Or.inl rfl, fun _ => rfl⟩
theorem fg_X11_89 : FGx RX11 89 12 40 true := ⟨RX11, TX11, 95, tyX11, "PostVotesModel", cf_12, by omega, rfl, gw_of ge_fieldLink gg_fl (List.mem_of_getElem? (i := 227) rfl), Or.inl rfl⟩
theorem fa_X11_89 : FAx RX11 89 12 40 true true := ⟨RX11, TX11, 95, tyX11, "PostVotesModel", cf_12, by omega, rfl, rfl, gw_of ge_fieldLink gg_fl (List.mem_of_getElem? (i := 227) rfl), Or.inl rfl, fun _ => rfl⟩
theorem fg_X11_92 : FGx RX11 92 12 41 true := ⟨RX11, TX11, 95, tyX11, "PostVotesModel", cf_12, by omega, rfl, gw_of ge_fieldLink gg_fl (List.mem_of_getElem? (i := 228) rfl), Or.inl rfl⟩
theorem fa_X11_92 : FAx RX11 92 12 41 true true := ⟨RX11, TX11, 95, tyX11, "PostVotesModel", cf_12, by omega, rfl, rfl, gw_of ge_fieldLink gg_fl (List.mem_of_getElem? (i := 228) rfl), Or.inl rfl, fun _ => rfl⟩
theorem fg_X11_96 : FGx RX11 96 12 42 true := ⟨RX11, TX11, 95, tyX11, "PostVotesModel", cf_12, by omega, rfl, gw_of ge_fieldLink gg_fl (List.mem_of_getElem? (i := 229) rfl), Or.inl rfl⟩
theorem fa_X11_96 : FAx RX11 96 12 42 true true := ⟨RX11, TX11, 95, tyX11, "PostVotesModel", cf_12, by omega, rfl, rfl, gw_of ge_fieldLink gg_fl (List.mem_of_getElem? (i := 229) rfl), Or.inl rfl, fun _ => rfl⟩
theorem fg_X11_99 : FGx RX11 99 12 43 true := ⟨RX11, TX11, 95, tyX11, "PostVotesModel", cf_12, by omega, rfl, gw_of ge_fieldLink gg_fl (List.mem_of_getElem? (i := 230) rfl), Or.inl rfl⟩
theorem fa_X11_99 : FAx RX11 99 12 43 true true := ⟨RX11, TX11, 95, tyX11, "PostVotesModel", cf_12, by omega, rfl, rfl, gw_of ge_fieldLink gg_fl (List.mem_of_getElem? (i := 230) rfl), Or.inl rfl, fun _ => rfl⟩
theorem fg_X11_102 : FGx RX11 102 12 44 true := ⟨RX11, TX11, 95, tyX11, "PostVotesModel", cf_12, by omega, rfl, gw_of ge_fieldLink gg_fl (List.mem_of_getElem? (i := 231) rfl), Or.inl rfl⟩
theorem fa_X11_102 : FAx RX11 102 12 44 true true := ⟨RX11, TX11, 95, tyX11, "PostVotesModel", cf_12, by omega, rfl, rfl, gw_of ge_fieldLink gg_fl (List.mem_of_getElem? (i := 231) rfl), Or.inl rfl, fun _ => rfl⟩
theorem fg_X11_105 : FGx RX11 105 12 45 true := ⟨RX11, TX11, 95, tyX11, "PostVotesModel", cf_12, by omega, rfl, gw_of ge_fieldLink gg_fl (List.mem_of_getElem? (i := 232) rfl), Or.inl rfl⟩
theorem fa_X11_105 : FAx RX11 105 12 45 true true := ⟨RX11, TX11, 95, tyX11, "PostVotesModel", cf_12, by omega, rfl, rfl, gw_of ge_fieldLink gg_fl (List.mem_of_getElem? (i := 232) rfl), Or.inl rfl, fun _ => rfl⟩
theorem fg_X11_108 : FGx RX11 108 12 46 true := ⟨RX11, TX11, 95, tyX11, "PostVotesModel", cf_12, by omega, rfl, gw_of ge_fieldLink gg_fl (List.mem_of_getElem? (i := 233) rfl), Or.inl rfl⟩
theorem fa_X11_108 : FAx RX11 108 12 46 true true := ⟨RX11, TX11, 95, tyX11, "PostVotesModel", cf_12, by omega, rfl, rfl, gw_of ge_fieldLink gg_fl (List.mem_of_getElem? (i := 233) rfl), Or.inl rfl, fun _ => rfl⟩
theorem fg_X11_111 : FGx RX11 111 12 47 true := ⟨RX11, TX11, 95, tyX11, "PostVotesModel", cf_12, by omega, rfl, gw_of ge_fieldLink gg_fl (List.mem_of_getElem? (i := 234) rfl), Or.inl rfl⟩
theorem fa_X11_111 : FAx RX11 111 12 47 true true := ⟨RX11, TX11, 95, tyX11, "PostVotesModel", cf_12, by omega, rfl, rfl, gw_of ge_fieldLink gg_fl (List.mem_of_getElem? (i := 234) rfl), Or.inl rfl, fun _ => rfl⟩
theorem fg_X11_114 : FGx RX11 114 12 48 true := ⟨RX11, TX11, 95, tyX11, "PostVotesModel", cf_12, by omega, rfl, gw_of ge_fieldLink gg_fl (List.mem_of_getElem? (i := 235) rfl), Or.inl rfl⟩
theorem fa_X11_114 : FAx RX11 114 12 48 true true := ⟨RX11, TX11, 95, tyX11, "PostVotesModel", cf_12, by omega, rfl, rfl, gw_of ge_fieldLink gg_fl (List.mem_of_getElem? (i := 235) rfl), Or.inl rfl, fun _ => rfl⟩
theorem fg_X11_117 : FGx RX11 117 12 49 true := ⟨RX11, TX11, 95, tyX11, "PostVotesModel", cf_12, by omega, rfl, gw_of ge_fieldLink gg_fl (List.mem_of_getElem? (i := 236) rfl), Or.inl rfl⟩
theorem fa_X11_117 : FAx RX11 117 12 49 true true := ⟨RX11, TX11, 95, tyX11, "PostVotesModel", cf_12, by omega, rfl, rfl, gw_of ge_fieldLink gg_fl (List.mem_of_getElem? (i := 236) rfl), Or.inl rfl, fun _ => rfl⟩
theorem fg_X11_120 : FGx RX11 120 12 50 true := ⟨RX11, TX11, 95, tyX11, "PostVotesModel", cf_12, by omega, rfl, gw_of ge_fieldLink gg_fl (List.mem_of_getElem? (i := 237) rfl), Or.inl rfl⟩
theorem fa_X11_120 : FAx RX11 120 12 50 true true := ⟨RX11, TX11, 95, tyX11, "PostVotesModel", cf_12, by omega, rfl, rfl, gw_of ge_fieldLink gg_fl (List.mem_of_getElem? (i := 237) rfl), Or.inl rfl, fun _ => rfl⟩
theorem fg_X11_123 : FGx RX11 123 12 51 true := ⟨RX11, TX11, 95, tyX11, "PostVotesModel", cf_12, by omega, rfl, gw_of ge_fieldLink gg_fl (List.mem_of_getElem? (i := 238) rfl), Or.inl rfl⟩
theorem fa_X11_123 : FAx RX11 123 12 51 true true := ⟨RX11, TX11, 95, tyX11, "PostVotesModel", cf_12, by omega, rfl, rfl, gw_of ge_fieldLink gg_fl (List.mem_of_getElem? (i := 238) rfl), Or.inl rfl, fun _ => rfl⟩
theorem fg_X11_126 : FGx RX11 126 12 58 true := ⟨RX11, TX11, 95, tyX11, "PostVotesModel", cf_12, by omega, rfl, gw_of ge_fieldLink gg_fl (List.mem_of_getElem? (i := 245) rfl), Or.inl rfl⟩
theorem fa_X11_126 : FAx RX11 126 12 58 true true := ⟨RX11, TX11, 95, tyX11, "PostVotesModel", cf_12, by omega, rfl, rfl, gw_of ge_fieldLink gg_fl (List.mem_of_getElem? (i := 245) rfl), Or.inl rfl, fun _ => rfl⟩
theorem fg_X11_129 : FGx RX11 129 12 60 true := ⟨RX11, TX11, 95, tyX11, "PostVotesModel", cf_12, by omega, rfl, gw_of ge_fieldLink gg_fl (List.mem_of_getElem? (i := 247) rfl), Or.inl rfl⟩
theorem fa_X11_129 : FAx RX11 129 12 60 true true := ⟨RX11, TX11, 95, tyX11, "PostVotesModel", cf_12, by omega, rfl, rfl, gw_of ge_fieldLink gg_fl (List.mem_of_getElem? (i := 247) rfl), Or.inl rfl, fun _ => rfl⟩
theorem fg_X11_132 : FGx RX11 132 12 61 true := ⟨RX11, TX11, 95, tyX11, "PostVotesModel", cf_12, by omega, rfl, gw_of ge_fieldLink gg_fl (List.mem_of_getElem? (i := 248) rfl), Or.inl rfl⟩
theorem fa_X11_132 : FAx RX11 132 12 61 true true := ⟨RX11, TX11, 95, tyX11, "PostVotesModel", cf_12, by omega, rfl, rfl, gw_of ge_fieldLink gg_fl (List.mem_of_getElem? (i := 248) rfl), Or.inl rfl, fun _ => rfl⟩
theorem fg_X11_135 : FGx RX11 135 12 62 true := ⟨RX11, TX11, 95, tyX11, "PostVotesModel", cf_12, by omega, rfl, gw_of ge_fieldLink gg_fl (List.mem_of_getElem? (i := 249) rfl), Or.inl rfl⟩
theorem fa_X11_135 : FAx RX11 135 12 62 true true := ⟨RX11, TX11, 95, tyX11, "PostVotesModel", cf_12, by omega, rfl, rfl, gw_of ge_fieldLink gg_fl (List.mem_of_getElem? (i := 249) rfl), Or.inl rfl, fun _ => rfl⟩
theorem fg_X11_138 : FGx RX11 138 12 63 true := ⟨RX11, TX11, 95, tyX11, "PostVotesModel", cf_12, by omega, rfl, gw_of ge_fieldLink gg_fl (List.mem_of_getElem? (i := 250) rfl), Or.inl rfl⟩
theorem fa_X11_138 : FAx RX11 138 12 63 true true := ⟨RX11, TX11, 95, tyX11, "PostVotesModel", cf_12, by omega, rfl, rfl, gw_of ge_fieldLink gg_fl (List.mem_of_getElem? (i := 250) rfl), Or.inl rfl, fun _ => rfl⟩
theorem fg_X11_141 : FGx RX11 141 12 64 true := ⟨RX11, TX11, 95, tyX11, "PostVotesModel", cf_12, by omega, rfl, gw_of ge_fieldLink gg_fl (List.mem_of_getElem? (i := 251) rfl), Or.inl rfl⟩
theorem fa_X11_141 : FAx RX11 141 12 64 true true := ⟨RX11, TX11, 95, tyX11, "PostVotesModel", cf_12, by omega, rfl, rfl, gw_of ge_fieldLink gg_fl (List.mem_of_getElem? (i := 251) rfl), Or.inl rfl, fun _ => rfl⟩
theorem fg_X11_144 : FGx RX11 144 12 65 true := ⟨RX11, TX11, 95, tyX11, "PostVotesModel", cf_12, by omega, rfl, gw_of ge_fieldLink gg_fl (List.mem_of_getElem? (i := 252) rfl), Or.inl rfl⟩
theorem fa_X11_144 : FAx RX11 144 12 65 true true := ⟨RX11, TX11, 95, tyX11, "PostVotesModel", cf_12, by omega, rfl, rfl, gw_of ge_fieldLink gg_fl (List.mem_of_getElem? (i := 252) rfl), Or.inl rfl, fun _ => rfl⟩
theorem fg_X11_147 : FGx RX11 147 12 71 true := ⟨RX11, TX11, 95, tyX11, "PostVotesModel", cf_12, by omega, rfl, gw_of ge_fieldLink gg_fl (List.mem_of_getElem? (i := 258) rfl), Or.inl rfl⟩
theorem fa_X11_147 : FAx RX11 147 12 71 true true := ⟨RX11, TX11, 95, tyX11, "PostVotesModel", cf_12, by omega, rfl, rfl, gw_of ge_fieldLink gg_fl (List.mem_of_getElem? (i := 258) rfl), Or.inl rfl, fun _ => rfl⟩
theorem fg_X11_150 : FGx RX11 150 12 72 true := ⟨RX11, TX11, 95, tyX11, "PostVotesModel", cf_12, by omega, rfl, gw_of ge_fieldLink gg_fl (List.mem_of_getElem? (i := 259) rfl), Or.inl rfl⟩
theorem fa_X11_150 : FAx RX11 150 12 72 true true := ⟨RX11, TX11, 95, tyX11, "PostVotesModel", cf_12, by omega, rfl, rfl, gw_of ge_fieldLink gg_fl (List.mem_of_getElem? (i := 259) rfl), Or.inl rfl, fun _ => rfl⟩
theorem fg_X11_153 : FGx RX11 153 12 73 true := ⟨RX11, TX11, 95, tyX11, "PostVotesModel", cf_12, by omega, rfl, gw_of ge_fieldLink gg_fl (List.mem_of_getElem? (i := 260) rfl), Or.inl rfl⟩
theorem fa_X11_153 : FAx RX11 153 12 73 true true := ⟨RX11, TX11, 95, tyX11, "PostVotesModel", cf_12, by omega, rfl, rfl, gw_of ge_fieldLink gg_fl (List.mem_of_getElem? (i := 260) rfl), Or.inl rfl, fun _ => rfl⟩
theorem fg_X11_156 : FGx RX11 156 12 74 true := ⟨RX11, TX11, 95, tyX11, "PostVotesModel", cf_12, by omega, rfl, gw_of ge_fieldLink gg_fl (List.mem_of_getElem? (i := 261) rfl), Or.inl rfl⟩
theorem fa_X11_156 : FAx RX11 156 12 74 true true := ⟨RX11, TX11, 95, tyX11, "PostVotesModel", cf_12, by omega, rfl, rfl, gw_of ge_fieldLink gg_fl (List.mem_of_getElem? (i := 261) rfl), Or.inl rfl, fun _ => rfl⟩
theorem fg_X11_159 : FGx RX11 159 12 75 true := ⟨RX11, TX11, 95, tyX11, "PostVotesModel", cf_12, by omega, rfl, gw_of ge_fieldLink gg_fl (List.mem_of_getElem? (i := 262) rfl), Or.inl rfl⟩
theorem fa_X11_159 : FAx RX11 159 12 75 true true := ⟨RX11, TX11, 95, tyX11, "PostVotesModel", cf_12, by omega, rfl, rfl, gw_of ge_fieldLink gg_fl (List.mem_of_getElem? (i := 262) rfl), Or.inl rfl, fun _ => rfl⟩
theorem fg_X11_162 : FGx RX11 162 12 76 true := ⟨RX11, TX11, 95, tyX11, "PostVotesModel", cf_12, by omega, rfl, gw_of ge_fieldLink gg_fl (List.mem_of_getElem? (i := 263) rfl), Or.inl rfl⟩
theorem fa_X11_162 : FAx RX11 162 12 76 true true := ⟨RX11, TX11, 95, tyX11, "PostVotesModel", cf_12, by omega, rfl, rfl, gw_of ge_fieldLink gg_fl (List.mem_of_getElem? (i := 263) rfl), Or.inl rfl, fun _ => rfl⟩
theorem fg_X11_165 : FGx RX11 165 12 77 true := ⟨RX11, TX11, 95, tyX11, "PostVotesModel", cf_12, by omega, rfl, gw_of ge_fieldLink gg_fl (List.mem_of_getElem? (i := 264) rfl), Or.inl rfl⟩
theorem fa_X11_165 : FAx RX11 165 12 77 true true := ⟨RX11, TX11, 95, tyX11, "PostVotesModel", cf_12, by omega, rfl, rfl, gw_of ge_fieldLink gg_fl (List.mem_of_getElem? (i := 264) rfl), Or.inl rfl, fun _ => rfl⟩
theorem fg_X11_168 : FGx RX11 168 12 78 true := ⟨RX11, TX11, 95, tyX11, "PostVotesModel", cf_12, by omega, rfl, gw_of ge_fieldLink gg_fl (List.mem_of_getElem? (i := 265) rfl), Or.inl rfl⟩
theorem fa_X11_168 : FAx RX11 168 12 78 true true := ⟨RX11, TX11, 95, tyX11, "PostVotesModel", cf_12, by omega, rfl, rfl, gw_of ge_fieldLink gg_fl (List.mem_of_getElem? (i := 265) rfl), Or.inl rfl, fun _ => rfl⟩
theorem fg_X11_171 : FGx RX11 171 12 79 false := ⟨RX11, TX11, 95, tyX11, "PostVotesModel", cf_12, by omega, rfl, gw_of ge_fieldLink gg_fl (List.mem_of_getElem? (i := 266) rfl), Or.inl rfl⟩
theorem fa_X11_171 : FAx RX11 171 12 79 false false := ⟨RX11, TX11, 95, tyX11, "PostVotesModel", cf_12, by omega, rfl, rfl, gw_of ge_fieldLink gg_fl (List.mem_of_getElem? (i := 266) rfl), Or.inl rfl, (fun h => by cases h)⟩
theorem fg_X11_174 : FGx RX11 174 12 80 true := ⟨RX11, TX11, 95, tyX11, "PostVotesModel", cf_12, by omega, rfl, gw_of ge_fieldLink gg_fl (List.mem_of_getElem? (i := 267) rfl), Or.inl rfl⟩
theorem fa_X11_174 : FAx RX11 174 12 80 true true := ⟨RX11, TX11, 95, tyX11, "PostVotesModel", cf_12, by omega, rfl, rfl, gw_of ge_fieldLink gg_fl (List.mem_of_getElem? (i := 267) rfl), Or.inl rfl, fun _ => rfl⟩
theorem fg_X11_177 : FGx RX11 177 12 81 true := ⟨RX11, TX11, 95, tyX11, "PostVotesModel", cf_12, by omega, rfl, gw_of ge_fieldLink gg_fl (List.mem_of_getElem? (i := 268) rfl), Or.inl rfl⟩
theorem fa_X11_177 : FAx RX11 177 12 81 true true := ⟨RX11, TX11, 95, tyX11, "PostVotesModel", cf_12, by omega, rfl, rfl, gw_of ge_fieldLink gg_fl (List.mem_of_getElem? (i := 268) rfl), Or.inl rfl, fun _ => rfl⟩
theorem fg_X11_180 : FGx RX11 180 12 82 true := ⟨RX11, TX11, 95, tyX11, "PostVotesModel", cf_12, by omega, rfl, gw_of ge_fieldLink gg_fl (List.mem_of_getElem? (i := 269) rfl), Or.inl rfl⟩
theorem fa_X11_180 : FAx RX11 180 12 82 true true := ⟨RX11, TX11, 95, tyX11, "PostVotesModel", cf_12, by omega, rfl, rfl, gw_of ge_fieldLink gg_fl (List.mem_of_getElem? (i := 269) rfl), Or.inl rfl, fun _ => rfl⟩
theorem fg_X11_183 : FGx RX11 183 12 83 true := ⟨RX11, TX11, 95, tyX11, "PostVotesModel", cf_12, by omega, rfl, gw_of ge_fieldLink gg_fl (List.mem_of_getElem? (i := 270) rfl), Or.inl rfl⟩
theorem fa_X11_183 : FAx RX11 183 12 83 true true := ⟨RX11, TX11, 95, tyX11, "PostVotesModel", cf_12, by omega, rfl, rfl, gw_of ge_fieldLink gg_fl (List.mem_of_getElem? (i := 270) rfl), Or.inl rfl, fun _ => rfl⟩
theorem fg_X11_186 : FGx RX11 186 12 84 true := ⟨RX11, TX11, 95, tyX11, "PostVotesModel", cf_12, by omega, rfl, gw_of ge_fieldLink gg_fl (List.mem_of_getElem? (i := 271) rfl), Or.inl rfl⟩
theorem fa_X11_186 : FAx RX11 186 12 84 true true := ⟨RX11, TX11, 95, tyX11, "PostVotesModel", cf_12, by omega, rfl, rfl, gw_of ge_fieldLink gg_fl (List.mem_of_getElem? (i := 271) rfl), Or.inl rfl, fun _ => rfl⟩
theorem fg_X11_189 : FGx RX11 189 12 85 true := ⟨RX11, TX11, 95, tyX11, "PostVotesModel", cf_12, by omega, rfl, gw_of ge_fieldLink gg_fl (List.mem_of_getElem? (i := 272) rfl), Or.inl rfl⟩
theorem fa_X11_189 : FAx RX11 189 12 85 true true := ⟨RX11, TX11, 95, tyX11, "PostVotesModel", cf_12, by omega, rfl, rfl, gw_of ge_fieldLink gg_fl (List.mem_of_getElem? (i := 272) rfl), Or.inl rfl, fun _ => rfl⟩
theorem fg_X11_192 : FGx RX11 192 12 86 true := ⟨RX11, TX11, 95, tyX11, "PostVotesModel", cf_12, by omega, rfl, gw_of ge_fieldLink gg_fl (List.mem_of_getElem? (i := 273) rfl), Or.inl rfl⟩
theorem fa_X11_192 : FAx RX11 192 12 86 true true := ⟨RX11, TX11, 95, tyX11, "PostVotesModel", cf_12, by omega, rfl, rfl, gw_of ge_fieldLink gg_fl (List.mem_of_getElem? (i := 273) rfl), Or.inl rfl, fun _ => rfl⟩
theorem fg_X11_195 : FGx RX11 195 12 87 false := ⟨RX11, TX11, 95, tyX11, "PostVotesModel", cf_12, by omega, rfl, gw_of ge_fieldLink gg_fl (List.mem_of_getElem? (i := 274) rfl), Or.inl rfl⟩
theorem fa_X11_195 : FAx RX11 195 12 87 false false := ⟨RX11, TX11, 95, tyX11, "PostVotesModel", cf_12, by omega, rfl, rfl, gw_of ge_fieldLink gg_fl (List.mem_of_getElem? (i := 274) rfl), Or.inl rfl, (fun h => by cases h)⟩
theorem fg_X11_198 : FGx RX11 198 12 90 true := ⟨RX11, TX11, 95, tyX11, "PostVotesModel", cf_12, by omega, rfl, gw_of ge_fieldLink gg_fl (List.mem_of_getElem? (i := 277) rfl), Or.inl rfl⟩
theorem fa_X11_198 : FAx RX11 198 12 90 true true := ⟨RX11, TX11, 95, tyX11, "PostVotesModel", cf_12, by omega, rfl, rfl, gw_of ge_fieldLink gg_fl (List.mem_of_getElem? (i := 277) rfl), Or.inl rfl, fun _ => rfl⟩
theorem fg_X11_201 : FGx RX11 201 12 91 true := ⟨RX11, TX11, 95, tyX11, "PostVotesModel", cf_12, by omega, rfl, gw_of ge_fieldLink gg_fl (List.mem_of_getElem? (i := 278) rfl), Or.inl rfl⟩
theorem fa_X11_201 : FAx RX11 201 12 91 true true := ⟨RX11, TX11, 95, tyX11, "PostVotesModel", cf_12, by omega, rfl, rfl, gw_of ge_fieldLink gg_fl (List.mem_of_getElem? (i := 278) rfl), Or.inl rfl, fun _ => rfl⟩
theorem fg_X11_204 : FGx RX11 204 12 92 true := ⟨RX11, TX11, 95, tyX11, "PostVotesModel", cf_12, by omega, rfl, gw_of ge_fieldLink gg_fl (List.mem_of_getElem? (i := 279) rfl), Or.inl rfl⟩
theorem fa_X11_204 : FAx RX11 204 12 92 true true := ⟨RX11, TX11, 95, tyX11, "PostVotesModel", cf_12, by omega, rfl, rfl, gw_of ge_fieldLink gg_fl (List.mem_of_getElem? (i := 279) rfl), Or.inl rfl, fun _ => rfl⟩
theorem fg_X11_207 : FGx RX11 207 12 93 true := ⟨RX11, TX11, 95, tyX11, "PostVotesModel", cf_12, by omega, rfl, gw_of ge_fieldLink gg_fl (List.mem_of_getElem? (i := 280) rfl), Or.inl rfl⟩
theorem fa_X11_207 : FAx RX11 207 12 93 true true := ⟨RX11, TX11, 95, tyX11, "PostVotesModel", cf_12, by omega, rfl, rfl, gw_of ge_fieldLink gg_fl (List.mem_of_getElem? (i := 280) rfl), Or.inl rfl, fun _ => rfl⟩
theorem fg_X11_210 : FGx RX11 210 12 94 true := ⟨RX11, TX11, 95, tyX11, "PostVotesModel", cf_12, by omega, rfl, gw_of ge_fieldLink gg_fl (List.mem_of_getElem? (i := 281) rfl), Or.inl rfl⟩
theorem fa_X11_210 : FAx RX11 210 12 94 true true := ⟨RX11, TX11, 95, tyX11, "PostVotesModel", cf_12, by omega, rfl, rfl, gw_of ge_fieldLink gg_fl (List.mem_of_getElem? (i := 281) rfl), Or.inl rfl, fun _ => rfl⟩
theorem fg_X11_217 : FGx RX11 217 12 0 false := ⟨RX11, TX11, 95, tyX11, "PostVotesModel", cf_12, by omega, rfl, gw_of ge_fieldLink gg_fl (List.mem_of_getElem? (i := 187) rfl), Or.inl rfl⟩
theorem fa_X11_217 : FAx RX11 217 12 0 false false := ⟨RX11, TX11, 95, tyX11, "PostVotesModel", cf_12, by omega, rfl, rfl, gw_of ge_fieldLink gg_fl (List.mem_of_getElem? (i := 187) rfl), Or.inl rfl, (fun h => by cases h)⟩
theorem fg_X11_220 : FGx RX11 220 12 1 false := ⟨RX11, TX11, 95, tyX11, "PostVotesModel", cf_12, by omega, rfl, gw_of ge_fieldLink gg_fl (List.mem_of_getElem? (i := 188) rfl), Or.inl rfl⟩
theorem fa_X11_220 : FAx RX11 220 12 1 false false := ⟨RX11, TX11, 95, tyX11, "PostVotesModel", cf_12, by omega, rfl, rfl, gw_of ge_fieldLink gg_fl (List.mem_of_getElem? (i := 188) rfl), Or.inl rfl, (fun h => by cases h)⟩
theorem fg_X11_231 : FGx RX11 231 12 2 false := ⟨RX11, TX11, 95, tyX11, "PostVotesModel", cf_12, by omega, rfl, gw_of ge_fieldLink gg_fl (List.mem_of_getElem? (i := 189) rfl), Or.inl rfl⟩
theorem fa_X11_231 : FAx RX11 231 12 2 false false := ⟨RX11, TX11, 95, tyX11, "PostVotesModel", cf_12, by omega, rfl, rfl, gw_of ge_fieldLink gg_fl (List.mem_of_getElem? (i := 189) rfl), Or.inl rfl, (fun h => by cases h)⟩
theorem fg_X11_241 : FGx RX11 241 12 3 false := ⟨RX11, TX11, 95, tyX11, "PostVotesModel", cf_12, by omega, rfl, gw_of ge_fieldLink gg_fl (List.mem_of_getElem? (i := 190) rfl), Or.inl rfl⟩
theorem fa_X11_241 : FAx RX11 241 12 3 false false := ⟨RX11, TX11, 95, tyX11, "PostVotesModel", cf_12, by omega, rfl, rfl, gw_of ge_fieldLink gg_fl (List.mem_of_getElem? (i := 190) rfl), Or.inl rfl, (fun h => by cases h)⟩
theorem fg_X11_247 : FGx RX11 247 12 4 false := ⟨RX11, TX11, 95, tyX11, "PostVotesModel", cf_12, by omega, rfl, gw_of ge_fieldLink gg_fl (List.mem_of_getElem? (i := 191) rfl), Or.inl rfl⟩
theorem fa_X11_247 : FAx RX11 247 12 4 false false := ⟨RX11, TX11, 95, tyX11, "PostVotesModel", cf_12, by omega, rfl, rfl, gw_of ge_fieldLink gg_fl (List.mem_of_getElem? (i := 191) rfl), Or.inl rfl, (fun h => by cases h)⟩
theorem fg_X11_250 : FGx RX11 250 12 5 false := ⟨RX11, TX11, 95, tyX11, "PostVotesModel", cf_12, by omega, rfl, gw_of ge_fieldLink gg_fl (List.mem_of_getElem? (i := 192) rfl), Or.inl rfl⟩
theorem fa_X11_250 : FAx RX11 250 12 5 false false := ⟨RX11, TX11, 95, tyX11, "PostVotesModel", cf_12, by omega, rfl, rfl, gw_of ge_fieldLink gg_fl (List.mem_of_getElem? (i := 192) rfl), Or.inl rfl, (fun h => by cases h)⟩
theorem fg_X11_263 : FGx RX11 263 12 34 false := ⟨RX11, TX11, 95, tyX11, "PostVotesModel", cf_12, by omega, rfl, gw_of ge_fieldLink gg_fl (List.mem_of_getElem? (i := 221) rfl), Or.inl rfl⟩
theorem fa_X11_263 : FAx RX11 263 12 34 false false := ⟨RX11, TX11, 95, tyX11, "PostVotesModel", cf_12, by omega, rfl, rfl, gw_of ge_fieldLink gg_fl (List.mem_of_getElem? (i := 221) rfl), Or.inl rfl, (fun h => by cases h)⟩
theorem fg_X11_266 : FGx RX11 266 12 33 false := ⟨RX11, TX11, 95, tyX11, "PostVotesModel", cf_12, by omega, rfl, gw_of ge_fieldLink gg_fl (List.mem_of_getElem? (i := 220) rfl), Or.inl rfl⟩
theorem fa_X11_266 : FAx RX11 266 12 33 false false := ⟨RX11, TX11, 95, tyX11, "PostVotesModel", cf_12, by omega, rfl, rfl, gw_of ge_fieldLink gg_fl (List.mem_of_getElem? (i := 220) rfl), Or.inl rfl, (fun h => by cases h)⟩
theorem fg_X11_282 : FGx RX11 282 12 6 false := ⟨RX11, TX11, 95, tyX11, "PostVotesModel", cf_12, by omega, rfl, gw_of ge_fieldLink gg_fl (List.mem_of_getElem? (i := 193) rfl), Or.inl rfl⟩
theorem fa_X11_282 : FAx RX11 282 12 6 false false := ⟨RX11, TX11, 95, tyX11, "PostVotesModel", cf_12, by omega, rfl, rfl, gw_of ge_fieldLink gg_fl (List.mem_of_getElem? (i := 193) rfl), Or.inl rfl, (fun h => by cases h)⟩
theorem fg_X11_285 : FGx RX11 285 12 7 false := ⟨RX11, TX11, 95, tyX11, "PostVotesModel", cf_12, by omega, rfl, gw_of ge_fieldLink gg_fl (List.mem_of_getElem? (i := 194) rfl), Or.inl rfl⟩
theorem fa_X11_285 : FAx RX11 285 12 7 false false := ⟨RX11, TX11, 95, tyX11, "PostVotesModel", cf_12, by omega, rfl, rfl, gw_of ge_fieldLink gg_fl (List.mem_of_getElem? (i := 194) rfl), Or.inl rfl, (fun h => by cases h)⟩
theorem fg_X11_288 : FGx RX11 288 12 8 false := ⟨RX11, TX11, 95, tyX11, "PostVotesModel", cf_12, by omega, rfl, gw_of ge_fieldLink gg_fl (List.mem_of_getElem? (i := 195) rfl), Or.inl rfl⟩
theorem fa_X11_288 : FAx RX11 288 12 8 false false := ⟨RX11, TX11, 95, tyX11, "PostVotesModel", cf_12, by omega, rfl, rfl, gw_of ge_fieldLink gg_fl (List.mem_of_getElem? (i := 195) rfl), Or.inl rfl, (fun h => by cases h)⟩
theorem fg_X11_298 : FGx RX11 298 12 52 false := ⟨RX11, TX11, 95, tyX11, "PostVotesModel", cf_12, by omega, rfl, gw_of ge_fieldLink gg_fl (List.mem_of_getElem? (i := 239) rfl), Or.inl rfl⟩
theorem fa_X11_298 : FAx RX11 298 12 52 false false := ⟨RX11, TX11, 95, tyX11, "PostVotesModel", cf_12, by omega, rfl, rfl, gw_of ge_fieldLink gg_fl (List.mem_of_getElem? (i := 239) rfl), Or.inl rfl, (fun h => by cases h)⟩
theorem fg_X11_301 : FGx RX11 301 12 53 false := ⟨RX11, TX11, 95, tyX11, "PostVotesModel", cf_12, by omega, rfl, gw_of ge_fieldLink gg_fl (List.mem_of_getElem? (i := 240) rfl), Or.inl rfl⟩
theorem fa_X11_301 : FAx RX11 301 12 53 false false := ⟨RX11, TX11, 95, tyX11, "PostVotesModel", cf_12, by omega, rfl, rfl, gw_of ge_fieldLink gg_fl (List.mem_of_getElem? (i := 240) rfl), Or.inl rfl, (fun h => by cases h)⟩
theorem fg_X11_304 : FGx RX11 304 12 54 false := ⟨RX11, TX11, 95, tyX11, "PostVotesModel", cf_12, by omega, rfl, gw_of ge_fieldLink gg_fl (List.mem_of_getElem? (i := 241) rfl), Or.inl rfl⟩
theorem fa_X11_304 : FAx RX11 304 12 54 false false := ⟨RX11, TX11, 95, tyX11, "PostVotesModel", cf_12, by omega, rfl, rfl, gw_of ge_fieldLink gg_fl (List.mem_of_getElem? (i := 241) rfl), Or.inl rfl, (fun h => by cases h)⟩
theorem fg_X11_307 : FGx RX11 307 12 56 false := ⟨RX11, TX11, 95, tyX11, "PostVotesModel", cf_12, by omega, rfl, gw_of ge_fieldLink gg_fl (List.mem_of_getElem? (i := 243) rfl), Or.inl rfl⟩
theorem fa_X11_307 : FAx RX11 307 12 56 false false := ⟨RX11, TX11, 95, tyX11, "PostVotesModel", cf_12, by omega, rfl, rfl, gw_of ge_fieldLink gg_fl (List.mem_of_getElem? (i := 243) rfl), Or.inl rfl, (fun h => by cases h)⟩
theorem fg_X11_310 : FGx RX11 310 12 55 false := ⟨RX11, TX11, 95, tyX11, "PostVotesModel", cf_12, by omega, rfl, gw_of ge_fieldLink gg_fl (List.mem_of_getElem? (i := 242) rfl), Or.inl rfl⟩
theorem fa_X11_310 : FAx RX11 310 12 55 false false := ⟨RX11, TX11, 95, tyX11, "PostVotesModel", cf_12, by omega, rfl, rfl, gw_of ge_fieldLink gg_fl (List.mem_of_getElem? (i := 242) rfl), Or.inl rfl, (fun h => by cases h)⟩
theorem fg_X11_358 : FGx RX11 358 12 57 false := ⟨RX11, TX11, 95, tyX11, "PostVotesModel", cf_12, by omega, rfl, gw_of ge_fieldLink gg_fl (List.mem_of_getElem? (i := 244) rfl), Or.inl rfl⟩
theorem fa_X11_358 : FAx RX11 358 12 57 false false := ⟨RX11, TX11, 95, tyX11, "PostVotesModel", cf_12, by omega, rfl, rfl, gw_of ge_fieldLink gg_fl (List.mem_of_getElem? (i := 244) rfl), Or.inl rfl, (fun h => by cases h)⟩
theorem fg_X11_364 : FGx RX11 364 12 9 false := ⟨RX11, TX11, 95, tyX11, "PostVotesModel", cf_12, by omega, rfl, gw_of ge_fieldLink gg_fl (List.mem_of_getElem? (i := 196) rfl), Or.inl rfl⟩
theorem fa_X11_364 : FAx RX11 364 12 9 false false := ⟨RX11, TX11, 95, tyX11, "PostVotesModel", cf_12, by omega, rfl, rfl, gw_of ge_fieldLink gg_fl (List.mem_of_getElem? (i := 196) rfl), Or.inl rfl, (fun h => by cases h)⟩
theorem fg_X11_398 : FGx RX11 398 12 59 false := ⟨RX11, TX11, 95, tyX11, "PostVotesModel", cf_12, by omega, rfl, gw_of ge_fieldLink gg_fl (List.mem_of_getElem? (i := 246) rfl), Or.inl rfl⟩
theorem fa_X11_398 : FAx RX11 398 12 59 false false := ⟨RX11, TX11, 95, tyX11, "PostVotesModel", cf_12, by omega, rfl, rfl, gw_of ge_fieldLink gg_fl (List.mem_of_getElem? (i := 246) rfl), Or.inl rfl, (fun h => by cases h)⟩
theorem fg_X11_412 : FGx RX11 412 12 66 false := ⟨RX11, TX11, 95, tyX11, "PostVotesModel", cf_12, by omega, rfl, gw_of ge_fieldLink gg_fl (List.mem_of_getElem? (i := 253) rfl), Or.inl rfl⟩
theorem fa_X11_412 : FAx RX11 412 12 66 false false := ⟨RX11, TX11, 95, tyX11, "PostVotesModel", cf_12, by omega, rfl, rfl, gw_of ge_fieldLink gg_fl (List.mem_of_getElem? (i := 253) rfl), Or.inl rfl, (fun h => by cases h)⟩
theorem fg_X11_425 : FGx RX11 425 12 67 false := ⟨RX11, TX11, 95, tyX11, "PostVotesModel", cf_12, by omega, rfl, gw_of ge_fieldLink gg_fl (List.mem_of_getElem? (i := 254) rfl), Or.inl rfl⟩
theorem fa_X11_425 : FAx RX11 425 12 67 false false := ⟨RX11, TX11, 95, tyX11, "PostVotesModel", cf_12, by omega, rfl, rfl, gw_of ge_fieldLink gg_fl (List.mem_of_getElem? (i := 254) rfl), Or.inl rfl, (fun h => by cases h)⟩
theorem fg_X11_437 : FGx RX11 437 12 68 false := ⟨RX11, TX11, 95, tyX11, "PostVotesModel", cf_12, by omega, rfl, gw_of ge_fieldLink gg_fl (List.mem_of_getElem? (i := 255) rfl), Or.inl rfl⟩
theorem fa_X11_437 : FAx RX11 437 12 68 false false := ⟨RX11, TX11, 95, tyX11, "PostVotesModel", cf_12, by omega, rfl, rfl, gw_of ge_fieldLink gg_fl (List.mem_of_getElem? (i := 255) rfl), Or.inl rfl, (fun h => by cases h)⟩
theorem fg_X11_440 : FGx RX11 440 12 69 false := ⟨RX11, TX11, 95, tyX11, "PostVotesModel", cf_12, by omega, rfl, gw_of ge_fieldLink gg_fl (List.mem_of_getElem? (i := 256) rfl), Or.inl rfl⟩
theorem fa_X11_440 : FAx RX11 440 12 69 false false := ⟨RX11, TX11, 95, tyX11, "PostVotesModel", cf_12, by omega, rfl, rfl, gw_of ge_fieldLink gg_fl (List.mem_of_getElem? (i := 256) rfl), Or.inl rfl, (fun h => by cases h)⟩
theorem fg_X11_443 : FGx RX11 443 12 70 false := ⟨RX11, TX11, 95, tyX11, "PostVotesModel", cf_12, by omega, rfl, gw_of ge_fieldLink gg_fl (List.mem_of_getElem? (i := 257) rfl), Or.inl rfl⟩
theorem fa_X11_443 : FAx RX11 443 12 70 false false := ⟨RX11, TX11, 95, tyX11, "PostVotesModel", cf_12, by omega, rfl, rfl, gw_of ge_fieldLink gg_fl (List.mem_of_getElem? (i := 257) rfl), Or.inl rfl, (fun h => by cases h)⟩
theorem fg_X11_449 : FGx RX11 449 12 11 false := ⟨RX11, TX11, 95, tyX11, "PostVotesModel", cf_12, by omega, rfl, gw_of ge_fieldLink gg_fl (List.mem_of_getElem? (i := 198) rfl), Or.inl rfl⟩
theorem fa_X11_449 : FAx RX11 449 12 11 false false := ⟨RX11, TX11, 95, tyX11, "PostVotesModel", cf_12, by omega, rfl, rfl, gw_of ge_fieldLink gg_fl (List.mem_of_getElem? (i := 198) rfl), Or.inl rfl, (fun h => by cases h)⟩
theorem fg_X11_459 : FGx RX11 459 12 10 false := ⟨RX11, TX11, 95, tyX11, "PostVotesModel", cf_12, by omega, rfl, gw_of ge_fieldLink gg_fl (List.mem_of_getElem? (i := 197) rfl), Or.inl rfl⟩
theorem fa_X11_459 : FAx RX11 459 12 10 false false := ⟨RX11, TX11, 95, tyX11, "PostVotesModel", cf_12, by omega, rfl, rfl, gw_of ge_fieldLink gg_fl (List.mem_of_getElem? (i := 197) rfl), Or.inl rfl, (fun h => by cases h)⟩
theorem fg_X11_471 : FGx RX11 471 12 88 false := ⟨RX11, TX11, 95, tyX11, "PostVotesModel", cf_12, by omega, rfl, gw_of ge_fieldLink gg_fl (List.mem_of_getElem? (i := 275) rfl), Or.inl rfl⟩
theorem fa_X11_471 : FAx RX11 471 12 88 false false := ⟨RX11, TX11, 95, tyX11, "PostVotesModel", cf_12, by omega, rfl, rfl, gw_of ge_fieldLink gg_fl (List.mem_of_getElem? (i := 275) rfl), Or.inl rfl, (fun h => by cases h)⟩
theorem fg_X11_474 : FGx RX11 474 12 89 false := ⟨RX11, TX11, 95, tyX11, "PostVotesModel", cf_12, by omega, rfl, gw_of ge_fieldLink gg_fl (List.mem_of_getElem? (i := 276) rfl), Or.inl rfl⟩
theorem fa_X11_474 : FAx RX11 474 12 89 false false := ⟨RX11, TX11, 95, tyX11, "PostVotesModel", cf_12, by omega, rfl, rfl, gw_of ge_fieldLink gg_fl (List.mem_of_getElem? (i := 276) rfl), Or.inl rfl, (fun h => by cases h)⟩
theorem fg_Jxc12de_7 : FGx RJxc12de 7 0 0 false := ⟨RJx4a65c, TJx4a65c, 3, tyJx4a65c, "java/util/AbstractList", cf_0, by omega, rfl, gw_of ge_fieldLink gg_fl (List.mem_of_getElem? (i := 3) rfl), Or.inl rfl⟩
theorem fa_Jxc12de_7 : FAx RJxc12de 7 0 0 false false := ⟨RJx4a65c, TJx4a65c, 3, tyJx4a65c, "java/util/AbstractList", cf_0, by omega, rfl, rfl, gw_of ge_fieldLink gg_fl (List.mem_of_getElem? (i := 3) rfl), Or.inl rfl, (fun h => by cases h)⟩
theorem fg_Jx4a65c_9 : FGx RJx4a65c 9 0 1 true := ⟨RJx4a65c, TJx4a65c, 3, tyJx4a65c, "java/util/ArrayList", cf_0, by omega, rfl, gw_of ge_fieldLink gg_fl (List.mem_of_getElem? (i := 1) rfl), Or.inl rfl⟩
theorem fa_Jx4a65c_9 : FAx RJx4a65c 9 0 1 true false := ⟨RJx4a65c, TJx4a65c, 3, tyJx4a65c, "java/util/ArrayList", cf_0, by omega, rfl, rfl, gw_of ge_fieldLink gg_fl (List.mem_of_getElem? (i := 1) rfl), Or.inl rfl, (fun h => by cases h)⟩
theorem fg_Jx4a65c_48 : FGx RJx4a65c 48 0 2 false := ⟨RJx4a65c, TJx4a65c, 3, tyJx4a65c, "java/util/ArrayList", cf_0, by omega, rfl, gw_of ge_fieldLink gg_fl (List.mem_of_getElem? (i := 2) rfl), Or.inl rfl⟩
theorem fa_Jx4a65c_48 : FAx RJx4a65c 48 0 2 false false := ⟨RJx4a65c, TJx4a65c, 3, tyJx4a65c, "java/util/ArrayList", cf_0, by omega, rfl, rfl, gw_of ge_fieldLink gg_fl (List.mem_of_getElem? (i := 2) rfl), Or.inl rfl, (fun h => by cases h)⟩
theorem fg_Jx4a65c_63 : FGx RJx4a65c 63 0 0 false := ⟨RJx4a65c, TJx4a65c, 3, tyJx4a65c, "java/util/ArrayList", cf_0, by omega, rfl, gw_of ge_fieldLink gg_fl (List.mem_of_getElem? (i := 4) rfl), Or.inr (gw_of ge_sameField gg_sf (List.mem_of_getElem? (i := 0) rfl))⟩
theorem fa_Jx4a65c_63 : FAx RJx4a65c 63 0 0 false false := ⟨RJx4a65c, TJx4a65c, 3, tyJx4a65c, "java/util/ArrayList", cf_0, by omega, rfl, rfl, gw_of ge_fieldLink gg_fl (List.mem_of_getElem? (i := 4) rfl), Or.inr (gw_of ge_sameField gg_sf (List.mem_of_getElem? (i := 0) rfl)), (fun h => by cases h)⟩
theorem cl_X10_36 : CLs RX10 36 yX8_init cX8_init 1 none 0 := ⟨gw_of ge_code gg_code (List.mem_of_getElem? (i := 9) rfl), gw_of ge_initialized gg_initd (List.mem_of_getElem? (i := 9) rfl), gw_of ge_methodLink gg_ml (List.mem_of_getElem? (i := 11) rfl), by decide +kernel, by decide +kernel, by decide +kernel⟩
theorem cl_X10_43 : CLs RX10 43 yJx4a65c_init_da8c8 cJx4a65c_init_da8c8 1 none 0 := ⟨gw_of ge_code gg_code (List.mem_of_getElem? (i := 3) rfl), gw_of ge_initialized gg_initd (List.mem_of_getElem? (i := 5) rfl), gw_of ge_methodLink gg_ml (List.mem_of_getElem? (i := 14) rfl), by decide +kernel, by decide +kernel, by decide +kernel⟩
theorem cl_X10_58 : CLs RX10 58 yJ7_fill_53178 cJ7_fill_53178 4 none 2 := ⟨gw_of ge_code gg_code (List.mem_of_getElem? (i := 10) rfl), gw_of ge_initialized gg_initd (List.mem_of_getElem? (i := 10) rfl), gw_of ge_methodLink gg_ml (List.mem_of_getElem? (i := 15) rfl), by decide +kernel, by decide +kernel, by decide +kernel⟩
theorem cl_X10_64 : CLs RX10 64 yX10_isWithin cX10_isWithin 3 (some (.boolean)) 3 := ⟨gw_of ge_code gg_code (List.mem_of_getElem? (i := 12) rfl), gw_of ge_initialized gg_initd (List.mem_of_getElem? (i := 1) rfl), gw_of ge_methodLink gg_ml (List.mem_of_getElem? (i := 17) rfl), by decide +kernel, by decide +kernel, by decide +kernel⟩
theorem cl_X10_71 : CLs RX10 71 yX10_isShire cX10_isShire 1 (some (.boolean)) 1 := ⟨gw_of ge_code gg_code (List.mem_of_getElem? (i := 14) rfl), gw_of ge_initialized gg_initd (List.mem_of_getElem? (i := 1) rfl), gw_of ge_methodLink gg_ml (List.mem_of_getElem? (i := 19) rfl), by decide +kernel, by decide +kernel, by decide +kernel⟩
theorem cl_X10_75 : CLs RX10 75 yX10_isStreet cX10_isStreet 1 (some (.boolean)) 1 := ⟨gw_of ge_code gg_code (List.mem_of_getElem? (i := 15) rfl), gw_of ge_initialized gg_initd (List.mem_of_getElem? (i := 1) rfl), gw_of ge_methodLink gg_ml (List.mem_of_getElem? (i := 20) rfl), by decide +kernel, by decide +kernel, by decide +kernel⟩
theorem cl_X10_78 : CLs RX10 78 yX10_isSign cX10_isSign 1 (some (.boolean)) 1 := ⟨gw_of ge_code gg_code (List.mem_of_getElem? (i := 16) rfl), gw_of ge_initialized gg_initd (List.mem_of_getElem? (i := 1) rfl), gw_of ge_methodLink gg_ml (List.mem_of_getElem? (i := 21) rfl), by decide +kernel, by decide +kernel, by decide +kernel⟩
theorem cl_X10_84 : CLs RX10 84 yJx4a65c_size_8abf5 cJx4a65c_size_8abf5 1 (some (.int)) 0 := ⟨gw_of ge_code gg_code (List.mem_of_getElem? (i := 17) rfl), gw_of ge_initialized gg_initd (List.mem_of_getElem? (i := 5) rfl), gw_of ge_methodLink gg_ml (List.mem_of_getElem? (i := 22) rfl), by decide +kernel, by decide +kernel, by decide +kernel⟩
theorem cl_X10_89 : CLs RX10 89 yX9_init cX9_init 4 none 3 := ⟨gw_of ge_code gg_code (List.mem_of_getElem? (i := 18) rfl), gw_of ge_initialized gg_initd (List.mem_of_getElem? (i := 12) rfl), gw_of ge_methodLink gg_ml (List.mem_of_getElem? (i := 23) rfl), by decide +kernel, by decide +kernel, by decide +kernel⟩
theorem cl_X10_92 : CLs RX10 92 yJx4a65c_add_9ea2d cJx4a65c_add_9ea2d 2 (some (.boolean)) 1 := ⟨gw_of ge_code gg_code (List.mem_of_getElem? (i := 19) rfl), gw_of ge_initialized gg_initd (List.mem_of_getElem? (i := 5) rfl), gw_of ge_methodLink gg_ml (List.mem_of_getElem? (i := 26) rfl), by decide +kernel, by decide +kernel, by decide +kernel⟩
theorem cl_X10_96 : CLs RX10 96 yX4_voterAt cX4_voterAt 2 (some (.object "PostVotes$Voter")) 1 := ⟨gw_of ge_code gg_code (List.mem_of_getElem? (i := 30) rfl), gw_of ge_initialized gg_initd (List.mem_of_getElem? (i := 2) rfl), gw_of ge_methodLink gg_ml (List.mem_of_getElem? (i := 40) rfl), by decide +kernel, by decide +kernel, by decide +kernel⟩
theorem cl_X10_100 : CLs RX10 100 yX10_isUpToNow cX10_isUpToNow 2 (some (.boolean)) 1 := ⟨gw_of ge_code gg_code (List.mem_of_getElem? (i := 35) rfl), gw_of ge_initialized gg_initd (List.mem_of_getElem? (i := 1) rfl), gw_of ge_methodLink gg_ml (List.mem_of_getElem? (i := 46) rfl), by decide +kernel, by decide +kernel, by decide +kernel⟩
theorem cl_X10_111 : CLs RX10 111 yX7_init cX7_init 5 none 4 := ⟨gw_of ge_code gg_code (List.mem_of_getElem? (i := 36) rfl), gw_of ge_initialized gg_initd (List.mem_of_getElem? (i := 18) rfl), gw_of ge_methodLink gg_ml (List.mem_of_getElem? (i := 47) rfl), by decide +kernel, by decide +kernel, by decide +kernel⟩
theorem cl_X10_114 : CLs RX10 114 yX10_isDay cX10_isDay 1 (some (.boolean)) 1 := ⟨gw_of ge_code gg_code (List.mem_of_getElem? (i := 38) rfl), gw_of ge_initialized gg_initd (List.mem_of_getElem? (i := 1) rfl), gw_of ge_methodLink gg_ml (List.mem_of_getElem? (i := 50) rfl), by decide +kernel, by decide +kernel, by decide +kernel⟩
theorem cl_X10_117 : CLs RX10 117 yX9_shireOn cX9_shireOn 7 (some (.int)) 2 := ⟨gw_of ge_code gg_code (List.mem_of_getElem? (i := 39) rfl), gw_of ge_initialized gg_initd (List.mem_of_getElem? (i := 12) rfl), gw_of ge_methodLink gg_ml (List.mem_of_getElem? (i := 51) rfl), by decide +kernel, by decide +kernel, by decide +kernel⟩
theorem cl_X10_121 : CLs RX10 121 yX10_isChoice cX10_isChoice 1 (some (.boolean)) 1 := ⟨gw_of ge_code gg_code (List.mem_of_getElem? (i := 41) rfl), gw_of ge_initialized gg_initd (List.mem_of_getElem? (i := 1) rfl), gw_of ge_methodLink gg_ml (List.mem_of_getElem? (i := 55) rfl), by decide +kernel, by decide +kernel, by decide +kernel⟩
theorem cl_X10_129 : CLs RX10 129 yX0_init cX0_init 6 none 5 := ⟨gw_of ge_code gg_code (List.mem_of_getElem? (i := 42) rfl), gw_of ge_initialized gg_initd (List.mem_of_getElem? (i := 19) rfl), gw_of ge_methodLink gg_ml (List.mem_of_getElem? (i := 56) rfl), by decide +kernel, by decide +kernel, by decide +kernel⟩
theorem cl_X10_133 : CLs RX10 133 yX4_envelopeAt cX4_envelopeAt 2 (some (.object "PostVotes$Envelope")) 1 := ⟨gw_of ge_code gg_code (List.mem_of_getElem? (i := 44) rfl), gw_of ge_initialized gg_initd (List.mem_of_getElem? (i := 2) rfl), gw_of ge_methodLink gg_ml (List.mem_of_getElem? (i := 60) rfl), by decide +kernel, by decide +kernel, by decide +kernel⟩
theorem cl_X10_137 : CLs RX10 137 yX10_isBox cX10_isBox 1 (some (.boolean)) 1 := ⟨gw_of ge_code gg_code (List.mem_of_getElem? (i := 45) rfl), gw_of ge_initialized gg_initd (List.mem_of_getElem? (i := 1) rfl), gw_of ge_methodLink gg_ml (List.mem_of_getElem? (i := 61) rfl), by decide +kernel, by decide +kernel, by decide +kernel⟩
theorem cl_X10_147 : CLs RX10 147 yJx4a65c_get_915e3 cJx4a65c_get_915e3 2 (some (.object "java/lang/Object")) 1 := ⟨gw_of ge_code gg_code (List.mem_of_getElem? (i := 31) rfl), gw_of ge_initialized gg_initd (List.mem_of_getElem? (i := 5) rfl), gw_of ge_methodLink gg_ml (List.mem_of_getElem? (i := 64) rfl), by decide +kernel, by decide +kernel, by decide +kernel⟩
theorem cl_X10_157 : CLs RX10 157 yX4_manyBy cX4_manyBy 6 (some (.int)) 2 := ⟨gw_of ge_code gg_code (List.mem_of_getElem? (i := 48) rfl), gw_of ge_initialized gg_initd (List.mem_of_getElem? (i := 2) rfl), gw_of ge_methodLink gg_ml (List.mem_of_getElem? (i := 65) rfl), by decide +kernel, by decide +kernel, by decide +kernel⟩
theorem cl_X10_163 : CLs RX10 163 yX10_isHand cX10_isHand 1 (some (.boolean)) 1 := ⟨gw_of ge_code gg_code (List.mem_of_getElem? (i := 55) rfl), gw_of ge_initialized gg_initd (List.mem_of_getElem? (i := 1) rfl), gw_of ge_methodLink gg_ml (List.mem_of_getElem? (i := 76) rfl), by decide +kernel, by decide +kernel, by decide +kernel⟩
theorem cl_X10_172 : CLs RX10 172 yX10_signsIn cX10_signsIn 3 (some (.int)) 1 := ⟨gw_of ge_code gg_code (List.mem_of_getElem? (i := 58) rfl), gw_of ge_initialized gg_initd (List.mem_of_getElem? (i := 1) rfl), gw_of ge_methodLink gg_ml (List.mem_of_getElem? (i := 79) rfl), by decide +kernel, by decide +kernel, by decide +kernel⟩
theorem cl_X10_179 : CLs RX10 179 yX6_take4 cX6_take4 4 none 1 := ⟨gw_of ge_code gg_code (List.mem_of_getElem? (i := 59) rfl), gw_of ge_initialized gg_initd (List.mem_of_getElem? (i := 7) rfl), gw_of ge_methodLink gg_ml (List.mem_of_getElem? (i := 80) rfl), by decide +kernel, by decide +kernel, by decide +kernel⟩
theorem cl_X10_183 : CLs RX10 183 yX6_firstFault cX6_firstFault 3 (some (.int)) 0 := ⟨gw_of ge_code gg_code (List.mem_of_getElem? (i := 62) rfl), gw_of ge_initialized gg_initd (List.mem_of_getElem? (i := 7) rfl), gw_of ge_methodLink gg_ml (List.mem_of_getElem? (i := 83) rfl), by decide +kernel, by decide +kernel, by decide +kernel⟩
theorem cl_X10_197 : CLs RX10 197 yX3_init cX3_init 5 none 4 := ⟨gw_of ge_code gg_code (List.mem_of_getElem? (i := 98) rfl), gw_of ge_initialized gg_initd (List.mem_of_getElem? (i := 24) rfl), gw_of ge_methodLink gg_ml (List.mem_of_getElem? (i := 122) rfl), by decide +kernel, by decide +kernel, by decide +kernel⟩
theorem cl_X10_200 : CLs RX10 200 yX2_inForce cX2_inForce 8 (some (.int)) 3 := ⟨gw_of ge_code gg_code (List.mem_of_getElem? (i := 101) rfl), gw_of ge_initialized gg_initd (List.mem_of_getElem? (i := 6) rfl), gw_of ge_methodLink gg_ml (List.mem_of_getElem? (i := 127) rfl), by decide +kernel, by decide +kernel, by decide +kernel⟩
theorem cl_X10_204 : CLs RX10 204 yX10_judged cX10_judged 4 (some (.object "PostVotes$Envelope")) 2 := ⟨gw_of ge_code gg_code (List.mem_of_getElem? (i := 103) rfl), gw_of ge_initialized gg_initd (List.mem_of_getElem? (i := 1) rfl), gw_of ge_methodLink gg_ml (List.mem_of_getElem? (i := 131) rfl), by decide +kernel, by decide +kernel, by decide +kernel⟩
theorem cl_X10_208 : CLs RX10 208 yX10_isLetter cX10_isLetter 1 (some (.boolean)) 1 := ⟨gw_of ge_code gg_code (List.mem_of_getElem? (i := 72) rfl), gw_of ge_initialized gg_initd (List.mem_of_getElem? (i := 1) rfl), gw_of ge_methodLink gg_ml (List.mem_of_getElem? (i := 219) rfl), by decide +kernel, by decide +kernel, by decide +kernel⟩
theorem cl_X10_218 : CLs RX10 218 yX0_numberOf cX0_numberOf 3 (some (.int)) 2 := ⟨gw_of ge_code gg_code (List.mem_of_getElem? (i := 114) rfl), gw_of ge_initialized gg_initd (List.mem_of_getElem? (i := 19) rfl), gw_of ge_methodLink gg_ml (List.mem_of_getElem? (i := 227) rfl), by decide +kernel, by decide +kernel, by decide +kernel⟩
theorem cl_X10_230 : CLs RX10 230 yX4_judgeOf cX4_judgeOf 5 none 2 := ⟨gw_of ge_code gg_code (List.mem_of_getElem? (i := 104) rfl), gw_of ge_initialized gg_initd (List.mem_of_getElem? (i := 2) rfl), gw_of ge_methodLink gg_ml (List.mem_of_getElem? (i := 132) rfl), by decide +kernel, by decide +kernel, by decide +kernel⟩
theorem cl_X10_237 : CLs RX10 237 yX4_judgeAll cX4_judgeAll 3 none 1 := ⟨gw_of ge_code gg_code (List.mem_of_getElem? (i := 128) rfl), gw_of ge_initialized gg_initd (List.mem_of_getElem? (i := 2) rfl), gw_of ge_methodLink gg_ml (List.mem_of_getElem? (i := 160) rfl), by decide +kernel, by decide +kernel, by decide +kernel⟩
theorem cl_X10_243 : CLs RX10 243 yX0_shireOf cX0_shireOf 2 (some (.int)) 1 := ⟨gw_of ge_code gg_code (List.mem_of_getElem? (i := 111) rfl), gw_of ge_initialized gg_initd (List.mem_of_getElem? (i := 19) rfl), gw_of ge_methodLink gg_ml (List.mem_of_getElem? (i := 163) rfl), by decide +kernel, by decide +kernel, by decide +kernel⟩
theorem cl_X10_246 : CLs RX10 246 yX4_doublesOf cX4_doublesOf 8 (some (.int)) 4 := ⟨gw_of ge_code gg_code (List.mem_of_getElem? (i := 131) rfl), gw_of ge_initialized gg_initd (List.mem_of_getElem? (i := 2) rfl), gw_of ge_methodLink gg_ml (List.mem_of_getElem? (i := 165) rfl), by decide +kernel, by decide +kernel, by decide +kernel⟩
theorem cl_X10_250 : CLs RX10 250 yJx4a65c_isEmpty_aae02 cJx4a65c_isEmpty_aae02 1 (some (.boolean)) 0 := ⟨gw_of ge_code gg_code (List.mem_of_getElem? (i := 135) rfl), gw_of ge_initialized gg_initd (List.mem_of_getElem? (i := 5) rfl), gw_of ge_methodLink gg_ml (List.mem_of_getElem? (i := 169) rfl), by decide +kernel, by decide +kernel, by decide +kernel⟩
theorem cl_X10_254 : CLs RX10 254 yX10_layCounted cX10_layCounted 3 (some (.int)) 0 := ⟨gw_of ge_code gg_code (List.mem_of_getElem? (i := 137) rfl), gw_of ge_initialized gg_initd (List.mem_of_getElem? (i := 1) rfl), gw_of ge_methodLink gg_ml (List.mem_of_getElem? (i := 171) rfl), by decide +kernel, by decide +kernel, by decide +kernel⟩
theorem cl_X10_270 : CLs RX10 270 yX5_order cX5_order 4 (some (.int)) 3 := ⟨gw_of ge_code gg_code (List.mem_of_getElem? (i := 140) rfl), gw_of ge_initialized gg_initd (List.mem_of_getElem? (i := 8) rfl), gw_of ge_methodLink gg_ml (List.mem_of_getElem? (i := 175) rfl), by decide +kernel, by decide +kernel, by decide +kernel⟩
theorem cl_X10_276 : CLs RX10 276 yX5_plan cX5_plan 7 none 0 := ⟨gw_of ge_code gg_code (List.mem_of_getElem? (i := 143) rfl), gw_of ge_initialized gg_initd (List.mem_of_getElem? (i := 8) rfl), gw_of ge_methodLink gg_ml (List.mem_of_getElem? (i := 178) rfl), by decide +kernel, by decide +kernel, by decide +kernel⟩
theorem cl_X10_285 : CLs RX10 285 yJ9_max_7cf53 cJ9_max_7cf53 2 (some (.int)) 2 := ⟨gw_of ge_code gg_code (List.mem_of_getElem? (i := 24) rfl), gw_of ge_initialized gg_initd (List.mem_of_getElem? (i := 14) rfl), gw_of ge_methodLink gg_ml (List.mem_of_getElem? (i := 185) rfl), by decide +kernel, by decide +kernel, by decide +kernel⟩
theorem cl_X10_290 : CLs RX10 290 yX10_isMinute cX10_isMinute 1 (some (.boolean)) 1 := ⟨gw_of ge_code gg_code (List.mem_of_getElem? (i := 149) rfl), gw_of ge_initialized gg_initd (List.mem_of_getElem? (i := 1) rfl), gw_of ge_methodLink gg_ml (List.mem_of_getElem? (i := 187) rfl), by decide +kernel, by decide +kernel, by decide +kernel⟩
theorem cl_X10_293 : CLs RX10 293 yX8_setBox cX8_setBox 4 none 3 := ⟨gw_of ge_code gg_code (List.mem_of_getElem? (i := 150) rfl), gw_of ge_initialized gg_initd (List.mem_of_getElem? (i := 9) rfl), gw_of ge_methodLink gg_ml (List.mem_of_getElem? (i := 188) rfl), by decide +kernel, by decide +kernel, by decide +kernel⟩
theorem cl_X10_296 : CLs RX10 296 yX8_setRoad cX8_setRoad 4 none 3 := ⟨gw_of ge_code gg_code (List.mem_of_getElem? (i := 152) rfl), gw_of ge_initialized gg_initd (List.mem_of_getElem? (i := 9) rfl), gw_of ge_methodLink gg_ml (List.mem_of_getElem? (i := 190) rfl), by decide +kernel, by decide +kernel, by decide +kernel⟩
theorem cl_X10_299 : CLs RX10 299 yX8_setStop cX8_setStop 2 none 1 := ⟨gw_of ge_code gg_code (List.mem_of_getElem? (i := 154) rfl), gw_of ge_initialized gg_initd (List.mem_of_getElem? (i := 9) rfl), gw_of ge_methodLink gg_ml (List.mem_of_getElem? (i := 192) rfl), by decide +kernel, by decide +kernel, by decide +kernel⟩
theorem cl_X10_302 : CLs RX10 302 yX8_plan cX8_plan 2 none 1 := ⟨gw_of ge_code gg_code (List.mem_of_getElem? (i := 156) rfl), gw_of ge_initialized gg_initd (List.mem_of_getElem? (i := 9) rfl), gw_of ge_methodLink gg_ml (List.mem_of_getElem? (i := 194) rfl), by decide +kernel, by decide +kernel, by decide +kernel⟩
theorem cl_X10_307 : CLs RX10 307 yX8_boxAt cX8_boxAt 3 (some (.int)) 1 := ⟨gw_of ge_code gg_code (List.mem_of_getElem? (i := 160) rfl), gw_of ge_initialized gg_initd (List.mem_of_getElem? (i := 9) rfl), gw_of ge_methodLink gg_ml (List.mem_of_getElem? (i := 200) rfl), by decide +kernel, by decide +kernel, by decide +kernel⟩
theorem cl_X10_310 : CLs RX10 310 yX10_usualOf cX10_usualOf 7 (some (.int)) 2 := ⟨gw_of ge_code gg_code (List.mem_of_getElem? (i := 162) rfl), gw_of ge_initialized gg_initd (List.mem_of_getElem? (i := 1) rfl), gw_of ge_methodLink gg_ml (List.mem_of_getElem? (i := 203) rfl), by decide +kernel, by decide +kernel, by decide +kernel⟩
theorem cl_X10_323 : CLs RX10 323 yX10_fitsHeap cX10_fitsHeap 3 (some (.boolean)) 2 := ⟨gw_of ge_code gg_code (List.mem_of_getElem? (i := 166) rfl), gw_of ge_initialized gg_initd (List.mem_of_getElem? (i := 1) rfl), gw_of ge_methodLink gg_ml (List.mem_of_getElem? (i := 208) rfl), by decide +kernel, by decide +kernel, by decide +kernel⟩
theorem cl_X10_329 : CLs RX10 329 yX1_init cX1_init 3 none 2 := ⟨gw_of ge_code gg_code (List.mem_of_getElem? (i := 167) rfl), gw_of ge_initialized gg_initd (List.mem_of_getElem? (i := 29) rfl), gw_of ge_methodLink gg_ml (List.mem_of_getElem? (i := 209) rfl), by decide +kernel, by decide +kernel, by decide +kernel⟩
theorem cl_X10_332 : CLs RX10 332 yX1_lay cX1_lay 2 none 1 := ⟨gw_of ge_code gg_code (List.mem_of_getElem? (i := 168) rfl), gw_of ge_initialized gg_initd (List.mem_of_getElem? (i := 29) rfl), gw_of ge_methodLink gg_ml (List.mem_of_getElem? (i := 211) rfl), by decide +kernel, by decide +kernel, by decide +kernel⟩
theorem cl_X10_354 : CLs RX10 354 yX10_manyInHeaps cX10_manyInHeaps 3 (some (.int)) 0 := ⟨gw_of ge_code gg_code (List.mem_of_getElem? (i := 172) rfl), gw_of ge_initialized gg_initd (List.mem_of_getElem? (i := 1) rfl), gw_of ge_methodLink gg_ml (List.mem_of_getElem? (i := 215) rfl), by decide +kernel, by decide +kernel, by decide +kernel⟩
theorem cl_X10_357 : CLs RX10 357 yX10_manyWrong cX10_manyWrong 4 (some (.int)) 0 := ⟨gw_of ge_code gg_code (List.mem_of_getElem? (i := 173) rfl), gw_of ge_initialized gg_initd (List.mem_of_getElem? (i := 1) rfl), gw_of ge_methodLink gg_ml (List.mem_of_getElem? (i := 216) rfl), by decide +kernel, by decide +kernel, by decide +kernel⟩
theorem cl_X10_363 : CLs RX10 363 yJ0_indexOf_0f7a4 cJ0_indexOf_0f7a4 2 (some (.int)) 1 := ⟨gw_of ge_code gg_code (List.mem_of_getElem? (i := 73) rfl), gw_of ge_initialized gg_initd (List.mem_of_getElem? (i := 20) rfl), gw_of ge_methodLink gg_ml (List.mem_of_getElem? (i := 93) rfl), by decide +kernel, by decide +kernel, by decide +kernel⟩
theorem cl_X10_369 : CLs RX10 369 yX0_isCounted cX0_isCounted 1 (some (.boolean)) 0 := ⟨gw_of ge_code gg_code (List.mem_of_getElem? (i := 138) rfl), gw_of ge_initialized gg_initd (List.mem_of_getElem? (i := 19) rfl), gw_of ge_methodLink gg_ml (List.mem_of_getElem? (i := 172) rfl), by decide +kernel, by decide +kernel, by decide +kernel⟩
theorem cl_X10_372 : CLs RX10 372 yX4_settle cX4_settle 6 none 2 := ⟨gw_of ge_code gg_code (List.mem_of_getElem? (i := 49) rfl), gw_of ge_initialized gg_initd (List.mem_of_getElem? (i := 2) rfl), gw_of ge_methodLink gg_ml (List.mem_of_getElem? (i := 204) rfl), by decide +kernel, by decide +kernel, by decide +kernel⟩
theorem cl_X0_11 : CLs RX0 11 yJx4a65c_init_da8c8 cJx4a65c_init_da8c8 1 none 0 := ⟨gw_of ge_code gg_code (List.mem_of_getElem? (i := 3) rfl), gw_of ge_initialized gg_initd (List.mem_of_getElem? (i := 5) rfl), gw_of ge_methodLink gg_ml (List.mem_of_getElem? (i := 58) rfl), by decide +kernel, by decide +kernel, by decide +kernel⟩
theorem cl_X0_60 : CLs RX0 60 yJ7_fill_53178 cJ7_fill_53178 4 none 2 := ⟨gw_of ge_code gg_code (List.mem_of_getElem? (i := 10) rfl), gw_of ge_initialized gg_initd (List.mem_of_getElem? (i := 10) rfl), gw_of ge_methodLink gg_ml (List.mem_of_getElem? (i := 69) rfl), by decide +kernel, by decide +kernel, by decide +kernel⟩
theorem cl_X0_69 : CLs RX0 69 yX0_forget cX0_forget 1 none 0 := ⟨gw_of ge_code gg_code (List.mem_of_getElem? (i := 51) rfl), gw_of ge_initialized gg_initd (List.mem_of_getElem? (i := 19) rfl), gw_of ge_methodLink gg_ml (List.mem_of_getElem? (i := 68) rfl), by decide +kernel, by decide +kernel, by decide +kernel⟩
theorem cl_X0_72 : CLs RX0 72 yJx4a65c_size_8abf5 cJx4a65c_size_8abf5 1 (some (.int)) 0 := ⟨gw_of ge_code gg_code (List.mem_of_getElem? (i := 17) rfl), gw_of ge_initialized gg_initd (List.mem_of_getElem? (i := 5) rfl), gw_of ge_methodLink gg_ml (List.mem_of_getElem? (i := 70) rfl), by decide +kernel, by decide +kernel, by decide +kernel⟩
theorem cl_X0_76 : CLs RX0 76 yJx4a65c_get_915e3 cJx4a65c_get_915e3 2 (some (.object "java/lang/Object")) 1 := ⟨gw_of ge_code gg_code (List.mem_of_getElem? (i := 31) rfl), gw_of ge_initialized gg_initd (List.mem_of_getElem? (i := 5) rfl), gw_of ge_methodLink gg_ml (List.mem_of_getElem? (i := 71) rfl), by decide +kernel, by decide +kernel, by decide +kernel⟩
theorem cl_X0_101 : CLs RX0 101 yX9_shireOn cX9_shireOn 7 (some (.int)) 2 := ⟨gw_of ge_code gg_code (List.mem_of_getElem? (i := 39) rfl), gw_of ge_initialized gg_initd (List.mem_of_getElem? (i := 12) rfl), gw_of ge_methodLink gg_ml (List.mem_of_getElem? (i := 142) rfl), by decide +kernel, by decide +kernel, by decide +kernel⟩
theorem cl_X0_112 : CLs RX0 112 yX0_handsThatTold cX0_handsThatTold 4 (some (.int)) 1 := ⟨gw_of ge_code gg_code (List.mem_of_getElem? (i := 116) rfl), gw_of ge_initialized gg_initd (List.mem_of_getElem? (i := 19) rfl), gw_of ge_methodLink gg_ml (List.mem_of_getElem? (i := 148) rfl), by decide +kernel, by decide +kernel, by decide +kernel⟩
theorem cl_X0_119 : CLs RX0 119 yX0_unlikeFigures cX0_unlikeFigures 5 (some (.int)) 0 := ⟨gw_of ge_code gg_code (List.mem_of_getElem? (i := 115) rfl), gw_of ge_initialized gg_initd (List.mem_of_getElem? (i := 19) rfl), gw_of ge_methodLink gg_ml (List.mem_of_getElem? (i := 147) rfl), by decide +kernel, by decide +kernel, by decide +kernel⟩
theorem cl_X2_11 : CLs RX2 11 yJx4a65c_init_da8c8 cJx4a65c_init_da8c8 1 none 0 := ⟨gw_of ge_code gg_code (List.mem_of_getElem? (i := 3) rfl), gw_of ge_initialized gg_initd (List.mem_of_getElem? (i := 5) rfl), gw_of ge_methodLink gg_ml (List.mem_of_getElem? (i := 8) rfl), by decide +kernel, by decide +kernel, by decide +kernel⟩
theorem cl_X2_22 : CLs RX2 22 yJx4a65c_size_8abf5 cJx4a65c_size_8abf5 1 (some (.int)) 0 := ⟨gw_of ge_code gg_code (List.mem_of_getElem? (i := 17) rfl), gw_of ge_initialized gg_initd (List.mem_of_getElem? (i := 5) rfl), gw_of ge_methodLink gg_ml (List.mem_of_getElem? (i := 128) rfl), by decide +kernel, by decide +kernel, by decide +kernel⟩
theorem cl_X2_26 : CLs RX2 26 yJx4a65c_get_915e3 cJx4a65c_get_915e3 2 (some (.object "java/lang/Object")) 1 := ⟨gw_of ge_code gg_code (List.mem_of_getElem? (i := 31) rfl), gw_of ge_initialized gg_initd (List.mem_of_getElem? (i := 5) rfl), gw_of ge_methodLink gg_ml (List.mem_of_getElem? (i := 129) rfl), by decide +kernel, by decide +kernel, by decide +kernel⟩
theorem cl_X2_42 : CLs RX2 42 yX0_shireOf cX0_shireOf 2 (some (.int)) 1 := ⟨gw_of ge_code gg_code (List.mem_of_getElem? (i := 111) rfl), gw_of ge_initialized gg_initd (List.mem_of_getElem? (i := 19) rfl), gw_of ge_methodLink gg_ml (List.mem_of_getElem? (i := 141) rfl), by decide +kernel, by decide +kernel, by decide +kernel⟩
theorem cl_X2_51 : CLs RX2 51 yX2_inForce cX2_inForce 8 (some (.int)) 3 := ⟨gw_of ge_code gg_code (List.mem_of_getElem? (i := 101) rfl), gw_of ge_initialized gg_initd (List.mem_of_getElem? (i := 6) rfl), gw_of ge_methodLink gg_ml (List.mem_of_getElem? (i := 143) rfl), by decide +kernel, by decide +kernel, by decide +kernel⟩
theorem cl_X2_65 : CLs RX2 65 yX2_valueOf cX2_valueOf 8 (some (.int)) 4 := ⟨gw_of ge_code gg_code (List.mem_of_getElem? (i := 112) rfl), gw_of ge_initialized gg_initd (List.mem_of_getElem? (i := 6) rfl), gw_of ge_methodLink gg_ml (List.mem_of_getElem? (i := 144) rfl), by decide +kernel, by decide +kernel, by decide +kernel⟩
theorem cl_X2_75 : CLs RX2 75 yX2_pass cX2_pass 5 none 4 := ⟨gw_of ge_code gg_code (List.mem_of_getElem? (i := 122) rfl), gw_of ge_initialized gg_initd (List.mem_of_getElem? (i := 6) rfl), gw_of ge_methodLink gg_ml (List.mem_of_getElem? (i := 154) rfl), by decide +kernel, by decide +kernel, by decide +kernel⟩
theorem cl_X2_82 : CLs RX2 82 yX2_awaitCure cX2_awaitCure 5 none 3 := ⟨gw_of ge_code gg_code (List.mem_of_getElem? (i := 123) rfl), gw_of ge_initialized gg_initd (List.mem_of_getElem? (i := 6) rfl), gw_of ge_methodLink gg_ml (List.mem_of_getElem? (i := 155) rfl), by decide +kernel, by decide +kernel, by decide +kernel⟩
theorem cl_X2_98 : CLs RX2 98 yX2_push cX2_push 2 none 1 := ⟨gw_of ge_code gg_code (List.mem_of_getElem? (i := 113) rfl), gw_of ge_initialized gg_initd (List.mem_of_getElem? (i := 6) rfl), gw_of ge_methodLink gg_ml (List.mem_of_getElem? (i := 145) rfl), by decide +kernel, by decide +kernel, by decide +kernel⟩
theorem cl_X2_106 : CLs RX2 106 yX0_numberOf cX0_numberOf 3 (some (.int)) 2 := ⟨gw_of ge_code gg_code (List.mem_of_getElem? (i := 114) rfl), gw_of ge_initialized gg_initd (List.mem_of_getElem? (i := 19) rfl), gw_of ge_methodLink gg_ml (List.mem_of_getElem? (i := 146) rfl), by decide +kernel, by decide +kernel, by decide +kernel⟩
theorem cl_X2_110 : CLs RX2 110 yX2_pop cX2_pop 1 (some (.int)) 0 := ⟨gw_of ge_code gg_code (List.mem_of_getElem? (i := 117) rfl), gw_of ge_initialized gg_initd (List.mem_of_getElem? (i := 6) rfl), gw_of ge_methodLink gg_ml (List.mem_of_getElem? (i := 149) rfl), by decide +kernel, by decide +kernel, by decide +kernel⟩
theorem cl_X2_115 : CLs RX2 115 yX2_joined cX2_joined 3 (some (.int)) 3 := ⟨gw_of ge_code gg_code (List.mem_of_getElem? (i := 118) rfl), gw_of ge_initialized gg_initd (List.mem_of_getElem? (i := 6) rfl), gw_of ge_methodLink gg_ml (List.mem_of_getElem? (i := 150) rfl), by decide +kernel, by decide +kernel, by decide +kernel⟩
theorem cl_X2_118 : CLs RX2 118 yX2_bounded cX2_bounded 2 (some (.int)) 1 := ⟨gw_of ge_code gg_code (List.mem_of_getElem? (i := 119) rfl), gw_of ge_initialized gg_initd (List.mem_of_getElem? (i := 6) rfl), gw_of ge_methodLink gg_ml (List.mem_of_getElem? (i := 151) rfl), by decide +kernel, by decide +kernel, by decide +kernel⟩
theorem cl_X2_126 : CLs RX2 126 yJ9_min_f86c9 cJ9_min_f86c9 4 (some (.long)) 2 := ⟨gw_of ge_code gg_code (List.mem_of_getElem? (i := 120) rfl), gw_of ge_initialized gg_initd (List.mem_of_getElem? (i := 14) rfl), gw_of ge_methodLink gg_ml (List.mem_of_getElem? (i := 152) rfl), by decide +kernel, by decide +kernel, by decide +kernel⟩
theorem cl_X2_132 : CLs RX2 132 yJ9_max_f86c9 cJ9_max_f86c9 4 (some (.long)) 2 := ⟨gw_of ge_code gg_code (List.mem_of_getElem? (i := 121) rfl), gw_of ge_initialized gg_initd (List.mem_of_getElem? (i := 14) rfl), gw_of ge_methodLink gg_ml (List.mem_of_getElem? (i := 153) rfl), by decide +kernel, by decide +kernel, by decide +kernel⟩
theorem cl_X3_32 : CLs RX3 32 yJ7_copyOf_59c91 cJ7_copyOf_59c91 3 (some (.array .int)) 2 := ⟨gw_of ge_code gg_code (List.mem_of_getElem? (i := 99) rfl), gw_of ge_initialized gg_initd (List.mem_of_getElem? (i := 10) rfl), gw_of ge_methodLink gg_ml (List.mem_of_getElem? (i := 124) rfl), by decide +kernel, by decide +kernel, by decide +kernel⟩
theorem cl_X4_11 : CLs RX4 11 yJx4a65c_init_da8c8 cJx4a65c_init_da8c8 1 none 0 := ⟨gw_of ge_code gg_code (List.mem_of_getElem? (i := 3) rfl), gw_of ge_initialized gg_initd (List.mem_of_getElem? (i := 5) rfl), gw_of ge_methodLink gg_ml (List.mem_of_getElem? (i := 3) rfl), by decide +kernel, by decide +kernel, by decide +kernel⟩
theorem cl_X4_34 : CLs RX4 34 yJx4a65c_size_8abf5 cJx4a65c_size_8abf5 1 (some (.int)) 0 := ⟨gw_of ge_code gg_code (List.mem_of_getElem? (i := 17) rfl), gw_of ge_initialized gg_initd (List.mem_of_getElem? (i := 5) rfl), gw_of ge_methodLink gg_ml (List.mem_of_getElem? (i := 41) rfl), by decide +kernel, by decide +kernel, by decide +kernel⟩
theorem cl_X4_42 : CLs RX4 42 yJx4a65c_get_915e3 cJx4a65c_get_915e3 2 (some (.object "java/lang/Object")) 1 := ⟨gw_of ge_code gg_code (List.mem_of_getElem? (i := 31) rfl), gw_of ge_initialized gg_initd (List.mem_of_getElem? (i := 5) rfl), gw_of ge_methodLink gg_ml (List.mem_of_getElem? (i := 42) rfl), by decide +kernel, by decide +kernel, by decide +kernel⟩
theorem cl_X4_50 : CLs RX4 50 yX0_learn cX0_learn 4 none 1 := ⟨gw_of ge_code gg_code (List.mem_of_getElem? (i := 50) rfl), gw_of ge_initialized gg_initd (List.mem_of_getElem? (i := 19) rfl), gw_of ge_methodLink gg_ml (List.mem_of_getElem? (i := 67) rfl), by decide +kernel, by decide +kernel, by decide +kernel⟩
theorem cl_X4_65 : CLs RX4 65 yX4_firstEmptying cX4_firstEmptying 8 (some (.int)) 3 := ⟨gw_of ge_code gg_code (List.mem_of_getElem? (i := 52) rfl), gw_of ge_initialized gg_initd (List.mem_of_getElem? (i := 2) rfl), gw_of ge_methodLink gg_ml (List.mem_of_getElem? (i := 72) rfl), by decide +kernel, by decide +kernel, by decide +kernel⟩
theorem cl_X4_77 : CLs RX4 77 yJ9_max_7cf53 cJ9_max_7cf53 2 (some (.int)) 2 := ⟨gw_of ge_code gg_code (List.mem_of_getElem? (i := 24) rfl), gw_of ge_initialized gg_initd (List.mem_of_getElem? (i := 14) rfl), gw_of ge_methodLink gg_ml (List.mem_of_getElem? (i := 73) rfl), by decide +kernel, by decide +kernel, by decide +kernel⟩
theorem cl_X4_90 : CLs RX4 90 yX4_settle cX4_settle 6 none 2 := ⟨gw_of ge_code gg_code (List.mem_of_getElem? (i := 49) rfl), gw_of ge_initialized gg_initd (List.mem_of_getElem? (i := 2) rfl), gw_of ge_methodLink gg_ml (List.mem_of_getElem? (i := 66) rfl), by decide +kernel, by decide +kernel, by decide +kernel⟩
theorem cl_X4_94 : CLs RX4 94 yX4_judgeOf cX4_judgeOf 5 none 2 := ⟨gw_of ge_code gg_code (List.mem_of_getElem? (i := 104) rfl), gw_of ge_initialized gg_initd (List.mem_of_getElem? (i := 2) rfl), gw_of ge_methodLink gg_ml (List.mem_of_getElem? (i := 161) rfl), by decide +kernel, by decide +kernel, by decide +kernel⟩
theorem cl_X4_98 : CLs RX4 98 yX9_learn cX9_learn 4 none 1 := ⟨gw_of ge_code gg_code (List.mem_of_getElem? (i := 105) rfl), gw_of ge_initialized gg_initd (List.mem_of_getElem? (i := 12) rfl), gw_of ge_methodLink gg_ml (List.mem_of_getElem? (i := 133) rfl), by decide +kernel, by decide +kernel, by decide +kernel⟩
theorem cl_X4_99 : CLs RX4 99 yJx4a65c_clear_da8c8 cJx4a65c_clear_da8c8 4 none 0 := ⟨gw_of ge_code gg_code (List.mem_of_getElem? (i := 106) rfl), gw_of ge_initialized gg_initd (List.mem_of_getElem? (i := 5) rfl), gw_of ge_methodLink gg_ml (List.mem_of_getElem? (i := 134) rfl), by decide +kernel, by decide +kernel, by decide +kernel⟩
theorem cl_X4_103 : CLs RX4 103 yX0_forget cX0_forget 1 none 0 := ⟨gw_of ge_code gg_code (List.mem_of_getElem? (i := 51) rfl), gw_of ge_initialized gg_initd (List.mem_of_getElem? (i := 19) rfl), gw_of ge_methodLink gg_ml (List.mem_of_getElem? (i := 135) rfl), by decide +kernel, by decide +kernel, by decide +kernel⟩
theorem cl_X4_109 : CLs RX4 109 yX4_putInOrder cX4_putInOrder 3 none 1 := ⟨gw_of ge_code gg_code (List.mem_of_getElem? (i := 107) rfl), gw_of ge_initialized gg_initd (List.mem_of_getElem? (i := 2) rfl), gw_of ge_methodLink gg_ml (List.mem_of_getElem? (i := 136) rfl), by decide +kernel, by decide +kernel, by decide +kernel⟩
theorem cl_X4_119 : CLs RX4 119 yX2_decide cX2_decide 6 none 2 := ⟨gw_of ge_code gg_code (List.mem_of_getElem? (i := 110) rfl), gw_of ge_initialized gg_initd (List.mem_of_getElem? (i := 6) rfl), gw_of ge_methodLink gg_ml (List.mem_of_getElem? (i := 140) rfl), by decide +kernel, by decide +kernel, by decide +kernel⟩
theorem cl_X4_131 : CLs RX4 131 yJx4a65c_add_7a177 cJx4a65c_add_7a177 5 none 2 := ⟨gw_of ge_code gg_code (List.mem_of_getElem? (i := 108) rfl), gw_of ge_initialized gg_initd (List.mem_of_getElem? (i := 5) rfl), gw_of ge_methodLink gg_ml (List.mem_of_getElem? (i := 137) rfl), by decide +kernel, by decide +kernel, by decide +kernel⟩
theorem cl_X4_142 : CLs RX4 142 yX0_doublesOf cX0_doublesOf 5 (some (.int)) 2 := ⟨gw_of ge_code gg_code (List.mem_of_getElem? (i := 132) rfl), gw_of ge_initialized gg_initd (List.mem_of_getElem? (i := 19) rfl), gw_of ge_methodLink gg_ml (List.mem_of_getElem? (i := 166) rfl), by decide +kernel, by decide +kernel, by decide +kernel⟩
theorem cl_X5_40 : CLs RX5 40 yX5_mostUrgent cX5_mostUrgent 5 (some (.int)) 1 := ⟨gw_of ge_code gg_code (List.mem_of_getElem? (i := 144) rfl), gw_of ge_initialized gg_initd (List.mem_of_getElem? (i := 8) rfl), gw_of ge_methodLink gg_ml (List.mem_of_getElem? (i := 180) rfl), by decide +kernel, by decide +kernel, by decide +kernel⟩
theorem cl_X5_44 : CLs RX5 44 yX5_nextReady cX5_nextReady 5 (some (.int)) 1 := ⟨gw_of ge_code gg_code (List.mem_of_getElem? (i := 145) rfl), gw_of ge_initialized gg_initd (List.mem_of_getElem? (i := 8) rfl), gw_of ge_methodLink gg_ml (List.mem_of_getElem? (i := 181) rfl), by decide +kernel, by decide +kernel, by decide +kernel⟩
theorem cl_X5_47 : CLs RX5 47 yX5_wholeDays cX5_wholeDays 5 (some (.int)) 3 := ⟨gw_of ge_code gg_code (List.mem_of_getElem? (i := 146) rfl), gw_of ge_initialized gg_initd (List.mem_of_getElem? (i := 8) rfl), gw_of ge_methodLink gg_ml (List.mem_of_getElem? (i := 182) rfl), by decide +kernel, by decide +kernel, by decide +kernel⟩
theorem cl_X5_51 : CLs RX5 51 yJ9_min_7cf53 cJ9_min_7cf53 2 (some (.int)) 2 := ⟨gw_of ge_code gg_code (List.mem_of_getElem? (i := 28) rfl), gw_of ge_initialized gg_initd (List.mem_of_getElem? (i := 14) rfl), gw_of ge_methodLink gg_ml (List.mem_of_getElem? (i := 183) rfl), by decide +kernel, by decide +kernel, by decide +kernel⟩
theorem cl_X6_37 : CLs RX6 37 yX6_readRule cX6_readRule 1 (some (.boolean)) 0 := ⟨gw_of ge_code gg_code (List.mem_of_getElem? (i := 63) rfl), gw_of ge_initialized gg_initd (List.mem_of_getElem? (i := 7) rfl), gw_of ge_methodLink gg_ml (List.mem_of_getElem? (i := 84) rfl), by decide +kernel, by decide +kernel, by decide +kernel⟩
theorem cl_X6_41 : CLs RX6 41 yX6_takes cX6_takes 3 (some (.boolean)) 1 := ⟨gw_of ge_code gg_code (List.mem_of_getElem? (i := 95) rfl), gw_of ge_initialized gg_initd (List.mem_of_getElem? (i := 7) rfl), gw_of ge_methodLink gg_ml (List.mem_of_getElem? (i := 119) rfl), by decide +kernel, by decide +kernel, by decide +kernel⟩
theorem cl_X6_45 : CLs RX6 45 yX6_nextSign cX6_nextSign 1 (some (.int)) 0 := ⟨gw_of ge_code gg_code (List.mem_of_getElem? (i := 67) rfl), gw_of ge_initialized gg_initd (List.mem_of_getElem? (i := 7) rfl), gw_of ge_methodLink gg_ml (List.mem_of_getElem? (i := 88) rfl), by decide +kernel, by decide +kernel, by decide +kernel⟩
theorem cl_X6_49 : CLs RX6 49 yX6_readCondition cX6_readCondition 4 (some (.boolean)) 1 := ⟨gw_of ge_code gg_code (List.mem_of_getElem? (i := 64) rfl), gw_of ge_initialized gg_initd (List.mem_of_getElem? (i := 7) rfl), gw_of ge_methodLink gg_ml (List.mem_of_getElem? (i := 85) rfl), by decide +kernel, by decide +kernel, by decide +kernel⟩
theorem cl_X6_52 : CLs RX6 52 yX6_readVerdict cX6_readVerdict 2 (some (.boolean)) 0 := ⟨gw_of ge_code gg_code (List.mem_of_getElem? (i := 96) rfl), gw_of ge_initialized gg_initd (List.mem_of_getElem? (i := 7) rfl), gw_of ge_methodLink gg_ml (List.mem_of_getElem? (i := 120) rfl), by decide +kernel, by decide +kernel, by decide +kernel⟩
theorem cl_X6_55 : CLs RX6 55 yX6_readNumber cX6_readNumber 3 (some (.boolean)) 0 := ⟨gw_of ge_code gg_code (List.mem_of_getElem? (i := 94) rfl), gw_of ge_initialized gg_initd (List.mem_of_getElem? (i := 7) rfl), gw_of ge_methodLink gg_ml (List.mem_of_getElem? (i := 118) rfl), by decide +kernel, by decide +kernel, by decide +kernel⟩
theorem cl_X6_58 : CLs RX6 58 yX6_readSum cX6_readSum 5 (some (.boolean)) 1 := ⟨gw_of ge_code gg_code (List.mem_of_getElem? (i := 69) rfl), gw_of ge_initialized gg_initd (List.mem_of_getElem? (i := 7) rfl), gw_of ge_methodLink gg_ml (List.mem_of_getElem? (i := 90) rfl), by decide +kernel, by decide +kernel, by decide +kernel⟩
theorem cl_X6_61 : CLs RX6 61 yX6_readPart cX6_readPart 4 (some (.boolean)) 1 := ⟨gw_of ge_code gg_code (List.mem_of_getElem? (i := 65) rfl), gw_of ge_initialized gg_initd (List.mem_of_getElem? (i := 7) rfl), gw_of ge_methodLink gg_ml (List.mem_of_getElem? (i := 86) rfl), by decide +kernel, by decide +kernel, by decide +kernel⟩
theorem cl_X6_64 : CLs RX6 64 yX6_write cX6_write 2 none 1 := ⟨gw_of ge_code gg_code (List.mem_of_getElem? (i := 93) rfl), gw_of ge_initialized gg_initd (List.mem_of_getElem? (i := 7) rfl), gw_of ge_methodLink gg_ml (List.mem_of_getElem? (i := 117) rfl), by decide +kernel, by decide +kernel, by decide +kernel⟩
theorem cl_X6_68 : CLs RX6 68 yX6_readUnit cX6_readUnit 4 (some (.boolean)) 1 := ⟨gw_of ge_code gg_code (List.mem_of_getElem? (i := 66) rfl), gw_of ge_initialized gg_initd (List.mem_of_getElem? (i := 7) rfl), gw_of ge_methodLink gg_ml (List.mem_of_getElem? (i := 87) rfl), by decide +kernel, by decide +kernel, by decide +kernel⟩
theorem cl_X6_71 : CLs RX6 71 yX6_readComparison cX6_readComparison 4 (some (.boolean)) 1 := ⟨gw_of ge_code gg_code (List.mem_of_getElem? (i := 68) rfl), gw_of ge_initialized gg_initd (List.mem_of_getElem? (i := 7) rfl), gw_of ge_methodLink gg_ml (List.mem_of_getElem? (i := 89) rfl), by decide +kernel, by decide +kernel, by decide +kernel⟩
theorem cl_X6_74 : CLs RX6 74 yX6_readTerm cX6_readTerm 4 (some (.boolean)) 1 := ⟨gw_of ge_code gg_code (List.mem_of_getElem? (i := 70) rfl), gw_of ge_initialized gg_initd (List.mem_of_getElem? (i := 7) rfl), gw_of ge_methodLink gg_ml (List.mem_of_getElem? (i := 91) rfl), by decide +kernel, by decide +kernel, by decide +kernel⟩
theorem cl_X6_77 : CLs RX6 77 yX6_readAtom cX6_readAtom 4 (some (.boolean)) 1 := ⟨gw_of ge_code gg_code (List.mem_of_getElem? (i := 71) rfl), gw_of ge_initialized gg_initd (List.mem_of_getElem? (i := 7) rfl), gw_of ge_methodLink gg_ml (List.mem_of_getElem? (i := 92) rfl), by decide +kernel, by decide +kernel, by decide +kernel⟩
theorem cl_X8_40 : CLs RX8 40 yJ7_fill_53178 cJ7_fill_53178 4 none 2 := ⟨gw_of ge_code gg_code (List.mem_of_getElem? (i := 10) rfl), gw_of ge_initialized gg_initd (List.mem_of_getElem? (i := 10) rfl), gw_of ge_methodLink gg_ml (List.mem_of_getElem? (i := 13) rfl), by decide +kernel, by decide +kernel, by decide +kernel⟩
theorem cl_X8_61 : CLs RX8 61 yX8_goOn cX8_goOn 9 none 5 := ⟨gw_of ge_code gg_code (List.mem_of_getElem? (i := 157) rfl), gw_of ge_initialized gg_initd (List.mem_of_getElem? (i := 9) rfl), gw_of ge_methodLink gg_ml (List.mem_of_getElem? (i := 195) rfl), by decide +kernel, by decide +kernel, by decide +kernel⟩
theorem cl_X8_65 : CLs RX8 65 yX8_comeHome cX8_comeHome 2 none 1 := ⟨gw_of ge_code gg_code (List.mem_of_getElem? (i := 158) rfl), gw_of ge_initialized gg_initd (List.mem_of_getElem? (i := 9) rfl), gw_of ge_methodLink gg_ml (List.mem_of_getElem? (i := 196) rfl), by decide +kernel, by decide +kernel, by decide +kernel⟩
theorem cl_X8_69 : CLs RX8 69 yJ9_max_7cf53 cJ9_max_7cf53 2 (some (.int)) 2 := ⟨gw_of ge_code gg_code (List.mem_of_getElem? (i := 24) rfl), gw_of ge_initialized gg_initd (List.mem_of_getElem? (i := 14) rfl), gw_of ge_methodLink gg_ml (List.mem_of_getElem? (i := 198) rfl), by decide +kernel, by decide +kernel, by decide +kernel⟩
theorem cl_X8_75 : CLs RX8 75 yJ9_min_7cf53 cJ9_min_7cf53 2 (some (.int)) 2 := ⟨gw_of ge_code gg_code (List.mem_of_getElem? (i := 28) rfl), gw_of ge_initialized gg_initd (List.mem_of_getElem? (i := 14) rfl), gw_of ge_methodLink gg_ml (List.mem_of_getElem? (i := 201) rfl), by decide +kernel, by decide +kernel, by decide +kernel⟩
theorem cl_X9_11 : CLs RX9 11 yJx4a65c_init_da8c8 cJx4a65c_init_da8c8 1 none 0 := ⟨gw_of ge_code gg_code (List.mem_of_getElem? (i := 3) rfl), gw_of ge_initialized gg_initd (List.mem_of_getElem? (i := 5) rfl), gw_of ge_methodLink gg_ml (List.mem_of_getElem? (i := 25) rfl), by decide +kernel, by decide +kernel, by decide +kernel⟩
theorem cl_X9_37 : CLs RX9 37 yJx4a65c_size_8abf5 cJx4a65c_size_8abf5 1 (some (.int)) 0 := ⟨gw_of ge_code gg_code (List.mem_of_getElem? (i := 17) rfl), gw_of ge_initialized gg_initd (List.mem_of_getElem? (i := 5) rfl), gw_of ge_methodLink gg_ml (List.mem_of_getElem? (i := 52) rfl), by decide +kernel, by decide +kernel, by decide +kernel⟩
theorem cl_X9_41 : CLs RX9 41 yJx4a65c_get_915e3 cJx4a65c_get_915e3 2 (some (.object "java/lang/Object")) 1 := ⟨gw_of ge_code gg_code (List.mem_of_getElem? (i := 31) rfl), gw_of ge_initialized gg_initd (List.mem_of_getElem? (i := 5) rfl), gw_of ge_methodLink gg_ml (List.mem_of_getElem? (i := 53) rfl), by decide +kernel, by decide +kernel, by decide +kernel⟩
theorem cl_X11_213 : CLs RX11 213 yX11_in cX11_in 3 (some (.boolean)) 3 := ⟨gw_of ge_code gg_code (List.mem_of_getElem? (i := 182) rfl), gw_of ge_initialized gg_initd (List.mem_of_getElem? (i := 11) rfl), gw_of ge_methodLink gg_ml (List.mem_of_getElem? (i := 231) rfl), by decide +kernel, by decide +kernel, by decide +kernel⟩
theorem cl_X11_223 : CLs RX11 223 yX11_isShire cX11_isShire 1 (some (.boolean)) 1 := ⟨gw_of ge_code gg_code (List.mem_of_getElem? (i := 184) rfl), gw_of ge_initialized gg_initd (List.mem_of_getElem? (i := 11) rfl), gw_of ge_methodLink gg_ml (List.mem_of_getElem? (i := 233) rfl), by decide +kernel, by decide +kernel, by decide +kernel⟩
theorem cl_X11_228 : CLs RX11 228 yX11_isVoter cX11_isVoter 2 (some (.boolean)) 1 := ⟨gw_of ge_code gg_code (List.mem_of_getElem? (i := 186) rfl), gw_of ge_initialized gg_initd (List.mem_of_getElem? (i := 11) rfl), gw_of ge_methodLink gg_ml (List.mem_of_getElem? (i := 235) rfl), by decide +kernel, by decide +kernel, by decide +kernel⟩
theorem cl_X11_234 : CLs RX11 234 yX11_isKnowing cX11_isKnowing 2 (some (.boolean)) 1 := ⟨gw_of ge_code gg_code (List.mem_of_getElem? (i := 188) rfl), gw_of ge_initialized gg_initd (List.mem_of_getElem? (i := 11) rfl), gw_of ge_methodLink gg_ml (List.mem_of_getElem? (i := 237) rfl), by decide +kernel, by decide +kernel, by decide +kernel⟩
theorem cl_X11_237 : CLs RX11 237 yX11_shireOn cX11_shireOn 7 (some (.int)) 3 := ⟨gw_of ge_code gg_code (List.mem_of_getElem? (i := 189) rfl), gw_of ge_initialized gg_initd (List.mem_of_getElem? (i := 11) rfl), gw_of ge_methodLink gg_ml (List.mem_of_getElem? (i := 238) rfl), by decide +kernel, by decide +kernel, by decide +kernel⟩
theorem cl_X11_244 : CLs RX11 244 yX11_isEnvelope cX11_isEnvelope 2 (some (.boolean)) 1 := ⟨gw_of ge_code gg_code (List.mem_of_getElem? (i := 192) rfl), gw_of ge_initialized gg_initd (List.mem_of_getElem? (i := 11) rfl), gw_of ge_methodLink gg_ml (List.mem_of_getElem? (i := 241) rfl), by decide +kernel, by decide +kernel, by decide +kernel⟩
theorem cl_X11_253 : CLs RX11 253 yX11_eventFor cX11_eventFor 6 (some (.int)) 3 := ⟨gw_of ge_code gg_code (List.mem_of_getElem? (i := 198) rfl), gw_of ge_initialized gg_initd (List.mem_of_getElem? (i := 11) rfl), gw_of ge_methodLink gg_ml (List.mem_of_getElem? (i := 247) rfl), by decide +kernel, by decide +kernel, by decide +kernel⟩
theorem cl_X11_256 : CLs RX11 256 yX11_dayOf cX11_dayOf 5 (some (.int)) 3 := ⟨gw_of ge_code gg_code (List.mem_of_getElem? (i := 197) rfl), gw_of ge_initialized gg_initd (List.mem_of_getElem? (i := 11) rfl), gw_of ge_methodLink gg_ml (List.mem_of_getElem? (i := 246) rfl), by decide +kernel, by decide +kernel, by decide +kernel⟩
theorem cl_X11_259 : CLs RX11 259 yX11_emptyingFor cX11_emptyingFor 7 (some (.int)) 2 := ⟨gw_of ge_code gg_code (List.mem_of_getElem? (i := 199) rfl), gw_of ge_initialized gg_initd (List.mem_of_getElem? (i := 11) rfl), gw_of ge_methodLink gg_ml (List.mem_of_getElem? (i := 248) rfl), by decide +kernel, by decide +kernel, by decide +kernel⟩
theorem cl_X11_269 : CLs RX11 269 yJ9_max_7cf53 cJ9_max_7cf53 2 (some (.int)) 2 := ⟨gw_of ge_code gg_code (List.mem_of_getElem? (i := 24) rfl), gw_of ge_initialized gg_initd (List.mem_of_getElem? (i := 14) rfl), gw_of ge_methodLink gg_ml (List.mem_of_getElem? (i := 249) rfl), by decide +kernel, by decide +kernel, by decide +kernel⟩
theorem cl_X11_274 : CLs RX11 274 yX11_ask cX11_ask 7 none 2 := ⟨gw_of ge_code gg_code (List.mem_of_getElem? (i := 196) rfl), gw_of ge_initialized gg_initd (List.mem_of_getElem? (i := 11) rfl), gw_of ge_methodLink gg_ml (List.mem_of_getElem? (i := 245) rfl), by decide +kernel, by decide +kernel, by decide +kernel⟩
theorem cl_X11_278 : CLs RX11 278 yX11_isSent cX11_isSent 3 (some (.boolean)) 2 := ⟨gw_of ge_code gg_code (List.mem_of_getElem? (i := 195) rfl), gw_of ge_initialized gg_initd (List.mem_of_getElem? (i := 11) rfl), gw_of ge_methodLink gg_ml (List.mem_of_getElem? (i := 244) rfl), by decide +kernel, by decide +kernel, by decide +kernel⟩
theorem cl_X11_291 : CLs RX11 291 yX11_wordOf cX11_wordOf 6 (some (.int)) 3 := ⟨gw_of ge_code gg_code (List.mem_of_getElem? (i := 237) rfl), gw_of ge_initialized gg_initd (List.mem_of_getElem? (i := 11) rfl), gw_of ge_methodLink gg_ml (List.mem_of_getElem? (i := 288) rfl), by decide +kernel, by decide +kernel, by decide +kernel⟩
theorem cl_X11_294 : CLs RX11 294 yX11_byteOf cX11_byteOf 7 (some (.int)) 6 := ⟨gw_of ge_code gg_code (List.mem_of_getElem? (i := 204) rfl), gw_of ge_initialized gg_initd (List.mem_of_getElem? (i := 11) rfl), gw_of ge_methodLink gg_ml (List.mem_of_getElem? (i := 254) rfl), by decide +kernel, by decide +kernel, by decide +kernel⟩
theorem cl_X11_313 : CLs RX11 313 yX11_bad cX11_bad 1 none 0 := ⟨gw_of ge_code gg_code (List.mem_of_getElem? (i := 213) rfl), gw_of ge_initialized gg_initd (List.mem_of_getElem? (i := 11) rfl), gw_of ge_methodLink gg_ml (List.mem_of_getElem? (i := 263) rfl), by decide +kernel, by decide +kernel, by decide +kernel⟩
theorem cl_X11_316 : CLs RX11 316 yX11_look cX11_look 1 (some (.int)) 0 := ⟨gw_of ge_code gg_code (List.mem_of_getElem? (i := 211) rfl), gw_of ge_initialized gg_initd (List.mem_of_getElem? (i := 11) rfl), gw_of ge_methodLink gg_ml (List.mem_of_getElem? (i := 261) rfl), by decide +kernel, by decide +kernel, by decide +kernel⟩
theorem cl_X11_320 : CLs RX11 320 yX11_isDigit cX11_isDigit 1 (some (.boolean)) 1 := ⟨gw_of ge_code gg_code (List.mem_of_getElem? (i := 221) rfl), gw_of ge_initialized gg_initd (List.mem_of_getElem? (i := 11) rfl), gw_of ge_methodLink gg_ml (List.mem_of_getElem? (i := 271) rfl), by decide +kernel, by decide +kernel, by decide +kernel⟩
theorem cl_X11_323 : CLs RX11 323 yX11_say cX11_say 2 none 1 := ⟨gw_of ge_code gg_code (List.mem_of_getElem? (i := 214) rfl), gw_of ge_initialized gg_initd (List.mem_of_getElem? (i := 11) rfl), gw_of ge_methodLink gg_ml (List.mem_of_getElem? (i := 264) rfl), by decide +kernel, by decide +kernel, by decide +kernel⟩
theorem cl_X11_327 : CLs RX11 327 yX11_opens cX11_opens 1 (some (.boolean)) 0 := ⟨gw_of ge_code gg_code (List.mem_of_getElem? (i := 212) rfl), gw_of ge_initialized gg_initd (List.mem_of_getElem? (i := 11) rfl), gw_of ge_methodLink gg_ml (List.mem_of_getElem? (i := 262) rfl), by decide +kernel, by decide +kernel, by decide +kernel⟩
theorem cl_X11_331 : CLs RX11 331 yX11_sum cX11_sum 2 none 0 := ⟨gw_of ge_code gg_code (List.mem_of_getElem? (i := 216) rfl), gw_of ge_initialized gg_initd (List.mem_of_getElem? (i := 11) rfl), gw_of ge_methodLink gg_ml (List.mem_of_getElem? (i := 266) rfl), by decide +kernel, by decide +kernel, by decide +kernel⟩
theorem cl_X11_334 : CLs RX11 334 yX11_closes cX11_closes 2 none 1 := ⟨gw_of ge_code gg_code (List.mem_of_getElem? (i := 215) rfl), gw_of ge_initialized gg_initd (List.mem_of_getElem? (i := 11) rfl), gw_of ge_methodLink gg_ml (List.mem_of_getElem? (i := 265) rfl), by decide +kernel, by decide +kernel, by decide +kernel⟩
theorem cl_X11_337 : CLs RX11 337 yX11_atom cX11_atom 2 none 0 := ⟨gw_of ge_code gg_code (List.mem_of_getElem? (i := 218) rfl), gw_of ge_initialized gg_initd (List.mem_of_getElem? (i := 11) rfl), gw_of ge_methodLink gg_ml (List.mem_of_getElem? (i := 268) rfl), by decide +kernel, by decide +kernel, by decide +kernel⟩
theorem cl_X11_340 : CLs RX11 340 yX11_isLetter cX11_isLetter 1 (some (.boolean)) 1 := ⟨gw_of ge_code gg_code (List.mem_of_getElem? (i := 219) rfl), gw_of ge_initialized gg_initd (List.mem_of_getElem? (i := 11) rfl), gw_of ge_methodLink gg_ml (List.mem_of_getElem? (i := 269) rfl), by decide +kernel, by decide +kernel, by decide +kernel⟩
theorem cl_X11_343 : CLs RX11 343 yX11_number cX11_number 3 none 0 := ⟨gw_of ge_code gg_code (List.mem_of_getElem? (i := 220) rfl), gw_of ge_initialized gg_initd (List.mem_of_getElem? (i := 11) rfl), gw_of ge_methodLink gg_ml (List.mem_of_getElem? (i := 270) rfl), by decide +kernel, by decide +kernel, by decide +kernel⟩
theorem cl_X11_346 : CLs RX11 346 yX11_term cX11_term 1 none 0 := ⟨gw_of ge_code gg_code (List.mem_of_getElem? (i := 217) rfl), gw_of ge_initialized gg_initd (List.mem_of_getElem? (i := 11) rfl), gw_of ge_methodLink gg_ml (List.mem_of_getElem? (i := 267) rfl), by decide +kernel, by decide +kernel, by decide +kernel⟩
theorem cl_X11_349 : CLs RX11 349 yX11_unit cX11_unit 3 none 0 := ⟨gw_of ge_code gg_code (List.mem_of_getElem? (i := 210) rfl), gw_of ge_initialized gg_initd (List.mem_of_getElem? (i := 11) rfl), gw_of ge_methodLink gg_ml (List.mem_of_getElem? (i := 260) rfl), by decide +kernel, by decide +kernel, by decide +kernel⟩
theorem cl_X11_352 : CLs RX11 352 yX11_condition cX11_condition 1 none 0 := ⟨gw_of ge_code gg_code (List.mem_of_getElem? (i := 208) rfl), gw_of ge_initialized gg_initd (List.mem_of_getElem? (i := 11) rfl), gw_of ge_methodLink gg_ml (List.mem_of_getElem? (i := 258) rfl), by decide +kernel, by decide +kernel, by decide +kernel⟩
theorem cl_X11_355 : CLs RX11 355 yX11_part cX11_part 1 none 0 := ⟨gw_of ge_code gg_code (List.mem_of_getElem? (i := 209) rfl), gw_of ge_initialized gg_initd (List.mem_of_getElem? (i := 11) rfl), gw_of ge_methodLink gg_ml (List.mem_of_getElem? (i := 259) rfl), by decide +kernel, by decide +kernel, by decide +kernel⟩
theorem cl_X11_361 : CLs RX11 361 yX11_rule cX11_rule 2 none 0 := ⟨gw_of ge_code gg_code (List.mem_of_getElem? (i := 207) rfl), gw_of ge_initialized gg_initd (List.mem_of_getElem? (i := 11) rfl), gw_of ge_methodLink gg_ml (List.mem_of_getElem? (i := 257) rfl), by decide +kernel, by decide +kernel, by decide +kernel⟩
theorem cl_X11_367 : CLs RX11 367 yX11_fault cX11_fault 1 (some (.int)) 0 := ⟨gw_of ge_code gg_code (List.mem_of_getElem? (i := 206) rfl), gw_of ge_initialized gg_initd (List.mem_of_getElem? (i := 11) rfl), gw_of ge_methodLink gg_ml (List.mem_of_getElem? (i := 273) rfl), by decide +kernel, by decide +kernel, by decide +kernel⟩
theorem cl_X11_370 : CLs RX11 370 yX11_lawOn cX11_lawOn 6 (some (.int)) 3 := ⟨gw_of ge_code gg_code (List.mem_of_getElem? (i := 224) rfl), gw_of ge_initialized gg_initd (List.mem_of_getElem? (i := 11) rfl), gw_of ge_methodLink gg_ml (List.mem_of_getElem? (i := 275) rfl), by decide +kernel, by decide +kernel, by decide +kernel⟩
theorem cl_X11_373 : CLs RX11 373 yX11_comesOn cX11_comesOn 3 (some (.int)) 2 := ⟨gw_of ge_code gg_code (List.mem_of_getElem? (i := 230) rfl), gw_of ge_initialized gg_initd (List.mem_of_getElem? (i := 11) rfl), gw_of ge_methodLink gg_ml (List.mem_of_getElem? (i := 281) rfl), by decide +kernel, by decide +kernel, by decide +kernel⟩
theorem cl_X11_376 : CLs RX11 376 yX11_boothFor cX11_boothFor 5 (some (.int)) 2 := ⟨gw_of ge_code gg_code (List.mem_of_getElem? (i := 234) rfl), gw_of ge_initialized gg_initd (List.mem_of_getElem? (i := 11) rfl), gw_of ge_methodLink gg_ml (List.mem_of_getElem? (i := 285) rfl), by decide +kernel, by decide +kernel, by decide +kernel⟩
theorem cl_X11_379 : CLs RX11 379 yX11_unlike cX11_unlike 8 (some (.int)) 2 := ⟨gw_of ge_code gg_code (List.mem_of_getElem? (i := 235) rfl), gw_of ge_initialized gg_initd (List.mem_of_getElem? (i := 11) rfl), gw_of ge_methodLink gg_ml (List.mem_of_getElem? (i := 286) rfl), by decide +kernel, by decide +kernel, by decide +kernel⟩
theorem cl_X11_382 : CLs RX11 382 yX11_wordsOf cX11_wordsOf 6 (some (.int)) 3 := ⟨gw_of ge_code gg_code (List.mem_of_getElem? (i := 236) rfl), gw_of ge_initialized gg_initd (List.mem_of_getElem? (i := 11) rfl), gw_of ge_methodLink gg_ml (List.mem_of_getElem? (i := 287) rfl), by decide +kernel, by decide +kernel, by decide +kernel⟩
theorem cl_X11_385 : CLs RX11 385 yX11_sentTo cX11_sentTo 5 (some (.int)) 2 := ⟨gw_of ge_code gg_code (List.mem_of_getElem? (i := 238) rfl), gw_of ge_initialized gg_initd (List.mem_of_getElem? (i := 11) rfl), gw_of ge_methodLink gg_ml (List.mem_of_getElem? (i := 289) rfl), by decide +kernel, by decide +kernel, by decide +kernel⟩
theorem cl_X11_392 : CLs RX11 392 yJ9_min_f86c9 cJ9_min_f86c9 4 (some (.long)) 2 := ⟨gw_of ge_code gg_code (List.mem_of_getElem? (i := 120) rfl), gw_of ge_initialized gg_initd (List.mem_of_getElem? (i := 14) rfl), gw_of ge_methodLink gg_ml (List.mem_of_getElem? (i := 291) rfl), by decide +kernel, by decide +kernel, by decide +kernel⟩
theorem cl_X11_396 : CLs RX11 396 yJ9_max_f86c9 cJ9_max_f86c9 4 (some (.long)) 2 := ⟨gw_of ge_code gg_code (List.mem_of_getElem? (i := 121) rfl), gw_of ge_initialized gg_initd (List.mem_of_getElem? (i := 14) rfl), gw_of ge_methodLink gg_ml (List.mem_of_getElem? (i := 292) rfl), by decide +kernel, by decide +kernel, by decide +kernel⟩
theorem cl_X11_401 : CLs RX11 401 yX11_letterOf cX11_letterOf 5 (some (.int)) 4 := ⟨gw_of ge_code gg_code (List.mem_of_getElem? (i := 233) rfl), gw_of ge_initialized gg_initd (List.mem_of_getElem? (i := 11) rfl), gw_of ge_methodLink gg_ml (List.mem_of_getElem? (i := 284) rfl), by decide +kernel, by decide +kernel, by decide +kernel⟩
theorem cl_X11_405 : CLs RX11 405 yX11_bounded cX11_bounded 2 (some (.int)) 1 := ⟨gw_of ge_code gg_code (List.mem_of_getElem? (i := 239) rfl), gw_of ge_initialized gg_initd (List.mem_of_getElem? (i := 11) rfl), gw_of ge_methodLink gg_ml (List.mem_of_getElem? (i := 290) rfl), by decide +kernel, by decide +kernel, by decide +kernel⟩
theorem cl_X11_409 : CLs RX11 409 yX11_both cX11_both 3 (some (.int)) 3 := ⟨gw_of ge_code gg_code (List.mem_of_getElem? (i := 240) rfl), gw_of ge_initialized gg_initd (List.mem_of_getElem? (i := 11) rfl), gw_of ge_methodLink gg_ml (List.mem_of_getElem? (i := 293) rfl), by decide +kernel, by decide +kernel, by decide +kernel⟩
theorem cl_X11_415 : CLs RX11 415 yX11_work cX11_work 7 (some (.int)) 4 := ⟨gw_of ge_code gg_code (List.mem_of_getElem? (i := 232) rfl), gw_of ge_initialized gg_initd (List.mem_of_getElem? (i := 11) rfl), gw_of ge_methodLink gg_ml (List.mem_of_getElem? (i := 283) rfl), by decide +kernel, by decide +kernel, by decide +kernel⟩
theorem cl_X11_418 : CLs RX11 418 yX11_line cX11_line 5 none 2 := ⟨gw_of ge_code gg_code (List.mem_of_getElem? (i := 229) rfl), gw_of ge_initialized gg_initd (List.mem_of_getElem? (i := 11) rfl), gw_of ge_methodLink gg_ml (List.mem_of_getElem? (i := 280) rfl), by decide +kernel, by decide +kernel, by decide +kernel⟩
theorem cl_X11_421 : CLs RX11 421 yX11_judgeOne cX11_judgeOne 11 none 3 := ⟨gw_of ge_code gg_code (List.mem_of_getElem? (i := 231) rfl), gw_of ge_initialized gg_initd (List.mem_of_getElem? (i := 11) rfl), gw_of ge_methodLink gg_ml (List.mem_of_getElem? (i := 282) rfl), by decide +kernel, by decide +kernel, by decide +kernel⟩
theorem cl_X11_428 : CLs RX11 428 yX11_isAsked cX11_isAsked 3 (some (.boolean)) 2 := ⟨gw_of ge_code gg_code (List.mem_of_getElem? (i := 227) rfl), gw_of ge_initialized gg_initd (List.mem_of_getElem? (i := 11) rfl), gw_of ge_methodLink gg_ml (List.mem_of_getElem? (i := 278) rfl), by decide +kernel, by decide +kernel, by decide +kernel⟩
theorem cl_X11_431 : CLs RX11 431 yX11_judge cX11_judge 5 none 2 := ⟨gw_of ge_code gg_code (List.mem_of_getElem? (i := 228) rfl), gw_of ge_initialized gg_initd (List.mem_of_getElem? (i := 11) rfl), gw_of ge_methodLink gg_ml (List.mem_of_getElem? (i := 279) rfl), by decide +kernel, by decide +kernel, by decide +kernel⟩
theorem cl_X11_434 : CLs RX11 434 yX11_firstGood cX11_firstGood 2 (some (.int)) 0 := ⟨gw_of ge_code gg_code (List.mem_of_getElem? (i := 245) rfl), gw_of ge_initialized gg_initd (List.mem_of_getElem? (i := 11) rfl), gw_of ge_methodLink gg_ml (List.mem_of_getElem? (i := 298) rfl), by decide +kernel, by decide +kernel, by decide +kernel⟩
theorem cl_X11_446 : CLs RX11 446 yX11_meet cX11_meet 7 none 2 := ⟨gw_of ge_code gg_code (List.mem_of_getElem? (i := 249) rfl), gw_of ge_initialized gg_initd (List.mem_of_getElem? (i := 11) rfl), gw_of ge_methodLink gg_ml (List.mem_of_getElem? (i := 302) rfl), by decide +kernel, by decide +kernel, by decide +kernel⟩
theorem cl_X11_452 : CLs RX11 452 yX11_findCounted cX11_findCounted 4 (some (.int)) 0 := ⟨gw_of ge_code gg_code (List.mem_of_getElem? (i := 253) rfl), gw_of ge_initialized gg_initd (List.mem_of_getElem? (i := 11) rfl), gw_of ge_methodLink gg_ml (List.mem_of_getElem? (i := 306) rfl), by decide +kernel, by decide +kernel, by decide +kernel⟩
theorem cl_X11_462 : CLs RX11 462 yX11_nextWave cX11_nextWave 4 (some (.int)) 1 := ⟨gw_of ge_code gg_code (List.mem_of_getElem? (i := 258) rfl), gw_of ge_initialized gg_initd (List.mem_of_getElem? (i := 11) rfl), gw_of ge_methodLink gg_ml (List.mem_of_getElem? (i := 311) rfl), by decide +kernel, by decide +kernel, by decide +kernel⟩
theorem cl_X11_466 : CLs RX11 466 yJ9_min_7cf53 cJ9_min_7cf53 2 (some (.int)) 2 := ⟨gw_of ge_code gg_code (List.mem_of_getElem? (i := 28) rfl), gw_of ge_initialized gg_initd (List.mem_of_getElem? (i := 14) rfl), gw_of ge_methodLink gg_ml (List.mem_of_getElem? (i := 312) rfl), by decide +kernel, by decide +kernel, by decide +kernel⟩
theorem cl_X11_468 : CLs RX11 468 yX11_print cX11_print 6 none 0 := ⟨gw_of ge_code gg_code (List.mem_of_getElem? (i := 257) rfl), gw_of ge_initialized gg_initd (List.mem_of_getElem? (i := 11) rfl), gw_of ge_methodLink gg_ml (List.mem_of_getElem? (i := 310) rfl), by decide +kernel, by decide +kernel, by decide +kernel⟩
theorem cl_X11_477 : CLs RX11 477 yX11_drive cX11_drive 6 none 3 := ⟨gw_of ge_code gg_code (List.mem_of_getElem? (i := 265) rfl), gw_of ge_initialized gg_initd (List.mem_of_getElem? (i := 11) rfl), gw_of ge_methodLink gg_ml (List.mem_of_getElem? (i := 319) rfl), by decide +kernel, by decide +kernel, by decide +kernel⟩
theorem cl_X11_480 : CLs RX11 480 yX11_findRound cX11_findRound 3 (some (.boolean)) 1 := ⟨gw_of ge_code gg_code (List.mem_of_getElem? (i := 264) rfl), gw_of ge_initialized gg_initd (List.mem_of_getElem? (i := 11) rfl), gw_of ge_methodLink gg_ml (List.mem_of_getElem? (i := 318) rfl), by decide +kernel, by decide +kernel, by decide +kernel⟩
theorem cl_X11_483 : CLs RX11 483 yX11_usualOf cX11_usualOf 7 (some (.int)) 2 := ⟨gw_of ge_code gg_code (List.mem_of_getElem? (i := 268) rfl), gw_of ge_initialized gg_initd (List.mem_of_getElem? (i := 11) rfl), gw_of ge_methodLink gg_ml (List.mem_of_getElem? (i := 322) rfl), by decide +kernel, by decide +kernel, by decide +kernel⟩
theorem cl_X11_486 : CLs RX11 486 yX11_state cX11_state 3 (some (.int)) 2 := ⟨gw_of ge_code gg_code (List.mem_of_getElem? (i := 241) rfl), gw_of ge_initialized gg_initd (List.mem_of_getElem? (i := 11) rfl), gw_of ge_methodLink gg_ml (List.mem_of_getElem? (i := 325) rfl), by decide +kernel, by decide +kernel, by decide +kernel⟩
theorem cl_J0_335 : CLs RJ0 335 yJ0_coder_7d493 cJ0_coder_7d493 1 (some (.byte)) 0 := ⟨gw_of ge_code gg_code (List.mem_of_getElem? (i := 77) rfl), gw_of ge_initialized gg_initd (List.mem_of_getElem? (i := 20) rfl), gw_of ge_methodLink gg_ml (List.mem_of_getElem? (i := 97) rfl), by decide +kernel, by decide +kernel, by decide +kernel⟩
theorem cl_J0_492 : CLs RJ0 492 yJ0_isLatin1_aae02 cJ0_isLatin1_aae02 1 (some (.boolean)) 0 := ⟨gw_of ge_code gg_code (List.mem_of_getElem? (i := 75) rfl), gw_of ge_initialized gg_initd (List.mem_of_getElem? (i := 20) rfl), gw_of ge_methodLink gg_ml (List.mem_of_getElem? (i := 95) rfl), by decide +kernel, by decide +kernel, by decide +kernel⟩
theorem cl_J0_505 : CLs RJ0 505 yJ0_length_8abf5 cJ0_length_8abf5 1 (some (.int)) 0 := ⟨gw_of ge_code gg_code (List.mem_of_getElem? (i := 76) rfl), gw_of ge_initialized gg_initd (List.mem_of_getElem? (i := 20) rfl), gw_of ge_methodLink gg_ml (List.mem_of_getElem? (i := 96) rfl), by decide +kernel, by decide +kernel, by decide +kernel⟩
theorem cl_J0_633 : CLs RJ0 633 yJ0_indexOf_7cf53 cJ0_indexOf_7cf53 3 (some (.int)) 2 := ⟨gw_of ge_code gg_code (List.mem_of_getElem? (i := 74) rfl), gw_of ge_initialized gg_initd (List.mem_of_getElem? (i := 20) rfl), gw_of ge_methodLink gg_ml (List.mem_of_getElem? (i := 94) rfl), by decide +kernel, by decide +kernel, by decide +kernel⟩
theorem cl_J0_637 : CLs RJ0 637 yJ1_indexOf_4cfef cJ1_indexOf_4cfef 4 (some (.int)) 4 := ⟨gw_of ge_code gg_code (List.mem_of_getElem? (i := 78) rfl), gw_of ge_initialized gg_initd (List.mem_of_getElem? (i := 21) rfl), gw_of ge_methodLink gg_ml (List.mem_of_getElem? (i := 98) rfl), by decide +kernel, by decide +kernel, by decide +kernel⟩
theorem cl_J0_640 : CLs RJ0 640 yJ2_indexOf_4cfef cJ2_indexOf_4cfef 4 (some (.int)) 4 := ⟨gw_of ge_code gg_code (List.mem_of_getElem? (i := 81) rfl), gw_of ge_initialized gg_initd (List.mem_of_getElem? (i := 22) rfl), gw_of ge_methodLink gg_ml (List.mem_of_getElem? (i := 103) rfl), by decide +kernel, by decide +kernel, by decide +kernel⟩
theorem cl_J0_1062 : CLs RJ0 1062 yJ3_checkFromToIndex_8c36e cJ3_checkFromToIndex_8c36e 4 (some (.int)) 4 := ⟨gw_of ge_code gg_code (List.mem_of_getElem? (i := 86) rfl), gw_of ge_initialized gg_initd (List.mem_of_getElem? (i := 17) rfl), gw_of ge_methodLink gg_ml (List.mem_of_getElem? (i := 110) rfl), by decide +kernel, by decide +kernel, by decide +kernel⟩
theorem cl_J1_38 : CLs RJ1 38 yJ9_min_7cf53 cJ9_min_7cf53 2 (some (.int)) 2 := ⟨gw_of ge_code gg_code (List.mem_of_getElem? (i := 28) rfl), gw_of ge_initialized gg_initd (List.mem_of_getElem? (i := 14) rfl), gw_of ge_methodLink gg_ml (List.mem_of_getElem? (i := 101) rfl), by decide +kernel, by decide +kernel, by decide +kernel⟩
theorem cl_J1_88 : CLs RJ1 88 yJ1_canEncode_9a6ad cJ1_canEncode_9a6ad 1 (some (.boolean)) 1 := ⟨gw_of ge_code gg_code (List.mem_of_getElem? (i := 79) rfl), gw_of ge_initialized gg_initd (List.mem_of_getElem? (i := 21) rfl), gw_of ge_methodLink gg_ml (List.mem_of_getElem? (i := 99) rfl), by decide +kernel, by decide +kernel, by decide +kernel⟩
theorem cl_J1_92 : CLs RJ1 92 yJ9_max_7cf53 cJ9_max_7cf53 2 (some (.int)) 2 := ⟨gw_of ge_code gg_code (List.mem_of_getElem? (i := 24) rfl), gw_of ge_initialized gg_initd (List.mem_of_getElem? (i := 14) rfl), gw_of ge_methodLink gg_ml (List.mem_of_getElem? (i := 100) rfl), by decide +kernel, by decide +kernel, by decide +kernel⟩
theorem cl_J1_95 : CLs RJ1 95 yJ1_indexOfChar_4cfef cJ1_indexOfChar_4cfef 6 (some (.int)) 4 := ⟨gw_of ge_code gg_code (List.mem_of_getElem? (i := 80) rfl), gw_of ge_initialized gg_initd (List.mem_of_getElem? (i := 21) rfl), gw_of ge_methodLink gg_ml (List.mem_of_getElem? (i := 102) rfl), by decide +kernel, by decide +kernel, by decide +kernel⟩
theorem cl_J2_48 : CLs RJ2 48 yJ2_length_9d52b cJ2_length_9d52b 1 (some (.int)) 1 := ⟨gw_of ge_code gg_code (List.mem_of_getElem? (i := 84) rfl), gw_of ge_initialized gg_initd (List.mem_of_getElem? (i := 22) rfl), gw_of ge_methodLink gg_ml (List.mem_of_getElem? (i := 108) rfl), by decide +kernel, by decide +kernel, by decide +kernel⟩
theorem cl_J2_71 : CLs RJ2 71 yJ2_getChar_3b067 cJ2_getChar_3b067 2 (some (.char)) 2 := ⟨gw_of ge_code gg_code (List.mem_of_getElem? (i := 88) rfl), gw_of ge_initialized gg_initd (List.mem_of_getElem? (i := 22) rfl), gw_of ge_methodLink gg_ml (List.mem_of_getElem? (i := 112) rfl), by decide +kernel, by decide +kernel, by decide +kernel⟩
theorem cl_J2_96 : CLs RJ2 96 yJ2_checkBoundsBeginEnd_d044e cJ2_checkBoundsBeginEnd_d044e 3 none 3 := ⟨gw_of ge_code gg_code (List.mem_of_getElem? (i := 83) rfl), gw_of ge_initialized gg_initd (List.mem_of_getElem? (i := 22) rfl), gw_of ge_methodLink gg_ml (List.mem_of_getElem? (i := 107) rfl), by decide +kernel, by decide +kernel, by decide +kernel⟩
theorem cl_J2_157 : CLs RJ2 157 yJ11_highSurrogate_5068e cJ11_highSurrogate_5068e 1 (some (.char)) 1 := ⟨gw_of ge_code gg_code (List.mem_of_getElem? (i := 91) rfl), gw_of ge_initialized gg_initd (List.mem_of_getElem? (i := 23) rfl), gw_of ge_methodLink gg_ml (List.mem_of_getElem? (i := 115) rfl), by decide +kernel, by decide +kernel, by decide +kernel⟩
theorem cl_J2_161 : CLs RJ2 161 yJ11_lowSurrogate_5068e cJ11_lowSurrogate_5068e 1 (some (.char)) 1 := ⟨gw_of ge_code gg_code (List.mem_of_getElem? (i := 92) rfl), gw_of ge_initialized gg_initd (List.mem_of_getElem? (i := 23) rfl), gw_of ge_methodLink gg_ml (List.mem_of_getElem? (i := 116) rfl), by decide +kernel, by decide +kernel, by decide +kernel⟩
theorem cl_J2_164 : CLs RJ2 164 yJ11_isValidCodePoint_9a6ad cJ11_isValidCodePoint_9a6ad 2 (some (.boolean)) 1 := ⟨gw_of ge_code gg_code (List.mem_of_getElem? (i := 90) rfl), gw_of ge_initialized gg_initd (List.mem_of_getElem? (i := 23) rfl), gw_of ge_methodLink gg_ml (List.mem_of_getElem? (i := 114) rfl), by decide +kernel, by decide +kernel, by decide +kernel⟩
theorem cl_J2_183 : CLs RJ2 183 yJ9_min_7cf53 cJ9_min_7cf53 2 (some (.int)) 2 := ⟨gw_of ge_code gg_code (List.mem_of_getElem? (i := 28) rfl), gw_of ge_initialized gg_initd (List.mem_of_getElem? (i := 14) rfl), gw_of ge_methodLink gg_ml (List.mem_of_getElem? (i := 105) rfl), by decide +kernel, by decide +kernel, by decide +kernel⟩
theorem cl_J2_224 : CLs RJ2 224 yJ9_max_7cf53 cJ9_max_7cf53 2 (some (.int)) 2 := ⟨gw_of ge_code gg_code (List.mem_of_getElem? (i := 24) rfl), gw_of ge_initialized gg_initd (List.mem_of_getElem? (i := 14) rfl), gw_of ge_methodLink gg_ml (List.mem_of_getElem? (i := 104) rfl), by decide +kernel, by decide +kernel, by decide +kernel⟩
theorem cl_J2_228 : CLs RJ2 228 yJ2_indexOfChar_4cfef cJ2_indexOfChar_4cfef 4 (some (.int)) 4 := ⟨gw_of ge_code gg_code (List.mem_of_getElem? (i := 82) rfl), gw_of ge_initialized gg_initd (List.mem_of_getElem? (i := 22) rfl), gw_of ge_methodLink gg_ml (List.mem_of_getElem? (i := 106) rfl), by decide +kernel, by decide +kernel, by decide +kernel⟩
theorem cl_J2_232 : CLs RJ2 232 yJ2_indexOfSupplementary_4cfef cJ2_indexOfSupplementary_4cfef 7 (some (.int)) 4 := ⟨gw_of ge_code gg_code (List.mem_of_getElem? (i := 89) rfl), gw_of ge_initialized gg_initd (List.mem_of_getElem? (i := 22) rfl), gw_of ge_methodLink gg_ml (List.mem_of_getElem? (i := 113) rfl), by decide +kernel, by decide +kernel, by decide +kernel⟩
theorem cl_J2_241 : CLs RJ2 241 yJ0_checkBoundsBeginEnd_23922 cJ0_checkBoundsBeginEnd_23922 3 none 3 := ⟨gw_of ge_code gg_code (List.mem_of_getElem? (i := 85) rfl), gw_of ge_initialized gg_initd (List.mem_of_getElem? (i := 20) rfl), gw_of ge_methodLink gg_ml (List.mem_of_getElem? (i := 109) rfl), by decide +kernel, by decide +kernel, by decide +kernel⟩
theorem cl_J2_244 : CLs RJ2 244 yJ2_indexOfCharUnsafe_4cfef cJ2_indexOfCharUnsafe_4cfef 5 (some (.int)) 4 := ⟨gw_of ge_code gg_code (List.mem_of_getElem? (i := 87) rfl), gw_of ge_initialized gg_initd (List.mem_of_getElem? (i := 22) rfl), gw_of ge_methodLink gg_ml (List.mem_of_getElem? (i := 111) rfl), by decide +kernel, by decide +kernel, by decide +kernel⟩
theorem cl_Jxc12de_1 : CLs RJxc12de 1 yJxa1e45_init_da8c8 cJxa1e45_init_da8c8 1 none 0 := ⟨gw_of ge_code gg_code (List.mem_of_getElem? (i := 5) rfl), gw_of ge_initialized gg_initd (List.mem_of_getElem? (i := 3) rfl), gw_of ge_methodLink gg_ml (List.mem_of_getElem? (i := 5) rfl), by decide +kernel, by decide +kernel, by decide +kernel⟩
theorem cl_Jx4a65c_1 : CLs RJx4a65c 1 yJxc12de_init_da8c8 cJxc12de_init_da8c8 1 none 0 := ⟨gw_of ge_code gg_code (List.mem_of_getElem? (i := 4) rfl), gw_of ge_initialized gg_initd (List.mem_of_getElem? (i := 4) rfl), gw_of ge_methodLink gg_ml (List.mem_of_getElem? (i := 4) rfl), by decide +kernel, by decide +kernel, by decide +kernel⟩
theorem cl_Jx4a65c_66 : CLs RJx4a65c 66 yJ7_copyOf_1904c cJ7_copyOf_1904c 2 (some (.array (.object "java/lang/Object"))) 2 := ⟨gw_of ge_code gg_code (List.mem_of_getElem? (i := 26) rfl), gw_of ge_initialized gg_initd (List.mem_of_getElem? (i := 10) rfl), gw_of ge_methodLink gg_ml (List.mem_of_getElem? (i := 33) rfl), by decide +kernel, by decide +kernel, by decide +kernel⟩
theorem cl_Jx4a65c_69 : CLs RJx4a65c 69 yJx4a65c_grow_92f84 cJx4a65c_grow_92f84 4 (some (.array (.object "java/lang/Object"))) 1 := ⟨gw_of ge_code gg_code (List.mem_of_getElem? (i := 22) rfl), gw_of ge_initialized gg_initd (List.mem_of_getElem? (i := 5) rfl), gw_of ge_methodLink gg_ml (List.mem_of_getElem? (i := 29) rfl), by decide +kernel, by decide +kernel, by decide +kernel⟩
theorem cl_Jx4a65c_73 : CLs RJx4a65c 73 yJ8_newLength_cabcc cJ8_newLength_cabcc 4 (some (.int)) 3 := ⟨gw_of ge_code gg_code (List.mem_of_getElem? (i := 23) rfl), gw_of ge_initialized gg_initd (List.mem_of_getElem? (i := 13) rfl), gw_of ge_methodLink gg_ml (List.mem_of_getElem? (i := 30) rfl), by decide +kernel, by decide +kernel, by decide +kernel⟩
theorem cl_Jx4a65c_79 : CLs RJx4a65c 79 yJ9_max_7cf53 cJ9_max_7cf53 2 (some (.int)) 2 := ⟨gw_of ge_code gg_code (List.mem_of_getElem? (i := 24) rfl), gw_of ge_initialized gg_initd (List.mem_of_getElem? (i := 14) rfl), gw_of ge_methodLink gg_ml (List.mem_of_getElem? (i := 38) rfl), by decide +kernel, by decide +kernel, by decide +kernel⟩
theorem cl_Jx4a65c_118 : CLs RJx4a65c 118 yJ15_checkIndex_7cf53 cJ15_checkIndex_7cf53 2 (some (.int)) 2 := ⟨gw_of ge_code gg_code (List.mem_of_getElem? (i := 32) rfl), gw_of ge_initialized gg_initd (List.mem_of_getElem? (i := 16) rfl), gw_of ge_methodLink gg_ml (List.mem_of_getElem? (i := 43) rfl), by decide +kernel, by decide +kernel, by decide +kernel⟩
theorem cl_Jx4a65c_123 : CLs RJx4a65c 123 yJx4a65c_elementData_915e3 cJx4a65c_elementData_915e3 2 (some (.object "java/lang/Object")) 1 := ⟨gw_of ge_code gg_code (List.mem_of_getElem? (i := 34) rfl), gw_of ge_initialized gg_initd (List.mem_of_getElem? (i := 5) rfl), gw_of ge_methodLink gg_ml (List.mem_of_getElem? (i := 45) rfl), by decide +kernel, by decide +kernel, by decide +kernel⟩
theorem cl_Jx4a65c_129 : CLs RJx4a65c 129 yJx4a65c_grow_d5877 cJx4a65c_grow_d5877 1 (some (.array (.object "java/lang/Object"))) 0 := ⟨gw_of ge_code gg_code (List.mem_of_getElem? (i := 21) rfl), gw_of ge_initialized gg_initd (List.mem_of_getElem? (i := 5) rfl), gw_of ge_methodLink gg_ml (List.mem_of_getElem? (i := 28) rfl), by decide +kernel, by decide +kernel, by decide +kernel⟩
theorem cl_Jx4a65c_131 : CLs RJx4a65c 131 yJx4a65c_add_72be8 cJx4a65c_add_72be8 4 none 3 := ⟨gw_of ge_code gg_code (List.mem_of_getElem? (i := 20) rfl), gw_of ge_initialized gg_initd (List.mem_of_getElem? (i := 5) rfl), gw_of ge_methodLink gg_ml (List.mem_of_getElem? (i := 27) rfl), by decide +kernel, by decide +kernel, by decide +kernel⟩
theorem cl_Jx4a65c_135 : CLs RJx4a65c 135 yJx4a65c_rangeCheckForAdd_d00df cJx4a65c_rangeCheckForAdd_d00df 2 none 1 := ⟨gw_of ge_code gg_code (List.mem_of_getElem? (i := 109) rfl), gw_of ge_initialized gg_initd (List.mem_of_getElem? (i := 5) rfl), gw_of ge_methodLink gg_ml (List.mem_of_getElem? (i := 138) rfl), by decide +kernel, by decide +kernel, by decide +kernel⟩
theorem cl_J7_300 : CLs RJ7 300 yJ7_copyOf_6403c cJ7_copyOf_6403c 4 (some (.array (.object "java/lang/Object"))) 3 := ⟨gw_of ge_code gg_code (List.mem_of_getElem? (i := 27) rfl), gw_of ge_initialized gg_initd (List.mem_of_getElem? (i := 10) rfl), gw_of ge_methodLink gg_ml (List.mem_of_getElem? (i := 35) rfl), by decide +kernel, by decide +kernel, by decide +kernel⟩
theorem cl_J7_304 : CLs RJ7 304 yJ9_min_7cf53 cJ9_min_7cf53 2 (some (.int)) 2 := ⟨gw_of ge_code gg_code (List.mem_of_getElem? (i := 28) rfl), gw_of ge_initialized gg_initd (List.mem_of_getElem? (i := 14) rfl), gw_of ge_methodLink gg_ml (List.mem_of_getElem? (i := 36) rfl), by decide +kernel, by decide +kernel, by decide +kernel⟩
theorem cl_J15_105 : CLs RJ15 105 yJ3_checkIndex_8e157 cJ3_checkIndex_8e157 3 (some (.int)) 3 := ⟨gw_of ge_code gg_code (List.mem_of_getElem? (i := 33) rfl), gw_of ge_initialized gg_initd (List.mem_of_getElem? (i := 17) rfl), gw_of ge_methodLink gg_ml (List.mem_of_getElem? (i := 44) rfl), by decide +kernel, by decide +kernel, by decide +kernel⟩
theorem cl_J8_194 : CLs RJ8 194 yJ9_max_7cf53 cJ9_max_7cf53 2 (some (.int)) 2 := ⟨gw_of ge_code gg_code (List.mem_of_getElem? (i := 24) rfl), gw_of ge_initialized gg_initd (List.mem_of_getElem? (i := 14) rfl), gw_of ge_methodLink gg_ml (List.mem_of_getElem? (i := 31) rfl), by decide +kernel, by decide +kernel, by decide +kernel⟩
theorem cl_J8_201 : CLs RJ8 201 yJ8_hugeLength_7cf53 cJ8_hugeLength_7cf53 3 (some (.int)) 2 := ⟨gw_of ge_code gg_code (List.mem_of_getElem? (i := 25) rfl), gw_of ge_initialized gg_initd (List.mem_of_getElem? (i := 13) rfl), gw_of ge_methodLink gg_ml (List.mem_of_getElem? (i := 32) rfl), by decide +kernel, by decide +kernel, by decide +kernel⟩
theorem cl_X10_15 : CLn RX10 15 yX4_init cX4_init 1 none 0 := ⟨gw_of ge_code gg_code (List.mem_of_getElem? (i := 2) rfl), gw_of ge_initialized gg_initd (List.mem_of_getElem? (i := 2) rfl), ⟨_, List.mem_of_getElem? (i := 0) rfl⟩, by decide +kernel, by decide +kernel, by decide +kernel⟩
theorem cl_X10_22 : CLn RX10 22 yX6_init cX6_init 1 none 0 := ⟨gw_of ge_code gg_code (List.mem_of_getElem? (i := 7) rfl), gw_of ge_initialized gg_initd (List.mem_of_getElem? (i := 7) rfl), ⟨_, List.mem_of_getElem? (i := 2) rfl⟩, by decide +kernel, by decide +kernel, by decide +kernel⟩
theorem cl_X10_29 : CLn RX10 29 yX5_init cX5_init 1 none 0 := ⟨gw_of ge_code gg_code (List.mem_of_getElem? (i := 8) rfl), gw_of ge_initialized gg_initd (List.mem_of_getElem? (i := 8) rfl), ⟨_, List.mem_of_getElem? (i := 3) rfl⟩, by decide +kernel, by decide +kernel, by decide +kernel⟩
theorem cl_X0_86 : CLn RX0 86 yX10_isWithin cX10_isWithin 3 (some (.boolean)) 3 := ⟨gw_of ge_code gg_code (List.mem_of_getElem? (i := 12) rfl), gw_of ge_initialized gg_initd (List.mem_of_getElem? (i := 1) rfl), ⟨_, List.mem_of_getElem? (i := 5) rfl⟩, by decide +kernel, by decide +kernel, by decide +kernel⟩
theorem cl_X0_108 : CLn RX0 108 yX10_isHand cX10_isHand 1 (some (.boolean)) 1 := ⟨gw_of ge_code gg_code (List.mem_of_getElem? (i := 55) rfl), gw_of ge_initialized gg_initd (List.mem_of_getElem? (i := 1) rfl), ⟨_, List.mem_of_getElem? (i := 10) rfl⟩, by decide +kernel, by decide +kernel, by decide +kernel⟩
theorem cl_X1_27 : CLn RX1 27 yX10_isChoice cX10_isChoice 1 (some (.boolean)) 1 := ⟨gw_of ge_code gg_code (List.mem_of_getElem? (i := 41) rfl), gw_of ge_initialized gg_initd (List.mem_of_getElem? (i := 1) rfl), ⟨_, List.mem_of_getElem? (i := 13) rfl⟩, by decide +kernel, by decide +kernel, by decide +kernel⟩
theorem cl_X2_55 : CLn RX2 55 yX10_isWithin cX10_isWithin 3 (some (.boolean)) 3 := ⟨gw_of ge_code gg_code (List.mem_of_getElem? (i := 12) rfl), gw_of ge_initialized gg_initd (List.mem_of_getElem? (i := 1) rfl), ⟨_, List.mem_of_getElem? (i := 8) rfl⟩, by decide +kernel, by decide +kernel, by decide +kernel⟩
theorem cl_X2_102 : CLn RX2 102 yX10_isLetter cX10_isLetter 1 (some (.boolean)) 1 := ⟨gw_of ge_code gg_code (List.mem_of_getElem? (i := 72) rfl), gw_of ge_initialized gg_initd (List.mem_of_getElem? (i := 1) rfl), ⟨_, List.mem_of_getElem? (i := 9) rfl⟩, by decide +kernel, by decide +kernel, by decide +kernel⟩
theorem cl_X4_26 : CLn RX4 26 yX2_init cX2_init 1 none 0 := ⟨gw_of ge_code gg_code (List.mem_of_getElem? (i := 6) rfl), gw_of ge_initialized gg_initd (List.mem_of_getElem? (i := 6) rfl), ⟨_, List.mem_of_getElem? (i := 1) rfl⟩, by decide +kernel, by decide +kernel, by decide +kernel⟩
theorem cl_X4_38 : CLn RX4 38 yX10_isWithin cX10_isWithin 3 (some (.boolean)) 3 := ⟨gw_of ge_code gg_code (List.mem_of_getElem? (i := 12) rfl), gw_of ge_initialized gg_initd (List.mem_of_getElem? (i := 1) rfl), ⟨_, List.mem_of_getElem? (i := 4) rfl⟩, by decide +kernel, by decide +kernel, by decide +kernel⟩
theorem cl_X6_80 : CLn RX6 80 yX10_isLetter cX10_isLetter 1 (some (.boolean)) 1 := ⟨gw_of ge_code gg_code (List.mem_of_getElem? (i := 72) rfl), gw_of ge_initialized gg_initd (List.mem_of_getElem? (i := 1) rfl), ⟨_, List.mem_of_getElem? (i := 6) rfl⟩, by decide +kernel, by decide +kernel, by decide +kernel⟩
theorem cl_X6_83 : CLn RX6 83 yX10_isWithin cX10_isWithin 3 (some (.boolean)) 3 := ⟨gw_of ge_code gg_code (List.mem_of_getElem? (i := 12) rfl), gw_of ge_initialized gg_initd (List.mem_of_getElem? (i := 1) rfl), ⟨_, List.mem_of_getElem? (i := 7) rfl⟩, by decide +kernel, by decide +kernel, by decide +kernel⟩
theorem cl_X8_46 : CLn RX8 46 yX10_isBox cX10_isBox 1 (some (.boolean)) 1 := ⟨gw_of ge_code gg_code (List.mem_of_getElem? (i := 45) rfl), gw_of ge_initialized gg_initd (List.mem_of_getElem? (i := 1) rfl), ⟨_, List.mem_of_getElem? (i := 11) rfl⟩, by decide +kernel, by decide +kernel, by decide +kernel⟩
theorem cl_X8_56 : CLn RX8 56 yX10_isWithin cX10_isWithin 3 (some (.boolean)) 3 := ⟨gw_of ge_code gg_code (List.mem_of_getElem? (i := 12) rfl), gw_of ge_initialized gg_initd (List.mem_of_getElem? (i := 1) rfl), ⟨_, List.mem_of_getElem? (i := 12) rfl⟩, by decide +kernel, by decide +kernel, by decide +kernel⟩
theorem im_X10_init : Cond.instanceMethod yX10_init ∈ gwl := gw_of ge_instanceMethod gg_im (List.mem_of_getElem? (i := 0) rfl)
theorem im_X10_booth : Cond.instanceMethod yX10_booth ∈ gwl := gw_of ge_instanceMethod gg_im (List.mem_of_getElem? (i := 40) rfl)
theorem se_X10_booth : Cond.selects yX10_booth.cls yX10_booth yX10_booth ∈ gwl := gw_of ge_selects gg_sel (List.mem_of_getElem? (i := 36) rfl)
theorem im_X10_count : Cond.instanceMethod yX10_count ∈ gwl := gw_of ge_instanceMethod gg_im (List.mem_of_getElem? (i := 132) rfl)
theorem se_X10_count : Cond.selects yX10_count.cls yX10_count yX10_count ∈ gwl := gw_of ge_selects gg_sel (List.mem_of_getElem? (i := 115) rfl)
theorem im_X10_days : Cond.instanceMethod yX10_days ∈ gwl := gw_of ge_instanceMethod gg_im (List.mem_of_getElem? (i := 10) rfl)
theorem se_X10_days : Cond.selects yX10_days.cls yX10_days yX10_days ∈ gwl := gw_of ge_selects gg_sel (List.mem_of_getElem? (i := 0) rfl)
theorem im_X10_doubles : Cond.instanceMethod yX10_doubles ∈ gwl := gw_of ge_instanceMethod gg_im (List.mem_of_getElem? (i := 90) rfl)
theorem se_X10_doubles : Cond.selects yX10_doubles.cls yX10_doubles yX10_doubles ∈ gwl := gw_of ge_selects gg_sel (List.mem_of_getElem? (i := 77) rfl)
theorem im_X10_empty : Cond.instanceMethod yX10_empty ∈ gwl := gw_of ge_instanceMethod gg_im (List.mem_of_getElem? (i := 31) rfl)
theorem se_X10_empty : Cond.selects yX10_empty.cls yX10_empty yX10_empty ∈ gwl := gw_of ge_selects gg_sel (List.mem_of_getElem? (i := 27) rfl)
theorem im_X10_end : Cond.instanceMethod yX10_end ∈ gwl := gw_of ge_instanceMethod gg_im (List.mem_of_getElem? (i := 43) rfl)
theorem se_X10_end : Cond.selects yX10_end.cls yX10_end yX10_end ∈ gwl := gw_of ge_selects gg_sel (List.mem_of_getElem? (i := 39) rfl)
theorem im_X10_ends : Cond.instanceMethod yX10_ends ∈ gwl := gw_of ge_instanceMethod gg_im (List.mem_of_getElem? (i := 124) rfl)
theorem se_X10_ends : Cond.selects yX10_ends.cls yX10_ends yX10_ends ∈ gwl := gw_of ge_selects gg_sel (List.mem_of_getElem? (i := 109) rfl)
theorem im_X10_event : Cond.instanceMethod yX10_event ∈ gwl := gw_of ge_instanceMethod gg_im (List.mem_of_getElem? (i := 29) rfl)
theorem se_X10_event : Cond.selects yX10_event.cls yX10_event yX10_event ∈ gwl := gw_of ge_selects gg_sel (List.mem_of_getElem? (i := 25) rfl)
theorem im_X10_fault : Cond.instanceMethod yX10_fault ∈ gwl := gw_of ge_instanceMethod gg_im (List.mem_of_getElem? (i := 44) rfl)
theorem se_X10_fault : Cond.selects yX10_fault.cls yX10_fault yX10_fault ∈ gwl := gw_of ge_selects gg_sel (List.mem_of_getElem? (i := 40) rfl)
theorem im_X10_feed : Cond.instanceMethod yX10_feed ∈ gwl := gw_of ge_instanceMethod gg_im (List.mem_of_getElem? (i := 41) rfl)
theorem se_X10_feed : Cond.selects yX10_feed.cls yX10_feed yX10_feed ∈ gwl := gw_of ge_selects gg_sel (List.mem_of_getElem? (i := 37) rfl)
theorem im_X10_first : Cond.instanceMethod yX10_first ∈ gwl := gw_of ge_instanceMethod gg_im (List.mem_of_getElem? (i := 89) rfl)
theorem se_X10_first : Cond.selects yX10_first.cls yX10_first yX10_first ∈ gwl := gw_of ge_selects gg_sel (List.mem_of_getElem? (i := 76) rfl)
theorem im_X10_fitsHeap : Cond.instanceMethod yX10_fitsHeap ∈ gwl := gw_of ge_instanceMethod gg_im (List.mem_of_getElem? (i := 127) rfl)
theorem se_X10_fitsHeap : Cond.selects yX10_fitsHeap.cls yX10_fitsHeap yX10_fitsHeap ∈ gwl := gw_sel (List.mem_of_getElem? (i := 14) rfl)
theorem im_X10_habit : Cond.instanceMethod yX10_habit ∈ gwl := gw_of ge_instanceMethod gg_im (List.mem_of_getElem? (i := 93) rfl)
theorem se_X10_habit : Cond.selects yX10_habit.cls yX10_habit yX10_habit ∈ gwl := gw_of ge_selects gg_sel (List.mem_of_getElem? (i := 80) rfl)
theorem im_X10_hand : Cond.instanceMethod yX10_hand ∈ gwl := gw_of ge_instanceMethod gg_im (List.mem_of_getElem? (i := 39) rfl)
theorem se_X10_hand : Cond.selects yX10_hand.cls yX10_hand yX10_hand ∈ gwl := gw_of ge_selects gg_sel (List.mem_of_getElem? (i := 35) rfl)
theorem im_X10_harshest : Cond.instanceMethod yX10_harshest ∈ gwl := gw_of ge_instanceMethod gg_im (List.mem_of_getElem? (i := 96) rfl)
theorem se_X10_harshest : Cond.selects yX10_harshest.cls yX10_harshest yX10_harshest ∈ gwl := gw_of ge_selects gg_sel (List.mem_of_getElem? (i := 83) rfl)
theorem im_X10_heap : Cond.instanceMethod yX10_heap ∈ gwl := gw_of ge_instanceMethod gg_im (List.mem_of_getElem? (i := 130) rfl)
theorem se_X10_heap : Cond.selects yX10_heap.cls yX10_heap yX10_heap ∈ gwl := gw_of ge_selects gg_sel (List.mem_of_getElem? (i := 113) rfl)
theorem st_X10_isBox : Cond.static yX10_isBox ∈ gwl := gw_of ge_static gg_static (List.mem_of_getElem? (i := 16) rfl)
theorem st_X10_isChoice : Cond.static yX10_isChoice ∈ gwl := gw_of ge_static gg_static (List.mem_of_getElem? (i := 15) rfl)
theorem st_X10_isDay : Cond.static yX10_isDay ∈ gwl := gw_of ge_static gg_static (List.mem_of_getElem? (i := 14) rfl)
theorem st_X10_isHand : Cond.static yX10_isHand ∈ gwl := gw_of ge_static gg_static (List.mem_of_getElem? (i := 17) rfl)
theorem st_X10_isLetter : Cond.static yX10_isLetter ∈ gwl := gw_of ge_static gg_static (List.mem_of_getElem? (i := 19) rfl)
theorem st_X10_isMinute : Cond.static yX10_isMinute ∈ gwl := gw_of ge_static gg_static (List.mem_of_getElem? (i := 40) rfl)
theorem st_X10_isShire : Cond.static yX10_isShire ∈ gwl := gw_of ge_static gg_static (List.mem_of_getElem? (i := 2) rfl)
theorem st_X10_isSign : Cond.static yX10_isSign ∈ gwl := gw_of ge_static gg_static (List.mem_of_getElem? (i := 4) rfl)
theorem st_X10_isStreet : Cond.static yX10_isStreet ∈ gwl := gw_of ge_static gg_static (List.mem_of_getElem? (i := 3) rfl)
theorem im_X10_isUpToNow : Cond.instanceMethod yX10_isUpToNow ∈ gwl := gw_of ge_instanceMethod gg_im (List.mem_of_getElem? (i := 23) rfl)
theorem se_X10_isUpToNow : Cond.selects yX10_isUpToNow.cls yX10_isUpToNow yX10_isUpToNow ∈ gwl := gw_sel (List.mem_of_getElem? (i := 3) rfl)
theorem st_X10_isWithin : Cond.static yX10_isWithin ∈ gwl := gw_of ge_static gg_static (List.mem_of_getElem? (i := 1) rfl)
theorem im_X10_judged : Cond.instanceMethod yX10_judged ∈ gwl := gw_of ge_instanceMethod gg_im (List.mem_of_getElem? (i := 70) rfl)
theorem se_X10_judged : Cond.selects yX10_judged.cls yX10_judged yX10_judged ∈ gwl := gw_sel (List.mem_of_getElem? (i := 10) rfl)
theorem im_X10_late : Cond.instanceMethod yX10_late ∈ gwl := gw_of ge_instanceMethod gg_im (List.mem_of_getElem? (i := 125) rfl)
theorem se_X10_late : Cond.selects yX10_late.cls yX10_late yX10_late ∈ gwl := gw_of ge_selects gg_sel (List.mem_of_getElem? (i := 110) rfl)
theorem im_X10_latest : Cond.instanceMethod yX10_latest ∈ gwl := gw_of ge_instanceMethod gg_im (List.mem_of_getElem? (i := 110) rfl)
theorem se_X10_latest : Cond.selects yX10_latest.cls yX10_latest yX10_latest ∈ gwl := gw_of ge_selects gg_sel (List.mem_of_getElem? (i := 96) rfl)
theorem im_X10_law : Cond.instanceMethod yX10_law ∈ gwl := gw_of ge_instanceMethod gg_im (List.mem_of_getElem? (i := 64) rfl)
theorem se_X10_law : Cond.selects yX10_law.cls yX10_law yX10_law ∈ gwl := gw_of ge_selects gg_sel (List.mem_of_getElem? (i := 54) rfl)
theorem im_X10_lawful : Cond.instanceMethod yX10_lawful ∈ gwl := gw_of ge_instanceMethod gg_im (List.mem_of_getElem? (i := 67) rfl)
theorem se_X10_lawful : Cond.selects yX10_lawful.cls yX10_lawful yX10_lawful ∈ gwl := gw_of ge_selects gg_sel (List.mem_of_getElem? (i := 56) rfl)
theorem im_X10_layCounted : Cond.instanceMethod yX10_layCounted ∈ gwl := gw_of ge_instanceMethod gg_im (List.mem_of_getElem? (i := 100) rfl)
theorem se_X10_layCounted : Cond.selects yX10_layCounted.cls yX10_layCounted yX10_layCounted ∈ gwl := gw_sel (List.mem_of_getElem? (i := 12) rfl)
theorem im_X10_letter : Cond.instanceMethod yX10_letter ∈ gwl := gw_of ge_instanceMethod gg_im (List.mem_of_getElem? (i := 135) rfl)
theorem se_X10_letter : Cond.selects yX10_letter.cls yX10_letter yX10_letter ∈ gwl := gw_of ge_selects gg_sel (List.mem_of_getElem? (i := 116) rfl)
theorem im_X10_many : Cond.instanceMethod yX10_many ∈ gwl := gw_of ge_instanceMethod gg_im (List.mem_of_getElem? (i := 92) rfl)
theorem se_X10_many : Cond.selects yX10_many.cls yX10_many yX10_many ∈ gwl := gw_of ge_selects gg_sel (List.mem_of_getElem? (i := 79) rfl)
theorem im_X10_manyInHeaps : Cond.instanceMethod yX10_manyInHeaps ∈ gwl := gw_of ge_instanceMethod gg_im (List.mem_of_getElem? (i := 133) rfl)
theorem se_X10_manyInHeaps : Cond.selects yX10_manyInHeaps.cls yX10_manyInHeaps yX10_manyInHeaps ∈ gwl := gw_sel (List.mem_of_getElem? (i := 15) rfl)
theorem im_X10_manyWrong : Cond.instanceMethod yX10_manyWrong ∈ gwl := gw_of ge_instanceMethod gg_im (List.mem_of_getElem? (i := 134) rfl)
theorem se_X10_manyWrong : Cond.selects yX10_manyWrong.cls yX10_manyWrong yX10_manyWrong ∈ gwl := gw_sel (List.mem_of_getElem? (i := 16) rfl)
theorem im_X10_move : Cond.instanceMethod yX10_move ∈ gwl := gw_of ge_instanceMethod gg_im (List.mem_of_getElem? (i := 19) rfl)
theorem se_X10_move : Cond.selects yX10_move.cls yX10_move yX10_move ∈ gwl := gw_of ge_selects gg_sel (List.mem_of_getElem? (i := 18) rfl)
theorem im_X10_open : Cond.instanceMethod yX10_open ∈ gwl := gw_of ge_instanceMethod gg_im (List.mem_of_getElem? (i := 126) rfl)
theorem se_X10_open : Cond.selects yX10_open.cls yX10_open yX10_open ∈ gwl := gw_of ge_selects gg_sel (List.mem_of_getElem? (i := 111) rfl)
theorem im_X10_press : Cond.instanceMethod yX10_press ∈ gwl := gw_of ge_instanceMethod gg_im (List.mem_of_getElem? (i := 104) rfl)
theorem se_X10_press : Cond.selects yX10_press.cls yX10_press yX10_press ∈ gwl := gw_of ge_selects gg_sel (List.mem_of_getElem? (i := 90) rfl)
theorem im_X10_printed : Cond.instanceMethod yX10_printed ∈ gwl := gw_of ge_instanceMethod gg_im (List.mem_of_getElem? (i := 105) rfl)
theorem se_X10_printed : Cond.selects yX10_printed.cls yX10_printed yX10_printed ∈ gwl := gw_of ge_selects gg_sel (List.mem_of_getElem? (i := 91) rfl)
theorem im_X10_read : Cond.instanceMethod yX10_read ∈ gwl := gw_of ge_instanceMethod gg_im (List.mem_of_getElem? (i := 38) rfl)
theorem se_X10_read : Cond.selects yX10_read.cls yX10_read yX10_read ∈ gwl := gw_of ge_selects gg_sel (List.mem_of_getElem? (i := 34) rfl)
theorem im_X10_reason : Cond.instanceMethod yX10_reason ∈ gwl := gw_of ge_instanceMethod gg_im (List.mem_of_getElem? (i := 87) rfl)
theorem se_X10_reason : Cond.selects yX10_reason.cls yX10_reason yX10_reason ∈ gwl := gw_of ge_selects gg_sel (List.mem_of_getElem? (i := 74) rfl)
theorem im_X10_recheck : Cond.instanceMethod yX10_recheck ∈ gwl := gw_of ge_instanceMethod gg_im (List.mem_of_getElem? (i := 99) rfl)
theorem se_X10_recheck : Cond.selects yX10_recheck.cls yX10_recheck yX10_recheck ∈ gwl := gw_of ge_selects gg_sel (List.mem_of_getElem? (i := 86) rfl)
theorem im_X10_road : Cond.instanceMethod yX10_road ∈ gwl := gw_of ge_instanceMethod gg_im (List.mem_of_getElem? (i := 113) rfl)
theorem se_X10_road : Cond.selects yX10_road.cls yX10_road yX10_road ∈ gwl := gw_of ge_selects gg_sel (List.mem_of_getElem? (i := 99) rfl)
theorem im_X10_round : Cond.instanceMethod yX10_round ∈ gwl := gw_of ge_instanceMethod gg_im (List.mem_of_getElem? (i := 117) rfl)
theorem se_X10_round : Cond.selects yX10_round.cls yX10_round yX10_round ∈ gwl := gw_of ge_selects gg_sel (List.mem_of_getElem? (i := 103) rfl)
theorem im_X10_route : Cond.instanceMethod yX10_route ∈ gwl := gw_of ge_instanceMethod gg_im (List.mem_of_getElem? (i := 120) rfl)
theorem se_X10_route : Cond.selects yX10_route.cls yX10_route yX10_route ∈ gwl := gw_of ge_selects gg_sel (List.mem_of_getElem? (i := 106) rfl)
theorem im_X10_ruled : Cond.instanceMethod yX10_ruled ∈ gwl := gw_of ge_instanceMethod gg_im (List.mem_of_getElem? (i := 88) rfl)
theorem se_X10_ruled : Cond.selects yX10_ruled.cls yX10_ruled yX10_ruled ∈ gwl := gw_of ge_selects gg_sel (List.mem_of_getElem? (i := 75) rfl)
theorem im_X10_sealed : Cond.instanceMethod yX10_sealed ∈ gwl := gw_of ge_instanceMethod gg_im (List.mem_of_getElem? (i := 32) rfl)
theorem se_X10_sealed : Cond.selects yX10_sealed.cls yX10_sealed yX10_sealed ∈ gwl := gw_of ge_selects gg_sel (List.mem_of_getElem? (i := 28) rfl)
theorem im_X10_send : Cond.instanceMethod yX10_send ∈ gwl := gw_of ge_instanceMethod gg_im (List.mem_of_getElem? (i := 27) rfl)
theorem se_X10_send : Cond.selects yX10_send.cls yX10_send yX10_send ∈ gwl := gw_of ge_selects gg_sel (List.mem_of_getElem? (i := 24) rfl)
theorem im_X10_shire : Cond.instanceMethod yX10_shire ∈ gwl := gw_of ge_instanceMethod gg_im (List.mem_of_getElem? (i := 25) rfl)
theorem se_X10_shire : Cond.selects yX10_shire.cls yX10_shire yX10_shire ∈ gwl := gw_of ge_selects gg_sel (List.mem_of_getElem? (i := 22) rfl)
theorem st_X10_signsIn : Cond.static yX10_signsIn ∈ gwl := gw_of ge_static gg_static (List.mem_of_getElem? (i := 18) rfl)
theorem im_X10_size : Cond.instanceMethod yX10_size ∈ gwl := gw_of ge_instanceMethod gg_im (List.mem_of_getElem? (i := 97) rfl)
theorem se_X10_size : Cond.selects yX10_size.cls yX10_size yX10_size ∈ gwl := gw_of ge_selects gg_sel (List.mem_of_getElem? (i := 84) rfl)
theorem im_X10_stand : Cond.instanceMethod yX10_stand ∈ gwl := gw_of ge_instanceMethod gg_im (List.mem_of_getElem? (i := 111) rfl)
theorem se_X10_stand : Cond.selects yX10_stand.cls yX10_stand yX10_stand ∈ gwl := gw_of ge_selects gg_sel (List.mem_of_getElem? (i := 97) rfl)
theorem im_X10_state : Cond.instanceMethod yX10_state ∈ gwl := gw_of ge_instanceMethod gg_im (List.mem_of_getElem? (i := 69) rfl)
theorem se_X10_state : Cond.selects yX10_state.cls yX10_state yX10_state ∈ gwl := gw_of ge_selects gg_sel (List.mem_of_getElem? (i := 58) rfl)
theorem im_X10_stops : Cond.instanceMethod yX10_stops ∈ gwl := gw_of ge_instanceMethod gg_im (List.mem_of_getElem? (i := 115) rfl)
theorem se_X10_stops : Cond.selects yX10_stops.cls yX10_stops yX10_stops ∈ gwl := gw_of ge_selects gg_sel (List.mem_of_getElem? (i := 101) rfl)
theorem im_X10_street : Cond.instanceMethod yX10_street ∈ gwl := gw_of ge_instanceMethod gg_im (List.mem_of_getElem? (i := 131) rfl)
theorem se_X10_street : Cond.selects yX10_street.cls yX10_street yX10_street ∈ gwl := gw_of ge_selects gg_sel (List.mem_of_getElem? (i := 114) rfl)
theorem im_X10_usual : Cond.instanceMethod yX10_usual ∈ gwl := gw_of ge_instanceMethod gg_im (List.mem_of_getElem? (i := 122) rfl)
theorem se_X10_usual : Cond.selects yX10_usual.cls yX10_usual yX10_usual ∈ gwl := gw_of ge_selects gg_sel (List.mem_of_getElem? (i := 108) rfl)
theorem im_X10_usualOf : Cond.instanceMethod yX10_usualOf ∈ gwl := gw_of ge_instanceMethod gg_im (List.mem_of_getElem? (i := 123) rfl)
theorem se_X10_usualOf : Cond.selects yX10_usualOf.cls yX10_usualOf yX10_usualOf ∈ gwl := gw_sel (List.mem_of_getElem? (i := 13) rfl)
theorem im_X10_voter : Cond.instanceMethod yX10_voter ∈ gwl := gw_of ge_instanceMethod gg_im (List.mem_of_getElem? (i := 11) rfl)
theorem se_X10_voter : Cond.selects yX10_voter.cls yX10_voter yX10_voter ∈ gwl := gw_of ge_selects gg_sel (List.mem_of_getElem? (i := 1) rfl)
theorem im_X10_wave : Cond.instanceMethod yX10_wave ∈ gwl := gw_of ge_instanceMethod gg_im (List.mem_of_getElem? (i := 102) rfl)
theorem se_X10_wave : Cond.selects yX10_wave.cls yX10_wave yX10_wave ∈ gwl := gw_of ge_selects gg_sel (List.mem_of_getElem? (i := 88) rfl)
theorem im_X0_init : Cond.instanceMethod yX0_init ∈ gwl := gw_of ge_instanceMethod gg_im (List.mem_of_getElem? (i := 28) rfl)
theorem im_X0_doublesOf : Cond.instanceMethod yX0_doublesOf ∈ gwl := gw_of ge_instanceMethod gg_im (List.mem_of_getElem? (i := 95) rfl)
theorem se_X0_doublesOf : Cond.selects yX0_doublesOf.cls yX0_doublesOf yX0_doublesOf ∈ gwl := gw_of ge_selects gg_sel (List.mem_of_getElem? (i := 82) rfl)
theorem im_X0_forget : Cond.instanceMethod yX0_forget ∈ gwl := gw_of ge_instanceMethod gg_im (List.mem_of_getElem? (i := 36) rfl)
theorem se_X0_forget : Cond.selects yX0_forget.cls yX0_forget yX0_forget ∈ gwl := gw_of ge_selects gg_sel (List.mem_of_getElem? (i := 32) rfl)
theorem im_X0_handsThatTold : Cond.instanceMethod yX0_handsThatTold ∈ gwl := gw_of ge_instanceMethod gg_im (List.mem_of_getElem? (i := 83) rfl)
theorem se_X0_handsThatTold : Cond.selects yX0_handsThatTold.cls yX0_handsThatTold yX0_handsThatTold ∈ gwl := gw_of ge_selects gg_sel (List.mem_of_getElem? (i := 70) rfl)
theorem im_X0_isCounted : Cond.instanceMethod yX0_isCounted ∈ gwl := gw_of ge_instanceMethod gg_im (List.mem_of_getElem? (i := 101) rfl)
theorem se_X0_isCounted : Cond.selects yX0_isCounted.cls yX0_isCounted yX0_isCounted ∈ gwl := gw_of ge_selects gg_sel (List.mem_of_getElem? (i := 87) rfl)
theorem im_X0_learn : Cond.instanceMethod yX0_learn ∈ gwl := gw_of ge_instanceMethod gg_im (List.mem_of_getElem? (i := 35) rfl)
theorem se_X0_learn : Cond.selects yX0_learn.cls yX0_learn yX0_learn ∈ gwl := gw_of ge_selects gg_sel (List.mem_of_getElem? (i := 31) rfl)
theorem im_X0_numberOf : Cond.instanceMethod yX0_numberOf ∈ gwl := gw_of ge_instanceMethod gg_im (List.mem_of_getElem? (i := 81) rfl)
theorem se_X0_numberOf : Cond.selects yX0_numberOf.cls yX0_numberOf yX0_numberOf ∈ gwl := gw_of ge_selects gg_sel (List.mem_of_getElem? (i := 68) rfl)
theorem im_X0_shireOf : Cond.instanceMethod yX0_shireOf ∈ gwl := gw_of ge_instanceMethod gg_im (List.mem_of_getElem? (i := 78) rfl)
theorem se_X0_shireOf : Cond.selects yX0_shireOf.cls yX0_shireOf yX0_shireOf ∈ gwl := gw_of ge_selects gg_sel (List.mem_of_getElem? (i := 65) rfl)
theorem im_X0_unlikeFigures : Cond.instanceMethod yX0_unlikeFigures ∈ gwl := gw_of ge_instanceMethod gg_im (List.mem_of_getElem? (i := 82) rfl)
theorem se_X0_unlikeFigures : Cond.selects yX0_unlikeFigures.cls yX0_unlikeFigures yX0_unlikeFigures ∈ gwl := gw_of ge_selects gg_sel (List.mem_of_getElem? (i := 69) rfl)
theorem im_X1_init : Cond.instanceMethod yX1_init ∈ gwl := gw_of ge_instanceMethod gg_im (List.mem_of_getElem? (i := 128) rfl)
theorem im_X1_lay : Cond.instanceMethod yX1_lay ∈ gwl := gw_of ge_instanceMethod gg_im (List.mem_of_getElem? (i := 129) rfl)
theorem se_X1_lay : Cond.selects yX1_lay.cls yX1_lay yX1_lay ∈ gwl := gw_of ge_selects gg_sel (List.mem_of_getElem? (i := 112) rfl)
theorem im_X2_init : Cond.instanceMethod yX2_init ∈ gwl := gw_of ge_instanceMethod gg_im (List.mem_of_getElem? (i := 6) rfl)
theorem im_X2_awaitCure : Cond.instanceMethod yX2_awaitCure ∈ gwl := gw_of ge_instanceMethod gg_im (List.mem_of_getElem? (i := 86) rfl)
theorem se_X2_awaitCure : Cond.selects yX2_awaitCure.cls yX2_awaitCure yX2_awaitCure ∈ gwl := gw_of ge_selects gg_sel (List.mem_of_getElem? (i := 73) rfl)
theorem st_X2_bounded : Cond.static yX2_bounded ∈ gwl := gw_of ge_static gg_static (List.mem_of_getElem? (i := 37) rfl)
theorem im_X2_decide : Cond.instanceMethod yX2_decide ∈ gwl := gw_of ge_instanceMethod gg_im (List.mem_of_getElem? (i := 77) rfl)
theorem se_X2_decide : Cond.selects yX2_decide.cls yX2_decide yX2_decide ∈ gwl := gw_of ge_selects gg_sel (List.mem_of_getElem? (i := 64) rfl)
theorem im_X2_inForce : Cond.instanceMethod yX2_inForce ∈ gwl := gw_of ge_instanceMethod gg_im (List.mem_of_getElem? (i := 68) rfl)
theorem se_X2_inForce : Cond.selects yX2_inForce.cls yX2_inForce yX2_inForce ∈ gwl := gw_of ge_selects gg_sel (List.mem_of_getElem? (i := 57) rfl)
theorem st_X2_joined : Cond.static yX2_joined ∈ gwl := gw_of ge_static gg_static (List.mem_of_getElem? (i := 36) rfl)
theorem im_X2_pass : Cond.instanceMethod yX2_pass ∈ gwl := gw_of ge_instanceMethod gg_im (List.mem_of_getElem? (i := 85) rfl)
theorem se_X2_pass : Cond.selects yX2_pass.cls yX2_pass yX2_pass ∈ gwl := gw_of ge_selects gg_sel (List.mem_of_getElem? (i := 72) rfl)
theorem im_X2_pop : Cond.instanceMethod yX2_pop ∈ gwl := gw_of ge_instanceMethod gg_im (List.mem_of_getElem? (i := 84) rfl)
theorem se_X2_pop : Cond.selects yX2_pop.cls yX2_pop yX2_pop ∈ gwl := gw_of ge_selects gg_sel (List.mem_of_getElem? (i := 71) rfl)
theorem im_X2_push : Cond.instanceMethod yX2_push ∈ gwl := gw_of ge_instanceMethod gg_im (List.mem_of_getElem? (i := 80) rfl)
theorem se_X2_push : Cond.selects yX2_push.cls yX2_push yX2_push ∈ gwl := gw_of ge_selects gg_sel (List.mem_of_getElem? (i := 67) rfl)
theorem im_X2_valueOf : Cond.instanceMethod yX2_valueOf ∈ gwl := gw_of ge_instanceMethod gg_im (List.mem_of_getElem? (i := 79) rfl)
theorem se_X2_valueOf : Cond.selects yX2_valueOf.cls yX2_valueOf yX2_valueOf ∈ gwl := gw_of ge_selects gg_sel (List.mem_of_getElem? (i := 66) rfl)
theorem im_X3_init : Cond.instanceMethod yX3_init ∈ gwl := gw_of ge_instanceMethod gg_im (List.mem_of_getElem? (i := 65) rfl)
theorem im_X4_init : Cond.instanceMethod yX4_init ∈ gwl := gw_of ge_instanceMethod gg_im (List.mem_of_getElem? (i := 2) rfl)
theorem im_X4_doublesOf : Cond.instanceMethod yX4_doublesOf ∈ gwl := gw_of ge_instanceMethod gg_im (List.mem_of_getElem? (i := 94) rfl)
theorem se_X4_doublesOf : Cond.selects yX4_doublesOf.cls yX4_doublesOf yX4_doublesOf ∈ gwl := gw_of ge_selects gg_sel (List.mem_of_getElem? (i := 81) rfl)
theorem im_X4_envelopeAt : Cond.instanceMethod yX4_envelopeAt ∈ gwl := gw_of ge_instanceMethod gg_im (List.mem_of_getElem? (i := 30) rfl)
theorem se_X4_envelopeAt : Cond.selects yX4_envelopeAt.cls yX4_envelopeAt yX4_envelopeAt ∈ gwl := gw_of ge_selects gg_sel (List.mem_of_getElem? (i := 26) rfl)
theorem im_X4_firstEmptying : Cond.instanceMethod yX4_firstEmptying ∈ gwl := gw_of ge_instanceMethod gg_im (List.mem_of_getElem? (i := 37) rfl)
theorem se_X4_firstEmptying : Cond.selects yX4_firstEmptying.cls yX4_firstEmptying yX4_firstEmptying ∈ gwl := gw_of ge_selects gg_sel (List.mem_of_getElem? (i := 33) rfl)
theorem im_X4_judgeAll : Cond.instanceMethod yX4_judgeAll ∈ gwl := gw_of ge_instanceMethod gg_im (List.mem_of_getElem? (i := 91) rfl)
theorem se_X4_judgeAll : Cond.selects yX4_judgeAll.cls yX4_judgeAll yX4_judgeAll ∈ gwl := gw_of ge_selects gg_sel (List.mem_of_getElem? (i := 78) rfl)
theorem im_X4_judgeOf : Cond.instanceMethod yX4_judgeOf ∈ gwl := gw_of ge_instanceMethod gg_im (List.mem_of_getElem? (i := 71) rfl)
theorem se_X4_judgeOf : Cond.selects yX4_judgeOf.cls yX4_judgeOf yX4_judgeOf ∈ gwl := gw_of ge_selects gg_sel (List.mem_of_getElem? (i := 59) rfl)
theorem im_X4_manyBy : Cond.instanceMethod yX4_manyBy ∈ gwl := gw_of ge_instanceMethod gg_im (List.mem_of_getElem? (i := 33) rfl)
theorem se_X4_manyBy : Cond.selects yX4_manyBy.cls yX4_manyBy yX4_manyBy ∈ gwl := gw_of ge_selects gg_sel (List.mem_of_getElem? (i := 29) rfl)
theorem im_X4_putInOrder : Cond.instanceMethod yX4_putInOrder ∈ gwl := gw_of ge_instanceMethod gg_im (List.mem_of_getElem? (i := 74) rfl)
theorem se_X4_putInOrder : Cond.selects yX4_putInOrder.cls yX4_putInOrder yX4_putInOrder ∈ gwl := gw_of ge_selects gg_sel (List.mem_of_getElem? (i := 62) rfl)
theorem im_X4_settle : Cond.instanceMethod yX4_settle ∈ gwl := gw_of ge_instanceMethod gg_im (List.mem_of_getElem? (i := 34) rfl)
theorem se_X4_settle : Cond.selects yX4_settle.cls yX4_settle yX4_settle ∈ gwl := gw_of ge_selects gg_sel (List.mem_of_getElem? (i := 30) rfl)
theorem im_X4_voterAt : Cond.instanceMethod yX4_voterAt ∈ gwl := gw_of ge_instanceMethod gg_im (List.mem_of_getElem? (i := 20) rfl)
theorem se_X4_voterAt : Cond.selects yX4_voterAt.cls yX4_voterAt yX4_voterAt ∈ gwl := gw_of ge_selects gg_sel (List.mem_of_getElem? (i := 19) rfl)
theorem im_X5_init : Cond.instanceMethod yX5_init ∈ gwl := gw_of ge_instanceMethod gg_im (List.mem_of_getElem? (i := 8) rfl)
theorem im_X5_mostUrgent : Cond.instanceMethod yX5_mostUrgent ∈ gwl := gw_of ge_instanceMethod gg_im (List.mem_of_getElem? (i := 107) rfl)
theorem se_X5_mostUrgent : Cond.selects yX5_mostUrgent.cls yX5_mostUrgent yX5_mostUrgent ∈ gwl := gw_of ge_selects gg_sel (List.mem_of_getElem? (i := 93) rfl)
theorem im_X5_nextReady : Cond.instanceMethod yX5_nextReady ∈ gwl := gw_of ge_instanceMethod gg_im (List.mem_of_getElem? (i := 108) rfl)
theorem se_X5_nextReady : Cond.selects yX5_nextReady.cls yX5_nextReady yX5_nextReady ∈ gwl := gw_of ge_selects gg_sel (List.mem_of_getElem? (i := 94) rfl)
theorem im_X5_order : Cond.instanceMethod yX5_order ∈ gwl := gw_of ge_instanceMethod gg_im (List.mem_of_getElem? (i := 103) rfl)
theorem se_X5_order : Cond.selects yX5_order.cls yX5_order yX5_order ∈ gwl := gw_of ge_selects gg_sel (List.mem_of_getElem? (i := 89) rfl)
theorem im_X5_plan : Cond.instanceMethod yX5_plan ∈ gwl := gw_of ge_instanceMethod gg_im (List.mem_of_getElem? (i := 106) rfl)
theorem se_X5_plan : Cond.selects yX5_plan.cls yX5_plan yX5_plan ∈ gwl := gw_of ge_selects gg_sel (List.mem_of_getElem? (i := 92) rfl)
theorem im_X5_wholeDays : Cond.instanceMethod yX5_wholeDays ∈ gwl := gw_of ge_instanceMethod gg_im (List.mem_of_getElem? (i := 109) rfl)
theorem se_X5_wholeDays : Cond.selects yX5_wholeDays.cls yX5_wholeDays yX5_wholeDays ∈ gwl := gw_of ge_selects gg_sel (List.mem_of_getElem? (i := 95) rfl)
theorem im_X6_init : Cond.instanceMethod yX6_init ∈ gwl := gw_of ge_instanceMethod gg_im (List.mem_of_getElem? (i := 7) rfl)
theorem im_X6_firstFault : Cond.instanceMethod yX6_firstFault ∈ gwl := gw_of ge_instanceMethod gg_im (List.mem_of_getElem? (i := 45) rfl)
theorem se_X6_firstFault : Cond.selects yX6_firstFault.cls yX6_firstFault yX6_firstFault ∈ gwl := gw_of ge_selects gg_sel (List.mem_of_getElem? (i := 41) rfl)
theorem im_X6_nextSign : Cond.instanceMethod yX6_nextSign ∈ gwl := gw_of ge_instanceMethod gg_im (List.mem_of_getElem? (i := 50) rfl)
theorem se_X6_nextSign : Cond.selects yX6_nextSign.cls yX6_nextSign yX6_nextSign ∈ gwl := gw_of ge_selects gg_sel (List.mem_of_getElem? (i := 43) rfl)
theorem im_X6_readAtom : Cond.instanceMethod yX6_readAtom ∈ gwl := gw_of ge_instanceMethod gg_im (List.mem_of_getElem? (i := 54) rfl)
theorem se_X6_readAtom : Cond.selects yX6_readAtom.cls yX6_readAtom yX6_readAtom ∈ gwl := gw_sel (List.mem_of_getElem? (i := 9) rfl)
theorem im_X6_readComparison : Cond.instanceMethod yX6_readComparison ∈ gwl := gw_of ge_instanceMethod gg_im (List.mem_of_getElem? (i := 51) rfl)
theorem se_X6_readComparison : Cond.selects yX6_readComparison.cls yX6_readComparison yX6_readComparison ∈ gwl := gw_of ge_selects gg_sel (List.mem_of_getElem? (i := 44) rfl)
theorem im_X6_readCondition : Cond.instanceMethod yX6_readCondition ∈ gwl := gw_of ge_instanceMethod gg_im (List.mem_of_getElem? (i := 47) rfl)
theorem se_X6_readCondition : Cond.selects yX6_readCondition.cls yX6_readCondition yX6_readCondition ∈ gwl := gw_sel (List.mem_of_getElem? (i := 4) rfl)
theorem im_X6_readNumber : Cond.instanceMethod yX6_readNumber ∈ gwl := gw_of ge_instanceMethod gg_im (List.mem_of_getElem? (i := 61) rfl)
theorem se_X6_readNumber : Cond.selects yX6_readNumber.cls yX6_readNumber yX6_readNumber ∈ gwl := gw_of ge_selects gg_sel (List.mem_of_getElem? (i := 51) rfl)
theorem im_X6_readPart : Cond.instanceMethod yX6_readPart ∈ gwl := gw_of ge_instanceMethod gg_im (List.mem_of_getElem? (i := 48) rfl)
theorem se_X6_readPart : Cond.selects yX6_readPart.cls yX6_readPart yX6_readPart ∈ gwl := gw_sel (List.mem_of_getElem? (i := 5) rfl)
theorem im_X6_readRule : Cond.instanceMethod yX6_readRule ∈ gwl := gw_of ge_instanceMethod gg_im (List.mem_of_getElem? (i := 46) rfl)
theorem se_X6_readRule : Cond.selects yX6_readRule.cls yX6_readRule yX6_readRule ∈ gwl := gw_of ge_selects gg_sel (List.mem_of_getElem? (i := 42) rfl)
theorem im_X6_readSum : Cond.instanceMethod yX6_readSum ∈ gwl := gw_of ge_instanceMethod gg_im (List.mem_of_getElem? (i := 52) rfl)
theorem se_X6_readSum : Cond.selects yX6_readSum.cls yX6_readSum yX6_readSum ∈ gwl := gw_sel (List.mem_of_getElem? (i := 7) rfl)
theorem im_X6_readTerm : Cond.instanceMethod yX6_readTerm ∈ gwl := gw_of ge_instanceMethod gg_im (List.mem_of_getElem? (i := 53) rfl)
theorem se_X6_readTerm : Cond.selects yX6_readTerm.cls yX6_readTerm yX6_readTerm ∈ gwl := gw_sel (List.mem_of_getElem? (i := 8) rfl)
theorem im_X6_readUnit : Cond.instanceMethod yX6_readUnit ∈ gwl := gw_of ge_instanceMethod gg_im (List.mem_of_getElem? (i := 49) rfl)
theorem se_X6_readUnit : Cond.selects yX6_readUnit.cls yX6_readUnit yX6_readUnit ∈ gwl := gw_sel (List.mem_of_getElem? (i := 6) rfl)
theorem im_X6_readVerdict : Cond.instanceMethod yX6_readVerdict ∈ gwl := gw_of ge_instanceMethod gg_im (List.mem_of_getElem? (i := 63) rfl)
theorem se_X6_readVerdict : Cond.selects yX6_readVerdict.cls yX6_readVerdict yX6_readVerdict ∈ gwl := gw_of ge_selects gg_sel (List.mem_of_getElem? (i := 53) rfl)
theorem im_X6_take4 : Cond.instanceMethod yX6_take4 ∈ gwl := gw_of ge_instanceMethod gg_im (List.mem_of_getElem? (i := 42) rfl)
theorem se_X6_take4 : Cond.selects yX6_take4.cls yX6_take4 yX6_take4 ∈ gwl := gw_of ge_selects gg_sel (List.mem_of_getElem? (i := 38) rfl)
theorem im_X6_takes : Cond.instanceMethod yX6_takes ∈ gwl := gw_of ge_instanceMethod gg_im (List.mem_of_getElem? (i := 62) rfl)
theorem se_X6_takes : Cond.selects yX6_takes.cls yX6_takes yX6_takes ∈ gwl := gw_of ge_selects gg_sel (List.mem_of_getElem? (i := 52) rfl)
theorem im_X6_write : Cond.instanceMethod yX6_write ∈ gwl := gw_of ge_instanceMethod gg_im (List.mem_of_getElem? (i := 60) rfl)
theorem se_X6_write : Cond.selects yX6_write.cls yX6_write yX6_write ∈ gwl := gw_of ge_selects gg_sel (List.mem_of_getElem? (i := 50) rfl)
theorem im_X7_init : Cond.instanceMethod yX7_init ∈ gwl := gw_of ge_instanceMethod gg_im (List.mem_of_getElem? (i := 24) rfl)
theorem im_X8_init : Cond.instanceMethod yX8_init ∈ gwl := gw_of ge_instanceMethod gg_im (List.mem_of_getElem? (i := 9) rfl)
theorem im_X8_boxAt : Cond.instanceMethod yX8_boxAt ∈ gwl := gw_of ge_instanceMethod gg_im (List.mem_of_getElem? (i := 121) rfl)
theorem se_X8_boxAt : Cond.selects yX8_boxAt.cls yX8_boxAt yX8_boxAt ∈ gwl := gw_of ge_selects gg_sel (List.mem_of_getElem? (i := 107) rfl)
theorem im_X8_comeHome : Cond.instanceMethod yX8_comeHome ∈ gwl := gw_of ge_instanceMethod gg_im (List.mem_of_getElem? (i := 119) rfl)
theorem se_X8_comeHome : Cond.selects yX8_comeHome.cls yX8_comeHome yX8_comeHome ∈ gwl := gw_of ge_selects gg_sel (List.mem_of_getElem? (i := 105) rfl)
theorem st_X8_goOn : Cond.static yX8_goOn ∈ gwl := gw_of ge_static gg_static (List.mem_of_getElem? (i := 41) rfl)
theorem im_X8_plan : Cond.instanceMethod yX8_plan ∈ gwl := gw_of ge_instanceMethod gg_im (List.mem_of_getElem? (i := 118) rfl)
theorem se_X8_plan : Cond.selects yX8_plan.cls yX8_plan yX8_plan ∈ gwl := gw_of ge_selects gg_sel (List.mem_of_getElem? (i := 104) rfl)
theorem im_X8_setBox : Cond.instanceMethod yX8_setBox ∈ gwl := gw_of ge_instanceMethod gg_im (List.mem_of_getElem? (i := 112) rfl)
theorem se_X8_setBox : Cond.selects yX8_setBox.cls yX8_setBox yX8_setBox ∈ gwl := gw_of ge_selects gg_sel (List.mem_of_getElem? (i := 98) rfl)
theorem im_X8_setRoad : Cond.instanceMethod yX8_setRoad ∈ gwl := gw_of ge_instanceMethod gg_im (List.mem_of_getElem? (i := 114) rfl)
theorem se_X8_setRoad : Cond.selects yX8_setRoad.cls yX8_setRoad yX8_setRoad ∈ gwl := gw_of ge_selects gg_sel (List.mem_of_getElem? (i := 100) rfl)
theorem im_X8_setStop : Cond.instanceMethod yX8_setStop ∈ gwl := gw_of ge_instanceMethod gg_im (List.mem_of_getElem? (i := 116) rfl)
theorem se_X8_setStop : Cond.selects yX8_setStop.cls yX8_setStop yX8_setStop ∈ gwl := gw_of ge_selects gg_sel (List.mem_of_getElem? (i := 102) rfl)
theorem im_X9_init : Cond.instanceMethod yX9_init ∈ gwl := gw_of ge_instanceMethod gg_im (List.mem_of_getElem? (i := 13) rfl)
theorem im_X9_learn : Cond.instanceMethod yX9_learn ∈ gwl := gw_of ge_instanceMethod gg_im (List.mem_of_getElem? (i := 72) rfl)
theorem se_X9_learn : Cond.selects yX9_learn.cls yX9_learn yX9_learn ∈ gwl := gw_of ge_selects gg_sel (List.mem_of_getElem? (i := 60) rfl)
theorem im_X9_shireOn : Cond.instanceMethod yX9_shireOn ∈ gwl := gw_of ge_instanceMethod gg_im (List.mem_of_getElem? (i := 26) rfl)
theorem se_X9_shireOn : Cond.selects yX9_shireOn.cls yX9_shireOn yX9_shireOn ∈ gwl := gw_of ge_selects gg_sel (List.mem_of_getElem? (i := 23) rfl)
theorem im_X11_init : Cond.instanceMethod yX11_init ∈ gwl := gw_of ge_instanceMethod gg_im (List.mem_of_getElem? (i := 143) rfl)
theorem im_X11_ask : Cond.instanceMethod yX11_ask ∈ gwl := gw_of ge_instanceMethod gg_im (List.mem_of_getElem? (i := 157) rfl)
theorem se_X11_ask : Cond.selects yX11_ask.cls yX11_ask yX11_ask ∈ gwl := gw_sel (List.mem_of_getElem? (i := 23) rfl)
theorem im_X11_atom : Cond.instanceMethod yX11_atom ∈ gwl := gw_of ge_instanceMethod gg_im (List.mem_of_getElem? (i := 178) rfl)
theorem se_X11_atom : Cond.selects yX11_atom.cls yX11_atom yX11_atom ∈ gwl := gw_sel (List.mem_of_getElem? (i := 38) rfl)
theorem im_X11_bad : Cond.instanceMethod yX11_bad ∈ gwl := gw_of ge_instanceMethod gg_im (List.mem_of_getElem? (i := 173) rfl)
theorem se_X11_bad : Cond.selects yX11_bad.cls yX11_bad yX11_bad ∈ gwl := gw_sel (List.mem_of_getElem? (i := 33) rfl)
theorem im_X11_booth : Cond.instanceMethod yX11_booth ∈ gwl := gw_of ge_instanceMethod gg_im (List.mem_of_getElem? (i := 163) rfl)
theorem se_X11_booth : Cond.selects yX11_booth.cls yX11_booth yX11_booth ∈ gwl := gw_of ge_selects gg_sel (List.mem_of_getElem? (i := 129) rfl)
theorem im_X11_boothFor : Cond.instanceMethod yX11_boothFor ∈ gwl := gw_of ge_instanceMethod gg_im (List.mem_of_getElem? (i := 192) rfl)
theorem se_X11_boothFor : Cond.selects yX11_boothFor.cls yX11_boothFor yX11_boothFor ∈ gwl := gw_sel (List.mem_of_getElem? (i := 48) rfl)
theorem st_X11_both : Cond.static yX11_both ∈ gwl := gw_of ge_static gg_static (List.mem_of_getElem? (i := 49) rfl)
theorem st_X11_bounded : Cond.static yX11_bounded ∈ gwl := gw_of ge_static gg_static (List.mem_of_getElem? (i := 48) rfl)
theorem st_X11_byteOf : Cond.static yX11_byteOf ∈ gwl := gw_of ge_static gg_static (List.mem_of_getElem? (i := 45) rfl)
theorem im_X11_closes : Cond.instanceMethod yX11_closes ∈ gwl := gw_of ge_instanceMethod gg_im (List.mem_of_getElem? (i := 175) rfl)
theorem se_X11_closes : Cond.selects yX11_closes.cls yX11_closes yX11_closes ∈ gwl := gw_sel (List.mem_of_getElem? (i := 35) rfl)
theorem im_X11_comesOn : Cond.instanceMethod yX11_comesOn ∈ gwl := gw_of ge_instanceMethod gg_im (List.mem_of_getElem? (i := 188) rfl)
theorem se_X11_comesOn : Cond.selects yX11_comesOn.cls yX11_comesOn yX11_comesOn ∈ gwl := gw_sel (List.mem_of_getElem? (i := 44) rfl)
theorem im_X11_condition : Cond.instanceMethod yX11_condition ∈ gwl := gw_of ge_instanceMethod gg_im (List.mem_of_getElem? (i := 168) rfl)
theorem se_X11_condition : Cond.selects yX11_condition.cls yX11_condition yX11_condition ∈ gwl := gw_sel (List.mem_of_getElem? (i := 28) rfl)
theorem im_X11_count : Cond.instanceMethod yX11_count ∈ gwl := gw_of ge_instanceMethod gg_im (List.mem_of_getElem? (i := 230) rfl)
theorem se_X11_count : Cond.selects yX11_count.cls yX11_count yX11_count ∈ gwl := gw_of ge_selects gg_sel (List.mem_of_getElem? (i := 162) rfl)
theorem im_X11_dayOf : Cond.instanceMethod yX11_dayOf ∈ gwl := gw_of ge_instanceMethod gg_im (List.mem_of_getElem? (i := 158) rfl)
theorem se_X11_dayOf : Cond.selects yX11_dayOf.cls yX11_dayOf yX11_dayOf ∈ gwl := gw_sel (List.mem_of_getElem? (i := 24) rfl)
theorem im_X11_days : Cond.instanceMethod yX11_days ∈ gwl := gw_of ge_instanceMethod gg_im (List.mem_of_getElem? (i := 144) rfl)
theorem se_X11_days : Cond.selects yX11_days.cls yX11_days yX11_days ∈ gwl := gw_of ge_selects gg_sel (List.mem_of_getElem? (i := 119) rfl)
theorem im_X11_doubles : Cond.instanceMethod yX11_doubles ∈ gwl := gw_of ge_instanceMethod gg_im (List.mem_of_getElem? (i := 202) rfl)
theorem se_X11_doubles : Cond.selects yX11_doubles.cls yX11_doubles yX11_doubles ∈ gwl := gw_of ge_selects gg_sel (List.mem_of_getElem? (i := 141) rfl)
theorem im_X11_drive : Cond.instanceMethod yX11_drive ∈ gwl := gw_of ge_instanceMethod gg_im (List.mem_of_getElem? (i := 221) rfl)
theorem se_X11_drive : Cond.selects yX11_drive.cls yX11_drive yX11_drive ∈ gwl := gw_sel (List.mem_of_getElem? (i := 59) rfl)
theorem im_X11_empty : Cond.instanceMethod yX11_empty ∈ gwl := gw_of ge_instanceMethod gg_im (List.mem_of_getElem? (i := 154) rfl)
theorem se_X11_empty : Cond.selects yX11_empty.cls yX11_empty yX11_empty ∈ gwl := gw_of ge_selects gg_sel (List.mem_of_getElem? (i := 125) rfl)
theorem im_X11_emptyingFor : Cond.instanceMethod yX11_emptyingFor ∈ gwl := gw_of ge_instanceMethod gg_im (List.mem_of_getElem? (i := 160) rfl)
theorem se_X11_emptyingFor : Cond.selects yX11_emptyingFor.cls yX11_emptyingFor yX11_emptyingFor ∈ gwl := gw_sel (List.mem_of_getElem? (i := 26) rfl)
theorem im_X11_end : Cond.instanceMethod yX11_end ∈ gwl := gw_of ge_instanceMethod gg_im (List.mem_of_getElem? (i := 165) rfl)
theorem se_X11_end : Cond.selects yX11_end.cls yX11_end yX11_end ∈ gwl := gw_of ge_selects gg_sel (List.mem_of_getElem? (i := 131) rfl)
theorem im_X11_ends : Cond.instanceMethod yX11_ends ∈ gwl := gw_of ge_instanceMethod gg_im (List.mem_of_getElem? (i := 225) rfl)
theorem se_X11_ends : Cond.selects yX11_ends.cls yX11_ends yX11_ends ∈ gwl := gw_of ge_selects gg_sel (List.mem_of_getElem? (i := 157) rfl)
theorem im_X11_event : Cond.instanceMethod yX11_event ∈ gwl := gw_of ge_instanceMethod gg_im (List.mem_of_getElem? (i := 152) rfl)
theorem se_X11_event : Cond.selects yX11_event.cls yX11_event yX11_event ∈ gwl := gw_of ge_selects gg_sel (List.mem_of_getElem? (i := 124) rfl)
theorem im_X11_eventFor : Cond.instanceMethod yX11_eventFor ∈ gwl := gw_of ge_instanceMethod gg_im (List.mem_of_getElem? (i := 159) rfl)
theorem se_X11_eventFor : Cond.selects yX11_eventFor.cls yX11_eventFor yX11_eventFor ∈ gwl := gw_sel (List.mem_of_getElem? (i := 25) rfl)
theorem im_X11_fault : Cond.instanceMethod yX11_fault ∈ gwl := gw_of ge_instanceMethod gg_im (List.mem_of_getElem? (i := 166) rfl)
theorem se_X11_fault : Cond.selects yX11_fault.cls yX11_fault yX11_fault ∈ gwl := gw_of ge_selects gg_sel (List.mem_of_getElem? (i := 132) rfl)
theorem im_X11_feed : Cond.instanceMethod yX11_feed ∈ gwl := gw_of ge_instanceMethod gg_im (List.mem_of_getElem? (i := 164) rfl)
theorem se_X11_feed : Cond.selects yX11_feed.cls yX11_feed yX11_feed ∈ gwl := gw_of ge_selects gg_sel (List.mem_of_getElem? (i := 130) rfl)
theorem im_X11_findCounted : Cond.instanceMethod yX11_findCounted ∈ gwl := gw_of ge_instanceMethod gg_im (List.mem_of_getElem? (i := 209) rfl)
theorem se_X11_findCounted : Cond.selects yX11_findCounted.cls yX11_findCounted yX11_findCounted ∈ gwl := gw_sel (List.mem_of_getElem? (i := 55) rfl)
theorem im_X11_findRound : Cond.instanceMethod yX11_findRound ∈ gwl := gw_of ge_instanceMethod gg_im (List.mem_of_getElem? (i := 220) rfl)
theorem se_X11_findRound : Cond.selects yX11_findRound.cls yX11_findRound yX11_findRound ∈ gwl := gw_sel (List.mem_of_getElem? (i := 58) rfl)
theorem im_X11_first : Cond.instanceMethod yX11_first ∈ gwl := gw_of ge_instanceMethod gg_im (List.mem_of_getElem? (i := 200) rfl)
theorem se_X11_first : Cond.selects yX11_first.cls yX11_first yX11_first ∈ gwl := gw_of ge_selects gg_sel (List.mem_of_getElem? (i := 140) rfl)
theorem im_X11_firstGood : Cond.instanceMethod yX11_firstGood ∈ gwl := gw_of ge_instanceMethod gg_im (List.mem_of_getElem? (i := 201) rfl)
theorem se_X11_firstGood : Cond.selects yX11_firstGood.cls yX11_firstGood yX11_firstGood ∈ gwl := gw_sel (List.mem_of_getElem? (i := 53) rfl)
theorem im_X11_habit : Cond.instanceMethod yX11_habit ∈ gwl := gw_of ge_instanceMethod gg_im (List.mem_of_getElem? (i := 204) rfl)
theorem se_X11_habit : Cond.selects yX11_habit.cls yX11_habit yX11_habit ∈ gwl := gw_of ge_selects gg_sel (List.mem_of_getElem? (i := 143) rfl)
theorem im_X11_hand : Cond.instanceMethod yX11_hand ∈ gwl := gw_of ge_instanceMethod gg_im (List.mem_of_getElem? (i := 162) rfl)
theorem se_X11_hand : Cond.selects yX11_hand.cls yX11_hand yX11_hand ∈ gwl := gw_of ge_selects gg_sel (List.mem_of_getElem? (i := 128) rfl)
theorem im_X11_harshest : Cond.instanceMethod yX11_harshest ∈ gwl := gw_of ge_instanceMethod gg_im (List.mem_of_getElem? (i := 206) rfl)
theorem se_X11_harshest : Cond.selects yX11_harshest.cls yX11_harshest yX11_harshest ∈ gwl := gw_of ge_selects gg_sel (List.mem_of_getElem? (i := 144) rfl)
theorem im_X11_heap : Cond.instanceMethod yX11_heap ∈ gwl := gw_of ge_instanceMethod gg_im (List.mem_of_getElem? (i := 228) rfl)
theorem se_X11_heap : Cond.selects yX11_heap.cls yX11_heap yX11_heap ∈ gwl := gw_of ge_selects gg_sel (List.mem_of_getElem? (i := 160) rfl)
theorem st_X11_in : Cond.static yX11_in ∈ gwl := gw_of ge_static gg_static (List.mem_of_getElem? (i := 43) rfl)
theorem im_X11_isAsked : Cond.instanceMethod yX11_isAsked ∈ gwl := gw_of ge_instanceMethod gg_im (List.mem_of_getElem? (i := 185) rfl)
theorem se_X11_isAsked : Cond.selects yX11_isAsked.cls yX11_isAsked yX11_isAsked ∈ gwl := gw_sel (List.mem_of_getElem? (i := 41) rfl)
theorem st_X11_isDigit : Cond.static yX11_isDigit ∈ gwl := gw_of ge_static gg_static (List.mem_of_getElem? (i := 47) rfl)
theorem im_X11_isEnvelope : Cond.instanceMethod yX11_isEnvelope ∈ gwl := gw_of ge_instanceMethod gg_im (List.mem_of_getElem? (i := 153) rfl)
theorem se_X11_isEnvelope : Cond.selects yX11_isEnvelope.cls yX11_isEnvelope yX11_isEnvelope ∈ gwl := gw_sel (List.mem_of_getElem? (i := 21) rfl)
theorem im_X11_isKnowing : Cond.instanceMethod yX11_isKnowing ∈ gwl := gw_of ge_instanceMethod gg_im (List.mem_of_getElem? (i := 149) rfl)
theorem se_X11_isKnowing : Cond.selects yX11_isKnowing.cls yX11_isKnowing yX11_isKnowing ∈ gwl := gw_sel (List.mem_of_getElem? (i := 19) rfl)
theorem st_X11_isLetter : Cond.static yX11_isLetter ∈ gwl := gw_of ge_static gg_static (List.mem_of_getElem? (i := 46) rfl)
theorem im_X11_isSent : Cond.instanceMethod yX11_isSent ∈ gwl := gw_of ge_instanceMethod gg_im (List.mem_of_getElem? (i := 156) rfl)
theorem se_X11_isSent : Cond.selects yX11_isSent.cls yX11_isSent yX11_isSent ∈ gwl := gw_sel (List.mem_of_getElem? (i := 22) rfl)
theorem st_X11_isShire : Cond.static yX11_isShire ∈ gwl := gw_of ge_static gg_static (List.mem_of_getElem? (i := 44) rfl)
theorem im_X11_isVoter : Cond.instanceMethod yX11_isVoter ∈ gwl := gw_of ge_instanceMethod gg_im (List.mem_of_getElem? (i := 147) rfl)
theorem se_X11_isVoter : Cond.selects yX11_isVoter.cls yX11_isVoter yX11_isVoter ∈ gwl := gw_sel (List.mem_of_getElem? (i := 18) rfl)
theorem im_X11_judge : Cond.instanceMethod yX11_judge ∈ gwl := gw_of ge_instanceMethod gg_im (List.mem_of_getElem? (i := 186) rfl)
theorem se_X11_judge : Cond.selects yX11_judge.cls yX11_judge yX11_judge ∈ gwl := gw_sel (List.mem_of_getElem? (i := 42) rfl)
theorem im_X11_judgeOne : Cond.instanceMethod yX11_judgeOne ∈ gwl := gw_of ge_instanceMethod gg_im (List.mem_of_getElem? (i := 189) rfl)
theorem se_X11_judgeOne : Cond.selects yX11_judgeOne.cls yX11_judgeOne yX11_judgeOne ∈ gwl := gw_sel (List.mem_of_getElem? (i := 45) rfl)
theorem im_X11_late : Cond.instanceMethod yX11_late ∈ gwl := gw_of ge_instanceMethod gg_im (List.mem_of_getElem? (i := 226) rfl)
theorem se_X11_late : Cond.selects yX11_late.cls yX11_late yX11_late ∈ gwl := gw_of ge_selects gg_sel (List.mem_of_getElem? (i := 158) rfl)
theorem im_X11_latest : Cond.instanceMethod yX11_latest ∈ gwl := gw_of ge_instanceMethod gg_im (List.mem_of_getElem? (i := 215) rfl)
theorem se_X11_latest : Cond.selects yX11_latest.cls yX11_latest yX11_latest ∈ gwl := gw_of ge_selects gg_sel (List.mem_of_getElem? (i := 150) rfl)
theorem im_X11_law : Cond.instanceMethod yX11_law ∈ gwl := gw_of ge_instanceMethod gg_im (List.mem_of_getElem? (i := 180) rfl)
theorem se_X11_law : Cond.selects yX11_law.cls yX11_law yX11_law ∈ gwl := gw_of ge_selects gg_sel (List.mem_of_getElem? (i := 133) rfl)
theorem im_X11_lawOn : Cond.instanceMethod yX11_lawOn ∈ gwl := gw_of ge_instanceMethod gg_im (List.mem_of_getElem? (i := 182) rfl)
theorem se_X11_lawOn : Cond.selects yX11_lawOn.cls yX11_lawOn yX11_lawOn ∈ gwl := gw_sel (List.mem_of_getElem? (i := 40) rfl)
theorem im_X11_lawful : Cond.instanceMethod yX11_lawful ∈ gwl := gw_of ge_instanceMethod gg_im (List.mem_of_getElem? (i := 181) rfl)
theorem se_X11_lawful : Cond.selects yX11_lawful.cls yX11_lawful yX11_lawful ∈ gwl := gw_of ge_selects gg_sel (List.mem_of_getElem? (i := 134) rfl)
theorem im_X11_letter : Cond.instanceMethod yX11_letter ∈ gwl := gw_of ge_instanceMethod gg_im (List.mem_of_getElem? (i := 184) rfl)
theorem se_X11_letter : Cond.selects yX11_letter.cls yX11_letter yX11_letter ∈ gwl := gw_of ge_selects gg_sel (List.mem_of_getElem? (i := 136) rfl)
theorem im_X11_letterOf : Cond.instanceMethod yX11_letterOf ∈ gwl := gw_of ge_instanceMethod gg_im (List.mem_of_getElem? (i := 191) rfl)
theorem se_X11_letterOf : Cond.selects yX11_letterOf.cls yX11_letterOf yX11_letterOf ∈ gwl := gw_sel (List.mem_of_getElem? (i := 47) rfl)
theorem im_X11_line : Cond.instanceMethod yX11_line ∈ gwl := gw_of ge_instanceMethod gg_im (List.mem_of_getElem? (i := 187) rfl)
theorem se_X11_line : Cond.selects yX11_line.cls yX11_line yX11_line ∈ gwl := gw_sel (List.mem_of_getElem? (i := 43) rfl)
theorem im_X11_look : Cond.instanceMethod yX11_look ∈ gwl := gw_of ge_instanceMethod gg_im (List.mem_of_getElem? (i := 171) rfl)
theorem se_X11_look : Cond.selects yX11_look.cls yX11_look yX11_look ∈ gwl := gw_sel (List.mem_of_getElem? (i := 31) rfl)
theorem im_X11_many : Cond.instanceMethod yX11_many ∈ gwl := gw_of ge_instanceMethod gg_im (List.mem_of_getElem? (i := 203) rfl)
theorem se_X11_many : Cond.selects yX11_many.cls yX11_many yX11_many ∈ gwl := gw_of ge_selects gg_sel (List.mem_of_getElem? (i := 142) rfl)
theorem im_X11_meet : Cond.instanceMethod yX11_meet ∈ gwl := gw_of ge_instanceMethod gg_im (List.mem_of_getElem? (i := 205) rfl)
theorem se_X11_meet : Cond.selects yX11_meet.cls yX11_meet yX11_meet ∈ gwl := gw_sel (List.mem_of_getElem? (i := 54) rfl)
theorem im_X11_move : Cond.instanceMethod yX11_move ∈ gwl := gw_of ge_instanceMethod gg_im (List.mem_of_getElem? (i := 146) rfl)
theorem se_X11_move : Cond.selects yX11_move.cls yX11_move yX11_move ∈ gwl := gw_of ge_selects gg_sel (List.mem_of_getElem? (i := 121) rfl)
theorem im_X11_nextWave : Cond.instanceMethod yX11_nextWave ∈ gwl := gw_of ge_instanceMethod gg_im (List.mem_of_getElem? (i := 214) rfl)
theorem se_X11_nextWave : Cond.selects yX11_nextWave.cls yX11_nextWave yX11_nextWave ∈ gwl := gw_sel (List.mem_of_getElem? (i := 57) rfl)
theorem im_X11_number : Cond.instanceMethod yX11_number ∈ gwl := gw_of ge_instanceMethod gg_im (List.mem_of_getElem? (i := 179) rfl)
theorem se_X11_number : Cond.selects yX11_number.cls yX11_number yX11_number ∈ gwl := gw_sel (List.mem_of_getElem? (i := 39) rfl)
theorem im_X11_open : Cond.instanceMethod yX11_open ∈ gwl := gw_of ge_instanceMethod gg_im (List.mem_of_getElem? (i := 227) rfl)
theorem se_X11_open : Cond.selects yX11_open.cls yX11_open yX11_open ∈ gwl := gw_of ge_selects gg_sel (List.mem_of_getElem? (i := 159) rfl)
theorem im_X11_opens : Cond.instanceMethod yX11_opens ∈ gwl := gw_of ge_instanceMethod gg_im (List.mem_of_getElem? (i := 172) rfl)
theorem se_X11_opens : Cond.selects yX11_opens.cls yX11_opens yX11_opens ∈ gwl := gw_sel (List.mem_of_getElem? (i := 32) rfl)
theorem im_X11_part : Cond.instanceMethod yX11_part ∈ gwl := gw_of ge_instanceMethod gg_im (List.mem_of_getElem? (i := 169) rfl)
theorem se_X11_part : Cond.selects yX11_part.cls yX11_part yX11_part ∈ gwl := gw_sel (List.mem_of_getElem? (i := 29) rfl)
theorem im_X11_press : Cond.instanceMethod yX11_press ∈ gwl := gw_of ge_instanceMethod gg_im (List.mem_of_getElem? (i := 211) rfl)
theorem se_X11_press : Cond.selects yX11_press.cls yX11_press yX11_press ∈ gwl := gw_of ge_selects gg_sel (List.mem_of_getElem? (i := 148) rfl)
theorem im_X11_print : Cond.instanceMethod yX11_print ∈ gwl := gw_of ge_instanceMethod gg_im (List.mem_of_getElem? (i := 213) rfl)
theorem se_X11_print : Cond.selects yX11_print.cls yX11_print yX11_print ∈ gwl := gw_sel (List.mem_of_getElem? (i := 56) rfl)
theorem im_X11_printed : Cond.instanceMethod yX11_printed ∈ gwl := gw_of ge_instanceMethod gg_im (List.mem_of_getElem? (i := 212) rfl)
theorem se_X11_printed : Cond.selects yX11_printed.cls yX11_printed yX11_printed ∈ gwl := gw_of ge_selects gg_sel (List.mem_of_getElem? (i := 149) rfl)
theorem im_X11_read : Cond.instanceMethod yX11_read ∈ gwl := gw_of ge_instanceMethod gg_im (List.mem_of_getElem? (i := 161) rfl)
theorem se_X11_read : Cond.selects yX11_read.cls yX11_read yX11_read ∈ gwl := gw_of ge_selects gg_sel (List.mem_of_getElem? (i := 127) rfl)
theorem im_X11_reason : Cond.instanceMethod yX11_reason ∈ gwl := gw_of ge_instanceMethod gg_im (List.mem_of_getElem? (i := 198) rfl)
theorem se_X11_reason : Cond.selects yX11_reason.cls yX11_reason yX11_reason ∈ gwl := gw_of ge_selects gg_sel (List.mem_of_getElem? (i := 138) rfl)
theorem im_X11_recheck : Cond.instanceMethod yX11_recheck ∈ gwl := gw_of ge_instanceMethod gg_im (List.mem_of_getElem? (i := 208) rfl)
theorem se_X11_recheck : Cond.selects yX11_recheck.cls yX11_recheck yX11_recheck ∈ gwl := gw_of ge_selects gg_sel (List.mem_of_getElem? (i := 146) rfl)
theorem im_X11_road : Cond.instanceMethod yX11_road ∈ gwl := gw_of ge_instanceMethod gg_im (List.mem_of_getElem? (i := 217) rfl)
theorem se_X11_road : Cond.selects yX11_road.cls yX11_road yX11_road ∈ gwl := gw_of ge_selects gg_sel (List.mem_of_getElem? (i := 152) rfl)
theorem im_X11_round : Cond.instanceMethod yX11_round ∈ gwl := gw_of ge_instanceMethod gg_im (List.mem_of_getElem? (i := 219) rfl)
theorem se_X11_round : Cond.selects yX11_round.cls yX11_round yX11_round ∈ gwl := gw_of ge_selects gg_sel (List.mem_of_getElem? (i := 154) rfl)
theorem im_X11_route : Cond.instanceMethod yX11_route ∈ gwl := gw_of ge_instanceMethod gg_im (List.mem_of_getElem? (i := 222) rfl)
theorem se_X11_route : Cond.selects yX11_route.cls yX11_route yX11_route ∈ gwl := gw_of ge_selects gg_sel (List.mem_of_getElem? (i := 155) rfl)
theorem im_X11_rule : Cond.instanceMethod yX11_rule ∈ gwl := gw_of ge_instanceMethod gg_im (List.mem_of_getElem? (i := 167) rfl)
theorem se_X11_rule : Cond.selects yX11_rule.cls yX11_rule yX11_rule ∈ gwl := gw_sel (List.mem_of_getElem? (i := 27) rfl)
theorem im_X11_ruled : Cond.instanceMethod yX11_ruled ∈ gwl := gw_of ge_instanceMethod gg_im (List.mem_of_getElem? (i := 199) rfl)
theorem se_X11_ruled : Cond.selects yX11_ruled.cls yX11_ruled yX11_ruled ∈ gwl := gw_of ge_selects gg_sel (List.mem_of_getElem? (i := 139) rfl)
theorem im_X11_say : Cond.instanceMethod yX11_say ∈ gwl := gw_of ge_instanceMethod gg_im (List.mem_of_getElem? (i := 174) rfl)
theorem se_X11_say : Cond.selects yX11_say.cls yX11_say yX11_say ∈ gwl := gw_sel (List.mem_of_getElem? (i := 34) rfl)
theorem im_X11_sealed : Cond.instanceMethod yX11_sealed ∈ gwl := gw_of ge_instanceMethod gg_im (List.mem_of_getElem? (i := 155) rfl)
theorem se_X11_sealed : Cond.selects yX11_sealed.cls yX11_sealed yX11_sealed ∈ gwl := gw_of ge_selects gg_sel (List.mem_of_getElem? (i := 126) rfl)
theorem im_X11_send : Cond.instanceMethod yX11_send ∈ gwl := gw_of ge_instanceMethod gg_im (List.mem_of_getElem? (i := 151) rfl)
theorem se_X11_send : Cond.selects yX11_send.cls yX11_send yX11_send ∈ gwl := gw_of ge_selects gg_sel (List.mem_of_getElem? (i := 123) rfl)
theorem im_X11_sentTo : Cond.instanceMethod yX11_sentTo ∈ gwl := gw_of ge_instanceMethod gg_im (List.mem_of_getElem? (i := 196) rfl)
theorem se_X11_sentTo : Cond.selects yX11_sentTo.cls yX11_sentTo yX11_sentTo ∈ gwl := gw_sel (List.mem_of_getElem? (i := 52) rfl)
theorem im_X11_shire : Cond.instanceMethod yX11_shire ∈ gwl := gw_of ge_instanceMethod gg_im (List.mem_of_getElem? (i := 148) rfl)
theorem se_X11_shire : Cond.selects yX11_shire.cls yX11_shire yX11_shire ∈ gwl := gw_of ge_selects gg_sel (List.mem_of_getElem? (i := 122) rfl)
theorem im_X11_shireOn : Cond.instanceMethod yX11_shireOn ∈ gwl := gw_of ge_instanceMethod gg_im (List.mem_of_getElem? (i := 150) rfl)
theorem se_X11_shireOn : Cond.selects yX11_shireOn.cls yX11_shireOn yX11_shireOn ∈ gwl := gw_sel (List.mem_of_getElem? (i := 20) rfl)
theorem im_X11_size : Cond.instanceMethod yX11_size ∈ gwl := gw_of ge_instanceMethod gg_im (List.mem_of_getElem? (i := 207) rfl)
theorem se_X11_size : Cond.selects yX11_size.cls yX11_size yX11_size ∈ gwl := gw_of ge_selects gg_sel (List.mem_of_getElem? (i := 145) rfl)
theorem im_X11_stand : Cond.instanceMethod yX11_stand ∈ gwl := gw_of ge_instanceMethod gg_im (List.mem_of_getElem? (i := 216) rfl)
theorem se_X11_stand : Cond.selects yX11_stand.cls yX11_stand yX11_stand ∈ gwl := gw_of ge_selects gg_sel (List.mem_of_getElem? (i := 151) rfl)
theorem im_X11_state : Cond.instanceMethod yX11_state ∈ gwl := gw_of ge_instanceMethod gg_im (List.mem_of_getElem? (i := 197) rfl)
theorem se_X11_state : Cond.selects yX11_state.cls yX11_state yX11_state ∈ gwl := gw_of ge_selects gg_sel (List.mem_of_getElem? (i := 137) rfl)
theorem im_X11_stops : Cond.instanceMethod yX11_stops ∈ gwl := gw_of ge_instanceMethod gg_im (List.mem_of_getElem? (i := 218) rfl)
theorem se_X11_stops : Cond.selects yX11_stops.cls yX11_stops yX11_stops ∈ gwl := gw_of ge_selects gg_sel (List.mem_of_getElem? (i := 153) rfl)
theorem im_X11_street : Cond.instanceMethod yX11_street ∈ gwl := gw_of ge_instanceMethod gg_im (List.mem_of_getElem? (i := 229) rfl)
theorem se_X11_street : Cond.selects yX11_street.cls yX11_street yX11_street ∈ gwl := gw_of ge_selects gg_sel (List.mem_of_getElem? (i := 161) rfl)
theorem im_X11_sum : Cond.instanceMethod yX11_sum ∈ gwl := gw_of ge_instanceMethod gg_im (List.mem_of_getElem? (i := 176) rfl)
theorem se_X11_sum : Cond.selects yX11_sum.cls yX11_sum yX11_sum ∈ gwl := gw_sel (List.mem_of_getElem? (i := 36) rfl)
theorem im_X11_term : Cond.instanceMethod yX11_term ∈ gwl := gw_of ge_instanceMethod gg_im (List.mem_of_getElem? (i := 177) rfl)
theorem se_X11_term : Cond.selects yX11_term.cls yX11_term yX11_term ∈ gwl := gw_sel (List.mem_of_getElem? (i := 37) rfl)
theorem im_X11_thrown : Cond.instanceMethod yX11_thrown ∈ gwl := gw_of ge_instanceMethod gg_im (List.mem_of_getElem? (i := 183) rfl)
theorem se_X11_thrown : Cond.selects yX11_thrown.cls yX11_thrown yX11_thrown ∈ gwl := gw_of ge_selects gg_sel (List.mem_of_getElem? (i := 135) rfl)
theorem im_X11_unit : Cond.instanceMethod yX11_unit ∈ gwl := gw_of ge_instanceMethod gg_im (List.mem_of_getElem? (i := 170) rfl)
theorem se_X11_unit : Cond.selects yX11_unit.cls yX11_unit yX11_unit ∈ gwl := gw_sel (List.mem_of_getElem? (i := 30) rfl)
theorem im_X11_unlike : Cond.instanceMethod yX11_unlike ∈ gwl := gw_of ge_instanceMethod gg_im (List.mem_of_getElem? (i := 193) rfl)
theorem se_X11_unlike : Cond.selects yX11_unlike.cls yX11_unlike yX11_unlike ∈ gwl := gw_sel (List.mem_of_getElem? (i := 49) rfl)
theorem im_X11_usual : Cond.instanceMethod yX11_usual ∈ gwl := gw_of ge_instanceMethod gg_im (List.mem_of_getElem? (i := 223) rfl)
theorem se_X11_usual : Cond.selects yX11_usual.cls yX11_usual yX11_usual ∈ gwl := gw_of ge_selects gg_sel (List.mem_of_getElem? (i := 156) rfl)
theorem im_X11_usualOf : Cond.instanceMethod yX11_usualOf ∈ gwl := gw_of ge_instanceMethod gg_im (List.mem_of_getElem? (i := 224) rfl)
theorem se_X11_usualOf : Cond.selects yX11_usualOf.cls yX11_usualOf yX11_usualOf ∈ gwl := gw_sel (List.mem_of_getElem? (i := 60) rfl)
theorem im_X11_voter : Cond.instanceMethod yX11_voter ∈ gwl := gw_of ge_instanceMethod gg_im (List.mem_of_getElem? (i := 145) rfl)
theorem se_X11_voter : Cond.selects yX11_voter.cls yX11_voter yX11_voter ∈ gwl := gw_of ge_selects gg_sel (List.mem_of_getElem? (i := 120) rfl)
theorem im_X11_wave : Cond.instanceMethod yX11_wave ∈ gwl := gw_of ge_instanceMethod gg_im (List.mem_of_getElem? (i := 210) rfl)
theorem se_X11_wave : Cond.selects yX11_wave.cls yX11_wave yX11_wave ∈ gwl := gw_of ge_selects gg_sel (List.mem_of_getElem? (i := 147) rfl)
theorem im_X11_wordOf : Cond.instanceMethod yX11_wordOf ∈ gwl := gw_of ge_instanceMethod gg_im (List.mem_of_getElem? (i := 195) rfl)
theorem se_X11_wordOf : Cond.selects yX11_wordOf.cls yX11_wordOf yX11_wordOf ∈ gwl := gw_sel (List.mem_of_getElem? (i := 51) rfl)
theorem im_X11_wordsOf : Cond.instanceMethod yX11_wordsOf ∈ gwl := gw_of ge_instanceMethod gg_im (List.mem_of_getElem? (i := 194) rfl)
theorem se_X11_wordsOf : Cond.selects yX11_wordsOf.cls yX11_wordsOf yX11_wordsOf ∈ gwl := gw_sel (List.mem_of_getElem? (i := 50) rfl)
theorem im_X11_work : Cond.instanceMethod yX11_work ∈ gwl := gw_of ge_instanceMethod gg_im (List.mem_of_getElem? (i := 190) rfl)
theorem se_X11_work : Cond.selects yX11_work.cls yX11_work yX11_work ∈ gwl := gw_sel (List.mem_of_getElem? (i := 46) rfl)
theorem st_J11_highSurrogate_5068e : Cond.static yJ11_highSurrogate_5068e ∈ gwl := gw_of ge_static gg_static (List.mem_of_getElem? (i := 33) rfl)
theorem st_J11_isValidCodePoint_9a6ad : Cond.static yJ11_isValidCodePoint_9a6ad ∈ gwl := gw_of ge_static gg_static (List.mem_of_getElem? (i := 32) rfl)
theorem st_J11_lowSurrogate_5068e : Cond.static yJ11_lowSurrogate_5068e ∈ gwl := gw_of ge_static gg_static (List.mem_of_getElem? (i := 34) rfl)
theorem st_J9_max_7cf53 : Cond.static yJ9_max_7cf53 ∈ gwl := gw_of ge_static gg_static (List.mem_of_getElem? (i := 6) rfl)
theorem st_J9_max_f86c9 : Cond.static yJ9_max_f86c9 ∈ gwl := gw_of ge_static gg_static (List.mem_of_getElem? (i := 39) rfl)
theorem st_J9_min_7cf53 : Cond.static yJ9_min_7cf53 ∈ gwl := gw_of ge_static gg_static (List.mem_of_getElem? (i := 10) rfl)
theorem st_J9_min_f86c9 : Cond.static yJ9_min_f86c9 ∈ gwl := gw_of ge_static gg_static (List.mem_of_getElem? (i := 38) rfl)
theorem st_J0_checkBoundsBeginEnd_23922 : Cond.static yJ0_checkBoundsBeginEnd_23922 ∈ gwl := gw_of ge_static gg_static (List.mem_of_getElem? (i := 27) rfl)
theorem im_J0_coder_7d493 : Cond.instanceMethod yJ0_coder_7d493 ∈ gwl := gw_of ge_instanceMethod gg_im (List.mem_of_getElem? (i := 59) rfl)
theorem se_J0_coder_7d493 : Cond.selects yJ0_coder_7d493.cls yJ0_coder_7d493 yJ0_coder_7d493 ∈ gwl := gw_of ge_selects gg_sel (List.mem_of_getElem? (i := 49) rfl)
theorem im_J0_indexOf_0f7a4 : Cond.instanceMethod yJ0_indexOf_0f7a4 ∈ gwl := gw_of ge_instanceMethod gg_im (List.mem_of_getElem? (i := 55) rfl)
theorem se_J0_indexOf_0f7a4 : Cond.selects yJ0_indexOf_0f7a4.cls yJ0_indexOf_0f7a4 yJ0_indexOf_0f7a4 ∈ gwl := gw_of ge_selects gg_sel (List.mem_of_getElem? (i := 45) rfl)
theorem im_J0_indexOf_7cf53 : Cond.instanceMethod yJ0_indexOf_7cf53 ∈ gwl := gw_of ge_instanceMethod gg_im (List.mem_of_getElem? (i := 56) rfl)
theorem se_J0_indexOf_7cf53 : Cond.selects yJ0_indexOf_7cf53.cls yJ0_indexOf_7cf53 yJ0_indexOf_7cf53 ∈ gwl := gw_of ge_selects gg_sel (List.mem_of_getElem? (i := 46) rfl)
theorem im_J0_isLatin1_aae02 : Cond.instanceMethod yJ0_isLatin1_aae02 ∈ gwl := gw_of ge_instanceMethod gg_im (List.mem_of_getElem? (i := 57) rfl)
theorem se_J0_isLatin1_aae02 : Cond.selects yJ0_isLatin1_aae02.cls yJ0_isLatin1_aae02 yJ0_isLatin1_aae02 ∈ gwl := gw_of ge_selects gg_sel (List.mem_of_getElem? (i := 47) rfl)
theorem im_J0_length_8abf5 : Cond.instanceMethod yJ0_length_8abf5 ∈ gwl := gw_of ge_instanceMethod gg_im (List.mem_of_getElem? (i := 58) rfl)
theorem se_J0_length_8abf5 : Cond.selects yJ0_length_8abf5.cls yJ0_length_8abf5 yJ0_length_8abf5 ∈ gwl := gw_of ge_selects gg_sel (List.mem_of_getElem? (i := 48) rfl)
theorem st_J1_canEncode_9a6ad : Cond.static yJ1_canEncode_9a6ad ∈ gwl := gw_of ge_static gg_static (List.mem_of_getElem? (i := 21) rfl)
theorem st_J1_indexOf_4cfef : Cond.static yJ1_indexOf_4cfef ∈ gwl := gw_of ge_static gg_static (List.mem_of_getElem? (i := 20) rfl)
theorem st_J1_indexOfChar_4cfef : Cond.static yJ1_indexOfChar_4cfef ∈ gwl := gw_of ge_static gg_static (List.mem_of_getElem? (i := 22) rfl)
theorem st_J2_checkBoundsBeginEnd_d044e : Cond.static yJ2_checkBoundsBeginEnd_d044e ∈ gwl := gw_of ge_static gg_static (List.mem_of_getElem? (i := 25) rfl)
theorem st_J2_getChar_3b067 : Cond.static yJ2_getChar_3b067 ∈ gwl := gw_of ge_static gg_static (List.mem_of_getElem? (i := 30) rfl)
theorem st_J2_indexOf_4cfef : Cond.static yJ2_indexOf_4cfef ∈ gwl := gw_of ge_static gg_static (List.mem_of_getElem? (i := 23) rfl)
theorem st_J2_indexOfChar_4cfef : Cond.static yJ2_indexOfChar_4cfef ∈ gwl := gw_of ge_static gg_static (List.mem_of_getElem? (i := 24) rfl)
theorem st_J2_indexOfCharUnsafe_4cfef : Cond.static yJ2_indexOfCharUnsafe_4cfef ∈ gwl := gw_of ge_static gg_static (List.mem_of_getElem? (i := 29) rfl)
theorem st_J2_indexOfSupplementary_4cfef : Cond.static yJ2_indexOfSupplementary_4cfef ∈ gwl := gw_of ge_static gg_static (List.mem_of_getElem? (i := 31) rfl)
theorem st_J2_length_9d52b : Cond.static yJ2_length_9d52b ∈ gwl := gw_of ge_static gg_static (List.mem_of_getElem? (i := 26) rfl)
theorem im_Jxa1e45_init_da8c8 : Cond.instanceMethod yJxa1e45_init_da8c8 ∈ gwl := gw_of ge_instanceMethod gg_im (List.mem_of_getElem? (i := 5) rfl)
theorem im_Jxc12de_init_da8c8 : Cond.instanceMethod yJxc12de_init_da8c8 ∈ gwl := gw_of ge_instanceMethod gg_im (List.mem_of_getElem? (i := 4) rfl)
theorem im_Jx4a65c_init_da8c8 : Cond.instanceMethod yJx4a65c_init_da8c8 ∈ gwl := gw_of ge_instanceMethod gg_im (List.mem_of_getElem? (i := 3) rfl)
theorem im_Jx4a65c_add_7a177 : Cond.instanceMethod yJx4a65c_add_7a177 ∈ gwl := gw_of ge_instanceMethod gg_im (List.mem_of_getElem? (i := 75) rfl)
theorem se_Jx4a65c_add_7a177 : Cond.selects yJx4a65c_add_7a177.cls yJx4a65c_add_7a177 yJx4a65c_add_7a177 ∈ gwl := gw_of ge_selects gg_sel (List.mem_of_getElem? (i := 63) rfl)
theorem im_Jx4a65c_add_9ea2d : Cond.instanceMethod yJx4a65c_add_9ea2d ∈ gwl := gw_of ge_instanceMethod gg_im (List.mem_of_getElem? (i := 14) rfl)
theorem se_Jx4a65c_add_9ea2d : Cond.selects yJx4a65c_add_9ea2d.cls yJx4a65c_add_9ea2d yJx4a65c_add_9ea2d ∈ gwl := gw_of ge_selects gg_sel (List.mem_of_getElem? (i := 3) rfl)
theorem im_Jx4a65c_add_72be8 : Cond.instanceMethod yJx4a65c_add_72be8 ∈ gwl := gw_of ge_instanceMethod gg_im (List.mem_of_getElem? (i := 15) rfl)
theorem se_Jx4a65c_add_72be8 : Cond.selects yJx4a65c_add_72be8.cls yJx4a65c_add_72be8 yJx4a65c_add_72be8 ∈ gwl := gw_sel (List.mem_of_getElem? (i := 0) rfl)
theorem im_Jx4a65c_clear_da8c8 : Cond.instanceMethod yJx4a65c_clear_da8c8 ∈ gwl := gw_of ge_instanceMethod gg_im (List.mem_of_getElem? (i := 73) rfl)
theorem se_Jx4a65c_clear_da8c8 : Cond.selects yJx4a65c_clear_da8c8.cls yJx4a65c_clear_da8c8 yJx4a65c_clear_da8c8 ∈ gwl := gw_of ge_selects gg_sel (List.mem_of_getElem? (i := 61) rfl)
theorem im_Jx4a65c_elementData_915e3 : Cond.instanceMethod yJx4a65c_elementData_915e3 ∈ gwl := gw_of ge_instanceMethod gg_im (List.mem_of_getElem? (i := 22) rfl)
theorem se_Jx4a65c_elementData_915e3 : Cond.selects yJx4a65c_elementData_915e3.cls yJx4a65c_elementData_915e3 yJx4a65c_elementData_915e3 ∈ gwl := gw_of ge_selects gg_sel (List.mem_of_getElem? (i := 21) rfl)
theorem im_Jx4a65c_get_915e3 : Cond.instanceMethod yJx4a65c_get_915e3 ∈ gwl := gw_of ge_instanceMethod gg_im (List.mem_of_getElem? (i := 21) rfl)
theorem se_Jx4a65c_get_915e3 : Cond.selects yJx4a65c_get_915e3.cls yJx4a65c_get_915e3 yJx4a65c_get_915e3 ∈ gwl := gw_of ge_selects gg_sel (List.mem_of_getElem? (i := 20) rfl)
theorem im_Jx4a65c_grow_d5877 : Cond.instanceMethod yJx4a65c_grow_d5877 ∈ gwl := gw_of ge_instanceMethod gg_im (List.mem_of_getElem? (i := 16) rfl)
theorem se_Jx4a65c_grow_d5877 : Cond.selects yJx4a65c_grow_d5877.cls yJx4a65c_grow_d5877 yJx4a65c_grow_d5877 ∈ gwl := gw_sel (List.mem_of_getElem? (i := 1) rfl)
theorem im_Jx4a65c_grow_92f84 : Cond.instanceMethod yJx4a65c_grow_92f84 ∈ gwl := gw_of ge_instanceMethod gg_im (List.mem_of_getElem? (i := 17) rfl)
theorem se_Jx4a65c_grow_92f84 : Cond.selects yJx4a65c_grow_92f84.cls yJx4a65c_grow_92f84 yJx4a65c_grow_92f84 ∈ gwl := gw_sel (List.mem_of_getElem? (i := 2) rfl)
theorem im_Jx4a65c_isEmpty_aae02 : Cond.instanceMethod yJx4a65c_isEmpty_aae02 ∈ gwl := gw_of ge_instanceMethod gg_im (List.mem_of_getElem? (i := 98) rfl)
theorem se_Jx4a65c_isEmpty_aae02 : Cond.selects yJx4a65c_isEmpty_aae02.cls yJx4a65c_isEmpty_aae02 yJx4a65c_isEmpty_aae02 ∈ gwl := gw_of ge_selects gg_sel (List.mem_of_getElem? (i := 85) rfl)
theorem im_Jx4a65c_rangeCheckForAdd_d00df : Cond.instanceMethod yJx4a65c_rangeCheckForAdd_d00df ∈ gwl := gw_of ge_instanceMethod gg_im (List.mem_of_getElem? (i := 76) rfl)
theorem se_Jx4a65c_rangeCheckForAdd_d00df : Cond.selects yJx4a65c_rangeCheckForAdd_d00df.cls yJx4a65c_rangeCheckForAdd_d00df yJx4a65c_rangeCheckForAdd_d00df ∈ gwl := gw_sel (List.mem_of_getElem? (i := 11) rfl)
theorem im_Jx4a65c_size_8abf5 : Cond.instanceMethod yJx4a65c_size_8abf5 ∈ gwl := gw_of ge_instanceMethod gg_im (List.mem_of_getElem? (i := 12) rfl)
theorem se_Jx4a65c_size_8abf5 : Cond.selects yJx4a65c_size_8abf5.cls yJx4a65c_size_8abf5 yJx4a65c_size_8abf5 ∈ gwl := gw_of ge_selects gg_sel (List.mem_of_getElem? (i := 2) rfl)
theorem st_J7_copyOf_59c91 : Cond.static yJ7_copyOf_59c91 ∈ gwl := gw_of ge_static gg_static (List.mem_of_getElem? (i := 35) rfl)
theorem st_J7_copyOf_1904c : Cond.static yJ7_copyOf_1904c ∈ gwl := gw_of ge_static gg_static (List.mem_of_getElem? (i := 8) rfl)
theorem st_J7_copyOf_6403c : Cond.static yJ7_copyOf_6403c ∈ gwl := gw_of ge_static gg_static (List.mem_of_getElem? (i := 9) rfl)
theorem st_J7_fill_53178 : Cond.static yJ7_fill_53178 ∈ gwl := gw_of ge_static gg_static (List.mem_of_getElem? (i := 0) rfl)
theorem st_J15_checkIndex_7cf53 : Cond.static yJ15_checkIndex_7cf53 ∈ gwl := gw_of ge_static gg_static (List.mem_of_getElem? (i := 12) rfl)
theorem st_J8_hugeLength_7cf53 : Cond.static yJ8_hugeLength_7cf53 ∈ gwl := gw_of ge_static gg_static (List.mem_of_getElem? (i := 7) rfl)
theorem st_J8_newLength_cabcc : Cond.static yJ8_newLength_cabcc ∈ gwl := gw_of ge_static gg_static (List.mem_of_getElem? (i := 5) rfl)
theorem st_J3_checkFromToIndex_8c36e : Cond.static yJ3_checkFromToIndex_8c36e ∈ gwl := gw_of ge_static gg_static (List.mem_of_getElem? (i := 28) rfl)
theorem st_J3_checkIndex_8e157 : Cond.static yJ3_checkIndex_8e157 ∈ gwl := gw_of ge_static gg_static (List.mem_of_getElem? (i := 13) rfl)
theorem ck_X10_13 : Cond.classLink RX10 13 "PostVotes$Post" ∈ gwl := gw_of ge_classLink gg_cl (List.mem_of_getElem? (i := 1) rfl)
theorem ck_X10_20 : Cond.classLink RX10 20 "PostVotes$Tape" ∈ gwl := gw_of ge_classLink gg_cl (List.mem_of_getElem? (i := 5) rfl)
theorem ck_X10_27 : Cond.classLink RX10 27 "PostVotes$Press" ∈ gwl := gw_of ge_classLink gg_cl (List.mem_of_getElem? (i := 6) rfl)
theorem ck_X10_34 : Cond.classLink RX10 34 "PostVotes$Van" ∈ gwl := gw_of ge_classLink gg_cl (List.mem_of_getElem? (i := 7) rfl)
theorem ck_X10_41 : Cond.classLink RX10 41 "java/util/ArrayList" ∈ gwl := gw_of ge_classLink gg_cl (List.mem_of_getElem? (i := 8) rfl)
theorem ck_X10_87 : Cond.classLink RX10 87 "PostVotes$Voter" ∈ gwl := gw_of ge_classLink gg_cl (List.mem_of_getElem? (i := 9) rfl)
theorem ck_X10_109 : Cond.classLink RX10 109 "PostVotes$Told" ∈ gwl := gw_of ge_classLink gg_cl (List.mem_of_getElem? (i := 15) rfl)
theorem ck_X10_127 : Cond.classLink RX10 127 "PostVotes$Envelope" ∈ gwl := gw_of ge_classLink gg_cl (List.mem_of_getElem? (i := 17) rfl)
theorem ck_X10_195 : Cond.classLink RX10 195 "PostVotes$Law" ∈ gwl := gw_of ge_classLink gg_cl (List.mem_of_getElem? (i := 22) rfl)
theorem ck_X10_211 : Cond.classLink RX10 211 "java/util/NoSuchElementException" ∈ gwl := gw_of ge_classLink gg_cl (List.mem_of_getElem? (i := 27) rfl)
theorem ck_X10_327 : Cond.classLink RX10 327 "PostVotes$Heap" ∈ gwl := gw_of ge_classLink gg_cl (List.mem_of_getElem? (i := 25) rfl)
theorem ck_X0_9 : Cond.classLink RX0 9 "java/util/ArrayList" ∈ gwl := gw_of ge_classLink gg_cl (List.mem_of_getElem? (i := 18) rfl)
theorem ck_X0_80 : Cond.classLink RX0 80 "PostVotes$Told" ∈ gwl := gw_of ge_classLink gg_cl (List.mem_of_getElem? (i := 20) rfl)
theorem ck_X2_9 : Cond.classLink RX2 9 "java/util/ArrayList" ∈ gwl := gw_of ge_classLink gg_cl (List.mem_of_getElem? (i := 4) rfl)
theorem ck_X2_30 : Cond.classLink RX2 30 "PostVotes$Law" ∈ gwl := gw_of ge_classLink gg_cl (List.mem_of_getElem? (i := 24) rfl)
theorem ck_X4_9 : Cond.classLink RX4 9 "java/util/ArrayList" ∈ gwl := gw_of ge_classLink gg_cl (List.mem_of_getElem? (i := 2) rfl)
theorem ck_X4_24 : Cond.classLink RX4 24 "PostVotes$Judge" ∈ gwl := gw_of ge_classLink gg_cl (List.mem_of_getElem? (i := 3) rfl)
theorem ck_X4_46 : Cond.classLink RX4 46 "PostVotes$Voter" ∈ gwl := gw_of ge_classLink gg_cl (List.mem_of_getElem? (i := 14) rfl)
theorem ck_X4_48 : Cond.classLink RX4 48 "PostVotes$Envelope" ∈ gwl := gw_of ge_classLink gg_cl (List.mem_of_getElem? (i := 19) rfl)
theorem ck_X4_69 : Cond.classLink RX4 69 "PostVotes$Told" ∈ gwl := gw_of ge_classLink gg_cl (List.mem_of_getElem? (i := 21) rfl)
theorem ck_X9_9 : Cond.classLink RX9 9 "java/util/ArrayList" ∈ gwl := gw_of ge_classLink gg_cl (List.mem_of_getElem? (i := 10) rfl)
theorem ck_X9_45 : Cond.classLink RX9 45 "PostVotes$Told" ∈ gwl := gw_of ge_classLink gg_cl (List.mem_of_getElem? (i := 16) rfl)
theorem ck_Jx4a65c_7 : Cond.classLink RJx4a65c 7 "java/lang/Object" ∈ gwl := gw_of ge_classLink gg_cl (List.mem_of_getElem? (i := 13) rfl)
theorem ck_J7_2 : Cond.classLink RJ7 2 "java/lang/Object" ∈ gwl := gw_of ge_classLink gg_cl (List.mem_of_getElem? (i := 12) rfl)
theorem ck_J7_110 : Cond.classLink RJ7 110 "[Ljava/lang/Object;" ∈ gwl := gw_of ge_classLink gg_cl (List.mem_of_getElem? (i := 11) rfl)
theorem ck_J7_317 : Cond.classLink RJ7 317 "[I" ∈ gwl := gw_of ge_classLink gg_cl (List.mem_of_getElem? (i := 23) rfl)
theorem in_X10 : Cond.initialized RX10 ∈ gwl := gw_of ge_initialized gg_initd (List.mem_of_getElem? (i := 1) rfl)
theorem in_X4 : Cond.initialized RX4 ∈ gwl := gw_of ge_initialized gg_initd (List.mem_of_getElem? (i := 2) rfl)
theorem in_Jxa1e45 : Cond.initialized RJxa1e45 ∈ gwl := gw_of ge_initialized gg_initd (List.mem_of_getElem? (i := 3) rfl)
theorem in_Jxc12de : Cond.initialized RJxc12de ∈ gwl := gw_of ge_initialized gg_initd (List.mem_of_getElem? (i := 4) rfl)
theorem in_Jx4a65c : Cond.initialized RJx4a65c ∈ gwl := gw_of ge_initialized gg_initd (List.mem_of_getElem? (i := 5) rfl)
theorem in_X2 : Cond.initialized RX2 ∈ gwl := gw_of ge_initialized gg_initd (List.mem_of_getElem? (i := 6) rfl)
theorem in_X6 : Cond.initialized RX6 ∈ gwl := gw_of ge_initialized gg_initd (List.mem_of_getElem? (i := 7) rfl)
theorem in_X5 : Cond.initialized RX5 ∈ gwl := gw_of ge_initialized gg_initd (List.mem_of_getElem? (i := 8) rfl)
theorem in_X8 : Cond.initialized RX8 ∈ gwl := gw_of ge_initialized gg_initd (List.mem_of_getElem? (i := 9) rfl)
theorem in_J7 : Cond.initialized RJ7 ∈ gwl := gw_of ge_initialized gg_initd (List.mem_of_getElem? (i := 10) rfl)
theorem in_X11 : Cond.initialized RX11 ∈ gwl := gw_of ge_initialized gg_initd (List.mem_of_getElem? (i := 11) rfl)
theorem in_X9 : Cond.initialized RX9 ∈ gwl := gw_of ge_initialized gg_initd (List.mem_of_getElem? (i := 12) rfl)
theorem in_J8 : Cond.initialized RJ8 ∈ gwl := gw_of ge_initialized gg_initd (List.mem_of_getElem? (i := 13) rfl)
theorem in_J9 : Cond.initialized RJ9 ∈ gwl := gw_of ge_initialized gg_initd (List.mem_of_getElem? (i := 14) rfl)
theorem in_J10 : Cond.initialized RJ10 ∈ gwl := gw_of ge_initialized gg_initd (List.mem_of_getElem? (i := 15) rfl)
theorem in_J15 : Cond.initialized RJ15 ∈ gwl := gw_of ge_initialized gg_initd (List.mem_of_getElem? (i := 16) rfl)
theorem in_J3 : Cond.initialized RJ3 ∈ gwl := gw_of ge_initialized gg_initd (List.mem_of_getElem? (i := 17) rfl)
theorem in_X7 : Cond.initialized RX7 ∈ gwl := gw_of ge_initialized gg_initd (List.mem_of_getElem? (i := 18) rfl)
theorem in_X0 : Cond.initialized RX0 ∈ gwl := gw_of ge_initialized gg_initd (List.mem_of_getElem? (i := 19) rfl)
theorem in_J0 : Cond.initialized RJ0 ∈ gwl := gw_of ge_initialized gg_initd (List.mem_of_getElem? (i := 20) rfl)
theorem in_J1 : Cond.initialized RJ1 ∈ gwl := gw_of ge_initialized gg_initd (List.mem_of_getElem? (i := 21) rfl)
theorem in_J2 : Cond.initialized RJ2 ∈ gwl := gw_of ge_initialized gg_initd (List.mem_of_getElem? (i := 22) rfl)
theorem in_J11 : Cond.initialized RJ11 ∈ gwl := gw_of ge_initialized gg_initd (List.mem_of_getElem? (i := 23) rfl)
theorem in_X3 : Cond.initialized RX3 ∈ gwl := gw_of ge_initialized gg_initd (List.mem_of_getElem? (i := 24) rfl)
theorem in_X1 : Cond.initialized RX1 ∈ gwl := gw_of ge_initialized gg_initd (List.mem_of_getElem? (i := 29) rfl)
theorem ct_X10_360 : Jvm.Cond.constant RX10 360 (99999999 : Int32) ∈ gwl := gw_of ge_constant gg_const (List.mem_of_getElem? (i := 0) rfl)
theorem ct_X8_60 : Jvm.Cond.constant RX8 60 (1000000 : Int32) ∈ gwl := gw_of ge_constant gg_const (List.mem_of_getElem? (i := 5) rfl)
theorem ct_X11_227 : Jvm.Cond.constant RX11 227 (99999999 : Int32) ∈ gwl := gw_of ge_constant gg_const (List.mem_of_getElem? (i := 6) rfl)
theorem ct_J11_76 : Jvm.Cond.constant RJ11 76 (56320 : Int32) ∈ gwl := gw_of ge_constant gg_const (List.mem_of_getElem? (i := 4) rfl)
theorem ct_J11_110 : Jvm.Cond.constant RJ11 110 (55232 : Int32) ∈ gwl := gw_of ge_constant gg_const (List.mem_of_getElem? (i := 3) rfl)
theorem ct_J2_227 : Jvm.Cond.constant RJ2 227 (65536 : Int32) ∈ gwl := gw_of ge_constant gg_const (List.mem_of_getElem? (i := 2) rfl)
theorem ct_J8_200 : Jvm.Cond.constant RJ8 200 (2147483639 : Int32) ∈ gwl := gw_of ge_constant gg_const (List.mem_of_getElem? (i := 1) rfl)
theorem ctL_X10_257 : Jvm.Cond.constantLong RX10 257 (6364136223846793005 : Int64) ∈ gwl := gw_of ge_constantLong gg_constL (List.mem_of_getElem? (i := 2) rfl)
theorem ctL_X10_259 : Jvm.Cond.constantLong RX10 259 (1442695040888963407 : Int64) ∈ gwl := gw_of ge_constantLong gg_constL (List.mem_of_getElem? (i := 3) rfl)
theorem ctL_X2_122 : Jvm.Cond.constantLong RX2 122 (-1000000 : Int64) ∈ gwl := gw_of ge_constantLong gg_constL (List.mem_of_getElem? (i := 0) rfl)
theorem ctL_X2_124 : Jvm.Cond.constantLong RX2 124 (1000000 : Int64) ∈ gwl := gw_of ge_constantLong gg_constL (List.mem_of_getElem? (i := 1) rfl)
theorem ctL_X11_388 : Jvm.Cond.constantLong RX11 388 (-1000000 : Int64) ∈ gwl := gw_of ge_constantLong gg_constL (List.mem_of_getElem? (i := 4) rfl)
theorem ctL_X11_390 : Jvm.Cond.constantLong RX11 390 (1000000 : Int64) ∈ gwl := gw_of ge_constantLong gg_constL (List.mem_of_getElem? (i := 5) rfl)
theorem ctL_X11_455 : Jvm.Cond.constantLong RX11 455 (6364136223846793005 : Int64) ∈ gwl := gw_of ge_constantLong gg_constL (List.mem_of_getElem? (i := 6) rfl)
theorem ctL_X11_457 : Jvm.Cond.constantLong RX11 457 (1442695040888963407 : Int64) ∈ gwl := gw_of ge_constantLong gg_constL (List.mem_of_getElem? (i := 7) rfl)
theorem oi_in : Cond.instanceMethod Lib.objectInit ∈ gwl := gw_of ge_instanceMethod gg_im (List.mem_of_getElem? (i := 1) rfl)
theorem oi_code : Cond.code Lib.objectInit ⟨#[0xb1]⟩ 1 none ∈ gwl := gw_of ge_code gg_code (List.mem_of_getElem? (i := 1) rfl)
theorem ol_X10 : Cond.methodLink RX10 3 Lib.objectInit ∈ gwl := gw_of ge_methodLink gg_ml (List.mem_of_getElem? (i := 1) rfl)
theorem ol_X0 : Cond.methodLink RX0 3 Lib.objectInit ∈ gwl := gw_of ge_methodLink gg_ml (List.mem_of_getElem? (i := 57) rfl)
theorem ol_X1 : Cond.methodLink RX1 3 Lib.objectInit ∈ gwl := gw_of ge_methodLink gg_ml (List.mem_of_getElem? (i := 210) rfl)
theorem ol_X2 : Cond.methodLink RX2 3 Lib.objectInit ∈ gwl := gw_of ge_methodLink gg_ml (List.mem_of_getElem? (i := 7) rfl)
theorem ol_X3 : Cond.methodLink RX3 1 Lib.objectInit ∈ gwl := gw_of ge_methodLink gg_ml (List.mem_of_getElem? (i := 123) rfl)
theorem ol_X4 : Cond.methodLink RX4 3 Lib.objectInit ∈ gwl := gw_of ge_methodLink gg_ml (List.mem_of_getElem? (i := 2) rfl)
theorem ol_X5 : Cond.methodLink RX5 3 Lib.objectInit ∈ gwl := gw_of ge_methodLink gg_ml (List.mem_of_getElem? (i := 10) rfl)
theorem ol_X6 : Cond.methodLink RX6 3 Lib.objectInit ∈ gwl := gw_of ge_methodLink gg_ml (List.mem_of_getElem? (i := 9) rfl)
theorem ol_X7 : Cond.methodLink RX7 1 Lib.objectInit ∈ gwl := gw_of ge_methodLink gg_ml (List.mem_of_getElem? (i := 48) rfl)
theorem ol_X8 : Cond.methodLink RX8 3 Lib.objectInit ∈ gwl := gw_of ge_methodLink gg_ml (List.mem_of_getElem? (i := 12) rfl)
theorem ol_X9 : Cond.methodLink RX9 3 Lib.objectInit ∈ gwl := gw_of ge_methodLink gg_ml (List.mem_of_getElem? (i := 24) rfl)
theorem ol_X11 : Cond.methodLink RX11 1 Lib.objectInit ∈ gwl := gw_of ge_methodLink gg_ml (List.mem_of_getElem? (i := 229) rfl)
theorem ol_Jxa1e45 : Cond.methodLink RJxa1e45 1 Lib.objectInit ∈ gwl := gw_of ge_methodLink gg_ml (List.mem_of_getElem? (i := 6) rfl)
theorem in_Math : Cond.initialized "java/lang/Math" ∈ gwl := gw_of ge_initialized gg_initd (List.mem_of_getElem? (i := 14) rfl)
theorem co_J9_max_7cf53 : Cond.code Lib.Math.max.name Lib.Math.max.code 2 (some .int) ∈ gwl := gw_of ge_code gg_code (List.mem_of_getElem? (i := 24) rfl)
theorem ml_X10_285 : Cond.methodLink RX10 285 Lib.Math.max.name ∈ gwl := gw_of ge_methodLink gg_ml (List.mem_of_getElem? (i := 185) rfl)
theorem ml_X4_77 : Cond.methodLink RX4 77 Lib.Math.max.name ∈ gwl := gw_of ge_methodLink gg_ml (List.mem_of_getElem? (i := 73) rfl)
theorem ml_X8_69 : Cond.methodLink RX8 69 Lib.Math.max.name ∈ gwl := gw_of ge_methodLink gg_ml (List.mem_of_getElem? (i := 198) rfl)
theorem ml_X11_269 : Cond.methodLink RX11 269 Lib.Math.max.name ∈ gwl := gw_of ge_methodLink gg_ml (List.mem_of_getElem? (i := 249) rfl)
theorem ml_J1_92 : Cond.methodLink RJ1 92 Lib.Math.max.name ∈ gwl := gw_of ge_methodLink gg_ml (List.mem_of_getElem? (i := 100) rfl)
theorem ml_J2_224 : Cond.methodLink RJ2 224 Lib.Math.max.name ∈ gwl := gw_of ge_methodLink gg_ml (List.mem_of_getElem? (i := 104) rfl)
theorem ml_Jx4a65c_79 : Cond.methodLink RJx4a65c 79 Lib.Math.max.name ∈ gwl := gw_of ge_methodLink gg_ml (List.mem_of_getElem? (i := 38) rfl)
theorem ml_J8_194 : Cond.methodLink RJ8 194 Lib.Math.max.name ∈ gwl := gw_of ge_methodLink gg_ml (List.mem_of_getElem? (i := 31) rfl)
theorem co_J9_max_f86c9 : Cond.code Lib.MathLoose.max_long.x Lib.MathLoose.max_long.code 4 (some .long) ∈ gwl := gw_of ge_code gg_code (List.mem_of_getElem? (i := 121) rfl)
theorem ml_X2_132 : Cond.methodLink RX2 132 Lib.MathLoose.max_long.x ∈ gwl := gw_of ge_methodLink gg_ml (List.mem_of_getElem? (i := 153) rfl)
theorem ml_X11_396 : Cond.methodLink RX11 396 Lib.MathLoose.max_long.x ∈ gwl := gw_of ge_methodLink gg_ml (List.mem_of_getElem? (i := 292) rfl)
theorem co_J9_min_7cf53 : Cond.code Lib.Math.min.name Lib.Math.min.code 2 (some .int) ∈ gwl := gw_of ge_code gg_code (List.mem_of_getElem? (i := 28) rfl)
theorem ml_X5_51 : Cond.methodLink RX5 51 Lib.Math.min.name ∈ gwl := gw_of ge_methodLink gg_ml (List.mem_of_getElem? (i := 183) rfl)
theorem ml_X8_75 : Cond.methodLink RX8 75 Lib.Math.min.name ∈ gwl := gw_of ge_methodLink gg_ml (List.mem_of_getElem? (i := 201) rfl)
theorem ml_X11_466 : Cond.methodLink RX11 466 Lib.Math.min.name ∈ gwl := gw_of ge_methodLink gg_ml (List.mem_of_getElem? (i := 312) rfl)
theorem ml_J1_38 : Cond.methodLink RJ1 38 Lib.Math.min.name ∈ gwl := gw_of ge_methodLink gg_ml (List.mem_of_getElem? (i := 101) rfl)
theorem ml_J2_183 : Cond.methodLink RJ2 183 Lib.Math.min.name ∈ gwl := gw_of ge_methodLink gg_ml (List.mem_of_getElem? (i := 105) rfl)
theorem ml_J7_304 : Cond.methodLink RJ7 304 Lib.Math.min.name ∈ gwl := gw_of ge_methodLink gg_ml (List.mem_of_getElem? (i := 36) rfl)
theorem co_J9_min_f86c9 : Cond.code Lib.MathLoose.min_long.x Lib.MathLoose.min_long.code 4 (some .long) ∈ gwl := gw_of ge_code gg_code (List.mem_of_getElem? (i := 120) rfl)
theorem ml_X2_126 : Cond.methodLink RX2 126 Lib.MathLoose.min_long.x ∈ gwl := gw_of ge_methodLink gg_ml (List.mem_of_getElem? (i := 152) rfl)
theorem ml_X11_392 : Cond.methodLink RX11 392 Lib.MathLoose.min_long.x ∈ gwl := gw_of ge_methodLink gg_ml (List.mem_of_getElem? (i := 291) rfl)
theorem gg_native : gc_native.all goodWord = true := by decide +kernel
theorem cp_X10_261 : CPx RX10 261 := ⟨gw_of ge_methodLink gg_ml (List.mem_of_getElem? (i := 173) rfl), gw_of ge_native gg_native (List.mem_of_getElem? (i := 1) rfl), gw_of ge_static gg_static (List.mem_of_getElem? (i := 11) rfl), gw_of ge_initialized gg_initd (List.mem_of_getElem? (i := 15) rfl)⟩
theorem cp_X5_34 : CPx RX5 34 := ⟨gw_of ge_methodLink gg_ml (List.mem_of_getElem? (i := 179) rfl), gw_of ge_native gg_native (List.mem_of_getElem? (i := 1) rfl), gw_of ge_static gg_static (List.mem_of_getElem? (i := 11) rfl), gw_of ge_initialized gg_initd (List.mem_of_getElem? (i := 15) rfl)⟩
theorem cp_X8_78 : CPx RX8 78 := ⟨gw_of ge_methodLink gg_ml (List.mem_of_getElem? (i := 197) rfl), gw_of ge_native gg_native (List.mem_of_getElem? (i := 1) rfl), gw_of ge_static gg_static (List.mem_of_getElem? (i := 11) rfl), gw_of ge_initialized gg_initd (List.mem_of_getElem? (i := 15) rfl)⟩
theorem cp_Jx4a65c_112 : CPx RJx4a65c 112 := ⟨gw_of ge_methodLink gg_ml (List.mem_of_getElem? (i := 139) rfl), gw_of ge_native gg_native (List.mem_of_getElem? (i := 1) rfl), gw_of ge_static gg_static (List.mem_of_getElem? (i := 11) rfl), gw_of ge_initialized gg_initd (List.mem_of_getElem? (i := 15) rfl)⟩
theorem cp_J7_150 : CPx RJ7 150 := ⟨gw_of ge_methodLink gg_ml (List.mem_of_getElem? (i := 37) rfl), gw_of ge_native gg_native (List.mem_of_getElem? (i := 1) rfl), gw_of ge_static gg_static (List.mem_of_getElem? (i := 11) rfl), gw_of ge_initialized gg_initd (List.mem_of_getElem? (i := 15) rfl)⟩
theorem ac_int : Cond.arrayClass .int ∈ gwl := gw_of ge_arrayClass gg_ac (List.mem_of_getElem? (i := 0) rfl)
theorem ac_byte : Cond.arrayClass .byte ∈ gwl := gw_of ge_arrayClass gg_ac (List.mem_of_getElem? (i := 1) rfl)
theorem ac_boolean : Cond.arrayClass .boolean ∈ gwl := gw_of ge_arrayClass gg_ac (List.mem_of_getElem? (i := 2) rfl)
theorem ac_long : Cond.arrayClass .long ∈ gwl := gw_of ge_arrayClass gg_ac (List.mem_of_getElem? (i := 3) rfl)
