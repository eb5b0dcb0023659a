/-! the law's own walk -/
-- the walk of LAW_law
set_option maxRecDepth 100000 in
def B_LAW_law_1934 (Γ : GAM) (Z : SCRT) (K23 : Nat → Nat → Nat → Nat → Int32 → GH → Prop) (K : Int32 → GH → Prop) (l0 : Nat) (l1 : Nat) (l2 : Nat) (l3 : Nat) (l4 : Int32) (g : GH) : Prop :=
  K23 l0 l1 l2 l3 (l4 + (6 : Int32)) g
set_option maxHeartbeats 4000000 in
set_option maxRecDepth 100000 in
theorem S_LAW_law_1934 {Γ : GAM} {Z : SCRT} {E : EV} {K : Int32 → GH → Prop} (hsc : SCR Γ E Z) (hl : E.2.1.stackTraces = false) (hE : GE Γ E cL_law 7 RL (some (.boolean)) 2048 84000 (fun r g' => ∃ x, r = some (.int x) ∧ K x g')) {K23 : Nat → Nat → Nat → Nat → Int32 → GH → Prop} (hK23 : ∀ (l0 : Nat) (l1 : Nat) (l2 : Nat) (l3 : Nat) (l4 : Int32) (g : GH), K23 l0 l1 l2 l3 l4 g → JW Γ E 23 [some (.ref l0), some (.ref l1), some (.ref l2), some (.ref l3), some (.int l4), none, none] [] g) (l0 : Nat) (l1 : Nat) (l2 : Nat) (l3 : Nat) (l4 : Int32) (g : GH) (h : B_LAW_law_1934 Γ Z K23 K l0 l1 l2 l3 l4 g) : JW Γ E 1934 [some (.ref l0), some (.ref l1), some (.ref l2), some (.ref l3), some (.int l4), none, none] [] g := by
  unfold B_LAW_law_1934 at h
  refine j_iinc hE (by decide +kernel : decode cL_law 1934 = .ok (.iinc 4 6, 3)) (v := (6 : Int32)) (by decide) rfl (Nat.le_of_ble_eq_true rfl) rfl ?_
  refine j_goto hE (by decide +kernel : decode cL_law 1937 = .ok (.goto (-1914), 3)) (tgt := 23) (by decide) ?_
  exact hK23 _ _ _ _ _ _ h
set_option maxRecDepth 100000 in
def B_LAW_law_1909 (Γ : GAM) (Z : SCRT) (K23 : Nat → Nat → Nat → Nat → Int32 → GH → Prop) (K : Int32 → GH → Prop) (l0 : Nat) (l1 : Nat) (l2 : Nat) (l3 : Nat) (l4 : Int32) (g : GH) : Prop :=
  l0 = z_b Z ∧ inB (l4 + (1 : Int32)) (z_n Z) ∧ Kd g l1 = 12 ∧ Sp_PV_count Γ l1 (z_x Z (l4 + (1 : Int32)).toNatClampNeg) g (fun (x2 : Int32) (g1 : GH) => l0 = z_b Z ∧ inB (l4 + (1 : Int32)) (z_n Z) ∧ Kd g1 l2 = 13 ∧ Sp_M_count Γ l2 (z_x Z (l4 + (1 : Int32)).toNatClampNeg) g1 (fun (x4 : Int32) (g3 : GH) => ((x2 = x4 → B_LAW_law_1934 Γ Z K23 K l0 l1 l2 l3 l4 g3) ∧ (¬ (x2 = x4) → K (0 : Int32) g3))))
set_option maxHeartbeats 4000000 in
set_option maxRecDepth 100000 in
theorem S_LAW_law_1909 {Γ : GAM} {Z : SCRT} {E : EV} {K : Int32 → GH → Prop} (hsc : SCR Γ E Z) (hl : E.2.1.stackTraces = false) (hE : GE Γ E cL_law 7 RL (some (.boolean)) 2048 84000 (fun r g' => ∃ x, r = some (.int x) ∧ K x g')) {K23 : Nat → Nat → Nat → Nat → Int32 → GH → Prop} (hK23 : ∀ (l0 : Nat) (l1 : Nat) (l2 : Nat) (l3 : Nat) (l4 : Int32) (g : GH), K23 l0 l1 l2 l3 l4 g → JW Γ E 23 [some (.ref l0), some (.ref l1), some (.ref l2), some (.ref l3), some (.int l4), none, none] [] g) (l0 : Nat) (l1 : Nat) (l2 : Nat) (l3 : Nat) (l4 : Int32) (g : GH) (h : B_LAW_law_1909 Γ Z K23 K l0 l1 l2 l3 l4 g) : JW Γ E 1909 [some (.ref l0), some (.ref l1), some (.ref l2), some (.ref l3), some (.int l4), none, none] [] g := by
  unfold B_LAW_law_1909 at h
  refine j_aload_n hE (by decide +kernel : decode cL_law 1909 = .ok (.aload_n 1, 1)) rfl rfl ?_
  refine j_aload_n hE (by decide +kernel : decode cL_law 1910 = .ok (.aload_n 0, 1)) rfl rfl ?_
  refine j_iload hE (by decide +kernel : decode cL_law 1911 = .ok (.iload 4, 2)) rfl ?_
  refine j_iconst hE (by decide +kernel : decode cL_law 1913 = .ok (.iconst 1, 1)) (v := (1 : Int32)) (by decide) ?_
  refine j_iadd hE (by decide +kernel : decode cL_law 1914 = .ok (.iadd, 1)) ?_
  obtain ⟨hk, hb, h⟩ := h
  refine j_scr hE hsc hk hb (by decide +kernel : decode cL_law 1915 = .ok (.iaload, 1)) ?_
  obtain ⟨hk, h⟩ := h
  refine j_callV hE rfl cl_L_204 cf_11 im_X10_count se_X10_count ⟨by omega, by omega⟩ (As := [.int (z_x Z (l4 + (1 : Int32)).toNatClampNeg)]) (rest := []) rfl rfl (Nat.le_of_ble_eq_true rfl) hk (by decide +kernel : decode cL_law 1916 = .ok (.invokevirtual 204, 3)) (mt_PV_count _ _ _ _ h) ?_
  rintro _ g1 ⟨x2, rfl, h⟩
  refine j_aload_n hE (by decide +kernel : decode cL_law 1919 = .ok (.aload_n 2, 1)) rfl rfl ?_
  refine j_aload_n hE (by decide +kernel : decode cL_law 1920 = .ok (.aload_n 0, 1)) rfl rfl ?_
  refine j_iload hE (by decide +kernel : decode cL_law 1921 = .ok (.iload 4, 2)) rfl ?_
  refine j_iconst hE (by decide +kernel : decode cL_law 1923 = .ok (.iconst 1, 1)) (v := (1 : Int32)) (by decide) ?_
  refine j_iadd hE (by decide +kernel : decode cL_law 1924 = .ok (.iadd, 1)) ?_
  obtain ⟨hk, hb, h⟩ := h
  refine j_scr hE hsc hk hb (by decide +kernel : decode cL_law 1925 = .ok (.iaload, 1)) ?_
  obtain ⟨hk, h⟩ := h
  refine j_callV hE rfl cl_L_207 cf_12 im_X11_count se_X11_count ⟨by omega, by omega⟩ (As := [.int (z_x Z (l4 + (1 : Int32)).toNatClampNeg)]) (rest := [.int x2]) rfl rfl (Nat.le_of_ble_eq_true rfl) hk (by decide +kernel : decode cL_law 1926 = .ok (.invokevirtual 207, 3)) (mt_M_count _ _ _ _ h) ?_
  rintro _ g3 ⟨x4, rfl, h⟩
  refine j_icmp_eq hE (by decide +kernel : decode cL_law 1929 = .ok (.if_icmp .eq 5, 3)) (tgt := 1934) (by decide) (fun q => ?_) (fun q => ?_)
  · replace h := h.1 q
    exact S_LAW_law_1934 hsc hl hE hK23 _ _ _ _ _ _ h
  · replace h := h.2 q
    refine j_iconst hE (by decide +kernel : decode cL_law 1932 = .ok (.iconst 0, 1)) (v := (0 : Int32)) (by decide) ?_
    exact j_zret hE (Or.inl rfl) (by decide +kernel : decode cL_law 1933 = .ok (.ireturn, 1)) ⟨_, rfl, h⟩
set_option maxRecDepth 100000 in
def B_LAW_law_1860 (Γ : GAM) (Z : SCRT) (K23 : Nat → Nat → Nat → Nat → Int32 → GH → Prop) (K : Int32 → GH → Prop) (l0 : Nat) (l1 : Nat) (l2 : Nat) (l3 : Nat) (l4 : Int32) (g : GH) : Prop :=
  l0 = z_b Z ∧ inB (l4 + (1 : Int32)) (z_n Z) ∧ l0 = z_b Z ∧ inB (l4 + (2 : Int32)) (z_n Z) ∧ l0 = z_b Z ∧ inB (l4 + (3 : Int32)) (z_n Z) ∧ Kd g l1 = 12 ∧ Sp_PV_street Γ l1 (z_x Z (l4 + (1 : Int32)).toNatClampNeg) (z_x Z (l4 + (2 : Int32)).toNatClampNeg) (z_x Z (l4 + (3 : Int32)).toNatClampNeg) g (fun (x2 : Int32) (g1 : GH) => l0 = z_b Z ∧ inB (l4 + (1 : Int32)) (z_n Z) ∧ l0 = z_b Z ∧ inB (l4 + (2 : Int32)) (z_n Z) ∧ l0 = z_b Z ∧ inB (l4 + (3 : Int32)) (z_n Z) ∧ Kd g1 l2 = 13 ∧ Sp_M_street Γ l2 (z_x Z (l4 + (1 : Int32)).toNatClampNeg) (z_x Z (l4 + (2 : Int32)).toNatClampNeg) (z_x Z (l4 + (3 : Int32)).toNatClampNeg) g1 (fun (x4 : Int32) (g3 : GH) => ((x2 = x4 → B_LAW_law_1934 Γ Z K23 K l0 l1 l2 l3 l4 g3) ∧ (¬ (x2 = x4) → K (0 : Int32) g3))))
set_option maxHeartbeats 4000000 in
set_option maxRecDepth 100000 in
theorem S_LAW_law_1860 {Γ : GAM} {Z : SCRT} {E : EV} {K : Int32 → GH → Prop} (hsc : SCR Γ E Z) (hl : E.2.1.stackTraces = false) (hE : GE Γ E cL_law 7 RL (some (.boolean)) 2048 84000 (fun r g' => ∃ x, r = some (.int x) ∧ K x g')) {K23 : Nat → Nat → Nat → Nat → Int32 → GH → Prop} (hK23 : ∀ (l0 : Nat) (l1 : Nat) (l2 : Nat) (l3 : Nat) (l4 : Int32) (g : GH), K23 l0 l1 l2 l3 l4 g → JW Γ E 23 [some (.ref l0), some (.ref l1), some (.ref l2), some (.ref l3), some (.int l4), none, none] [] g) (l0 : Nat) (l1 : Nat) (l2 : Nat) (l3 : Nat) (l4 : Int32) (g : GH) (h : B_LAW_law_1860 Γ Z K23 K l0 l1 l2 l3 l4 g) : JW Γ E 1860 [some (.ref l0), some (.ref l1), some (.ref l2), some (.ref l3), some (.int l4), none, none] [] g := by
  unfold B_LAW_law_1860 at h
  refine j_aload_n hE (by decide +kernel : decode cL_law 1860 = .ok (.aload_n 1, 1)) rfl rfl ?_
  refine j_aload_n hE (by decide +kernel : decode cL_law 1861 = .ok (.aload_n 0, 1)) rfl rfl ?_
  refine j_iload hE (by decide +kernel : decode cL_law 1862 = .ok (.iload 4, 2)) rfl ?_
  refine j_iconst hE (by decide +kernel : decode cL_law 1864 = .ok (.iconst 1, 1)) (v := (1 : Int32)) (by decide) ?_
  refine j_iadd hE (by decide +kernel : decode cL_law 1865 = .ok (.iadd, 1)) ?_
  obtain ⟨hk, hb, h⟩ := h
  refine j_scr hE hsc hk hb (by decide +kernel : decode cL_law 1866 = .ok (.iaload, 1)) ?_
  refine j_aload_n hE (by decide +kernel : decode cL_law 1867 = .ok (.aload_n 0, 1)) rfl rfl ?_
  refine j_iload hE (by decide +kernel : decode cL_law 1868 = .ok (.iload 4, 2)) rfl ?_
  refine j_iconst hE (by decide +kernel : decode cL_law 1870 = .ok (.iconst 2, 1)) (v := (2 : Int32)) (by decide) ?_
  refine j_iadd hE (by decide +kernel : decode cL_law 1871 = .ok (.iadd, 1)) ?_
  obtain ⟨hk, hb, h⟩ := h
  refine j_scr hE hsc hk hb (by decide +kernel : decode cL_law 1872 = .ok (.iaload, 1)) ?_
  refine j_aload_n hE (by decide +kernel : decode cL_law 1873 = .ok (.aload_n 0, 1)) rfl rfl ?_
  refine j_iload hE (by decide +kernel : decode cL_law 1874 = .ok (.iload 4, 2)) rfl ?_
  refine j_iconst hE (by decide +kernel : decode cL_law 1876 = .ok (.iconst 3, 1)) (v := (3 : Int32)) (by decide) ?_
  refine j_iadd hE (by decide +kernel : decode cL_law 1877 = .ok (.iadd, 1)) ?_
  obtain ⟨hk, hb, h⟩ := h
  refine j_scr hE hsc hk hb (by decide +kernel : decode cL_law 1878 = .ok (.iaload, 1)) ?_
  obtain ⟨hk, h⟩ := h
  refine j_callV hE rfl cl_L_200 cf_11 im_X10_street se_X10_street ⟨by omega, by omega⟩ (As := [.int (z_x Z (l4 + (1 : Int32)).toNatClampNeg), .int (z_x Z (l4 + (2 : Int32)).toNatClampNeg), .int (z_x Z (l4 + (3 : Int32)).toNatClampNeg)]) (rest := []) rfl rfl (Nat.le_of_ble_eq_true rfl) hk (by decide +kernel : decode cL_law 1879 = .ok (.invokevirtual 200, 3)) (mt_PV_street _ _ _ _ _ _ h) ?_
  rintro _ g1 ⟨x2, rfl, h⟩
  refine j_aload_n hE (by decide +kernel : decode cL_law 1882 = .ok (.aload_n 2, 1)) rfl rfl ?_
  refine j_aload_n hE (by decide +kernel : decode cL_law 1883 = .ok (.aload_n 0, 1)) rfl rfl ?_
  refine j_iload hE (by decide +kernel : decode cL_law 1884 = .ok (.iload 4, 2)) rfl ?_
  refine j_iconst hE (by decide +kernel : decode cL_law 1886 = .ok (.iconst 1, 1)) (v := (1 : Int32)) (by decide) ?_
  refine j_iadd hE (by decide +kernel : decode cL_law 1887 = .ok (.iadd, 1)) ?_
  obtain ⟨hk, hb, h⟩ := h
  refine j_scr hE hsc hk hb (by decide +kernel : decode cL_law 1888 = .ok (.iaload, 1)) ?_
  refine j_aload_n hE (by decide +kernel : decode cL_law 1889 = .ok (.aload_n 0, 1)) rfl rfl ?_
  refine j_iload hE (by decide +kernel : decode cL_law 1890 = .ok (.iload 4, 2)) rfl ?_
  refine j_iconst hE (by decide +kernel : decode cL_law 1892 = .ok (.iconst 2, 1)) (v := (2 : Int32)) (by decide) ?_
  refine j_iadd hE (by decide +kernel : decode cL_law 1893 = .ok (.iadd, 1)) ?_
  obtain ⟨hk, hb, h⟩ := h
  refine j_scr hE hsc hk hb (by decide +kernel : decode cL_law 1894 = .ok (.iaload, 1)) ?_
  refine j_aload_n hE (by decide +kernel : decode cL_law 1895 = .ok (.aload_n 0, 1)) rfl rfl ?_
  refine j_iload hE (by decide +kernel : decode cL_law 1896 = .ok (.iload 4, 2)) rfl ?_
  refine j_iconst hE (by decide +kernel : decode cL_law 1898 = .ok (.iconst 3, 1)) (v := (3 : Int32)) (by decide) ?_
  refine j_iadd hE (by decide +kernel : decode cL_law 1899 = .ok (.iadd, 1)) ?_
  obtain ⟨hk, hb, h⟩ := h
  refine j_scr hE hsc hk hb (by decide +kernel : decode cL_law 1900 = .ok (.iaload, 1)) ?_
  obtain ⟨hk, h⟩ := h
  refine j_callV hE rfl cl_L_203 cf_12 im_X11_street se_X11_street ⟨by omega, by omega⟩ (As := [.int (z_x Z (l4 + (1 : Int32)).toNatClampNeg), .int (z_x Z (l4 + (2 : Int32)).toNatClampNeg), .int (z_x Z (l4 + (3 : Int32)).toNatClampNeg)]) (rest := [.int x2]) rfl rfl (Nat.le_of_ble_eq_true rfl) hk (by decide +kernel : decode cL_law 1901 = .ok (.invokevirtual 203, 3)) (mt_M_street _ _ _ _ _ _ h) ?_
  rintro _ g3 ⟨x4, rfl, h⟩
  refine j_icmp_eq hE (by decide +kernel : decode cL_law 1904 = .ok (.if_icmp .eq 30, 3)) (tgt := 1934) (by decide) (fun q => ?_) (fun q => ?_)
  · replace h := h.1 q
    exact S_LAW_law_1934 hsc hl hE hK23 _ _ _ _ _ _ h
  · replace h := h.2 q
    refine j_iconst hE (by decide +kernel : decode cL_law 1907 = .ok (.iconst 0, 1)) (v := (0 : Int32)) (by decide) ?_
    exact j_zret hE (Or.inl rfl) (by decide +kernel : decode cL_law 1908 = .ok (.ireturn, 1)) ⟨_, rfl, h⟩
set_option maxRecDepth 100000 in
def B_LAW_law_1823 (Γ : GAM) (Z : SCRT) (K23 : Nat → Nat → Nat → Nat → Int32 → GH → Prop) (K : Int32 → GH → Prop) (l0 : Nat) (l1 : Nat) (l2 : Nat) (l3 : Nat) (l4 : Int32) (g : GH) : Prop :=
  l0 = z_b Z ∧ inB (l4 + (1 : Int32)) (z_n Z) ∧ l0 = z_b Z ∧ inB (l4 + (2 : Int32)) (z_n Z) ∧ Kd g l1 = 12 ∧ Sp_PV_heap Γ l1 (z_x Z (l4 + (1 : Int32)).toNatClampNeg) (z_x Z (l4 + (2 : Int32)).toNatClampNeg) g (fun (x2 : Int32) (g1 : GH) => l0 = z_b Z ∧ inB (l4 + (1 : Int32)) (z_n Z) ∧ l0 = z_b Z ∧ inB (l4 + (2 : Int32)) (z_n Z) ∧ Kd g1 l2 = 13 ∧ Sp_M_heap Γ l2 (z_x Z (l4 + (1 : Int32)).toNatClampNeg) (z_x Z (l4 + (2 : Int32)).toNatClampNeg) g1 (fun (x4 : Int32) (g3 : GH) => ((x2 = x4 → B_LAW_law_1934 Γ Z K23 K l0 l1 l2 l3 l4 g3) ∧ (¬ (x2 = x4) → K (0 : Int32) g3))))
set_option maxHeartbeats 4000000 in
set_option maxRecDepth 100000 in
theorem S_LAW_law_1823 {Γ : GAM} {Z : SCRT} {E : EV} {K : Int32 → GH → Prop} (hsc : SCR Γ E Z) (hl : E.2.1.stackTraces = false) (hE : GE Γ E cL_law 7 RL (some (.boolean)) 2048 84000 (fun r g' => ∃ x, r = some (.int x) ∧ K x g')) {K23 : Nat → Nat → Nat → Nat → Int32 → GH → Prop} (hK23 : ∀ (l0 : Nat) (l1 : Nat) (l2 : Nat) (l3 : Nat) (l4 : Int32) (g : GH), K23 l0 l1 l2 l3 l4 g → JW Γ E 23 [some (.ref l0), some (.ref l1), some (.ref l2), some (.ref l3), some (.int l4), none, none] [] g) (l0 : Nat) (l1 : Nat) (l2 : Nat) (l3 : Nat) (l4 : Int32) (g : GH) (h : B_LAW_law_1823 Γ Z K23 K l0 l1 l2 l3 l4 g) : JW Γ E 1823 [some (.ref l0), some (.ref l1), some (.ref l2), some (.ref l3), some (.int l4), none, none] [] g := by
  unfold B_LAW_law_1823 at h
  refine j_aload_n hE (by decide +kernel : decode cL_law 1823 = .ok (.aload_n 1, 1)) rfl rfl ?_
  refine j_aload_n hE (by decide +kernel : decode cL_law 1824 = .ok (.aload_n 0, 1)) rfl rfl ?_
  refine j_iload hE (by decide +kernel : decode cL_law 1825 = .ok (.iload 4, 2)) rfl ?_
  refine j_iconst hE (by decide +kernel : decode cL_law 1827 = .ok (.iconst 1, 1)) (v := (1 : Int32)) (by decide) ?_
  refine j_iadd hE (by decide +kernel : decode cL_law 1828 = .ok (.iadd, 1)) ?_
  obtain ⟨hk, hb, h⟩ := h
  refine j_scr hE hsc hk hb (by decide +kernel : decode cL_law 1829 = .ok (.iaload, 1)) ?_
  refine j_aload_n hE (by decide +kernel : decode cL_law 1830 = .ok (.aload_n 0, 1)) rfl rfl ?_
  refine j_iload hE (by decide +kernel : decode cL_law 1831 = .ok (.iload 4, 2)) rfl ?_
  refine j_iconst hE (by decide +kernel : decode cL_law 1833 = .ok (.iconst 2, 1)) (v := (2 : Int32)) (by decide) ?_
  refine j_iadd hE (by decide +kernel : decode cL_law 1834 = .ok (.iadd, 1)) ?_
  obtain ⟨hk, hb, h⟩ := h
  refine j_scr hE hsc hk hb (by decide +kernel : decode cL_law 1835 = .ok (.iaload, 1)) ?_
  obtain ⟨hk, h⟩ := h
  refine j_callV hE rfl cl_L_196 cf_11 im_X10_heap se_X10_heap ⟨by omega, by omega⟩ (As := [.int (z_x Z (l4 + (1 : Int32)).toNatClampNeg), .int (z_x Z (l4 + (2 : Int32)).toNatClampNeg)]) (rest := []) rfl rfl (Nat.le_of_ble_eq_true rfl) hk (by decide +kernel : decode cL_law 1836 = .ok (.invokevirtual 196, 3)) (mt_PV_heap _ _ _ _ _ h) ?_
  rintro _ g1 ⟨x2, rfl, h⟩
  refine j_aload_n hE (by decide +kernel : decode cL_law 1839 = .ok (.aload_n 2, 1)) rfl rfl ?_
  refine j_aload_n hE (by decide +kernel : decode cL_law 1840 = .ok (.aload_n 0, 1)) rfl rfl ?_
  refine j_iload hE (by decide +kernel : decode cL_law 1841 = .ok (.iload 4, 2)) rfl ?_
  refine j_iconst hE (by decide +kernel : decode cL_law 1843 = .ok (.iconst 1, 1)) (v := (1 : Int32)) (by decide) ?_
  refine j_iadd hE (by decide +kernel : decode cL_law 1844 = .ok (.iadd, 1)) ?_
  obtain ⟨hk, hb, h⟩ := h
  refine j_scr hE hsc hk hb (by decide +kernel : decode cL_law 1845 = .ok (.iaload, 1)) ?_
  refine j_aload_n hE (by decide +kernel : decode cL_law 1846 = .ok (.aload_n 0, 1)) rfl rfl ?_
  refine j_iload hE (by decide +kernel : decode cL_law 1847 = .ok (.iload 4, 2)) rfl ?_
  refine j_iconst hE (by decide +kernel : decode cL_law 1849 = .ok (.iconst 2, 1)) (v := (2 : Int32)) (by decide) ?_
  refine j_iadd hE (by decide +kernel : decode cL_law 1850 = .ok (.iadd, 1)) ?_
  obtain ⟨hk, hb, h⟩ := h
  refine j_scr hE hsc hk hb (by decide +kernel : decode cL_law 1851 = .ok (.iaload, 1)) ?_
  obtain ⟨hk, h⟩ := h
  refine j_callV hE rfl cl_L_199 cf_12 im_X11_heap se_X11_heap ⟨by omega, by omega⟩ (As := [.int (z_x Z (l4 + (1 : Int32)).toNatClampNeg), .int (z_x Z (l4 + (2 : Int32)).toNatClampNeg)]) (rest := [.int x2]) rfl rfl (Nat.le_of_ble_eq_true rfl) hk (by decide +kernel : decode cL_law 1852 = .ok (.invokevirtual 199, 3)) (mt_M_heap _ _ _ _ _ h) ?_
  rintro _ g3 ⟨x4, rfl, h⟩
  refine j_icmp_eq hE (by decide +kernel : decode cL_law 1855 = .ok (.if_icmp .eq 79, 3)) (tgt := 1934) (by decide) (fun q => ?_) (fun q => ?_)
  · replace h := h.1 q
    exact S_LAW_law_1934 hsc hl hE hK23 _ _ _ _ _ _ h
  · replace h := h.2 q
    refine j_iconst hE (by decide +kernel : decode cL_law 1858 = .ok (.iconst 0, 1)) (v := (0 : Int32)) (by decide) ?_
    exact j_zret hE (Or.inl rfl) (by decide +kernel : decode cL_law 1859 = .ok (.ireturn, 1)) ⟨_, rfl, h⟩
set_option maxRecDepth 100000 in
def B_LAW_law_1798 (Γ : GAM) (Z : SCRT) (K23 : Nat → Nat → Nat → Nat → Int32 → GH → Prop) (K : Int32 → GH → Prop) (l0 : Nat) (l1 : Nat) (l2 : Nat) (l3 : Nat) (l4 : Int32) (g : GH) : Prop :=
  l0 = z_b Z ∧ inB (l4 + (1 : Int32)) (z_n Z) ∧ Kd g l1 = 12 ∧ Sp_PV_open Γ l1 (z_x Z (l4 + (1 : Int32)).toNatClampNeg) g (fun (x2 : Int32) (g1 : GH) => l0 = z_b Z ∧ inB (l4 + (1 : Int32)) (z_n Z) ∧ Kd g1 l2 = 13 ∧ Sp_M_open Γ l2 (z_x Z (l4 + (1 : Int32)).toNatClampNeg) g1 (fun (x4 : Int32) (g3 : GH) => ((x2 = x4 → B_LAW_law_1934 Γ Z K23 K l0 l1 l2 l3 l4 g3) ∧ (¬ (x2 = x4) → K (0 : Int32) g3))))
set_option maxHeartbeats 4000000 in
set_option maxRecDepth 100000 in
theorem S_LAW_law_1798 {Γ : GAM} {Z : SCRT} {E : EV} {K : Int32 → GH → Prop} (hsc : SCR Γ E Z) (hl : E.2.1.stackTraces = false) (hE : GE Γ E cL_law 7 RL (some (.boolean)) 2048 84000 (fun r g' => ∃ x, r = some (.int x) ∧ K x g')) {K23 : Nat → Nat → Nat → Nat → Int32 → GH → Prop} (hK23 : ∀ (l0 : Nat) (l1 : Nat) (l2 : Nat) (l3 : Nat) (l4 : Int32) (g : GH), K23 l0 l1 l2 l3 l4 g → JW Γ E 23 [some (.ref l0), some (.ref l1), some (.ref l2), some (.ref l3), some (.int l4), none, none] [] g) (l0 : Nat) (l1 : Nat) (l2 : Nat) (l3 : Nat) (l4 : Int32) (g : GH) (h : B_LAW_law_1798 Γ Z K23 K l0 l1 l2 l3 l4 g) : JW Γ E 1798 [some (.ref l0), some (.ref l1), some (.ref l2), some (.ref l3), some (.int l4), none, none] [] g := by
  unfold B_LAW_law_1798 at h
  refine j_aload_n hE (by decide +kernel : decode cL_law 1798 = .ok (.aload_n 1, 1)) rfl rfl ?_
  refine j_aload_n hE (by decide +kernel : decode cL_law 1799 = .ok (.aload_n 0, 1)) rfl rfl ?_
  refine j_iload hE (by decide +kernel : decode cL_law 1800 = .ok (.iload 4, 2)) rfl ?_
  refine j_iconst hE (by decide +kernel : decode cL_law 1802 = .ok (.iconst 1, 1)) (v := (1 : Int32)) (by decide) ?_
  refine j_iadd hE (by decide +kernel : decode cL_law 1803 = .ok (.iadd, 1)) ?_
  obtain ⟨hk, hb, h⟩ := h
  refine j_scr hE hsc hk hb (by decide +kernel : decode cL_law 1804 = .ok (.iaload, 1)) ?_
  obtain ⟨hk, h⟩ := h
  refine j_callV hE rfl cl_L_192 cf_11 im_X10_open se_X10_open ⟨by omega, by omega⟩ (As := [.int (z_x Z (l4 + (1 : Int32)).toNatClampNeg)]) (rest := []) rfl rfl (Nat.le_of_ble_eq_true rfl) hk (by decide +kernel : decode cL_law 1805 = .ok (.invokevirtual 192, 3)) (mt_PV_open _ _ _ _ h) ?_
  rintro _ g1 ⟨x2, rfl, h⟩
  refine j_aload_n hE (by decide +kernel : decode cL_law 1808 = .ok (.aload_n 2, 1)) rfl rfl ?_
  refine j_aload_n hE (by decide +kernel : decode cL_law 1809 = .ok (.aload_n 0, 1)) rfl rfl ?_
  refine j_iload hE (by decide +kernel : decode cL_law 1810 = .ok (.iload 4, 2)) rfl ?_
  refine j_iconst hE (by decide +kernel : decode cL_law 1812 = .ok (.iconst 1, 1)) (v := (1 : Int32)) (by decide) ?_
  refine j_iadd hE (by decide +kernel : decode cL_law 1813 = .ok (.iadd, 1)) ?_
  obtain ⟨hk, hb, h⟩ := h
  refine j_scr hE hsc hk hb (by decide +kernel : decode cL_law 1814 = .ok (.iaload, 1)) ?_
  obtain ⟨hk, h⟩ := h
  refine j_callV hE rfl cl_L_195 cf_12 im_X11_open se_X11_open ⟨by omega, by omega⟩ (As := [.int (z_x Z (l4 + (1 : Int32)).toNatClampNeg)]) (rest := [.int x2]) rfl rfl (Nat.le_of_ble_eq_true rfl) hk (by decide +kernel : decode cL_law 1815 = .ok (.invokevirtual 195, 3)) (mt_M_open _ _ _ _ h) ?_
  rintro _ g3 ⟨x4, rfl, h⟩
  refine j_icmp_eq hE (by decide +kernel : decode cL_law 1818 = .ok (.if_icmp .eq 116, 3)) (tgt := 1934) (by decide) (fun q => ?_) (fun q => ?_)
  · replace h := h.1 q
    exact S_LAW_law_1934 hsc hl hE hK23 _ _ _ _ _ _ h
  · replace h := h.2 q
    refine j_iconst hE (by decide +kernel : decode cL_law 1821 = .ok (.iconst 0, 1)) (v := (0 : Int32)) (by decide) ?_
    exact j_zret hE (Or.inl rfl) (by decide +kernel : decode cL_law 1822 = .ok (.ireturn, 1)) ⟨_, rfl, h⟩
set_option maxRecDepth 100000 in
def B_LAW_law_1773 (Γ : GAM) (Z : SCRT) (K23 : Nat → Nat → Nat → Nat → Int32 → GH → Prop) (K : Int32 → GH → Prop) (l0 : Nat) (l1 : Nat) (l2 : Nat) (l3 : Nat) (l4 : Int32) (g : GH) : Prop :=
  l0 = z_b Z ∧ inB (l4 + (1 : Int32)) (z_n Z) ∧ Kd g l1 = 12 ∧ Sp_PV_late Γ l1 (z_x Z (l4 + (1 : Int32)).toNatClampNeg) g (fun (x2 : Int32) (g1 : GH) => l0 = z_b Z ∧ inB (l4 + (1 : Int32)) (z_n Z) ∧ Kd g1 l2 = 13 ∧ Sp_M_late Γ l2 (z_x Z (l4 + (1 : Int32)).toNatClampNeg) g1 (fun (x4 : Int32) (g3 : GH) => ((x2 = x4 → B_LAW_law_1934 Γ Z K23 K l0 l1 l2 l3 l4 g3) ∧ (¬ (x2 = x4) → K (0 : Int32) g3))))
set_option maxHeartbeats 4000000 in
set_option maxRecDepth 100000 in
theorem S_LAW_law_1773 {Γ : GAM} {Z : SCRT} {E : EV} {K : Int32 → GH → Prop} (hsc : SCR Γ E Z) (hl : E.2.1.stackTraces = false) (hE : GE Γ E cL_law 7 RL (some (.boolean)) 2048 84000 (fun r g' => ∃ x, r = some (.int x) ∧ K x g')) {K23 : Nat → Nat → Nat → Nat → Int32 → GH → Prop} (hK23 : ∀ (l0 : Nat) (l1 : Nat) (l2 : Nat) (l3 : Nat) (l4 : Int32) (g : GH), K23 l0 l1 l2 l3 l4 g → JW Γ E 23 [some (.ref l0), some (.ref l1), some (.ref l2), some (.ref l3), some (.int l4), none, none] [] g) (l0 : Nat) (l1 : Nat) (l2 : Nat) (l3 : Nat) (l4 : Int32) (g : GH) (h : B_LAW_law_1773 Γ Z K23 K l0 l1 l2 l3 l4 g) : JW Γ E 1773 [some (.ref l0), some (.ref l1), some (.ref l2), some (.ref l3), some (.int l4), none, none] [] g := by
  unfold B_LAW_law_1773 at h
  refine j_aload_n hE (by decide +kernel : decode cL_law 1773 = .ok (.aload_n 1, 1)) rfl rfl ?_
  refine j_aload_n hE (by decide +kernel : decode cL_law 1774 = .ok (.aload_n 0, 1)) rfl rfl ?_
  refine j_iload hE (by decide +kernel : decode cL_law 1775 = .ok (.iload 4, 2)) rfl ?_
  refine j_iconst hE (by decide +kernel : decode cL_law 1777 = .ok (.iconst 1, 1)) (v := (1 : Int32)) (by decide) ?_
  refine j_iadd hE (by decide +kernel : decode cL_law 1778 = .ok (.iadd, 1)) ?_
  obtain ⟨hk, hb, h⟩ := h
  refine j_scr hE hsc hk hb (by decide +kernel : decode cL_law 1779 = .ok (.iaload, 1)) ?_
  obtain ⟨hk, h⟩ := h
  refine j_callV hE rfl cl_L_188 cf_11 im_X10_late se_X10_late ⟨by omega, by omega⟩ (As := [.int (z_x Z (l4 + (1 : Int32)).toNatClampNeg)]) (rest := []) rfl rfl (Nat.le_of_ble_eq_true rfl) hk (by decide +kernel : decode cL_law 1780 = .ok (.invokevirtual 188, 3)) (mt_PV_late _ _ _ _ h) ?_
  rintro _ g1 ⟨x2, rfl, h⟩
  refine j_aload_n hE (by decide +kernel : decode cL_law 1783 = .ok (.aload_n 2, 1)) rfl rfl ?_
  refine j_aload_n hE (by decide +kernel : decode cL_law 1784 = .ok (.aload_n 0, 1)) rfl rfl ?_
  refine j_iload hE (by decide +kernel : decode cL_law 1785 = .ok (.iload 4, 2)) rfl ?_
  refine j_iconst hE (by decide +kernel : decode cL_law 1787 = .ok (.iconst 1, 1)) (v := (1 : Int32)) (by decide) ?_
  refine j_iadd hE (by decide +kernel : decode cL_law 1788 = .ok (.iadd, 1)) ?_
  obtain ⟨hk, hb, h⟩ := h
  refine j_scr hE hsc hk hb (by decide +kernel : decode cL_law 1789 = .ok (.iaload, 1)) ?_
  obtain ⟨hk, h⟩ := h
  refine j_callV hE rfl cl_L_191 cf_12 im_X11_late se_X11_late ⟨by omega, by omega⟩ (As := [.int (z_x Z (l4 + (1 : Int32)).toNatClampNeg)]) (rest := [.int x2]) rfl rfl (Nat.le_of_ble_eq_true rfl) hk (by decide +kernel : decode cL_law 1790 = .ok (.invokevirtual 191, 3)) (mt_M_late _ _ _ _ h) ?_
  rintro _ g3 ⟨x4, rfl, h⟩
  refine j_icmp_eq hE (by decide +kernel : decode cL_law 1793 = .ok (.if_icmp .eq 141, 3)) (tgt := 1934) (by decide) (fun q => ?_) (fun q => ?_)
  · replace h := h.1 q
    exact S_LAW_law_1934 hsc hl hE hK23 _ _ _ _ _ _ h
  · replace h := h.2 q
    refine j_iconst hE (by decide +kernel : decode cL_law 1796 = .ok (.iconst 0, 1)) (v := (0 : Int32)) (by decide) ?_
    exact j_zret hE (Or.inl rfl) (by decide +kernel : decode cL_law 1797 = .ok (.ireturn, 1)) ⟨_, rfl, h⟩
set_option maxRecDepth 100000 in
def B_LAW_law_1736 (Γ : GAM) (Z : SCRT) (K23 : Nat → Nat → Nat → Nat → Int32 → GH → Prop) (K : Int32 → GH → Prop) (l0 : Nat) (l1 : Nat) (l2 : Nat) (l3 : Nat) (l4 : Int32) (g : GH) : Prop :=
  l0 = z_b Z ∧ inB (l4 + (1 : Int32)) (z_n Z) ∧ l0 = z_b Z ∧ inB (l4 + (2 : Int32)) (z_n Z) ∧ Kd g l1 = 12 ∧ Sp_PV_ends Γ l1 (z_x Z (l4 + (1 : Int32)).toNatClampNeg) (z_x Z (l4 + (2 : Int32)).toNatClampNeg) g (fun (x2 : Int32) (g1 : GH) => l0 = z_b Z ∧ inB (l4 + (1 : Int32)) (z_n Z) ∧ l0 = z_b Z ∧ inB (l4 + (2 : Int32)) (z_n Z) ∧ Kd g1 l2 = 13 ∧ Sp_M_ends Γ l2 (z_x Z (l4 + (1 : Int32)).toNatClampNeg) (z_x Z (l4 + (2 : Int32)).toNatClampNeg) g1 (fun (x4 : Int32) (g3 : GH) => ((x2 = x4 → B_LAW_law_1934 Γ Z K23 K l0 l1 l2 l3 l4 g3) ∧ (¬ (x2 = x4) → K (0 : Int32) g3))))
set_option maxHeartbeats 4000000 in
set_option maxRecDepth 100000 in
theorem S_LAW_law_1736 {Γ : GAM} {Z : SCRT} {E : EV} {K : Int32 → GH → Prop} (hsc : SCR Γ E Z) (hl : E.2.1.stackTraces = false) (hE : GE Γ E cL_law 7 RL (some (.boolean)) 2048 84000 (fun r g' => ∃ x, r = some (.int x) ∧ K x g')) {K23 : Nat → Nat → Nat → Nat → Int32 → GH → Prop} (hK23 : ∀ (l0 : Nat) (l1 : Nat) (l2 : Nat) (l3 : Nat) (l4 : Int32) (g : GH), K23 l0 l1 l2 l3 l4 g → JW Γ E 23 [some (.ref l0), some (.ref l1), some (.ref l2), some (.ref l3), some (.int l4), none, none] [] g) (l0 : Nat) (l1 : Nat) (l2 : Nat) (l3 : Nat) (l4 : Int32) (g : GH) (h : B_LAW_law_1736 Γ Z K23 K l0 l1 l2 l3 l4 g) : JW Γ E 1736 [some (.ref l0), some (.ref l1), some (.ref l2), some (.ref l3), some (.int l4), none, none] [] g := by
  unfold B_LAW_law_1736 at h
  refine j_aload_n hE (by decide +kernel : decode cL_law 1736 = .ok (.aload_n 1, 1)) rfl rfl ?_
  refine j_aload_n hE (by decide +kernel : decode cL_law 1737 = .ok (.aload_n 0, 1)) rfl rfl ?_
  refine j_iload hE (by decide +kernel : decode cL_law 1738 = .ok (.iload 4, 2)) rfl ?_
  refine j_iconst hE (by decide +kernel : decode cL_law 1740 = .ok (.iconst 1, 1)) (v := (1 : Int32)) (by decide) ?_
  refine j_iadd hE (by decide +kernel : decode cL_law 1741 = .ok (.iadd, 1)) ?_
  obtain ⟨hk, hb, h⟩ := h
  refine j_scr hE hsc hk hb (by decide +kernel : decode cL_law 1742 = .ok (.iaload, 1)) ?_
  refine j_aload_n hE (by decide +kernel : decode cL_law 1743 = .ok (.aload_n 0, 1)) rfl rfl ?_
  refine j_iload hE (by decide +kernel : decode cL_law 1744 = .ok (.iload 4, 2)) rfl ?_
  refine j_iconst hE (by decide +kernel : decode cL_law 1746 = .ok (.iconst 2, 1)) (v := (2 : Int32)) (by decide) ?_
  refine j_iadd hE (by decide +kernel : decode cL_law 1747 = .ok (.iadd, 1)) ?_
  obtain ⟨hk, hb, h⟩ := h
  refine j_scr hE hsc hk hb (by decide +kernel : decode cL_law 1748 = .ok (.iaload, 1)) ?_
  obtain ⟨hk, h⟩ := h
  refine j_callV hE rfl cl_L_184 cf_11 im_X10_ends se_X10_ends ⟨by omega, by omega⟩ (As := [.int (z_x Z (l4 + (1 : Int32)).toNatClampNeg), .int (z_x Z (l4 + (2 : Int32)).toNatClampNeg)]) (rest := []) rfl rfl (Nat.le_of_ble_eq_true rfl) hk (by decide +kernel : decode cL_law 1749 = .ok (.invokevirtual 184, 3)) (mt_PV_ends _ _ _ _ _ h) ?_
  rintro _ g1 ⟨x2, rfl, h⟩
  refine j_aload_n hE (by decide +kernel : decode cL_law 1752 = .ok (.aload_n 2, 1)) rfl rfl ?_
  refine j_aload_n hE (by decide +kernel : decode cL_law 1753 = .ok (.aload_n 0, 1)) rfl rfl ?_
  refine j_iload hE (by decide +kernel : decode cL_law 1754 = .ok (.iload 4, 2)) rfl ?_
  refine j_iconst hE (by decide +kernel : decode cL_law 1756 = .ok (.iconst 1, 1)) (v := (1 : Int32)) (by decide) ?_
  refine j_iadd hE (by decide +kernel : decode cL_law 1757 = .ok (.iadd, 1)) ?_
  obtain ⟨hk, hb, h⟩ := h
  refine j_scr hE hsc hk hb (by decide +kernel : decode cL_law 1758 = .ok (.iaload, 1)) ?_
  refine j_aload_n hE (by decide +kernel : decode cL_law 1759 = .ok (.aload_n 0, 1)) rfl rfl ?_
  refine j_iload hE (by decide +kernel : decode cL_law 1760 = .ok (.iload 4, 2)) rfl ?_
  refine j_iconst hE (by decide +kernel : decode cL_law 1762 = .ok (.iconst 2, 1)) (v := (2 : Int32)) (by decide) ?_
  refine j_iadd hE (by decide +kernel : decode cL_law 1763 = .ok (.iadd, 1)) ?_
  obtain ⟨hk, hb, h⟩ := h
  refine j_scr hE hsc hk hb (by decide +kernel : decode cL_law 1764 = .ok (.iaload, 1)) ?_
  obtain ⟨hk, h⟩ := h
  refine j_callV hE rfl cl_L_187 cf_12 im_X11_ends se_X11_ends ⟨by omega, by omega⟩ (As := [.int (z_x Z (l4 + (1 : Int32)).toNatClampNeg), .int (z_x Z (l4 + (2 : Int32)).toNatClampNeg)]) (rest := [.int x2]) rfl rfl (Nat.le_of_ble_eq_true rfl) hk (by decide +kernel : decode cL_law 1765 = .ok (.invokevirtual 187, 3)) (mt_M_ends _ _ _ _ _ h) ?_
  rintro _ g3 ⟨x4, rfl, h⟩
  refine j_icmp_eq hE (by decide +kernel : decode cL_law 1768 = .ok (.if_icmp .eq 166, 3)) (tgt := 1934) (by decide) (fun q => ?_) (fun q => ?_)
  · replace h := h.1 q
    exact S_LAW_law_1934 hsc hl hE hK23 _ _ _ _ _ _ h
  · replace h := h.2 q
    refine j_iconst hE (by decide +kernel : decode cL_law 1771 = .ok (.iconst 0, 1)) (v := (0 : Int32)) (by decide) ?_
    exact j_zret hE (Or.inl rfl) (by decide +kernel : decode cL_law 1772 = .ok (.ireturn, 1)) ⟨_, rfl, h⟩
set_option maxRecDepth 100000 in
def B_LAW_law_1699 (Γ : GAM) (Z : SCRT) (K23 : Nat → Nat → Nat → Nat → Int32 → GH → Prop) (K : Int32 → GH → Prop) (l0 : Nat) (l1 : Nat) (l2 : Nat) (l3 : Nat) (l4 : Int32) (g : GH) : Prop :=
  l0 = z_b Z ∧ inB (l4 + (1 : Int32)) (z_n Z) ∧ l0 = z_b Z ∧ inB (l4 + (2 : Int32)) (z_n Z) ∧ Kd g l1 = 12 ∧ Sp_PV_usual Γ l1 (z_x Z (l4 + (1 : Int32)).toNatClampNeg) (z_x Z (l4 + (2 : Int32)).toNatClampNeg) g (fun (x2 : Int32) (g1 : GH) => l0 = z_b Z ∧ inB (l4 + (1 : Int32)) (z_n Z) ∧ l0 = z_b Z ∧ inB (l4 + (2 : Int32)) (z_n Z) ∧ Kd g1 l2 = 13 ∧ Sp_M_usual Γ l2 (z_x Z (l4 + (1 : Int32)).toNatClampNeg) (z_x Z (l4 + (2 : Int32)).toNatClampNeg) g1 (fun (x4 : Int32) (g3 : GH) => ((x2 = x4 → B_LAW_law_1934 Γ Z K23 K l0 l1 l2 l3 l4 g3) ∧ (¬ (x2 = x4) → K (0 : Int32) g3))))
set_option maxHeartbeats 4000000 in
set_option maxRecDepth 100000 in
theorem S_LAW_law_1699 {Γ : GAM} {Z : SCRT} {E : EV} {K : Int32 → GH → Prop} (hsc : SCR Γ E Z) (hl : E.2.1.stackTraces = false) (hE : GE Γ E cL_law 7 RL (some (.boolean)) 2048 84000 (fun r g' => ∃ x, r = some (.int x) ∧ K x g')) {K23 : Nat → Nat → Nat → Nat → Int32 → GH → Prop} (hK23 : ∀ (l0 : Nat) (l1 : Nat) (l2 : Nat) (l3 : Nat) (l4 : Int32) (g : GH), K23 l0 l1 l2 l3 l4 g → JW Γ E 23 [some (.ref l0), some (.ref l1), some (.ref l2), some (.ref l3), some (.int l4), none, none] [] g) (l0 : Nat) (l1 : Nat) (l2 : Nat) (l3 : Nat) (l4 : Int32) (g : GH) (h : B_LAW_law_1699 Γ Z K23 K l0 l1 l2 l3 l4 g) : JW Γ E 1699 [some (.ref l0), some (.ref l1), some (.ref l2), some (.ref l3), some (.int l4), none, none] [] g := by
  unfold B_LAW_law_1699 at h
  refine j_aload_n hE (by decide +kernel : decode cL_law 1699 = .ok (.aload_n 1, 1)) rfl rfl ?_
  refine j_aload_n hE (by decide +kernel : decode cL_law 1700 = .ok (.aload_n 0, 1)) rfl rfl ?_
  refine j_iload hE (by decide +kernel : decode cL_law 1701 = .ok (.iload 4, 2)) rfl ?_
  refine j_iconst hE (by decide +kernel : decode cL_law 1703 = .ok (.iconst 1, 1)) (v := (1 : Int32)) (by decide) ?_
  refine j_iadd hE (by decide +kernel : decode cL_law 1704 = .ok (.iadd, 1)) ?_
  obtain ⟨hk, hb, h⟩ := h
  refine j_scr hE hsc hk hb (by decide +kernel : decode cL_law 1705 = .ok (.iaload, 1)) ?_
  refine j_aload_n hE (by decide +kernel : decode cL_law 1706 = .ok (.aload_n 0, 1)) rfl rfl ?_
  refine j_iload hE (by decide +kernel : decode cL_law 1707 = .ok (.iload 4, 2)) rfl ?_
  refine j_iconst hE (by decide +kernel : decode cL_law 1709 = .ok (.iconst 2, 1)) (v := (2 : Int32)) (by decide) ?_
  refine j_iadd hE (by decide +kernel : decode cL_law 1710 = .ok (.iadd, 1)) ?_
  obtain ⟨hk, hb, h⟩ := h
  refine j_scr hE hsc hk hb (by decide +kernel : decode cL_law 1711 = .ok (.iaload, 1)) ?_
  obtain ⟨hk, h⟩ := h
  refine j_callV hE rfl cl_L_180 cf_11 im_X10_usual se_X10_usual ⟨by omega, by omega⟩ (As := [.int (z_x Z (l4 + (1 : Int32)).toNatClampNeg), .int (z_x Z (l4 + (2 : Int32)).toNatClampNeg)]) (rest := []) rfl rfl (Nat.le_of_ble_eq_true rfl) hk (by decide +kernel : decode cL_law 1712 = .ok (.invokevirtual 180, 3)) (mt_PV_usual _ _ _ _ _ h) ?_
  rintro _ g1 ⟨x2, rfl, h⟩
  refine j_aload_n hE (by decide +kernel : decode cL_law 1715 = .ok (.aload_n 2, 1)) rfl rfl ?_
  refine j_aload_n hE (by decide +kernel : decode cL_law 1716 = .ok (.aload_n 0, 1)) rfl rfl ?_
  refine j_iload hE (by decide +kernel : decode cL_law 1717 = .ok (.iload 4, 2)) rfl ?_
  refine j_iconst hE (by decide +kernel : decode cL_law 1719 = .ok (.iconst 1, 1)) (v := (1 : Int32)) (by decide) ?_
  refine j_iadd hE (by decide +kernel : decode cL_law 1720 = .ok (.iadd, 1)) ?_
  obtain ⟨hk, hb, h⟩ := h
  refine j_scr hE hsc hk hb (by decide +kernel : decode cL_law 1721 = .ok (.iaload, 1)) ?_
  refine j_aload_n hE (by decide +kernel : decode cL_law 1722 = .ok (.aload_n 0, 1)) rfl rfl ?_
  refine j_iload hE (by decide +kernel : decode cL_law 1723 = .ok (.iload 4, 2)) rfl ?_
  refine j_iconst hE (by decide +kernel : decode cL_law 1725 = .ok (.iconst 2, 1)) (v := (2 : Int32)) (by decide) ?_
  refine j_iadd hE (by decide +kernel : decode cL_law 1726 = .ok (.iadd, 1)) ?_
  obtain ⟨hk, hb, h⟩ := h
  refine j_scr hE hsc hk hb (by decide +kernel : decode cL_law 1727 = .ok (.iaload, 1)) ?_
  obtain ⟨hk, h⟩ := h
  refine j_callV hE rfl cl_L_183 cf_12 im_X11_usual se_X11_usual ⟨by omega, by omega⟩ (As := [.int (z_x Z (l4 + (1 : Int32)).toNatClampNeg), .int (z_x Z (l4 + (2 : Int32)).toNatClampNeg)]) (rest := [.int x2]) rfl rfl (Nat.le_of_ble_eq_true rfl) hk (by decide +kernel : decode cL_law 1728 = .ok (.invokevirtual 183, 3)) (mt_M_usual _ _ _ _ _ h) ?_
  rintro _ g3 ⟨x4, rfl, h⟩
  refine j_icmp_eq hE (by decide +kernel : decode cL_law 1731 = .ok (.if_icmp .eq 203, 3)) (tgt := 1934) (by decide) (fun q => ?_) (fun q => ?_)
  · replace h := h.1 q
    exact S_LAW_law_1934 hsc hl hE hK23 _ _ _ _ _ _ h
  · replace h := h.2 q
    refine j_iconst hE (by decide +kernel : decode cL_law 1734 = .ok (.iconst 0, 1)) (v := (0 : Int32)) (by decide) ?_
    exact j_zret hE (Or.inl rfl) (by decide +kernel : decode cL_law 1735 = .ok (.ireturn, 1)) ⟨_, rfl, h⟩
set_option maxRecDepth 100000 in
def B_LAW_law_1662 (Γ : GAM) (Z : SCRT) (K23 : Nat → Nat → Nat → Nat → Int32 → GH → Prop) (K : Int32 → GH → Prop) (l0 : Nat) (l1 : Nat) (l2 : Nat) (l3 : Nat) (l4 : Int32) (g : GH) : Prop :=
  l0 = z_b Z ∧ inB (l4 + (1 : Int32)) (z_n Z) ∧ l0 = z_b Z ∧ inB (l4 + (2 : Int32)) (z_n Z) ∧ Kd g l1 = 12 ∧ Sp_PV_route Γ l1 (z_x Z (l4 + (1 : Int32)).toNatClampNeg) (z_x Z (l4 + (2 : Int32)).toNatClampNeg) g (fun (x2 : Int32) (g1 : GH) => l0 = z_b Z ∧ inB (l4 + (1 : Int32)) (z_n Z) ∧ l0 = z_b Z ∧ inB (l4 + (2 : Int32)) (z_n Z) ∧ Kd g1 l2 = 13 ∧ Sp_M_route Γ l2 (z_x Z (l4 + (1 : Int32)).toNatClampNeg) (z_x Z (l4 + (2 : Int32)).toNatClampNeg) g1 (fun (x4 : Int32) (g3 : GH) => ((x2 = x4 → B_LAW_law_1934 Γ Z K23 K l0 l1 l2 l3 l4 g3) ∧ (¬ (x2 = x4) → K (0 : Int32) g3))))
set_option maxHeartbeats 4000000 in
set_option maxRecDepth 100000 in
theorem S_LAW_law_1662 {Γ : GAM} {Z : SCRT} {E : EV} {K : Int32 → GH → Prop} (hsc : SCR Γ E Z) (hl : E.2.1.stackTraces = false) (hE : GE Γ E cL_law 7 RL (some (.boolean)) 2048 84000 (fun r g' => ∃ x, r = some (.int x) ∧ K x g')) {K23 : Nat → Nat → Nat → Nat → Int32 → GH → Prop} (hK23 : ∀ (l0 : Nat) (l1 : Nat) (l2 : Nat) (l3 : Nat) (l4 : Int32) (g : GH), K23 l0 l1 l2 l3 l4 g → JW Γ E 23 [some (.ref l0), some (.ref l1), some (.ref l2), some (.ref l3), some (.int l4), none, none] [] g) (l0 : Nat) (l1 : Nat) (l2 : Nat) (l3 : Nat) (l4 : Int32) (g : GH) (h : B_LAW_law_1662 Γ Z K23 K l0 l1 l2 l3 l4 g) : JW Γ E 1662 [some (.ref l0), some (.ref l1), some (.ref l2), some (.ref l3), some (.int l4), none, none] [] g := by
  unfold B_LAW_law_1662 at h
  refine j_aload_n hE (by decide +kernel : decode cL_law 1662 = .ok (.aload_n 1, 1)) rfl rfl ?_
  refine j_aload_n hE (by decide +kernel : decode cL_law 1663 = .ok (.aload_n 0, 1)) rfl rfl ?_
  refine j_iload hE (by decide +kernel : decode cL_law 1664 = .ok (.iload 4, 2)) rfl ?_
  refine j_iconst hE (by decide +kernel : decode cL_law 1666 = .ok (.iconst 1, 1)) (v := (1 : Int32)) (by decide) ?_
  refine j_iadd hE (by decide +kernel : decode cL_law 1667 = .ok (.iadd, 1)) ?_
  obtain ⟨hk, hb, h⟩ := h
  refine j_scr hE hsc hk hb (by decide +kernel : decode cL_law 1668 = .ok (.iaload, 1)) ?_
  refine j_aload_n hE (by decide +kernel : decode cL_law 1669 = .ok (.aload_n 0, 1)) rfl rfl ?_
  refine j_iload hE (by decide +kernel : decode cL_law 1670 = .ok (.iload 4, 2)) rfl ?_
  refine j_iconst hE (by decide +kernel : decode cL_law 1672 = .ok (.iconst 2, 1)) (v := (2 : Int32)) (by decide) ?_
  refine j_iadd hE (by decide +kernel : decode cL_law 1673 = .ok (.iadd, 1)) ?_
  obtain ⟨hk, hb, h⟩ := h
  refine j_scr hE hsc hk hb (by decide +kernel : decode cL_law 1674 = .ok (.iaload, 1)) ?_
  obtain ⟨hk, h⟩ := h
  refine j_callV hE rfl cl_L_176 cf_11 im_X10_route se_X10_route ⟨by omega, by omega⟩ (As := [.int (z_x Z (l4 + (1 : Int32)).toNatClampNeg), .int (z_x Z (l4 + (2 : Int32)).toNatClampNeg)]) (rest := []) rfl rfl (Nat.le_of_ble_eq_true rfl) hk (by decide +kernel : decode cL_law 1675 = .ok (.invokevirtual 176, 3)) (mt_PV_route _ _ _ _ _ h) ?_
  rintro _ g1 ⟨x2, rfl, h⟩
  refine j_aload_n hE (by decide +kernel : decode cL_law 1678 = .ok (.aload_n 2, 1)) rfl rfl ?_
  refine j_aload_n hE (by decide +kernel : decode cL_law 1679 = .ok (.aload_n 0, 1)) rfl rfl ?_
  refine j_iload hE (by decide +kernel : decode cL_law 1680 = .ok (.iload 4, 2)) rfl ?_
  refine j_iconst hE (by decide +kernel : decode cL_law 1682 = .ok (.iconst 1, 1)) (v := (1 : Int32)) (by decide) ?_
  refine j_iadd hE (by decide +kernel : decode cL_law 1683 = .ok (.iadd, 1)) ?_
  obtain ⟨hk, hb, h⟩ := h
  refine j_scr hE hsc hk hb (by decide +kernel : decode cL_law 1684 = .ok (.iaload, 1)) ?_
  refine j_aload_n hE (by decide +kernel : decode cL_law 1685 = .ok (.aload_n 0, 1)) rfl rfl ?_
  refine j_iload hE (by decide +kernel : decode cL_law 1686 = .ok (.iload 4, 2)) rfl ?_
  refine j_iconst hE (by decide +kernel : decode cL_law 1688 = .ok (.iconst 2, 1)) (v := (2 : Int32)) (by decide) ?_
  refine j_iadd hE (by decide +kernel : decode cL_law 1689 = .ok (.iadd, 1)) ?_
  obtain ⟨hk, hb, h⟩ := h
  refine j_scr hE hsc hk hb (by decide +kernel : decode cL_law 1690 = .ok (.iaload, 1)) ?_
  obtain ⟨hk, h⟩ := h
  refine j_callV hE rfl cl_L_179 cf_12 im_X11_route se_X11_route ⟨by omega, by omega⟩ (As := [.int (z_x Z (l4 + (1 : Int32)).toNatClampNeg), .int (z_x Z (l4 + (2 : Int32)).toNatClampNeg)]) (rest := [.int x2]) rfl rfl (Nat.le_of_ble_eq_true rfl) hk (by decide +kernel : decode cL_law 1691 = .ok (.invokevirtual 179, 3)) (mt_M_route _ _ _ _ _ h) ?_
  rintro _ g3 ⟨x4, rfl, h⟩
  refine j_icmp_eq hE (by decide +kernel : decode cL_law 1694 = .ok (.if_icmp .eq 240, 3)) (tgt := 1934) (by decide) (fun q => ?_) (fun q => ?_)
  · replace h := h.1 q
    exact S_LAW_law_1934 hsc hl hE hK23 _ _ _ _ _ _ h
  · replace h := h.2 q
    refine j_iconst hE (by decide +kernel : decode cL_law 1697 = .ok (.iconst 0, 1)) (v := (0 : Int32)) (by decide) ?_
    exact j_zret hE (Or.inl rfl) (by decide +kernel : decode cL_law 1698 = .ok (.ireturn, 1)) ⟨_, rfl, h⟩
set_option maxRecDepth 100000 in
def B_LAW_law_1637 (Γ : GAM) (Z : SCRT) (K23 : Nat → Nat → Nat → Nat → Int32 → GH → Prop) (K : Int32 → GH → Prop) (l0 : Nat) (l1 : Nat) (l2 : Nat) (l3 : Nat) (l4 : Int32) (g : GH) : Prop :=
  l0 = z_b Z ∧ inB (l4 + (1 : Int32)) (z_n Z) ∧ Kd g l1 = 12 ∧ Sp_PV_round Γ l1 (z_x Z (l4 + (1 : Int32)).toNatClampNeg) g (fun (x2 : Int32) (g1 : GH) => l0 = z_b Z ∧ inB (l4 + (1 : Int32)) (z_n Z) ∧ Kd g1 l2 = 13 ∧ Sp_M_round Γ l2 (z_x Z (l4 + (1 : Int32)).toNatClampNeg) g1 (fun (x4 : Int32) (g3 : GH) => ((x2 = x4 → B_LAW_law_1934 Γ Z K23 K l0 l1 l2 l3 l4 g3) ∧ (¬ (x2 = x4) → K (0 : Int32) g3))))
set_option maxHeartbeats 4000000 in
set_option maxRecDepth 100000 in
theorem S_LAW_law_1637 {Γ : GAM} {Z : SCRT} {E : EV} {K : Int32 → GH → Prop} (hsc : SCR Γ E Z) (hl : E.2.1.stackTraces = false) (hE : GE Γ E cL_law 7 RL (some (.boolean)) 2048 84000 (fun r g' => ∃ x, r = some (.int x) ∧ K x g')) {K23 : Nat → Nat → Nat → Nat → Int32 → GH → Prop} (hK23 : ∀ (l0 : Nat) (l1 : Nat) (l2 : Nat) (l3 : Nat) (l4 : Int32) (g : GH), K23 l0 l1 l2 l3 l4 g → JW Γ E 23 [some (.ref l0), some (.ref l1), some (.ref l2), some (.ref l3), some (.int l4), none, none] [] g) (l0 : Nat) (l1 : Nat) (l2 : Nat) (l3 : Nat) (l4 : Int32) (g : GH) (h : B_LAW_law_1637 Γ Z K23 K l0 l1 l2 l3 l4 g) : JW Γ E 1637 [some (.ref l0), some (.ref l1), some (.ref l2), some (.ref l3), some (.int l4), none, none] [] g := by
  unfold B_LAW_law_1637 at h
  refine j_aload_n hE (by decide +kernel : decode cL_law 1637 = .ok (.aload_n 1, 1)) rfl rfl ?_
  refine j_aload_n hE (by decide +kernel : decode cL_law 1638 = .ok (.aload_n 0, 1)) rfl rfl ?_
  refine j_iload hE (by decide +kernel : decode cL_law 1639 = .ok (.iload 4, 2)) rfl ?_
  refine j_iconst hE (by decide +kernel : decode cL_law 1641 = .ok (.iconst 1, 1)) (v := (1 : Int32)) (by decide) ?_
  refine j_iadd hE (by decide +kernel : decode cL_law 1642 = .ok (.iadd, 1)) ?_
  obtain ⟨hk, hb, h⟩ := h
  refine j_scr hE hsc hk hb (by decide +kernel : decode cL_law 1643 = .ok (.iaload, 1)) ?_
  obtain ⟨hk, h⟩ := h
  refine j_callV hE rfl cl_L_172 cf_11 im_X10_round se_X10_round ⟨by omega, by omega⟩ (As := [.int (z_x Z (l4 + (1 : Int32)).toNatClampNeg)]) (rest := []) rfl rfl (Nat.le_of_ble_eq_true rfl) hk (by decide +kernel : decode cL_law 1644 = .ok (.invokevirtual 172, 3)) (mt_PV_round _ _ _ _ h) ?_
  rintro _ g1 ⟨x2, rfl, h⟩
  refine j_aload_n hE (by decide +kernel : decode cL_law 1647 = .ok (.aload_n 2, 1)) rfl rfl ?_
  refine j_aload_n hE (by decide +kernel : decode cL_law 1648 = .ok (.aload_n 0, 1)) rfl rfl ?_
  refine j_iload hE (by decide +kernel : decode cL_law 1649 = .ok (.iload 4, 2)) rfl ?_
  refine j_iconst hE (by decide +kernel : decode cL_law 1651 = .ok (.iconst 1, 1)) (v := (1 : Int32)) (by decide) ?_
  refine j_iadd hE (by decide +kernel : decode cL_law 1652 = .ok (.iadd, 1)) ?_
  obtain ⟨hk, hb, h⟩ := h
  refine j_scr hE hsc hk hb (by decide +kernel : decode cL_law 1653 = .ok (.iaload, 1)) ?_
  obtain ⟨hk, h⟩ := h
  refine j_callV hE rfl cl_L_175 cf_12 im_X11_round se_X11_round ⟨by omega, by omega⟩ (As := [.int (z_x Z (l4 + (1 : Int32)).toNatClampNeg)]) (rest := [.int x2]) rfl rfl (Nat.le_of_ble_eq_true rfl) hk (by decide +kernel : decode cL_law 1654 = .ok (.invokevirtual 175, 3)) (mt_M_round _ _ _ _ h) ?_
  rintro _ g3 ⟨x4, rfl, h⟩
  refine j_icmp_eq hE (by decide +kernel : decode cL_law 1657 = .ok (.if_icmp .eq 277, 3)) (tgt := 1934) (by decide) (fun q => ?_) (fun q => ?_)
  · replace h := h.1 q
    exact S_LAW_law_1934 hsc hl hE hK23 _ _ _ _ _ _ h
  · replace h := h.2 q
    refine j_iconst hE (by decide +kernel : decode cL_law 1660 = .ok (.iconst 0, 1)) (v := (0 : Int32)) (by decide) ?_
    exact j_zret hE (Or.inl rfl) (by decide +kernel : decode cL_law 1661 = .ok (.ireturn, 1)) ⟨_, rfl, h⟩
set_option maxRecDepth 100000 in
def B_LAW_law_1612 (Γ : GAM) (Z : SCRT) (K23 : Nat → Nat → Nat → Nat → Int32 → GH → Prop) (K : Int32 → GH → Prop) (l0 : Nat) (l1 : Nat) (l2 : Nat) (l3 : Nat) (l4 : Int32) (g : GH) : Prop :=
  l0 = z_b Z ∧ inB (l4 + (1 : Int32)) (z_n Z) ∧ Kd g l1 = 12 ∧ Sp_PV_stops Γ l1 (z_x Z (l4 + (1 : Int32)).toNatClampNeg) g (fun (x2 : Int32) (g1 : GH) => l0 = z_b Z ∧ inB (l4 + (1 : Int32)) (z_n Z) ∧ Kd g1 l2 = 13 ∧ Sp_M_stops Γ l2 (z_x Z (l4 + (1 : Int32)).toNatClampNeg) g1 (fun (x4 : Int32) (g3 : GH) => ((x2 = x4 → B_LAW_law_1934 Γ Z K23 K l0 l1 l2 l3 l4 g3) ∧ (¬ (x2 = x4) → K (0 : Int32) g3))))
set_option maxHeartbeats 4000000 in
set_option maxRecDepth 100000 in
theorem S_LAW_law_1612 {Γ : GAM} {Z : SCRT} {E : EV} {K : Int32 → GH → Prop} (hsc : SCR Γ E Z) (hl : E.2.1.stackTraces = false) (hE : GE Γ E cL_law 7 RL (some (.boolean)) 2048 84000 (fun r g' => ∃ x, r = some (.int x) ∧ K x g')) {K23 : Nat → Nat → Nat → Nat → Int32 → GH → Prop} (hK23 : ∀ (l0 : Nat) (l1 : Nat) (l2 : Nat) (l3 : Nat) (l4 : Int32) (g : GH), K23 l0 l1 l2 l3 l4 g → JW Γ E 23 [some (.ref l0), some (.ref l1), some (.ref l2), some (.ref l3), some (.int l4), none, none] [] g) (l0 : Nat) (l1 : Nat) (l2 : Nat) (l3 : Nat) (l4 : Int32) (g : GH) (h : B_LAW_law_1612 Γ Z K23 K l0 l1 l2 l3 l4 g) : JW Γ E 1612 [some (.ref l0), some (.ref l1), some (.ref l2), some (.ref l3), some (.int l4), none, none] [] g := by
  unfold B_LAW_law_1612 at h
  refine j_aload_n hE (by decide +kernel : decode cL_law 1612 = .ok (.aload_n 1, 1)) rfl rfl ?_
  refine j_aload_n hE (by decide +kernel : decode cL_law 1613 = .ok (.aload_n 0, 1)) rfl rfl ?_
  refine j_iload hE (by decide +kernel : decode cL_law 1614 = .ok (.iload 4, 2)) rfl ?_
  refine j_iconst hE (by decide +kernel : decode cL_law 1616 = .ok (.iconst 1, 1)) (v := (1 : Int32)) (by decide) ?_
  refine j_iadd hE (by decide +kernel : decode cL_law 1617 = .ok (.iadd, 1)) ?_
  obtain ⟨hk, hb, h⟩ := h
  refine j_scr hE hsc hk hb (by decide +kernel : decode cL_law 1618 = .ok (.iaload, 1)) ?_
  obtain ⟨hk, h⟩ := h
  refine j_callV hE rfl cl_L_168 cf_11 im_X10_stops se_X10_stops ⟨by omega, by omega⟩ (As := [.int (z_x Z (l4 + (1 : Int32)).toNatClampNeg)]) (rest := []) rfl rfl (Nat.le_of_ble_eq_true rfl) hk (by decide +kernel : decode cL_law 1619 = .ok (.invokevirtual 168, 3)) (mt_PV_stops _ _ _ _ h) ?_
  rintro _ g1 ⟨x2, rfl, h⟩
  refine j_aload_n hE (by decide +kernel : decode cL_law 1622 = .ok (.aload_n 2, 1)) rfl rfl ?_
  refine j_aload_n hE (by decide +kernel : decode cL_law 1623 = .ok (.aload_n 0, 1)) rfl rfl ?_
  refine j_iload hE (by decide +kernel : decode cL_law 1624 = .ok (.iload 4, 2)) rfl ?_
  refine j_iconst hE (by decide +kernel : decode cL_law 1626 = .ok (.iconst 1, 1)) (v := (1 : Int32)) (by decide) ?_
  refine j_iadd hE (by decide +kernel : decode cL_law 1627 = .ok (.iadd, 1)) ?_
  obtain ⟨hk, hb, h⟩ := h
  refine j_scr hE hsc hk hb (by decide +kernel : decode cL_law 1628 = .ok (.iaload, 1)) ?_
  obtain ⟨hk, h⟩ := h
  refine j_callV hE rfl cl_L_171 cf_12 im_X11_stops se_X11_stops ⟨by omega, by omega⟩ (As := [.int (z_x Z (l4 + (1 : Int32)).toNatClampNeg)]) (rest := [.int x2]) rfl rfl (Nat.le_of_ble_eq_true rfl) hk (by decide +kernel : decode cL_law 1629 = .ok (.invokevirtual 171, 3)) (mt_M_stops _ _ _ _ h) ?_
  rintro _ g3 ⟨x4, rfl, h⟩
  refine j_icmp_eq hE (by decide +kernel : decode cL_law 1632 = .ok (.if_icmp .eq 302, 3)) (tgt := 1934) (by decide) (fun q => ?_) (fun q => ?_)
  · replace h := h.1 q
    exact S_LAW_law_1934 hsc hl hE hK23 _ _ _ _ _ _ h
  · replace h := h.2 q
    refine j_iconst hE (by decide +kernel : decode cL_law 1635 = .ok (.iconst 0, 1)) (v := (0 : Int32)) (by decide) ?_
    exact j_zret hE (Or.inl rfl) (by decide +kernel : decode cL_law 1636 = .ok (.ireturn, 1)) ⟨_, rfl, h⟩
set_option maxRecDepth 100000 in
def B_LAW_law_1563 (Γ : GAM) (Z : SCRT) (K23 : Nat → Nat → Nat → Nat → Int32 → GH → Prop) (K : Int32 → GH → Prop) (l0 : Nat) (l1 : Nat) (l2 : Nat) (l3 : Nat) (l4 : Int32) (g : GH) : Prop :=
  l0 = z_b Z ∧ inB (l4 + (1 : Int32)) (z_n Z) ∧ l0 = z_b Z ∧ inB (l4 + (2 : Int32)) (z_n Z) ∧ l0 = z_b Z ∧ inB (l4 + (3 : Int32)) (z_n Z) ∧ Kd g l1 = 12 ∧ Sp_PV_road Γ l1 (z_x Z (l4 + (1 : Int32)).toNatClampNeg) (z_x Z (l4 + (2 : Int32)).toNatClampNeg) (z_x Z (l4 + (3 : Int32)).toNatClampNeg) g (fun (x2 : Int32) (g1 : GH) => l0 = z_b Z ∧ inB (l4 + (1 : Int32)) (z_n Z) ∧ l0 = z_b Z ∧ inB (l4 + (2 : Int32)) (z_n Z) ∧ l0 = z_b Z ∧ inB (l4 + (3 : Int32)) (z_n Z) ∧ Kd g1 l2 = 13 ∧ Sp_M_road Γ l2 (z_x Z (l4 + (1 : Int32)).toNatClampNeg) (z_x Z (l4 + (2 : Int32)).toNatClampNeg) (z_x Z (l4 + (3 : Int32)).toNatClampNeg) g1 (fun (x4 : Int32) (g3 : GH) => ((x2 = x4 → B_LAW_law_1934 Γ Z K23 K l0 l1 l2 l3 l4 g3) ∧ (¬ (x2 = x4) → K (0 : Int32) g3))))
set_option maxHeartbeats 4000000 in
set_option maxRecDepth 100000 in
theorem S_LAW_law_1563 {Γ : GAM} {Z : SCRT} {E : EV} {K : Int32 → GH → Prop} (hsc : SCR Γ E Z) (hl : E.2.1.stackTraces = false) (hE : GE Γ E cL_law 7 RL (some (.boolean)) 2048 84000 (fun r g' => ∃ x, r = some (.int x) ∧ K x g')) {K23 : Nat → Nat → Nat → Nat → Int32 → GH → Prop} (hK23 : ∀ (l0 : Nat) (l1 : Nat) (l2 : Nat) (l3 : Nat) (l4 : Int32) (g : GH), K23 l0 l1 l2 l3 l4 g → JW Γ E 23 [some (.ref l0), some (.ref l1), some (.ref l2), some (.ref l3), some (.int l4), none, none] [] g) (l0 : Nat) (l1 : Nat) (l2 : Nat) (l3 : Nat) (l4 : Int32) (g : GH) (h : B_LAW_law_1563 Γ Z K23 K l0 l1 l2 l3 l4 g) : JW Γ E 1563 [some (.ref l0), some (.ref l1), some (.ref l2), some (.ref l3), some (.int l4), none, none] [] g := by
  unfold B_LAW_law_1563 at h
  refine j_aload_n hE (by decide +kernel : decode cL_law 1563 = .ok (.aload_n 1, 1)) rfl rfl ?_
  refine j_aload_n hE (by decide +kernel : decode cL_law 1564 = .ok (.aload_n 0, 1)) rfl rfl ?_
  refine j_iload hE (by decide +kernel : decode cL_law 1565 = .ok (.iload 4, 2)) rfl ?_
  refine j_iconst hE (by decide +kernel : decode cL_law 1567 = .ok (.iconst 1, 1)) (v := (1 : Int32)) (by decide) ?_
  refine j_iadd hE (by decide +kernel : decode cL_law 1568 = .ok (.iadd, 1)) ?_
  obtain ⟨hk, hb, h⟩ := h
  refine j_scr hE hsc hk hb (by decide +kernel : decode cL_law 1569 = .ok (.iaload, 1)) ?_
  refine j_aload_n hE (by decide +kernel : decode cL_law 1570 = .ok (.aload_n 0, 1)) rfl rfl ?_
  refine j_iload hE (by decide +kernel : decode cL_law 1571 = .ok (.iload 4, 2)) rfl ?_
  refine j_iconst hE (by decide +kernel : decode cL_law 1573 = .ok (.iconst 2, 1)) (v := (2 : Int32)) (by decide) ?_
  refine j_iadd hE (by decide +kernel : decode cL_law 1574 = .ok (.iadd, 1)) ?_
  obtain ⟨hk, hb, h⟩ := h
  refine j_scr hE hsc hk hb (by decide +kernel : decode cL_law 1575 = .ok (.iaload, 1)) ?_
  refine j_aload_n hE (by decide +kernel : decode cL_law 1576 = .ok (.aload_n 0, 1)) rfl rfl ?_
  refine j_iload hE (by decide +kernel : decode cL_law 1577 = .ok (.iload 4, 2)) rfl ?_
  refine j_iconst hE (by decide +kernel : decode cL_law 1579 = .ok (.iconst 3, 1)) (v := (3 : Int32)) (by decide) ?_
  refine j_iadd hE (by decide +kernel : decode cL_law 1580 = .ok (.iadd, 1)) ?_
  obtain ⟨hk, hb, h⟩ := h
  refine j_scr hE hsc hk hb (by decide +kernel : decode cL_law 1581 = .ok (.iaload, 1)) ?_
  obtain ⟨hk, h⟩ := h
  refine j_callV hE rfl cl_L_164 cf_11 im_X10_road se_X10_road ⟨by omega, by omega⟩ (As := [.int (z_x Z (l4 + (1 : Int32)).toNatClampNeg), .int (z_x Z (l4 + (2 : Int32)).toNatClampNeg), .int (z_x Z (l4 + (3 : Int32)).toNatClampNeg)]) (rest := []) rfl rfl (Nat.le_of_ble_eq_true rfl) hk (by decide +kernel : decode cL_law 1582 = .ok (.invokevirtual 164, 3)) (mt_PV_road _ _ _ _ _ _ h) ?_
  rintro _ g1 ⟨x2, rfl, h⟩
  refine j_aload_n hE (by decide +kernel : decode cL_law 1585 = .ok (.aload_n 2, 1)) rfl rfl ?_
  refine j_aload_n hE (by decide +kernel : decode cL_law 1586 = .ok (.aload_n 0, 1)) rfl rfl ?_
  refine j_iload hE (by decide +kernel : decode cL_law 1587 = .ok (.iload 4, 2)) rfl ?_
  refine j_iconst hE (by decide +kernel : decode cL_law 1589 = .ok (.iconst 1, 1)) (v := (1 : Int32)) (by decide) ?_
  refine j_iadd hE (by decide +kernel : decode cL_law 1590 = .ok (.iadd, 1)) ?_
  obtain ⟨hk, hb, h⟩ := h
  refine j_scr hE hsc hk hb (by decide +kernel : decode cL_law 1591 = .ok (.iaload, 1)) ?_
  refine j_aload_n hE (by decide +kernel : decode cL_law 1592 = .ok (.aload_n 0, 1)) rfl rfl ?_
  refine j_iload hE (by decide +kernel : decode cL_law 1593 = .ok (.iload 4, 2)) rfl ?_
  refine j_iconst hE (by decide +kernel : decode cL_law 1595 = .ok (.iconst 2, 1)) (v := (2 : Int32)) (by decide) ?_
  refine j_iadd hE (by decide +kernel : decode cL_law 1596 = .ok (.iadd, 1)) ?_
  obtain ⟨hk, hb, h⟩ := h
  refine j_scr hE hsc hk hb (by decide +kernel : decode cL_law 1597 = .ok (.iaload, 1)) ?_
  refine j_aload_n hE (by decide +kernel : decode cL_law 1598 = .ok (.aload_n 0, 1)) rfl rfl ?_
  refine j_iload hE (by decide +kernel : decode cL_law 1599 = .ok (.iload 4, 2)) rfl ?_
  refine j_iconst hE (by decide +kernel : decode cL_law 1601 = .ok (.iconst 3, 1)) (v := (3 : Int32)) (by decide) ?_
  refine j_iadd hE (by decide +kernel : decode cL_law 1602 = .ok (.iadd, 1)) ?_
  obtain ⟨hk, hb, h⟩ := h
  refine j_scr hE hsc hk hb (by decide +kernel : decode cL_law 1603 = .ok (.iaload, 1)) ?_
  obtain ⟨hk, h⟩ := h
  refine j_callV hE rfl cl_L_167 cf_12 im_X11_road se_X11_road ⟨by omega, by omega⟩ (As := [.int (z_x Z (l4 + (1 : Int32)).toNatClampNeg), .int (z_x Z (l4 + (2 : Int32)).toNatClampNeg), .int (z_x Z (l4 + (3 : Int32)).toNatClampNeg)]) (rest := [.int x2]) rfl rfl (Nat.le_of_ble_eq_true rfl) hk (by decide +kernel : decode cL_law 1604 = .ok (.invokevirtual 167, 3)) (mt_M_road _ _ _ _ _ _ h) ?_
  rintro _ g3 ⟨x4, rfl, h⟩
  refine j_icmp_eq hE (by decide +kernel : decode cL_law 1607 = .ok (.if_icmp .eq 327, 3)) (tgt := 1934) (by decide) (fun q => ?_) (fun q => ?_)
  · replace h := h.1 q
    exact S_LAW_law_1934 hsc hl hE hK23 _ _ _ _ _ _ h
  · replace h := h.2 q
    refine j_iconst hE (by decide +kernel : decode cL_law 1610 = .ok (.iconst 0, 1)) (v := (0 : Int32)) (by decide) ?_
    exact j_zret hE (Or.inl rfl) (by decide +kernel : decode cL_law 1611 = .ok (.ireturn, 1)) ⟨_, rfl, h⟩
set_option maxRecDepth 100000 in
def B_LAW_law_1514 (Γ : GAM) (Z : SCRT) (K23 : Nat → Nat → Nat → Nat → Int32 → GH → Prop) (K : Int32 → GH → Prop) (l0 : Nat) (l1 : Nat) (l2 : Nat) (l3 : Nat) (l4 : Int32) (g : GH) : Prop :=
  l0 = z_b Z ∧ inB (l4 + (1 : Int32)) (z_n Z) ∧ l0 = z_b Z ∧ inB (l4 + (2 : Int32)) (z_n Z) ∧ l0 = z_b Z ∧ inB (l4 + (3 : Int32)) (z_n Z) ∧ Kd g l1 = 12 ∧ Sp_PV_stand Γ l1 (z_x Z (l4 + (1 : Int32)).toNatClampNeg) (z_x Z (l4 + (2 : Int32)).toNatClampNeg) (z_x Z (l4 + (3 : Int32)).toNatClampNeg) g (fun (x2 : Int32) (g1 : GH) => l0 = z_b Z ∧ inB (l4 + (1 : Int32)) (z_n Z) ∧ l0 = z_b Z ∧ inB (l4 + (2 : Int32)) (z_n Z) ∧ l0 = z_b Z ∧ inB (l4 + (3 : Int32)) (z_n Z) ∧ Kd g1 l2 = 13 ∧ Sp_M_stand Γ l2 (z_x Z (l4 + (1 : Int32)).toNatClampNeg) (z_x Z (l4 + (2 : Int32)).toNatClampNeg) (z_x Z (l4 + (3 : Int32)).toNatClampNeg) g1 (fun (x4 : Int32) (g3 : GH) => ((x2 = x4 → B_LAW_law_1934 Γ Z K23 K l0 l1 l2 l3 l4 g3) ∧ (¬ (x2 = x4) → K (0 : Int32) g3))))
set_option maxHeartbeats 4000000 in
set_option maxRecDepth 100000 in
theorem S_LAW_law_1514 {Γ : GAM} {Z : SCRT} {E : EV} {K : Int32 → GH → Prop} (hsc : SCR Γ E Z) (hl : E.2.1.stackTraces = false) (hE : GE Γ E cL_law 7 RL (some (.boolean)) 2048 84000 (fun r g' => ∃ x, r = some (.int x) ∧ K x g')) {K23 : Nat → Nat → Nat → Nat → Int32 → GH → Prop} (hK23 : ∀ (l0 : Nat) (l1 : Nat) (l2 : Nat) (l3 : Nat) (l4 : Int32) (g : GH), K23 l0 l1 l2 l3 l4 g → JW Γ E 23 [some (.ref l0), some (.ref l1), some (.ref l2), some (.ref l3), some (.int l4), none, none] [] g) (l0 : Nat) (l1 : Nat) (l2 : Nat) (l3 : Nat) (l4 : Int32) (g : GH) (h : B_LAW_law_1514 Γ Z K23 K l0 l1 l2 l3 l4 g) : JW Γ E 1514 [some (.ref l0), some (.ref l1), some (.ref l2), some (.ref l3), some (.int l4), none, none] [] g := by
  unfold B_LAW_law_1514 at h
  refine j_aload_n hE (by decide +kernel : decode cL_law 1514 = .ok (.aload_n 1, 1)) rfl rfl ?_
  refine j_aload_n hE (by decide +kernel : decode cL_law 1515 = .ok (.aload_n 0, 1)) rfl rfl ?_
  refine j_iload hE (by decide +kernel : decode cL_law 1516 = .ok (.iload 4, 2)) rfl ?_
  refine j_iconst hE (by decide +kernel : decode cL_law 1518 = .ok (.iconst 1, 1)) (v := (1 : Int32)) (by decide) ?_
  refine j_iadd hE (by decide +kernel : decode cL_law 1519 = .ok (.iadd, 1)) ?_
  obtain ⟨hk, hb, h⟩ := h
  refine j_scr hE hsc hk hb (by decide +kernel : decode cL_law 1520 = .ok (.iaload, 1)) ?_
  refine j_aload_n hE (by decide +kernel : decode cL_law 1521 = .ok (.aload_n 0, 1)) rfl rfl ?_
  refine j_iload hE (by decide +kernel : decode cL_law 1522 = .ok (.iload 4, 2)) rfl ?_
  refine j_iconst hE (by decide +kernel : decode cL_law 1524 = .ok (.iconst 2, 1)) (v := (2 : Int32)) (by decide) ?_
  refine j_iadd hE (by decide +kernel : decode cL_law 1525 = .ok (.iadd, 1)) ?_
  obtain ⟨hk, hb, h⟩ := h
  refine j_scr hE hsc hk hb (by decide +kernel : decode cL_law 1526 = .ok (.iaload, 1)) ?_
  refine j_aload_n hE (by decide +kernel : decode cL_law 1527 = .ok (.aload_n 0, 1)) rfl rfl ?_
  refine j_iload hE (by decide +kernel : decode cL_law 1528 = .ok (.iload 4, 2)) rfl ?_
  refine j_iconst hE (by decide +kernel : decode cL_law 1530 = .ok (.iconst 3, 1)) (v := (3 : Int32)) (by decide) ?_
  refine j_iadd hE (by decide +kernel : decode cL_law 1531 = .ok (.iadd, 1)) ?_
  obtain ⟨hk, hb, h⟩ := h
  refine j_scr hE hsc hk hb (by decide +kernel : decode cL_law 1532 = .ok (.iaload, 1)) ?_
  obtain ⟨hk, h⟩ := h
  refine j_callV hE rfl cl_L_160 cf_11 im_X10_stand se_X10_stand ⟨by omega, by omega⟩ (As := [.int (z_x Z (l4 + (1 : Int32)).toNatClampNeg), .int (z_x Z (l4 + (2 : Int32)).toNatClampNeg), .int (z_x Z (l4 + (3 : Int32)).toNatClampNeg)]) (rest := []) rfl rfl (Nat.le_of_ble_eq_true rfl) hk (by decide +kernel : decode cL_law 1533 = .ok (.invokevirtual 160, 3)) (mt_PV_stand _ _ _ _ _ _ h) ?_
  rintro _ g1 ⟨x2, rfl, h⟩
  refine j_aload_n hE (by decide +kernel : decode cL_law 1536 = .ok (.aload_n 2, 1)) rfl rfl ?_
  refine j_aload_n hE (by decide +kernel : decode cL_law 1537 = .ok (.aload_n 0, 1)) rfl rfl ?_
  refine j_iload hE (by decide +kernel : decode cL_law 1538 = .ok (.iload 4, 2)) rfl ?_
  refine j_iconst hE (by decide +kernel : decode cL_law 1540 = .ok (.iconst 1, 1)) (v := (1 : Int32)) (by decide) ?_
  refine j_iadd hE (by decide +kernel : decode cL_law 1541 = .ok (.iadd, 1)) ?_
  obtain ⟨hk, hb, h⟩ := h
  refine j_scr hE hsc hk hb (by decide +kernel : decode cL_law 1542 = .ok (.iaload, 1)) ?_
  refine j_aload_n hE (by decide +kernel : decode cL_law 1543 = .ok (.aload_n 0, 1)) rfl rfl ?_
  refine j_iload hE (by decide +kernel : decode cL_law 1544 = .ok (.iload 4, 2)) rfl ?_
  refine j_iconst hE (by decide +kernel : decode cL_law 1546 = .ok (.iconst 2, 1)) (v := (2 : Int32)) (by decide) ?_
  refine j_iadd hE (by decide +kernel : decode cL_law 1547 = .ok (.iadd, 1)) ?_
  obtain ⟨hk, hb, h⟩ := h
  refine j_scr hE hsc hk hb (by decide +kernel : decode cL_law 1548 = .ok (.iaload, 1)) ?_
  refine j_aload_n hE (by decide +kernel : decode cL_law 1549 = .ok (.aload_n 0, 1)) rfl rfl ?_
  refine j_iload hE (by decide +kernel : decode cL_law 1550 = .ok (.iload 4, 2)) rfl ?_
  refine j_iconst hE (by decide +kernel : decode cL_law 1552 = .ok (.iconst 3, 1)) (v := (3 : Int32)) (by decide) ?_
  refine j_iadd hE (by decide +kernel : decode cL_law 1553 = .ok (.iadd, 1)) ?_
  obtain ⟨hk, hb, h⟩ := h
  refine j_scr hE hsc hk hb (by decide +kernel : decode cL_law 1554 = .ok (.iaload, 1)) ?_
  obtain ⟨hk, h⟩ := h
  refine j_callV hE rfl cl_L_163 cf_12 im_X11_stand se_X11_stand ⟨by omega, by omega⟩ (As := [.int (z_x Z (l4 + (1 : Int32)).toNatClampNeg), .int (z_x Z (l4 + (2 : Int32)).toNatClampNeg), .int (z_x Z (l4 + (3 : Int32)).toNatClampNeg)]) (rest := [.int x2]) rfl rfl (Nat.le_of_ble_eq_true rfl) hk (by decide +kernel : decode cL_law 1555 = .ok (.invokevirtual 163, 3)) (mt_M_stand _ _ _ _ _ _ h) ?_
  rintro _ g3 ⟨x4, rfl, h⟩
  refine j_icmp_eq hE (by decide +kernel : decode cL_law 1558 = .ok (.if_icmp .eq 376, 3)) (tgt := 1934) (by decide) (fun q => ?_) (fun q => ?_)
  · replace h := h.1 q
    exact S_LAW_law_1934 hsc hl hE hK23 _ _ _ _ _ _ h
  · replace h := h.2 q
    refine j_iconst hE (by decide +kernel : decode cL_law 1561 = .ok (.iconst 0, 1)) (v := (0 : Int32)) (by decide) ?_
    exact j_zret hE (Or.inl rfl) (by decide +kernel : decode cL_law 1562 = .ok (.ireturn, 1)) ⟨_, rfl, h⟩
set_option maxRecDepth 100000 in
def B_LAW_law_1501 (Γ : GAM) (Z : SCRT) (K23 : Nat → Nat → Nat → Nat → Int32 → GH → Prop) (K : Int32 → GH → Prop) (l0 : Nat) (l1 : Nat) (l2 : Nat) (l3 : Nat) (l4 : Int32) (g : GH) : Prop :=
  Kd g l1 = 12 ∧ Sp_PV_latest Γ l1 g (fun (x2 : Int32) (g1 : GH) => Kd g1 l2 = 13 ∧ Sp_M_latest Γ l2 g1 (fun (x4 : Int32) (g3 : GH) => ((x2 = x4 → B_LAW_law_1934 Γ Z K23 K l0 l1 l2 l3 l4 g3) ∧ (¬ (x2 = x4) → K (0 : Int32) g3))))
set_option maxHeartbeats 4000000 in
set_option maxRecDepth 100000 in
theorem S_LAW_law_1501 {Γ : GAM} {Z : SCRT} {E : EV} {K : Int32 → GH → Prop} (hsc : SCR Γ E Z) (hl : E.2.1.stackTraces = false) (hE : GE Γ E cL_law 7 RL (some (.boolean)) 2048 84000 (fun r g' => ∃ x, r = some (.int x) ∧ K x g')) {K23 : Nat → Nat → Nat → Nat → Int32 → GH → Prop} (hK23 : ∀ (l0 : Nat) (l1 : Nat) (l2 : Nat) (l3 : Nat) (l4 : Int32) (g : GH), K23 l0 l1 l2 l3 l4 g → JW Γ E 23 [some (.ref l0), some (.ref l1), some (.ref l2), some (.ref l3), some (.int l4), none, none] [] g) (l0 : Nat) (l1 : Nat) (l2 : Nat) (l3 : Nat) (l4 : Int32) (g : GH) (h : B_LAW_law_1501 Γ Z K23 K l0 l1 l2 l3 l4 g) : JW Γ E 1501 [some (.ref l0), some (.ref l1), some (.ref l2), some (.ref l3), some (.int l4), none, none] [] g := by
  unfold B_LAW_law_1501 at h
  refine j_aload_n hE (by decide +kernel : decode cL_law 1501 = .ok (.aload_n 1, 1)) rfl rfl ?_
  obtain ⟨hk, h⟩ := h
  refine j_callV hE rfl cl_L_156 cf_11 im_X10_latest se_X10_latest ⟨by omega, by omega⟩ (As := []) (rest := []) rfl rfl (Nat.le_of_ble_eq_true rfl) hk (by decide +kernel : decode cL_law 1502 = .ok (.invokevirtual 156, 3)) (mt_PV_latest _ _ _ h) ?_
  rintro _ g1 ⟨x2, rfl, h⟩
  refine j_aload_n hE (by decide +kernel : decode cL_law 1505 = .ok (.aload_n 2, 1)) rfl rfl ?_
  obtain ⟨hk, h⟩ := h
  refine j_callV hE rfl cl_L_159 cf_12 im_X11_latest se_X11_latest ⟨by omega, by omega⟩ (As := []) (rest := [.int x2]) rfl rfl (Nat.le_of_ble_eq_true rfl) hk (by decide +kernel : decode cL_law 1506 = .ok (.invokevirtual 159, 3)) (mt_M_latest _ _ _ h) ?_
  rintro _ g3 ⟨x4, rfl, h⟩
  refine j_icmp_eq hE (by decide +kernel : decode cL_law 1509 = .ok (.if_icmp .eq 425, 3)) (tgt := 1934) (by decide) (fun q => ?_) (fun q => ?_)
  · replace h := h.1 q
    exact S_LAW_law_1934 hsc hl hE hK23 _ _ _ _ _ _ h
  · replace h := h.2 q
    refine j_iconst hE (by decide +kernel : decode cL_law 1512 = .ok (.iconst 0, 1)) (v := (0 : Int32)) (by decide) ?_
    exact j_zret hE (Or.inl rfl) (by decide +kernel : decode cL_law 1513 = .ok (.ireturn, 1)) ⟨_, rfl, h⟩
set_option maxRecDepth 100000 in
def B_LAW_law_1476 (Γ : GAM) (Z : SCRT) (K23 : Nat → Nat → Nat → Nat → Int32 → GH → Prop) (K : Int32 → GH → Prop) (l0 : Nat) (l1 : Nat) (l2 : Nat) (l3 : Nat) (l4 : Int32) (g : GH) : Prop :=
  l0 = z_b Z ∧ inB (l4 + (1 : Int32)) (z_n Z) ∧ Kd g l1 = 12 ∧ Sp_PV_printed Γ l1 (z_x Z (l4 + (1 : Int32)).toNatClampNeg) g (fun (x2 : Int32) (g1 : GH) => l0 = z_b Z ∧ inB (l4 + (1 : Int32)) (z_n Z) ∧ Kd g1 l2 = 13 ∧ Sp_M_printed Γ l2 (z_x Z (l4 + (1 : Int32)).toNatClampNeg) g1 (fun (x4 : Int32) (g3 : GH) => ((x2 = x4 → B_LAW_law_1934 Γ Z K23 K l0 l1 l2 l3 l4 g3) ∧ (¬ (x2 = x4) → K (0 : Int32) g3))))
set_option maxHeartbeats 4000000 in
set_option maxRecDepth 100000 in
theorem S_LAW_law_1476 {Γ : GAM} {Z : SCRT} {E : EV} {K : Int32 → GH → Prop} (hsc : SCR Γ E Z) (hl : E.2.1.stackTraces = false) (hE : GE Γ E cL_law 7 RL (some (.boolean)) 2048 84000 (fun r g' => ∃ x, r = some (.int x) ∧ K x g')) {K23 : Nat → Nat → Nat → Nat → Int32 → GH → Prop} (hK23 : ∀ (l0 : Nat) (l1 : Nat) (l2 : Nat) (l3 : Nat) (l4 : Int32) (g : GH), K23 l0 l1 l2 l3 l4 g → JW Γ E 23 [some (.ref l0), some (.ref l1), some (.ref l2), some (.ref l3), some (.int l4), none, none] [] g) (l0 : Nat) (l1 : Nat) (l2 : Nat) (l3 : Nat) (l4 : Int32) (g : GH) (h : B_LAW_law_1476 Γ Z K23 K l0 l1 l2 l3 l4 g) : JW Γ E 1476 [some (.ref l0), some (.ref l1), some (.ref l2), some (.ref l3), some (.int l4), none, none] [] g := by
  unfold B_LAW_law_1476 at h
  refine j_aload_n hE (by decide +kernel : decode cL_law 1476 = .ok (.aload_n 1, 1)) rfl rfl ?_
  refine j_aload_n hE (by decide +kernel : decode cL_law 1477 = .ok (.aload_n 0, 1)) rfl rfl ?_
  refine j_iload hE (by decide +kernel : decode cL_law 1478 = .ok (.iload 4, 2)) rfl ?_
  refine j_iconst hE (by decide +kernel : decode cL_law 1480 = .ok (.iconst 1, 1)) (v := (1 : Int32)) (by decide) ?_
  refine j_iadd hE (by decide +kernel : decode cL_law 1481 = .ok (.iadd, 1)) ?_
  obtain ⟨hk, hb, h⟩ := h
  refine j_scr hE hsc hk hb (by decide +kernel : decode cL_law 1482 = .ok (.iaload, 1)) ?_
  obtain ⟨hk, h⟩ := h
  refine j_callV hE rfl cl_L_152 cf_11 im_X10_printed se_X10_printed ⟨by omega, by omega⟩ (As := [.int (z_x Z (l4 + (1 : Int32)).toNatClampNeg)]) (rest := []) rfl rfl (Nat.le_of_ble_eq_true rfl) hk (by decide +kernel : decode cL_law 1483 = .ok (.invokevirtual 152, 3)) (mt_PV_printed _ _ _ _ h) ?_
  rintro _ g1 ⟨x2, rfl, h⟩
  refine j_aload_n hE (by decide +kernel : decode cL_law 1486 = .ok (.aload_n 2, 1)) rfl rfl ?_
  refine j_aload_n hE (by decide +kernel : decode cL_law 1487 = .ok (.aload_n 0, 1)) rfl rfl ?_
  refine j_iload hE (by decide +kernel : decode cL_law 1488 = .ok (.iload 4, 2)) rfl ?_
  refine j_iconst hE (by decide +kernel : decode cL_law 1490 = .ok (.iconst 1, 1)) (v := (1 : Int32)) (by decide) ?_
  refine j_iadd hE (by decide +kernel : decode cL_law 1491 = .ok (.iadd, 1)) ?_
  obtain ⟨hk, hb, h⟩ := h
  refine j_scr hE hsc hk hb (by decide +kernel : decode cL_law 1492 = .ok (.iaload, 1)) ?_
  obtain ⟨hk, h⟩ := h
  refine j_callV hE rfl cl_L_155 cf_12 im_X11_printed se_X11_printed ⟨by omega, by omega⟩ (As := [.int (z_x Z (l4 + (1 : Int32)).toNatClampNeg)]) (rest := [.int x2]) rfl rfl (Nat.le_of_ble_eq_true rfl) hk (by decide +kernel : decode cL_law 1493 = .ok (.invokevirtual 155, 3)) (mt_M_printed _ _ _ _ h) ?_
  rintro _ g3 ⟨x4, rfl, h⟩
  refine j_icmp_eq hE (by decide +kernel : decode cL_law 1496 = .ok (.if_icmp .eq 438, 3)) (tgt := 1934) (by decide) (fun q => ?_) (fun q => ?_)
  · replace h := h.1 q
    exact S_LAW_law_1934 hsc hl hE hK23 _ _ _ _ _ _ h
  · replace h := h.2 q
    refine j_iconst hE (by decide +kernel : decode cL_law 1499 = .ok (.iconst 0, 1)) (v := (0 : Int32)) (by decide) ?_
    exact j_zret hE (Or.inl rfl) (by decide +kernel : decode cL_law 1500 = .ok (.ireturn, 1)) ⟨_, rfl, h⟩
set_option maxRecDepth 100000 in
def B_LAW_law_1451 (Γ : GAM) (Z : SCRT) (K23 : Nat → Nat → Nat → Nat → Int32 → GH → Prop) (K : Int32 → GH → Prop) (l0 : Nat) (l1 : Nat) (l2 : Nat) (l3 : Nat) (l4 : Int32) (g : GH) : Prop :=
  l0 = z_b Z ∧ inB (l4 + (1 : Int32)) (z_n Z) ∧ Kd g l1 = 12 ∧ Sp_PV_press Γ l1 (z_x Z (l4 + (1 : Int32)).toNatClampNeg) g (fun (x2 : Int32) (g1 : GH) => l0 = z_b Z ∧ inB (l4 + (1 : Int32)) (z_n Z) ∧ Kd g1 l2 = 13 ∧ Sp_M_press Γ l2 (z_x Z (l4 + (1 : Int32)).toNatClampNeg) g1 (fun (x4 : Int32) (g3 : GH) => ((x2 = x4 → B_LAW_law_1934 Γ Z K23 K l0 l1 l2 l3 l4 g3) ∧ (¬ (x2 = x4) → K (0 : Int32) g3))))
set_option maxHeartbeats 4000000 in
set_option maxRecDepth 100000 in
theorem S_LAW_law_1451 {Γ : GAM} {Z : SCRT} {E : EV} {K : Int32 → GH → Prop} (hsc : SCR Γ E Z) (hl : E.2.1.stackTraces = false) (hE : GE Γ E cL_law 7 RL (some (.boolean)) 2048 84000 (fun r g' => ∃ x, r = some (.int x) ∧ K x g')) {K23 : Nat → Nat → Nat → Nat → Int32 → GH → Prop} (hK23 : ∀ (l0 : Nat) (l1 : Nat) (l2 : Nat) (l3 : Nat) (l4 : Int32) (g : GH), K23 l0 l1 l2 l3 l4 g → JW Γ E 23 [some (.ref l0), some (.ref l1), some (.ref l2), some (.ref l3), some (.int l4), none, none] [] g) (l0 : Nat) (l1 : Nat) (l2 : Nat) (l3 : Nat) (l4 : Int32) (g : GH) (h : B_LAW_law_1451 Γ Z K23 K l0 l1 l2 l3 l4 g) : JW Γ E 1451 [some (.ref l0), some (.ref l1), some (.ref l2), some (.ref l3), some (.int l4), none, none] [] g := by
  unfold B_LAW_law_1451 at h
  refine j_aload_n hE (by decide +kernel : decode cL_law 1451 = .ok (.aload_n 1, 1)) rfl rfl ?_
  refine j_aload_n hE (by decide +kernel : decode cL_law 1452 = .ok (.aload_n 0, 1)) rfl rfl ?_
  refine j_iload hE (by decide +kernel : decode cL_law 1453 = .ok (.iload 4, 2)) rfl ?_
  refine j_iconst hE (by decide +kernel : decode cL_law 1455 = .ok (.iconst 1, 1)) (v := (1 : Int32)) (by decide) ?_
  refine j_iadd hE (by decide +kernel : decode cL_law 1456 = .ok (.iadd, 1)) ?_
  obtain ⟨hk, hb, h⟩ := h
  refine j_scr hE hsc hk hb (by decide +kernel : decode cL_law 1457 = .ok (.iaload, 1)) ?_
  obtain ⟨hk, h⟩ := h
  refine j_callV hE rfl cl_L_148 cf_11 im_X10_press se_X10_press ⟨by omega, by omega⟩ (As := [.int (z_x Z (l4 + (1 : Int32)).toNatClampNeg)]) (rest := []) rfl rfl (Nat.le_of_ble_eq_true rfl) hk (by decide +kernel : decode cL_law 1458 = .ok (.invokevirtual 148, 3)) (mt_PV_press _ _ _ _ h) ?_
  rintro _ g1 ⟨x2, rfl, h⟩
  refine j_aload_n hE (by decide +kernel : decode cL_law 1461 = .ok (.aload_n 2, 1)) rfl rfl ?_
  refine j_aload_n hE (by decide +kernel : decode cL_law 1462 = .ok (.aload_n 0, 1)) rfl rfl ?_
  refine j_iload hE (by decide +kernel : decode cL_law 1463 = .ok (.iload 4, 2)) rfl ?_
  refine j_iconst hE (by decide +kernel : decode cL_law 1465 = .ok (.iconst 1, 1)) (v := (1 : Int32)) (by decide) ?_
  refine j_iadd hE (by decide +kernel : decode cL_law 1466 = .ok (.iadd, 1)) ?_
  obtain ⟨hk, hb, h⟩ := h
  refine j_scr hE hsc hk hb (by decide +kernel : decode cL_law 1467 = .ok (.iaload, 1)) ?_
  obtain ⟨hk, h⟩ := h
  refine j_callV hE rfl cl_L_151 cf_12 im_X11_press se_X11_press ⟨by omega, by omega⟩ (As := [.int (z_x Z (l4 + (1 : Int32)).toNatClampNeg)]) (rest := [.int x2]) rfl rfl (Nat.le_of_ble_eq_true rfl) hk (by decide +kernel : decode cL_law 1468 = .ok (.invokevirtual 151, 3)) (mt_M_press _ _ _ _ h) ?_
  rintro _ g3 ⟨x4, rfl, h⟩
  refine j_icmp_eq hE (by decide +kernel : decode cL_law 1471 = .ok (.if_icmp .eq 463, 3)) (tgt := 1934) (by decide) (fun q => ?_) (fun q => ?_)
  · replace h := h.1 q
    exact S_LAW_law_1934 hsc hl hE hK23 _ _ _ _ _ _ h
  · replace h := h.2 q
    refine j_iconst hE (by decide +kernel : decode cL_law 1474 = .ok (.iconst 0, 1)) (v := (0 : Int32)) (by decide) ?_
    exact j_zret hE (Or.inl rfl) (by decide +kernel : decode cL_law 1475 = .ok (.ireturn, 1)) ⟨_, rfl, h⟩
set_option maxRecDepth 100000 in
def B_LAW_law_1402 (Γ : GAM) (Z : SCRT) (K23 : Nat → Nat → Nat → Nat → Int32 → GH → Prop) (K : Int32 → GH → Prop) (l0 : Nat) (l1 : Nat) (l2 : Nat) (l3 : Nat) (l4 : Int32) (g : GH) : Prop :=
  l0 = z_b Z ∧ inB (l4 + (1 : Int32)) (z_n Z) ∧ l0 = z_b Z ∧ inB (l4 + (2 : Int32)) (z_n Z) ∧ l0 = z_b Z ∧ inB (l4 + (3 : Int32)) (z_n Z) ∧ Kd g l1 = 12 ∧ Sp_PV_wave Γ l1 (z_x Z (l4 + (1 : Int32)).toNatClampNeg) (z_x Z (l4 + (2 : Int32)).toNatClampNeg) (z_x Z (l4 + (3 : Int32)).toNatClampNeg) g (fun (x2 : Int32) (g1 : GH) => l0 = z_b Z ∧ inB (l4 + (1 : Int32)) (z_n Z) ∧ l0 = z_b Z ∧ inB (l4 + (2 : Int32)) (z_n Z) ∧ l0 = z_b Z ∧ inB (l4 + (3 : Int32)) (z_n Z) ∧ Kd g1 l2 = 13 ∧ Sp_M_wave Γ l2 (z_x Z (l4 + (1 : Int32)).toNatClampNeg) (z_x Z (l4 + (2 : Int32)).toNatClampNeg) (z_x Z (l4 + (3 : Int32)).toNatClampNeg) g1 (fun (x4 : Int32) (g3 : GH) => ((x2 = x4 → B_LAW_law_1934 Γ Z K23 K l0 l1 l2 l3 l4 g3) ∧ (¬ (x2 = x4) → K (0 : Int32) g3))))
set_option maxHeartbeats 4000000 in
set_option maxRecDepth 100000 in
theorem S_LAW_law_1402 {Γ : GAM} {Z : SCRT} {E : EV} {K : Int32 → GH → Prop} (hsc : SCR Γ E Z) (hl : E.2.1.stackTraces = false) (hE : GE Γ E cL_law 7 RL (some (.boolean)) 2048 84000 (fun r g' => ∃ x, r = some (.int x) ∧ K x g')) {K23 : Nat → Nat → Nat → Nat → Int32 → GH → Prop} (hK23 : ∀ (l0 : Nat) (l1 : Nat) (l2 : Nat) (l3 : Nat) (l4 : Int32) (g : GH), K23 l0 l1 l2 l3 l4 g → JW Γ E 23 [some (.ref l0), some (.ref l1), some (.ref l2), some (.ref l3), some (.int l4), none, none] [] g) (l0 : Nat) (l1 : Nat) (l2 : Nat) (l3 : Nat) (l4 : Int32) (g : GH) (h : B_LAW_law_1402 Γ Z K23 K l0 l1 l2 l3 l4 g) : JW Γ E 1402 [some (.ref l0), some (.ref l1), some (.ref l2), some (.ref l3), some (.int l4), none, none] [] g := by
  unfold B_LAW_law_1402 at h
  refine j_aload_n hE (by decide +kernel : decode cL_law 1402 = .ok (.aload_n 1, 1)) rfl rfl ?_
  refine j_aload_n hE (by decide +kernel : decode cL_law 1403 = .ok (.aload_n 0, 1)) rfl rfl ?_
  refine j_iload hE (by decide +kernel : decode cL_law 1404 = .ok (.iload 4, 2)) rfl ?_
  refine j_iconst hE (by decide +kernel : decode cL_law 1406 = .ok (.iconst 1, 1)) (v := (1 : Int32)) (by decide) ?_
  refine j_iadd hE (by decide +kernel : decode cL_law 1407 = .ok (.iadd, 1)) ?_
  obtain ⟨hk, hb, h⟩ := h
  refine j_scr hE hsc hk hb (by decide +kernel : decode cL_law 1408 = .ok (.iaload, 1)) ?_
  refine j_aload_n hE (by decide +kernel : decode cL_law 1409 = .ok (.aload_n 0, 1)) rfl rfl ?_
  refine j_iload hE (by decide +kernel : decode cL_law 1410 = .ok (.iload 4, 2)) rfl ?_
  refine j_iconst hE (by decide +kernel : decode cL_law 1412 = .ok (.iconst 2, 1)) (v := (2 : Int32)) (by decide) ?_
  refine j_iadd hE (by decide +kernel : decode cL_law 1413 = .ok (.iadd, 1)) ?_
  obtain ⟨hk, hb, h⟩ := h
  refine j_scr hE hsc hk hb (by decide +kernel : decode cL_law 1414 = .ok (.iaload, 1)) ?_
  refine j_aload_n hE (by decide +kernel : decode cL_law 1415 = .ok (.aload_n 0, 1)) rfl rfl ?_
  refine j_iload hE (by decide +kernel : decode cL_law 1416 = .ok (.iload 4, 2)) rfl ?_
  refine j_iconst hE (by decide +kernel : decode cL_law 1418 = .ok (.iconst 3, 1)) (v := (3 : Int32)) (by decide) ?_
  refine j_iadd hE (by decide +kernel : decode cL_law 1419 = .ok (.iadd, 1)) ?_
  obtain ⟨hk, hb, h⟩ := h
  refine j_scr hE hsc hk hb (by decide +kernel : decode cL_law 1420 = .ok (.iaload, 1)) ?_
  obtain ⟨hk, h⟩ := h
  refine j_callV hE rfl cl_L_144 cf_11 im_X10_wave se_X10_wave ⟨by omega, by omega⟩ (As := [.int (z_x Z (l4 + (1 : Int32)).toNatClampNeg), .int (z_x Z (l4 + (2 : Int32)).toNatClampNeg), .int (z_x Z (l4 + (3 : Int32)).toNatClampNeg)]) (rest := []) rfl rfl (Nat.le_of_ble_eq_true rfl) hk (by decide +kernel : decode cL_law 1421 = .ok (.invokevirtual 144, 3)) (mt_PV_wave _ _ _ _ _ _ h) ?_
  rintro _ g1 ⟨x2, rfl, h⟩
  refine j_aload_n hE (by decide +kernel : decode cL_law 1424 = .ok (.aload_n 2, 1)) rfl rfl ?_
  refine j_aload_n hE (by decide +kernel : decode cL_law 1425 = .ok (.aload_n 0, 1)) rfl rfl ?_
  refine j_iload hE (by decide +kernel : decode cL_law 1426 = .ok (.iload 4, 2)) rfl ?_
  refine j_iconst hE (by decide +kernel : decode cL_law 1428 = .ok (.iconst 1, 1)) (v := (1 : Int32)) (by decide) ?_
  refine j_iadd hE (by decide +kernel : decode cL_law 1429 = .ok (.iadd, 1)) ?_
  obtain ⟨hk, hb, h⟩ := h
  refine j_scr hE hsc hk hb (by decide +kernel : decode cL_law 1430 = .ok (.iaload, 1)) ?_
  refine j_aload_n hE (by decide +kernel : decode cL_law 1431 = .ok (.aload_n 0, 1)) rfl rfl ?_
  refine j_iload hE (by decide +kernel : decode cL_law 1432 = .ok (.iload 4, 2)) rfl ?_
  refine j_iconst hE (by decide +kernel : decode cL_law 1434 = .ok (.iconst 2, 1)) (v := (2 : Int32)) (by decide) ?_
  refine j_iadd hE (by decide +kernel : decode cL_law 1435 = .ok (.iadd, 1)) ?_
  obtain ⟨hk, hb, h⟩ := h
  refine j_scr hE hsc hk hb (by decide +kernel : decode cL_law 1436 = .ok (.iaload, 1)) ?_
  refine j_aload_n hE (by decide +kernel : decode cL_law 1437 = .ok (.aload_n 0, 1)) rfl rfl ?_
  refine j_iload hE (by decide +kernel : decode cL_law 1438 = .ok (.iload 4, 2)) rfl ?_
  refine j_iconst hE (by decide +kernel : decode cL_law 1440 = .ok (.iconst 3, 1)) (v := (3 : Int32)) (by decide) ?_
  refine j_iadd hE (by decide +kernel : decode cL_law 1441 = .ok (.iadd, 1)) ?_
  obtain ⟨hk, hb, h⟩ := h
  refine j_scr hE hsc hk hb (by decide +kernel : decode cL_law 1442 = .ok (.iaload, 1)) ?_
  obtain ⟨hk, h⟩ := h
  refine j_callV hE rfl cl_L_147 cf_12 im_X11_wave se_X11_wave ⟨by omega, by omega⟩ (As := [.int (z_x Z (l4 + (1 : Int32)).toNatClampNeg), .int (z_x Z (l4 + (2 : Int32)).toNatClampNeg), .int (z_x Z (l4 + (3 : Int32)).toNatClampNeg)]) (rest := [.int x2]) rfl rfl (Nat.le_of_ble_eq_true rfl) hk (by decide +kernel : decode cL_law 1443 = .ok (.invokevirtual 147, 3)) (mt_M_wave _ _ _ _ _ _ h) ?_
  rintro _ g3 ⟨x4, rfl, h⟩
  refine j_icmp_eq hE (by decide +kernel : decode cL_law 1446 = .ok (.if_icmp .eq 488, 3)) (tgt := 1934) (by decide) (fun q => ?_) (fun q => ?_)
  · replace h := h.1 q
    exact S_LAW_law_1934 hsc hl hE hK23 _ _ _ _ _ _ h
  · replace h := h.2 q
    refine j_iconst hE (by decide +kernel : decode cL_law 1449 = .ok (.iconst 0, 1)) (v := (0 : Int32)) (by decide) ?_
    exact j_zret hE (Or.inl rfl) (by decide +kernel : decode cL_law 1450 = .ok (.ireturn, 1)) ⟨_, rfl, h⟩
set_option maxRecDepth 100000 in
def B_LAW_law_1321 (Γ : GAM) (Z : SCRT) (K23 : Nat → Nat → Nat → Nat → Int32 → GH → Prop) (K : Int32 → GH → Prop) (l0 : Nat) (l1 : Nat) (l2 : Nat) (l3 : Nat) (l4 : Int32) (g : GH) : Prop :=
  l0 = z_b Z ∧ inB (l4 + (1 : Int32)) (z_n Z) ∧ l0 = z_b Z ∧ inB (l4 + (2 : Int32)) (z_n Z) ∧ l0 = z_b Z ∧ inB (l4 + (3 : Int32)) (z_n Z) ∧ l0 = z_b Z ∧ inB (l4 + (4 : Int32)) (z_n Z) ∧ Kd g l1 = 12 ∧ Sp_PV_recheck Γ l1 (z_x Z (l4 + (1 : Int32)).toNatClampNeg) (z_x Z (l4 + (2 : Int32)).toNatClampNeg) ((((z_x Z (l4 + (3 : Int32)).toNatClampNeg).toInt64) <<< ((32 : Int32).toInt64 &&& 63)) ||| (((z_x Z (l4 + (4 : Int32)).toNatClampNeg).toInt64) &&& (4294967295 : Int64))) g (fun (x2 : Int32) (g1 : GH) => l0 = z_b Z ∧ inB (l4 + (1 : Int32)) (z_n Z) ∧ l0 = z_b Z ∧ inB (l4 + (2 : Int32)) (z_n Z) ∧ l0 = z_b Z ∧ inB (l4 + (3 : Int32)) (z_n Z) ∧ l0 = z_b Z ∧ inB (l4 + (4 : Int32)) (z_n Z) ∧ Kd g1 l2 = 13 ∧ Sp_M_recheck Γ l2 (z_x Z (l4 + (1 : Int32)).toNatClampNeg) (z_x Z (l4 + (2 : Int32)).toNatClampNeg) ((((z_x Z (l4 + (3 : Int32)).toNatClampNeg).toInt64) <<< ((32 : Int32).toInt64 &&& 63)) ||| (((z_x Z (l4 + (4 : Int32)).toNatClampNeg).toInt64) &&& (4294967295 : Int64))) g1 (fun (x4 : Int32) (g3 : GH) => ((x2 = x4 → B_LAW_law_1934 Γ Z K23 K l0 l1 l2 l3 l4 g3) ∧ (¬ (x2 = x4) → K (0 : Int32) g3))))
set_option maxHeartbeats 4000000 in
set_option maxRecDepth 100000 in
theorem S_LAW_law_1321 {Γ : GAM} {Z : SCRT} {E : EV} {K : Int32 → GH → Prop} (hsc : SCR Γ E Z) (hl : E.2.1.stackTraces = false) (hE : GE Γ E cL_law 7 RL (some (.boolean)) 2048 84000 (fun r g' => ∃ x, r = some (.int x) ∧ K x g')) {K23 : Nat → Nat → Nat → Nat → Int32 → GH → Prop} (hK23 : ∀ (l0 : Nat) (l1 : Nat) (l2 : Nat) (l3 : Nat) (l4 : Int32) (g : GH), K23 l0 l1 l2 l3 l4 g → JW Γ E 23 [some (.ref l0), some (.ref l1), some (.ref l2), some (.ref l3), some (.int l4), none, none] [] g) (l0 : Nat) (l1 : Nat) (l2 : Nat) (l3 : Nat) (l4 : Int32) (g : GH) (h : B_LAW_law_1321 Γ Z K23 K l0 l1 l2 l3 l4 g) : JW Γ E 1321 [some (.ref l0), some (.ref l1), some (.ref l2), some (.ref l3), some (.int l4), none, none] [] g := by
  unfold B_LAW_law_1321 at h
  refine j_aload_n hE (by decide +kernel : decode cL_law 1321 = .ok (.aload_n 1, 1)) rfl rfl ?_
  refine j_aload_n hE (by decide +kernel : decode cL_law 1322 = .ok (.aload_n 0, 1)) rfl rfl ?_
  refine j_iload hE (by decide +kernel : decode cL_law 1323 = .ok (.iload 4, 2)) rfl ?_
  refine j_iconst hE (by decide +kernel : decode cL_law 1325 = .ok (.iconst 1, 1)) (v := (1 : Int32)) (by decide) ?_
  refine j_iadd hE (by decide +kernel : decode cL_law 1326 = .ok (.iadd, 1)) ?_
  obtain ⟨hk, hb, h⟩ := h
  refine j_scr hE hsc hk hb (by decide +kernel : decode cL_law 1327 = .ok (.iaload, 1)) ?_
  refine j_aload_n hE (by decide +kernel : decode cL_law 1328 = .ok (.aload_n 0, 1)) rfl rfl ?_
  refine j_iload hE (by decide +kernel : decode cL_law 1329 = .ok (.iload 4, 2)) rfl ?_
  refine j_iconst hE (by decide +kernel : decode cL_law 1331 = .ok (.iconst 2, 1)) (v := (2 : Int32)) (by decide) ?_
  refine j_iadd hE (by decide +kernel : decode cL_law 1332 = .ok (.iadd, 1)) ?_
  obtain ⟨hk, hb, h⟩ := h
  refine j_scr hE hsc hk hb (by decide +kernel : decode cL_law 1333 = .ok (.iaload, 1)) ?_
  refine j_aload_n hE (by decide +kernel : decode cL_law 1334 = .ok (.aload_n 0, 1)) rfl rfl ?_
  refine j_iload hE (by decide +kernel : decode cL_law 1335 = .ok (.iload 4, 2)) rfl ?_
  refine j_iconst hE (by decide +kernel : decode cL_law 1337 = .ok (.iconst 3, 1)) (v := (3 : Int32)) (by decide) ?_
  refine j_iadd hE (by decide +kernel : decode cL_law 1338 = .ok (.iadd, 1)) ?_
  obtain ⟨hk, hb, h⟩ := h
  refine j_scr hE hsc hk hb (by decide +kernel : decode cL_law 1339 = .ok (.iaload, 1)) ?_
  refine j_i2l hE (by decide +kernel : decode cL_law 1340 = .ok (.i2l, 1)) ?_
  refine j_bipush hE (by decide +kernel : decode cL_law 1341 = .ok (.bipush 32, 2)) (v := (32 : Int32)) (by decide) ?_
  refine j_lshl hE (by decide +kernel : decode cL_law 1343 = .ok (.lshl, 1)) ?_
  refine j_aload_n hE (by decide +kernel : decode cL_law 1344 = .ok (.aload_n 0, 1)) rfl rfl ?_
  refine j_iload hE (by decide +kernel : decode cL_law 1345 = .ok (.iload 4, 2)) rfl ?_
  refine j_iconst hE (by decide +kernel : decode cL_law 1347 = .ok (.iconst 4, 1)) (v := (4 : Int32)) (by decide) ?_
  refine j_iadd hE (by decide +kernel : decode cL_law 1348 = .ok (.iadd, 1)) ?_
  obtain ⟨hk, hb, h⟩ := h
  refine j_scr hE hsc hk hb (by decide +kernel : decode cL_law 1349 = .ok (.iaload, 1)) ?_
  refine j_i2l hE (by decide +kernel : decode cL_law 1350 = .ok (.i2l, 1)) ?_
  refine j_ldc2 hE ctL_L_137 (by decide +kernel : decode cL_law 1351 = .ok (.ldc2_w 137, 3)) ?_
  refine j_land hE (by decide +kernel : decode cL_law 1354 = .ok (.land, 1)) ?_
  refine j_lor hE (by decide +kernel : decode cL_law 1355 = .ok (.lor, 1)) ?_
  obtain ⟨hk, h⟩ := h
  refine j_callV hE rfl cl_L_139 cf_11 im_X10_recheck se_X10_recheck ⟨by omega, by omega⟩ (As := [.int (z_x Z (l4 + (1 : Int32)).toNatClampNeg), .int (z_x Z (l4 + (2 : Int32)).toNatClampNeg), .long ((((z_x Z (l4 + (3 : Int32)).toNatClampNeg).toInt64) <<< ((32 : Int32).toInt64 &&& 63)) ||| (((z_x Z (l4 + (4 : Int32)).toNatClampNeg).toInt64) &&& (4294967295 : Int64)))]) (rest := []) rfl rfl (Nat.le_of_ble_eq_true rfl) hk (by decide +kernel : decode cL_law 1356 = .ok (.invokevirtual 139, 3)) (mt_PV_recheck _ _ _ _ _ _ h) ?_
  rintro _ g1 ⟨x2, rfl, h⟩
  refine j_aload_n hE (by decide +kernel : decode cL_law 1359 = .ok (.aload_n 2, 1)) rfl rfl ?_
  refine j_aload_n hE (by decide +kernel : decode cL_law 1360 = .ok (.aload_n 0, 1)) rfl rfl ?_
  refine j_iload hE (by decide +kernel : decode cL_law 1361 = .ok (.iload 4, 2)) rfl ?_
  refine j_iconst hE (by decide +kernel : decode cL_law 1363 = .ok (.iconst 1, 1)) (v := (1 : Int32)) (by decide) ?_
  refine j_iadd hE (by decide +kernel : decode cL_law 1364 = .ok (.iadd, 1)) ?_
  obtain ⟨hk, hb, h⟩ := h
  refine j_scr hE hsc hk hb (by decide +kernel : decode cL_law 1365 = .ok (.iaload, 1)) ?_
  refine j_aload_n hE (by decide +kernel : decode cL_law 1366 = .ok (.aload_n 0, 1)) rfl rfl ?_
  refine j_iload hE (by decide +kernel : decode cL_law 1367 = .ok (.iload 4, 2)) rfl ?_
  refine j_iconst hE (by decide +kernel : decode cL_law 1369 = .ok (.iconst 2, 1)) (v := (2 : Int32)) (by decide) ?_
  refine j_iadd hE (by decide +kernel : decode cL_law 1370 = .ok (.iadd, 1)) ?_
  obtain ⟨hk, hb, h⟩ := h
  refine j_scr hE hsc hk hb (by decide +kernel : decode cL_law 1371 = .ok (.iaload, 1)) ?_
  refine j_aload_n hE (by decide +kernel : decode cL_law 1372 = .ok (.aload_n 0, 1)) rfl rfl ?_
  refine j_iload hE (by decide +kernel : decode cL_law 1373 = .ok (.iload 4, 2)) rfl ?_
  refine j_iconst hE (by decide +kernel : decode cL_law 1375 = .ok (.iconst 3, 1)) (v := (3 : Int32)) (by decide) ?_
  refine j_iadd hE (by decide +kernel : decode cL_law 1376 = .ok (.iadd, 1)) ?_
  obtain ⟨hk, hb, h⟩ := h
  refine j_scr hE hsc hk hb (by decide +kernel : decode cL_law 1377 = .ok (.iaload, 1)) ?_
  refine j_i2l hE (by decide +kernel : decode cL_law 1378 = .ok (.i2l, 1)) ?_
  refine j_bipush hE (by decide +kernel : decode cL_law 1379 = .ok (.bipush 32, 2)) (v := (32 : Int32)) (by decide) ?_
  refine j_lshl hE (by decide +kernel : decode cL_law 1381 = .ok (.lshl, 1)) ?_
  refine j_aload_n hE (by decide +kernel : decode cL_law 1382 = .ok (.aload_n 0, 1)) rfl rfl ?_
  refine j_iload hE (by decide +kernel : decode cL_law 1383 = .ok (.iload 4, 2)) rfl ?_
  refine j_iconst hE (by decide +kernel : decode cL_law 1385 = .ok (.iconst 4, 1)) (v := (4 : Int32)) (by decide) ?_
  refine j_iadd hE (by decide +kernel : decode cL_law 1386 = .ok (.iadd, 1)) ?_
  obtain ⟨hk, hb, h⟩ := h
  refine j_scr hE hsc hk hb (by decide +kernel : decode cL_law 1387 = .ok (.iaload, 1)) ?_
  refine j_i2l hE (by decide +kernel : decode cL_law 1388 = .ok (.i2l, 1)) ?_
  refine j_ldc2 hE ctL_L_137 (by decide +kernel : decode cL_law 1389 = .ok (.ldc2_w 137, 3)) ?_
  refine j_land hE (by decide +kernel : decode cL_law 1392 = .ok (.land, 1)) ?_
  refine j_lor hE (by decide +kernel : decode cL_law 1393 = .ok (.lor, 1)) ?_
  obtain ⟨hk, h⟩ := h
  refine j_callV hE rfl cl_L_143 cf_12 im_X11_recheck se_X11_recheck ⟨by omega, by omega⟩ (As := [.int (z_x Z (l4 + (1 : Int32)).toNatClampNeg), .int (z_x Z (l4 + (2 : Int32)).toNatClampNeg), .long ((((z_x Z (l4 + (3 : Int32)).toNatClampNeg).toInt64) <<< ((32 : Int32).toInt64 &&& 63)) ||| (((z_x Z (l4 + (4 : Int32)).toNatClampNeg).toInt64) &&& (4294967295 : Int64)))]) (rest := [.int x2]) rfl rfl (Nat.le_of_ble_eq_true rfl) hk (by decide +kernel : decode cL_law 1394 = .ok (.invokevirtual 143, 3)) (mt_M_recheck _ _ _ _ _ _ h) ?_
  rintro _ g3 ⟨x4, rfl, h⟩
  refine j_icmp_eq hE (by decide +kernel : decode cL_law 1397 = .ok (.if_icmp .eq 537, 3)) (tgt := 1934) (by decide) (fun q => ?_) (fun q => ?_)
  · replace h := h.1 q
    exact S_LAW_law_1934 hsc hl hE hK23 _ _ _ _ _ _ h
  · replace h := h.2 q
    refine j_iconst hE (by decide +kernel : decode cL_law 1400 = .ok (.iconst 0, 1)) (v := (0 : Int32)) (by decide) ?_
    exact j_zret hE (Or.inl rfl) (by decide +kernel : decode cL_law 1401 = .ok (.ireturn, 1)) ⟨_, rfl, h⟩
set_option maxRecDepth 100000 in
def B_LAW_law_1296 (Γ : GAM) (Z : SCRT) (K23 : Nat → Nat → Nat → Nat → Int32 → GH → Prop) (K : Int32 → GH → Prop) (l0 : Nat) (l1 : Nat) (l2 : Nat) (l3 : Nat) (l4 : Int32) (g : GH) : Prop :=
  l0 = z_b Z ∧ inB (l4 + (1 : Int32)) (z_n Z) ∧ Kd g l1 = 12 ∧ Sp_PV_size Γ l1 (z_x Z (l4 + (1 : Int32)).toNatClampNeg) g (fun (x2 : Int32) (g1 : GH) => l0 = z_b Z ∧ inB (l4 + (1 : Int32)) (z_n Z) ∧ Kd g1 l2 = 13 ∧ Sp_M_size Γ l2 (z_x Z (l4 + (1 : Int32)).toNatClampNeg) g1 (fun (x4 : Int32) (g3 : GH) => ((x2 = x4 → B_LAW_law_1934 Γ Z K23 K l0 l1 l2 l3 l4 g3) ∧ (¬ (x2 = x4) → K (0 : Int32) g3))))
set_option maxHeartbeats 4000000 in
set_option maxRecDepth 100000 in
theorem S_LAW_law_1296 {Γ : GAM} {Z : SCRT} {E : EV} {K : Int32 → GH → Prop} (hsc : SCR Γ E Z) (hl : E.2.1.stackTraces = false) (hE : GE Γ E cL_law 7 RL (some (.boolean)) 2048 84000 (fun r g' => ∃ x, r = some (.int x) ∧ K x g')) {K23 : Nat → Nat → Nat → Nat → Int32 → GH → Prop} (hK23 : ∀ (l0 : Nat) (l1 : Nat) (l2 : Nat) (l3 : Nat) (l4 : Int32) (g : GH), K23 l0 l1 l2 l3 l4 g → JW Γ E 23 [some (.ref l0), some (.ref l1), some (.ref l2), some (.ref l3), some (.int l4), none, none] [] g) (l0 : Nat) (l1 : Nat) (l2 : Nat) (l3 : Nat) (l4 : Int32) (g : GH) (h : B_LAW_law_1296 Γ Z K23 K l0 l1 l2 l3 l4 g) : JW Γ E 1296 [some (.ref l0), some (.ref l1), some (.ref l2), some (.ref l3), some (.int l4), none, none] [] g := by
  unfold B_LAW_law_1296 at h
  refine j_aload_n hE (by decide +kernel : decode cL_law 1296 = .ok (.aload_n 1, 1)) rfl rfl ?_
  refine j_aload_n hE (by decide +kernel : decode cL_law 1297 = .ok (.aload_n 0, 1)) rfl rfl ?_
  refine j_iload hE (by decide +kernel : decode cL_law 1298 = .ok (.iload 4, 2)) rfl ?_
  refine j_iconst hE (by decide +kernel : decode cL_law 1300 = .ok (.iconst 1, 1)) (v := (1 : Int32)) (by decide) ?_
  refine j_iadd hE (by decide +kernel : decode cL_law 1301 = .ok (.iadd, 1)) ?_
  obtain ⟨hk, hb, h⟩ := h
  refine j_scr hE hsc hk hb (by decide +kernel : decode cL_law 1302 = .ok (.iaload, 1)) ?_
  obtain ⟨hk, h⟩ := h
  refine j_callV hE rfl cl_L_133 cf_11 im_X10_size se_X10_size ⟨by omega, by omega⟩ (As := [.int (z_x Z (l4 + (1 : Int32)).toNatClampNeg)]) (rest := []) rfl rfl (Nat.le_of_ble_eq_true rfl) hk (by decide +kernel : decode cL_law 1303 = .ok (.invokevirtual 133, 3)) (mt_PV_size _ _ _ _ h) ?_
  rintro _ g1 ⟨x2, rfl, h⟩
  refine j_aload_n hE (by decide +kernel : decode cL_law 1306 = .ok (.aload_n 2, 1)) rfl rfl ?_
  refine j_aload_n hE (by decide +kernel : decode cL_law 1307 = .ok (.aload_n 0, 1)) rfl rfl ?_
  refine j_iload hE (by decide +kernel : decode cL_law 1308 = .ok (.iload 4, 2)) rfl ?_
  refine j_iconst hE (by decide +kernel : decode cL_law 1310 = .ok (.iconst 1, 1)) (v := (1 : Int32)) (by decide) ?_
  refine j_iadd hE (by decide +kernel : decode cL_law 1311 = .ok (.iadd, 1)) ?_
  obtain ⟨hk, hb, h⟩ := h
  refine j_scr hE hsc hk hb (by decide +kernel : decode cL_law 1312 = .ok (.iaload, 1)) ?_
  obtain ⟨hk, h⟩ := h
  refine j_callV hE rfl cl_L_136 cf_12 im_X11_size se_X11_size ⟨by omega, by omega⟩ (As := [.int (z_x Z (l4 + (1 : Int32)).toNatClampNeg)]) (rest := [.int x2]) rfl rfl (Nat.le_of_ble_eq_true rfl) hk (by decide +kernel : decode cL_law 1313 = .ok (.invokevirtual 136, 3)) (mt_M_size _ _ _ _ h) ?_
  rintro _ g3 ⟨x4, rfl, h⟩
  refine j_icmp_eq hE (by decide +kernel : decode cL_law 1316 = .ok (.if_icmp .eq 618, 3)) (tgt := 1934) (by decide) (fun q => ?_) (fun q => ?_)
  · replace h := h.1 q
    exact S_LAW_law_1934 hsc hl hE hK23 _ _ _ _ _ _ h
  · replace h := h.2 q
    refine j_iconst hE (by decide +kernel : decode cL_law 1319 = .ok (.iconst 0, 1)) (v := (0 : Int32)) (by decide) ?_
    exact j_zret hE (Or.inl rfl) (by decide +kernel : decode cL_law 1320 = .ok (.ireturn, 1)) ⟨_, rfl, h⟩
set_option maxRecDepth 100000 in
def B_LAW_law_1283 (Γ : GAM) (Z : SCRT) (K23 : Nat → Nat → Nat → Nat → Int32 → GH → Prop) (K : Int32 → GH → Prop) (l0 : Nat) (l1 : Nat) (l2 : Nat) (l3 : Nat) (l4 : Int32) (g : GH) : Prop :=
  Kd g l1 = 12 ∧ Sp_PV_harshest Γ l1 g (fun (x2 : Int32) (g1 : GH) => Kd g1 l2 = 13 ∧ Sp_M_harshest Γ l2 g1 (fun (x4 : Int32) (g3 : GH) => ((x2 = x4 → B_LAW_law_1934 Γ Z K23 K l0 l1 l2 l3 l4 g3) ∧ (¬ (x2 = x4) → K (0 : Int32) g3))))
set_option maxHeartbeats 4000000 in
set_option maxRecDepth 100000 in
theorem S_LAW_law_1283 {Γ : GAM} {Z : SCRT} {E : EV} {K : Int32 → GH → Prop} (hsc : SCR Γ E Z) (hl : E.2.1.stackTraces = false) (hE : GE Γ E cL_law 7 RL (some (.boolean)) 2048 84000 (fun r g' => ∃ x, r = some (.int x) ∧ K x g')) {K23 : Nat → Nat → Nat → Nat → Int32 → GH → Prop} (hK23 : ∀ (l0 : Nat) (l1 : Nat) (l2 : Nat) (l3 : Nat) (l4 : Int32) (g : GH), K23 l0 l1 l2 l3 l4 g → JW Γ E 23 [some (.ref l0), some (.ref l1), some (.ref l2), some (.ref l3), some (.int l4), none, none] [] g) (l0 : Nat) (l1 : Nat) (l2 : Nat) (l3 : Nat) (l4 : Int32) (g : GH) (h : B_LAW_law_1283 Γ Z K23 K l0 l1 l2 l3 l4 g) : JW Γ E 1283 [some (.ref l0), some (.ref l1), some (.ref l2), some (.ref l3), some (.int l4), none, none] [] g := by
  unfold B_LAW_law_1283 at h
  refine j_aload_n hE (by decide +kernel : decode cL_law 1283 = .ok (.aload_n 1, 1)) rfl rfl ?_
  obtain ⟨hk, h⟩ := h
  refine j_callV hE rfl cl_L_129 cf_11 im_X10_harshest se_X10_harshest ⟨by omega, by omega⟩ (As := []) (rest := []) rfl rfl (Nat.le_of_ble_eq_true rfl) hk (by decide +kernel : decode cL_law 1284 = .ok (.invokevirtual 129, 3)) (mt_PV_harshest _ _ _ h) ?_
  rintro _ g1 ⟨x2, rfl, h⟩
  refine j_aload_n hE (by decide +kernel : decode cL_law 1287 = .ok (.aload_n 2, 1)) rfl rfl ?_
  obtain ⟨hk, h⟩ := h
  refine j_callV hE rfl cl_L_132 cf_12 im_X11_harshest se_X11_harshest ⟨by omega, by omega⟩ (As := []) (rest := [.int x2]) rfl rfl (Nat.le_of_ble_eq_true rfl) hk (by decide +kernel : decode cL_law 1288 = .ok (.invokevirtual 132, 3)) (mt_M_harshest _ _ _ h) ?_
  rintro _ g3 ⟨x4, rfl, h⟩
  refine j_icmp_eq hE (by decide +kernel : decode cL_law 1291 = .ok (.if_icmp .eq 643, 3)) (tgt := 1934) (by decide) (fun q => ?_) (fun q => ?_)
  · replace h := h.1 q
    exact S_LAW_law_1934 hsc hl hE hK23 _ _ _ _ _ _ h
  · replace h := h.2 q
    refine j_iconst hE (by decide +kernel : decode cL_law 1294 = .ok (.iconst 0, 1)) (v := (0 : Int32)) (by decide) ?_
    exact j_zret hE (Or.inl rfl) (by decide +kernel : decode cL_law 1295 = .ok (.ireturn, 1)) ⟨_, rfl, h⟩
set_option maxRecDepth 100000 in
def B_LAW_law_1234 (Γ : GAM) (Z : SCRT) (K23 : Nat → Nat → Nat → Nat → Int32 → GH → Prop) (K : Int32 → GH → Prop) (l0 : Nat) (l1 : Nat) (l2 : Nat) (l3 : Nat) (l4 : Int32) (g : GH) : Prop :=
  l0 = z_b Z ∧ inB (l4 + (1 : Int32)) (z_n Z) ∧ l0 = z_b Z ∧ inB (l4 + (2 : Int32)) (z_n Z) ∧ l0 = z_b Z ∧ inB (l4 + (3 : Int32)) (z_n Z) ∧ Kd g l1 = 12 ∧ Sp_PV_habit Γ l1 (z_x Z (l4 + (1 : Int32)).toNatClampNeg) (z_x Z (l4 + (2 : Int32)).toNatClampNeg) (z_x Z (l4 + (3 : Int32)).toNatClampNeg) g (fun (x2 : Int32) (g1 : GH) => l0 = z_b Z ∧ inB (l4 + (1 : Int32)) (z_n Z) ∧ l0 = z_b Z ∧ inB (l4 + (2 : Int32)) (z_n Z) ∧ l0 = z_b Z ∧ inB (l4 + (3 : Int32)) (z_n Z) ∧ Kd g1 l2 = 13 ∧ Sp_M_habit Γ l2 (z_x Z (l4 + (1 : Int32)).toNatClampNeg) (z_x Z (l4 + (2 : Int32)).toNatClampNeg) (z_x Z (l4 + (3 : Int32)).toNatClampNeg) g1 (fun (x4 : Int32) (g3 : GH) => ((x2 = x4 → B_LAW_law_1934 Γ Z K23 K l0 l1 l2 l3 l4 g3) ∧ (¬ (x2 = x4) → K (0 : Int32) g3))))
set_option maxHeartbeats 4000000 in
set_option maxRecDepth 100000 in
theorem S_LAW_law_1234 {Γ : GAM} {Z : SCRT} {E : EV} {K : Int32 → GH → Prop} (hsc : SCR Γ E Z) (hl : E.2.1.stackTraces = false) (hE : GE Γ E cL_law 7 RL (some (.boolean)) 2048 84000 (fun r g' => ∃ x, r = some (.int x) ∧ K x g')) {K23 : Nat → Nat → Nat → Nat → Int32 → GH → Prop} (hK23 : ∀ (l0 : Nat) (l1 : Nat) (l2 : Nat) (l3 : Nat) (l4 : Int32) (g : GH), K23 l0 l1 l2 l3 l4 g → JW Γ E 23 [some (.ref l0), some (.ref l1), some (.ref l2), some (.ref l3), some (.int l4), none, none] [] g) (l0 : Nat) (l1 : Nat) (l2 : Nat) (l3 : Nat) (l4 : Int32) (g : GH) (h : B_LAW_law_1234 Γ Z K23 K l0 l1 l2 l3 l4 g) : JW Γ E 1234 [some (.ref l0), some (.ref l1), some (.ref l2), some (.ref l3), some (.int l4), none, none] [] g := by
  unfold B_LAW_law_1234 at h
  refine j_aload_n hE (by decide +kernel : decode cL_law 1234 = .ok (.aload_n 1, 1)) rfl rfl ?_
  refine j_aload_n hE (by decide +kernel : decode cL_law 1235 = .ok (.aload_n 0, 1)) rfl rfl ?_
  refine j_iload hE (by decide +kernel : decode cL_law 1236 = .ok (.iload 4, 2)) rfl ?_
  refine j_iconst hE (by decide +kernel : decode cL_law 1238 = .ok (.iconst 1, 1)) (v := (1 : Int32)) (by decide) ?_
  refine j_iadd hE (by decide +kernel : decode cL_law 1239 = .ok (.iadd, 1)) ?_
  obtain ⟨hk, hb, h⟩ := h
  refine j_scr hE hsc hk hb (by decide +kernel : decode cL_law 1240 = .ok (.iaload, 1)) ?_
  refine j_aload_n hE (by decide +kernel : decode cL_law 1241 = .ok (.aload_n 0, 1)) rfl rfl ?_
  refine j_iload hE (by decide +kernel : decode cL_law 1242 = .ok (.iload 4, 2)) rfl ?_
  refine j_iconst hE (by decide +kernel : decode cL_law 1244 = .ok (.iconst 2, 1)) (v := (2 : Int32)) (by decide) ?_
  refine j_iadd hE (by decide +kernel : decode cL_law 1245 = .ok (.iadd, 1)) ?_
  obtain ⟨hk, hb, h⟩ := h
  refine j_scr hE hsc hk hb (by decide +kernel : decode cL_law 1246 = .ok (.iaload, 1)) ?_
  refine j_aload_n hE (by decide +kernel : decode cL_law 1247 = .ok (.aload_n 0, 1)) rfl rfl ?_
  refine j_iload hE (by decide +kernel : decode cL_law 1248 = .ok (.iload 4, 2)) rfl ?_
  refine j_iconst hE (by decide +kernel : decode cL_law 1250 = .ok (.iconst 3, 1)) (v := (3 : Int32)) (by decide) ?_
  refine j_iadd hE (by decide +kernel : decode cL_law 1251 = .ok (.iadd, 1)) ?_
  obtain ⟨hk, hb, h⟩ := h
  refine j_scr hE hsc hk hb (by decide +kernel : decode cL_law 1252 = .ok (.iaload, 1)) ?_
  obtain ⟨hk, h⟩ := h
  refine j_callV hE rfl cl_L_125 cf_11 im_X10_habit se_X10_habit ⟨by omega, by omega⟩ (As := [.int (z_x Z (l4 + (1 : Int32)).toNatClampNeg), .int (z_x Z (l4 + (2 : Int32)).toNatClampNeg), .int (z_x Z (l4 + (3 : Int32)).toNatClampNeg)]) (rest := []) rfl rfl (Nat.le_of_ble_eq_true rfl) hk (by decide +kernel : decode cL_law 1253 = .ok (.invokevirtual 125, 3)) (mt_PV_habit _ _ _ _ _ _ h) ?_
  rintro _ g1 ⟨x2, rfl, h⟩
  refine j_aload_n hE (by decide +kernel : decode cL_law 1256 = .ok (.aload_n 2, 1)) rfl rfl ?_
  refine j_aload_n hE (by decide +kernel : decode cL_law 1257 = .ok (.aload_n 0, 1)) rfl rfl ?_
  refine j_iload hE (by decide +kernel : decode cL_law 1258 = .ok (.iload 4, 2)) rfl ?_
  refine j_iconst hE (by decide +kernel : decode cL_law 1260 = .ok (.iconst 1, 1)) (v := (1 : Int32)) (by decide) ?_
  refine j_iadd hE (by decide +kernel : decode cL_law 1261 = .ok (.iadd, 1)) ?_
  obtain ⟨hk, hb, h⟩ := h
  refine j_scr hE hsc hk hb (by decide +kernel : decode cL_law 1262 = .ok (.iaload, 1)) ?_
  refine j_aload_n hE (by decide +kernel : decode cL_law 1263 = .ok (.aload_n 0, 1)) rfl rfl ?_
  refine j_iload hE (by decide +kernel : decode cL_law 1264 = .ok (.iload 4, 2)) rfl ?_
  refine j_iconst hE (by decide +kernel : decode cL_law 1266 = .ok (.iconst 2, 1)) (v := (2 : Int32)) (by decide) ?_
  refine j_iadd hE (by decide +kernel : decode cL_law 1267 = .ok (.iadd, 1)) ?_
  obtain ⟨hk, hb, h⟩ := h
  refine j_scr hE hsc hk hb (by decide +kernel : decode cL_law 1268 = .ok (.iaload, 1)) ?_
  refine j_aload_n hE (by decide +kernel : decode cL_law 1269 = .ok (.aload_n 0, 1)) rfl rfl ?_
  refine j_iload hE (by decide +kernel : decode cL_law 1270 = .ok (.iload 4, 2)) rfl ?_
  refine j_iconst hE (by decide +kernel : decode cL_law 1272 = .ok (.iconst 3, 1)) (v := (3 : Int32)) (by decide) ?_
  refine j_iadd hE (by decide +kernel : decode cL_law 1273 = .ok (.iadd, 1)) ?_
  obtain ⟨hk, hb, h⟩ := h
  refine j_scr hE hsc hk hb (by decide +kernel : decode cL_law 1274 = .ok (.iaload, 1)) ?_
  obtain ⟨hk, h⟩ := h
  refine j_callV hE rfl cl_L_128 cf_12 im_X11_habit se_X11_habit ⟨by omega, by omega⟩ (As := [.int (z_x Z (l4 + (1 : Int32)).toNatClampNeg), .int (z_x Z (l4 + (2 : Int32)).toNatClampNeg), .int (z_x Z (l4 + (3 : Int32)).toNatClampNeg)]) (rest := [.int x2]) rfl rfl (Nat.le_of_ble_eq_true rfl) hk (by decide +kernel : decode cL_law 1275 = .ok (.invokevirtual 128, 3)) (mt_M_habit _ _ _ _ _ _ h) ?_
  rintro _ g3 ⟨x4, rfl, h⟩
  refine j_icmp_eq hE (by decide +kernel : decode cL_law 1278 = .ok (.if_icmp .eq 656, 3)) (tgt := 1934) (by decide) (fun q => ?_) (fun q => ?_)
  · replace h := h.1 q
    exact S_LAW_law_1934 hsc hl hE hK23 _ _ _ _ _ _ h
  · replace h := h.2 q
    refine j_iconst hE (by decide +kernel : decode cL_law 1281 = .ok (.iconst 0, 1)) (v := (0 : Int32)) (by decide) ?_
    exact j_zret hE (Or.inl rfl) (by decide +kernel : decode cL_law 1282 = .ok (.ireturn, 1)) ⟨_, rfl, h⟩
set_option maxRecDepth 100000 in
def B_LAW_law_1185 (Γ : GAM) (Z : SCRT) (K23 : Nat → Nat → Nat → Nat → Int32 → GH → Prop) (K : Int32 → GH → Prop) (l0 : Nat) (l1 : Nat) (l2 : Nat) (l3 : Nat) (l4 : Int32) (g : GH) : Prop :=
  l0 = z_b Z ∧ inB (l4 + (1 : Int32)) (z_n Z) ∧ l0 = z_b Z ∧ inB (l4 + (2 : Int32)) (z_n Z) ∧ l0 = z_b Z ∧ inB (l4 + (3 : Int32)) (z_n Z) ∧ Kd g l1 = 12 ∧ Sp_PV_many Γ l1 (z_x Z (l4 + (1 : Int32)).toNatClampNeg) (z_x Z (l4 + (2 : Int32)).toNatClampNeg) (z_x Z (l4 + (3 : Int32)).toNatClampNeg) g (fun (x2 : Int32) (g1 : GH) => l0 = z_b Z ∧ inB (l4 + (1 : Int32)) (z_n Z) ∧ l0 = z_b Z ∧ inB (l4 + (2 : Int32)) (z_n Z) ∧ l0 = z_b Z ∧ inB (l4 + (3 : Int32)) (z_n Z) ∧ Kd g1 l2 = 13 ∧ Sp_M_many Γ l2 (z_x Z (l4 + (1 : Int32)).toNatClampNeg) (z_x Z (l4 + (2 : Int32)).toNatClampNeg) (z_x Z (l4 + (3 : Int32)).toNatClampNeg) g1 (fun (x4 : Int32) (g3 : GH) => ((x2 = x4 → B_LAW_law_1934 Γ Z K23 K l0 l1 l2 l3 l4 g3) ∧ (¬ (x2 = x4) → K (0 : Int32) g3))))
set_option maxHeartbeats 4000000 in
set_option maxRecDepth 100000 in
theorem S_LAW_law_1185 {Γ : GAM} {Z : SCRT} {E : EV} {K : Int32 → GH → Prop} (hsc : SCR Γ E Z) (hl : E.2.1.stackTraces = false) (hE : GE Γ E cL_law 7 RL (some (.boolean)) 2048 84000 (fun r g' => ∃ x, r = some (.int x) ∧ K x g')) {K23 : Nat → Nat → Nat → Nat → Int32 → GH → Prop} (hK23 : ∀ (l0 : Nat) (l1 : Nat) (l2 : Nat) (l3 : Nat) (l4 : Int32) (g : GH), K23 l0 l1 l2 l3 l4 g → JW Γ E 23 [some (.ref l0), some (.ref l1), some (.ref l2), some (.ref l3), some (.int l4), none, none] [] g) (l0 : Nat) (l1 : Nat) (l2 : Nat) (l3 : Nat) (l4 : Int32) (g : GH) (h : B_LAW_law_1185 Γ Z K23 K l0 l1 l2 l3 l4 g) : JW Γ E 1185 [some (.ref l0), some (.ref l1), some (.ref l2), some (.ref l3), some (.int l4), none, none] [] g := by
  unfold B_LAW_law_1185 at h
  refine j_aload_n hE (by decide +kernel : decode cL_law 1185 = .ok (.aload_n 1, 1)) rfl rfl ?_
  refine j_aload_n hE (by decide +kernel : decode cL_law 1186 = .ok (.aload_n 0, 1)) rfl rfl ?_
  refine j_iload hE (by decide +kernel : decode cL_law 1187 = .ok (.iload 4, 2)) rfl ?_
  refine j_iconst hE (by decide +kernel : decode cL_law 1189 = .ok (.iconst 1, 1)) (v := (1 : Int32)) (by decide) ?_
  refine j_iadd hE (by decide +kernel : decode cL_law 1190 = .ok (.iadd, 1)) ?_
  obtain ⟨hk, hb, h⟩ := h
  refine j_scr hE hsc hk hb (by decide +kernel : decode cL_law 1191 = .ok (.iaload, 1)) ?_
  refine j_aload_n hE (by decide +kernel : decode cL_law 1192 = .ok (.aload_n 0, 1)) rfl rfl ?_
  refine j_iload hE (by decide +kernel : decode cL_law 1193 = .ok (.iload 4, 2)) rfl ?_
  refine j_iconst hE (by decide +kernel : decode cL_law 1195 = .ok (.iconst 2, 1)) (v := (2 : Int32)) (by decide) ?_
  refine j_iadd hE (by decide +kernel : decode cL_law 1196 = .ok (.iadd, 1)) ?_
  obtain ⟨hk, hb, h⟩ := h
  refine j_scr hE hsc hk hb (by decide +kernel : decode cL_law 1197 = .ok (.iaload, 1)) ?_
  refine j_aload_n hE (by decide +kernel : decode cL_law 1198 = .ok (.aload_n 0, 1)) rfl rfl ?_
  refine j_iload hE (by decide +kernel : decode cL_law 1199 = .ok (.iload 4, 2)) rfl ?_
  refine j_iconst hE (by decide +kernel : decode cL_law 1201 = .ok (.iconst 3, 1)) (v := (3 : Int32)) (by decide) ?_
  refine j_iadd hE (by decide +kernel : decode cL_law 1202 = .ok (.iadd, 1)) ?_
  obtain ⟨hk, hb, h⟩ := h
  refine j_scr hE hsc hk hb (by decide +kernel : decode cL_law 1203 = .ok (.iaload, 1)) ?_
  obtain ⟨hk, h⟩ := h
  refine j_callV hE rfl cl_L_121 cf_11 im_X10_many se_X10_many ⟨by omega, by omega⟩ (As := [.int (z_x Z (l4 + (1 : Int32)).toNatClampNeg), .int (z_x Z (l4 + (2 : Int32)).toNatClampNeg), .int (z_x Z (l4 + (3 : Int32)).toNatClampNeg)]) (rest := []) rfl rfl (Nat.le_of_ble_eq_true rfl) hk (by decide +kernel : decode cL_law 1204 = .ok (.invokevirtual 121, 3)) (mt_PV_many _ _ _ _ _ _ h) ?_
  rintro _ g1 ⟨x2, rfl, h⟩
  refine j_aload_n hE (by decide +kernel : decode cL_law 1207 = .ok (.aload_n 2, 1)) rfl rfl ?_
  refine j_aload_n hE (by decide +kernel : decode cL_law 1208 = .ok (.aload_n 0, 1)) rfl rfl ?_
  refine j_iload hE (by decide +kernel : decode cL_law 1209 = .ok (.iload 4, 2)) rfl ?_
  refine j_iconst hE (by decide +kernel : decode cL_law 1211 = .ok (.iconst 1, 1)) (v := (1 : Int32)) (by decide) ?_
  refine j_iadd hE (by decide +kernel : decode cL_law 1212 = .ok (.iadd, 1)) ?_
  obtain ⟨hk, hb, h⟩ := h
  refine j_scr hE hsc hk hb (by decide +kernel : decode cL_law 1213 = .ok (.iaload, 1)) ?_
  refine j_aload_n hE (by decide +kernel : decode cL_law 1214 = .ok (.aload_n 0, 1)) rfl rfl ?_
  refine j_iload hE (by decide +kernel : decode cL_law 1215 = .ok (.iload 4, 2)) rfl ?_
  refine j_iconst hE (by decide +kernel : decode cL_law 1217 = .ok (.iconst 2, 1)) (v := (2 : Int32)) (by decide) ?_
  refine j_iadd hE (by decide +kernel : decode cL_law 1218 = .ok (.iadd, 1)) ?_
  obtain ⟨hk, hb, h⟩ := h
  refine j_scr hE hsc hk hb (by decide +kernel : decode cL_law 1219 = .ok (.iaload, 1)) ?_
  refine j_aload_n hE (by decide +kernel : decode cL_law 1220 = .ok (.aload_n 0, 1)) rfl rfl ?_
  refine j_iload hE (by decide +kernel : decode cL_law 1221 = .ok (.iload 4, 2)) rfl ?_
  refine j_iconst hE (by decide +kernel : decode cL_law 1223 = .ok (.iconst 3, 1)) (v := (3 : Int32)) (by decide) ?_
  refine j_iadd hE (by decide +kernel : decode cL_law 1224 = .ok (.iadd, 1)) ?_
  obtain ⟨hk, hb, h⟩ := h
  refine j_scr hE hsc hk hb (by decide +kernel : decode cL_law 1225 = .ok (.iaload, 1)) ?_
  obtain ⟨hk, h⟩ := h
  refine j_callV hE rfl cl_L_124 cf_12 im_X11_many se_X11_many ⟨by omega, by omega⟩ (As := [.int (z_x Z (l4 + (1 : Int32)).toNatClampNeg), .int (z_x Z (l4 + (2 : Int32)).toNatClampNeg), .int (z_x Z (l4 + (3 : Int32)).toNatClampNeg)]) (rest := [.int x2]) rfl rfl (Nat.le_of_ble_eq_true rfl) hk (by decide +kernel : decode cL_law 1226 = .ok (.invokevirtual 124, 3)) (mt_M_many _ _ _ _ _ _ h) ?_
  rintro _ g3 ⟨x4, rfl, h⟩
  refine j_icmp_eq hE (by decide +kernel : decode cL_law 1229 = .ok (.if_icmp .eq 705, 3)) (tgt := 1934) (by decide) (fun q => ?_) (fun q => ?_)
  · replace h := h.1 q
    exact S_LAW_law_1934 hsc hl hE hK23 _ _ _ _ _ _ h
  · replace h := h.2 q
    refine j_iconst hE (by decide +kernel : decode cL_law 1232 = .ok (.iconst 0, 1)) (v := (0 : Int32)) (by decide) ?_
    exact j_zret hE (Or.inl rfl) (by decide +kernel : decode cL_law 1233 = .ok (.ireturn, 1)) ⟨_, rfl, h⟩
set_option maxRecDepth 100000 in
def B_LAW_law_1160 (Γ : GAM) (Z : SCRT) (K23 : Nat → Nat → Nat → Nat → Int32 → GH → Prop) (K : Int32 → GH → Prop) (l0 : Nat) (l1 : Nat) (l2 : Nat) (l3 : Nat) (l4 : Int32) (g : GH) : Prop :=
  l0 = z_b Z ∧ inB (l4 + (1 : Int32)) (z_n Z) ∧ Kd g l1 = 12 ∧ Sp_PV_doubles Γ l1 (z_x Z (l4 + (1 : Int32)).toNatClampNeg) g (fun (x2 : Int32) (g1 : GH) => l0 = z_b Z ∧ inB (l4 + (1 : Int32)) (z_n Z) ∧ Kd g1 l2 = 13 ∧ Sp_M_doubles Γ l2 (z_x Z (l4 + (1 : Int32)).toNatClampNeg) g1 (fun (x4 : Int32) (g3 : GH) => ((x2 = x4 → B_LAW_law_1934 Γ Z K23 K l0 l1 l2 l3 l4 g3) ∧ (¬ (x2 = x4) → K (0 : Int32) g3))))
set_option maxHeartbeats 4000000 in
set_option maxRecDepth 100000 in
theorem S_LAW_law_1160 {Γ : GAM} {Z : SCRT} {E : EV} {K : Int32 → GH → Prop} (hsc : SCR Γ E Z) (hl : E.2.1.stackTraces = false) (hE : GE Γ E cL_law 7 RL (some (.boolean)) 2048 84000 (fun r g' => ∃ x, r = some (.int x) ∧ K x g')) {K23 : Nat → Nat → Nat → Nat → Int32 → GH → Prop} (hK23 : ∀ (l0 : Nat) (l1 : Nat) (l2 : Nat) (l3 : Nat) (l4 : Int32) (g : GH), K23 l0 l1 l2 l3 l4 g → JW Γ E 23 [some (.ref l0), some (.ref l1), some (.ref l2), some (.ref l3), some (.int l4), none, none] [] g) (l0 : Nat) (l1 : Nat) (l2 : Nat) (l3 : Nat) (l4 : Int32) (g : GH) (h : B_LAW_law_1160 Γ Z K23 K l0 l1 l2 l3 l4 g) : JW Γ E 1160 [some (.ref l0), some (.ref l1), some (.ref l2), some (.ref l3), some (.int l4), none, none] [] g := by
  unfold B_LAW_law_1160 at h
  refine j_aload_n hE (by decide +kernel : decode cL_law 1160 = .ok (.aload_n 1, 1)) rfl rfl ?_
  refine j_aload_n hE (by decide +kernel : decode cL_law 1161 = .ok (.aload_n 0, 1)) rfl rfl ?_
  refine j_iload hE (by decide +kernel : decode cL_law 1162 = .ok (.iload 4, 2)) rfl ?_
  refine j_iconst hE (by decide +kernel : decode cL_law 1164 = .ok (.iconst 1, 1)) (v := (1 : Int32)) (by decide) ?_
  refine j_iadd hE (by decide +kernel : decode cL_law 1165 = .ok (.iadd, 1)) ?_
  obtain ⟨hk, hb, h⟩ := h
  refine j_scr hE hsc hk hb (by decide +kernel : decode cL_law 1166 = .ok (.iaload, 1)) ?_
  obtain ⟨hk, h⟩ := h
  refine j_callV hE rfl cl_L_117 cf_11 im_X10_doubles se_X10_doubles ⟨by omega, by omega⟩ (As := [.int (z_x Z (l4 + (1 : Int32)).toNatClampNeg)]) (rest := []) rfl rfl (Nat.le_of_ble_eq_true rfl) hk (by decide +kernel : decode cL_law 1167 = .ok (.invokevirtual 117, 3)) (mt_PV_doubles _ _ _ _ h) ?_
  rintro _ g1 ⟨x2, rfl, h⟩
  refine j_aload_n hE (by decide +kernel : decode cL_law 1170 = .ok (.aload_n 2, 1)) rfl rfl ?_
  refine j_aload_n hE (by decide +kernel : decode cL_law 1171 = .ok (.aload_n 0, 1)) rfl rfl ?_
  refine j_iload hE (by decide +kernel : decode cL_law 1172 = .ok (.iload 4, 2)) rfl ?_
  refine j_iconst hE (by decide +kernel : decode cL_law 1174 = .ok (.iconst 1, 1)) (v := (1 : Int32)) (by decide) ?_
  refine j_iadd hE (by decide +kernel : decode cL_law 1175 = .ok (.iadd, 1)) ?_
  obtain ⟨hk, hb, h⟩ := h
  refine j_scr hE hsc hk hb (by decide +kernel : decode cL_law 1176 = .ok (.iaload, 1)) ?_
  obtain ⟨hk, h⟩ := h
  refine j_callV hE rfl cl_L_120 cf_12 im_X11_doubles se_X11_doubles ⟨by omega, by omega⟩ (As := [.int (z_x Z (l4 + (1 : Int32)).toNatClampNeg)]) (rest := [.int x2]) rfl rfl (Nat.le_of_ble_eq_true rfl) hk (by decide +kernel : decode cL_law 1177 = .ok (.invokevirtual 120, 3)) (mt_M_doubles _ _ _ _ h) ?_
  rintro _ g3 ⟨x4, rfl, h⟩
  refine j_icmp_eq hE (by decide +kernel : decode cL_law 1180 = .ok (.if_icmp .eq 754, 3)) (tgt := 1934) (by decide) (fun q => ?_) (fun q => ?_)
  · replace h := h.1 q
    exact S_LAW_law_1934 hsc hl hE hK23 _ _ _ _ _ _ h
  · replace h := h.2 q
    refine j_iconst hE (by decide +kernel : decode cL_law 1183 = .ok (.iconst 0, 1)) (v := (0 : Int32)) (by decide) ?_
    exact j_zret hE (Or.inl rfl) (by decide +kernel : decode cL_law 1184 = .ok (.ireturn, 1)) ⟨_, rfl, h⟩
set_option maxRecDepth 100000 in
def B_LAW_law_1123 (Γ : GAM) (Z : SCRT) (K23 : Nat → Nat → Nat → Nat → Int32 → GH → Prop) (K : Int32 → GH → Prop) (l0 : Nat) (l1 : Nat) (l2 : Nat) (l3 : Nat) (l4 : Int32) (g : GH) : Prop :=
  l0 = z_b Z ∧ inB (l4 + (1 : Int32)) (z_n Z) ∧ l0 = z_b Z ∧ inB (l4 + (2 : Int32)) (z_n Z) ∧ Kd g l1 = 12 ∧ Sp_PV_first Γ l1 (z_x Z (l4 + (1 : Int32)).toNatClampNeg) (z_x Z (l4 + (2 : Int32)).toNatClampNeg) g (fun (x2 : Int32) (g1 : GH) => l0 = z_b Z ∧ inB (l4 + (1 : Int32)) (z_n Z) ∧ l0 = z_b Z ∧ inB (l4 + (2 : Int32)) (z_n Z) ∧ Kd g1 l2 = 13 ∧ Sp_M_first Γ l2 (z_x Z (l4 + (1 : Int32)).toNatClampNeg) (z_x Z (l4 + (2 : Int32)).toNatClampNeg) g1 (fun (x4 : Int32) (g3 : GH) => ((x2 = x4 → B_LAW_law_1934 Γ Z K23 K l0 l1 l2 l3 l4 g3) ∧ (¬ (x2 = x4) → K (0 : Int32) g3))))
set_option maxHeartbeats 4000000 in
set_option maxRecDepth 100000 in
theorem S_LAW_law_1123 {Γ : GAM} {Z : SCRT} {E : EV} {K : Int32 → GH → Prop} (hsc : SCR Γ E Z) (hl : E.2.1.stackTraces = false) (hE : GE Γ E cL_law 7 RL (some (.boolean)) 2048 84000 (fun r g' => ∃ x, r = some (.int x) ∧ K x g')) {K23 : Nat → Nat → Nat → Nat → Int32 → GH → Prop} (hK23 : ∀ (l0 : Nat) (l1 : Nat) (l2 : Nat) (l3 : Nat) (l4 : Int32) (g : GH), K23 l0 l1 l2 l3 l4 g → JW Γ E 23 [some (.ref l0), some (.ref l1), some (.ref l2), some (.ref l3), some (.int l4), none, none] [] g) (l0 : Nat) (l1 : Nat) (l2 : Nat) (l3 : Nat) (l4 : Int32) (g : GH) (h : B_LAW_law_1123 Γ Z K23 K l0 l1 l2 l3 l4 g) : JW Γ E 1123 [some (.ref l0), some (.ref l1), some (.ref l2), some (.ref l3), some (.int l4), none, none] [] g := by
  unfold B_LAW_law_1123 at h
  refine j_aload_n hE (by decide +kernel : decode cL_law 1123 = .ok (.aload_n 1, 1)) rfl rfl ?_
  refine j_aload_n hE (by decide +kernel : decode cL_law 1124 = .ok (.aload_n 0, 1)) rfl rfl ?_
  refine j_iload hE (by decide +kernel : decode cL_law 1125 = .ok (.iload 4, 2)) rfl ?_
  refine j_iconst hE (by decide +kernel : decode cL_law 1127 = .ok (.iconst 1, 1)) (v := (1 : Int32)) (by decide) ?_
  refine j_iadd hE (by decide +kernel : decode cL_law 1128 = .ok (.iadd, 1)) ?_
  obtain ⟨hk, hb, h⟩ := h
  refine j_scr hE hsc hk hb (by decide +kernel : decode cL_law 1129 = .ok (.iaload, 1)) ?_
  refine j_aload_n hE (by decide +kernel : decode cL_law 1130 = .ok (.aload_n 0, 1)) rfl rfl ?_
  refine j_iload hE (by decide +kernel : decode cL_law 1131 = .ok (.iload 4, 2)) rfl ?_
  refine j_iconst hE (by decide +kernel : decode cL_law 1133 = .ok (.iconst 2, 1)) (v := (2 : Int32)) (by decide) ?_
  refine j_iadd hE (by decide +kernel : decode cL_law 1134 = .ok (.iadd, 1)) ?_
  obtain ⟨hk, hb, h⟩ := h
  refine j_scr hE hsc hk hb (by decide +kernel : decode cL_law 1135 = .ok (.iaload, 1)) ?_
  obtain ⟨hk, h⟩ := h
  refine j_callV hE rfl cl_L_113 cf_11 im_X10_first se_X10_first ⟨by omega, by omega⟩ (As := [.int (z_x Z (l4 + (1 : Int32)).toNatClampNeg), .int (z_x Z (l4 + (2 : Int32)).toNatClampNeg)]) (rest := []) rfl rfl (Nat.le_of_ble_eq_true rfl) hk (by decide +kernel : decode cL_law 1136 = .ok (.invokevirtual 113, 3)) (mt_PV_first _ _ _ _ _ h) ?_
  rintro _ g1 ⟨x2, rfl, h⟩
  refine j_aload_n hE (by decide +kernel : decode cL_law 1139 = .ok (.aload_n 2, 1)) rfl rfl ?_
  refine j_aload_n hE (by decide +kernel : decode cL_law 1140 = .ok (.aload_n 0, 1)) rfl rfl ?_
  refine j_iload hE (by decide +kernel : decode cL_law 1141 = .ok (.iload 4, 2)) rfl ?_
  refine j_iconst hE (by decide +kernel : decode cL_law 1143 = .ok (.iconst 1, 1)) (v := (1 : Int32)) (by decide) ?_
  refine j_iadd hE (by decide +kernel : decode cL_law 1144 = .ok (.iadd, 1)) ?_
  obtain ⟨hk, hb, h⟩ := h
  refine j_scr hE hsc hk hb (by decide +kernel : decode cL_law 1145 = .ok (.iaload, 1)) ?_
  refine j_aload_n hE (by decide +kernel : decode cL_law 1146 = .ok (.aload_n 0, 1)) rfl rfl ?_
  refine j_iload hE (by decide +kernel : decode cL_law 1147 = .ok (.iload 4, 2)) rfl ?_
  refine j_iconst hE (by decide +kernel : decode cL_law 1149 = .ok (.iconst 2, 1)) (v := (2 : Int32)) (by decide) ?_
  refine j_iadd hE (by decide +kernel : decode cL_law 1150 = .ok (.iadd, 1)) ?_
  obtain ⟨hk, hb, h⟩ := h
  refine j_scr hE hsc hk hb (by decide +kernel : decode cL_law 1151 = .ok (.iaload, 1)) ?_
  obtain ⟨hk, h⟩ := h
  refine j_callV hE rfl cl_L_116 cf_12 im_X11_first se_X11_first ⟨by omega, by omega⟩ (As := [.int (z_x Z (l4 + (1 : Int32)).toNatClampNeg), .int (z_x Z (l4 + (2 : Int32)).toNatClampNeg)]) (rest := [.int x2]) rfl rfl (Nat.le_of_ble_eq_true rfl) hk (by decide +kernel : decode cL_law 1152 = .ok (.invokevirtual 116, 3)) (mt_M_first _ _ _ _ _ h) ?_
  rintro _ g3 ⟨x4, rfl, h⟩
  refine j_icmp_eq hE (by decide +kernel : decode cL_law 1155 = .ok (.if_icmp .eq 779, 3)) (tgt := 1934) (by decide) (fun q => ?_) (fun q => ?_)
  · replace h := h.1 q
    exact S_LAW_law_1934 hsc hl hE hK23 _ _ _ _ _ _ h
  · replace h := h.2 q
    refine j_iconst hE (by decide +kernel : decode cL_law 1158 = .ok (.iconst 0, 1)) (v := (0 : Int32)) (by decide) ?_
    exact j_zret hE (Or.inl rfl) (by decide +kernel : decode cL_law 1159 = .ok (.ireturn, 1)) ⟨_, rfl, h⟩
set_option maxRecDepth 100000 in
def B_LAW_law_1086 (Γ : GAM) (Z : SCRT) (K23 : Nat → Nat → Nat → Nat → Int32 → GH → Prop) (K : Int32 → GH → Prop) (l0 : Nat) (l1 : Nat) (l2 : Nat) (l3 : Nat) (l4 : Int32) (g : GH) : Prop :=
  l0 = z_b Z ∧ inB (l4 + (1 : Int32)) (z_n Z) ∧ l0 = z_b Z ∧ inB (l4 + (2 : Int32)) (z_n Z) ∧ Kd g l1 = 12 ∧ Sp_PV_ruled Γ l1 (z_x Z (l4 + (1 : Int32)).toNatClampNeg) (z_x Z (l4 + (2 : Int32)).toNatClampNeg) g (fun (x2 : Int32) (g1 : GH) => l0 = z_b Z ∧ inB (l4 + (1 : Int32)) (z_n Z) ∧ l0 = z_b Z ∧ inB (l4 + (2 : Int32)) (z_n Z) ∧ Kd g1 l2 = 13 ∧ Sp_M_ruled Γ l2 (z_x Z (l4 + (1 : Int32)).toNatClampNeg) (z_x Z (l4 + (2 : Int32)).toNatClampNeg) g1 (fun (x4 : Int32) (g3 : GH) => ((x2 = x4 → B_LAW_law_1934 Γ Z K23 K l0 l1 l2 l3 l4 g3) ∧ (¬ (x2 = x4) → K (0 : Int32) g3))))
set_option maxHeartbeats 4000000 in
set_option maxRecDepth 100000 in
theorem S_LAW_law_1086 {Γ : GAM} {Z : SCRT} {E : EV} {K : Int32 → GH → Prop} (hsc : SCR Γ E Z) (hl : E.2.1.stackTraces = false) (hE : GE Γ E cL_law 7 RL (some (.boolean)) 2048 84000 (fun r g' => ∃ x, r = some (.int x) ∧ K x g')) {K23 : Nat → Nat → Nat → Nat → Int32 → GH → Prop} (hK23 : ∀ (l0 : Nat) (l1 : Nat) (l2 : Nat) (l3 : Nat) (l4 : Int32) (g : GH), K23 l0 l1 l2 l3 l4 g → JW Γ E 23 [some (.ref l0), some (.ref l1), some (.ref l2), some (.ref l3), some (.int l4), none, none] [] g) (l0 : Nat) (l1 : Nat) (l2 : Nat) (l3 : Nat) (l4 : Int32) (g : GH) (h : B_LAW_law_1086 Γ Z K23 K l0 l1 l2 l3 l4 g) : JW Γ E 1086 [some (.ref l0), some (.ref l1), some (.ref l2), some (.ref l3), some (.int l4), none, none] [] g := by
  unfold B_LAW_law_1086 at h
  refine j_aload_n hE (by decide +kernel : decode cL_law 1086 = .ok (.aload_n 1, 1)) rfl rfl ?_
  refine j_aload_n hE (by decide +kernel : decode cL_law 1087 = .ok (.aload_n 0, 1)) rfl rfl ?_
  refine j_iload hE (by decide +kernel : decode cL_law 1088 = .ok (.iload 4, 2)) rfl ?_
  refine j_iconst hE (by decide +kernel : decode cL_law 1090 = .ok (.iconst 1, 1)) (v := (1 : Int32)) (by decide) ?_
  refine j_iadd hE (by decide +kernel : decode cL_law 1091 = .ok (.iadd, 1)) ?_
  obtain ⟨hk, hb, h⟩ := h
  refine j_scr hE hsc hk hb (by decide +kernel : decode cL_law 1092 = .ok (.iaload, 1)) ?_
  refine j_aload_n hE (by decide +kernel : decode cL_law 1093 = .ok (.aload_n 0, 1)) rfl rfl ?_
  refine j_iload hE (by decide +kernel : decode cL_law 1094 = .ok (.iload 4, 2)) rfl ?_
  refine j_iconst hE (by decide +kernel : decode cL_law 1096 = .ok (.iconst 2, 1)) (v := (2 : Int32)) (by decide) ?_
  refine j_iadd hE (by decide +kernel : decode cL_law 1097 = .ok (.iadd, 1)) ?_
  obtain ⟨hk, hb, h⟩ := h
  refine j_scr hE hsc hk hb (by decide +kernel : decode cL_law 1098 = .ok (.iaload, 1)) ?_
  obtain ⟨hk, h⟩ := h
  refine j_callV hE rfl cl_L_109 cf_11 im_X10_ruled se_X10_ruled ⟨by omega, by omega⟩ (As := [.int (z_x Z (l4 + (1 : Int32)).toNatClampNeg), .int (z_x Z (l4 + (2 : Int32)).toNatClampNeg)]) (rest := []) rfl rfl (Nat.le_of_ble_eq_true rfl) hk (by decide +kernel : decode cL_law 1099 = .ok (.invokevirtual 109, 3)) (mt_PV_ruled _ _ _ _ _ h) ?_
  rintro _ g1 ⟨x2, rfl, h⟩
  refine j_aload_n hE (by decide +kernel : decode cL_law 1102 = .ok (.aload_n 2, 1)) rfl rfl ?_
  refine j_aload_n hE (by decide +kernel : decode cL_law 1103 = .ok (.aload_n 0, 1)) rfl rfl ?_
  refine j_iload hE (by decide +kernel : decode cL_law 1104 = .ok (.iload 4, 2)) rfl ?_
  refine j_iconst hE (by decide +kernel : decode cL_law 1106 = .ok (.iconst 1, 1)) (v := (1 : Int32)) (by decide) ?_
  refine j_iadd hE (by decide +kernel : decode cL_law 1107 = .ok (.iadd, 1)) ?_
  obtain ⟨hk, hb, h⟩ := h
  refine j_scr hE hsc hk hb (by decide +kernel : decode cL_law 1108 = .ok (.iaload, 1)) ?_
  refine j_aload_n hE (by decide +kernel : decode cL_law 1109 = .ok (.aload_n 0, 1)) rfl rfl ?_
  refine j_iload hE (by decide +kernel : decode cL_law 1110 = .ok (.iload 4, 2)) rfl ?_
  refine j_iconst hE (by decide +kernel : decode cL_law 1112 = .ok (.iconst 2, 1)) (v := (2 : Int32)) (by decide) ?_
  refine j_iadd hE (by decide +kernel : decode cL_law 1113 = .ok (.iadd, 1)) ?_
  obtain ⟨hk, hb, h⟩ := h
  refine j_scr hE hsc hk hb (by decide +kernel : decode cL_law 1114 = .ok (.iaload, 1)) ?_
  obtain ⟨hk, h⟩ := h
  refine j_callV hE rfl cl_L_112 cf_12 im_X11_ruled se_X11_ruled ⟨by omega, by omega⟩ (As := [.int (z_x Z (l4 + (1 : Int32)).toNatClampNeg), .int (z_x Z (l4 + (2 : Int32)).toNatClampNeg)]) (rest := [.int x2]) rfl rfl (Nat.le_of_ble_eq_true rfl) hk (by decide +kernel : decode cL_law 1115 = .ok (.invokevirtual 112, 3)) (mt_M_ruled _ _ _ _ _ h) ?_
  rintro _ g3 ⟨x4, rfl, h⟩
  refine j_icmp_eq hE (by decide +kernel : decode cL_law 1118 = .ok (.if_icmp .eq 816, 3)) (tgt := 1934) (by decide) (fun q => ?_) (fun q => ?_)
  · replace h := h.1 q
    exact S_LAW_law_1934 hsc hl hE hK23 _ _ _ _ _ _ h
  · replace h := h.2 q
    refine j_iconst hE (by decide +kernel : decode cL_law 1121 = .ok (.iconst 0, 1)) (v := (0 : Int32)) (by decide) ?_
    exact j_zret hE (Or.inl rfl) (by decide +kernel : decode cL_law 1122 = .ok (.ireturn, 1)) ⟨_, rfl, h⟩
set_option maxRecDepth 100000 in
def B_LAW_law_1049 (Γ : GAM) (Z : SCRT) (K23 : Nat → Nat → Nat → Nat → Int32 → GH → Prop) (K : Int32 → GH → Prop) (l0 : Nat) (l1 : Nat) (l2 : Nat) (l3 : Nat) (l4 : Int32) (g : GH) : Prop :=
  l0 = z_b Z ∧ inB (l4 + (1 : Int32)) (z_n Z) ∧ l0 = z_b Z ∧ inB (l4 + (2 : Int32)) (z_n Z) ∧ Kd g l1 = 12 ∧ Sp_PV_reason Γ l1 (z_x Z (l4 + (1 : Int32)).toNatClampNeg) (z_x Z (l4 + (2 : Int32)).toNatClampNeg) g (fun (x2 : Int32) (g1 : GH) => l0 = z_b Z ∧ inB (l4 + (1 : Int32)) (z_n Z) ∧ l0 = z_b Z ∧ inB (l4 + (2 : Int32)) (z_n Z) ∧ Kd g1 l2 = 13 ∧ Sp_M_reason Γ l2 (z_x Z (l4 + (1 : Int32)).toNatClampNeg) (z_x Z (l4 + (2 : Int32)).toNatClampNeg) g1 (fun (x4 : Int32) (g3 : GH) => ((x2 = x4 → B_LAW_law_1934 Γ Z K23 K l0 l1 l2 l3 l4 g3) ∧ (¬ (x2 = x4) → K (0 : Int32) g3))))
set_option maxHeartbeats 4000000 in
set_option maxRecDepth 100000 in
theorem S_LAW_law_1049 {Γ : GAM} {Z : SCRT} {E : EV} {K : Int32 → GH → Prop} (hsc : SCR Γ E Z) (hl : E.2.1.stackTraces = false) (hE : GE Γ E cL_law 7 RL (some (.boolean)) 2048 84000 (fun r g' => ∃ x, r = some (.int x) ∧ K x g')) {K23 : Nat → Nat → Nat → Nat → Int32 → GH → Prop} (hK23 : ∀ (l0 : Nat) (l1 : Nat) (l2 : Nat) (l3 : Nat) (l4 : Int32) (g : GH), K23 l0 l1 l2 l3 l4 g → JW Γ E 23 [some (.ref l0), some (.ref l1), some (.ref l2), some (.ref l3), some (.int l4), none, none] [] g) (l0 : Nat) (l1 : Nat) (l2 : Nat) (l3 : Nat) (l4 : Int32) (g : GH) (h : B_LAW_law_1049 Γ Z K23 K l0 l1 l2 l3 l4 g) : JW Γ E 1049 [some (.ref l0), some (.ref l1), some (.ref l2), some (.ref l3), some (.int l4), none, none] [] g := by
  unfold B_LAW_law_1049 at h
  refine j_aload_n hE (by decide +kernel : decode cL_law 1049 = .ok (.aload_n 1, 1)) rfl rfl ?_
  refine j_aload_n hE (by decide +kernel : decode cL_law 1050 = .ok (.aload_n 0, 1)) rfl rfl ?_
  refine j_iload hE (by decide +kernel : decode cL_law 1051 = .ok (.iload 4, 2)) rfl ?_
  refine j_iconst hE (by decide +kernel : decode cL_law 1053 = .ok (.iconst 1, 1)) (v := (1 : Int32)) (by decide) ?_
  refine j_iadd hE (by decide +kernel : decode cL_law 1054 = .ok (.iadd, 1)) ?_
  obtain ⟨hk, hb, h⟩ := h
  refine j_scr hE hsc hk hb (by decide +kernel : decode cL_law 1055 = .ok (.iaload, 1)) ?_
  refine j_aload_n hE (by decide +kernel : decode cL_law 1056 = .ok (.aload_n 0, 1)) rfl rfl ?_
  refine j_iload hE (by decide +kernel : decode cL_law 1057 = .ok (.iload 4, 2)) rfl ?_
  refine j_iconst hE (by decide +kernel : decode cL_law 1059 = .ok (.iconst 2, 1)) (v := (2 : Int32)) (by decide) ?_
  refine j_iadd hE (by decide +kernel : decode cL_law 1060 = .ok (.iadd, 1)) ?_
  obtain ⟨hk, hb, h⟩ := h
  refine j_scr hE hsc hk hb (by decide +kernel : decode cL_law 1061 = .ok (.iaload, 1)) ?_
  obtain ⟨hk, h⟩ := h
  refine j_callV hE rfl cl_L_105 cf_11 im_X10_reason se_X10_reason ⟨by omega, by omega⟩ (As := [.int (z_x Z (l4 + (1 : Int32)).toNatClampNeg), .int (z_x Z (l4 + (2 : Int32)).toNatClampNeg)]) (rest := []) rfl rfl (Nat.le_of_ble_eq_true rfl) hk (by decide +kernel : decode cL_law 1062 = .ok (.invokevirtual 105, 3)) (mt_PV_reason _ _ _ _ _ h) ?_
  rintro _ g1 ⟨x2, rfl, h⟩
  refine j_aload_n hE (by decide +kernel : decode cL_law 1065 = .ok (.aload_n 2, 1)) rfl rfl ?_
  refine j_aload_n hE (by decide +kernel : decode cL_law 1066 = .ok (.aload_n 0, 1)) rfl rfl ?_
  refine j_iload hE (by decide +kernel : decode cL_law 1067 = .ok (.iload 4, 2)) rfl ?_
  refine j_iconst hE (by decide +kernel : decode cL_law 1069 = .ok (.iconst 1, 1)) (v := (1 : Int32)) (by decide) ?_
  refine j_iadd hE (by decide +kernel : decode cL_law 1070 = .ok (.iadd, 1)) ?_
  obtain ⟨hk, hb, h⟩ := h
  refine j_scr hE hsc hk hb (by decide +kernel : decode cL_law 1071 = .ok (.iaload, 1)) ?_
  refine j_aload_n hE (by decide +kernel : decode cL_law 1072 = .ok (.aload_n 0, 1)) rfl rfl ?_
  refine j_iload hE (by decide +kernel : decode cL_law 1073 = .ok (.iload 4, 2)) rfl ?_
  refine j_iconst hE (by decide +kernel : decode cL_law 1075 = .ok (.iconst 2, 1)) (v := (2 : Int32)) (by decide) ?_
  refine j_iadd hE (by decide +kernel : decode cL_law 1076 = .ok (.iadd, 1)) ?_
  obtain ⟨hk, hb, h⟩ := h
  refine j_scr hE hsc hk hb (by decide +kernel : decode cL_law 1077 = .ok (.iaload, 1)) ?_
  obtain ⟨hk, h⟩ := h
  refine j_callV hE rfl cl_L_108 cf_12 im_X11_reason se_X11_reason ⟨by omega, by omega⟩ (As := [.int (z_x Z (l4 + (1 : Int32)).toNatClampNeg), .int (z_x Z (l4 + (2 : Int32)).toNatClampNeg)]) (rest := [.int x2]) rfl rfl (Nat.le_of_ble_eq_true rfl) hk (by decide +kernel : decode cL_law 1078 = .ok (.invokevirtual 108, 3)) (mt_M_reason _ _ _ _ _ h) ?_
  rintro _ g3 ⟨x4, rfl, h⟩
  refine j_icmp_eq hE (by decide +kernel : decode cL_law 1081 = .ok (.if_icmp .eq 853, 3)) (tgt := 1934) (by decide) (fun q => ?_) (fun q => ?_)
  · replace h := h.1 q
    exact S_LAW_law_1934 hsc hl hE hK23 _ _ _ _ _ _ h
  · replace h := h.2 q
    refine j_iconst hE (by decide +kernel : decode cL_law 1084 = .ok (.iconst 0, 1)) (v := (0 : Int32)) (by decide) ?_
    exact j_zret hE (Or.inl rfl) (by decide +kernel : decode cL_law 1085 = .ok (.ireturn, 1)) ⟨_, rfl, h⟩
set_option maxRecDepth 100000 in
def B_LAW_law_1012 (Γ : GAM) (Z : SCRT) (K23 : Nat → Nat → Nat → Nat → Int32 → GH → Prop) (K : Int32 → GH → Prop) (l0 : Nat) (l1 : Nat) (l2 : Nat) (l3 : Nat) (l4 : Int32) (g : GH) : Prop :=
  l0 = z_b Z ∧ inB (l4 + (1 : Int32)) (z_n Z) ∧ l0 = z_b Z ∧ inB (l4 + (2 : Int32)) (z_n Z) ∧ Kd g l1 = 12 ∧ Sp_PV_state Γ l1 (z_x Z (l4 + (1 : Int32)).toNatClampNeg) (z_x Z (l4 + (2 : Int32)).toNatClampNeg) g (fun (x2 : Int32) (g1 : GH) => l0 = z_b Z ∧ inB (l4 + (1 : Int32)) (z_n Z) ∧ l0 = z_b Z ∧ inB (l4 + (2 : Int32)) (z_n Z) ∧ Kd g1 l2 = 13 ∧ Sp_M_state Γ l2 (z_x Z (l4 + (1 : Int32)).toNatClampNeg) (z_x Z (l4 + (2 : Int32)).toNatClampNeg) g1 (fun (x4 : Int32) (g3 : GH) => ((x2 = x4 → B_LAW_law_1934 Γ Z K23 K l0 l1 l2 l3 l4 g3) ∧ (¬ (x2 = x4) → K (0 : Int32) g3))))
set_option maxHeartbeats 4000000 in
set_option maxRecDepth 100000 in
theorem S_LAW_law_1012 {Γ : GAM} {Z : SCRT} {E : EV} {K : Int32 → GH → Prop} (hsc : SCR Γ E Z) (hl : E.2.1.stackTraces = false) (hE : GE Γ E cL_law 7 RL (some (.boolean)) 2048 84000 (fun r g' => ∃ x, r = some (.int x) ∧ K x g')) {K23 : Nat → Nat → Nat → Nat → Int32 → GH → Prop} (hK23 : ∀ (l0 : Nat) (l1 : Nat) (l2 : Nat) (l3 : Nat) (l4 : Int32) (g : GH), K23 l0 l1 l2 l3 l4 g → JW Γ E 23 [some (.ref l0), some (.ref l1), some (.ref l2), some (.ref l3), some (.int l4), none, none] [] g) (l0 : Nat) (l1 : Nat) (l2 : Nat) (l3 : Nat) (l4 : Int32) (g : GH) (h : B_LAW_law_1012 Γ Z K23 K l0 l1 l2 l3 l4 g) : JW Γ E 1012 [some (.ref l0), some (.ref l1), some (.ref l2), some (.ref l3), some (.int l4), none, none] [] g := by
  unfold B_LAW_law_1012 at h
  refine j_aload_n hE (by decide +kernel : decode cL_law 1012 = .ok (.aload_n 1, 1)) rfl rfl ?_
  refine j_aload_n hE (by decide +kernel : decode cL_law 1013 = .ok (.aload_n 0, 1)) rfl rfl ?_
  refine j_iload hE (by decide +kernel : decode cL_law 1014 = .ok (.iload 4, 2)) rfl ?_
  refine j_iconst hE (by decide +kernel : decode cL_law 1016 = .ok (.iconst 1, 1)) (v := (1 : Int32)) (by decide) ?_
  refine j_iadd hE (by decide +kernel : decode cL_law 1017 = .ok (.iadd, 1)) ?_
  obtain ⟨hk, hb, h⟩ := h
  refine j_scr hE hsc hk hb (by decide +kernel : decode cL_law 1018 = .ok (.iaload, 1)) ?_
  refine j_aload_n hE (by decide +kernel : decode cL_law 1019 = .ok (.aload_n 0, 1)) rfl rfl ?_
  refine j_iload hE (by decide +kernel : decode cL_law 1020 = .ok (.iload 4, 2)) rfl ?_
  refine j_iconst hE (by decide +kernel : decode cL_law 1022 = .ok (.iconst 2, 1)) (v := (2 : Int32)) (by decide) ?_
  refine j_iadd hE (by decide +kernel : decode cL_law 1023 = .ok (.iadd, 1)) ?_
  obtain ⟨hk, hb, h⟩ := h
  refine j_scr hE hsc hk hb (by decide +kernel : decode cL_law 1024 = .ok (.iaload, 1)) ?_
  obtain ⟨hk, h⟩ := h
  refine j_callV hE rfl cl_L_101 cf_11 im_X10_state se_X10_state ⟨by omega, by omega⟩ (As := [.int (z_x Z (l4 + (1 : Int32)).toNatClampNeg), .int (z_x Z (l4 + (2 : Int32)).toNatClampNeg)]) (rest := []) rfl rfl (Nat.le_of_ble_eq_true rfl) hk (by decide +kernel : decode cL_law 1025 = .ok (.invokevirtual 101, 3)) (mt_PV_state _ _ _ _ _ h) ?_
  rintro _ g1 ⟨x2, rfl, h⟩
  refine j_aload_n hE (by decide +kernel : decode cL_law 1028 = .ok (.aload_n 2, 1)) rfl rfl ?_
  refine j_aload_n hE (by decide +kernel : decode cL_law 1029 = .ok (.aload_n 0, 1)) rfl rfl ?_
  refine j_iload hE (by decide +kernel : decode cL_law 1030 = .ok (.iload 4, 2)) rfl ?_
  refine j_iconst hE (by decide +kernel : decode cL_law 1032 = .ok (.iconst 1, 1)) (v := (1 : Int32)) (by decide) ?_
  refine j_iadd hE (by decide +kernel : decode cL_law 1033 = .ok (.iadd, 1)) ?_
  obtain ⟨hk, hb, h⟩ := h
  refine j_scr hE hsc hk hb (by decide +kernel : decode cL_law 1034 = .ok (.iaload, 1)) ?_
  refine j_aload_n hE (by decide +kernel : decode cL_law 1035 = .ok (.aload_n 0, 1)) rfl rfl ?_
  refine j_iload hE (by decide +kernel : decode cL_law 1036 = .ok (.iload 4, 2)) rfl ?_
  refine j_iconst hE (by decide +kernel : decode cL_law 1038 = .ok (.iconst 2, 1)) (v := (2 : Int32)) (by decide) ?_
  refine j_iadd hE (by decide +kernel : decode cL_law 1039 = .ok (.iadd, 1)) ?_
  obtain ⟨hk, hb, h⟩ := h
  refine j_scr hE hsc hk hb (by decide +kernel : decode cL_law 1040 = .ok (.iaload, 1)) ?_
  obtain ⟨hk, h⟩ := h
  refine j_callV hE rfl cl_L_104 cf_12 im_X11_state se_X11_state ⟨by omega, by omega⟩ (As := [.int (z_x Z (l4 + (1 : Int32)).toNatClampNeg), .int (z_x Z (l4 + (2 : Int32)).toNatClampNeg)]) (rest := [.int x2]) rfl rfl (Nat.le_of_ble_eq_true rfl) hk (by decide +kernel : decode cL_law 1041 = .ok (.invokevirtual 104, 3)) (mt_M_state _ _ _ _ _ h) ?_
  rintro _ g3 ⟨x4, rfl, h⟩
  refine j_icmp_eq hE (by decide +kernel : decode cL_law 1044 = .ok (.if_icmp .eq 890, 3)) (tgt := 1934) (by decide) (fun q => ?_) (fun q => ?_)
  · replace h := h.1 q
    exact S_LAW_law_1934 hsc hl hE hK23 _ _ _ _ _ _ h
  · replace h := h.2 q
    refine j_iconst hE (by decide +kernel : decode cL_law 1047 = .ok (.iconst 0, 1)) (v := (0 : Int32)) (by decide) ?_
    exact j_zret hE (Or.inl rfl) (by decide +kernel : decode cL_law 1048 = .ok (.ireturn, 1)) ⟨_, rfl, h⟩
set_option maxRecDepth 100000 in
def B_LAW_law_1009 (Γ : GAM) (Z : SCRT) (K23 : Nat → Nat → Nat → Nat → Int32 → GH → Prop) (K : Int32 → GH → Prop) (l0 : Nat) (l1 : Nat) (l2 : Nat) (l3 : Nat) (l4 : Int32) (g : GH) : Prop :=
  B_LAW_law_1934 Γ Z K23 K l0 l1 l2 l3 l4 g
set_option maxHeartbeats 4000000 in
set_option maxRecDepth 100000 in
theorem S_LAW_law_1009 {Γ : GAM} {Z : SCRT} {E : EV} {K : Int32 → GH → Prop} (hsc : SCR Γ E Z) (hl : E.2.1.stackTraces = false) (hE : GE Γ E cL_law 7 RL (some (.boolean)) 2048 84000 (fun r g' => ∃ x, r = some (.int x) ∧ K x g')) {K23 : Nat → Nat → Nat → Nat → Int32 → GH → Prop} (hK23 : ∀ (l0 : Nat) (l1 : Nat) (l2 : Nat) (l3 : Nat) (l4 : Int32) (g : GH), K23 l0 l1 l2 l3 l4 g → JW Γ E 23 [some (.ref l0), some (.ref l1), some (.ref l2), some (.ref l3), some (.int l4), none, none] [] g) (l0 : Nat) (l1 : Nat) (l2 : Nat) (l3 : Nat) (l4 : Int32) (g : GH) (h : B_LAW_law_1009 Γ Z K23 K l0 l1 l2 l3 l4 g) : JW Γ E 1009 [some (.ref l0), some (.ref l1), some (.ref l2), some (.ref l3), some (.int l4), none, none] [] g := by
  unfold B_LAW_law_1009 at h
  refine j_goto hE (by decide +kernel : decode cL_law 1009 = .ok (.goto 925, 3)) (tgt := 1934) (by decide) ?_
  exact S_LAW_law_1934 hsc hl hE hK23 _ _ _ _ _ _ h
set_option maxRecDepth 100000 in
def B_LAW_law_932 (Γ : GAM) (Z : SCRT) (K23 : Nat → Nat → Nat → Nat → Int32 → GH → Prop) (K : Int32 → GH → Prop) (l0 : Nat) (l1 : Nat) (l2 : Nat) (l3 : Nat) (l4 : Int32) (g : GH) : Prop :=
  l0 = z_b Z ∧ inB (l4 + (1 : Int32)) (z_n Z) ∧ l0 = z_b Z ∧ inB (l4 + (2 : Int32)) (z_n Z) ∧ l0 = z_b Z ∧ inB (l4 + (3 : Int32)) (z_n Z) ∧ Sp_LAW_letter Γ l1 (z_x Z (l4 + (1 : Int32)).toNatClampNeg) (z_x Z (l4 + (2 : Int32)).toNatClampNeg) (z_x Z (l4 + (3 : Int32)).toNatClampNeg) l3 g (fun (x2 : Int32) (g1 : GH) => l0 = z_b Z ∧ inB (l4 + (1 : Int32)) (z_n Z) ∧ l0 = z_b Z ∧ inB (l4 + (2 : Int32)) (z_n Z) ∧ l0 = z_b Z ∧ inB (l4 + (3 : Int32)) (z_n Z) ∧ Kd g1 l2 = 13 ∧ Sp_M_letter Γ l2 (z_x Z (l4 + (1 : Int32)).toNatClampNeg) (z_x Z (l4 + (2 : Int32)).toNatClampNeg) (z_x Z (l4 + (3 : Int32)).toNatClampNeg) g1 (fun (x4 : Int32) (g3 : GH) => Kd g3 l2 = 13 ∧ Sp_M_thrown Γ l2 g3 (fun (x6 : Int32) (g5 : GH) => ((x6 = x2 → ((¬ (x2 = 0) → B_LAW_law_1009 Γ Z K23 K l0 l1 l2 l3 l4 g5) ∧ (x2 = 0 → Kd g5 l3 = 23 ∧ inB (0 : Int32) (Ln g5 l3) ∧ (((lg_cmp (La g5 l3 (0 : Int32).toNatClampNeg) (x4.toInt64)) = 0 → B_LAW_law_1009 Γ Z K23 K l0 l1 l2 l3 l4 g5) ∧ (¬ ((lg_cmp (La g5 l3 (0 : Int32).toNatClampNeg) (x4.toInt64)) = 0) → K (0 : Int32) g5))))) ∧ (¬ (x6 = x2) → K (0 : Int32) g5)))))
set_option maxHeartbeats 4000000 in
set_option maxRecDepth 100000 in
theorem S_LAW_law_932 {Γ : GAM} {Z : SCRT} {E : EV} {K : Int32 → GH → Prop} (hsc : SCR Γ E Z) (hl : E.2.1.stackTraces = false) (hE : GE Γ E cL_law 7 RL (some (.boolean)) 2048 84000 (fun r g' => ∃ x, r = some (.int x) ∧ K x g')) {K23 : Nat → Nat → Nat → Nat → Int32 → GH → Prop} (hK23 : ∀ (l0 : Nat) (l1 : Nat) (l2 : Nat) (l3 : Nat) (l4 : Int32) (g : GH), K23 l0 l1 l2 l3 l4 g → JW Γ E 23 [some (.ref l0), some (.ref l1), some (.ref l2), some (.ref l3), some (.int l4), none, none] [] g) (l0 : Nat) (l1 : Nat) (l2 : Nat) (l3 : Nat) (l4 : Int32) (g : GH) (h : B_LAW_law_932 Γ Z K23 K l0 l1 l2 l3 l4 g) : JW Γ E 932 [some (.ref l0), some (.ref l1), some (.ref l2), some (.ref l3), some (.int l4), none, none] [] g := by
  unfold B_LAW_law_932 at h
  refine j_aload_n hE (by decide +kernel : decode cL_law 932 = .ok (.aload_n 1, 1)) rfl rfl ?_
  refine j_aload_n hE (by decide +kernel : decode cL_law 933 = .ok (.aload_n 0, 1)) rfl rfl ?_
  refine j_iload hE (by decide +kernel : decode cL_law 934 = .ok (.iload 4, 2)) rfl ?_
  refine j_iconst hE (by decide +kernel : decode cL_law 936 = .ok (.iconst 1, 1)) (v := (1 : Int32)) (by decide) ?_
  refine j_iadd hE (by decide +kernel : decode cL_law 937 = .ok (.iadd, 1)) ?_
  obtain ⟨hk, hb, h⟩ := h
  refine j_scr hE hsc hk hb (by decide +kernel : decode cL_law 938 = .ok (.iaload, 1)) ?_
  refine j_aload_n hE (by decide +kernel : decode cL_law 939 = .ok (.aload_n 0, 1)) rfl rfl ?_
  refine j_iload hE (by decide +kernel : decode cL_law 940 = .ok (.iload 4, 2)) rfl ?_
  refine j_iconst hE (by decide +kernel : decode cL_law 942 = .ok (.iconst 2, 1)) (v := (2 : Int32)) (by decide) ?_
  refine j_iadd hE (by decide +kernel : decode cL_law 943 = .ok (.iadd, 1)) ?_
  obtain ⟨hk, hb, h⟩ := h
  refine j_scr hE hsc hk hb (by decide +kernel : decode cL_law 944 = .ok (.iaload, 1)) ?_
  refine j_aload_n hE (by decide +kernel : decode cL_law 945 = .ok (.aload_n 0, 1)) rfl rfl ?_
  refine j_iload hE (by decide +kernel : decode cL_law 946 = .ok (.iload 4, 2)) rfl ?_
  refine j_iconst hE (by decide +kernel : decode cL_law 948 = .ok (.iconst 3, 1)) (v := (3 : Int32)) (by decide) ?_
  refine j_iadd hE (by decide +kernel : decode cL_law 949 = .ok (.iadd, 1)) ?_
  obtain ⟨hk, hb, h⟩ := h
  refine j_scr hE hsc hk hb (by decide +kernel : decode cL_law 950 = .ok (.iaload, 1)) ?_
  refine j_aload_n hE (by decide +kernel : decode cL_law 951 = .ok (.aload_n 3, 1)) rfl rfl ?_
  refine j_callSW (n := 5) hE rfl cw_L.1 cw_L.2.1 cw_L.2.2.1 ⟨by decide +kernel, by decide +kernel, by decide +kernel⟩ cw_L.2.2.2 ⟨by omega, by omega⟩ (As := [.ref l1, .int (z_x Z (l4 + (1 : Int32)).toNatClampNeg), .int (z_x Z (l4 + (2 : Int32)).toNatClampNeg), .int (z_x Z (l4 + (3 : Int32)).toNatClampNeg), .ref l3]) (rest := []) rfl rfl (Nat.le_of_ble_eq_true rfl) (by decide +kernel : decode cL_law 952 = .ok (.invokestatic 92, 3)) (mt_LAW_letter hl _ _ _ _ _ _ _ h) ?_
  rintro _ g1 ⟨x2, rfl, h⟩
  refine j_istore hE (by decide +kernel : decode cL_law 955 = .ok (.istore 5, 2)) (Nat.le_of_ble_eq_true rfl) rfl ?_
  refine j_aload_n hE (by decide +kernel : decode cL_law 957 = .ok (.aload_n 2, 1)) rfl rfl ?_
  refine j_aload_n hE (by decide +kernel : decode cL_law 958 = .ok (.aload_n 0, 1)) rfl rfl ?_
  refine j_iload hE (by decide +kernel : decode cL_law 959 = .ok (.iload 4, 2)) rfl ?_
  refine j_iconst hE (by decide +kernel : decode cL_law 961 = .ok (.iconst 1, 1)) (v := (1 : Int32)) (by decide) ?_
  refine j_iadd hE (by decide +kernel : decode cL_law 962 = .ok (.iadd, 1)) ?_
  obtain ⟨hk, hb, h⟩ := h
  refine j_scr hE hsc hk hb (by decide +kernel : decode cL_law 963 = .ok (.iaload, 1)) ?_
  refine j_aload_n hE (by decide +kernel : decode cL_law 964 = .ok (.aload_n 0, 1)) rfl rfl ?_
  refine j_iload hE (by decide +kernel : decode cL_law 965 = .ok (.iload 4, 2)) rfl ?_
  refine j_iconst hE (by decide +kernel : decode cL_law 967 = .ok (.iconst 2, 1)) (v := (2 : Int32)) (by decide) ?_
  refine j_iadd hE (by decide +kernel : decode cL_law 968 = .ok (.iadd, 1)) ?_
  obtain ⟨hk, hb, h⟩ := h
  refine j_scr hE hsc hk hb (by decide +kernel : decode cL_law 969 = .ok (.iaload, 1)) ?_
  refine j_aload_n hE (by decide +kernel : decode cL_law 970 = .ok (.aload_n 0, 1)) rfl rfl ?_
  refine j_iload hE (by decide +kernel : decode cL_law 971 = .ok (.iload 4, 2)) rfl ?_
  refine j_iconst hE (by decide +kernel : decode cL_law 973 = .ok (.iconst 3, 1)) (v := (3 : Int32)) (by decide) ?_
  refine j_iadd hE (by decide +kernel : decode cL_law 974 = .ok (.iadd, 1)) ?_
  obtain ⟨hk, hb, h⟩ := h
  refine j_scr hE hsc hk hb (by decide +kernel : decode cL_law 975 = .ok (.iaload, 1)) ?_
  obtain ⟨hk, h⟩ := h
  refine j_callV hE rfl cl_L_97 cf_12 im_X11_letter se_X11_letter ⟨by omega, by omega⟩ (As := [.int (z_x Z (l4 + (1 : Int32)).toNatClampNeg), .int (z_x Z (l4 + (2 : Int32)).toNatClampNeg), .int (z_x Z (l4 + (3 : Int32)).toNatClampNeg)]) (rest := []) rfl rfl (Nat.le_of_ble_eq_true rfl) hk (by decide +kernel : decode cL_law 976 = .ok (.invokevirtual 97, 3)) (mt_M_letter _ _ _ _ _ _ h) ?_
  rintro _ g3 ⟨x4, rfl, h⟩
  refine j_istore hE (by decide +kernel : decode cL_law 979 = .ok (.istore 6, 2)) (Nat.le_of_ble_eq_true rfl) rfl ?_
  refine j_aload_n hE (by decide +kernel : decode cL_law 981 = .ok (.aload_n 2, 1)) rfl rfl ?_
  obtain ⟨hk, h⟩ := h
  refine j_callV hE rfl cl_L_98 cf_12 im_X11_thrown se_X11_thrown ⟨by omega, by omega⟩ (As := []) (rest := []) rfl rfl (Nat.le_of_ble_eq_true rfl) hk (by decide +kernel : decode cL_law 982 = .ok (.invokevirtual 98, 3)) (mt_M_thrown _ _ _ h) ?_
  rintro _ g5 ⟨x6, rfl, h⟩
  refine j_iload hE (by decide +kernel : decode cL_law 985 = .ok (.iload 5, 2)) rfl ?_
  refine j_icmp_eq hE (by decide +kernel : decode cL_law 987 = .ok (.if_icmp .eq 5, 3)) (tgt := 992) (by decide) (fun q => ?_) (fun q => ?_)
  · replace h := h.1 q
    refine j_iload hE (by decide +kernel : decode cL_law 992 = .ok (.iload 5, 2)) rfl ?_
    refine j_if_ne hE (by decide +kernel : decode cL_law 994 = .ok (.ifCond .ne 15, 3)) (tgt := 1009) (by decide) (fun q => ?_) (fun q => ?_)
    · replace h := h.1 q
      refine j_weak [some (.ref l0), some (.ref l1), some (.ref l2), some (.ref l3), some (.int l4), none, none] ⟨rfl, ⟨rfl, ⟨rfl, ⟨rfl, ⟨rfl, trivial⟩⟩⟩⟩⟩ ?_
      exact S_LAW_law_1009 hsc hl hE hK23 _ _ _ _ _ _ h
    · replace h := h.2 q
      refine j_aload_n hE (by decide +kernel : decode cL_law 997 = .ok (.aload_n 3, 1)) rfl rfl ?_
      refine j_iconst hE (by decide +kernel : decode cL_law 998 = .ok (.iconst 0, 1)) (v := (0 : Int32)) (by decide) ?_
      obtain ⟨hk, hb, h⟩ := h
      refine j_lald hE hk hb (by decide +kernel : decode cL_law 999 = .ok (.laload, 1)) ?_
      refine j_iload hE (by decide +kernel : decode cL_law 1000 = .ok (.iload 6, 2)) rfl ?_
      refine j_i2l hE (by decide +kernel : decode cL_law 1002 = .ok (.i2l, 1)) ?_
      refine j_lcmp hE (by decide +kernel : decode cL_law 1003 = .ok (.lcmp, 1)) ?_
      refine j_if_eq hE (by decide +kernel : decode cL_law 1004 = .ok (.ifCond .eq 5, 3)) (tgt := 1009) (by decide) (fun q => ?_) (fun q => ?_)
      · replace h := h.1 q
        refine j_weak [some (.ref l0), some (.ref l1), some (.ref l2), some (.ref l3), some (.int l4), none, none] ⟨rfl, ⟨rfl, ⟨rfl, ⟨rfl, ⟨rfl, trivial⟩⟩⟩⟩⟩ ?_
        exact S_LAW_law_1009 hsc hl hE hK23 _ _ _ _ _ _ h
      · replace h := h.2 q
        refine j_iconst hE (by decide +kernel : decode cL_law 1007 = .ok (.iconst 0, 1)) (v := (0 : Int32)) (by decide) ?_
        exact j_zret hE (Or.inl rfl) (by decide +kernel : decode cL_law 1008 = .ok (.ireturn, 1)) ⟨_, rfl, h⟩
  · replace h := h.2 q
    refine j_iconst hE (by decide +kernel : decode cL_law 990 = .ok (.iconst 0, 1)) (v := (0 : Int32)) (by decide) ?_
    exact j_zret hE (Or.inl rfl) (by decide +kernel : decode cL_law 991 = .ok (.ireturn, 1)) ⟨_, rfl, h⟩
set_option maxRecDepth 100000 in
def B_LAW_law_883 (Γ : GAM) (Z : SCRT) (K23 : Nat → Nat → Nat → Nat → Int32 → GH → Prop) (K : Int32 → GH → Prop) (l0 : Nat) (l1 : Nat) (l2 : Nat) (l3 : Nat) (l4 : Int32) (g : GH) : Prop :=
  l0 = z_b Z ∧ inB (l4 + (1 : Int32)) (z_n Z) ∧ l0 = z_b Z ∧ inB (l4 + (2 : Int32)) (z_n Z) ∧ l0 = z_b Z ∧ inB (l4 + (3 : Int32)) (z_n Z) ∧ Kd g l1 = 12 ∧ Sp_PV_lawful Γ l1 (z_x Z (l4 + (1 : Int32)).toNatClampNeg) (z_x Z (l4 + (2 : Int32)).toNatClampNeg) (z_x Z (l4 + (3 : Int32)).toNatClampNeg) g (fun (x2 : Int32) (g1 : GH) => l0 = z_b Z ∧ inB (l4 + (1 : Int32)) (z_n Z) ∧ l0 = z_b Z ∧ inB (l4 + (2 : Int32)) (z_n Z) ∧ l0 = z_b Z ∧ inB (l4 + (3 : Int32)) (z_n Z) ∧ Kd g1 l2 = 13 ∧ Sp_M_lawful Γ l2 (z_x Z (l4 + (1 : Int32)).toNatClampNeg) (z_x Z (l4 + (2 : Int32)).toNatClampNeg) (z_x Z (l4 + (3 : Int32)).toNatClampNeg) g1 (fun (x4 : Int32) (g3 : GH) => ((x2 = x4 → B_LAW_law_1934 Γ Z K23 K l0 l1 l2 l3 l4 g3) ∧ (¬ (x2 = x4) → K (0 : Int32) g3))))
set_option maxHeartbeats 4000000 in
set_option maxRecDepth 100000 in
theorem S_LAW_law_883 {Γ : GAM} {Z : SCRT} {E : EV} {K : Int32 → GH → Prop} (hsc : SCR Γ E Z) (hl : E.2.1.stackTraces = false) (hE : GE Γ E cL_law 7 RL (some (.boolean)) 2048 84000 (fun r g' => ∃ x, r = some (.int x) ∧ K x g')) {K23 : Nat → Nat → Nat → Nat → Int32 → GH → Prop} (hK23 : ∀ (l0 : Nat) (l1 : Nat) (l2 : Nat) (l3 : Nat) (l4 : Int32) (g : GH), K23 l0 l1 l2 l3 l4 g → JW Γ E 23 [some (.ref l0), some (.ref l1), some (.ref l2), some (.ref l3), some (.int l4), none, none] [] g) (l0 : Nat) (l1 : Nat) (l2 : Nat) (l3 : Nat) (l4 : Int32) (g : GH) (h : B_LAW_law_883 Γ Z K23 K l0 l1 l2 l3 l4 g) : JW Γ E 883 [some (.ref l0), some (.ref l1), some (.ref l2), some (.ref l3), some (.int l4), none, none] [] g := by
  unfold B_LAW_law_883 at h
  refine j_aload_n hE (by decide +kernel : decode cL_law 883 = .ok (.aload_n 1, 1)) rfl rfl ?_
  refine j_aload_n hE (by decide +kernel : decode cL_law 884 = .ok (.aload_n 0, 1)) rfl rfl ?_
  refine j_iload hE (by decide +kernel : decode cL_law 885 = .ok (.iload 4, 2)) rfl ?_
  refine j_iconst hE (by decide +kernel : decode cL_law 887 = .ok (.iconst 1, 1)) (v := (1 : Int32)) (by decide) ?_
  refine j_iadd hE (by decide +kernel : decode cL_law 888 = .ok (.iadd, 1)) ?_
  obtain ⟨hk, hb, h⟩ := h
  refine j_scr hE hsc hk hb (by decide +kernel : decode cL_law 889 = .ok (.iaload, 1)) ?_
  refine j_aload_n hE (by decide +kernel : decode cL_law 890 = .ok (.aload_n 0, 1)) rfl rfl ?_
  refine j_iload hE (by decide +kernel : decode cL_law 891 = .ok (.iload 4, 2)) rfl ?_
  refine j_iconst hE (by decide +kernel : decode cL_law 893 = .ok (.iconst 2, 1)) (v := (2 : Int32)) (by decide) ?_
  refine j_iadd hE (by decide +kernel : decode cL_law 894 = .ok (.iadd, 1)) ?_
  obtain ⟨hk, hb, h⟩ := h
  refine j_scr hE hsc hk hb (by decide +kernel : decode cL_law 895 = .ok (.iaload, 1)) ?_
  refine j_aload_n hE (by decide +kernel : decode cL_law 896 = .ok (.aload_n 0, 1)) rfl rfl ?_
  refine j_iload hE (by decide +kernel : decode cL_law 897 = .ok (.iload 4, 2)) rfl ?_
  refine j_iconst hE (by decide +kernel : decode cL_law 899 = .ok (.iconst 3, 1)) (v := (3 : Int32)) (by decide) ?_
  refine j_iadd hE (by decide +kernel : decode cL_law 900 = .ok (.iadd, 1)) ?_
  obtain ⟨hk, hb, h⟩ := h
  refine j_scr hE hsc hk hb (by decide +kernel : decode cL_law 901 = .ok (.iaload, 1)) ?_
  obtain ⟨hk, h⟩ := h
  refine j_callV hE rfl cl_L_88 cf_11 im_X10_lawful se_X10_lawful ⟨by omega, by omega⟩ (As := [.int (z_x Z (l4 + (1 : Int32)).toNatClampNeg), .int (z_x Z (l4 + (2 : Int32)).toNatClampNeg), .int (z_x Z (l4 + (3 : Int32)).toNatClampNeg)]) (rest := []) rfl rfl (Nat.le_of_ble_eq_true rfl) hk (by decide +kernel : decode cL_law 902 = .ok (.invokevirtual 88, 3)) (mt_PV_lawful _ _ _ _ _ _ h) ?_
  rintro _ g1 ⟨x2, rfl, h⟩
  refine j_aload_n hE (by decide +kernel : decode cL_law 905 = .ok (.aload_n 2, 1)) rfl rfl ?_
  refine j_aload_n hE (by decide +kernel : decode cL_law 906 = .ok (.aload_n 0, 1)) rfl rfl ?_
  refine j_iload hE (by decide +kernel : decode cL_law 907 = .ok (.iload 4, 2)) rfl ?_
  refine j_iconst hE (by decide +kernel : decode cL_law 909 = .ok (.iconst 1, 1)) (v := (1 : Int32)) (by decide) ?_
  refine j_iadd hE (by decide +kernel : decode cL_law 910 = .ok (.iadd, 1)) ?_
  obtain ⟨hk, hb, h⟩ := h
  refine j_scr hE hsc hk hb (by decide +kernel : decode cL_law 911 = .ok (.iaload, 1)) ?_
  refine j_aload_n hE (by decide +kernel : decode cL_law 912 = .ok (.aload_n 0, 1)) rfl rfl ?_
  refine j_iload hE (by decide +kernel : decode cL_law 913 = .ok (.iload 4, 2)) rfl ?_
  refine j_iconst hE (by decide +kernel : decode cL_law 915 = .ok (.iconst 2, 1)) (v := (2 : Int32)) (by decide) ?_
  refine j_iadd hE (by decide +kernel : decode cL_law 916 = .ok (.iadd, 1)) ?_
  obtain ⟨hk, hb, h⟩ := h
  refine j_scr hE hsc hk hb (by decide +kernel : decode cL_law 917 = .ok (.iaload, 1)) ?_
  refine j_aload_n hE (by decide +kernel : decode cL_law 918 = .ok (.aload_n 0, 1)) rfl rfl ?_
  refine j_iload hE (by decide +kernel : decode cL_law 919 = .ok (.iload 4, 2)) rfl ?_
  refine j_iconst hE (by decide +kernel : decode cL_law 921 = .ok (.iconst 3, 1)) (v := (3 : Int32)) (by decide) ?_
  refine j_iadd hE (by decide +kernel : decode cL_law 922 = .ok (.iadd, 1)) ?_
  obtain ⟨hk, hb, h⟩ := h
  refine j_scr hE hsc hk hb (by decide +kernel : decode cL_law 923 = .ok (.iaload, 1)) ?_
  obtain ⟨hk, h⟩ := h
  refine j_callV hE rfl cl_L_91 cf_12 im_X11_lawful se_X11_lawful ⟨by omega, by omega⟩ (As := [.int (z_x Z (l4 + (1 : Int32)).toNatClampNeg), .int (z_x Z (l4 + (2 : Int32)).toNatClampNeg), .int (z_x Z (l4 + (3 : Int32)).toNatClampNeg)]) (rest := [.int x2]) rfl rfl (Nat.le_of_ble_eq_true rfl) hk (by decide +kernel : decode cL_law 924 = .ok (.invokevirtual 91, 3)) (mt_M_lawful _ _ _ _ _ _ h) ?_
  rintro _ g3 ⟨x4, rfl, h⟩
  refine j_icmp_eq hE (by decide +kernel : decode cL_law 927 = .ok (.if_icmp .eq 1007, 3)) (tgt := 1934) (by decide) (fun q => ?_) (fun q => ?_)
  · replace h := h.1 q
    exact S_LAW_law_1934 hsc hl hE hK23 _ _ _ _ _ _ h
  · replace h := h.2 q
    refine j_iconst hE (by decide +kernel : decode cL_law 930 = .ok (.iconst 0, 1)) (v := (0 : Int32)) (by decide) ?_
    exact j_zret hE (Or.inl rfl) (by decide +kernel : decode cL_law 931 = .ok (.ireturn, 1)) ⟨_, rfl, h⟩
set_option maxRecDepth 100000 in
def B_LAW_law_846 (Γ : GAM) (Z : SCRT) (K23 : Nat → Nat → Nat → Nat → Int32 → GH → Prop) (K : Int32 → GH → Prop) (l0 : Nat) (l1 : Nat) (l2 : Nat) (l3 : Nat) (l4 : Int32) (g : GH) : Prop :=
  l0 = z_b Z ∧ inB (l4 + (1 : Int32)) (z_n Z) ∧ l0 = z_b Z ∧ inB (l4 + (2 : Int32)) (z_n Z) ∧ Kd g l1 = 12 ∧ Sp_PV_law Γ l1 (z_x Z (l4 + (1 : Int32)).toNatClampNeg) (z_x Z (l4 + (2 : Int32)).toNatClampNeg) g (fun (x2 : Int32) (g1 : GH) => l0 = z_b Z ∧ inB (l4 + (1 : Int32)) (z_n Z) ∧ l0 = z_b Z ∧ inB (l4 + (2 : Int32)) (z_n Z) ∧ Kd g1 l2 = 13 ∧ Sp_M_law Γ l2 (z_x Z (l4 + (1 : Int32)).toNatClampNeg) (z_x Z (l4 + (2 : Int32)).toNatClampNeg) g1 (fun (x4 : Int32) (g3 : GH) => ((x2 = x4 → B_LAW_law_1934 Γ Z K23 K l0 l1 l2 l3 l4 g3) ∧ (¬ (x2 = x4) → K (0 : Int32) g3))))
set_option maxHeartbeats 4000000 in
set_option maxRecDepth 100000 in
theorem S_LAW_law_846 {Γ : GAM} {Z : SCRT} {E : EV} {K : Int32 → GH → Prop} (hsc : SCR Γ E Z) (hl : E.2.1.stackTraces = false) (hE : GE Γ E cL_law 7 RL (some (.boolean)) 2048 84000 (fun r g' => ∃ x, r = some (.int x) ∧ K x g')) {K23 : Nat → Nat → Nat → Nat → Int32 → GH → Prop} (hK23 : ∀ (l0 : Nat) (l1 : Nat) (l2 : Nat) (l3 : Nat) (l4 : Int32) (g : GH), K23 l0 l1 l2 l3 l4 g → JW Γ E 23 [some (.ref l0), some (.ref l1), some (.ref l2), some (.ref l3), some (.int l4), none, none] [] g) (l0 : Nat) (l1 : Nat) (l2 : Nat) (l3 : Nat) (l4 : Int32) (g : GH) (h : B_LAW_law_846 Γ Z K23 K l0 l1 l2 l3 l4 g) : JW Γ E 846 [some (.ref l0), some (.ref l1), some (.ref l2), some (.ref l3), some (.int l4), none, none] [] g := by
  unfold B_LAW_law_846 at h
  refine j_aload_n hE (by decide +kernel : decode cL_law 846 = .ok (.aload_n 1, 1)) rfl rfl ?_
  refine j_aload_n hE (by decide +kernel : decode cL_law 847 = .ok (.aload_n 0, 1)) rfl rfl ?_
  refine j_iload hE (by decide +kernel : decode cL_law 848 = .ok (.iload 4, 2)) rfl ?_
  refine j_iconst hE (by decide +kernel : decode cL_law 850 = .ok (.iconst 1, 1)) (v := (1 : Int32)) (by decide) ?_
  refine j_iadd hE (by decide +kernel : decode cL_law 851 = .ok (.iadd, 1)) ?_
  obtain ⟨hk, hb, h⟩ := h
  refine j_scr hE hsc hk hb (by decide +kernel : decode cL_law 852 = .ok (.iaload, 1)) ?_
  refine j_aload_n hE (by decide +kernel : decode cL_law 853 = .ok (.aload_n 0, 1)) rfl rfl ?_
  refine j_iload hE (by decide +kernel : decode cL_law 854 = .ok (.iload 4, 2)) rfl ?_
  refine j_iconst hE (by decide +kernel : decode cL_law 856 = .ok (.iconst 2, 1)) (v := (2 : Int32)) (by decide) ?_
  refine j_iadd hE (by decide +kernel : decode cL_law 857 = .ok (.iadd, 1)) ?_
  obtain ⟨hk, hb, h⟩ := h
  refine j_scr hE hsc hk hb (by decide +kernel : decode cL_law 858 = .ok (.iaload, 1)) ?_
  obtain ⟨hk, h⟩ := h
  refine j_callV hE rfl cl_L_84 cf_11 im_X10_law se_X10_law ⟨by omega, by omega⟩ (As := [.int (z_x Z (l4 + (1 : Int32)).toNatClampNeg), .int (z_x Z (l4 + (2 : Int32)).toNatClampNeg)]) (rest := []) rfl rfl (Nat.le_of_ble_eq_true rfl) hk (by decide +kernel : decode cL_law 859 = .ok (.invokevirtual 84, 3)) (mt_PV_law _ _ _ _ _ h) ?_
  rintro _ g1 ⟨x2, rfl, h⟩
  refine j_aload_n hE (by decide +kernel : decode cL_law 862 = .ok (.aload_n 2, 1)) rfl rfl ?_
  refine j_aload_n hE (by decide +kernel : decode cL_law 863 = .ok (.aload_n 0, 1)) rfl rfl ?_
  refine j_iload hE (by decide +kernel : decode cL_law 864 = .ok (.iload 4, 2)) rfl ?_
  refine j_iconst hE (by decide +kernel : decode cL_law 866 = .ok (.iconst 1, 1)) (v := (1 : Int32)) (by decide) ?_
  refine j_iadd hE (by decide +kernel : decode cL_law 867 = .ok (.iadd, 1)) ?_
  obtain ⟨hk, hb, h⟩ := h
  refine j_scr hE hsc hk hb (by decide +kernel : decode cL_law 868 = .ok (.iaload, 1)) ?_
  refine j_aload_n hE (by decide +kernel : decode cL_law 869 = .ok (.aload_n 0, 1)) rfl rfl ?_
  refine j_iload hE (by decide +kernel : decode cL_law 870 = .ok (.iload 4, 2)) rfl ?_
  refine j_iconst hE (by decide +kernel : decode cL_law 872 = .ok (.iconst 2, 1)) (v := (2 : Int32)) (by decide) ?_
  refine j_iadd hE (by decide +kernel : decode cL_law 873 = .ok (.iadd, 1)) ?_
  obtain ⟨hk, hb, h⟩ := h
  refine j_scr hE hsc hk hb (by decide +kernel : decode cL_law 874 = .ok (.iaload, 1)) ?_
  obtain ⟨hk, h⟩ := h
  refine j_callV hE rfl cl_L_87 cf_12 im_X11_law se_X11_law ⟨by omega, by omega⟩ (As := [.int (z_x Z (l4 + (1 : Int32)).toNatClampNeg), .int (z_x Z (l4 + (2 : Int32)).toNatClampNeg)]) (rest := [.int x2]) rfl rfl (Nat.le_of_ble_eq_true rfl) hk (by decide +kernel : decode cL_law 875 = .ok (.invokevirtual 87, 3)) (mt_M_law _ _ _ _ _ h) ?_
  rintro _ g3 ⟨x4, rfl, h⟩
  refine j_icmp_eq hE (by decide +kernel : decode cL_law 878 = .ok (.if_icmp .eq 1056, 3)) (tgt := 1934) (by decide) (fun q => ?_) (fun q => ?_)
  · replace h := h.1 q
    exact S_LAW_law_1934 hsc hl hE hK23 _ _ _ _ _ _ h
  · replace h := h.2 q
    refine j_iconst hE (by decide +kernel : decode cL_law 881 = .ok (.iconst 0, 1)) (v := (0 : Int32)) (by decide) ?_
    exact j_zret hE (Or.inl rfl) (by decide +kernel : decode cL_law 882 = .ok (.ireturn, 1)) ⟨_, rfl, h⟩
set_option maxRecDepth 100000 in
def B_LAW_law_833 (Γ : GAM) (Z : SCRT) (K23 : Nat → Nat → Nat → Nat → Int32 → GH → Prop) (K : Int32 → GH → Prop) (l0 : Nat) (l1 : Nat) (l2 : Nat) (l3 : Nat) (l4 : Int32) (g : GH) : Prop :=
  Kd g l1 = 12 ∧ Sp_PV_fault Γ l1 g (fun (x2 : Int32) (g1 : GH) => Kd g1 l2 = 13 ∧ Sp_M_fault Γ l2 g1 (fun (x4 : Int32) (g3 : GH) => ((x2 = x4 → B_LAW_law_1934 Γ Z K23 K l0 l1 l2 l3 l4 g3) ∧ (¬ (x2 = x4) → K (0 : Int32) g3))))
set_option maxHeartbeats 4000000 in
set_option maxRecDepth 100000 in
theorem S_LAW_law_833 {Γ : GAM} {Z : SCRT} {E : EV} {K : Int32 → GH → Prop} (hsc : SCR Γ E Z) (hl : E.2.1.stackTraces = false) (hE : GE Γ E cL_law 7 RL (some (.boolean)) 2048 84000 (fun r g' => ∃ x, r = some (.int x) ∧ K x g')) {K23 : Nat → Nat → Nat → Nat → Int32 → GH → Prop} (hK23 : ∀ (l0 : Nat) (l1 : Nat) (l2 : Nat) (l3 : Nat) (l4 : Int32) (g : GH), K23 l0 l1 l2 l3 l4 g → JW Γ E 23 [some (.ref l0), some (.ref l1), some (.ref l2), some (.ref l3), some (.int l4), none, none] [] g) (l0 : Nat) (l1 : Nat) (l2 : Nat) (l3 : Nat) (l4 : Int32) (g : GH) (h : B_LAW_law_833 Γ Z K23 K l0 l1 l2 l3 l4 g) : JW Γ E 833 [some (.ref l0), some (.ref l1), some (.ref l2), some (.ref l3), some (.int l4), none, none] [] g := by
  unfold B_LAW_law_833 at h
  refine j_aload_n hE (by decide +kernel : decode cL_law 833 = .ok (.aload_n 1, 1)) rfl rfl ?_
  obtain ⟨hk, h⟩ := h
  refine j_callV hE rfl cl_L_79 cf_11 im_X10_fault se_X10_fault ⟨by omega, by omega⟩ (As := []) (rest := []) rfl rfl (Nat.le_of_ble_eq_true rfl) hk (by decide +kernel : decode cL_law 834 = .ok (.invokevirtual 79, 3)) (mt_PV_fault _ _ _ h) ?_
  rintro _ g1 ⟨x2, rfl, h⟩
  refine j_aload_n hE (by decide +kernel : decode cL_law 837 = .ok (.aload_n 2, 1)) rfl rfl ?_
  obtain ⟨hk, h⟩ := h
  refine j_callV hE rfl cl_L_83 cf_12 im_X11_fault se_X11_fault ⟨by omega, by omega⟩ (As := []) (rest := [.int x2]) rfl rfl (Nat.le_of_ble_eq_true rfl) hk (by decide +kernel : decode cL_law 838 = .ok (.invokevirtual 83, 3)) (mt_M_fault _ _ _ h) ?_
  rintro _ g3 ⟨x4, rfl, h⟩
  refine j_icmp_eq hE (by decide +kernel : decode cL_law 841 = .ok (.if_icmp .eq 1093, 3)) (tgt := 1934) (by decide) (fun q => ?_) (fun q => ?_)
  · replace h := h.1 q
    exact S_LAW_law_1934 hsc hl hE hK23 _ _ _ _ _ _ h
  · replace h := h.2 q
    refine j_iconst hE (by decide +kernel : decode cL_law 844 = .ok (.iconst 0, 1)) (v := (0 : Int32)) (by decide) ?_
    exact j_zret hE (Or.inl rfl) (by decide +kernel : decode cL_law 845 = .ok (.ireturn, 1)) ⟨_, rfl, h⟩
set_option maxRecDepth 100000 in
def B_LAW_law_808 (Γ : GAM) (Z : SCRT) (K23 : Nat → Nat → Nat → Nat → Int32 → GH → Prop) (K : Int32 → GH → Prop) (l0 : Nat) (l1 : Nat) (l2 : Nat) (l3 : Nat) (l4 : Int32) (g : GH) : Prop :=
  l0 = z_b Z ∧ inB (l4 + (1 : Int32)) (z_n Z) ∧ Kd g l1 = 12 ∧ Sp_PV_end Γ l1 (z_x Z (l4 + (1 : Int32)).toNatClampNeg) g (fun (x2 : Int32) (g1 : GH) => l0 = z_b Z ∧ inB (l4 + (1 : Int32)) (z_n Z) ∧ Kd g1 l2 = 13 ∧ Sp_M_end Γ l2 (z_x Z (l4 + (1 : Int32)).toNatClampNeg) g1 (fun (x4 : Int32) (g3 : GH) => ((x2 = x4 → B_LAW_law_1934 Γ Z K23 K l0 l1 l2 l3 l4 g3) ∧ (¬ (x2 = x4) → K (0 : Int32) g3))))
set_option maxHeartbeats 4000000 in
set_option maxRecDepth 100000 in
theorem S_LAW_law_808 {Γ : GAM} {Z : SCRT} {E : EV} {K : Int32 → GH → Prop} (hsc : SCR Γ E Z) (hl : E.2.1.stackTraces = false) (hE : GE Γ E cL_law 7 RL (some (.boolean)) 2048 84000 (fun r g' => ∃ x, r = some (.int x) ∧ K x g')) {K23 : Nat → Nat → Nat → Nat → Int32 → GH → Prop} (hK23 : ∀ (l0 : Nat) (l1 : Nat) (l2 : Nat) (l3 : Nat) (l4 : Int32) (g : GH), K23 l0 l1 l2 l3 l4 g → JW Γ E 23 [some (.ref l0), some (.ref l1), some (.ref l2), some (.ref l3), some (.int l4), none, none] [] g) (l0 : Nat) (l1 : Nat) (l2 : Nat) (l3 : Nat) (l4 : Int32) (g : GH) (h : B_LAW_law_808 Γ Z K23 K l0 l1 l2 l3 l4 g) : JW Γ E 808 [some (.ref l0), some (.ref l1), some (.ref l2), some (.ref l3), some (.int l4), none, none] [] g := by
  unfold B_LAW_law_808 at h
  refine j_aload_n hE (by decide +kernel : decode cL_law 808 = .ok (.aload_n 1, 1)) rfl rfl ?_
  refine j_aload_n hE (by decide +kernel : decode cL_law 809 = .ok (.aload_n 0, 1)) rfl rfl ?_
  refine j_iload hE (by decide +kernel : decode cL_law 810 = .ok (.iload 4, 2)) rfl ?_
  refine j_iconst hE (by decide +kernel : decode cL_law 812 = .ok (.iconst 1, 1)) (v := (1 : Int32)) (by decide) ?_
  refine j_iadd hE (by decide +kernel : decode cL_law 813 = .ok (.iadd, 1)) ?_
  obtain ⟨hk, hb, h⟩ := h
  refine j_scr hE hsc hk hb (by decide +kernel : decode cL_law 814 = .ok (.iaload, 1)) ?_
  obtain ⟨hk, h⟩ := h
  refine j_callV hE rfl cl_L_74 cf_11 im_X10_end se_X10_end ⟨by omega, by omega⟩ (As := [.int (z_x Z (l4 + (1 : Int32)).toNatClampNeg)]) (rest := []) rfl rfl (Nat.le_of_ble_eq_true rfl) hk (by decide +kernel : decode cL_law 815 = .ok (.invokevirtual 74, 3)) (mt_PV_end _ _ _ _ h) ?_
  rintro _ g1 ⟨x2, rfl, h⟩
  refine j_aload_n hE (by decide +kernel : decode cL_law 818 = .ok (.aload_n 2, 1)) rfl rfl ?_
  refine j_aload_n hE (by decide +kernel : decode cL_law 819 = .ok (.aload_n 0, 1)) rfl rfl ?_
  refine j_iload hE (by decide +kernel : decode cL_law 820 = .ok (.iload 4, 2)) rfl ?_
  refine j_iconst hE (by decide +kernel : decode cL_law 822 = .ok (.iconst 1, 1)) (v := (1 : Int32)) (by decide) ?_
  refine j_iadd hE (by decide +kernel : decode cL_law 823 = .ok (.iadd, 1)) ?_
  obtain ⟨hk, hb, h⟩ := h
  refine j_scr hE hsc hk hb (by decide +kernel : decode cL_law 824 = .ok (.iaload, 1)) ?_
  obtain ⟨hk, h⟩ := h
  refine j_callV hE rfl cl_L_78 cf_12 im_X11_end se_X11_end ⟨by omega, by omega⟩ (As := [.int (z_x Z (l4 + (1 : Int32)).toNatClampNeg)]) (rest := [.int x2]) rfl rfl (Nat.le_of_ble_eq_true rfl) hk (by decide +kernel : decode cL_law 825 = .ok (.invokevirtual 78, 3)) (mt_M_end _ _ _ _ h) ?_
  rintro _ g3 ⟨x4, rfl, h⟩
  refine j_icmp_eq hE (by decide +kernel : decode cL_law 828 = .ok (.if_icmp .eq 1106, 3)) (tgt := 1934) (by decide) (fun q => ?_) (fun q => ?_)
  · replace h := h.1 q
    exact S_LAW_law_1934 hsc hl hE hK23 _ _ _ _ _ _ h
  · replace h := h.2 q
    refine j_iconst hE (by decide +kernel : decode cL_law 831 = .ok (.iconst 0, 1)) (v := (0 : Int32)) (by decide) ?_
    exact j_zret hE (Or.inl rfl) (by decide +kernel : decode cL_law 832 = .ok (.ireturn, 1)) ⟨_, rfl, h⟩
set_option maxRecDepth 100000 in
def B_LAW_law_735 (Γ : GAM) (Z : SCRT) (K23 : Nat → Nat → Nat → Nat → Int32 → GH → Prop) (K : Int32 → GH → Prop) (l0 : Nat) (l1 : Nat) (l2 : Nat) (l3 : Nat) (l4 : Int32) (g : GH) : Prop :=
  l0 = z_b Z ∧ inB (l4 + (1 : Int32)) (z_n Z) ∧ l0 = z_b Z ∧ inB (l4 + (2 : Int32)) (z_n Z) ∧ l0 = z_b Z ∧ inB (l4 + (3 : Int32)) (z_n Z) ∧ l0 = z_b Z ∧ inB (l4 + (4 : Int32)) (z_n Z) ∧ l0 = z_b Z ∧ inB (l4 + (5 : Int32)) (z_n Z) ∧ Kd g l1 = 12 ∧ Sp_PV_feed Γ l1 (z_x Z (l4 + (1 : Int32)).toNatClampNeg) (z_x Z (l4 + (2 : Int32)).toNatClampNeg) (z_x Z (l4 + (3 : Int32)).toNatClampNeg) (z_x Z (l4 + (4 : Int32)).toNatClampNeg) (z_x Z (l4 + (5 : Int32)).toNatClampNeg) g (fun (x2 : Int32) (g1 : GH) => l0 = z_b Z ∧ inB (l4 + (1 : Int32)) (z_n Z) ∧ l0 = z_b Z ∧ inB (l4 + (2 : Int32)) (z_n Z) ∧ l0 = z_b Z ∧ inB (l4 + (3 : Int32)) (z_n Z) ∧ l0 = z_b Z ∧ inB (l4 + (4 : Int32)) (z_n Z) ∧ l0 = z_b Z ∧ inB (l4 + (5 : Int32)) (z_n Z) ∧ Kd g1 l2 = 13 ∧ Sp_M_feed Γ l2 (z_x Z (l4 + (1 : Int32)).toNatClampNeg) (z_x Z (l4 + (2 : Int32)).toNatClampNeg) (z_x Z (l4 + (3 : Int32)).toNatClampNeg) (z_x Z (l4 + (4 : Int32)).toNatClampNeg) (z_x Z (l4 + (5 : Int32)).toNatClampNeg) g1 (fun (x4 : Int32) (g3 : GH) => ((x2 = x4 → B_LAW_law_1934 Γ Z K23 K l0 l1 l2 l3 l4 g3) ∧ (¬ (x2 = x4) → K (0 : Int32) g3))))
set_option maxHeartbeats 4000000 in
set_option maxRecDepth 100000 in
theorem S_LAW_law_735 {Γ : GAM} {Z : SCRT} {E : EV} {K : Int32 → GH → Prop} (hsc : SCR Γ E Z) (hl : E.2.1.stackTraces = false) (hE : GE Γ E cL_law 7 RL (some (.boolean)) 2048 84000 (fun r g' => ∃ x, r = some (.int x) ∧ K x g')) {K23 : Nat → Nat → Nat → Nat → Int32 → GH → Prop} (hK23 : ∀ (l0 : Nat) (l1 : Nat) (l2 : Nat) (l3 : Nat) (l4 : Int32) (g : GH), K23 l0 l1 l2 l3 l4 g → JW Γ E 23 [some (.ref l0), some (.ref l1), some (.ref l2), some (.ref l3), some (.int l4), none, none] [] g) (l0 : Nat) (l1 : Nat) (l2 : Nat) (l3 : Nat) (l4 : Int32) (g : GH) (h : B_LAW_law_735 Γ Z K23 K l0 l1 l2 l3 l4 g) : JW Γ E 735 [some (.ref l0), some (.ref l1), some (.ref l2), some (.ref l3), some (.int l4), none, none] [] g := by
  unfold B_LAW_law_735 at h
  refine j_aload_n hE (by decide +kernel : decode cL_law 735 = .ok (.aload_n 1, 1)) rfl rfl ?_
  refine j_aload_n hE (by decide +kernel : decode cL_law 736 = .ok (.aload_n 0, 1)) rfl rfl ?_
  refine j_iload hE (by decide +kernel : decode cL_law 737 = .ok (.iload 4, 2)) rfl ?_
  refine j_iconst hE (by decide +kernel : decode cL_law 739 = .ok (.iconst 1, 1)) (v := (1 : Int32)) (by decide) ?_
  refine j_iadd hE (by decide +kernel : decode cL_law 740 = .ok (.iadd, 1)) ?_
  obtain ⟨hk, hb, h⟩ := h
  refine j_scr hE hsc hk hb (by decide +kernel : decode cL_law 741 = .ok (.iaload, 1)) ?_
  refine j_aload_n hE (by decide +kernel : decode cL_law 742 = .ok (.aload_n 0, 1)) rfl rfl ?_
  refine j_iload hE (by decide +kernel : decode cL_law 743 = .ok (.iload 4, 2)) rfl ?_
  refine j_iconst hE (by decide +kernel : decode cL_law 745 = .ok (.iconst 2, 1)) (v := (2 : Int32)) (by decide) ?_
  refine j_iadd hE (by decide +kernel : decode cL_law 746 = .ok (.iadd, 1)) ?_
  obtain ⟨hk, hb, h⟩ := h
  refine j_scr hE hsc hk hb (by decide +kernel : decode cL_law 747 = .ok (.iaload, 1)) ?_
  refine j_aload_n hE (by decide +kernel : decode cL_law 748 = .ok (.aload_n 0, 1)) rfl rfl ?_
  refine j_iload hE (by decide +kernel : decode cL_law 749 = .ok (.iload 4, 2)) rfl ?_
  refine j_iconst hE (by decide +kernel : decode cL_law 751 = .ok (.iconst 3, 1)) (v := (3 : Int32)) (by decide) ?_
  refine j_iadd hE (by decide +kernel : decode cL_law 752 = .ok (.iadd, 1)) ?_
  obtain ⟨hk, hb, h⟩ := h
  refine j_scr hE hsc hk hb (by decide +kernel : decode cL_law 753 = .ok (.iaload, 1)) ?_
  refine j_aload_n hE (by decide +kernel : decode cL_law 754 = .ok (.aload_n 0, 1)) rfl rfl ?_
  refine j_iload hE (by decide +kernel : decode cL_law 755 = .ok (.iload 4, 2)) rfl ?_
  refine j_iconst hE (by decide +kernel : decode cL_law 757 = .ok (.iconst 4, 1)) (v := (4 : Int32)) (by decide) ?_
  refine j_iadd hE (by decide +kernel : decode cL_law 758 = .ok (.iadd, 1)) ?_
  obtain ⟨hk, hb, h⟩ := h
  refine j_scr hE hsc hk hb (by decide +kernel : decode cL_law 759 = .ok (.iaload, 1)) ?_
  refine j_aload_n hE (by decide +kernel : decode cL_law 760 = .ok (.aload_n 0, 1)) rfl rfl ?_
  refine j_iload hE (by decide +kernel : decode cL_law 761 = .ok (.iload 4, 2)) rfl ?_
  refine j_iconst hE (by decide +kernel : decode cL_law 763 = .ok (.iconst 5, 1)) (v := (5 : Int32)) (by decide) ?_
  refine j_iadd hE (by decide +kernel : decode cL_law 764 = .ok (.iadd, 1)) ?_
  obtain ⟨hk, hb, h⟩ := h
  refine j_scr hE hsc hk hb (by decide +kernel : decode cL_law 765 = .ok (.iaload, 1)) ?_
  obtain ⟨hk, h⟩ := h
  refine j_callV hE rfl cl_L_69 cf_11 im_X10_feed se_X10_feed ⟨by omega, by omega⟩ (As := [.int (z_x Z (l4 + (1 : Int32)).toNatClampNeg), .int (z_x Z (l4 + (2 : Int32)).toNatClampNeg), .int (z_x Z (l4 + (3 : Int32)).toNatClampNeg), .int (z_x Z (l4 + (4 : Int32)).toNatClampNeg), .int (z_x Z (l4 + (5 : Int32)).toNatClampNeg)]) (rest := []) rfl rfl (Nat.le_of_ble_eq_true rfl) hk (by decide +kernel : decode cL_law 766 = .ok (.invokevirtual 69, 3)) (mt_PV_feed _ _ _ _ _ _ _ _ h) ?_
  rintro _ g1 ⟨x2, rfl, h⟩
  refine j_aload_n hE (by decide +kernel : decode cL_law 769 = .ok (.aload_n 2, 1)) rfl rfl ?_
  refine j_aload_n hE (by decide +kernel : decode cL_law 770 = .ok (.aload_n 0, 1)) rfl rfl ?_
  refine j_iload hE (by decide +kernel : decode cL_law 771 = .ok (.iload 4, 2)) rfl ?_
  refine j_iconst hE (by decide +kernel : decode cL_law 773 = .ok (.iconst 1, 1)) (v := (1 : Int32)) (by decide) ?_
  refine j_iadd hE (by decide +kernel : decode cL_law 774 = .ok (.iadd, 1)) ?_
  obtain ⟨hk, hb, h⟩ := h
  refine j_scr hE hsc hk hb (by decide +kernel : decode cL_law 775 = .ok (.iaload, 1)) ?_
  refine j_aload_n hE (by decide +kernel : decode cL_law 776 = .ok (.aload_n 0, 1)) rfl rfl ?_
  refine j_iload hE (by decide +kernel : decode cL_law 777 = .ok (.iload 4, 2)) rfl ?_
  refine j_iconst hE (by decide +kernel : decode cL_law 779 = .ok (.iconst 2, 1)) (v := (2 : Int32)) (by decide) ?_
  refine j_iadd hE (by decide +kernel : decode cL_law 780 = .ok (.iadd, 1)) ?_
  obtain ⟨hk, hb, h⟩ := h
  refine j_scr hE hsc hk hb (by decide +kernel : decode cL_law 781 = .ok (.iaload, 1)) ?_
  refine j_aload_n hE (by decide +kernel : decode cL_law 782 = .ok (.aload_n 0, 1)) rfl rfl ?_
  refine j_iload hE (by decide +kernel : decode cL_law 783 = .ok (.iload 4, 2)) rfl ?_
  refine j_iconst hE (by decide +kernel : decode cL_law 785 = .ok (.iconst 3, 1)) (v := (3 : Int32)) (by decide) ?_
  refine j_iadd hE (by decide +kernel : decode cL_law 786 = .ok (.iadd, 1)) ?_
  obtain ⟨hk, hb, h⟩ := h
  refine j_scr hE hsc hk hb (by decide +kernel : decode cL_law 787 = .ok (.iaload, 1)) ?_
  refine j_aload_n hE (by decide +kernel : decode cL_law 788 = .ok (.aload_n 0, 1)) rfl rfl ?_
  refine j_iload hE (by decide +kernel : decode cL_law 789 = .ok (.iload 4, 2)) rfl ?_
  refine j_iconst hE (by decide +kernel : decode cL_law 791 = .ok (.iconst 4, 1)) (v := (4 : Int32)) (by decide) ?_
  refine j_iadd hE (by decide +kernel : decode cL_law 792 = .ok (.iadd, 1)) ?_
  obtain ⟨hk, hb, h⟩ := h
  refine j_scr hE hsc hk hb (by decide +kernel : decode cL_law 793 = .ok (.iaload, 1)) ?_
  refine j_aload_n hE (by decide +kernel : decode cL_law 794 = .ok (.aload_n 0, 1)) rfl rfl ?_
  refine j_iload hE (by decide +kernel : decode cL_law 795 = .ok (.iload 4, 2)) rfl ?_
  refine j_iconst hE (by decide +kernel : decode cL_law 797 = .ok (.iconst 5, 1)) (v := (5 : Int32)) (by decide) ?_
  refine j_iadd hE (by decide +kernel : decode cL_law 798 = .ok (.iadd, 1)) ?_
  obtain ⟨hk, hb, h⟩ := h
  refine j_scr hE hsc hk hb (by decide +kernel : decode cL_law 799 = .ok (.iaload, 1)) ?_
  obtain ⟨hk, h⟩ := h
  refine j_callV hE rfl cl_L_73 cf_12 im_X11_feed se_X11_feed ⟨by omega, by omega⟩ (As := [.int (z_x Z (l4 + (1 : Int32)).toNatClampNeg), .int (z_x Z (l4 + (2 : Int32)).toNatClampNeg), .int (z_x Z (l4 + (3 : Int32)).toNatClampNeg), .int (z_x Z (l4 + (4 : Int32)).toNatClampNeg), .int (z_x Z (l4 + (5 : Int32)).toNatClampNeg)]) (rest := [.int x2]) rfl rfl (Nat.le_of_ble_eq_true rfl) hk (by decide +kernel : decode cL_law 800 = .ok (.invokevirtual 73, 3)) (mt_M_feed _ _ _ _ _ _ _ _ h) ?_
  rintro _ g3 ⟨x4, rfl, h⟩
  refine j_icmp_eq hE (by decide +kernel : decode cL_law 803 = .ok (.if_icmp .eq 1131, 3)) (tgt := 1934) (by decide) (fun q => ?_) (fun q => ?_)
  · replace h := h.1 q
    exact S_LAW_law_1934 hsc hl hE hK23 _ _ _ _ _ _ h
  · replace h := h.2 q
    refine j_iconst hE (by decide +kernel : decode cL_law 806 = .ok (.iconst 0, 1)) (v := (0 : Int32)) (by decide) ?_
    exact j_zret hE (Or.inl rfl) (by decide +kernel : decode cL_law 807 = .ok (.ireturn, 1)) ⟨_, rfl, h⟩
set_option maxRecDepth 100000 in
def B_LAW_law_698 (Γ : GAM) (Z : SCRT) (K23 : Nat → Nat → Nat → Nat → Int32 → GH → Prop) (K : Int32 → GH → Prop) (l0 : Nat) (l1 : Nat) (l2 : Nat) (l3 : Nat) (l4 : Int32) (g : GH) : Prop :=
  l0 = z_b Z ∧ inB (l4 + (1 : Int32)) (z_n Z) ∧ l0 = z_b Z ∧ inB (l4 + (2 : Int32)) (z_n Z) ∧ Kd g l1 = 12 ∧ Sp_PV_booth Γ l1 (z_x Z (l4 + (1 : Int32)).toNatClampNeg) (z_x Z (l4 + (2 : Int32)).toNatClampNeg) g (fun (x2 : Int32) (g1 : GH) => l0 = z_b Z ∧ inB (l4 + (1 : Int32)) (z_n Z) ∧ l0 = z_b Z ∧ inB (l4 + (2 : Int32)) (z_n Z) ∧ Kd g1 l2 = 13 ∧ Sp_M_booth Γ l2 (z_x Z (l4 + (1 : Int32)).toNatClampNeg) (z_x Z (l4 + (2 : Int32)).toNatClampNeg) g1 (fun (x4 : Int32) (g3 : GH) => ((x2 = x4 → B_LAW_law_1934 Γ Z K23 K l0 l1 l2 l3 l4 g3) ∧ (¬ (x2 = x4) → K (0 : Int32) g3))))
set_option maxHeartbeats 4000000 in
set_option maxRecDepth 100000 in
theorem S_LAW_law_698 {Γ : GAM} {Z : SCRT} {E : EV} {K : Int32 → GH → Prop} (hsc : SCR Γ E Z) (hl : E.2.1.stackTraces = false) (hE : GE Γ E cL_law 7 RL (some (.boolean)) 2048 84000 (fun r g' => ∃ x, r = some (.int x) ∧ K x g')) {K23 : Nat → Nat → Nat → Nat → Int32 → GH → Prop} (hK23 : ∀ (l0 : Nat) (l1 : Nat) (l2 : Nat) (l3 : Nat) (l4 : Int32) (g : GH), K23 l0 l1 l2 l3 l4 g → JW Γ E 23 [some (.ref l0), some (.ref l1), some (.ref l2), some (.ref l3), some (.int l4), none, none] [] g) (l0 : Nat) (l1 : Nat) (l2 : Nat) (l3 : Nat) (l4 : Int32) (g : GH) (h : B_LAW_law_698 Γ Z K23 K l0 l1 l2 l3 l4 g) : JW Γ E 698 [some (.ref l0), some (.ref l1), some (.ref l2), some (.ref l3), some (.int l4), none, none] [] g := by
  unfold B_LAW_law_698 at h
  refine j_aload_n hE (by decide +kernel : decode cL_law 698 = .ok (.aload_n 1, 1)) rfl rfl ?_
  refine j_aload_n hE (by decide +kernel : decode cL_law 699 = .ok (.aload_n 0, 1)) rfl rfl ?_
  refine j_iload hE (by decide +kernel : decode cL_law 700 = .ok (.iload 4, 2)) rfl ?_
  refine j_iconst hE (by decide +kernel : decode cL_law 702 = .ok (.iconst 1, 1)) (v := (1 : Int32)) (by decide) ?_
  refine j_iadd hE (by decide +kernel : decode cL_law 703 = .ok (.iadd, 1)) ?_
  obtain ⟨hk, hb, h⟩ := h
  refine j_scr hE hsc hk hb (by decide +kernel : decode cL_law 704 = .ok (.iaload, 1)) ?_
  refine j_aload_n hE (by decide +kernel : decode cL_law 705 = .ok (.aload_n 0, 1)) rfl rfl ?_
  refine j_iload hE (by decide +kernel : decode cL_law 706 = .ok (.iload 4, 2)) rfl ?_
  refine j_iconst hE (by decide +kernel : decode cL_law 708 = .ok (.iconst 2, 1)) (v := (2 : Int32)) (by decide) ?_
  refine j_iadd hE (by decide +kernel : decode cL_law 709 = .ok (.iadd, 1)) ?_
  obtain ⟨hk, hb, h⟩ := h
  refine j_scr hE hsc hk hb (by decide +kernel : decode cL_law 710 = .ok (.iaload, 1)) ?_
  obtain ⟨hk, h⟩ := h
  refine j_callV hE rfl cl_L_65 cf_11 im_X10_booth se_X10_booth ⟨by omega, by omega⟩ (As := [.int (z_x Z (l4 + (1 : Int32)).toNatClampNeg), .int (z_x Z (l4 + (2 : Int32)).toNatClampNeg)]) (rest := []) rfl rfl (Nat.le_of_ble_eq_true rfl) hk (by decide +kernel : decode cL_law 711 = .ok (.invokevirtual 65, 3)) (mt_PV_booth _ _ _ _ _ h) ?_
  rintro _ g1 ⟨x2, rfl, h⟩
  refine j_aload_n hE (by decide +kernel : decode cL_law 714 = .ok (.aload_n 2, 1)) rfl rfl ?_
  refine j_aload_n hE (by decide +kernel : decode cL_law 715 = .ok (.aload_n 0, 1)) rfl rfl ?_
  refine j_iload hE (by decide +kernel : decode cL_law 716 = .ok (.iload 4, 2)) rfl ?_
  refine j_iconst hE (by decide +kernel : decode cL_law 718 = .ok (.iconst 1, 1)) (v := (1 : Int32)) (by decide) ?_
  refine j_iadd hE (by decide +kernel : decode cL_law 719 = .ok (.iadd, 1)) ?_
  obtain ⟨hk, hb, h⟩ := h
  refine j_scr hE hsc hk hb (by decide +kernel : decode cL_law 720 = .ok (.iaload, 1)) ?_
  refine j_aload_n hE (by decide +kernel : decode cL_law 721 = .ok (.aload_n 0, 1)) rfl rfl ?_
  refine j_iload hE (by decide +kernel : decode cL_law 722 = .ok (.iload 4, 2)) rfl ?_
  refine j_iconst hE (by decide +kernel : decode cL_law 724 = .ok (.iconst 2, 1)) (v := (2 : Int32)) (by decide) ?_
  refine j_iadd hE (by decide +kernel : decode cL_law 725 = .ok (.iadd, 1)) ?_
  obtain ⟨hk, hb, h⟩ := h
  refine j_scr hE hsc hk hb (by decide +kernel : decode cL_law 726 = .ok (.iaload, 1)) ?_
  obtain ⟨hk, h⟩ := h
  refine j_callV hE rfl cl_L_68 cf_12 im_X11_booth se_X11_booth ⟨by omega, by omega⟩ (As := [.int (z_x Z (l4 + (1 : Int32)).toNatClampNeg), .int (z_x Z (l4 + (2 : Int32)).toNatClampNeg)]) (rest := [.int x2]) rfl rfl (Nat.le_of_ble_eq_true rfl) hk (by decide +kernel : decode cL_law 727 = .ok (.invokevirtual 68, 3)) (mt_M_booth _ _ _ _ _ h) ?_
  rintro _ g3 ⟨x4, rfl, h⟩
  refine j_icmp_eq hE (by decide +kernel : decode cL_law 730 = .ok (.if_icmp .eq 1204, 3)) (tgt := 1934) (by decide) (fun q => ?_) (fun q => ?_)
  · replace h := h.1 q
    exact S_LAW_law_1934 hsc hl hE hK23 _ _ _ _ _ _ h
  · replace h := h.2 q
    refine j_iconst hE (by decide +kernel : decode cL_law 733 = .ok (.iconst 0, 1)) (v := (0 : Int32)) (by decide) ?_
    exact j_zret hE (Or.inl rfl) (by decide +kernel : decode cL_law 734 = .ok (.ireturn, 1)) ⟨_, rfl, h⟩
set_option maxRecDepth 100000 in
def B_LAW_law_690 (Γ : GAM) (Z : SCRT) (K23 : Nat → Nat → Nat → Nat → Int32 → GH → Prop) (K : Int32 → GH → Prop) (l0 : Nat) (l1 : Nat) (l2 : Nat) (l3 : Nat) (l4 : Int32) (s0 : Int32) (s1 : Int32) (s2 : Int32) (s3 : Nat) (s4 : Int32) (g : GH) : Prop :=
  Kd g s3 = 13 ∧ Sp_M_hand Γ s3 s2 s1 s0 g (fun (x2 : Int32) (g1 : GH) => ((s4 = x2 → B_LAW_law_1934 Γ Z K23 K l0 l1 l2 l3 l4 g1) ∧ (¬ (s4 = x2) → K (0 : Int32) g1)))
set_option maxHeartbeats 4000000 in
set_option maxRecDepth 100000 in
theorem S_LAW_law_690 {Γ : GAM} {Z : SCRT} {E : EV} {K : Int32 → GH → Prop} (hsc : SCR Γ E Z) (hl : E.2.1.stackTraces = false) (hE : GE Γ E cL_law 7 RL (some (.boolean)) 2048 84000 (fun r g' => ∃ x, r = some (.int x) ∧ K x g')) {K23 : Nat → Nat → Nat → Nat → Int32 → GH → Prop} (hK23 : ∀ (l0 : Nat) (l1 : Nat) (l2 : Nat) (l3 : Nat) (l4 : Int32) (g : GH), K23 l0 l1 l2 l3 l4 g → JW Γ E 23 [some (.ref l0), some (.ref l1), some (.ref l2), some (.ref l3), some (.int l4), none, none] [] g) (l0 : Nat) (l1 : Nat) (l2 : Nat) (l3 : Nat) (l4 : Int32) (s0 : Int32) (s1 : Int32) (s2 : Int32) (s3 : Nat) (s4 : Int32) (g : GH) (h : B_LAW_law_690 Γ Z K23 K l0 l1 l2 l3 l4 s0 s1 s2 s3 s4 g) : JW Γ E 690 [some (.ref l0), some (.ref l1), some (.ref l2), some (.ref l3), some (.int l4), none, none] [.int s0, .int s1, .int s2, .ref s3, .int s4] g := by
  unfold B_LAW_law_690 at h
  obtain ⟨hk, h⟩ := h
  refine j_callV hE rfl cl_L_64 cf_12 im_X11_hand se_X11_hand ⟨by omega, by omega⟩ (As := [.int s2, .int s1, .int s0]) (rest := [.int s4]) rfl rfl (Nat.le_of_ble_eq_true rfl) hk (by decide +kernel : decode cL_law 690 = .ok (.invokevirtual 64, 3)) (mt_M_hand _ _ _ _ _ _ h) ?_
  rintro _ g1 ⟨x2, rfl, h⟩
  refine j_icmp_eq hE (by decide +kernel : decode cL_law 693 = .ok (.if_icmp .eq 1241, 3)) (tgt := 1934) (by decide) (fun q => ?_) (fun q => ?_)
  · replace h := h.1 q
    exact S_LAW_law_1934 hsc hl hE hK23 _ _ _ _ _ _ h
  · replace h := h.2 q
    refine j_iconst hE (by decide +kernel : decode cL_law 696 = .ok (.iconst 0, 1)) (v := (0 : Int32)) (by decide) ?_
    exact j_zret hE (Or.inl rfl) (by decide +kernel : decode cL_law 697 = .ok (.ireturn, 1)) ⟨_, rfl, h⟩
set_option maxRecDepth 100000 in
def B_LAW_law_660 (Γ : GAM) (Z : SCRT) (K23 : Nat → Nat → Nat → Nat → Int32 → GH → Prop) (K : Int32 → GH → Prop) (l0 : Nat) (l1 : Nat) (l2 : Nat) (l3 : Nat) (l4 : Int32) (s0 : Int32) (s1 : Int32) (s2 : Int32) (s3 : Nat) (g : GH) : Prop :=
  Kd g s3 = 12 ∧ Sp_PV_hand Γ s3 s2 s1 s0 g (fun (x2 : Int32) (g1 : GH) => l0 = z_b Z ∧ inB (l4 + (1 : Int32)) (z_n Z) ∧ l0 = z_b Z ∧ inB (l4 + (2 : Int32)) (z_n Z) ∧ l0 = z_b Z ∧ inB (l4 + (3 : Int32)) (z_n Z) ∧ (((z_x Z (l4 + (3 : Int32)).toNatClampNeg) = 0 → B_LAW_law_690 Γ Z K23 K l0 l1 l2 l3 l4 (0 : Int32) (z_x Z (l4 + (2 : Int32)).toNatClampNeg) (z_x Z (l4 + (1 : Int32)).toNatClampNeg) l2 x2 g1) ∧ (¬ ((z_x Z (l4 + (3 : Int32)).toNatClampNeg) = 0) → B_LAW_law_690 Γ Z K23 K l0 l1 l2 l3 l4 (1 : Int32) (z_x Z (l4 + (2 : Int32)).toNatClampNeg) (z_x Z (l4 + (1 : Int32)).toNatClampNeg) l2 x2 g1)))
set_option maxHeartbeats 4000000 in
set_option maxRecDepth 100000 in
theorem S_LAW_law_660 {Γ : GAM} {Z : SCRT} {E : EV} {K : Int32 → GH → Prop} (hsc : SCR Γ E Z) (hl : E.2.1.stackTraces = false) (hE : GE Γ E cL_law 7 RL (some (.boolean)) 2048 84000 (fun r g' => ∃ x, r = some (.int x) ∧ K x g')) {K23 : Nat → Nat → Nat → Nat → Int32 → GH → Prop} (hK23 : ∀ (l0 : Nat) (l1 : Nat) (l2 : Nat) (l3 : Nat) (l4 : Int32) (g : GH), K23 l0 l1 l2 l3 l4 g → JW Γ E 23 [some (.ref l0), some (.ref l1), some (.ref l2), some (.ref l3), some (.int l4), none, none] [] g) (l0 : Nat) (l1 : Nat) (l2 : Nat) (l3 : Nat) (l4 : Int32) (s0 : Int32) (s1 : Int32) (s2 : Int32) (s3 : Nat) (g : GH) (h : B_LAW_law_660 Γ Z K23 K l0 l1 l2 l3 l4 s0 s1 s2 s3 g) : JW Γ E 660 [some (.ref l0), some (.ref l1), some (.ref l2), some (.ref l3), some (.int l4), none, none] [.int s0, .int s1, .int s2, .ref s3] g := by
  unfold B_LAW_law_660 at h
  obtain ⟨hk, h⟩ := h
  refine j_callV hE rfl cl_L_60 cf_11 im_X10_hand se_X10_hand ⟨by omega, by omega⟩ (As := [.int s2, .int s1, .int s0]) (rest := []) rfl rfl (Nat.le_of_ble_eq_true rfl) hk (by decide +kernel : decode cL_law 660 = .ok (.invokevirtual 60, 3)) (mt_PV_hand _ _ _ _ _ _ h) ?_
  rintro _ g1 ⟨x2, rfl, h⟩
  refine j_aload_n hE (by decide +kernel : decode cL_law 663 = .ok (.aload_n 2, 1)) rfl rfl ?_
  refine j_aload_n hE (by decide +kernel : decode cL_law 664 = .ok (.aload_n 0, 1)) rfl rfl ?_
  refine j_iload hE (by decide +kernel : decode cL_law 665 = .ok (.iload 4, 2)) rfl ?_
  refine j_iconst hE (by decide +kernel : decode cL_law 667 = .ok (.iconst 1, 1)) (v := (1 : Int32)) (by decide) ?_
  refine j_iadd hE (by decide +kernel : decode cL_law 668 = .ok (.iadd, 1)) ?_
  obtain ⟨hk, hb, h⟩ := h
  refine j_scr hE hsc hk hb (by decide +kernel : decode cL_law 669 = .ok (.iaload, 1)) ?_
  refine j_aload_n hE (by decide +kernel : decode cL_law 670 = .ok (.aload_n 0, 1)) rfl rfl ?_
  refine j_iload hE (by decide +kernel : decode cL_law 671 = .ok (.iload 4, 2)) rfl ?_
  refine j_iconst hE (by decide +kernel : decode cL_law 673 = .ok (.iconst 2, 1)) (v := (2 : Int32)) (by decide) ?_
  refine j_iadd hE (by decide +kernel : decode cL_law 674 = .ok (.iadd, 1)) ?_
  obtain ⟨hk, hb, h⟩ := h
  refine j_scr hE hsc hk hb (by decide +kernel : decode cL_law 675 = .ok (.iaload, 1)) ?_
  refine j_aload_n hE (by decide +kernel : decode cL_law 676 = .ok (.aload_n 0, 1)) rfl rfl ?_
  refine j_iload hE (by decide +kernel : decode cL_law 677 = .ok (.iload 4, 2)) rfl ?_
  refine j_iconst hE (by decide +kernel : decode cL_law 679 = .ok (.iconst 3, 1)) (v := (3 : Int32)) (by decide) ?_
  refine j_iadd hE (by decide +kernel : decode cL_law 680 = .ok (.iadd, 1)) ?_
  obtain ⟨hk, hb, h⟩ := h
  refine j_scr hE hsc hk hb (by decide +kernel : decode cL_law 681 = .ok (.iaload, 1)) ?_
  refine j_if_eq hE (by decide +kernel : decode cL_law 682 = .ok (.ifCond .eq 7, 3)) (tgt := 689) (by decide) (fun q => ?_) (fun q => ?_)
  · replace h := h.1 q
    refine j_iconst hE (by decide +kernel : decode cL_law 689 = .ok (.iconst 0, 1)) (v := (0 : Int32)) (by decide) ?_
    exact S_LAW_law_690 hsc hl hE hK23 _ _ _ _ _ _ _ _ _ _ _ h
  · replace h := h.2 q
    refine j_iconst hE (by decide +kernel : decode cL_law 685 = .ok (.iconst 1, 1)) (v := (1 : Int32)) (by decide) ?_
    refine j_goto hE (by decide +kernel : decode cL_law 686 = .ok (.goto 4, 3)) (tgt := 690) (by decide) ?_
    exact S_LAW_law_690 hsc hl hE hK23 _ _ _ _ _ _ _ _ _ _ _ h
set_option maxRecDepth 100000 in
def B_LAW_law_633 (Γ : GAM) (Z : SCRT) (K23 : Nat → Nat → Nat → Nat → Int32 → GH → Prop) (K : Int32 → GH → Prop) (l0 : Nat) (l1 : Nat) (l2 : Nat) (l3 : Nat) (l4 : Int32) (g : GH) : Prop :=
  l0 = z_b Z ∧ inB (l4 + (1 : Int32)) (z_n Z) ∧ l0 = z_b Z ∧ inB (l4 + (2 : Int32)) (z_n Z) ∧ l0 = z_b Z ∧ inB (l4 + (3 : Int32)) (z_n Z) ∧ (((z_x Z (l4 + (3 : Int32)).toNatClampNeg) = 0 → B_LAW_law_660 Γ Z K23 K l0 l1 l2 l3 l4 (0 : Int32) (z_x Z (l4 + (2 : Int32)).toNatClampNeg) (z_x Z (l4 + (1 : Int32)).toNatClampNeg) l1 g) ∧ (¬ ((z_x Z (l4 + (3 : Int32)).toNatClampNeg) = 0) → B_LAW_law_660 Γ Z K23 K l0 l1 l2 l3 l4 (1 : Int32) (z_x Z (l4 + (2 : Int32)).toNatClampNeg) (z_x Z (l4 + (1 : Int32)).toNatClampNeg) l1 g))
set_option maxHeartbeats 4000000 in
set_option maxRecDepth 100000 in
theorem S_LAW_law_633 {Γ : GAM} {Z : SCRT} {E : EV} {K : Int32 → GH → Prop} (hsc : SCR Γ E Z) (hl : E.2.1.stackTraces = false) (hE : GE Γ E cL_law 7 RL (some (.boolean)) 2048 84000 (fun r g' => ∃ x, r = some (.int x) ∧ K x g')) {K23 : Nat → Nat → Nat → Nat → Int32 → GH → Prop} (hK23 : ∀ (l0 : Nat) (l1 : Nat) (l2 : Nat) (l3 : Nat) (l4 : Int32) (g : GH), K23 l0 l1 l2 l3 l4 g → JW Γ E 23 [some (.ref l0), some (.ref l1), some (.ref l2), some (.ref l3), some (.int l4), none, none] [] g) (l0 : Nat) (l1 : Nat) (l2 : Nat) (l3 : Nat) (l4 : Int32) (g : GH) (h : B_LAW_law_633 Γ Z K23 K l0 l1 l2 l3 l4 g) : JW Γ E 633 [some (.ref l0), some (.ref l1), some (.ref l2), some (.ref l3), some (.int l4), none, none] [] g := by
  unfold B_LAW_law_633 at h
  refine j_aload_n hE (by decide +kernel : decode cL_law 633 = .ok (.aload_n 1, 1)) rfl rfl ?_
  refine j_aload_n hE (by decide +kernel : decode cL_law 634 = .ok (.aload_n 0, 1)) rfl rfl ?_
  refine j_iload hE (by decide +kernel : decode cL_law 635 = .ok (.iload 4, 2)) rfl ?_
  refine j_iconst hE (by decide +kernel : decode cL_law 637 = .ok (.iconst 1, 1)) (v := (1 : Int32)) (by decide) ?_
  refine j_iadd hE (by decide +kernel : decode cL_law 638 = .ok (.iadd, 1)) ?_
  obtain ⟨hk, hb, h⟩ := h
  refine j_scr hE hsc hk hb (by decide +kernel : decode cL_law 639 = .ok (.iaload, 1)) ?_
  refine j_aload_n hE (by decide +kernel : decode cL_law 640 = .ok (.aload_n 0, 1)) rfl rfl ?_
  refine j_iload hE (by decide +kernel : decode cL_law 641 = .ok (.iload 4, 2)) rfl ?_
  refine j_iconst hE (by decide +kernel : decode cL_law 643 = .ok (.iconst 2, 1)) (v := (2 : Int32)) (by decide) ?_
  refine j_iadd hE (by decide +kernel : decode cL_law 644 = .ok (.iadd, 1)) ?_
  obtain ⟨hk, hb, h⟩ := h
  refine j_scr hE hsc hk hb (by decide +kernel : decode cL_law 645 = .ok (.iaload, 1)) ?_
  refine j_aload_n hE (by decide +kernel : decode cL_law 646 = .ok (.aload_n 0, 1)) rfl rfl ?_
  refine j_iload hE (by decide +kernel : decode cL_law 647 = .ok (.iload 4, 2)) rfl ?_
  refine j_iconst hE (by decide +kernel : decode cL_law 649 = .ok (.iconst 3, 1)) (v := (3 : Int32)) (by decide) ?_
  refine j_iadd hE (by decide +kernel : decode cL_law 650 = .ok (.iadd, 1)) ?_
  obtain ⟨hk, hb, h⟩ := h
  refine j_scr hE hsc hk hb (by decide +kernel : decode cL_law 651 = .ok (.iaload, 1)) ?_
  refine j_if_eq hE (by decide +kernel : decode cL_law 652 = .ok (.ifCond .eq 7, 3)) (tgt := 659) (by decide) (fun q => ?_) (fun q => ?_)
  · replace h := h.1 q
    refine j_iconst hE (by decide +kernel : decode cL_law 659 = .ok (.iconst 0, 1)) (v := (0 : Int32)) (by decide) ?_
    exact S_LAW_law_660 hsc hl hE hK23 _ _ _ _ _ _ _ _ _ _ h
  · replace h := h.2 q
    refine j_iconst hE (by decide +kernel : decode cL_law 655 = .ok (.iconst 1, 1)) (v := (1 : Int32)) (by decide) ?_
    refine j_goto hE (by decide +kernel : decode cL_law 656 = .ok (.goto 4, 3)) (tgt := 660) (by decide) ?_
    exact S_LAW_law_660 hsc hl hE hK23 _ _ _ _ _ _ _ _ _ _ h
set_option maxRecDepth 100000 in
def B_LAW_law_596 (Γ : GAM) (Z : SCRT) (K23 : Nat → Nat → Nat → Nat → Int32 → GH → Prop) (K : Int32 → GH → Prop) (l0 : Nat) (l1 : Nat) (l2 : Nat) (l3 : Nat) (l4 : Int32) (g : GH) : Prop :=
  l0 = z_b Z ∧ inB (l4 + (1 : Int32)) (z_n Z) ∧ l0 = z_b Z ∧ inB (l4 + (2 : Int32)) (z_n Z) ∧ Kd g l1 = 12 ∧ Sp_PV_read Γ l1 (z_x Z (l4 + (1 : Int32)).toNatClampNeg) (z_x Z (l4 + (2 : Int32)).toNatClampNeg) g (fun (x2 : Int32) (g1 : GH) => l0 = z_b Z ∧ inB (l4 + (1 : Int32)) (z_n Z) ∧ l0 = z_b Z ∧ inB (l4 + (2 : Int32)) (z_n Z) ∧ Kd g1 l2 = 13 ∧ Sp_M_read Γ l2 (z_x Z (l4 + (1 : Int32)).toNatClampNeg) (z_x Z (l4 + (2 : Int32)).toNatClampNeg) g1 (fun (x4 : Int32) (g3 : GH) => ((x2 = x4 → B_LAW_law_1934 Γ Z K23 K l0 l1 l2 l3 l4 g3) ∧ (¬ (x2 = x4) → K (0 : Int32) g3))))
set_option maxHeartbeats 4000000 in
set_option maxRecDepth 100000 in
theorem S_LAW_law_596 {Γ : GAM} {Z : SCRT} {E : EV} {K : Int32 → GH → Prop} (hsc : SCR Γ E Z) (hl : E.2.1.stackTraces = false) (hE : GE Γ E cL_law 7 RL (some (.boolean)) 2048 84000 (fun r g' => ∃ x, r = some (.int x) ∧ K x g')) {K23 : Nat → Nat → Nat → Nat → Int32 → GH → Prop} (hK23 : ∀ (l0 : Nat) (l1 : Nat) (l2 : Nat) (l3 : Nat) (l4 : Int32) (g : GH), K23 l0 l1 l2 l3 l4 g → JW Γ E 23 [some (.ref l0), some (.ref l1), some (.ref l2), some (.ref l3), some (.int l4), none, none] [] g) (l0 : Nat) (l1 : Nat) (l2 : Nat) (l3 : Nat) (l4 : Int32) (g : GH) (h : B_LAW_law_596 Γ Z K23 K l0 l1 l2 l3 l4 g) : JW Γ E 596 [some (.ref l0), some (.ref l1), some (.ref l2), some (.ref l3), some (.int l4), none, none] [] g := by
  unfold B_LAW_law_596 at h
  refine j_aload_n hE (by decide +kernel : decode cL_law 596 = .ok (.aload_n 1, 1)) rfl rfl ?_
  refine j_aload_n hE (by decide +kernel : decode cL_law 597 = .ok (.aload_n 0, 1)) rfl rfl ?_
  refine j_iload hE (by decide +kernel : decode cL_law 598 = .ok (.iload 4, 2)) rfl ?_
  refine j_iconst hE (by decide +kernel : decode cL_law 600 = .ok (.iconst 1, 1)) (v := (1 : Int32)) (by decide) ?_
  refine j_iadd hE (by decide +kernel : decode cL_law 601 = .ok (.iadd, 1)) ?_
  obtain ⟨hk, hb, h⟩ := h
  refine j_scr hE hsc hk hb (by decide +kernel : decode cL_law 602 = .ok (.iaload, 1)) ?_
  refine j_aload_n hE (by decide +kernel : decode cL_law 603 = .ok (.aload_n 0, 1)) rfl rfl ?_
  refine j_iload hE (by decide +kernel : decode cL_law 604 = .ok (.iload 4, 2)) rfl ?_
  refine j_iconst hE (by decide +kernel : decode cL_law 606 = .ok (.iconst 2, 1)) (v := (2 : Int32)) (by decide) ?_
  refine j_iadd hE (by decide +kernel : decode cL_law 607 = .ok (.iadd, 1)) ?_
  obtain ⟨hk, hb, h⟩ := h
  refine j_scr hE hsc hk hb (by decide +kernel : decode cL_law 608 = .ok (.iaload, 1)) ?_
  obtain ⟨hk, h⟩ := h
  refine j_callV hE rfl cl_L_55 cf_11 im_X10_read se_X10_read ⟨by omega, by omega⟩ (As := [.int (z_x Z (l4 + (1 : Int32)).toNatClampNeg), .int (z_x Z (l4 + (2 : Int32)).toNatClampNeg)]) (rest := []) rfl rfl (Nat.le_of_ble_eq_true rfl) hk (by decide +kernel : decode cL_law 609 = .ok (.invokevirtual 55, 3)) (mt_PV_read _ _ _ _ _ h) ?_
  rintro _ g1 ⟨x2, rfl, h⟩
  refine j_aload_n hE (by decide +kernel : decode cL_law 612 = .ok (.aload_n 2, 1)) rfl rfl ?_
  refine j_aload_n hE (by decide +kernel : decode cL_law 613 = .ok (.aload_n 0, 1)) rfl rfl ?_
  refine j_iload hE (by decide +kernel : decode cL_law 614 = .ok (.iload 4, 2)) rfl ?_
  refine j_iconst hE (by decide +kernel : decode cL_law 616 = .ok (.iconst 1, 1)) (v := (1 : Int32)) (by decide) ?_
  refine j_iadd hE (by decide +kernel : decode cL_law 617 = .ok (.iadd, 1)) ?_
  obtain ⟨hk, hb, h⟩ := h
  refine j_scr hE hsc hk hb (by decide +kernel : decode cL_law 618 = .ok (.iaload, 1)) ?_
  refine j_aload_n hE (by decide +kernel : decode cL_law 619 = .ok (.aload_n 0, 1)) rfl rfl ?_
  refine j_iload hE (by decide +kernel : decode cL_law 620 = .ok (.iload 4, 2)) rfl ?_
  refine j_iconst hE (by decide +kernel : decode cL_law 622 = .ok (.iconst 2, 1)) (v := (2 : Int32)) (by decide) ?_
  refine j_iadd hE (by decide +kernel : decode cL_law 623 = .ok (.iadd, 1)) ?_
  obtain ⟨hk, hb, h⟩ := h
  refine j_scr hE hsc hk hb (by decide +kernel : decode cL_law 624 = .ok (.iaload, 1)) ?_
  obtain ⟨hk, h⟩ := h
  refine j_callV hE rfl cl_L_59 cf_12 im_X11_read se_X11_read ⟨by omega, by omega⟩ (As := [.int (z_x Z (l4 + (1 : Int32)).toNatClampNeg), .int (z_x Z (l4 + (2 : Int32)).toNatClampNeg)]) (rest := [.int x2]) rfl rfl (Nat.le_of_ble_eq_true rfl) hk (by decide +kernel : decode cL_law 625 = .ok (.invokevirtual 59, 3)) (mt_M_read _ _ _ _ _ h) ?_
  rintro _ g3 ⟨x4, rfl, h⟩
  refine j_icmp_eq hE (by decide +kernel : decode cL_law 628 = .ok (.if_icmp .eq 1306, 3)) (tgt := 1934) (by decide) (fun q => ?_) (fun q => ?_)
  · replace h := h.1 q
    exact S_LAW_law_1934 hsc hl hE hK23 _ _ _ _ _ _ h
  · replace h := h.2 q
    refine j_iconst hE (by decide +kernel : decode cL_law 631 = .ok (.iconst 0, 1)) (v := (0 : Int32)) (by decide) ?_
    exact j_zret hE (Or.inl rfl) (by decide +kernel : decode cL_law 632 = .ok (.ireturn, 1)) ⟨_, rfl, h⟩
set_option maxRecDepth 100000 in
def B_LAW_law_559 (Γ : GAM) (Z : SCRT) (K23 : Nat → Nat → Nat → Nat → Int32 → GH → Prop) (K : Int32 → GH → Prop) (l0 : Nat) (l1 : Nat) (l2 : Nat) (l3 : Nat) (l4 : Int32) (g : GH) : Prop :=
  l0 = z_b Z ∧ inB (l4 + (1 : Int32)) (z_n Z) ∧ l0 = z_b Z ∧ inB (l4 + (2 : Int32)) (z_n Z) ∧ Kd g l1 = 12 ∧ Sp_PV_sealed Γ l1 (z_x Z (l4 + (1 : Int32)).toNatClampNeg) (z_x Z (l4 + (2 : Int32)).toNatClampNeg) g (fun (x2 : Int32) (g1 : GH) => l0 = z_b Z ∧ inB (l4 + (1 : Int32)) (z_n Z) ∧ l0 = z_b Z ∧ inB (l4 + (2 : Int32)) (z_n Z) ∧ Kd g1 l2 = 13 ∧ Sp_M_sealed Γ l2 (z_x Z (l4 + (1 : Int32)).toNatClampNeg) (z_x Z (l4 + (2 : Int32)).toNatClampNeg) g1 (fun (x4 : Int32) (g3 : GH) => ((x2 = x4 → B_LAW_law_1934 Γ Z K23 K l0 l1 l2 l3 l4 g3) ∧ (¬ (x2 = x4) → K (0 : Int32) g3))))
set_option maxHeartbeats 4000000 in
set_option maxRecDepth 100000 in
theorem S_LAW_law_559 {Γ : GAM} {Z : SCRT} {E : EV} {K : Int32 → GH → Prop} (hsc : SCR Γ E Z) (hl : E.2.1.stackTraces = false) (hE : GE Γ E cL_law 7 RL (some (.boolean)) 2048 84000 (fun r g' => ∃ x, r = some (.int x) ∧ K x g')) {K23 : Nat → Nat → Nat → Nat → Int32 → GH → Prop} (hK23 : ∀ (l0 : Nat) (l1 : Nat) (l2 : Nat) (l3 : Nat) (l4 : Int32) (g : GH), K23 l0 l1 l2 l3 l4 g → JW Γ E 23 [some (.ref l0), some (.ref l1), some (.ref l2), some (.ref l3), some (.int l4), none, none] [] g) (l0 : Nat) (l1 : Nat) (l2 : Nat) (l3 : Nat) (l4 : Int32) (g : GH) (h : B_LAW_law_559 Γ Z K23 K l0 l1 l2 l3 l4 g) : JW Γ E 559 [some (.ref l0), some (.ref l1), some (.ref l2), some (.ref l3), some (.int l4), none, none] [] g := by
  unfold B_LAW_law_559 at h
  refine j_aload_n hE (by decide +kernel : decode cL_law 559 = .ok (.aload_n 1, 1)) rfl rfl ?_
  refine j_aload_n hE (by decide +kernel : decode cL_law 560 = .ok (.aload_n 0, 1)) rfl rfl ?_
  refine j_iload hE (by decide +kernel : decode cL_law 561 = .ok (.iload 4, 2)) rfl ?_
  refine j_iconst hE (by decide +kernel : decode cL_law 563 = .ok (.iconst 1, 1)) (v := (1 : Int32)) (by decide) ?_
  refine j_iadd hE (by decide +kernel : decode cL_law 564 = .ok (.iadd, 1)) ?_
  obtain ⟨hk, hb, h⟩ := h
  refine j_scr hE hsc hk hb (by decide +kernel : decode cL_law 565 = .ok (.iaload, 1)) ?_
  refine j_aload_n hE (by decide +kernel : decode cL_law 566 = .ok (.aload_n 0, 1)) rfl rfl ?_
  refine j_iload hE (by decide +kernel : decode cL_law 567 = .ok (.iload 4, 2)) rfl ?_
  refine j_iconst hE (by decide +kernel : decode cL_law 569 = .ok (.iconst 2, 1)) (v := (2 : Int32)) (by decide) ?_
  refine j_iadd hE (by decide +kernel : decode cL_law 570 = .ok (.iadd, 1)) ?_
  obtain ⟨hk, hb, h⟩ := h
  refine j_scr hE hsc hk hb (by decide +kernel : decode cL_law 571 = .ok (.iaload, 1)) ?_
  obtain ⟨hk, h⟩ := h
  refine j_callV hE rfl cl_L_50 cf_11 im_X10_sealed se_X10_sealed ⟨by omega, by omega⟩ (As := [.int (z_x Z (l4 + (1 : Int32)).toNatClampNeg), .int (z_x Z (l4 + (2 : Int32)).toNatClampNeg)]) (rest := []) rfl rfl (Nat.le_of_ble_eq_true rfl) hk (by decide +kernel : decode cL_law 572 = .ok (.invokevirtual 50, 3)) (mt_PV_sealed _ _ _ _ _ h) ?_
  rintro _ g1 ⟨x2, rfl, h⟩
  refine j_aload_n hE (by decide +kernel : decode cL_law 575 = .ok (.aload_n 2, 1)) rfl rfl ?_
  refine j_aload_n hE (by decide +kernel : decode cL_law 576 = .ok (.aload_n 0, 1)) rfl rfl ?_
  refine j_iload hE (by decide +kernel : decode cL_law 577 = .ok (.iload 4, 2)) rfl ?_
  refine j_iconst hE (by decide +kernel : decode cL_law 579 = .ok (.iconst 1, 1)) (v := (1 : Int32)) (by decide) ?_
  refine j_iadd hE (by decide +kernel : decode cL_law 580 = .ok (.iadd, 1)) ?_
  obtain ⟨hk, hb, h⟩ := h
  refine j_scr hE hsc hk hb (by decide +kernel : decode cL_law 581 = .ok (.iaload, 1)) ?_
  refine j_aload_n hE (by decide +kernel : decode cL_law 582 = .ok (.aload_n 0, 1)) rfl rfl ?_
  refine j_iload hE (by decide +kernel : decode cL_law 583 = .ok (.iload 4, 2)) rfl ?_
  refine j_iconst hE (by decide +kernel : decode cL_law 585 = .ok (.iconst 2, 1)) (v := (2 : Int32)) (by decide) ?_
  refine j_iadd hE (by decide +kernel : decode cL_law 586 = .ok (.iadd, 1)) ?_
  obtain ⟨hk, hb, h⟩ := h
  refine j_scr hE hsc hk hb (by decide +kernel : decode cL_law 587 = .ok (.iaload, 1)) ?_
  obtain ⟨hk, h⟩ := h
  refine j_callV hE rfl cl_L_54 cf_12 im_X11_sealed se_X11_sealed ⟨by omega, by omega⟩ (As := [.int (z_x Z (l4 + (1 : Int32)).toNatClampNeg), .int (z_x Z (l4 + (2 : Int32)).toNatClampNeg)]) (rest := [.int x2]) rfl rfl (Nat.le_of_ble_eq_true rfl) hk (by decide +kernel : decode cL_law 588 = .ok (.invokevirtual 54, 3)) (mt_M_sealed _ _ _ _ _ h) ?_
  rintro _ g3 ⟨x4, rfl, h⟩
  refine j_icmp_eq hE (by decide +kernel : decode cL_law 591 = .ok (.if_icmp .eq 1343, 3)) (tgt := 1934) (by decide) (fun q => ?_) (fun q => ?_)
  · replace h := h.1 q
    exact S_LAW_law_1934 hsc hl hE hK23 _ _ _ _ _ _ h
  · replace h := h.2 q
    refine j_iconst hE (by decide +kernel : decode cL_law 594 = .ok (.iconst 0, 1)) (v := (0 : Int32)) (by decide) ?_
    exact j_zret hE (Or.inl rfl) (by decide +kernel : decode cL_law 595 = .ok (.ireturn, 1)) ⟨_, rfl, h⟩
set_option maxRecDepth 100000 in
def B_LAW_law_510 (Γ : GAM) (Z : SCRT) (K23 : Nat → Nat → Nat → Nat → Int32 → GH → Prop) (K : Int32 → GH → Prop) (l0 : Nat) (l1 : Nat) (l2 : Nat) (l3 : Nat) (l4 : Int32) (g : GH) : Prop :=
  l0 = z_b Z ∧ inB (l4 + (1 : Int32)) (z_n Z) ∧ l0 = z_b Z ∧ inB (l4 + (2 : Int32)) (z_n Z) ∧ l0 = z_b Z ∧ inB (l4 + (3 : Int32)) (z_n Z) ∧ Kd g l1 = 12 ∧ Sp_PV_empty Γ l1 (z_x Z (l4 + (1 : Int32)).toNatClampNeg) (z_x Z (l4 + (2 : Int32)).toNatClampNeg) (z_x Z (l4 + (3 : Int32)).toNatClampNeg) g (fun (x2 : Int32) (g1 : GH) => l0 = z_b Z ∧ inB (l4 + (1 : Int32)) (z_n Z) ∧ l0 = z_b Z ∧ inB (l4 + (2 : Int32)) (z_n Z) ∧ l0 = z_b Z ∧ inB (l4 + (3 : Int32)) (z_n Z) ∧ Kd g1 l2 = 13 ∧ Sp_M_empty Γ l2 (z_x Z (l4 + (1 : Int32)).toNatClampNeg) (z_x Z (l4 + (2 : Int32)).toNatClampNeg) (z_x Z (l4 + (3 : Int32)).toNatClampNeg) g1 (fun (x4 : Int32) (g3 : GH) => ((x2 = x4 → B_LAW_law_1934 Γ Z K23 K l0 l1 l2 l3 l4 g3) ∧ (¬ (x2 = x4) → K (0 : Int32) g3))))
set_option maxHeartbeats 4000000 in
set_option maxRecDepth 100000 in
theorem S_LAW_law_510 {Γ : GAM} {Z : SCRT} {E : EV} {K : Int32 → GH → Prop} (hsc : SCR Γ E Z) (hl : E.2.1.stackTraces = false) (hE : GE Γ E cL_law 7 RL (some (.boolean)) 2048 84000 (fun r g' => ∃ x, r = some (.int x) ∧ K x g')) {K23 : Nat → Nat → Nat → Nat → Int32 → GH → Prop} (hK23 : ∀ (l0 : Nat) (l1 : Nat) (l2 : Nat) (l3 : Nat) (l4 : Int32) (g : GH), K23 l0 l1 l2 l3 l4 g → JW Γ E 23 [some (.ref l0), some (.ref l1), some (.ref l2), some (.ref l3), some (.int l4), none, none] [] g) (l0 : Nat) (l1 : Nat) (l2 : Nat) (l3 : Nat) (l4 : Int32) (g : GH) (h : B_LAW_law_510 Γ Z K23 K l0 l1 l2 l3 l4 g) : JW Γ E 510 [some (.ref l0), some (.ref l1), some (.ref l2), some (.ref l3), some (.int l4), none, none] [] g := by
  unfold B_LAW_law_510 at h
  refine j_aload_n hE (by decide +kernel : decode cL_law 510 = .ok (.aload_n 1, 1)) rfl rfl ?_
  refine j_aload_n hE (by decide +kernel : decode cL_law 511 = .ok (.aload_n 0, 1)) rfl rfl ?_
  refine j_iload hE (by decide +kernel : decode cL_law 512 = .ok (.iload 4, 2)) rfl ?_
  refine j_iconst hE (by decide +kernel : decode cL_law 514 = .ok (.iconst 1, 1)) (v := (1 : Int32)) (by decide) ?_
  refine j_iadd hE (by decide +kernel : decode cL_law 515 = .ok (.iadd, 1)) ?_
  obtain ⟨hk, hb, h⟩ := h
  refine j_scr hE hsc hk hb (by decide +kernel : decode cL_law 516 = .ok (.iaload, 1)) ?_
  refine j_aload_n hE (by decide +kernel : decode cL_law 517 = .ok (.aload_n 0, 1)) rfl rfl ?_
  refine j_iload hE (by decide +kernel : decode cL_law 518 = .ok (.iload 4, 2)) rfl ?_
  refine j_iconst hE (by decide +kernel : decode cL_law 520 = .ok (.iconst 2, 1)) (v := (2 : Int32)) (by decide) ?_
  refine j_iadd hE (by decide +kernel : decode cL_law 521 = .ok (.iadd, 1)) ?_
  obtain ⟨hk, hb, h⟩ := h
  refine j_scr hE hsc hk hb (by decide +kernel : decode cL_law 522 = .ok (.iaload, 1)) ?_
  refine j_aload_n hE (by decide +kernel : decode cL_law 523 = .ok (.aload_n 0, 1)) rfl rfl ?_
  refine j_iload hE (by decide +kernel : decode cL_law 524 = .ok (.iload 4, 2)) rfl ?_
  refine j_iconst hE (by decide +kernel : decode cL_law 526 = .ok (.iconst 3, 1)) (v := (3 : Int32)) (by decide) ?_
  refine j_iadd hE (by decide +kernel : decode cL_law 527 = .ok (.iadd, 1)) ?_
  obtain ⟨hk, hb, h⟩ := h
  refine j_scr hE hsc hk hb (by decide +kernel : decode cL_law 528 = .ok (.iaload, 1)) ?_
  obtain ⟨hk, h⟩ := h
  refine j_callV hE rfl cl_L_46 cf_11 im_X10_empty se_X10_empty ⟨by omega, by omega⟩ (As := [.int (z_x Z (l4 + (1 : Int32)).toNatClampNeg), .int (z_x Z (l4 + (2 : Int32)).toNatClampNeg), .int (z_x Z (l4 + (3 : Int32)).toNatClampNeg)]) (rest := []) rfl rfl (Nat.le_of_ble_eq_true rfl) hk (by decide +kernel : decode cL_law 529 = .ok (.invokevirtual 46, 3)) (mt_PV_empty _ _ _ _ _ _ h) ?_
  rintro _ g1 ⟨x2, rfl, h⟩
  refine j_aload_n hE (by decide +kernel : decode cL_law 532 = .ok (.aload_n 2, 1)) rfl rfl ?_
  refine j_aload_n hE (by decide +kernel : decode cL_law 533 = .ok (.aload_n 0, 1)) rfl rfl ?_
  refine j_iload hE (by decide +kernel : decode cL_law 534 = .ok (.iload 4, 2)) rfl ?_
  refine j_iconst hE (by decide +kernel : decode cL_law 536 = .ok (.iconst 1, 1)) (v := (1 : Int32)) (by decide) ?_
  refine j_iadd hE (by decide +kernel : decode cL_law 537 = .ok (.iadd, 1)) ?_
  obtain ⟨hk, hb, h⟩ := h
  refine j_scr hE hsc hk hb (by decide +kernel : decode cL_law 538 = .ok (.iaload, 1)) ?_
  refine j_aload_n hE (by decide +kernel : decode cL_law 539 = .ok (.aload_n 0, 1)) rfl rfl ?_
  refine j_iload hE (by decide +kernel : decode cL_law 540 = .ok (.iload 4, 2)) rfl ?_
  refine j_iconst hE (by decide +kernel : decode cL_law 542 = .ok (.iconst 2, 1)) (v := (2 : Int32)) (by decide) ?_
  refine j_iadd hE (by decide +kernel : decode cL_law 543 = .ok (.iadd, 1)) ?_
  obtain ⟨hk, hb, h⟩ := h
  refine j_scr hE hsc hk hb (by decide +kernel : decode cL_law 544 = .ok (.iaload, 1)) ?_
  refine j_aload_n hE (by decide +kernel : decode cL_law 545 = .ok (.aload_n 0, 1)) rfl rfl ?_
  refine j_iload hE (by decide +kernel : decode cL_law 546 = .ok (.iload 4, 2)) rfl ?_
  refine j_iconst hE (by decide +kernel : decode cL_law 548 = .ok (.iconst 3, 1)) (v := (3 : Int32)) (by decide) ?_
  refine j_iadd hE (by decide +kernel : decode cL_law 549 = .ok (.iadd, 1)) ?_
  obtain ⟨hk, hb, h⟩ := h
  refine j_scr hE hsc hk hb (by decide +kernel : decode cL_law 550 = .ok (.iaload, 1)) ?_
  obtain ⟨hk, h⟩ := h
  refine j_callV hE rfl cl_L_49 cf_12 im_X11_empty se_X11_empty ⟨by omega, by omega⟩ (As := [.int (z_x Z (l4 + (1 : Int32)).toNatClampNeg), .int (z_x Z (l4 + (2 : Int32)).toNatClampNeg), .int (z_x Z (l4 + (3 : Int32)).toNatClampNeg)]) (rest := [.int x2]) rfl rfl (Nat.le_of_ble_eq_true rfl) hk (by decide +kernel : decode cL_law 551 = .ok (.invokevirtual 49, 3)) (mt_M_empty _ _ _ _ _ _ h) ?_
  rintro _ g3 ⟨x4, rfl, h⟩
  refine j_icmp_eq hE (by decide +kernel : decode cL_law 554 = .ok (.if_icmp .eq 1380, 3)) (tgt := 1934) (by decide) (fun q => ?_) (fun q => ?_)
  · replace h := h.1 q
    exact S_LAW_law_1934 hsc hl hE hK23 _ _ _ _ _ _ h
  · replace h := h.2 q
    refine j_iconst hE (by decide +kernel : decode cL_law 557 = .ok (.iconst 0, 1)) (v := (0 : Int32)) (by decide) ?_
    exact j_zret hE (Or.inl rfl) (by decide +kernel : decode cL_law 558 = .ok (.ireturn, 1)) ⟨_, rfl, h⟩
set_option maxRecDepth 100000 in
def B_LAW_law_449 (Γ : GAM) (Z : SCRT) (K23 : Nat → Nat → Nat → Nat → Int32 → GH → Prop) (K : Int32 → GH → Prop) (l0 : Nat) (l1 : Nat) (l2 : Nat) (l3 : Nat) (l4 : Int32) (g : GH) : Prop :=
  l0 = z_b Z ∧ inB (l4 + (1 : Int32)) (z_n Z) ∧ l0 = z_b Z ∧ inB (l4 + (2 : Int32)) (z_n Z) ∧ l0 = z_b Z ∧ inB (l4 + (3 : Int32)) (z_n Z) ∧ l0 = z_b Z ∧ inB (l4 + (4 : Int32)) (z_n Z) ∧ Kd g l1 = 12 ∧ Sp_PV_event Γ l1 (z_x Z (l4 + (1 : Int32)).toNatClampNeg) (z_x Z (l4 + (2 : Int32)).toNatClampNeg) (z_x Z (l4 + (3 : Int32)).toNatClampNeg) (z_x Z (l4 + (4 : Int32)).toNatClampNeg) g (fun (x2 : Int32) (g1 : GH) => l0 = z_b Z ∧ inB (l4 + (1 : Int32)) (z_n Z) ∧ l0 = z_b Z ∧ inB (l4 + (2 : Int32)) (z_n Z) ∧ l0 = z_b Z ∧ inB (l4 + (3 : Int32)) (z_n Z) ∧ l0 = z_b Z ∧ inB (l4 + (4 : Int32)) (z_n Z) ∧ Kd g1 l2 = 13 ∧ Sp_M_event Γ l2 (z_x Z (l4 + (1 : Int32)).toNatClampNeg) (z_x Z (l4 + (2 : Int32)).toNatClampNeg) (z_x Z (l4 + (3 : Int32)).toNatClampNeg) (z_x Z (l4 + (4 : Int32)).toNatClampNeg) g1 (fun (x4 : Int32) (g3 : GH) => ((x2 = x4 → B_LAW_law_1934 Γ Z K23 K l0 l1 l2 l3 l4 g3) ∧ (¬ (x2 = x4) → K (0 : Int32) g3))))
set_option maxHeartbeats 4000000 in
set_option maxRecDepth 100000 in
theorem S_LAW_law_449 {Γ : GAM} {Z : SCRT} {E : EV} {K : Int32 → GH → Prop} (hsc : SCR Γ E Z) (hl : E.2.1.stackTraces = false) (hE : GE Γ E cL_law 7 RL (some (.boolean)) 2048 84000 (fun r g' => ∃ x, r = some (.int x) ∧ K x g')) {K23 : Nat → Nat → Nat → Nat → Int32 → GH → Prop} (hK23 : ∀ (l0 : Nat) (l1 : Nat) (l2 : Nat) (l3 : Nat) (l4 : Int32) (g : GH), K23 l0 l1 l2 l3 l4 g → JW Γ E 23 [some (.ref l0), some (.ref l1), some (.ref l2), some (.ref l3), some (.int l4), none, none] [] g) (l0 : Nat) (l1 : Nat) (l2 : Nat) (l3 : Nat) (l4 : Int32) (g : GH) (h : B_LAW_law_449 Γ Z K23 K l0 l1 l2 l3 l4 g) : JW Γ E 449 [some (.ref l0), some (.ref l1), some (.ref l2), some (.ref l3), some (.int l4), none, none] [] g := by
  unfold B_LAW_law_449 at h
  refine j_aload_n hE (by decide +kernel : decode cL_law 449 = .ok (.aload_n 1, 1)) rfl rfl ?_
  refine j_aload_n hE (by decide +kernel : decode cL_law 450 = .ok (.aload_n 0, 1)) rfl rfl ?_
  refine j_iload hE (by decide +kernel : decode cL_law 451 = .ok (.iload 4, 2)) rfl ?_
  refine j_iconst hE (by decide +kernel : decode cL_law 453 = .ok (.iconst 1, 1)) (v := (1 : Int32)) (by decide) ?_
  refine j_iadd hE (by decide +kernel : decode cL_law 454 = .ok (.iadd, 1)) ?_
  obtain ⟨hk, hb, h⟩ := h
  refine j_scr hE hsc hk hb (by decide +kernel : decode cL_law 455 = .ok (.iaload, 1)) ?_
  refine j_aload_n hE (by decide +kernel : decode cL_law 456 = .ok (.aload_n 0, 1)) rfl rfl ?_
  refine j_iload hE (by decide +kernel : decode cL_law 457 = .ok (.iload 4, 2)) rfl ?_
  refine j_iconst hE (by decide +kernel : decode cL_law 459 = .ok (.iconst 2, 1)) (v := (2 : Int32)) (by decide) ?_
  refine j_iadd hE (by decide +kernel : decode cL_law 460 = .ok (.iadd, 1)) ?_
  obtain ⟨hk, hb, h⟩ := h
  refine j_scr hE hsc hk hb (by decide +kernel : decode cL_law 461 = .ok (.iaload, 1)) ?_
  refine j_aload_n hE (by decide +kernel : decode cL_law 462 = .ok (.aload_n 0, 1)) rfl rfl ?_
  refine j_iload hE (by decide +kernel : decode cL_law 463 = .ok (.iload 4, 2)) rfl ?_
  refine j_iconst hE (by decide +kernel : decode cL_law 465 = .ok (.iconst 3, 1)) (v := (3 : Int32)) (by decide) ?_
  refine j_iadd hE (by decide +kernel : decode cL_law 466 = .ok (.iadd, 1)) ?_
  obtain ⟨hk, hb, h⟩ := h
  refine j_scr hE hsc hk hb (by decide +kernel : decode cL_law 467 = .ok (.iaload, 1)) ?_
  refine j_aload_n hE (by decide +kernel : decode cL_law 468 = .ok (.aload_n 0, 1)) rfl rfl ?_
  refine j_iload hE (by decide +kernel : decode cL_law 469 = .ok (.iload 4, 2)) rfl ?_
  refine j_iconst hE (by decide +kernel : decode cL_law 471 = .ok (.iconst 4, 1)) (v := (4 : Int32)) (by decide) ?_
  refine j_iadd hE (by decide +kernel : decode cL_law 472 = .ok (.iadd, 1)) ?_
  obtain ⟨hk, hb, h⟩ := h
  refine j_scr hE hsc hk hb (by decide +kernel : decode cL_law 473 = .ok (.iaload, 1)) ?_
  obtain ⟨hk, h⟩ := h
  refine j_callV hE rfl cl_L_41 cf_11 im_X10_event se_X10_event ⟨by omega, by omega⟩ (As := [.int (z_x Z (l4 + (1 : Int32)).toNatClampNeg), .int (z_x Z (l4 + (2 : Int32)).toNatClampNeg), .int (z_x Z (l4 + (3 : Int32)).toNatClampNeg), .int (z_x Z (l4 + (4 : Int32)).toNatClampNeg)]) (rest := []) rfl rfl (Nat.le_of_ble_eq_true rfl) hk (by decide +kernel : decode cL_law 474 = .ok (.invokevirtual 41, 3)) (mt_PV_event _ _ _ _ _ _ _ h) ?_
  rintro _ g1 ⟨x2, rfl, h⟩
  refine j_aload_n hE (by decide +kernel : decode cL_law 477 = .ok (.aload_n 2, 1)) rfl rfl ?_
  refine j_aload_n hE (by decide +kernel : decode cL_law 478 = .ok (.aload_n 0, 1)) rfl rfl ?_
  refine j_iload hE (by decide +kernel : decode cL_law 479 = .ok (.iload 4, 2)) rfl ?_
  refine j_iconst hE (by decide +kernel : decode cL_law 481 = .ok (.iconst 1, 1)) (v := (1 : Int32)) (by decide) ?_
  refine j_iadd hE (by decide +kernel : decode cL_law 482 = .ok (.iadd, 1)) ?_
  obtain ⟨hk, hb, h⟩ := h
  refine j_scr hE hsc hk hb (by decide +kernel : decode cL_law 483 = .ok (.iaload, 1)) ?_
  refine j_aload_n hE (by decide +kernel : decode cL_law 484 = .ok (.aload_n 0, 1)) rfl rfl ?_
  refine j_iload hE (by decide +kernel : decode cL_law 485 = .ok (.iload 4, 2)) rfl ?_
  refine j_iconst hE (by decide +kernel : decode cL_law 487 = .ok (.iconst 2, 1)) (v := (2 : Int32)) (by decide) ?_
  refine j_iadd hE (by decide +kernel : decode cL_law 488 = .ok (.iadd, 1)) ?_
  obtain ⟨hk, hb, h⟩ := h
  refine j_scr hE hsc hk hb (by decide +kernel : decode cL_law 489 = .ok (.iaload, 1)) ?_
  refine j_aload_n hE (by decide +kernel : decode cL_law 490 = .ok (.aload_n 0, 1)) rfl rfl ?_
  refine j_iload hE (by decide +kernel : decode cL_law 491 = .ok (.iload 4, 2)) rfl ?_
  refine j_iconst hE (by decide +kernel : decode cL_law 493 = .ok (.iconst 3, 1)) (v := (3 : Int32)) (by decide) ?_
  refine j_iadd hE (by decide +kernel : decode cL_law 494 = .ok (.iadd, 1)) ?_
  obtain ⟨hk, hb, h⟩ := h
  refine j_scr hE hsc hk hb (by decide +kernel : decode cL_law 495 = .ok (.iaload, 1)) ?_
  refine j_aload_n hE (by decide +kernel : decode cL_law 496 = .ok (.aload_n 0, 1)) rfl rfl ?_
  refine j_iload hE (by decide +kernel : decode cL_law 497 = .ok (.iload 4, 2)) rfl ?_
  refine j_iconst hE (by decide +kernel : decode cL_law 499 = .ok (.iconst 4, 1)) (v := (4 : Int32)) (by decide) ?_
  refine j_iadd hE (by decide +kernel : decode cL_law 500 = .ok (.iadd, 1)) ?_
  obtain ⟨hk, hb, h⟩ := h
  refine j_scr hE hsc hk hb (by decide +kernel : decode cL_law 501 = .ok (.iaload, 1)) ?_
  obtain ⟨hk, h⟩ := h
  refine j_callV hE rfl cl_L_45 cf_12 im_X11_event se_X11_event ⟨by omega, by omega⟩ (As := [.int (z_x Z (l4 + (1 : Int32)).toNatClampNeg), .int (z_x Z (l4 + (2 : Int32)).toNatClampNeg), .int (z_x Z (l4 + (3 : Int32)).toNatClampNeg), .int (z_x Z (l4 + (4 : Int32)).toNatClampNeg)]) (rest := [.int x2]) rfl rfl (Nat.le_of_ble_eq_true rfl) hk (by decide +kernel : decode cL_law 502 = .ok (.invokevirtual 45, 3)) (mt_M_event _ _ _ _ _ _ _ h) ?_
  rintro _ g3 ⟨x4, rfl, h⟩
  refine j_icmp_eq hE (by decide +kernel : decode cL_law 505 = .ok (.if_icmp .eq 1429, 3)) (tgt := 1934) (by decide) (fun q => ?_) (fun q => ?_)
  · replace h := h.1 q
    exact S_LAW_law_1934 hsc hl hE hK23 _ _ _ _ _ _ h
  · replace h := h.2 q
    refine j_iconst hE (by decide +kernel : decode cL_law 508 = .ok (.iconst 0, 1)) (v := (0 : Int32)) (by decide) ?_
    exact j_zret hE (Or.inl rfl) (by decide +kernel : decode cL_law 509 = .ok (.ireturn, 1)) ⟨_, rfl, h⟩
set_option maxRecDepth 100000 in
def B_LAW_law_400 (Γ : GAM) (Z : SCRT) (K23 : Nat → Nat → Nat → Nat → Int32 → GH → Prop) (K : Int32 → GH → Prop) (l0 : Nat) (l1 : Nat) (l2 : Nat) (l3 : Nat) (l4 : Int32) (g : GH) : Prop :=
  l0 = z_b Z ∧ inB (l4 + (1 : Int32)) (z_n Z) ∧ l0 = z_b Z ∧ inB (l4 + (2 : Int32)) (z_n Z) ∧ l0 = z_b Z ∧ inB (l4 + (3 : Int32)) (z_n Z) ∧ Kd g l1 = 12 ∧ Sp_PV_send Γ l1 (z_x Z (l4 + (1 : Int32)).toNatClampNeg) (z_x Z (l4 + (2 : Int32)).toNatClampNeg) (z_x Z (l4 + (3 : Int32)).toNatClampNeg) g (fun (x2 : Int32) (g1 : GH) => l0 = z_b Z ∧ inB (l4 + (1 : Int32)) (z_n Z) ∧ l0 = z_b Z ∧ inB (l4 + (2 : Int32)) (z_n Z) ∧ l0 = z_b Z ∧ inB (l4 + (3 : Int32)) (z_n Z) ∧ Kd g1 l2 = 13 ∧ Sp_M_send Γ l2 (z_x Z (l4 + (1 : Int32)).toNatClampNeg) (z_x Z (l4 + (2 : Int32)).toNatClampNeg) (z_x Z (l4 + (3 : Int32)).toNatClampNeg) g1 (fun (x4 : Int32) (g3 : GH) => ((x2 = x4 → B_LAW_law_1934 Γ Z K23 K l0 l1 l2 l3 l4 g3) ∧ (¬ (x2 = x4) → K (0 : Int32) g3))))
set_option maxHeartbeats 4000000 in
set_option maxRecDepth 100000 in
theorem S_LAW_law_400 {Γ : GAM} {Z : SCRT} {E : EV} {K : Int32 → GH → Prop} (hsc : SCR Γ E Z) (hl : E.2.1.stackTraces = false) (hE : GE Γ E cL_law 7 RL (some (.boolean)) 2048 84000 (fun r g' => ∃ x, r = some (.int x) ∧ K x g')) {K23 : Nat → Nat → Nat → Nat → Int32 → GH → Prop} (hK23 : ∀ (l0 : Nat) (l1 : Nat) (l2 : Nat) (l3 : Nat) (l4 : Int32) (g : GH), K23 l0 l1 l2 l3 l4 g → JW Γ E 23 [some (.ref l0), some (.ref l1), some (.ref l2), some (.ref l3), some (.int l4), none, none] [] g) (l0 : Nat) (l1 : Nat) (l2 : Nat) (l3 : Nat) (l4 : Int32) (g : GH) (h : B_LAW_law_400 Γ Z K23 K l0 l1 l2 l3 l4 g) : JW Γ E 400 [some (.ref l0), some (.ref l1), some (.ref l2), some (.ref l3), some (.int l4), none, none] [] g := by
  unfold B_LAW_law_400 at h
  refine j_aload_n hE (by decide +kernel : decode cL_law 400 = .ok (.aload_n 1, 1)) rfl rfl ?_
  refine j_aload_n hE (by decide +kernel : decode cL_law 401 = .ok (.aload_n 0, 1)) rfl rfl ?_
  refine j_iload hE (by decide +kernel : decode cL_law 402 = .ok (.iload 4, 2)) rfl ?_
  refine j_iconst hE (by decide +kernel : decode cL_law 404 = .ok (.iconst 1, 1)) (v := (1 : Int32)) (by decide) ?_
  refine j_iadd hE (by decide +kernel : decode cL_law 405 = .ok (.iadd, 1)) ?_
  obtain ⟨hk, hb, h⟩ := h
  refine j_scr hE hsc hk hb (by decide +kernel : decode cL_law 406 = .ok (.iaload, 1)) ?_
  refine j_aload_n hE (by decide +kernel : decode cL_law 407 = .ok (.aload_n 0, 1)) rfl rfl ?_
  refine j_iload hE (by decide +kernel : decode cL_law 408 = .ok (.iload 4, 2)) rfl ?_
  refine j_iconst hE (by decide +kernel : decode cL_law 410 = .ok (.iconst 2, 1)) (v := (2 : Int32)) (by decide) ?_
  refine j_iadd hE (by decide +kernel : decode cL_law 411 = .ok (.iadd, 1)) ?_
  obtain ⟨hk, hb, h⟩ := h
  refine j_scr hE hsc hk hb (by decide +kernel : decode cL_law 412 = .ok (.iaload, 1)) ?_
  refine j_aload_n hE (by decide +kernel : decode cL_law 413 = .ok (.aload_n 0, 1)) rfl rfl ?_
  refine j_iload hE (by decide +kernel : decode cL_law 414 = .ok (.iload 4, 2)) rfl ?_
  refine j_iconst hE (by decide +kernel : decode cL_law 416 = .ok (.iconst 3, 1)) (v := (3 : Int32)) (by decide) ?_
  refine j_iadd hE (by decide +kernel : decode cL_law 417 = .ok (.iadd, 1)) ?_
  obtain ⟨hk, hb, h⟩ := h
  refine j_scr hE hsc hk hb (by decide +kernel : decode cL_law 418 = .ok (.iaload, 1)) ?_
  obtain ⟨hk, h⟩ := h
  refine j_callV hE rfl cl_L_37 cf_11 im_X10_send se_X10_send ⟨by omega, by omega⟩ (As := [.int (z_x Z (l4 + (1 : Int32)).toNatClampNeg), .int (z_x Z (l4 + (2 : Int32)).toNatClampNeg), .int (z_x Z (l4 + (3 : Int32)).toNatClampNeg)]) (rest := []) rfl rfl (Nat.le_of_ble_eq_true rfl) hk (by decide +kernel : decode cL_law 419 = .ok (.invokevirtual 37, 3)) (mt_PV_send _ _ _ _ _ _ h) ?_
  rintro _ g1 ⟨x2, rfl, h⟩
  refine j_aload_n hE (by decide +kernel : decode cL_law 422 = .ok (.aload_n 2, 1)) rfl rfl ?_
  refine j_aload_n hE (by decide +kernel : decode cL_law 423 = .ok (.aload_n 0, 1)) rfl rfl ?_
  refine j_iload hE (by decide +kernel : decode cL_law 424 = .ok (.iload 4, 2)) rfl ?_
  refine j_iconst hE (by decide +kernel : decode cL_law 426 = .ok (.iconst 1, 1)) (v := (1 : Int32)) (by decide) ?_
  refine j_iadd hE (by decide +kernel : decode cL_law 427 = .ok (.iadd, 1)) ?_
  obtain ⟨hk, hb, h⟩ := h
  refine j_scr hE hsc hk hb (by decide +kernel : decode cL_law 428 = .ok (.iaload, 1)) ?_
  refine j_aload_n hE (by decide +kernel : decode cL_law 429 = .ok (.aload_n 0, 1)) rfl rfl ?_
  refine j_iload hE (by decide +kernel : decode cL_law 430 = .ok (.iload 4, 2)) rfl ?_
  refine j_iconst hE (by decide +kernel : decode cL_law 432 = .ok (.iconst 2, 1)) (v := (2 : Int32)) (by decide) ?_
  refine j_iadd hE (by decide +kernel : decode cL_law 433 = .ok (.iadd, 1)) ?_
  obtain ⟨hk, hb, h⟩ := h
  refine j_scr hE hsc hk hb (by decide +kernel : decode cL_law 434 = .ok (.iaload, 1)) ?_
  refine j_aload_n hE (by decide +kernel : decode cL_law 435 = .ok (.aload_n 0, 1)) rfl rfl ?_
  refine j_iload hE (by decide +kernel : decode cL_law 436 = .ok (.iload 4, 2)) rfl ?_
  refine j_iconst hE (by decide +kernel : decode cL_law 438 = .ok (.iconst 3, 1)) (v := (3 : Int32)) (by decide) ?_
  refine j_iadd hE (by decide +kernel : decode cL_law 439 = .ok (.iadd, 1)) ?_
  obtain ⟨hk, hb, h⟩ := h
  refine j_scr hE hsc hk hb (by decide +kernel : decode cL_law 440 = .ok (.iaload, 1)) ?_
  obtain ⟨hk, h⟩ := h
  refine j_callV hE rfl cl_L_40 cf_12 im_X11_send se_X11_send ⟨by omega, by omega⟩ (As := [.int (z_x Z (l4 + (1 : Int32)).toNatClampNeg), .int (z_x Z (l4 + (2 : Int32)).toNatClampNeg), .int (z_x Z (l4 + (3 : Int32)).toNatClampNeg)]) (rest := [.int x2]) rfl rfl (Nat.le_of_ble_eq_true rfl) hk (by decide +kernel : decode cL_law 441 = .ok (.invokevirtual 40, 3)) (mt_M_send _ _ _ _ _ _ h) ?_
  rintro _ g3 ⟨x4, rfl, h⟩
  refine j_icmp_eq hE (by decide +kernel : decode cL_law 444 = .ok (.if_icmp .eq 1490, 3)) (tgt := 1934) (by decide) (fun q => ?_) (fun q => ?_)
  · replace h := h.1 q
    exact S_LAW_law_1934 hsc hl hE hK23 _ _ _ _ _ _ h
  · replace h := h.2 q
    refine j_iconst hE (by decide +kernel : decode cL_law 447 = .ok (.iconst 0, 1)) (v := (0 : Int32)) (by decide) ?_
    exact j_zret hE (Or.inl rfl) (by decide +kernel : decode cL_law 448 = .ok (.ireturn, 1)) ⟨_, rfl, h⟩
set_option maxRecDepth 100000 in
def B_LAW_law_351 (Γ : GAM) (Z : SCRT) (K23 : Nat → Nat → Nat → Nat → Int32 → GH → Prop) (K : Int32 → GH → Prop) (l0 : Nat) (l1 : Nat) (l2 : Nat) (l3 : Nat) (l4 : Int32) (g : GH) : Prop :=
  l0 = z_b Z ∧ inB (l4 + (1 : Int32)) (z_n Z) ∧ l0 = z_b Z ∧ inB (l4 + (2 : Int32)) (z_n Z) ∧ l0 = z_b Z ∧ inB (l4 + (3 : Int32)) (z_n Z) ∧ Kd g l1 = 12 ∧ Sp_PV_shire Γ l1 (z_x Z (l4 + (1 : Int32)).toNatClampNeg) (z_x Z (l4 + (2 : Int32)).toNatClampNeg) (z_x Z (l4 + (3 : Int32)).toNatClampNeg) g (fun (x2 : Int32) (g1 : GH) => l0 = z_b Z ∧ inB (l4 + (1 : Int32)) (z_n Z) ∧ l0 = z_b Z ∧ inB (l4 + (2 : Int32)) (z_n Z) ∧ l0 = z_b Z ∧ inB (l4 + (3 : Int32)) (z_n Z) ∧ Kd g1 l2 = 13 ∧ Sp_M_shire Γ l2 (z_x Z (l4 + (1 : Int32)).toNatClampNeg) (z_x Z (l4 + (2 : Int32)).toNatClampNeg) (z_x Z (l4 + (3 : Int32)).toNatClampNeg) g1 (fun (x4 : Int32) (g3 : GH) => ((x2 = x4 → B_LAW_law_1934 Γ Z K23 K l0 l1 l2 l3 l4 g3) ∧ (¬ (x2 = x4) → K (0 : Int32) g3))))
set_option maxHeartbeats 4000000 in
set_option maxRecDepth 100000 in
theorem S_LAW_law_351 {Γ : GAM} {Z : SCRT} {E : EV} {K : Int32 → GH → Prop} (hsc : SCR Γ E Z) (hl : E.2.1.stackTraces = false) (hE : GE Γ E cL_law 7 RL (some (.boolean)) 2048 84000 (fun r g' => ∃ x, r = some (.int x) ∧ K x g')) {K23 : Nat → Nat → Nat → Nat → Int32 → GH → Prop} (hK23 : ∀ (l0 : Nat) (l1 : Nat) (l2 : Nat) (l3 : Nat) (l4 : Int32) (g : GH), K23 l0 l1 l2 l3 l4 g → JW Γ E 23 [some (.ref l0), some (.ref l1), some (.ref l2), some (.ref l3), some (.int l4), none, none] [] g) (l0 : Nat) (l1 : Nat) (l2 : Nat) (l3 : Nat) (l4 : Int32) (g : GH) (h : B_LAW_law_351 Γ Z K23 K l0 l1 l2 l3 l4 g) : JW Γ E 351 [some (.ref l0), some (.ref l1), some (.ref l2), some (.ref l3), some (.int l4), none, none] [] g := by
  unfold B_LAW_law_351 at h
  refine j_aload_n hE (by decide +kernel : decode cL_law 351 = .ok (.aload_n 1, 1)) rfl rfl ?_
  refine j_aload_n hE (by decide +kernel : decode cL_law 352 = .ok (.aload_n 0, 1)) rfl rfl ?_
  refine j_iload hE (by decide +kernel : decode cL_law 353 = .ok (.iload 4, 2)) rfl ?_
  refine j_iconst hE (by decide +kernel : decode cL_law 355 = .ok (.iconst 1, 1)) (v := (1 : Int32)) (by decide) ?_
  refine j_iadd hE (by decide +kernel : decode cL_law 356 = .ok (.iadd, 1)) ?_
  obtain ⟨hk, hb, h⟩ := h
  refine j_scr hE hsc hk hb (by decide +kernel : decode cL_law 357 = .ok (.iaload, 1)) ?_
  refine j_aload_n hE (by decide +kernel : decode cL_law 358 = .ok (.aload_n 0, 1)) rfl rfl ?_
  refine j_iload hE (by decide +kernel : decode cL_law 359 = .ok (.iload 4, 2)) rfl ?_
  refine j_iconst hE (by decide +kernel : decode cL_law 361 = .ok (.iconst 2, 1)) (v := (2 : Int32)) (by decide) ?_
  refine j_iadd hE (by decide +kernel : decode cL_law 362 = .ok (.iadd, 1)) ?_
  obtain ⟨hk, hb, h⟩ := h
  refine j_scr hE hsc hk hb (by decide +kernel : decode cL_law 363 = .ok (.iaload, 1)) ?_
  refine j_aload_n hE (by decide +kernel : decode cL_law 364 = .ok (.aload_n 0, 1)) rfl rfl ?_
  refine j_iload hE (by decide +kernel : decode cL_law 365 = .ok (.iload 4, 2)) rfl ?_
  refine j_iconst hE (by decide +kernel : decode cL_law 367 = .ok (.iconst 3, 1)) (v := (3 : Int32)) (by decide) ?_
  refine j_iadd hE (by decide +kernel : decode cL_law 368 = .ok (.iadd, 1)) ?_
  obtain ⟨hk, hb, h⟩ := h
  refine j_scr hE hsc hk hb (by decide +kernel : decode cL_law 369 = .ok (.iaload, 1)) ?_
  obtain ⟨hk, h⟩ := h
  refine j_callV hE rfl cl_L_33 cf_11 im_X10_shire se_X10_shire ⟨by omega, by omega⟩ (As := [.int (z_x Z (l4 + (1 : Int32)).toNatClampNeg), .int (z_x Z (l4 + (2 : Int32)).toNatClampNeg), .int (z_x Z (l4 + (3 : Int32)).toNatClampNeg)]) (rest := []) rfl rfl (Nat.le_of_ble_eq_true rfl) hk (by decide +kernel : decode cL_law 370 = .ok (.invokevirtual 33, 3)) (mt_PV_shire _ _ _ _ _ _ h) ?_
  rintro _ g1 ⟨x2, rfl, h⟩
  refine j_aload_n hE (by decide +kernel : decode cL_law 373 = .ok (.aload_n 2, 1)) rfl rfl ?_
  refine j_aload_n hE (by decide +kernel : decode cL_law 374 = .ok (.aload_n 0, 1)) rfl rfl ?_
  refine j_iload hE (by decide +kernel : decode cL_law 375 = .ok (.iload 4, 2)) rfl ?_
  refine j_iconst hE (by decide +kernel : decode cL_law 377 = .ok (.iconst 1, 1)) (v := (1 : Int32)) (by decide) ?_
  refine j_iadd hE (by decide +kernel : decode cL_law 378 = .ok (.iadd, 1)) ?_
  obtain ⟨hk, hb, h⟩ := h
  refine j_scr hE hsc hk hb (by decide +kernel : decode cL_law 379 = .ok (.iaload, 1)) ?_
  refine j_aload_n hE (by decide +kernel : decode cL_law 380 = .ok (.aload_n 0, 1)) rfl rfl ?_
  refine j_iload hE (by decide +kernel : decode cL_law 381 = .ok (.iload 4, 2)) rfl ?_
  refine j_iconst hE (by decide +kernel : decode cL_law 383 = .ok (.iconst 2, 1)) (v := (2 : Int32)) (by decide) ?_
  refine j_iadd hE (by decide +kernel : decode cL_law 384 = .ok (.iadd, 1)) ?_
  obtain ⟨hk, hb, h⟩ := h
  refine j_scr hE hsc hk hb (by decide +kernel : decode cL_law 385 = .ok (.iaload, 1)) ?_
  refine j_aload_n hE (by decide +kernel : decode cL_law 386 = .ok (.aload_n 0, 1)) rfl rfl ?_
  refine j_iload hE (by decide +kernel : decode cL_law 387 = .ok (.iload 4, 2)) rfl ?_
  refine j_iconst hE (by decide +kernel : decode cL_law 389 = .ok (.iconst 3, 1)) (v := (3 : Int32)) (by decide) ?_
  refine j_iadd hE (by decide +kernel : decode cL_law 390 = .ok (.iadd, 1)) ?_
  obtain ⟨hk, hb, h⟩ := h
  refine j_scr hE hsc hk hb (by decide +kernel : decode cL_law 391 = .ok (.iaload, 1)) ?_
  obtain ⟨hk, h⟩ := h
  refine j_callV hE rfl cl_L_36 cf_12 im_X11_shire se_X11_shire ⟨by omega, by omega⟩ (As := [.int (z_x Z (l4 + (1 : Int32)).toNatClampNeg), .int (z_x Z (l4 + (2 : Int32)).toNatClampNeg), .int (z_x Z (l4 + (3 : Int32)).toNatClampNeg)]) (rest := [.int x2]) rfl rfl (Nat.le_of_ble_eq_true rfl) hk (by decide +kernel : decode cL_law 392 = .ok (.invokevirtual 36, 3)) (mt_M_shire _ _ _ _ _ _ h) ?_
  rintro _ g3 ⟨x4, rfl, h⟩
  refine j_icmp_eq hE (by decide +kernel : decode cL_law 395 = .ok (.if_icmp .eq 1539, 3)) (tgt := 1934) (by decide) (fun q => ?_) (fun q => ?_)
  · replace h := h.1 q
    exact S_LAW_law_1934 hsc hl hE hK23 _ _ _ _ _ _ h
  · replace h := h.2 q
    refine j_iconst hE (by decide +kernel : decode cL_law 398 = .ok (.iconst 0, 1)) (v := (0 : Int32)) (by decide) ?_
    exact j_zret hE (Or.inl rfl) (by decide +kernel : decode cL_law 399 = .ok (.ireturn, 1)) ⟨_, rfl, h⟩
set_option maxRecDepth 100000 in
def B_LAW_law_302 (Γ : GAM) (Z : SCRT) (K23 : Nat → Nat → Nat → Nat → Int32 → GH → Prop) (K : Int32 → GH → Prop) (l0 : Nat) (l1 : Nat) (l2 : Nat) (l3 : Nat) (l4 : Int32) (g : GH) : Prop :=
  l0 = z_b Z ∧ inB (l4 + (1 : Int32)) (z_n Z) ∧ l0 = z_b Z ∧ inB (l4 + (2 : Int32)) (z_n Z) ∧ l0 = z_b Z ∧ inB (l4 + (3 : Int32)) (z_n Z) ∧ Kd g l1 = 12 ∧ Sp_PV_move Γ l1 (z_x Z (l4 + (1 : Int32)).toNatClampNeg) (z_x Z (l4 + (2 : Int32)).toNatClampNeg) (z_x Z (l4 + (3 : Int32)).toNatClampNeg) g (fun (x2 : Int32) (g1 : GH) => l0 = z_b Z ∧ inB (l4 + (1 : Int32)) (z_n Z) ∧ l0 = z_b Z ∧ inB (l4 + (2 : Int32)) (z_n Z) ∧ l0 = z_b Z ∧ inB (l4 + (3 : Int32)) (z_n Z) ∧ Kd g1 l2 = 13 ∧ Sp_M_move Γ l2 (z_x Z (l4 + (1 : Int32)).toNatClampNeg) (z_x Z (l4 + (2 : Int32)).toNatClampNeg) (z_x Z (l4 + (3 : Int32)).toNatClampNeg) g1 (fun (x4 : Int32) (g3 : GH) => ((x2 = x4 → B_LAW_law_1934 Γ Z K23 K l0 l1 l2 l3 l4 g3) ∧ (¬ (x2 = x4) → K (0 : Int32) g3))))
set_option maxHeartbeats 4000000 in
set_option maxRecDepth 100000 in
theorem S_LAW_law_302 {Γ : GAM} {Z : SCRT} {E : EV} {K : Int32 → GH → Prop} (hsc : SCR Γ E Z) (hl : E.2.1.stackTraces = false) (hE : GE Γ E cL_law 7 RL (some (.boolean)) 2048 84000 (fun r g' => ∃ x, r = some (.int x) ∧ K x g')) {K23 : Nat → Nat → Nat → Nat → Int32 → GH → Prop} (hK23 : ∀ (l0 : Nat) (l1 : Nat) (l2 : Nat) (l3 : Nat) (l4 : Int32) (g : GH), K23 l0 l1 l2 l3 l4 g → JW Γ E 23 [some (.ref l0), some (.ref l1), some (.ref l2), some (.ref l3), some (.int l4), none, none] [] g) (l0 : Nat) (l1 : Nat) (l2 : Nat) (l3 : Nat) (l4 : Int32) (g : GH) (h : B_LAW_law_302 Γ Z K23 K l0 l1 l2 l3 l4 g) : JW Γ E 302 [some (.ref l0), some (.ref l1), some (.ref l2), some (.ref l3), some (.int l4), none, none] [] g := by
  unfold B_LAW_law_302 at h
  refine j_aload_n hE (by decide +kernel : decode cL_law 302 = .ok (.aload_n 1, 1)) rfl rfl ?_
  refine j_aload_n hE (by decide +kernel : decode cL_law 303 = .ok (.aload_n 0, 1)) rfl rfl ?_
  refine j_iload hE (by decide +kernel : decode cL_law 304 = .ok (.iload 4, 2)) rfl ?_
  refine j_iconst hE (by decide +kernel : decode cL_law 306 = .ok (.iconst 1, 1)) (v := (1 : Int32)) (by decide) ?_
  refine j_iadd hE (by decide +kernel : decode cL_law 307 = .ok (.iadd, 1)) ?_
  obtain ⟨hk, hb, h⟩ := h
  refine j_scr hE hsc hk hb (by decide +kernel : decode cL_law 308 = .ok (.iaload, 1)) ?_
  refine j_aload_n hE (by decide +kernel : decode cL_law 309 = .ok (.aload_n 0, 1)) rfl rfl ?_
  refine j_iload hE (by decide +kernel : decode cL_law 310 = .ok (.iload 4, 2)) rfl ?_
  refine j_iconst hE (by decide +kernel : decode cL_law 312 = .ok (.iconst 2, 1)) (v := (2 : Int32)) (by decide) ?_
  refine j_iadd hE (by decide +kernel : decode cL_law 313 = .ok (.iadd, 1)) ?_
  obtain ⟨hk, hb, h⟩ := h
  refine j_scr hE hsc hk hb (by decide +kernel : decode cL_law 314 = .ok (.iaload, 1)) ?_
  refine j_aload_n hE (by decide +kernel : decode cL_law 315 = .ok (.aload_n 0, 1)) rfl rfl ?_
  refine j_iload hE (by decide +kernel : decode cL_law 316 = .ok (.iload 4, 2)) rfl ?_
  refine j_iconst hE (by decide +kernel : decode cL_law 318 = .ok (.iconst 3, 1)) (v := (3 : Int32)) (by decide) ?_
  refine j_iadd hE (by decide +kernel : decode cL_law 319 = .ok (.iadd, 1)) ?_
  obtain ⟨hk, hb, h⟩ := h
  refine j_scr hE hsc hk hb (by decide +kernel : decode cL_law 320 = .ok (.iaload, 1)) ?_
  obtain ⟨hk, h⟩ := h
  refine j_callV hE rfl cl_L_28 cf_11 im_X10_move se_X10_move ⟨by omega, by omega⟩ (As := [.int (z_x Z (l4 + (1 : Int32)).toNatClampNeg), .int (z_x Z (l4 + (2 : Int32)).toNatClampNeg), .int (z_x Z (l4 + (3 : Int32)).toNatClampNeg)]) (rest := []) rfl rfl (Nat.le_of_ble_eq_true rfl) hk (by decide +kernel : decode cL_law 321 = .ok (.invokevirtual 28, 3)) (mt_PV_move _ _ _ _ _ _ h) ?_
  rintro _ g1 ⟨x2, rfl, h⟩
  refine j_aload_n hE (by decide +kernel : decode cL_law 324 = .ok (.aload_n 2, 1)) rfl rfl ?_
  refine j_aload_n hE (by decide +kernel : decode cL_law 325 = .ok (.aload_n 0, 1)) rfl rfl ?_
  refine j_iload hE (by decide +kernel : decode cL_law 326 = .ok (.iload 4, 2)) rfl ?_
  refine j_iconst hE (by decide +kernel : decode cL_law 328 = .ok (.iconst 1, 1)) (v := (1 : Int32)) (by decide) ?_
  refine j_iadd hE (by decide +kernel : decode cL_law 329 = .ok (.iadd, 1)) ?_
  obtain ⟨hk, hb, h⟩ := h
  refine j_scr hE hsc hk hb (by decide +kernel : decode cL_law 330 = .ok (.iaload, 1)) ?_
  refine j_aload_n hE (by decide +kernel : decode cL_law 331 = .ok (.aload_n 0, 1)) rfl rfl ?_
  refine j_iload hE (by decide +kernel : decode cL_law 332 = .ok (.iload 4, 2)) rfl ?_
  refine j_iconst hE (by decide +kernel : decode cL_law 334 = .ok (.iconst 2, 1)) (v := (2 : Int32)) (by decide) ?_
  refine j_iadd hE (by decide +kernel : decode cL_law 335 = .ok (.iadd, 1)) ?_
  obtain ⟨hk, hb, h⟩ := h
  refine j_scr hE hsc hk hb (by decide +kernel : decode cL_law 336 = .ok (.iaload, 1)) ?_
  refine j_aload_n hE (by decide +kernel : decode cL_law 337 = .ok (.aload_n 0, 1)) rfl rfl ?_
  refine j_iload hE (by decide +kernel : decode cL_law 338 = .ok (.iload 4, 2)) rfl ?_
  refine j_iconst hE (by decide +kernel : decode cL_law 340 = .ok (.iconst 3, 1)) (v := (3 : Int32)) (by decide) ?_
  refine j_iadd hE (by decide +kernel : decode cL_law 341 = .ok (.iadd, 1)) ?_
  obtain ⟨hk, hb, h⟩ := h
  refine j_scr hE hsc hk hb (by decide +kernel : decode cL_law 342 = .ok (.iaload, 1)) ?_
  obtain ⟨hk, h⟩ := h
  refine j_callV hE rfl cl_L_32 cf_12 im_X11_move se_X11_move ⟨by omega, by omega⟩ (As := [.int (z_x Z (l4 + (1 : Int32)).toNatClampNeg), .int (z_x Z (l4 + (2 : Int32)).toNatClampNeg), .int (z_x Z (l4 + (3 : Int32)).toNatClampNeg)]) (rest := [.int x2]) rfl rfl (Nat.le_of_ble_eq_true rfl) hk (by decide +kernel : decode cL_law 343 = .ok (.invokevirtual 32, 3)) (mt_M_move _ _ _ _ _ _ h) ?_
  rintro _ g3 ⟨x4, rfl, h⟩
  refine j_icmp_eq hE (by decide +kernel : decode cL_law 346 = .ok (.if_icmp .eq 1588, 3)) (tgt := 1934) (by decide) (fun q => ?_) (fun q => ?_)
  · replace h := h.1 q
    exact S_LAW_law_1934 hsc hl hE hK23 _ _ _ _ _ _ h
  · replace h := h.2 q
    refine j_iconst hE (by decide +kernel : decode cL_law 349 = .ok (.iconst 0, 1)) (v := (0 : Int32)) (by decide) ?_
    exact j_zret hE (Or.inl rfl) (by decide +kernel : decode cL_law 350 = .ok (.ireturn, 1)) ⟨_, rfl, h⟩
set_option maxRecDepth 100000 in
def B_LAW_law_253 (Γ : GAM) (Z : SCRT) (K23 : Nat → Nat → Nat → Nat → Int32 → GH → Prop) (K : Int32 → GH → Prop) (l0 : Nat) (l1 : Nat) (l2 : Nat) (l3 : Nat) (l4 : Int32) (g : GH) : Prop :=
  l0 = z_b Z ∧ inB (l4 + (1 : Int32)) (z_n Z) ∧ l0 = z_b Z ∧ inB (l4 + (2 : Int32)) (z_n Z) ∧ l0 = z_b Z ∧ inB (l4 + (3 : Int32)) (z_n Z) ∧ Kd g l1 = 12 ∧ Sp_PV_voter Γ l1 (z_x Z (l4 + (1 : Int32)).toNatClampNeg) (z_x Z (l4 + (2 : Int32)).toNatClampNeg) (z_x Z (l4 + (3 : Int32)).toNatClampNeg) g (fun (x2 : Int32) (g1 : GH) => l0 = z_b Z ∧ inB (l4 + (1 : Int32)) (z_n Z) ∧ l0 = z_b Z ∧ inB (l4 + (2 : Int32)) (z_n Z) ∧ l0 = z_b Z ∧ inB (l4 + (3 : Int32)) (z_n Z) ∧ Kd g1 l2 = 13 ∧ Sp_M_voter Γ l2 (z_x Z (l4 + (1 : Int32)).toNatClampNeg) (z_x Z (l4 + (2 : Int32)).toNatClampNeg) (z_x Z (l4 + (3 : Int32)).toNatClampNeg) g1 (fun (x4 : Int32) (g3 : GH) => ((x2 = x4 → B_LAW_law_1934 Γ Z K23 K l0 l1 l2 l3 l4 g3) ∧ (¬ (x2 = x4) → K (0 : Int32) g3))))
set_option maxHeartbeats 4000000 in
set_option maxRecDepth 100000 in
theorem S_LAW_law_253 {Γ : GAM} {Z : SCRT} {E : EV} {K : Int32 → GH → Prop} (hsc : SCR Γ E Z) (hl : E.2.1.stackTraces = false) (hE : GE Γ E cL_law 7 RL (some (.boolean)) 2048 84000 (fun r g' => ∃ x, r = some (.int x) ∧ K x g')) {K23 : Nat → Nat → Nat → Nat → Int32 → GH → Prop} (hK23 : ∀ (l0 : Nat) (l1 : Nat) (l2 : Nat) (l3 : Nat) (l4 : Int32) (g : GH), K23 l0 l1 l2 l3 l4 g → JW Γ E 23 [some (.ref l0), some (.ref l1), some (.ref l2), some (.ref l3), some (.int l4), none, none] [] g) (l0 : Nat) (l1 : Nat) (l2 : Nat) (l3 : Nat) (l4 : Int32) (g : GH) (h : B_LAW_law_253 Γ Z K23 K l0 l1 l2 l3 l4 g) : JW Γ E 253 [some (.ref l0), some (.ref l1), some (.ref l2), some (.ref l3), some (.int l4), none, none] [] g := by
  unfold B_LAW_law_253 at h
  refine j_aload_n hE (by decide +kernel : decode cL_law 253 = .ok (.aload_n 1, 1)) rfl rfl ?_
  refine j_aload_n hE (by decide +kernel : decode cL_law 254 = .ok (.aload_n 0, 1)) rfl rfl ?_
  refine j_iload hE (by decide +kernel : decode cL_law 255 = .ok (.iload 4, 2)) rfl ?_
  refine j_iconst hE (by decide +kernel : decode cL_law 257 = .ok (.iconst 1, 1)) (v := (1 : Int32)) (by decide) ?_
  refine j_iadd hE (by decide +kernel : decode cL_law 258 = .ok (.iadd, 1)) ?_
  obtain ⟨hk, hb, h⟩ := h
  refine j_scr hE hsc hk hb (by decide +kernel : decode cL_law 259 = .ok (.iaload, 1)) ?_
  refine j_aload_n hE (by decide +kernel : decode cL_law 260 = .ok (.aload_n 0, 1)) rfl rfl ?_
  refine j_iload hE (by decide +kernel : decode cL_law 261 = .ok (.iload 4, 2)) rfl ?_
  refine j_iconst hE (by decide +kernel : decode cL_law 263 = .ok (.iconst 2, 1)) (v := (2 : Int32)) (by decide) ?_
  refine j_iadd hE (by decide +kernel : decode cL_law 264 = .ok (.iadd, 1)) ?_
  obtain ⟨hk, hb, h⟩ := h
  refine j_scr hE hsc hk hb (by decide +kernel : decode cL_law 265 = .ok (.iaload, 1)) ?_
  refine j_aload_n hE (by decide +kernel : decode cL_law 266 = .ok (.aload_n 0, 1)) rfl rfl ?_
  refine j_iload hE (by decide +kernel : decode cL_law 267 = .ok (.iload 4, 2)) rfl ?_
  refine j_iconst hE (by decide +kernel : decode cL_law 269 = .ok (.iconst 3, 1)) (v := (3 : Int32)) (by decide) ?_
  refine j_iadd hE (by decide +kernel : decode cL_law 270 = .ok (.iadd, 1)) ?_
  obtain ⟨hk, hb, h⟩ := h
  refine j_scr hE hsc hk hb (by decide +kernel : decode cL_law 271 = .ok (.iaload, 1)) ?_
  obtain ⟨hk, h⟩ := h
  refine j_callV hE rfl cl_L_24 cf_11 im_X10_voter se_X10_voter ⟨by omega, by omega⟩ (As := [.int (z_x Z (l4 + (1 : Int32)).toNatClampNeg), .int (z_x Z (l4 + (2 : Int32)).toNatClampNeg), .int (z_x Z (l4 + (3 : Int32)).toNatClampNeg)]) (rest := []) rfl rfl (Nat.le_of_ble_eq_true rfl) hk (by decide +kernel : decode cL_law 272 = .ok (.invokevirtual 24, 3)) (mt_PV_voter _ _ _ _ _ _ h) ?_
  rintro _ g1 ⟨x2, rfl, h⟩
  refine j_aload_n hE (by decide +kernel : decode cL_law 275 = .ok (.aload_n 2, 1)) rfl rfl ?_
  refine j_aload_n hE (by decide +kernel : decode cL_law 276 = .ok (.aload_n 0, 1)) rfl rfl ?_
  refine j_iload hE (by decide +kernel : decode cL_law 277 = .ok (.iload 4, 2)) rfl ?_
  refine j_iconst hE (by decide +kernel : decode cL_law 279 = .ok (.iconst 1, 1)) (v := (1 : Int32)) (by decide) ?_
  refine j_iadd hE (by decide +kernel : decode cL_law 280 = .ok (.iadd, 1)) ?_
  obtain ⟨hk, hb, h⟩ := h
  refine j_scr hE hsc hk hb (by decide +kernel : decode cL_law 281 = .ok (.iaload, 1)) ?_
  refine j_aload_n hE (by decide +kernel : decode cL_law 282 = .ok (.aload_n 0, 1)) rfl rfl ?_
  refine j_iload hE (by decide +kernel : decode cL_law 283 = .ok (.iload 4, 2)) rfl ?_
  refine j_iconst hE (by decide +kernel : decode cL_law 285 = .ok (.iconst 2, 1)) (v := (2 : Int32)) (by decide) ?_
  refine j_iadd hE (by decide +kernel : decode cL_law 286 = .ok (.iadd, 1)) ?_
  obtain ⟨hk, hb, h⟩ := h
  refine j_scr hE hsc hk hb (by decide +kernel : decode cL_law 287 = .ok (.iaload, 1)) ?_
  refine j_aload_n hE (by decide +kernel : decode cL_law 288 = .ok (.aload_n 0, 1)) rfl rfl ?_
  refine j_iload hE (by decide +kernel : decode cL_law 289 = .ok (.iload 4, 2)) rfl ?_
  refine j_iconst hE (by decide +kernel : decode cL_law 291 = .ok (.iconst 3, 1)) (v := (3 : Int32)) (by decide) ?_
  refine j_iadd hE (by decide +kernel : decode cL_law 292 = .ok (.iadd, 1)) ?_
  obtain ⟨hk, hb, h⟩ := h
  refine j_scr hE hsc hk hb (by decide +kernel : decode cL_law 293 = .ok (.iaload, 1)) ?_
  obtain ⟨hk, h⟩ := h
  refine j_callV hE rfl cl_L_27 cf_12 im_X11_voter se_X11_voter ⟨by omega, by omega⟩ (As := [.int (z_x Z (l4 + (1 : Int32)).toNatClampNeg), .int (z_x Z (l4 + (2 : Int32)).toNatClampNeg), .int (z_x Z (l4 + (3 : Int32)).toNatClampNeg)]) (rest := [.int x2]) rfl rfl (Nat.le_of_ble_eq_true rfl) hk (by decide +kernel : decode cL_law 294 = .ok (.invokevirtual 27, 3)) (mt_M_voter _ _ _ _ _ _ h) ?_
  rintro _ g3 ⟨x4, rfl, h⟩
  refine j_icmp_eq hE (by decide +kernel : decode cL_law 297 = .ok (.if_icmp .eq 1637, 3)) (tgt := 1934) (by decide) (fun q => ?_) (fun q => ?_)
  · replace h := h.1 q
    exact S_LAW_law_1934 hsc hl hE hK23 _ _ _ _ _ _ h
  · replace h := h.2 q
    refine j_iconst hE (by decide +kernel : decode cL_law 300 = .ok (.iconst 0, 1)) (v := (0 : Int32)) (by decide) ?_
    exact j_zret hE (Or.inl rfl) (by decide +kernel : decode cL_law 301 = .ok (.ireturn, 1)) ⟨_, rfl, h⟩
set_option maxRecDepth 100000 in
def B_LAW_law_228 (Γ : GAM) (Z : SCRT) (K23 : Nat → Nat → Nat → Nat → Int32 → GH → Prop) (K : Int32 → GH → Prop) (l0 : Nat) (l1 : Nat) (l2 : Nat) (l3 : Nat) (l4 : Int32) (g : GH) : Prop :=
  l0 = z_b Z ∧ inB (l4 + (1 : Int32)) (z_n Z) ∧ Kd g l1 = 12 ∧ Sp_PV_days Γ l1 (z_x Z (l4 + (1 : Int32)).toNatClampNeg) g (fun (x2 : Int32) (g1 : GH) => l0 = z_b Z ∧ inB (l4 + (1 : Int32)) (z_n Z) ∧ Kd g1 l2 = 13 ∧ Sp_M_days Γ l2 (z_x Z (l4 + (1 : Int32)).toNatClampNeg) g1 (fun (x4 : Int32) (g3 : GH) => ((x2 = x4 → B_LAW_law_1934 Γ Z K23 K l0 l1 l2 l3 l4 g3) ∧ (¬ (x2 = x4) → K (0 : Int32) g3))))
set_option maxHeartbeats 4000000 in
set_option maxRecDepth 100000 in
theorem S_LAW_law_228 {Γ : GAM} {Z : SCRT} {E : EV} {K : Int32 → GH → Prop} (hsc : SCR Γ E Z) (hl : E.2.1.stackTraces = false) (hE : GE Γ E cL_law 7 RL (some (.boolean)) 2048 84000 (fun r g' => ∃ x, r = some (.int x) ∧ K x g')) {K23 : Nat → Nat → Nat → Nat → Int32 → GH → Prop} (hK23 : ∀ (l0 : Nat) (l1 : Nat) (l2 : Nat) (l3 : Nat) (l4 : Int32) (g : GH), K23 l0 l1 l2 l3 l4 g → JW Γ E 23 [some (.ref l0), some (.ref l1), some (.ref l2), some (.ref l3), some (.int l4), none, none] [] g) (l0 : Nat) (l1 : Nat) (l2 : Nat) (l3 : Nat) (l4 : Int32) (g : GH) (h : B_LAW_law_228 Γ Z K23 K l0 l1 l2 l3 l4 g) : JW Γ E 228 [some (.ref l0), some (.ref l1), some (.ref l2), some (.ref l3), some (.int l4), none, none] [] g := by
  unfold B_LAW_law_228 at h
  refine j_aload_n hE (by decide +kernel : decode cL_law 228 = .ok (.aload_n 1, 1)) rfl rfl ?_
  refine j_aload_n hE (by decide +kernel : decode cL_law 229 = .ok (.aload_n 0, 1)) rfl rfl ?_
  refine j_iload hE (by decide +kernel : decode cL_law 230 = .ok (.iload 4, 2)) rfl ?_
  refine j_iconst hE (by decide +kernel : decode cL_law 232 = .ok (.iconst 1, 1)) (v := (1 : Int32)) (by decide) ?_
  refine j_iadd hE (by decide +kernel : decode cL_law 233 = .ok (.iadd, 1)) ?_
  obtain ⟨hk, hb, h⟩ := h
  refine j_scr hE hsc hk hb (by decide +kernel : decode cL_law 234 = .ok (.iaload, 1)) ?_
  obtain ⟨hk, h⟩ := h
  refine j_callV hE rfl cl_L_19 cf_11 im_X10_days se_X10_days ⟨by omega, by omega⟩ (As := [.int (z_x Z (l4 + (1 : Int32)).toNatClampNeg)]) (rest := []) rfl rfl (Nat.le_of_ble_eq_true rfl) hk (by decide +kernel : decode cL_law 235 = .ok (.invokevirtual 19, 3)) (mt_PV_days _ _ _ _ h) ?_
  rintro _ g1 ⟨x2, rfl, h⟩
  refine j_aload_n hE (by decide +kernel : decode cL_law 238 = .ok (.aload_n 2, 1)) rfl rfl ?_
  refine j_aload_n hE (by decide +kernel : decode cL_law 239 = .ok (.aload_n 0, 1)) rfl rfl ?_
  refine j_iload hE (by decide +kernel : decode cL_law 240 = .ok (.iload 4, 2)) rfl ?_
  refine j_iconst hE (by decide +kernel : decode cL_law 242 = .ok (.iconst 1, 1)) (v := (1 : Int32)) (by decide) ?_
  refine j_iadd hE (by decide +kernel : decode cL_law 243 = .ok (.iadd, 1)) ?_
  obtain ⟨hk, hb, h⟩ := h
  refine j_scr hE hsc hk hb (by decide +kernel : decode cL_law 244 = .ok (.iaload, 1)) ?_
  obtain ⟨hk, h⟩ := h
  refine j_callV hE rfl cl_L_23 cf_12 im_X11_days se_X11_days ⟨by omega, by omega⟩ (As := [.int (z_x Z (l4 + (1 : Int32)).toNatClampNeg)]) (rest := [.int x2]) rfl rfl (Nat.le_of_ble_eq_true rfl) hk (by decide +kernel : decode cL_law 245 = .ok (.invokevirtual 23, 3)) (mt_M_days _ _ _ _ h) ?_
  rintro _ g3 ⟨x4, rfl, h⟩
  refine j_icmp_eq hE (by decide +kernel : decode cL_law 248 = .ok (.if_icmp .eq 1686, 3)) (tgt := 1934) (by decide) (fun q => ?_) (fun q => ?_)
  · replace h := h.1 q
    exact S_LAW_law_1934 hsc hl hE hK23 _ _ _ _ _ _ h
  · replace h := h.2 q
    refine j_iconst hE (by decide +kernel : decode cL_law 251 = .ok (.iconst 0, 1)) (v := (0 : Int32)) (by decide) ?_
    exact j_zret hE (Or.inl rfl) (by decide +kernel : decode cL_law 252 = .ok (.ireturn, 1)) ⟨_, rfl, h⟩
set_option maxRecDepth 100000 in
def B_LAW_law_23 (Γ : GAM) (Z : SCRT) (K23 : Nat → Nat → Nat → Nat → Int32 → GH → Prop) (K : Int32 → GH → Prop) (l0 : Nat) (l1 : Nat) (l2 : Nat) (l3 : Nat) (l4 : Int32) (g : GH) : Prop :=
  l0 = z_b Z ∧ ((((Int32.ofNat (z_n Z)) - (6 : Int32)) < l4 → K (1 : Int32) g) ∧ (¬ (((Int32.ofNat (z_n Z)) - (6 : Int32)) < l4) → l0 = z_b Z ∧ inB l4 (z_n Z) ∧ ((((z_x Z l4.toNatClampNeg) &&& (63 : Int32)) = (0 : Int32) → B_LAW_law_228 Γ Z K23 K l0 l1 l2 l3 l4 g) ∧ (¬ (((z_x Z l4.toNatClampNeg) &&& (63 : Int32)) = (0 : Int32)) → ((((z_x Z l4.toNatClampNeg) &&& (63 : Int32)) = (1 : Int32) → B_LAW_law_253 Γ Z K23 K l0 l1 l2 l3 l4 g) ∧ (¬ (((z_x Z l4.toNatClampNeg) &&& (63 : Int32)) = (1 : Int32)) → ((((z_x Z l4.toNatClampNeg) &&& (63 : Int32)) = (2 : Int32) → B_LAW_law_302 Γ Z K23 K l0 l1 l2 l3 l4 g) ∧ (¬ (((z_x Z l4.toNatClampNeg) &&& (63 : Int32)) = (2 : Int32)) → ((((z_x Z l4.toNatClampNeg) &&& (63 : Int32)) = (3 : Int32) → B_LAW_law_351 Γ Z K23 K l0 l1 l2 l3 l4 g) ∧ (¬ (((z_x Z l4.toNatClampNeg) &&& (63 : Int32)) = (3 : Int32)) → ((((z_x Z l4.toNatClampNeg) &&& (63 : Int32)) = (4 : Int32) → B_LAW_law_400 Γ Z K23 K l0 l1 l2 l3 l4 g) ∧ (¬ (((z_x Z l4.toNatClampNeg) &&& (63 : Int32)) = (4 : Int32)) → ((((z_x Z l4.toNatClampNeg) &&& (63 : Int32)) = (5 : Int32) → B_LAW_law_449 Γ Z K23 K l0 l1 l2 l3 l4 g) ∧ (¬ (((z_x Z l4.toNatClampNeg) &&& (63 : Int32)) = (5 : Int32)) → ((((z_x Z l4.toNatClampNeg) &&& (63 : Int32)) = (6 : Int32) → B_LAW_law_510 Γ Z K23 K l0 l1 l2 l3 l4 g) ∧ (¬ (((z_x Z l4.toNatClampNeg) &&& (63 : Int32)) = (6 : Int32)) → ((((z_x Z l4.toNatClampNeg) &&& (63 : Int32)) = (7 : Int32) → B_LAW_law_559 Γ Z K23 K l0 l1 l2 l3 l4 g) ∧ (¬ (((z_x Z l4.toNatClampNeg) &&& (63 : Int32)) = (7 : Int32)) → ((((z_x Z l4.toNatClampNeg) &&& (63 : Int32)) = (8 : Int32) → B_LAW_law_596 Γ Z K23 K l0 l1 l2 l3 l4 g) ∧ (¬ (((z_x Z l4.toNatClampNeg) &&& (63 : Int32)) = (8 : Int32)) → ((((z_x Z l4.toNatClampNeg) &&& (63 : Int32)) = (9 : Int32) → B_LAW_law_633 Γ Z K23 K l0 l1 l2 l3 l4 g) ∧ (¬ (((z_x Z l4.toNatClampNeg) &&& (63 : Int32)) = (9 : Int32)) → ((((z_x Z l4.toNatClampNeg) &&& (63 : Int32)) = (10 : Int32) → B_LAW_law_698 Γ Z K23 K l0 l1 l2 l3 l4 g) ∧ (¬ (((z_x Z l4.toNatClampNeg) &&& (63 : Int32)) = (10 : Int32)) → ((((z_x Z l4.toNatClampNeg) &&& (63 : Int32)) = (11 : Int32) → B_LAW_law_735 Γ Z K23 K l0 l1 l2 l3 l4 g) ∧ (¬ (((z_x Z l4.toNatClampNeg) &&& (63 : Int32)) = (11 : Int32)) → ((((z_x Z l4.toNatClampNeg) &&& (63 : Int32)) = (12 : Int32) → B_LAW_law_808 Γ Z K23 K l0 l1 l2 l3 l4 g) ∧ (¬ (((z_x Z l4.toNatClampNeg) &&& (63 : Int32)) = (12 : Int32)) → ((((z_x Z l4.toNatClampNeg) &&& (63 : Int32)) = (13 : Int32) → B_LAW_law_833 Γ Z K23 K l0 l1 l2 l3 l4 g) ∧ (¬ (((z_x Z l4.toNatClampNeg) &&& (63 : Int32)) = (13 : Int32)) → ((((z_x Z l4.toNatClampNeg) &&& (63 : Int32)) = (14 : Int32) → B_LAW_law_846 Γ Z K23 K l0 l1 l2 l3 l4 g) ∧ (¬ (((z_x Z l4.toNatClampNeg) &&& (63 : Int32)) = (14 : Int32)) → ((((z_x Z l4.toNatClampNeg) &&& (63 : Int32)) = (15 : Int32) → B_LAW_law_883 Γ Z K23 K l0 l1 l2 l3 l4 g) ∧ (¬ (((z_x Z l4.toNatClampNeg) &&& (63 : Int32)) = (15 : Int32)) → ((((z_x Z l4.toNatClampNeg) &&& (63 : Int32)) = (16 : Int32) → B_LAW_law_932 Γ Z K23 K l0 l1 l2 l3 l4 g) ∧ (¬ (((z_x Z l4.toNatClampNeg) &&& (63 : Int32)) = (16 : Int32)) → ((((z_x Z l4.toNatClampNeg) &&& (63 : Int32)) = (17 : Int32) → B_LAW_law_1012 Γ Z K23 K l0 l1 l2 l3 l4 g) ∧ (¬ (((z_x Z l4.toNatClampNeg) &&& (63 : Int32)) = (17 : Int32)) → ((((z_x Z l4.toNatClampNeg) &&& (63 : Int32)) = (18 : Int32) → B_LAW_law_1049 Γ Z K23 K l0 l1 l2 l3 l4 g) ∧ (¬ (((z_x Z l4.toNatClampNeg) &&& (63 : Int32)) = (18 : Int32)) → ((((z_x Z l4.toNatClampNeg) &&& (63 : Int32)) = (19 : Int32) → B_LAW_law_1086 Γ Z K23 K l0 l1 l2 l3 l4 g) ∧ (¬ (((z_x Z l4.toNatClampNeg) &&& (63 : Int32)) = (19 : Int32)) → ((((z_x Z l4.toNatClampNeg) &&& (63 : Int32)) = (20 : Int32) → B_LAW_law_1123 Γ Z K23 K l0 l1 l2 l3 l4 g) ∧ (¬ (((z_x Z l4.toNatClampNeg) &&& (63 : Int32)) = (20 : Int32)) → ((((z_x Z l4.toNatClampNeg) &&& (63 : Int32)) = (21 : Int32) → B_LAW_law_1160 Γ Z K23 K l0 l1 l2 l3 l4 g) ∧ (¬ (((z_x Z l4.toNatClampNeg) &&& (63 : Int32)) = (21 : Int32)) → ((((z_x Z l4.toNatClampNeg) &&& (63 : Int32)) = (22 : Int32) → B_LAW_law_1185 Γ Z K23 K l0 l1 l2 l3 l4 g) ∧ (¬ (((z_x Z l4.toNatClampNeg) &&& (63 : Int32)) = (22 : Int32)) → ((((z_x Z l4.toNatClampNeg) &&& (63 : Int32)) = (23 : Int32) → B_LAW_law_1234 Γ Z K23 K l0 l1 l2 l3 l4 g) ∧ (¬ (((z_x Z l4.toNatClampNeg) &&& (63 : Int32)) = (23 : Int32)) → ((((z_x Z l4.toNatClampNeg) &&& (63 : Int32)) = (24 : Int32) → B_LAW_law_1283 Γ Z K23 K l0 l1 l2 l3 l4 g) ∧ (¬ (((z_x Z l4.toNatClampNeg) &&& (63 : Int32)) = (24 : Int32)) → ((((z_x Z l4.toNatClampNeg) &&& (63 : Int32)) = (25 : Int32) → B_LAW_law_1296 Γ Z K23 K l0 l1 l2 l3 l4 g) ∧ (¬ (((z_x Z l4.toNatClampNeg) &&& (63 : Int32)) = (25 : Int32)) → ((((z_x Z l4.toNatClampNeg) &&& (63 : Int32)) = (26 : Int32) → B_LAW_law_1321 Γ Z K23 K l0 l1 l2 l3 l4 g) ∧ (¬ (((z_x Z l4.toNatClampNeg) &&& (63 : Int32)) = (26 : Int32)) → ((((z_x Z l4.toNatClampNeg) &&& (63 : Int32)) = (27 : Int32) → B_LAW_law_1402 Γ Z K23 K l0 l1 l2 l3 l4 g) ∧ (¬ (((z_x Z l4.toNatClampNeg) &&& (63 : Int32)) = (27 : Int32)) → ((((z_x Z l4.toNatClampNeg) &&& (63 : Int32)) = (28 : Int32) → B_LAW_law_1451 Γ Z K23 K l0 l1 l2 l3 l4 g) ∧ (¬ (((z_x Z l4.toNatClampNeg) &&& (63 : Int32)) = (28 : Int32)) → ((((z_x Z l4.toNatClampNeg) &&& (63 : Int32)) = (29 : Int32) → B_LAW_law_1476 Γ Z K23 K l0 l1 l2 l3 l4 g) ∧ (¬ (((z_x Z l4.toNatClampNeg) &&& (63 : Int32)) = (29 : Int32)) → ((((z_x Z l4.toNatClampNeg) &&& (63 : Int32)) = (30 : Int32) → B_LAW_law_1501 Γ Z K23 K l0 l1 l2 l3 l4 g) ∧ (¬ (((z_x Z l4.toNatClampNeg) &&& (63 : Int32)) = (30 : Int32)) → ((((z_x Z l4.toNatClampNeg) &&& (63 : Int32)) = (31 : Int32) → B_LAW_law_1514 Γ Z K23 K l0 l1 l2 l3 l4 g) ∧ (¬ (((z_x Z l4.toNatClampNeg) &&& (63 : Int32)) = (31 : Int32)) → ((((z_x Z l4.toNatClampNeg) &&& (63 : Int32)) = (32 : Int32) → B_LAW_law_1563 Γ Z K23 K l0 l1 l2 l3 l4 g) ∧ (¬ (((z_x Z l4.toNatClampNeg) &&& (63 : Int32)) = (32 : Int32)) → ((((z_x Z l4.toNatClampNeg) &&& (63 : Int32)) = (33 : Int32) → B_LAW_law_1612 Γ Z K23 K l0 l1 l2 l3 l4 g) ∧ (¬ (((z_x Z l4.toNatClampNeg) &&& (63 : Int32)) = (33 : Int32)) → ((((z_x Z l4.toNatClampNeg) &&& (63 : Int32)) = (34 : Int32) → B_LAW_law_1637 Γ Z K23 K l0 l1 l2 l3 l4 g) ∧ (¬ (((z_x Z l4.toNatClampNeg) &&& (63 : Int32)) = (34 : Int32)) → ((((z_x Z l4.toNatClampNeg) &&& (63 : Int32)) = (35 : Int32) → B_LAW_law_1662 Γ Z K23 K l0 l1 l2 l3 l4 g) ∧ (¬ (((z_x Z l4.toNatClampNeg) &&& (63 : Int32)) = (35 : Int32)) → ((((z_x Z l4.toNatClampNeg) &&& (63 : Int32)) = (36 : Int32) → B_LAW_law_1699 Γ Z K23 K l0 l1 l2 l3 l4 g) ∧ (¬ (((z_x Z l4.toNatClampNeg) &&& (63 : Int32)) = (36 : Int32)) → ((((z_x Z l4.toNatClampNeg) &&& (63 : Int32)) = (37 : Int32) → B_LAW_law_1736 Γ Z K23 K l0 l1 l2 l3 l4 g) ∧ (¬ (((z_x Z l4.toNatClampNeg) &&& (63 : Int32)) = (37 : Int32)) → ((((z_x Z l4.toNatClampNeg) &&& (63 : Int32)) = (38 : Int32) → B_LAW_law_1773 Γ Z K23 K l0 l1 l2 l3 l4 g) ∧ (¬ (((z_x Z l4.toNatClampNeg) &&& (63 : Int32)) = (38 : Int32)) → ((((z_x Z l4.toNatClampNeg) &&& (63 : Int32)) = (39 : Int32) → B_LAW_law_1798 Γ Z K23 K l0 l1 l2 l3 l4 g) ∧ (¬ (((z_x Z l4.toNatClampNeg) &&& (63 : Int32)) = (39 : Int32)) → ((((z_x Z l4.toNatClampNeg) &&& (63 : Int32)) = (40 : Int32) → B_LAW_law_1823 Γ Z K23 K l0 l1 l2 l3 l4 g) ∧ (¬ (((z_x Z l4.toNatClampNeg) &&& (63 : Int32)) = (40 : Int32)) → ((((z_x Z l4.toNatClampNeg) &&& (63 : Int32)) = (41 : Int32) → B_LAW_law_1860 Γ Z K23 K l0 l1 l2 l3 l4 g) ∧ (¬ (((z_x Z l4.toNatClampNeg) &&& (63 : Int32)) = (41 : Int32)) → ((((z_x Z l4.toNatClampNeg) &&& (63 : Int32)) = (42 : Int32) → B_LAW_law_1909 Γ Z K23 K l0 l1 l2 l3 l4 g) ∧ (¬ (((z_x Z l4.toNatClampNeg) &&& (63 : Int32)) = (42 : Int32)) → B_LAW_law_1934 Γ Z K23 K l0 l1 l2 l3 l4 g))))))))))))))))))))))))))))))))))))))))))))))))))))))))))))))))))))))))))))))))))))))))
set_option maxHeartbeats 4000000 in
set_option maxRecDepth 100000 in
theorem S_LAW_law_23 {Γ : GAM} {Z : SCRT} {E : EV} {K : Int32 → GH → Prop} (hsc : SCR Γ E Z) (hl : E.2.1.stackTraces = false) (hE : GE Γ E cL_law 7 RL (some (.boolean)) 2048 84000 (fun r g' => ∃ x, r = some (.int x) ∧ K x g')) {K23 : Nat → Nat → Nat → Nat → Int32 → GH → Prop} (hK23 : ∀ (l0 : Nat) (l1 : Nat) (l2 : Nat) (l3 : Nat) (l4 : Int32) (g : GH), K23 l0 l1 l2 l3 l4 g → JW Γ E 23 [some (.ref l0), some (.ref l1), some (.ref l2), some (.ref l3), some (.int l4), none, none] [] g) (l0 : Nat) (l1 : Nat) (l2 : Nat) (l3 : Nat) (l4 : Int32) (g : GH) (h : B_LAW_law_23 Γ Z K23 K l0 l1 l2 l3 l4 g) : JW Γ E 23 [some (.ref l0), some (.ref l1), some (.ref l2), some (.ref l3), some (.int l4), none, none] [] g := by
  unfold B_LAW_law_23 at h
  refine j_iload hE (by decide +kernel : decode cL_law 23 = .ok (.iload 4, 2)) rfl ?_
  refine j_aload_n hE (by decide +kernel : decode cL_law 25 = .ok (.aload_n 0, 1)) rfl rfl ?_
  obtain ⟨hk, h⟩ := h
  refine j_scrLen hE hsc hk (by decide +kernel : decode cL_law 26 = .ok (.arraylength, 1)) ?_
  refine j_bipush hE (by decide +kernel : decode cL_law 27 = .ok (.bipush 6, 2)) (v := (6 : Int32)) (by decide) ?_
  refine j_isub hE (by decide +kernel : decode cL_law 29 = .ok (.isub, 1)) ?_
  refine j_icmp_gt hE (by decide +kernel : decode cL_law 30 = .ok (.if_icmp .gt 1910, 3)) (tgt := 1940) (by decide) (fun q => ?_) (fun q => ?_)
  · replace h := h.1 q
    refine j_iconst hE (by decide +kernel : decode cL_law 1940 = .ok (.iconst 1, 1)) (v := (1 : Int32)) (by decide) ?_
    exact j_zret hE (Or.inr rfl) (by decide +kernel : decode cL_law 1941 = .ok (.ireturn, 1)) ⟨_, rfl, h⟩
  · replace h := h.2 q
    refine j_aload_n hE (by decide +kernel : decode cL_law 33 = .ok (.aload_n 0, 1)) rfl rfl ?_
    refine j_iload hE (by decide +kernel : decode cL_law 34 = .ok (.iload 4, 2)) rfl ?_
    obtain ⟨hk, hb, h⟩ := h
    refine j_scr hE hsc hk hb (by decide +kernel : decode cL_law 36 = .ok (.iaload, 1)) ?_
    refine j_bipush hE (by decide +kernel : decode cL_law 37 = .ok (.bipush 63, 2)) (v := (63 : Int32)) (by decide) ?_
    refine j_iand hE (by decide +kernel : decode cL_law 39 = .ok (.iand, 1)) ?_
    by_cases q0 : ((z_x Z l4.toNatClampNeg) &&& (63 : Int32)) = (0 : Int32)
    · replace h := h.1 q0
      refine j_tableIn hE (by decide +kernel : decode cL_law 40 = .ok (.tableswitch 1894 0 42 #[188, 213, 262, 311, 360, 409, 470, 519, 556, 593, 658, 695, 768, 793, 806, 843, 892, 972, 1009, 1046, 1083, 1120, 1145, 1194, 1243, 1256, 1281, 1362, 1411, 1436, 1461, 1474, 1523, 1572, 1597, 1622, 1659, 1696, 1733, 1758, 1783, 1820, 1869], 188)) (by rw [q0]; decide) (by rw [q0]; decide) (off := 188) (by rw [q0]; decide) (tgt := 228) (by decide) ?_
      exact S_LAW_law_228 hsc hl hE hK23 _ _ _ _ _ _ h
    · replace h := h.2 q0
      by_cases q1 : ((z_x Z l4.toNatClampNeg) &&& (63 : Int32)) = (1 : Int32)
      · replace h := h.1 q1
        refine j_tableIn hE (by decide +kernel : decode cL_law 40 = .ok (.tableswitch 1894 0 42 #[188, 213, 262, 311, 360, 409, 470, 519, 556, 593, 658, 695, 768, 793, 806, 843, 892, 972, 1009, 1046, 1083, 1120, 1145, 1194, 1243, 1256, 1281, 1362, 1411, 1436, 1461, 1474, 1523, 1572, 1597, 1622, 1659, 1696, 1733, 1758, 1783, 1820, 1869], 188)) (by rw [q1]; decide) (by rw [q1]; decide) (off := 213) (by rw [q1]; decide) (tgt := 253) (by decide) ?_
        exact S_LAW_law_253 hsc hl hE hK23 _ _ _ _ _ _ h
      · replace h := h.2 q1
        by_cases q2 : ((z_x Z l4.toNatClampNeg) &&& (63 : Int32)) = (2 : Int32)
        · replace h := h.1 q2
          refine j_tableIn hE (by decide +kernel : decode cL_law 40 = .ok (.tableswitch 1894 0 42 #[188, 213, 262, 311, 360, 409, 470, 519, 556, 593, 658, 695, 768, 793, 806, 843, 892, 972, 1009, 1046, 1083, 1120, 1145, 1194, 1243, 1256, 1281, 1362, 1411, 1436, 1461, 1474, 1523, 1572, 1597, 1622, 1659, 1696, 1733, 1758, 1783, 1820, 1869], 188)) (by rw [q2]; decide) (by rw [q2]; decide) (off := 262) (by rw [q2]; decide) (tgt := 302) (by decide) ?_
          exact S_LAW_law_302 hsc hl hE hK23 _ _ _ _ _ _ h
        · replace h := h.2 q2
          by_cases q3 : ((z_x Z l4.toNatClampNeg) &&& (63 : Int32)) = (3 : Int32)
          · replace h := h.1 q3
            refine j_tableIn hE (by decide +kernel : decode cL_law 40 = .ok (.tableswitch 1894 0 42 #[188, 213, 262, 311, 360, 409, 470, 519, 556, 593, 658, 695, 768, 793, 806, 843, 892, 972, 1009, 1046, 1083, 1120, 1145, 1194, 1243, 1256, 1281, 1362, 1411, 1436, 1461, 1474, 1523, 1572, 1597, 1622, 1659, 1696, 1733, 1758, 1783, 1820, 1869], 188)) (by rw [q3]; decide) (by rw [q3]; decide) (off := 311) (by rw [q3]; decide) (tgt := 351) (by decide) ?_
            exact S_LAW_law_351 hsc hl hE hK23 _ _ _ _ _ _ h
          · replace h := h.2 q3
            by_cases q4 : ((z_x Z l4.toNatClampNeg) &&& (63 : Int32)) = (4 : Int32)
            · replace h := h.1 q4
              refine j_tableIn hE (by decide +kernel : decode cL_law 40 = .ok (.tableswitch 1894 0 42 #[188, 213, 262, 311, 360, 409, 470, 519, 556, 593, 658, 695, 768, 793, 806, 843, 892, 972, 1009, 1046, 1083, 1120, 1145, 1194, 1243, 1256, 1281, 1362, 1411, 1436, 1461, 1474, 1523, 1572, 1597, 1622, 1659, 1696, 1733, 1758, 1783, 1820, 1869], 188)) (by rw [q4]; decide) (by rw [q4]; decide) (off := 360) (by rw [q4]; decide) (tgt := 400) (by decide) ?_
              exact S_LAW_law_400 hsc hl hE hK23 _ _ _ _ _ _ h
            · replace h := h.2 q4
              by_cases q5 : ((z_x Z l4.toNatClampNeg) &&& (63 : Int32)) = (5 : Int32)
              · replace h := h.1 q5
                refine j_tableIn hE (by decide +kernel : decode cL_law 40 = .ok (.tableswitch 1894 0 42 #[188, 213, 262, 311, 360, 409, 470, 519, 556, 593, 658, 695, 768, 793, 806, 843, 892, 972, 1009, 1046, 1083, 1120, 1145, 1194, 1243, 1256, 1281, 1362, 1411, 1436, 1461, 1474, 1523, 1572, 1597, 1622, 1659, 1696, 1733, 1758, 1783, 1820, 1869], 188)) (by rw [q5]; decide) (by rw [q5]; decide) (off := 409) (by rw [q5]; decide) (tgt := 449) (by decide) ?_
                exact S_LAW_law_449 hsc hl hE hK23 _ _ _ _ _ _ h
              · replace h := h.2 q5
                by_cases q6 : ((z_x Z l4.toNatClampNeg) &&& (63 : Int32)) = (6 : Int32)
                · replace h := h.1 q6
                  refine j_tableIn hE (by decide +kernel : decode cL_law 40 = .ok (.tableswitch 1894 0 42 #[188, 213, 262, 311, 360, 409, 470, 519, 556, 593, 658, 695, 768, 793, 806, 843, 892, 972, 1009, 1046, 1083, 1120, 1145, 1194, 1243, 1256, 1281, 1362, 1411, 1436, 1461, 1474, 1523, 1572, 1597, 1622, 1659, 1696, 1733, 1758, 1783, 1820, 1869], 188)) (by rw [q6]; decide) (by rw [q6]; decide) (off := 470) (by rw [q6]; decide) (tgt := 510) (by decide) ?_
                  exact S_LAW_law_510 hsc hl hE hK23 _ _ _ _ _ _ h
                · replace h := h.2 q6
                  by_cases q7 : ((z_x Z l4.toNatClampNeg) &&& (63 : Int32)) = (7 : Int32)
                  · replace h := h.1 q7
                    refine j_tableIn hE (by decide +kernel : decode cL_law 40 = .ok (.tableswitch 1894 0 42 #[188, 213, 262, 311, 360, 409, 470, 519, 556, 593, 658, 695, 768, 793, 806, 843, 892, 972, 1009, 1046, 1083, 1120, 1145, 1194, 1243, 1256, 1281, 1362, 1411, 1436, 1461, 1474, 1523, 1572, 1597, 1622, 1659, 1696, 1733, 1758, 1783, 1820, 1869], 188)) (by rw [q7]; decide) (by rw [q7]; decide) (off := 519) (by rw [q7]; decide) (tgt := 559) (by decide) ?_
                    exact S_LAW_law_559 hsc hl hE hK23 _ _ _ _ _ _ h
                  · replace h := h.2 q7
                    by_cases q8 : ((z_x Z l4.toNatClampNeg) &&& (63 : Int32)) = (8 : Int32)
                    · replace h := h.1 q8
                      refine j_tableIn hE (by decide +kernel : decode cL_law 40 = .ok (.tableswitch 1894 0 42 #[188, 213, 262, 311, 360, 409, 470, 519, 556, 593, 658, 695, 768, 793, 806, 843, 892, 972, 1009, 1046, 1083, 1120, 1145, 1194, 1243, 1256, 1281, 1362, 1411, 1436, 1461, 1474, 1523, 1572, 1597, 1622, 1659, 1696, 1733, 1758, 1783, 1820, 1869], 188)) (by rw [q8]; decide) (by rw [q8]; decide) (off := 556) (by rw [q8]; decide) (tgt := 596) (by decide) ?_
                      exact S_LAW_law_596 hsc hl hE hK23 _ _ _ _ _ _ h
                    · replace h := h.2 q8
                      by_cases q9 : ((z_x Z l4.toNatClampNeg) &&& (63 : Int32)) = (9 : Int32)
                      · replace h := h.1 q9
                        refine j_tableIn hE (by decide +kernel : decode cL_law 40 = .ok (.tableswitch 1894 0 42 #[188, 213, 262, 311, 360, 409, 470, 519, 556, 593, 658, 695, 768, 793, 806, 843, 892, 972, 1009, 1046, 1083, 1120, 1145, 1194, 1243, 1256, 1281, 1362, 1411, 1436, 1461, 1474, 1523, 1572, 1597, 1622, 1659, 1696, 1733, 1758, 1783, 1820, 1869], 188)) (by rw [q9]; decide) (by rw [q9]; decide) (off := 593) (by rw [q9]; decide) (tgt := 633) (by decide) ?_
                        exact S_LAW_law_633 hsc hl hE hK23 _ _ _ _ _ _ h
                      · replace h := h.2 q9
                        by_cases q10 : ((z_x Z l4.toNatClampNeg) &&& (63 : Int32)) = (10 : Int32)
                        · replace h := h.1 q10
                          refine j_tableIn hE (by decide +kernel : decode cL_law 40 = .ok (.tableswitch 1894 0 42 #[188, 213, 262, 311, 360, 409, 470, 519, 556, 593, 658, 695, 768, 793, 806, 843, 892, 972, 1009, 1046, 1083, 1120, 1145, 1194, 1243, 1256, 1281, 1362, 1411, 1436, 1461, 1474, 1523, 1572, 1597, 1622, 1659, 1696, 1733, 1758, 1783, 1820, 1869], 188)) (by rw [q10]; decide) (by rw [q10]; decide) (off := 658) (by rw [q10]; decide) (tgt := 698) (by decide) ?_
                          exact S_LAW_law_698 hsc hl hE hK23 _ _ _ _ _ _ h
                        · replace h := h.2 q10
                          by_cases q11 : ((z_x Z l4.toNatClampNeg) &&& (63 : Int32)) = (11 : Int32)
                          · replace h := h.1 q11
                            refine j_tableIn hE (by decide +kernel : decode cL_law 40 = .ok (.tableswitch 1894 0 42 #[188, 213, 262, 311, 360, 409, 470, 519, 556, 593, 658, 695, 768, 793, 806, 843, 892, 972, 1009, 1046, 1083, 1120, 1145, 1194, 1243, 1256, 1281, 1362, 1411, 1436, 1461, 1474, 1523, 1572, 1597, 1622, 1659, 1696, 1733, 1758, 1783, 1820, 1869], 188)) (by rw [q11]; decide) (by rw [q11]; decide) (off := 695) (by rw [q11]; decide) (tgt := 735) (by decide) ?_
                            exact S_LAW_law_735 hsc hl hE hK23 _ _ _ _ _ _ h
                          · replace h := h.2 q11
                            by_cases q12 : ((z_x Z l4.toNatClampNeg) &&& (63 : Int32)) = (12 : Int32)
                            · replace h := h.1 q12
                              refine j_tableIn hE (by decide +kernel : decode cL_law 40 = .ok (.tableswitch 1894 0 42 #[188, 213, 262, 311, 360, 409, 470, 519, 556, 593, 658, 695, 768, 793, 806, 843, 892, 972, 1009, 1046, 1083, 1120, 1145, 1194, 1243, 1256, 1281, 1362, 1411, 1436, 1461, 1474, 1523, 1572, 1597, 1622, 1659, 1696, 1733, 1758, 1783, 1820, 1869], 188)) (by rw [q12]; decide) (by rw [q12]; decide) (off := 768) (by rw [q12]; decide) (tgt := 808) (by decide) ?_
                              exact S_LAW_law_808 hsc hl hE hK23 _ _ _ _ _ _ h
                            · replace h := h.2 q12
                              by_cases q13 : ((z_x Z l4.toNatClampNeg) &&& (63 : Int32)) = (13 : Int32)
                              · replace h := h.1 q13
                                refine j_tableIn hE (by decide +kernel : decode cL_law 40 = .ok (.tableswitch 1894 0 42 #[188, 213, 262, 311, 360, 409, 470, 519, 556, 593, 658, 695, 768, 793, 806, 843, 892, 972, 1009, 1046, 1083, 1120, 1145, 1194, 1243, 1256, 1281, 1362, 1411, 1436, 1461, 1474, 1523, 1572, 1597, 1622, 1659, 1696, 1733, 1758, 1783, 1820, 1869], 188)) (by rw [q13]; decide) (by rw [q13]; decide) (off := 793) (by rw [q13]; decide) (tgt := 833) (by decide) ?_
                                exact S_LAW_law_833 hsc hl hE hK23 _ _ _ _ _ _ h
                              · replace h := h.2 q13
                                by_cases q14 : ((z_x Z l4.toNatClampNeg) &&& (63 : Int32)) = (14 : Int32)
                                · replace h := h.1 q14
                                  refine j_tableIn hE (by decide +kernel : decode cL_law 40 = .ok (.tableswitch 1894 0 42 #[188, 213, 262, 311, 360, 409, 470, 519, 556, 593, 658, 695, 768, 793, 806, 843, 892, 972, 1009, 1046, 1083, 1120, 1145, 1194, 1243, 1256, 1281, 1362, 1411, 1436, 1461, 1474, 1523, 1572, 1597, 1622, 1659, 1696, 1733, 1758, 1783, 1820, 1869], 188)) (by rw [q14]; decide) (by rw [q14]; decide) (off := 806) (by rw [q14]; decide) (tgt := 846) (by decide) ?_
                                  exact S_LAW_law_846 hsc hl hE hK23 _ _ _ _ _ _ h
                                · replace h := h.2 q14
                                  by_cases q15 : ((z_x Z l4.toNatClampNeg) &&& (63 : Int32)) = (15 : Int32)
                                  · replace h := h.1 q15
                                    refine j_tableIn hE (by decide +kernel : decode cL_law 40 = .ok (.tableswitch 1894 0 42 #[188, 213, 262, 311, 360, 409, 470, 519, 556, 593, 658, 695, 768, 793, 806, 843, 892, 972, 1009, 1046, 1083, 1120, 1145, 1194, 1243, 1256, 1281, 1362, 1411, 1436, 1461, 1474, 1523, 1572, 1597, 1622, 1659, 1696, 1733, 1758, 1783, 1820, 1869], 188)) (by rw [q15]; decide) (by rw [q15]; decide) (off := 843) (by rw [q15]; decide) (tgt := 883) (by decide) ?_
                                    exact S_LAW_law_883 hsc hl hE hK23 _ _ _ _ _ _ h
                                  · replace h := h.2 q15
                                    by_cases q16 : ((z_x Z l4.toNatClampNeg) &&& (63 : Int32)) = (16 : Int32)
                                    · replace h := h.1 q16
                                      refine j_tableIn hE (by decide +kernel : decode cL_law 40 = .ok (.tableswitch 1894 0 42 #[188, 213, 262, 311, 360, 409, 470, 519, 556, 593, 658, 695, 768, 793, 806, 843, 892, 972, 1009, 1046, 1083, 1120, 1145, 1194, 1243, 1256, 1281, 1362, 1411, 1436, 1461, 1474, 1523, 1572, 1597, 1622, 1659, 1696, 1733, 1758, 1783, 1820, 1869], 188)) (by rw [q16]; decide) (by rw [q16]; decide) (off := 892) (by rw [q16]; decide) (tgt := 932) (by decide) ?_
                                      exact S_LAW_law_932 hsc hl hE hK23 _ _ _ _ _ _ h
                                    · replace h := h.2 q16
                                      by_cases q17 : ((z_x Z l4.toNatClampNeg) &&& (63 : Int32)) = (17 : Int32)
                                      · replace h := h.1 q17
                                        refine j_tableIn hE (by decide +kernel : decode cL_law 40 = .ok (.tableswitch 1894 0 42 #[188, 213, 262, 311, 360, 409, 470, 519, 556, 593, 658, 695, 768, 793, 806, 843, 892, 972, 1009, 1046, 1083, 1120, 1145, 1194, 1243, 1256, 1281, 1362, 1411, 1436, 1461, 1474, 1523, 1572, 1597, 1622, 1659, 1696, 1733, 1758, 1783, 1820, 1869], 188)) (by rw [q17]; decide) (by rw [q17]; decide) (off := 972) (by rw [q17]; decide) (tgt := 1012) (by decide) ?_
                                        exact S_LAW_law_1012 hsc hl hE hK23 _ _ _ _ _ _ h
                                      · replace h := h.2 q17
                                        by_cases q18 : ((z_x Z l4.toNatClampNeg) &&& (63 : Int32)) = (18 : Int32)
                                        · replace h := h.1 q18
                                          refine j_tableIn hE (by decide +kernel : decode cL_law 40 = .ok (.tableswitch 1894 0 42 #[188, 213, 262, 311, 360, 409, 470, 519, 556, 593, 658, 695, 768, 793, 806, 843, 892, 972, 1009, 1046, 1083, 1120, 1145, 1194, 1243, 1256, 1281, 1362, 1411, 1436, 1461, 1474, 1523, 1572, 1597, 1622, 1659, 1696, 1733, 1758, 1783, 1820, 1869], 188)) (by rw [q18]; decide) (by rw [q18]; decide) (off := 1009) (by rw [q18]; decide) (tgt := 1049) (by decide) ?_
                                          exact S_LAW_law_1049 hsc hl hE hK23 _ _ _ _ _ _ h
                                        · replace h := h.2 q18
                                          by_cases q19 : ((z_x Z l4.toNatClampNeg) &&& (63 : Int32)) = (19 : Int32)
                                          · replace h := h.1 q19
                                            refine j_tableIn hE (by decide +kernel : decode cL_law 40 = .ok (.tableswitch 1894 0 42 #[188, 213, 262, 311, 360, 409, 470, 519, 556, 593, 658, 695, 768, 793, 806, 843, 892, 972, 1009, 1046, 1083, 1120, 1145, 1194, 1243, 1256, 1281, 1362, 1411, 1436, 1461, 1474, 1523, 1572, 1597, 1622, 1659, 1696, 1733, 1758, 1783, 1820, 1869], 188)) (by rw [q19]; decide) (by rw [q19]; decide) (off := 1046) (by rw [q19]; decide) (tgt := 1086) (by decide) ?_
                                            exact S_LAW_law_1086 hsc hl hE hK23 _ _ _ _ _ _ h
                                          · replace h := h.2 q19
                                            by_cases q20 : ((z_x Z l4.toNatClampNeg) &&& (63 : Int32)) = (20 : Int32)
                                            · replace h := h.1 q20
                                              refine j_tableIn hE (by decide +kernel : decode cL_law 40 = .ok (.tableswitch 1894 0 42 #[188, 213, 262, 311, 360, 409, 470, 519, 556, 593, 658, 695, 768, 793, 806, 843, 892, 972, 1009, 1046, 1083, 1120, 1145, 1194, 1243, 1256, 1281, 1362, 1411, 1436, 1461, 1474, 1523, 1572, 1597, 1622, 1659, 1696, 1733, 1758, 1783, 1820, 1869], 188)) (by rw [q20]; decide) (by rw [q20]; decide) (off := 1083) (by rw [q20]; decide) (tgt := 1123) (by decide) ?_
                                              exact S_LAW_law_1123 hsc hl hE hK23 _ _ _ _ _ _ h
                                            · replace h := h.2 q20
                                              by_cases q21 : ((z_x Z l4.toNatClampNeg) &&& (63 : Int32)) = (21 : Int32)
                                              · replace h := h.1 q21
                                                refine j_tableIn hE (by decide +kernel : decode cL_law 40 = .ok (.tableswitch 1894 0 42 #[188, 213, 262, 311, 360, 409, 470, 519, 556, 593, 658, 695, 768, 793, 806, 843, 892, 972, 1009, 1046, 1083, 1120, 1145, 1194, 1243, 1256, 1281, 1362, 1411, 1436, 1461, 1474, 1523, 1572, 1597, 1622, 1659, 1696, 1733, 1758, 1783, 1820, 1869], 188)) (by rw [q21]; decide) (by rw [q21]; decide) (off := 1120) (by rw [q21]; decide) (tgt := 1160) (by decide) ?_
                                                exact S_LAW_law_1160 hsc hl hE hK23 _ _ _ _ _ _ h
                                              · replace h := h.2 q21
                                                by_cases q22 : ((z_x Z l4.toNatClampNeg) &&& (63 : Int32)) = (22 : Int32)
                                                · replace h := h.1 q22
                                                  refine j_tableIn hE (by decide +kernel : decode cL_law 40 = .ok (.tableswitch 1894 0 42 #[188, 213, 262, 311, 360, 409, 470, 519, 556, 593, 658, 695, 768, 793, 806, 843, 892, 972, 1009, 1046, 1083, 1120, 1145, 1194, 1243, 1256, 1281, 1362, 1411, 1436, 1461, 1474, 1523, 1572, 1597, 1622, 1659, 1696, 1733, 1758, 1783, 1820, 1869], 188)) (by rw [q22]; decide) (by rw [q22]; decide) (off := 1145) (by rw [q22]; decide) (tgt := 1185) (by decide) ?_
                                                  exact S_LAW_law_1185 hsc hl hE hK23 _ _ _ _ _ _ h
                                                · replace h := h.2 q22
                                                  by_cases q23 : ((z_x Z l4.toNatClampNeg) &&& (63 : Int32)) = (23 : Int32)
                                                  · replace h := h.1 q23
                                                    refine j_tableIn hE (by decide +kernel : decode cL_law 40 = .ok (.tableswitch 1894 0 42 #[188, 213, 262, 311, 360, 409, 470, 519, 556, 593, 658, 695, 768, 793, 806, 843, 892, 972, 1009, 1046, 1083, 1120, 1145, 1194, 1243, 1256, 1281, 1362, 1411, 1436, 1461, 1474, 1523, 1572, 1597, 1622, 1659, 1696, 1733, 1758, 1783, 1820, 1869], 188)) (by rw [q23]; decide) (by rw [q23]; decide) (off := 1194) (by rw [q23]; decide) (tgt := 1234) (by decide) ?_
                                                    exact S_LAW_law_1234 hsc hl hE hK23 _ _ _ _ _ _ h
                                                  · replace h := h.2 q23
                                                    by_cases q24 : ((z_x Z l4.toNatClampNeg) &&& (63 : Int32)) = (24 : Int32)
                                                    · replace h := h.1 q24
                                                      refine j_tableIn hE (by decide +kernel : decode cL_law 40 = .ok (.tableswitch 1894 0 42 #[188, 213, 262, 311, 360, 409, 470, 519, 556, 593, 658, 695, 768, 793, 806, 843, 892, 972, 1009, 1046, 1083, 1120, 1145, 1194, 1243, 1256, 1281, 1362, 1411, 1436, 1461, 1474, 1523, 1572, 1597, 1622, 1659, 1696, 1733, 1758, 1783, 1820, 1869], 188)) (by rw [q24]; decide) (by rw [q24]; decide) (off := 1243) (by rw [q24]; decide) (tgt := 1283) (by decide) ?_
                                                      exact S_LAW_law_1283 hsc hl hE hK23 _ _ _ _ _ _ h
                                                    · replace h := h.2 q24
                                                      by_cases q25 : ((z_x Z l4.toNatClampNeg) &&& (63 : Int32)) = (25 : Int32)
                                                      · replace h := h.1 q25
                                                        refine j_tableIn hE (by decide +kernel : decode cL_law 40 = .ok (.tableswitch 1894 0 42 #[188, 213, 262, 311, 360, 409, 470, 519, 556, 593, 658, 695, 768, 793, 806, 843, 892, 972, 1009, 1046, 1083, 1120, 1145, 1194, 1243, 1256, 1281, 1362, 1411, 1436, 1461, 1474, 1523, 1572, 1597, 1622, 1659, 1696, 1733, 1758, 1783, 1820, 1869], 188)) (by rw [q25]; decide) (by rw [q25]; decide) (off := 1256) (by rw [q25]; decide) (tgt := 1296) (by decide) ?_
                                                        exact S_LAW_law_1296 hsc hl hE hK23 _ _ _ _ _ _ h
                                                      · replace h := h.2 q25
                                                        by_cases q26 : ((z_x Z l4.toNatClampNeg) &&& (63 : Int32)) = (26 : Int32)
                                                        · replace h := h.1 q26
                                                          refine j_tableIn hE (by decide +kernel : decode cL_law 40 = .ok (.tableswitch 1894 0 42 #[188, 213, 262, 311, 360, 409, 470, 519, 556, 593, 658, 695, 768, 793, 806, 843, 892, 972, 1009, 1046, 1083, 1120, 1145, 1194, 1243, 1256, 1281, 1362, 1411, 1436, 1461, 1474, 1523, 1572, 1597, 1622, 1659, 1696, 1733, 1758, 1783, 1820, 1869], 188)) (by rw [q26]; decide) (by rw [q26]; decide) (off := 1281) (by rw [q26]; decide) (tgt := 1321) (by decide) ?_
                                                          exact S_LAW_law_1321 hsc hl hE hK23 _ _ _ _ _ _ h
                                                        · replace h := h.2 q26
                                                          by_cases q27 : ((z_x Z l4.toNatClampNeg) &&& (63 : Int32)) = (27 : Int32)
                                                          · replace h := h.1 q27
                                                            refine j_tableIn hE (by decide +kernel : decode cL_law 40 = .ok (.tableswitch 1894 0 42 #[188, 213, 262, 311, 360, 409, 470, 519, 556, 593, 658, 695, 768, 793, 806, 843, 892, 972, 1009, 1046, 1083, 1120, 1145, 1194, 1243, 1256, 1281, 1362, 1411, 1436, 1461, 1474, 1523, 1572, 1597, 1622, 1659, 1696, 1733, 1758, 1783, 1820, 1869], 188)) (by rw [q27]; decide) (by rw [q27]; decide) (off := 1362) (by rw [q27]; decide) (tgt := 1402) (by decide) ?_
                                                            exact S_LAW_law_1402 hsc hl hE hK23 _ _ _ _ _ _ h
                                                          · replace h := h.2 q27
                                                            by_cases q28 : ((z_x Z l4.toNatClampNeg) &&& (63 : Int32)) = (28 : Int32)
                                                            · replace h := h.1 q28
                                                              refine j_tableIn hE (by decide +kernel : decode cL_law 40 = .ok (.tableswitch 1894 0 42 #[188, 213, 262, 311, 360, 409, 470, 519, 556, 593, 658, 695, 768, 793, 806, 843, 892, 972, 1009, 1046, 1083, 1120, 1145, 1194, 1243, 1256, 1281, 1362, 1411, 1436, 1461, 1474, 1523, 1572, 1597, 1622, 1659, 1696, 1733, 1758, 1783, 1820, 1869], 188)) (by rw [q28]; decide) (by rw [q28]; decide) (off := 1411) (by rw [q28]; decide) (tgt := 1451) (by decide) ?_
                                                              exact S_LAW_law_1451 hsc hl hE hK23 _ _ _ _ _ _ h
                                                            · replace h := h.2 q28
                                                              by_cases q29 : ((z_x Z l4.toNatClampNeg) &&& (63 : Int32)) = (29 : Int32)
                                                              · replace h := h.1 q29
                                                                refine j_tableIn hE (by decide +kernel : decode cL_law 40 = .ok (.tableswitch 1894 0 42 #[188, 213, 262, 311, 360, 409, 470, 519, 556, 593, 658, 695, 768, 793, 806, 843, 892, 972, 1009, 1046, 1083, 1120, 1145, 1194, 1243, 1256, 1281, 1362, 1411, 1436, 1461, 1474, 1523, 1572, 1597, 1622, 1659, 1696, 1733, 1758, 1783, 1820, 1869], 188)) (by rw [q29]; decide) (by rw [q29]; decide) (off := 1436) (by rw [q29]; decide) (tgt := 1476) (by decide) ?_
                                                                exact S_LAW_law_1476 hsc hl hE hK23 _ _ _ _ _ _ h
                                                              · replace h := h.2 q29
                                                                by_cases q30 : ((z_x Z l4.toNatClampNeg) &&& (63 : Int32)) = (30 : Int32)
                                                                · replace h := h.1 q30
                                                                  refine j_tableIn hE (by decide +kernel : decode cL_law 40 = .ok (.tableswitch 1894 0 42 #[188, 213, 262, 311, 360, 409, 470, 519, 556, 593, 658, 695, 768, 793, 806, 843, 892, 972, 1009, 1046, 1083, 1120, 1145, 1194, 1243, 1256, 1281, 1362, 1411, 1436, 1461, 1474, 1523, 1572, 1597, 1622, 1659, 1696, 1733, 1758, 1783, 1820, 1869], 188)) (by rw [q30]; decide) (by rw [q30]; decide) (off := 1461) (by rw [q30]; decide) (tgt := 1501) (by decide) ?_
                                                                  exact S_LAW_law_1501 hsc hl hE hK23 _ _ _ _ _ _ h
                                                                · replace h := h.2 q30
                                                                  by_cases q31 : ((z_x Z l4.toNatClampNeg) &&& (63 : Int32)) = (31 : Int32)
                                                                  · replace h := h.1 q31
                                                                    refine j_tableIn hE (by decide +kernel : decode cL_law 40 = .ok (.tableswitch 1894 0 42 #[188, 213, 262, 311, 360, 409, 470, 519, 556, 593, 658, 695, 768, 793, 806, 843, 892, 972, 1009, 1046, 1083, 1120, 1145, 1194, 1243, 1256, 1281, 1362, 1411, 1436, 1461, 1474, 1523, 1572, 1597, 1622, 1659, 1696, 1733, 1758, 1783, 1820, 1869], 188)) (by rw [q31]; decide) (by rw [q31]; decide) (off := 1474) (by rw [q31]; decide) (tgt := 1514) (by decide) ?_
                                                                    exact S_LAW_law_1514 hsc hl hE hK23 _ _ _ _ _ _ h
                                                                  · replace h := h.2 q31
                                                                    by_cases q32 : ((z_x Z l4.toNatClampNeg) &&& (63 : Int32)) = (32 : Int32)
                                                                    · replace h := h.1 q32
                                                                      refine j_tableIn hE (by decide +kernel : decode cL_law 40 = .ok (.tableswitch 1894 0 42 #[188, 213, 262, 311, 360, 409, 470, 519, 556, 593, 658, 695, 768, 793, 806, 843, 892, 972, 1009, 1046, 1083, 1120, 1145, 1194, 1243, 1256, 1281, 1362, 1411, 1436, 1461, 1474, 1523, 1572, 1597, 1622, 1659, 1696, 1733, 1758, 1783, 1820, 1869], 188)) (by rw [q32]; decide) (by rw [q32]; decide) (off := 1523) (by rw [q32]; decide) (tgt := 1563) (by decide) ?_
                                                                      exact S_LAW_law_1563 hsc hl hE hK23 _ _ _ _ _ _ h
                                                                    · replace h := h.2 q32
                                                                      by_cases q33 : ((z_x Z l4.toNatClampNeg) &&& (63 : Int32)) = (33 : Int32)
                                                                      · replace h := h.1 q33
                                                                        refine j_tableIn hE (by decide +kernel : decode cL_law 40 = .ok (.tableswitch 1894 0 42 #[188, 213, 262, 311, 360, 409, 470, 519, 556, 593, 658, 695, 768, 793, 806, 843, 892, 972, 1009, 1046, 1083, 1120, 1145, 1194, 1243, 1256, 1281, 1362, 1411, 1436, 1461, 1474, 1523, 1572, 1597, 1622, 1659, 1696, 1733, 1758, 1783, 1820, 1869], 188)) (by rw [q33]; decide) (by rw [q33]; decide) (off := 1572) (by rw [q33]; decide) (tgt := 1612) (by decide) ?_
                                                                        exact S_LAW_law_1612 hsc hl hE hK23 _ _ _ _ _ _ h
                                                                      · replace h := h.2 q33
                                                                        by_cases q34 : ((z_x Z l4.toNatClampNeg) &&& (63 : Int32)) = (34 : Int32)
                                                                        · replace h := h.1 q34
                                                                          refine j_tableIn hE (by decide +kernel : decode cL_law 40 = .ok (.tableswitch 1894 0 42 #[188, 213, 262, 311, 360, 409, 470, 519, 556, 593, 658, 695, 768, 793, 806, 843, 892, 972, 1009, 1046, 1083, 1120, 1145, 1194, 1243, 1256, 1281, 1362, 1411, 1436, 1461, 1474, 1523, 1572, 1597, 1622, 1659, 1696, 1733, 1758, 1783, 1820, 1869], 188)) (by rw [q34]; decide) (by rw [q34]; decide) (off := 1597) (by rw [q34]; decide) (tgt := 1637) (by decide) ?_
                                                                          exact S_LAW_law_1637 hsc hl hE hK23 _ _ _ _ _ _ h
                                                                        · replace h := h.2 q34
                                                                          by_cases q35 : ((z_x Z l4.toNatClampNeg) &&& (63 : Int32)) = (35 : Int32)
                                                                          · replace h := h.1 q35
                                                                            refine j_tableIn hE (by decide +kernel : decode cL_law 40 = .ok (.tableswitch 1894 0 42 #[188, 213, 262, 311, 360, 409, 470, 519, 556, 593, 658, 695, 768, 793, 806, 843, 892, 972, 1009, 1046, 1083, 1120, 1145, 1194, 1243, 1256, 1281, 1362, 1411, 1436, 1461, 1474, 1523, 1572, 1597, 1622, 1659, 1696, 1733, 1758, 1783, 1820, 1869], 188)) (by rw [q35]; decide) (by rw [q35]; decide) (off := 1622) (by rw [q35]; decide) (tgt := 1662) (by decide) ?_
                                                                            exact S_LAW_law_1662 hsc hl hE hK23 _ _ _ _ _ _ h
                                                                          · replace h := h.2 q35
                                                                            by_cases q36 : ((z_x Z l4.toNatClampNeg) &&& (63 : Int32)) = (36 : Int32)
                                                                            · replace h := h.1 q36
                                                                              refine j_tableIn hE (by decide +kernel : decode cL_law 40 = .ok (.tableswitch 1894 0 42 #[188, 213, 262, 311, 360, 409, 470, 519, 556, 593, 658, 695, 768, 793, 806, 843, 892, 972, 1009, 1046, 1083, 1120, 1145, 1194, 1243, 1256, 1281, 1362, 1411, 1436, 1461, 1474, 1523, 1572, 1597, 1622, 1659, 1696, 1733, 1758, 1783, 1820, 1869], 188)) (by rw [q36]; decide) (by rw [q36]; decide) (off := 1659) (by rw [q36]; decide) (tgt := 1699) (by decide) ?_
                                                                              exact S_LAW_law_1699 hsc hl hE hK23 _ _ _ _ _ _ h
                                                                            · replace h := h.2 q36
                                                                              by_cases q37 : ((z_x Z l4.toNatClampNeg) &&& (63 : Int32)) = (37 : Int32)
                                                                              · replace h := h.1 q37
                                                                                refine j_tableIn hE (by decide +kernel : decode cL_law 40 = .ok (.tableswitch 1894 0 42 #[188, 213, 262, 311, 360, 409, 470, 519, 556, 593, 658, 695, 768, 793, 806, 843, 892, 972, 1009, 1046, 1083, 1120, 1145, 1194, 1243, 1256, 1281, 1362, 1411, 1436, 1461, 1474, 1523, 1572, 1597, 1622, 1659, 1696, 1733, 1758, 1783, 1820, 1869], 188)) (by rw [q37]; decide) (by rw [q37]; decide) (off := 1696) (by rw [q37]; decide) (tgt := 1736) (by decide) ?_
                                                                                exact S_LAW_law_1736 hsc hl hE hK23 _ _ _ _ _ _ h
                                                                              · replace h := h.2 q37
                                                                                by_cases q38 : ((z_x Z l4.toNatClampNeg) &&& (63 : Int32)) = (38 : Int32)
                                                                                · replace h := h.1 q38
                                                                                  refine j_tableIn hE (by decide +kernel : decode cL_law 40 = .ok (.tableswitch 1894 0 42 #[188, 213, 262, 311, 360, 409, 470, 519, 556, 593, 658, 695, 768, 793, 806, 843, 892, 972, 1009, 1046, 1083, 1120, 1145, 1194, 1243, 1256, 1281, 1362, 1411, 1436, 1461, 1474, 1523, 1572, 1597, 1622, 1659, 1696, 1733, 1758, 1783, 1820, 1869], 188)) (by rw [q38]; decide) (by rw [q38]; decide) (off := 1733) (by rw [q38]; decide) (tgt := 1773) (by decide) ?_
                                                                                  exact S_LAW_law_1773 hsc hl hE hK23 _ _ _ _ _ _ h
                                                                                · replace h := h.2 q38
                                                                                  by_cases q39 : ((z_x Z l4.toNatClampNeg) &&& (63 : Int32)) = (39 : Int32)
                                                                                  · replace h := h.1 q39
                                                                                    refine j_tableIn hE (by decide +kernel : decode cL_law 40 = .ok (.tableswitch 1894 0 42 #[188, 213, 262, 311, 360, 409, 470, 519, 556, 593, 658, 695, 768, 793, 806, 843, 892, 972, 1009, 1046, 1083, 1120, 1145, 1194, 1243, 1256, 1281, 1362, 1411, 1436, 1461, 1474, 1523, 1572, 1597, 1622, 1659, 1696, 1733, 1758, 1783, 1820, 1869], 188)) (by rw [q39]; decide) (by rw [q39]; decide) (off := 1758) (by rw [q39]; decide) (tgt := 1798) (by decide) ?_
                                                                                    exact S_LAW_law_1798 hsc hl hE hK23 _ _ _ _ _ _ h
                                                                                  · replace h := h.2 q39
                                                                                    by_cases q40 : ((z_x Z l4.toNatClampNeg) &&& (63 : Int32)) = (40 : Int32)
                                                                                    · replace h := h.1 q40
                                                                                      refine j_tableIn hE (by decide +kernel : decode cL_law 40 = .ok (.tableswitch 1894 0 42 #[188, 213, 262, 311, 360, 409, 470, 519, 556, 593, 658, 695, 768, 793, 806, 843, 892, 972, 1009, 1046, 1083, 1120, 1145, 1194, 1243, 1256, 1281, 1362, 1411, 1436, 1461, 1474, 1523, 1572, 1597, 1622, 1659, 1696, 1733, 1758, 1783, 1820, 1869], 188)) (by rw [q40]; decide) (by rw [q40]; decide) (off := 1783) (by rw [q40]; decide) (tgt := 1823) (by decide) ?_
                                                                                      exact S_LAW_law_1823 hsc hl hE hK23 _ _ _ _ _ _ h
                                                                                    · replace h := h.2 q40
                                                                                      by_cases q41 : ((z_x Z l4.toNatClampNeg) &&& (63 : Int32)) = (41 : Int32)
                                                                                      · replace h := h.1 q41
                                                                                        refine j_tableIn hE (by decide +kernel : decode cL_law 40 = .ok (.tableswitch 1894 0 42 #[188, 213, 262, 311, 360, 409, 470, 519, 556, 593, 658, 695, 768, 793, 806, 843, 892, 972, 1009, 1046, 1083, 1120, 1145, 1194, 1243, 1256, 1281, 1362, 1411, 1436, 1461, 1474, 1523, 1572, 1597, 1622, 1659, 1696, 1733, 1758, 1783, 1820, 1869], 188)) (by rw [q41]; decide) (by rw [q41]; decide) (off := 1820) (by rw [q41]; decide) (tgt := 1860) (by decide) ?_
                                                                                        exact S_LAW_law_1860 hsc hl hE hK23 _ _ _ _ _ _ h
                                                                                      · replace h := h.2 q41
                                                                                        by_cases q42 : ((z_x Z l4.toNatClampNeg) &&& (63 : Int32)) = (42 : Int32)
                                                                                        · replace h := h.1 q42
                                                                                          refine j_tableIn hE (by decide +kernel : decode cL_law 40 = .ok (.tableswitch 1894 0 42 #[188, 213, 262, 311, 360, 409, 470, 519, 556, 593, 658, 695, 768, 793, 806, 843, 892, 972, 1009, 1046, 1083, 1120, 1145, 1194, 1243, 1256, 1281, 1362, 1411, 1436, 1461, 1474, 1523, 1572, 1597, 1622, 1659, 1696, 1733, 1758, 1783, 1820, 1869], 188)) (by rw [q42]; decide) (by rw [q42]; decide) (off := 1869) (by rw [q42]; decide) (tgt := 1909) (by decide) ?_
                                                                                          exact S_LAW_law_1909 hsc hl hE hK23 _ _ _ _ _ _ h
                                                                                        · replace h := h.2 q42
                                                                                          have hD : JW Γ E 1934 [some (.ref l0), some (.ref l1), some (.ref l2), some (.ref l3), some (.int l4), none, none] [] g := by
                                                                                            exact S_LAW_law_1934 hsc hl hE hK23 _ _ _ _ _ _ h
                                                                                          have qq : (((z_x Z l4.toNatClampNeg) &&& (63 : Int32))).toInt < 0 ∨ 42 < (((z_x Z l4.toNatClampNeg) &&& (63 : Int32))).toInt := by
                                                                                            have z0 : ¬ (((z_x Z l4.toNatClampNeg) &&& (63 : Int32))).toInt = 0 := fun e => q0 (Int32.toInt_inj.mp (e.trans (by decide)))
                                                                                            have z1 : ¬ (((z_x Z l4.toNatClampNeg) &&& (63 : Int32))).toInt = 1 := fun e => q1 (Int32.toInt_inj.mp (e.trans (by decide)))
                                                                                            have z2 : ¬ (((z_x Z l4.toNatClampNeg) &&& (63 : Int32))).toInt = 2 := fun e => q2 (Int32.toInt_inj.mp (e.trans (by decide)))
                                                                                            have z3 : ¬ (((z_x Z l4.toNatClampNeg) &&& (63 : Int32))).toInt = 3 := fun e => q3 (Int32.toInt_inj.mp (e.trans (by decide)))
                                                                                            have z4 : ¬ (((z_x Z l4.toNatClampNeg) &&& (63 : Int32))).toInt = 4 := fun e => q4 (Int32.toInt_inj.mp (e.trans (by decide)))
                                                                                            have z5 : ¬ (((z_x Z l4.toNatClampNeg) &&& (63 : Int32))).toInt = 5 := fun e => q5 (Int32.toInt_inj.mp (e.trans (by decide)))
                                                                                            have z6 : ¬ (((z_x Z l4.toNatClampNeg) &&& (63 : Int32))).toInt = 6 := fun e => q6 (Int32.toInt_inj.mp (e.trans (by decide)))
                                                                                            have z7 : ¬ (((z_x Z l4.toNatClampNeg) &&& (63 : Int32))).toInt = 7 := fun e => q7 (Int32.toInt_inj.mp (e.trans (by decide)))
                                                                                            have z8 : ¬ (((z_x Z l4.toNatClampNeg) &&& (63 : Int32))).toInt = 8 := fun e => q8 (Int32.toInt_inj.mp (e.trans (by decide)))
                                                                                            have z9 : ¬ (((z_x Z l4.toNatClampNeg) &&& (63 : Int32))).toInt = 9 := fun e => q9 (Int32.toInt_inj.mp (e.trans (by decide)))
                                                                                            have z10 : ¬ (((z_x Z l4.toNatClampNeg) &&& (63 : Int32))).toInt = 10 := fun e => q10 (Int32.toInt_inj.mp (e.trans (by decide)))
                                                                                            have z11 : ¬ (((z_x Z l4.toNatClampNeg) &&& (63 : Int32))).toInt = 11 := fun e => q11 (Int32.toInt_inj.mp (e.trans (by decide)))
                                                                                            have z12 : ¬ (((z_x Z l4.toNatClampNeg) &&& (63 : Int32))).toInt = 12 := fun e => q12 (Int32.toInt_inj.mp (e.trans (by decide)))
                                                                                            have z13 : ¬ (((z_x Z l4.toNatClampNeg) &&& (63 : Int32))).toInt = 13 := fun e => q13 (Int32.toInt_inj.mp (e.trans (by decide)))
                                                                                            have z14 : ¬ (((z_x Z l4.toNatClampNeg) &&& (63 : Int32))).toInt = 14 := fun e => q14 (Int32.toInt_inj.mp (e.trans (by decide)))
                                                                                            have z15 : ¬ (((z_x Z l4.toNatClampNeg) &&& (63 : Int32))).toInt = 15 := fun e => q15 (Int32.toInt_inj.mp (e.trans (by decide)))
                                                                                            have z16 : ¬ (((z_x Z l4.toNatClampNeg) &&& (63 : Int32))).toInt = 16 := fun e => q16 (Int32.toInt_inj.mp (e.trans (by decide)))
                                                                                            have z17 : ¬ (((z_x Z l4.toNatClampNeg) &&& (63 : Int32))).toInt = 17 := fun e => q17 (Int32.toInt_inj.mp (e.trans (by decide)))
                                                                                            have z18 : ¬ (((z_x Z l4.toNatClampNeg) &&& (63 : Int32))).toInt = 18 := fun e => q18 (Int32.toInt_inj.mp (e.trans (by decide)))
                                                                                            have z19 : ¬ (((z_x Z l4.toNatClampNeg) &&& (63 : Int32))).toInt = 19 := fun e => q19 (Int32.toInt_inj.mp (e.trans (by decide)))
                                                                                            have z20 : ¬ (((z_x Z l4.toNatClampNeg) &&& (63 : Int32))).toInt = 20 := fun e => q20 (Int32.toInt_inj.mp (e.trans (by decide)))
                                                                                            have z21 : ¬ (((z_x Z l4.toNatClampNeg) &&& (63 : Int32))).toInt = 21 := fun e => q21 (Int32.toInt_inj.mp (e.trans (by decide)))
                                                                                            have z22 : ¬ (((z_x Z l4.toNatClampNeg) &&& (63 : Int32))).toInt = 22 := fun e => q22 (Int32.toInt_inj.mp (e.trans (by decide)))
                                                                                            have z23 : ¬ (((z_x Z l4.toNatClampNeg) &&& (63 : Int32))).toInt = 23 := fun e => q23 (Int32.toInt_inj.mp (e.trans (by decide)))
                                                                                            have z24 : ¬ (((z_x Z l4.toNatClampNeg) &&& (63 : Int32))).toInt = 24 := fun e => q24 (Int32.toInt_inj.mp (e.trans (by decide)))
                                                                                            have z25 : ¬ (((z_x Z l4.toNatClampNeg) &&& (63 : Int32))).toInt = 25 := fun e => q25 (Int32.toInt_inj.mp (e.trans (by decide)))
                                                                                            have z26 : ¬ (((z_x Z l4.toNatClampNeg) &&& (63 : Int32))).toInt = 26 := fun e => q26 (Int32.toInt_inj.mp (e.trans (by decide)))
                                                                                            have z27 : ¬ (((z_x Z l4.toNatClampNeg) &&& (63 : Int32))).toInt = 27 := fun e => q27 (Int32.toInt_inj.mp (e.trans (by decide)))
                                                                                            have z28 : ¬ (((z_x Z l4.toNatClampNeg) &&& (63 : Int32))).toInt = 28 := fun e => q28 (Int32.toInt_inj.mp (e.trans (by decide)))
                                                                                            have z29 : ¬ (((z_x Z l4.toNatClampNeg) &&& (63 : Int32))).toInt = 29 := fun e => q29 (Int32.toInt_inj.mp (e.trans (by decide)))
                                                                                            have z30 : ¬ (((z_x Z l4.toNatClampNeg) &&& (63 : Int32))).toInt = 30 := fun e => q30 (Int32.toInt_inj.mp (e.trans (by decide)))
                                                                                            have z31 : ¬ (((z_x Z l4.toNatClampNeg) &&& (63 : Int32))).toInt = 31 := fun e => q31 (Int32.toInt_inj.mp (e.trans (by decide)))
                                                                                            have z32 : ¬ (((z_x Z l4.toNatClampNeg) &&& (63 : Int32))).toInt = 32 := fun e => q32 (Int32.toInt_inj.mp (e.trans (by decide)))
                                                                                            have z33 : ¬ (((z_x Z l4.toNatClampNeg) &&& (63 : Int32))).toInt = 33 := fun e => q33 (Int32.toInt_inj.mp (e.trans (by decide)))
                                                                                            have z34 : ¬ (((z_x Z l4.toNatClampNeg) &&& (63 : Int32))).toInt = 34 := fun e => q34 (Int32.toInt_inj.mp (e.trans (by decide)))
                                                                                            have z35 : ¬ (((z_x Z l4.toNatClampNeg) &&& (63 : Int32))).toInt = 35 := fun e => q35 (Int32.toInt_inj.mp (e.trans (by decide)))
                                                                                            have z36 : ¬ (((z_x Z l4.toNatClampNeg) &&& (63 : Int32))).toInt = 36 := fun e => q36 (Int32.toInt_inj.mp (e.trans (by decide)))
                                                                                            have z37 : ¬ (((z_x Z l4.toNatClampNeg) &&& (63 : Int32))).toInt = 37 := fun e => q37 (Int32.toInt_inj.mp (e.trans (by decide)))
                                                                                            have z38 : ¬ (((z_x Z l4.toNatClampNeg) &&& (63 : Int32))).toInt = 38 := fun e => q38 (Int32.toInt_inj.mp (e.trans (by decide)))
                                                                                            have z39 : ¬ (((z_x Z l4.toNatClampNeg) &&& (63 : Int32))).toInt = 39 := fun e => q39 (Int32.toInt_inj.mp (e.trans (by decide)))
                                                                                            have z40 : ¬ (((z_x Z l4.toNatClampNeg) &&& (63 : Int32))).toInt = 40 := fun e => q40 (Int32.toInt_inj.mp (e.trans (by decide)))
                                                                                            have z41 : ¬ (((z_x Z l4.toNatClampNeg) &&& (63 : Int32))).toInt = 41 := fun e => q41 (Int32.toInt_inj.mp (e.trans (by decide)))
                                                                                            have z42 : ¬ (((z_x Z l4.toNatClampNeg) &&& (63 : Int32))).toInt = 42 := fun e => q42 (Int32.toInt_inj.mp (e.trans (by decide)))
                                                                                            omega
                                                                                          exact j_tableOut hE (by decide +kernel : decode cL_law 40 = .ok (.tableswitch 1894 0 42 #[188, 213, 262, 311, 360, 409, 470, 519, 556, 593, 658, 695, 768, 793, 806, 843, 892, 972, 1009, 1046, 1083, 1120, 1145, 1194, 1243, 1256, 1281, 1362, 1411, 1436, 1461, 1474, 1523, 1572, 1597, 1622, 1659, 1696, 1733, 1758, 1783, 1820, 1869], 188)) qq (tgt := 1934) (by decide) hD
set_option maxRecDepth 100000 in
def B_LAW_law_0 (Γ : GAM) (Z : SCRT) (K23 : Nat → Nat → Nat → Nat → Int32 → GH → Prop) (K : Int32 → GH → Prop) (p0 : Nat) (g : GH) : Prop :=
  Hn g + 1 ≤ gB Γ + NCC ∧ Hu g + 10 ≤ NSS ∧ ∀ (a1 : Nat) (g2 : GH), a1 = Hn g → g2 = nO g 11 10 → (∀ f, Gi g f (Hn g) = 0) → (∀ f, Gr g f (Hn g) = none) → (∀ c, free g c (Hn g)) → (∀ a, Hn g ≤ a → Kd g a = 0) → Sp_PV_init Γ a1 g2 (fun (g3 : GH) => Hn g3 + 1 ≤ gB Γ + NCC ∧ Hu g3 + 95 ≤ NSS ∧ ∀ (a4 : Nat) (g5 : GH), a4 = Hn g3 → g5 = nO g3 12 95 → (∀ f, Gi g3 f (Hn g3) = 0) → (∀ f, Gr g3 f (Hn g3) = none) → (∀ c, free g3 c (Hn g3)) → (∀ a, Hn g3 ≤ a → Kd g3 a = 0) → Sp_M_init Γ a4 g5 (fun (g6 : GH) => a4 < Hn g6 ∧ free g6 1535 a4 ∧ Hn g6 + 1 ≤ gB Γ + NCC ∧ Hu g6 + 1 ≤ NSS ∧ ∀ (a7 : Nat) (g8 : GH), a7 = Hn g6 → g8 = nA g6 23 1535 a4 (1) → K23 p0 a1 a4 a7 (0 : Int32) g8))
set_option maxHeartbeats 4000000 in
set_option maxRecDepth 100000 in
theorem S_LAW_law_0 {Γ : GAM} {Z : SCRT} {E : EV} {K : Int32 → GH → Prop} (hsc : SCR Γ E Z) (hl : E.2.1.stackTraces = false) (hE : GE Γ E cL_law 7 RL (some (.boolean)) 2048 84000 (fun r g' => ∃ x, r = some (.int x) ∧ K x g')) {K23 : Nat → Nat → Nat → Nat → Int32 → GH → Prop} (hK23 : ∀ (l0 : Nat) (l1 : Nat) (l2 : Nat) (l3 : Nat) (l4 : Int32) (g : GH), K23 l0 l1 l2 l3 l4 g → JW Γ E 23 [some (.ref l0), some (.ref l1), some (.ref l2), some (.ref l3), some (.int l4), none, none] [] g) (p0 : Nat) (g : GH) (h : B_LAW_law_0 Γ Z K23 K p0 g) : JW Γ E 0 [some (.ref p0), none, none, none, none, none, none] [] g := by
  unfold B_LAW_law_0 at h
  obtain ⟨hn1, hn2, h⟩ := h
  refine j_new hE cf_11 ck_L_8 in_X10 (by decide +kernel : decode cL_law 0 = .ok (.new 8, 3)) hn1 hn2 (fun f1 f2 f3 f4 => ?_)
  obtain ⟨a1, ha⟩ : ∃ z, z = Hn g := ⟨_, rfl⟩; obtain ⟨g2, hg⟩ : ∃ z, z = nO g 11 10 := ⟨_, rfl⟩; replace h := h a1 g2 ha hg f1 f2 f3 f4; rw [← hg, ← ha]
  refine j_dup hE (by decide +kernel : decode cL_law 3 = .ok (.dup, 1)) rfl ?_
  refine j_callI hE rfl cl_L_15 im_X10_init rfl ⟨by omega, by omega⟩ (As := []) (rest := [.ref a1]) (b := a1) rfl rfl (Nat.le_of_ble_eq_true rfl) (by decide +kernel : decode cL_law 4 = .ok (.invokespecial 15, 3)) (mt_PV_init _ _ _ h) ?_
  rintro _ g3 ⟨rfl, h⟩
  refine j_astore_n hE (by decide +kernel : decode cL_law 7 = .ok (.astore_n 1, 1)) rfl (Nat.le_of_ble_eq_true rfl) rfl ?_
  obtain ⟨hn1, hn2, h⟩ := h
  refine j_new hE cf_12 ck_L_16 in_X11 (by decide +kernel : decode cL_law 8 = .ok (.new 16, 3)) hn1 hn2 (fun f1 f2 f3 f4 => ?_)
  obtain ⟨a4, ha⟩ : ∃ z, z = Hn g3 := ⟨_, rfl⟩; obtain ⟨g5, hg⟩ : ∃ z, z = nO g3 12 95 := ⟨_, rfl⟩; replace h := h a4 g5 ha hg f1 f2 f3 f4; rw [← hg, ← ha]
  refine j_dup hE (by decide +kernel : decode cL_law 11 = .ok (.dup, 1)) rfl ?_
  refine j_callI hE rfl cl_L_18 im_X11_init rfl ⟨by omega, by omega⟩ (As := []) (rest := [.ref a4]) (b := a4) rfl rfl (Nat.le_of_ble_eq_true rfl) (by decide +kernel : decode cL_law 12 = .ok (.invokespecial 18, 3)) (mt_M_init _ _ _ h) ?_
  rintro _ g6 ⟨rfl, h⟩
  refine j_astore_n hE (by decide +kernel : decode cL_law 15 = .ok (.astore_n 2, 1)) rfl (Nat.le_of_ble_eq_true rfl) rfl ?_
  refine j_iconst hE (by decide +kernel : decode cL_law 16 = .ok (.iconst 1, 1)) (v := (1 : Int32)) (by decide) ?_
  obtain ⟨ho1, hf1, hn1, hn2, h⟩ := h
  obtain ⟨a7, ha⟩ : ∃ z, z = Hn g6 := ⟨_, rfl⟩; obtain ⟨g8, hg⟩ : ∃ z, z = nA g6 23 1535 a4 (1) := ⟨_, rfl⟩; replace h := h a7 g8 ha hg
  refine j_newarray (k := 23) (co := 1535) (ow := a4) (n := (1)) (atype := .long) hE ac_long (Or.inr (Or.inr ⟨rfl, rfl⟩)) (by decide) (by decide) (by decide) ho1 hf1 (by decide +kernel : decode cL_law 17 = .ok (.newarray .long, 2)) hn1 hn2 ?_
  rw [← hg, ← ha]
  refine j_astore_n hE (by decide +kernel : decode cL_law 19 = .ok (.astore_n 3, 1)) rfl (Nat.le_of_ble_eq_true rfl) rfl ?_
  refine j_iconst hE (by decide +kernel : decode cL_law 20 = .ok (.iconst 0, 1)) (v := (0 : Int32)) (by decide) ?_
  refine j_istore hE (by decide +kernel : decode cL_law 21 = .ok (.istore 4, 2)) (Nat.le_of_ble_eq_true rfl) rfl ?_
  exact hK23 _ _ _ _ _ _ h
theorem rl_LAW_law {Γ : GAM} {Z : SCRT} {E : EV} {K : Int32 → GH → Prop} (hsc : SCR Γ E Z) (hl : E.2.1.stackTraces = false) (hE : GE Γ E cL_law 7 RL (some (.boolean)) 2048 84000 (fun r g' => ∃ x, r = some (.int x) ∧ K x g')) {p0 : Nat} {g : GH} (I23 : Nat → Nat → Nat → Nat → Nat → Int32 → GH → Prop) (hh23 : ∀ n (l0 : Nat) (l1 : Nat) (l2 : Nat) (l3 : Nat) (l4 : Int32) (g : GH), I23 n l0 l1 l2 l3 l4 g → B_LAW_law_23 Γ Z (fun l0 l1 l2 l3 l4 g => ∃ m, m < n ∧ I23 m l0 l1 l2 l3 l4 g) K l0 l1 l2 l3 l4 g) (h0 : B_LAW_law_0 Γ Z (fun l0 l1 l2 l3 l4 g => ∃ m, I23 m l0 l1 l2 l3 l4 g) K p0 g) : JW Γ E 0 [some (.ref p0), none, none, none, none, none, none] [] g := by
  have hall : ∀ n, (∀ (l0 : Nat) (l1 : Nat) (l2 : Nat) (l3 : Nat) (l4 : Int32) (g : GH), I23 n l0 l1 l2 l3 l4 g → JW Γ E 23 [some (.ref l0), some (.ref l1), some (.ref l2), some (.ref l3), some (.int l4), none, none] [] g) := by
    intro n
    induction n using Nat.strongRecOn with
    | ind n ih =>
      exact fun l0 l1 l2 l3 l4 g hi => S_LAW_law_23 hsc hl hE (fun l0 l1 l2 l3 l4 g hm => by obtain ⟨m, hm, h⟩ := hm; exact (ih m hm) l0 l1 l2 l3 l4 g h) l0 l1 l2 l3 l4 g (hh23 n l0 l1 l2 l3 l4 g hi)
  exact S_LAW_law_0 hsc hl hE (fun l0 l1 l2 l3 l4 g hm => by obtain ⟨m, h⟩ := hm; exact (hall m) l0 l1 l2 l3 l4 g h) p0 g h0

