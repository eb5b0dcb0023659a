/-! what a state of the house is: its readers and writers (by program) -/
abbrev ST : Type := (Int32) × (Int32) × (List (Int32 × Int32 × Int32)) × (List (Int32 × Int32 × Int32 × Int32)) × (List (Int32 × Int32 × Int32 × Int32)) × (List (Int32 × Int32 × Int32 × Int32 × Int32)) × (List (Int32 × Int32 × Int32 × Int32)) × (List (Int32 × Int32 × Int32)) × (List (Int32 × Int32 × Int32 × Int32)) × (List (Int32 × Int32 × Int32)) × (List Int32) × (List (Int32 × Int32 × Int32 × List (List Int32 × Int32 × List Int32))) × (List (Int32 × Int32 × Int32)) × (Int32) × (Nat → Option (Int32 × Int32)) × (Nat → Int32) × (Int32) × (Nat → Int32) × (List (Int32 × Int32)) × (Nat → Nat)
def s_now (s : ST) : Int32 := s.1
def s_siz (s : ST) : Int32 := s.2.1
def s_vot (s : ST) : List (Int32 × Int32 × Int32) := s.2.2.1
def s_mov (s : ST) : List (Int32 × Int32 × Int32 × Int32) := s.2.2.2.1
def s_env (s : ST) : List (Int32 × Int32 × Int32 × Int32) := s.2.2.2.2.1
def s_evt (s : ST) : List (Int32 × Int32 × Int32 × Int32 × Int32) := s.2.2.2.2.2.1
def s_emp (s : ST) : List (Int32 × Int32 × Int32 × Int32) := s.2.2.2.2.2.2.1
def s_rea (s : ST) : List (Int32 × Int32 × Int32) := s.2.2.2.2.2.2.2.1
def s_tel (s : ST) : List (Int32 × Int32 × Int32 × Int32) := s.2.2.2.2.2.2.2.2.1
def s_boo (s : ST) : List (Int32 × Int32 × Int32) := s.2.2.2.2.2.2.2.2.2.1
def s_tap (s : ST) : List Int32 := s.2.2.2.2.2.2.2.2.2.2.1
def s_law (s : ST) : List (Int32 × Int32 × Int32 × List (List Int32 × Int32 × List Int32)) := s.2.2.2.2.2.2.2.2.2.2.2.1
def s_wav (s : ST) : List (Int32 × Int32 × Int32) := s.2.2.2.2.2.2.2.2.2.2.2.2.1
def s_prs (s : ST) : Int32 := s.2.2.2.2.2.2.2.2.2.2.2.2.2.1
def s_box (s : ST) : Nat → Option (Int32 × Int32) := s.2.2.2.2.2.2.2.2.2.2.2.2.2.2.1
def s_roa (s : ST) : Nat → Int32 := s.2.2.2.2.2.2.2.2.2.2.2.2.2.2.2.1
def s_stp (s : ST) : Int32 := s.2.2.2.2.2.2.2.2.2.2.2.2.2.2.2.2.1
def s_las (s : ST) : Nat → Int32 := s.2.2.2.2.2.2.2.2.2.2.2.2.2.2.2.2.2.1
def s_hea (s : ST) : List (Int32 × Int32) := s.2.2.2.2.2.2.2.2.2.2.2.2.2.2.2.2.2.2.1
def s_hof (s : ST) : Nat → Nat := s.2.2.2.2.2.2.2.2.2.2.2.2.2.2.2.2.2.2.2
def u_now (s : ST) (x : Int32) : ST := (x, s_siz s, s_vot s, s_mov s, s_env s, s_evt s, s_emp s, s_rea s, s_tel s, s_boo s, s_tap s, s_law s, s_wav s, s_prs s, s_box s, s_roa s, s_stp s, s_las s, s_hea s, s_hof s)
def u_siz (s : ST) (x : Int32) : ST := (s_now s, x, s_vot s, s_mov s, s_env s, s_evt s, s_emp s, s_rea s, s_tel s, s_boo s, s_tap s, s_law s, s_wav s, s_prs s, s_box s, s_roa s, s_stp s, s_las s, s_hea s, s_hof s)
def u_vot (s : ST) (x : List (Int32 × Int32 × Int32)) : ST := (s_now s, s_siz s, x, s_mov s, s_env s, s_evt s, s_emp s, s_rea s, s_tel s, s_boo s, s_tap s, s_law s, s_wav s, s_prs s, s_box s, s_roa s, s_stp s, s_las s, s_hea s, s_hof s)
def u_mov (s : ST) (x : List (Int32 × Int32 × Int32 × Int32)) : ST := (s_now s, s_siz s, s_vot s, x, s_env s, s_evt s, s_emp s, s_rea s, s_tel s, s_boo s, s_tap s, s_law s, s_wav s, s_prs s, s_box s, s_roa s, s_stp s, s_las s, s_hea s, s_hof s)
def u_env (s : ST) (x : List (Int32 × Int32 × Int32 × Int32)) : ST := (s_now s, s_siz s, s_vot s, s_mov s, x, s_evt s, s_emp s, s_rea s, s_tel s, s_boo s, s_tap s, s_law s, s_wav s, s_prs s, s_box s, s_roa s, s_stp s, s_las s, s_hea s, s_hof s)
def u_evt (s : ST) (x : List (Int32 × Int32 × Int32 × Int32 × Int32)) : ST := (s_now s, s_siz s, s_vot s, s_mov s, s_env s, x, s_emp s, s_rea s, s_tel s, s_boo s, s_tap s, s_law s, s_wav s, s_prs s, s_box s, s_roa s, s_stp s, s_las s, s_hea s, s_hof s)
def u_emp (s : ST) (x : List (Int32 × Int32 × Int32 × Int32)) : ST := (s_now s, s_siz s, s_vot s, s_mov s, s_env s, s_evt s, x, s_rea s, s_tel s, s_boo s, s_tap s, s_law s, s_wav s, s_prs s, s_box s, s_roa s, s_stp s, s_las s, s_hea s, s_hof s)
def u_rea (s : ST) (x : List (Int32 × Int32 × Int32)) : ST := (s_now s, s_siz s, s_vot s, s_mov s, s_env s, s_evt s, s_emp s, x, s_tel s, s_boo s, s_tap s, s_law s, s_wav s, s_prs s, s_box s, s_roa s, s_stp s, s_las s, s_hea s, s_hof s)
def u_tel (s : ST) (x : List (Int32 × Int32 × Int32 × Int32)) : ST := (s_now s, s_siz s, s_vot s, s_mov s, s_env s, s_evt s, s_emp s, s_rea s, x, s_boo s, s_tap s, s_law s, s_wav s, s_prs s, s_box s, s_roa s, s_stp s, s_las s, s_hea s, s_hof s)
def u_boo (s : ST) (x : List (Int32 × Int32 × Int32)) : ST := (s_now s, s_siz s, s_vot s, s_mov s, s_env s, s_evt s, s_emp s, s_rea s, s_tel s, x, s_tap s, s_law s, s_wav s, s_prs s, s_box s, s_roa s, s_stp s, s_las s, s_hea s, s_hof s)
def u_tap (s : ST) (x : List Int32) : ST := (s_now s, s_siz s, s_vot s, s_mov s, s_env s, s_evt s, s_emp s, s_rea s, s_tel s, s_boo s, x, s_law s, s_wav s, s_prs s, s_box s, s_roa s, s_stp s, s_las s, s_hea s, s_hof s)
def u_law (s : ST) (x : List (Int32 × Int32 × Int32 × List (List Int32 × Int32 × List Int32))) : ST := (s_now s, s_siz s, s_vot s, s_mov s, s_env s, s_evt s, s_emp s, s_rea s, s_tel s, s_boo s, s_tap s, x, s_wav s, s_prs s, s_box s, s_roa s, s_stp s, s_las s, s_hea s, s_hof s)
def u_wav (s : ST) (x : List (Int32 × Int32 × Int32)) : ST := (s_now s, s_siz s, s_vot s, s_mov s, s_env s, s_evt s, s_emp s, s_rea s, s_tel s, s_boo s, s_tap s, s_law s, x, s_prs s, s_box s, s_roa s, s_stp s, s_las s, s_hea s, s_hof s)
def u_prs (s : ST) (x : Int32) : ST := (s_now s, s_siz s, s_vot s, s_mov s, s_env s, s_evt s, s_emp s, s_rea s, s_tel s, s_boo s, s_tap s, s_law s, s_wav s, x, s_box s, s_roa s, s_stp s, s_las s, s_hea s, s_hof s)
def u_box (s : ST) (x : Nat → Option (Int32 × Int32)) : ST := (s_now s, s_siz s, s_vot s, s_mov s, s_env s, s_evt s, s_emp s, s_rea s, s_tel s, s_boo s, s_tap s, s_law s, s_wav s, s_prs s, x, s_roa s, s_stp s, s_las s, s_hea s, s_hof s)
def u_roa (s : ST) (x : Nat → Int32) : ST := (s_now s, s_siz s, s_vot s, s_mov s, s_env s, s_evt s, s_emp s, s_rea s, s_tel s, s_boo s, s_tap s, s_law s, s_wav s, s_prs s, s_box s, x, s_stp s, s_las s, s_hea s, s_hof s)
def u_stp (s : ST) (x : Int32) : ST := (s_now s, s_siz s, s_vot s, s_mov s, s_env s, s_evt s, s_emp s, s_rea s, s_tel s, s_boo s, s_tap s, s_law s, s_wav s, s_prs s, s_box s, s_roa s, x, s_las s, s_hea s, s_hof s)
def u_las (s : ST) (x : Nat → Int32) : ST := (s_now s, s_siz s, s_vot s, s_mov s, s_env s, s_evt s, s_emp s, s_rea s, s_tel s, s_boo s, s_tap s, s_law s, s_wav s, s_prs s, s_box s, s_roa s, s_stp s, x, s_hea s, s_hof s)
def u_hea (s : ST) (x : List (Int32 × Int32)) : ST := (s_now s, s_siz s, s_vot s, s_mov s, s_env s, s_evt s, s_emp s, s_rea s, s_tel s, s_boo s, s_tap s, s_law s, s_wav s, s_prs s, s_box s, s_roa s, s_stp s, s_las s, x, s_hof s)
def u_hof (s : ST) (x : Nat → Nat) : ST := (s_now s, s_siz s, s_vot s, s_mov s, s_env s, s_evt s, s_emp s, s_rea s, s_tel s, s_boo s, s_tap s, s_law s, s_wav s, s_prs s, s_box s, s_roa s, s_stp s, s_las s, s_hea s, x)
theorem s_now_u_now (s : ST) (x : Int32) : s_now (u_now s x) = x := rfl
theorem s_siz_u_now (s : ST) (x : Int32) : s_siz (u_now s x) = s_siz s := rfl
theorem s_vot_u_now (s : ST) (x : Int32) : s_vot (u_now s x) = s_vot s := rfl
theorem s_mov_u_now (s : ST) (x : Int32) : s_mov (u_now s x) = s_mov s := rfl
theorem s_env_u_now (s : ST) (x : Int32) : s_env (u_now s x) = s_env s := rfl
theorem s_evt_u_now (s : ST) (x : Int32) : s_evt (u_now s x) = s_evt s := rfl
theorem s_emp_u_now (s : ST) (x : Int32) : s_emp (u_now s x) = s_emp s := rfl
theorem s_rea_u_now (s : ST) (x : Int32) : s_rea (u_now s x) = s_rea s := rfl
theorem s_tel_u_now (s : ST) (x : Int32) : s_tel (u_now s x) = s_tel s := rfl
theorem s_boo_u_now (s : ST) (x : Int32) : s_boo (u_now s x) = s_boo s := rfl
theorem s_tap_u_now (s : ST) (x : Int32) : s_tap (u_now s x) = s_tap s := rfl
theorem s_law_u_now (s : ST) (x : Int32) : s_law (u_now s x) = s_law s := rfl
theorem s_wav_u_now (s : ST) (x : Int32) : s_wav (u_now s x) = s_wav s := rfl
theorem s_prs_u_now (s : ST) (x : Int32) : s_prs (u_now s x) = s_prs s := rfl
theorem s_box_u_now (s : ST) (x : Int32) : s_box (u_now s x) = s_box s := rfl
theorem s_roa_u_now (s : ST) (x : Int32) : s_roa (u_now s x) = s_roa s := rfl
theorem s_stp_u_now (s : ST) (x : Int32) : s_stp (u_now s x) = s_stp s := rfl
theorem s_las_u_now (s : ST) (x : Int32) : s_las (u_now s x) = s_las s := rfl
theorem s_hea_u_now (s : ST) (x : Int32) : s_hea (u_now s x) = s_hea s := rfl
theorem s_hof_u_now (s : ST) (x : Int32) : s_hof (u_now s x) = s_hof s := rfl
theorem s_now_u_siz (s : ST) (x : Int32) : s_now (u_siz s x) = s_now s := rfl
theorem s_siz_u_siz (s : ST) (x : Int32) : s_siz (u_siz s x) = x := rfl
theorem s_vot_u_siz (s : ST) (x : Int32) : s_vot (u_siz s x) = s_vot s := rfl
theorem s_mov_u_siz (s : ST) (x : Int32) : s_mov (u_siz s x) = s_mov s := rfl
theorem s_env_u_siz (s : ST) (x : Int32) : s_env (u_siz s x) = s_env s := rfl
theorem s_evt_u_siz (s : ST) (x : Int32) : s_evt (u_siz s x) = s_evt s := rfl
theorem s_emp_u_siz (s : ST) (x : Int32) : s_emp (u_siz s x) = s_emp s := rfl
theorem s_rea_u_siz (s : ST) (x : Int32) : s_rea (u_siz s x) = s_rea s := rfl
theorem s_tel_u_siz (s : ST) (x : Int32) : s_tel (u_siz s x) = s_tel s := rfl
theorem s_boo_u_siz (s : ST) (x : Int32) : s_boo (u_siz s x) = s_boo s := rfl
theorem s_tap_u_siz (s : ST) (x : Int32) : s_tap (u_siz s x) = s_tap s := rfl
theorem s_law_u_siz (s : ST) (x : Int32) : s_law (u_siz s x) = s_law s := rfl
theorem s_wav_u_siz (s : ST) (x : Int32) : s_wav (u_siz s x) = s_wav s := rfl
theorem s_prs_u_siz (s : ST) (x : Int32) : s_prs (u_siz s x) = s_prs s := rfl
theorem s_box_u_siz (s : ST) (x : Int32) : s_box (u_siz s x) = s_box s := rfl
theorem s_roa_u_siz (s : ST) (x : Int32) : s_roa (u_siz s x) = s_roa s := rfl
theorem s_stp_u_siz (s : ST) (x : Int32) : s_stp (u_siz s x) = s_stp s := rfl
theorem s_las_u_siz (s : ST) (x : Int32) : s_las (u_siz s x) = s_las s := rfl
theorem s_hea_u_siz (s : ST) (x : Int32) : s_hea (u_siz s x) = s_hea s := rfl
theorem s_hof_u_siz (s : ST) (x : Int32) : s_hof (u_siz s x) = s_hof s := rfl
theorem s_now_u_vot (s : ST) (x : List (Int32 × Int32 × Int32)) : s_now (u_vot s x) = s_now s := rfl
theorem s_siz_u_vot (s : ST) (x : List (Int32 × Int32 × Int32)) : s_siz (u_vot s x) = s_siz s := rfl
theorem s_vot_u_vot (s : ST) (x : List (Int32 × Int32 × Int32)) : s_vot (u_vot s x) = x := rfl
theorem s_mov_u_vot (s : ST) (x : List (Int32 × Int32 × Int32)) : s_mov (u_vot s x) = s_mov s := rfl
theorem s_env_u_vot (s : ST) (x : List (Int32 × Int32 × Int32)) : s_env (u_vot s x) = s_env s := rfl
theorem s_evt_u_vot (s : ST) (x : List (Int32 × Int32 × Int32)) : s_evt (u_vot s x) = s_evt s := rfl
theorem s_emp_u_vot (s : ST) (x : List (Int32 × Int32 × Int32)) : s_emp (u_vot s x) = s_emp s := rfl
theorem s_rea_u_vot (s : ST) (x : List (Int32 × Int32 × Int32)) : s_rea (u_vot s x) = s_rea s := rfl
theorem s_tel_u_vot (s : ST) (x : List (Int32 × Int32 × Int32)) : s_tel (u_vot s x) = s_tel s := rfl
theorem s_boo_u_vot (s : ST) (x : List (Int32 × Int32 × Int32)) : s_boo (u_vot s x) = s_boo s := rfl
theorem s_tap_u_vot (s : ST) (x : List (Int32 × Int32 × Int32)) : s_tap (u_vot s x) = s_tap s := rfl
theorem s_law_u_vot (s : ST) (x : List (Int32 × Int32 × Int32)) : s_law (u_vot s x) = s_law s := rfl
theorem s_wav_u_vot (s : ST) (x : List (Int32 × Int32 × Int32)) : s_wav (u_vot s x) = s_wav s := rfl
theorem s_prs_u_vot (s : ST) (x : List (Int32 × Int32 × Int32)) : s_prs (u_vot s x) = s_prs s := rfl
theorem s_box_u_vot (s : ST) (x : List (Int32 × Int32 × Int32)) : s_box (u_vot s x) = s_box s := rfl
theorem s_roa_u_vot (s : ST) (x : List (Int32 × Int32 × Int32)) : s_roa (u_vot s x) = s_roa s := rfl
theorem s_stp_u_vot (s : ST) (x : List (Int32 × Int32 × Int32)) : s_stp (u_vot s x) = s_stp s := rfl
theorem s_las_u_vot (s : ST) (x : List (Int32 × Int32 × Int32)) : s_las (u_vot s x) = s_las s := rfl
theorem s_hea_u_vot (s : ST) (x : List (Int32 × Int32 × Int32)) : s_hea (u_vot s x) = s_hea s := rfl
theorem s_hof_u_vot (s : ST) (x : List (Int32 × Int32 × Int32)) : s_hof (u_vot s x) = s_hof s := rfl
theorem s_now_u_mov (s : ST) (x : List (Int32 × Int32 × Int32 × Int32)) : s_now (u_mov s x) = s_now s := rfl
theorem s_siz_u_mov (s : ST) (x : List (Int32 × Int32 × Int32 × Int32)) : s_siz (u_mov s x) = s_siz s := rfl
theorem s_vot_u_mov (s : ST) (x : List (Int32 × Int32 × Int32 × Int32)) : s_vot (u_mov s x) = s_vot s := rfl
theorem s_mov_u_mov (s : ST) (x : List (Int32 × Int32 × Int32 × Int32)) : s_mov (u_mov s x) = x := rfl
theorem s_env_u_mov (s : ST) (x : List (Int32 × Int32 × Int32 × Int32)) : s_env (u_mov s x) = s_env s := rfl
theorem s_evt_u_mov (s : ST) (x : List (Int32 × Int32 × Int32 × Int32)) : s_evt (u_mov s x) = s_evt s := rfl
theorem s_emp_u_mov (s : ST) (x : List (Int32 × Int32 × Int32 × Int32)) : s_emp (u_mov s x) = s_emp s := rfl
theorem s_rea_u_mov (s : ST) (x : List (Int32 × Int32 × Int32 × Int32)) : s_rea (u_mov s x) = s_rea s := rfl
theorem s_tel_u_mov (s : ST) (x : List (Int32 × Int32 × Int32 × Int32)) : s_tel (u_mov s x) = s_tel s := rfl
theorem s_boo_u_mov (s : ST) (x : List (Int32 × Int32 × Int32 × Int32)) : s_boo (u_mov s x) = s_boo s := rfl
theorem s_tap_u_mov (s : ST) (x : List (Int32 × Int32 × Int32 × Int32)) : s_tap (u_mov s x) = s_tap s := rfl
theorem s_law_u_mov (s : ST) (x : List (Int32 × Int32 × Int32 × Int32)) : s_law (u_mov s x) = s_law s := rfl
theorem s_wav_u_mov (s : ST) (x : List (Int32 × Int32 × Int32 × Int32)) : s_wav (u_mov s x) = s_wav s := rfl
theorem s_prs_u_mov (s : ST) (x : List (Int32 × Int32 × Int32 × Int32)) : s_prs (u_mov s x) = s_prs s := rfl
theorem s_box_u_mov (s : ST) (x : List (Int32 × Int32 × Int32 × Int32)) : s_box (u_mov s x) = s_box s := rfl
theorem s_roa_u_mov (s : ST) (x : List (Int32 × Int32 × Int32 × Int32)) : s_roa (u_mov s x) = s_roa s := rfl
theorem s_stp_u_mov (s : ST) (x : List (Int32 × Int32 × Int32 × Int32)) : s_stp (u_mov s x) = s_stp s := rfl
theorem s_las_u_mov (s : ST) (x : List (Int32 × Int32 × Int32 × Int32)) : s_las (u_mov s x) = s_las s := rfl
theorem s_hea_u_mov (s : ST) (x : List (Int32 × Int32 × Int32 × Int32)) : s_hea (u_mov s x) = s_hea s := rfl
theorem s_hof_u_mov (s : ST) (x : List (Int32 × Int32 × Int32 × Int32)) : s_hof (u_mov s x) = s_hof s := rfl
theorem s_now_u_env (s : ST) (x : List (Int32 × Int32 × Int32 × Int32)) : s_now (u_env s x) = s_now s := rfl
theorem s_siz_u_env (s : ST) (x : List (Int32 × Int32 × Int32 × Int32)) : s_siz (u_env s x) = s_siz s := rfl
theorem s_vot_u_env (s : ST) (x : List (Int32 × Int32 × Int32 × Int32)) : s_vot (u_env s x) = s_vot s := rfl
theorem s_mov_u_env (s : ST) (x : List (Int32 × Int32 × Int32 × Int32)) : s_mov (u_env s x) = s_mov s := rfl
theorem s_env_u_env (s : ST) (x : List (Int32 × Int32 × Int32 × Int32)) : s_env (u_env s x) = x := rfl
theorem s_evt_u_env (s : ST) (x : List (Int32 × Int32 × Int32 × Int32)) : s_evt (u_env s x) = s_evt s := rfl
theorem s_emp_u_env (s : ST) (x : List (Int32 × Int32 × Int32 × Int32)) : s_emp (u_env s x) = s_emp s := rfl
theorem s_rea_u_env (s : ST) (x : List (Int32 × Int32 × Int32 × Int32)) : s_rea (u_env s x) = s_rea s := rfl
theorem s_tel_u_env (s : ST) (x : List (Int32 × Int32 × Int32 × Int32)) : s_tel (u_env s x) = s_tel s := rfl
theorem s_boo_u_env (s : ST) (x : List (Int32 × Int32 × Int32 × Int32)) : s_boo (u_env s x) = s_boo s := rfl
theorem s_tap_u_env (s : ST) (x : List (Int32 × Int32 × Int32 × Int32)) : s_tap (u_env s x) = s_tap s := rfl
theorem s_law_u_env (s : ST) (x : List (Int32 × Int32 × Int32 × Int32)) : s_law (u_env s x) = s_law s := rfl
theorem s_wav_u_env (s : ST) (x : List (Int32 × Int32 × Int32 × Int32)) : s_wav (u_env s x) = s_wav s := rfl
theorem s_prs_u_env (s : ST) (x : List (Int32 × Int32 × Int32 × Int32)) : s_prs (u_env s x) = s_prs s := rfl
theorem s_box_u_env (s : ST) (x : List (Int32 × Int32 × Int32 × Int32)) : s_box (u_env s x) = s_box s := rfl
theorem s_roa_u_env (s : ST) (x : List (Int32 × Int32 × Int32 × Int32)) : s_roa (u_env s x) = s_roa s := rfl
theorem s_stp_u_env (s : ST) (x : List (Int32 × Int32 × Int32 × Int32)) : s_stp (u_env s x) = s_stp s := rfl
theorem s_las_u_env (s : ST) (x : List (Int32 × Int32 × Int32 × Int32)) : s_las (u_env s x) = s_las s := rfl
theorem s_hea_u_env (s : ST) (x : List (Int32 × Int32 × Int32 × Int32)) : s_hea (u_env s x) = s_hea s := rfl
theorem s_hof_u_env (s : ST) (x : List (Int32 × Int32 × Int32 × Int32)) : s_hof (u_env s x) = s_hof s := rfl
theorem s_now_u_evt (s : ST) (x : List (Int32 × Int32 × Int32 × Int32 × Int32)) : s_now (u_evt s x) = s_now s := rfl
theorem s_siz_u_evt (s : ST) (x : List (Int32 × Int32 × Int32 × Int32 × Int32)) : s_siz (u_evt s x) = s_siz s := rfl
theorem s_vot_u_evt (s : ST) (x : List (Int32 × Int32 × Int32 × Int32 × Int32)) : s_vot (u_evt s x) = s_vot s := rfl
theorem s_mov_u_evt (s : ST) (x : List (Int32 × Int32 × Int32 × Int32 × Int32)) : s_mov (u_evt s x) = s_mov s := rfl
theorem s_env_u_evt (s : ST) (x : List (Int32 × Int32 × Int32 × Int32 × Int32)) : s_env (u_evt s x) = s_env s := rfl
theorem s_evt_u_evt (s : ST) (x : List (Int32 × Int32 × Int32 × Int32 × Int32)) : s_evt (u_evt s x) = x := rfl
theorem s_emp_u_evt (s : ST) (x : List (Int32 × Int32 × Int32 × Int32 × Int32)) : s_emp (u_evt s x) = s_emp s := rfl
theorem s_rea_u_evt (s : ST) (x : List (Int32 × Int32 × Int32 × Int32 × Int32)) : s_rea (u_evt s x) = s_rea s := rfl
theorem s_tel_u_evt (s : ST) (x : List (Int32 × Int32 × Int32 × Int32 × Int32)) : s_tel (u_evt s x) = s_tel s := rfl
theorem s_boo_u_evt (s : ST) (x : List (Int32 × Int32 × Int32 × Int32 × Int32)) : s_boo (u_evt s x) = s_boo s := rfl
theorem s_tap_u_evt (s : ST) (x : List (Int32 × Int32 × Int32 × Int32 × Int32)) : s_tap (u_evt s x) = s_tap s := rfl
theorem s_law_u_evt (s : ST) (x : List (Int32 × Int32 × Int32 × Int32 × Int32)) : s_law (u_evt s x) = s_law s := rfl
theorem s_wav_u_evt (s : ST) (x : List (Int32 × Int32 × Int32 × Int32 × Int32)) : s_wav (u_evt s x) = s_wav s := rfl
theorem s_prs_u_evt (s : ST) (x : List (Int32 × Int32 × Int32 × Int32 × Int32)) : s_prs (u_evt s x) = s_prs s := rfl
theorem s_box_u_evt (s : ST) (x : List (Int32 × Int32 × Int32 × Int32 × Int32)) : s_box (u_evt s x) = s_box s := rfl
theorem s_roa_u_evt (s : ST) (x : List (Int32 × Int32 × Int32 × Int32 × Int32)) : s_roa (u_evt s x) = s_roa s := rfl
theorem s_stp_u_evt (s : ST) (x : List (Int32 × Int32 × Int32 × Int32 × Int32)) : s_stp (u_evt s x) = s_stp s := rfl
theorem s_las_u_evt (s : ST) (x : List (Int32 × Int32 × Int32 × Int32 × Int32)) : s_las (u_evt s x) = s_las s := rfl
theorem s_hea_u_evt (s : ST) (x : List (Int32 × Int32 × Int32 × Int32 × Int32)) : s_hea (u_evt s x) = s_hea s := rfl
theorem s_hof_u_evt (s : ST) (x : List (Int32 × Int32 × Int32 × Int32 × Int32)) : s_hof (u_evt s x) = s_hof s := rfl
theorem s_now_u_emp (s : ST) (x : List (Int32 × Int32 × Int32 × Int32)) : s_now (u_emp s x) = s_now s := rfl
theorem s_siz_u_emp (s : ST) (x : List (Int32 × Int32 × Int32 × Int32)) : s_siz (u_emp s x) = s_siz s := rfl
theorem s_vot_u_emp (s : ST) (x : List (Int32 × Int32 × Int32 × Int32)) : s_vot (u_emp s x) = s_vot s := rfl
theorem s_mov_u_emp (s : ST) (x : List (Int32 × Int32 × Int32 × Int32)) : s_mov (u_emp s x) = s_mov s := rfl
theorem s_env_u_emp (s : ST) (x : List (Int32 × Int32 × Int32 × Int32)) : s_env (u_emp s x) = s_env s := rfl
theorem s_evt_u_emp (s : ST) (x : List (Int32 × Int32 × Int32 × Int32)) : s_evt (u_emp s x) = s_evt s := rfl
theorem s_emp_u_emp (s : ST) (x : List (Int32 × Int32 × Int32 × Int32)) : s_emp (u_emp s x) = x := rfl
theorem s_rea_u_emp (s : ST) (x : List (Int32 × Int32 × Int32 × Int32)) : s_rea (u_emp s x) = s_rea s := rfl
theorem s_tel_u_emp (s : ST) (x : List (Int32 × Int32 × Int32 × Int32)) : s_tel (u_emp s x) = s_tel s := rfl
theorem s_boo_u_emp (s : ST) (x : List (Int32 × Int32 × Int32 × Int32)) : s_boo (u_emp s x) = s_boo s := rfl
theorem s_tap_u_emp (s : ST) (x : List (Int32 × Int32 × Int32 × Int32)) : s_tap (u_emp s x) = s_tap s := rfl
theorem s_law_u_emp (s : ST) (x : List (Int32 × Int32 × Int32 × Int32)) : s_law (u_emp s x) = s_law s := rfl
theorem s_wav_u_emp (s : ST) (x : List (Int32 × Int32 × Int32 × Int32)) : s_wav (u_emp s x) = s_wav s := rfl
theorem s_prs_u_emp (s : ST) (x : List (Int32 × Int32 × Int32 × Int32)) : s_prs (u_emp s x) = s_prs s := rfl
theorem s_box_u_emp (s : ST) (x : List (Int32 × Int32 × Int32 × Int32)) : s_box (u_emp s x) = s_box s := rfl
theorem s_roa_u_emp (s : ST) (x : List (Int32 × Int32 × Int32 × Int32)) : s_roa (u_emp s x) = s_roa s := rfl
theorem s_stp_u_emp (s : ST) (x : List (Int32 × Int32 × Int32 × Int32)) : s_stp (u_emp s x) = s_stp s := rfl
theorem s_las_u_emp (s : ST) (x : List (Int32 × Int32 × Int32 × Int32)) : s_las (u_emp s x) = s_las s := rfl
theorem s_hea_u_emp (s : ST) (x : List (Int32 × Int32 × Int32 × Int32)) : s_hea (u_emp s x) = s_hea s := rfl
theorem s_hof_u_emp (s : ST) (x : List (Int32 × Int32 × Int32 × Int32)) : s_hof (u_emp s x) = s_hof s := rfl
theorem s_now_u_rea (s : ST) (x : List (Int32 × Int32 × Int32)) : s_now (u_rea s x) = s_now s := rfl
theorem s_siz_u_rea (s : ST) (x : List (Int32 × Int32 × Int32)) : s_siz (u_rea s x) = s_siz s := rfl
theorem s_vot_u_rea (s : ST) (x : List (Int32 × Int32 × Int32)) : s_vot (u_rea s x) = s_vot s := rfl
theorem s_mov_u_rea (s : ST) (x : List (Int32 × Int32 × Int32)) : s_mov (u_rea s x) = s_mov s := rfl
theorem s_env_u_rea (s : ST) (x : List (Int32 × Int32 × Int32)) : s_env (u_rea s x) = s_env s := rfl
theorem s_evt_u_rea (s : ST) (x : List (Int32 × Int32 × Int32)) : s_evt (u_rea s x) = s_evt s := rfl
theorem s_emp_u_rea (s : ST) (x : List (Int32 × Int32 × Int32)) : s_emp (u_rea s x) = s_emp s := rfl
theorem s_rea_u_rea (s : ST) (x : List (Int32 × Int32 × Int32)) : s_rea (u_rea s x) = x := rfl
theorem s_tel_u_rea (s : ST) (x : List (Int32 × Int32 × Int32)) : s_tel (u_rea s x) = s_tel s := rfl
theorem s_boo_u_rea (s : ST) (x : List (Int32 × Int32 × Int32)) : s_boo (u_rea s x) = s_boo s := rfl
theorem s_tap_u_rea (s : ST) (x : List (Int32 × Int32 × Int32)) : s_tap (u_rea s x) = s_tap s := rfl
theorem s_law_u_rea (s : ST) (x : List (Int32 × Int32 × Int32)) : s_law (u_rea s x) = s_law s := rfl
theorem s_wav_u_rea (s : ST) (x : List (Int32 × Int32 × Int32)) : s_wav (u_rea s x) = s_wav s := rfl
theorem s_prs_u_rea (s : ST) (x : List (Int32 × Int32 × Int32)) : s_prs (u_rea s x) = s_prs s := rfl
theorem s_box_u_rea (s : ST) (x : List (Int32 × Int32 × Int32)) : s_box (u_rea s x) = s_box s := rfl
theorem s_roa_u_rea (s : ST) (x : List (Int32 × Int32 × Int32)) : s_roa (u_rea s x) = s_roa s := rfl
theorem s_stp_u_rea (s : ST) (x : List (Int32 × Int32 × Int32)) : s_stp (u_rea s x) = s_stp s := rfl
theorem s_las_u_rea (s : ST) (x : List (Int32 × Int32 × Int32)) : s_las (u_rea s x) = s_las s := rfl
theorem s_hea_u_rea (s : ST) (x : List (Int32 × Int32 × Int32)) : s_hea (u_rea s x) = s_hea s := rfl
theorem s_hof_u_rea (s : ST) (x : List (Int32 × Int32 × Int32)) : s_hof (u_rea s x) = s_hof s := rfl
theorem s_now_u_tel (s : ST) (x : List (Int32 × Int32 × Int32 × Int32)) : s_now (u_tel s x) = s_now s := rfl
theorem s_siz_u_tel (s : ST) (x : List (Int32 × Int32 × Int32 × Int32)) : s_siz (u_tel s x) = s_siz s := rfl
theorem s_vot_u_tel (s : ST) (x : List (Int32 × Int32 × Int32 × Int32)) : s_vot (u_tel s x) = s_vot s := rfl
theorem s_mov_u_tel (s : ST) (x : List (Int32 × Int32 × Int32 × Int32)) : s_mov (u_tel s x) = s_mov s := rfl
theorem s_env_u_tel (s : ST) (x : List (Int32 × Int32 × Int32 × Int32)) : s_env (u_tel s x) = s_env s := rfl
theorem s_evt_u_tel (s : ST) (x : List (Int32 × Int32 × Int32 × Int32)) : s_evt (u_tel s x) = s_evt s := rfl
theorem s_emp_u_tel (s : ST) (x : List (Int32 × Int32 × Int32 × Int32)) : s_emp (u_tel s x) = s_emp s := rfl
theorem s_rea_u_tel (s : ST) (x : List (Int32 × Int32 × Int32 × Int32)) : s_rea (u_tel s x) = s_rea s := rfl
theorem s_tel_u_tel (s : ST) (x : List (Int32 × Int32 × Int32 × Int32)) : s_tel (u_tel s x) = x := rfl
theorem s_boo_u_tel (s : ST) (x : List (Int32 × Int32 × Int32 × Int32)) : s_boo (u_tel s x) = s_boo s := rfl
theorem s_tap_u_tel (s : ST) (x : List (Int32 × Int32 × Int32 × Int32)) : s_tap (u_tel s x) = s_tap s := rfl
theorem s_law_u_tel (s : ST) (x : List (Int32 × Int32 × Int32 × Int32)) : s_law (u_tel s x) = s_law s := rfl
theorem s_wav_u_tel (s : ST) (x : List (Int32 × Int32 × Int32 × Int32)) : s_wav (u_tel s x) = s_wav s := rfl
theorem s_prs_u_tel (s : ST) (x : List (Int32 × Int32 × Int32 × Int32)) : s_prs (u_tel s x) = s_prs s := rfl
theorem s_box_u_tel (s : ST) (x : List (Int32 × Int32 × Int32 × Int32)) : s_box (u_tel s x) = s_box s := rfl
theorem s_roa_u_tel (s : ST) (x : List (Int32 × Int32 × Int32 × Int32)) : s_roa (u_tel s x) = s_roa s := rfl
theorem s_stp_u_tel (s : ST) (x : List (Int32 × Int32 × Int32 × Int32)) : s_stp (u_tel s x) = s_stp s := rfl
theorem s_las_u_tel (s : ST) (x : List (Int32 × Int32 × Int32 × Int32)) : s_las (u_tel s x) = s_las s := rfl
theorem s_hea_u_tel (s : ST) (x : List (Int32 × Int32 × Int32 × Int32)) : s_hea (u_tel s x) = s_hea s := rfl
theorem s_hof_u_tel (s : ST) (x : List (Int32 × Int32 × Int32 × Int32)) : s_hof (u_tel s x) = s_hof s := rfl
theorem s_now_u_boo (s : ST) (x : List (Int32 × Int32 × Int32)) : s_now (u_boo s x) = s_now s := rfl
theorem s_siz_u_boo (s : ST) (x : List (Int32 × Int32 × Int32)) : s_siz (u_boo s x) = s_siz s := rfl
theorem s_vot_u_boo (s : ST) (x : List (Int32 × Int32 × Int32)) : s_vot (u_boo s x) = s_vot s := rfl
theorem s_mov_u_boo (s : ST) (x : List (Int32 × Int32 × Int32)) : s_mov (u_boo s x) = s_mov s := rfl
theorem s_env_u_boo (s : ST) (x : List (Int32 × Int32 × Int32)) : s_env (u_boo s x) = s_env s := rfl
theorem s_evt_u_boo (s : ST) (x : List (Int32 × Int32 × Int32)) : s_evt (u_boo s x) = s_evt s := rfl
theorem s_emp_u_boo (s : ST) (x : List (Int32 × Int32 × Int32)) : s_emp (u_boo s x) = s_emp s := rfl
theorem s_rea_u_boo (s : ST) (x : List (Int32 × Int32 × Int32)) : s_rea (u_boo s x) = s_rea s := rfl
theorem s_tel_u_boo (s : ST) (x : List (Int32 × Int32 × Int32)) : s_tel (u_boo s x) = s_tel s := rfl
theorem s_boo_u_boo (s : ST) (x : List (Int32 × Int32 × Int32)) : s_boo (u_boo s x) = x := rfl
theorem s_tap_u_boo (s : ST) (x : List (Int32 × Int32 × Int32)) : s_tap (u_boo s x) = s_tap s := rfl
theorem s_law_u_boo (s : ST) (x : List (Int32 × Int32 × Int32)) : s_law (u_boo s x) = s_law s := rfl
theorem s_wav_u_boo (s : ST) (x : List (Int32 × Int32 × Int32)) : s_wav (u_boo s x) = s_wav s := rfl
theorem s_prs_u_boo (s : ST) (x : List (Int32 × Int32 × Int32)) : s_prs (u_boo s x) = s_prs s := rfl
theorem s_box_u_boo (s : ST) (x : List (Int32 × Int32 × Int32)) : s_box (u_boo s x) = s_box s := rfl
theorem s_roa_u_boo (s : ST) (x : List (Int32 × Int32 × Int32)) : s_roa (u_boo s x) = s_roa s := rfl
theorem s_stp_u_boo (s : ST) (x : List (Int32 × Int32 × Int32)) : s_stp (u_boo s x) = s_stp s := rfl
theorem s_las_u_boo (s : ST) (x : List (Int32 × Int32 × Int32)) : s_las (u_boo s x) = s_las s := rfl
theorem s_hea_u_boo (s : ST) (x : List (Int32 × Int32 × Int32)) : s_hea (u_boo s x) = s_hea s := rfl
theorem s_hof_u_boo (s : ST) (x : List (Int32 × Int32 × Int32)) : s_hof (u_boo s x) = s_hof s := rfl
theorem s_now_u_tap (s : ST) (x : List Int32) : s_now (u_tap s x) = s_now s := rfl
theorem s_siz_u_tap (s : ST) (x : List Int32) : s_siz (u_tap s x) = s_siz s := rfl
theorem s_vot_u_tap (s : ST) (x : List Int32) : s_vot (u_tap s x) = s_vot s := rfl
theorem s_mov_u_tap (s : ST) (x : List Int32) : s_mov (u_tap s x) = s_mov s := rfl
theorem s_env_u_tap (s : ST) (x : List Int32) : s_env (u_tap s x) = s_env s := rfl
theorem s_evt_u_tap (s : ST) (x : List Int32) : s_evt (u_tap s x) = s_evt s := rfl
theorem s_emp_u_tap (s : ST) (x : List Int32) : s_emp (u_tap s x) = s_emp s := rfl
theorem s_rea_u_tap (s : ST) (x : List Int32) : s_rea (u_tap s x) = s_rea s := rfl
theorem s_tel_u_tap (s : ST) (x : List Int32) : s_tel (u_tap s x) = s_tel s := rfl
theorem s_boo_u_tap (s : ST) (x : List Int32) : s_boo (u_tap s x) = s_boo s := rfl
theorem s_tap_u_tap (s : ST) (x : List Int32) : s_tap (u_tap s x) = x := rfl
theorem s_law_u_tap (s : ST) (x : List Int32) : s_law (u_tap s x) = s_law s := rfl
theorem s_wav_u_tap (s : ST) (x : List Int32) : s_wav (u_tap s x) = s_wav s := rfl
theorem s_prs_u_tap (s : ST) (x : List Int32) : s_prs (u_tap s x) = s_prs s := rfl
theorem s_box_u_tap (s : ST) (x : List Int32) : s_box (u_tap s x) = s_box s := rfl
theorem s_roa_u_tap (s : ST) (x : List Int32) : s_roa (u_tap s x) = s_roa s := rfl
theorem s_stp_u_tap (s : ST) (x : List Int32) : s_stp (u_tap s x) = s_stp s := rfl
theorem s_las_u_tap (s : ST) (x : List Int32) : s_las (u_tap s x) = s_las s := rfl
theorem s_hea_u_tap (s : ST) (x : List Int32) : s_hea (u_tap s x) = s_hea s := rfl
theorem s_hof_u_tap (s : ST) (x : List Int32) : s_hof (u_tap s x) = s_hof s := rfl
theorem s_now_u_law (s : ST) (x : List (Int32 × Int32 × Int32 × List (List Int32 × Int32 × List Int32))) : s_now (u_law s x) = s_now s := rfl
theorem s_siz_u_law (s : ST) (x : List (Int32 × Int32 × Int32 × List (List Int32 × Int32 × List Int32))) : s_siz (u_law s x) = s_siz s := rfl
theorem s_vot_u_law (s : ST) (x : List (Int32 × Int32 × Int32 × List (List Int32 × Int32 × List Int32))) : s_vot (u_law s x) = s_vot s := rfl
theorem s_mov_u_law (s : ST) (x : List (Int32 × Int32 × Int32 × List (List Int32 × Int32 × List Int32))) : s_mov (u_law s x) = s_mov s := rfl
theorem s_env_u_law (s : ST) (x : List (Int32 × Int32 × Int32 × List (List Int32 × Int32 × List Int32))) : s_env (u_law s x) = s_env s := rfl
theorem s_evt_u_law (s : ST) (x : List (Int32 × Int32 × Int32 × List (List Int32 × Int32 × List Int32))) : s_evt (u_law s x) = s_evt s := rfl
theorem s_emp_u_law (s : ST) (x : List (Int32 × Int32 × Int32 × List (List Int32 × Int32 × List Int32))) : s_emp (u_law s x) = s_emp s := rfl
theorem s_rea_u_law (s : ST) (x : List (Int32 × Int32 × Int32 × List (List Int32 × Int32 × List Int32))) : s_rea (u_law s x) = s_rea s := rfl
theorem s_tel_u_law (s : ST) (x : List (Int32 × Int32 × Int32 × List (List Int32 × Int32 × List Int32))) : s_tel (u_law s x) = s_tel s := rfl
theorem s_boo_u_law (s : ST) (x : List (Int32 × Int32 × Int32 × List (List Int32 × Int32 × List Int32))) : s_boo (u_law s x) = s_boo s := rfl
theorem s_tap_u_law (s : ST) (x : List (Int32 × Int32 × Int32 × List (List Int32 × Int32 × List Int32))) : s_tap (u_law s x) = s_tap s := rfl
theorem s_law_u_law (s : ST) (x : List (Int32 × Int32 × Int32 × List (List Int32 × Int32 × List Int32))) : s_law (u_law s x) = x := rfl
theorem s_wav_u_law (s : ST) (x : List (Int32 × Int32 × Int32 × List (List Int32 × Int32 × List Int32))) : s_wav (u_law s x) = s_wav s := rfl
theorem s_prs_u_law (s : ST) (x : List (Int32 × Int32 × Int32 × List (List Int32 × Int32 × List Int32))) : s_prs (u_law s x) = s_prs s := rfl
theorem s_box_u_law (s : ST) (x : List (Int32 × Int32 × Int32 × List (List Int32 × Int32 × List Int32))) : s_box (u_law s x) = s_box s := rfl
theorem s_roa_u_law (s : ST) (x : List (Int32 × Int32 × Int32 × List (List Int32 × Int32 × List Int32))) : s_roa (u_law s x) = s_roa s := rfl
theorem s_stp_u_law (s : ST) (x : List (Int32 × Int32 × Int32 × List (List Int32 × Int32 × List Int32))) : s_stp (u_law s x) = s_stp s := rfl
theorem s_las_u_law (s : ST) (x : List (Int32 × Int32 × Int32 × List (List Int32 × Int32 × List Int32))) : s_las (u_law s x) = s_las s := rfl
theorem s_hea_u_law (s : ST) (x : List (Int32 × Int32 × Int32 × List (List Int32 × Int32 × List Int32))) : s_hea (u_law s x) = s_hea s := rfl
theorem s_hof_u_law (s : ST) (x : List (Int32 × Int32 × Int32 × List (List Int32 × Int32 × List Int32))) : s_hof (u_law s x) = s_hof s := rfl
theorem s_now_u_wav (s : ST) (x : List (Int32 × Int32 × Int32)) : s_now (u_wav s x) = s_now s := rfl
theorem s_siz_u_wav (s : ST) (x : List (Int32 × Int32 × Int32)) : s_siz (u_wav s x) = s_siz s := rfl
theorem s_vot_u_wav (s : ST) (x : List (Int32 × Int32 × Int32)) : s_vot (u_wav s x) = s_vot s := rfl
theorem s_mov_u_wav (s : ST) (x : List (Int32 × Int32 × Int32)) : s_mov (u_wav s x) = s_mov s := rfl
theorem s_env_u_wav (s : ST) (x : List (Int32 × Int32 × Int32)) : s_env (u_wav s x) = s_env s := rfl
theorem s_evt_u_wav (s : ST) (x : List (Int32 × Int32 × Int32)) : s_evt (u_wav s x) = s_evt s := rfl
theorem s_emp_u_wav (s : ST) (x : List (Int32 × Int32 × Int32)) : s_emp (u_wav s x) = s_emp s := rfl
theorem s_rea_u_wav (s : ST) (x : List (Int32 × Int32 × Int32)) : s_rea (u_wav s x) = s_rea s := rfl
theorem s_tel_u_wav (s : ST) (x : List (Int32 × Int32 × Int32)) : s_tel (u_wav s x) = s_tel s := rfl
theorem s_boo_u_wav (s : ST) (x : List (Int32 × Int32 × Int32)) : s_boo (u_wav s x) = s_boo s := rfl
theorem s_tap_u_wav (s : ST) (x : List (Int32 × Int32 × Int32)) : s_tap (u_wav s x) = s_tap s := rfl
theorem s_law_u_wav (s : ST) (x : List (Int32 × Int32 × Int32)) : s_law (u_wav s x) = s_law s := rfl
theorem s_wav_u_wav (s : ST) (x : List (Int32 × Int32 × Int32)) : s_wav (u_wav s x) = x := rfl
theorem s_prs_u_wav (s : ST) (x : List (Int32 × Int32 × Int32)) : s_prs (u_wav s x) = s_prs s := rfl
theorem s_box_u_wav (s : ST) (x : List (Int32 × Int32 × Int32)) : s_box (u_wav s x) = s_box s := rfl
theorem s_roa_u_wav (s : ST) (x : List (Int32 × Int32 × Int32)) : s_roa (u_wav s x) = s_roa s := rfl
theorem s_stp_u_wav (s : ST) (x : List (Int32 × Int32 × Int32)) : s_stp (u_wav s x) = s_stp s := rfl
theorem s_las_u_wav (s : ST) (x : List (Int32 × Int32 × Int32)) : s_las (u_wav s x) = s_las s := rfl
theorem s_hea_u_wav (s : ST) (x : List (Int32 × Int32 × Int32)) : s_hea (u_wav s x) = s_hea s := rfl
theorem s_hof_u_wav (s : ST) (x : List (Int32 × Int32 × Int32)) : s_hof (u_wav s x) = s_hof s := rfl
theorem s_now_u_prs (s : ST) (x : Int32) : s_now (u_prs s x) = s_now s := rfl
theorem s_siz_u_prs (s : ST) (x : Int32) : s_siz (u_prs s x) = s_siz s := rfl
theorem s_vot_u_prs (s : ST) (x : Int32) : s_vot (u_prs s x) = s_vot s := rfl
theorem s_mov_u_prs (s : ST) (x : Int32) : s_mov (u_prs s x) = s_mov s := rfl
theorem s_env_u_prs (s : ST) (x : Int32) : s_env (u_prs s x) = s_env s := rfl
theorem s_evt_u_prs (s : ST) (x : Int32) : s_evt (u_prs s x) = s_evt s := rfl
theorem s_emp_u_prs (s : ST) (x : Int32) : s_emp (u_prs s x) = s_emp s := rfl
theorem s_rea_u_prs (s : ST) (x : Int32) : s_rea (u_prs s x) = s_rea s := rfl
theorem s_tel_u_prs (s : ST) (x : Int32) : s_tel (u_prs s x) = s_tel s := rfl
theorem s_boo_u_prs (s : ST) (x : Int32) : s_boo (u_prs s x) = s_boo s := rfl
theorem s_tap_u_prs (s : ST) (x : Int32) : s_tap (u_prs s x) = s_tap s := rfl
theorem s_law_u_prs (s : ST) (x : Int32) : s_law (u_prs s x) = s_law s := rfl
theorem s_wav_u_prs (s : ST) (x : Int32) : s_wav (u_prs s x) = s_wav s := rfl
theorem s_prs_u_prs (s : ST) (x : Int32) : s_prs (u_prs s x) = x := rfl
theorem s_box_u_prs (s : ST) (x : Int32) : s_box (u_prs s x) = s_box s := rfl
theorem s_roa_u_prs (s : ST) (x : Int32) : s_roa (u_prs s x) = s_roa s := rfl
theorem s_stp_u_prs (s : ST) (x : Int32) : s_stp (u_prs s x) = s_stp s := rfl
theorem s_las_u_prs (s : ST) (x : Int32) : s_las (u_prs s x) = s_las s := rfl
theorem s_hea_u_prs (s : ST) (x : Int32) : s_hea (u_prs s x) = s_hea s := rfl
theorem s_hof_u_prs (s : ST) (x : Int32) : s_hof (u_prs s x) = s_hof s := rfl
theorem s_now_u_box (s : ST) (x : Nat → Option (Int32 × Int32)) : s_now (u_box s x) = s_now s := rfl
theorem s_siz_u_box (s : ST) (x : Nat → Option (Int32 × Int32)) : s_siz (u_box s x) = s_siz s := rfl
theorem s_vot_u_box (s : ST) (x : Nat → Option (Int32 × Int32)) : s_vot (u_box s x) = s_vot s := rfl
theorem s_mov_u_box (s : ST) (x : Nat → Option (Int32 × Int32)) : s_mov (u_box s x) = s_mov s := rfl
theorem s_env_u_box (s : ST) (x : Nat → Option (Int32 × Int32)) : s_env (u_box s x) = s_env s := rfl
theorem s_evt_u_box (s : ST) (x : Nat → Option (Int32 × Int32)) : s_evt (u_box s x) = s_evt s := rfl
theorem s_emp_u_box (s : ST) (x : Nat → Option (Int32 × Int32)) : s_emp (u_box s x) = s_emp s := rfl
theorem s_rea_u_box (s : ST) (x : Nat → Option (Int32 × Int32)) : s_rea (u_box s x) = s_rea s := rfl
theorem s_tel_u_box (s : ST) (x : Nat → Option (Int32 × Int32)) : s_tel (u_box s x) = s_tel s := rfl
theorem s_boo_u_box (s : ST) (x : Nat → Option (Int32 × Int32)) : s_boo (u_box s x) = s_boo s := rfl
theorem s_tap_u_box (s : ST) (x : Nat → Option (Int32 × Int32)) : s_tap (u_box s x) = s_tap s := rfl
theorem s_law_u_box (s : ST) (x : Nat → Option (Int32 × Int32)) : s_law (u_box s x) = s_law s := rfl
theorem s_wav_u_box (s : ST) (x : Nat → Option (Int32 × Int32)) : s_wav (u_box s x) = s_wav s := rfl
theorem s_prs_u_box (s : ST) (x : Nat → Option (Int32 × Int32)) : s_prs (u_box s x) = s_prs s := rfl
theorem s_box_u_box (s : ST) (x : Nat → Option (Int32 × Int32)) : s_box (u_box s x) = x := rfl
theorem s_roa_u_box (s : ST) (x : Nat → Option (Int32 × Int32)) : s_roa (u_box s x) = s_roa s := rfl
theorem s_stp_u_box (s : ST) (x : Nat → Option (Int32 × Int32)) : s_stp (u_box s x) = s_stp s := rfl
theorem s_las_u_box (s : ST) (x : Nat → Option (Int32 × Int32)) : s_las (u_box s x) = s_las s := rfl
theorem s_hea_u_box (s : ST) (x : Nat → Option (Int32 × Int32)) : s_hea (u_box s x) = s_hea s := rfl
theorem s_hof_u_box (s : ST) (x : Nat → Option (Int32 × Int32)) : s_hof (u_box s x) = s_hof s := rfl
theorem s_now_u_roa (s : ST) (x : Nat → Int32) : s_now (u_roa s x) = s_now s := rfl
theorem s_siz_u_roa (s : ST) (x : Nat → Int32) : s_siz (u_roa s x) = s_siz s := rfl
theorem s_vot_u_roa (s : ST) (x : Nat → Int32) : s_vot (u_roa s x) = s_vot s := rfl
theorem s_mov_u_roa (s : ST) (x : Nat → Int32) : s_mov (u_roa s x) = s_mov s := rfl
theorem s_env_u_roa (s : ST) (x : Nat → Int32) : s_env (u_roa s x) = s_env s := rfl
theorem s_evt_u_roa (s : ST) (x : Nat → Int32) : s_evt (u_roa s x) = s_evt s := rfl
theorem s_emp_u_roa (s : ST) (x : Nat → Int32) : s_emp (u_roa s x) = s_emp s := rfl
theorem s_rea_u_roa (s : ST) (x : Nat → Int32) : s_rea (u_roa s x) = s_rea s := rfl
theorem s_tel_u_roa (s : ST) (x : Nat → Int32) : s_tel (u_roa s x) = s_tel s := rfl
theorem s_boo_u_roa (s : ST) (x : Nat → Int32) : s_boo (u_roa s x) = s_boo s := rfl
theorem s_tap_u_roa (s : ST) (x : Nat → Int32) : s_tap (u_roa s x) = s_tap s := rfl
theorem s_law_u_roa (s : ST) (x : Nat → Int32) : s_law (u_roa s x) = s_law s := rfl
theorem s_wav_u_roa (s : ST) (x : Nat → Int32) : s_wav (u_roa s x) = s_wav s := rfl
theorem s_prs_u_roa (s : ST) (x : Nat → Int32) : s_prs (u_roa s x) = s_prs s := rfl
theorem s_box_u_roa (s : ST) (x : Nat → Int32) : s_box (u_roa s x) = s_box s := rfl
theorem s_roa_u_roa (s : ST) (x : Nat → Int32) : s_roa (u_roa s x) = x := rfl
theorem s_stp_u_roa (s : ST) (x : Nat → Int32) : s_stp (u_roa s x) = s_stp s := rfl
theorem s_las_u_roa (s : ST) (x : Nat → Int32) : s_las (u_roa s x) = s_las s := rfl
theorem s_hea_u_roa (s : ST) (x : Nat → Int32) : s_hea (u_roa s x) = s_hea s := rfl
theorem s_hof_u_roa (s : ST) (x : Nat → Int32) : s_hof (u_roa s x) = s_hof s := rfl
theorem s_now_u_stp (s : ST) (x : Int32) : s_now (u_stp s x) = s_now s := rfl
theorem s_siz_u_stp (s : ST) (x : Int32) : s_siz (u_stp s x) = s_siz s := rfl
theorem s_vot_u_stp (s : ST) (x : Int32) : s_vot (u_stp s x) = s_vot s := rfl
theorem s_mov_u_stp (s : ST) (x : Int32) : s_mov (u_stp s x) = s_mov s := rfl
theorem s_env_u_stp (s : ST) (x : Int32) : s_env (u_stp s x) = s_env s := rfl
theorem s_evt_u_stp (s : ST) (x : Int32) : s_evt (u_stp s x) = s_evt s := rfl
theorem s_emp_u_stp (s : ST) (x : Int32) : s_emp (u_stp s x) = s_emp s := rfl
theorem s_rea_u_stp (s : ST) (x : Int32) : s_rea (u_stp s x) = s_rea s := rfl
theorem s_tel_u_stp (s : ST) (x : Int32) : s_tel (u_stp s x) = s_tel s := rfl
theorem s_boo_u_stp (s : ST) (x : Int32) : s_boo (u_stp s x) = s_boo s := rfl
theorem s_tap_u_stp (s : ST) (x : Int32) : s_tap (u_stp s x) = s_tap s := rfl
theorem s_law_u_stp (s : ST) (x : Int32) : s_law (u_stp s x) = s_law s := rfl
theorem s_wav_u_stp (s : ST) (x : Int32) : s_wav (u_stp s x) = s_wav s := rfl
theorem s_prs_u_stp (s : ST) (x : Int32) : s_prs (u_stp s x) = s_prs s := rfl
theorem s_box_u_stp (s : ST) (x : Int32) : s_box (u_stp s x) = s_box s := rfl
theorem s_roa_u_stp (s : ST) (x : Int32) : s_roa (u_stp s x) = s_roa s := rfl
theorem s_stp_u_stp (s : ST) (x : Int32) : s_stp (u_stp s x) = x := rfl
theorem s_las_u_stp (s : ST) (x : Int32) : s_las (u_stp s x) = s_las s := rfl
theorem s_hea_u_stp (s : ST) (x : Int32) : s_hea (u_stp s x) = s_hea s := rfl
theorem s_hof_u_stp (s : ST) (x : Int32) : s_hof (u_stp s x) = s_hof s := rfl
theorem s_now_u_las (s : ST) (x : Nat → Int32) : s_now (u_las s x) = s_now s := rfl
theorem s_siz_u_las (s : ST) (x : Nat → Int32) : s_siz (u_las s x) = s_siz s := rfl
theorem s_vot_u_las (s : ST) (x : Nat → Int32) : s_vot (u_las s x) = s_vot s := rfl
theorem s_mov_u_las (s : ST) (x : Nat → Int32) : s_mov (u_las s x) = s_mov s := rfl
theorem s_env_u_las (s : ST) (x : Nat → Int32) : s_env (u_las s x) = s_env s := rfl
theorem s_evt_u_las (s : ST) (x : Nat → Int32) : s_evt (u_las s x) = s_evt s := rfl
theorem s_emp_u_las (s : ST) (x : Nat → Int32) : s_emp (u_las s x) = s_emp s := rfl
theorem s_rea_u_las (s : ST) (x : Nat → Int32) : s_rea (u_las s x) = s_rea s := rfl
theorem s_tel_u_las (s : ST) (x : Nat → Int32) : s_tel (u_las s x) = s_tel s := rfl
theorem s_boo_u_las (s : ST) (x : Nat → Int32) : s_boo (u_las s x) = s_boo s := rfl
theorem s_tap_u_las (s : ST) (x : Nat → Int32) : s_tap (u_las s x) = s_tap s := rfl
theorem s_law_u_las (s : ST) (x : Nat → Int32) : s_law (u_las s x) = s_law s := rfl
theorem s_wav_u_las (s : ST) (x : Nat → Int32) : s_wav (u_las s x) = s_wav s := rfl
theorem s_prs_u_las (s : ST) (x : Nat → Int32) : s_prs (u_las s x) = s_prs s := rfl
theorem s_box_u_las (s : ST) (x : Nat → Int32) : s_box (u_las s x) = s_box s := rfl
theorem s_roa_u_las (s : ST) (x : Nat → Int32) : s_roa (u_las s x) = s_roa s := rfl
theorem s_stp_u_las (s : ST) (x : Nat → Int32) : s_stp (u_las s x) = s_stp s := rfl
theorem s_las_u_las (s : ST) (x : Nat → Int32) : s_las (u_las s x) = x := rfl
theorem s_hea_u_las (s : ST) (x : Nat → Int32) : s_hea (u_las s x) = s_hea s := rfl
theorem s_hof_u_las (s : ST) (x : Nat → Int32) : s_hof (u_las s x) = s_hof s := rfl
theorem s_now_u_hea (s : ST) (x : List (Int32 × Int32)) : s_now (u_hea s x) = s_now s := rfl
theorem s_siz_u_hea (s : ST) (x : List (Int32 × Int32)) : s_siz (u_hea s x) = s_siz s := rfl
theorem s_vot_u_hea (s : ST) (x : List (Int32 × Int32)) : s_vot (u_hea s x) = s_vot s := rfl
theorem s_mov_u_hea (s : ST) (x : List (Int32 × Int32)) : s_mov (u_hea s x) = s_mov s := rfl
theorem s_env_u_hea (s : ST) (x : List (Int32 × Int32)) : s_env (u_hea s x) = s_env s := rfl
theorem s_evt_u_hea (s : ST) (x : List (Int32 × Int32)) : s_evt (u_hea s x) = s_evt s := rfl
theorem s_emp_u_hea (s : ST) (x : List (Int32 × Int32)) : s_emp (u_hea s x) = s_emp s := rfl
theorem s_rea_u_hea (s : ST) (x : List (Int32 × Int32)) : s_rea (u_hea s x) = s_rea s := rfl
theorem s_tel_u_hea (s : ST) (x : List (Int32 × Int32)) : s_tel (u_hea s x) = s_tel s := rfl
theorem s_boo_u_hea (s : ST) (x : List (Int32 × Int32)) : s_boo (u_hea s x) = s_boo s := rfl
theorem s_tap_u_hea (s : ST) (x : List (Int32 × Int32)) : s_tap (u_hea s x) = s_tap s := rfl
theorem s_law_u_hea (s : ST) (x : List (Int32 × Int32)) : s_law (u_hea s x) = s_law s := rfl
theorem s_wav_u_hea (s : ST) (x : List (Int32 × Int32)) : s_wav (u_hea s x) = s_wav s := rfl
theorem s_prs_u_hea (s : ST) (x : List (Int32 × Int32)) : s_prs (u_hea s x) = s_prs s := rfl
theorem s_box_u_hea (s : ST) (x : List (Int32 × Int32)) : s_box (u_hea s x) = s_box s := rfl
theorem s_roa_u_hea (s : ST) (x : List (Int32 × Int32)) : s_roa (u_hea s x) = s_roa s := rfl
theorem s_stp_u_hea (s : ST) (x : List (Int32 × Int32)) : s_stp (u_hea s x) = s_stp s := rfl
theorem s_las_u_hea (s : ST) (x : List (Int32 × Int32)) : s_las (u_hea s x) = s_las s := rfl
theorem s_hea_u_hea (s : ST) (x : List (Int32 × Int32)) : s_hea (u_hea s x) = x := rfl
theorem s_hof_u_hea (s : ST) (x : List (Int32 × Int32)) : s_hof (u_hea s x) = s_hof s := rfl
theorem s_now_u_hof (s : ST) (x : Nat → Nat) : s_now (u_hof s x) = s_now s := rfl
theorem s_siz_u_hof (s : ST) (x : Nat → Nat) : s_siz (u_hof s x) = s_siz s := rfl
theorem s_vot_u_hof (s : ST) (x : Nat → Nat) : s_vot (u_hof s x) = s_vot s := rfl
theorem s_mov_u_hof (s : ST) (x : Nat → Nat) : s_mov (u_hof s x) = s_mov s := rfl
theorem s_env_u_hof (s : ST) (x : Nat → Nat) : s_env (u_hof s x) = s_env s := rfl
theorem s_evt_u_hof (s : ST) (x : Nat → Nat) : s_evt (u_hof s x) = s_evt s := rfl
theorem s_emp_u_hof (s : ST) (x : Nat → Nat) : s_emp (u_hof s x) = s_emp s := rfl
theorem s_rea_u_hof (s : ST) (x : Nat → Nat) : s_rea (u_hof s x) = s_rea s := rfl
theorem s_tel_u_hof (s : ST) (x : Nat → Nat) : s_tel (u_hof s x) = s_tel s := rfl
theorem s_boo_u_hof (s : ST) (x : Nat → Nat) : s_boo (u_hof s x) = s_boo s := rfl
theorem s_tap_u_hof (s : ST) (x : Nat → Nat) : s_tap (u_hof s x) = s_tap s := rfl
theorem s_law_u_hof (s : ST) (x : Nat → Nat) : s_law (u_hof s x) = s_law s := rfl
theorem s_wav_u_hof (s : ST) (x : Nat → Nat) : s_wav (u_hof s x) = s_wav s := rfl
theorem s_prs_u_hof (s : ST) (x : Nat → Nat) : s_prs (u_hof s x) = s_prs s := rfl
theorem s_box_u_hof (s : ST) (x : Nat → Nat) : s_box (u_hof s x) = s_box s := rfl
theorem s_roa_u_hof (s : ST) (x : Nat → Nat) : s_roa (u_hof s x) = s_roa s := rfl
theorem s_stp_u_hof (s : ST) (x : Nat → Nat) : s_stp (u_hof s x) = s_stp s := rfl
theorem s_las_u_hof (s : ST) (x : Nat → Nat) : s_las (u_hof s x) = s_las s := rfl
theorem s_hea_u_hof (s : ST) (x : Nat → Nat) : s_hea (u_hof s x) = s_hea s := rfl
theorem s_hof_u_hof (s : ST) (x : Nat → Nat) : s_hof (u_hof s x) = x := rfl
