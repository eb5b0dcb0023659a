/-! the class's own throw -/
abbrev nsL : List Cond := xt_at "PostVotes" 215 NSE 13 prog_36_method_4_code ["java/lang/RuntimeException", "java/lang/Exception"]
set_option maxRecDepth 100000 in
theorem ns_in : ∀ w ∈ nsL, w ∈ tables_1 := by decide +kernel
set_option maxRecDepth 100000 in
theorem ns_ot : ∀ w ∈ Cond.classLink "PostVotes" 211 NSE :: Cond.initialized NSE :: nsL, vx_ot w = true := by decide +kernel
def nsD : Cond → Bool := fun c => match c with | .declares .. => true | _ => false
set_option maxRecDepth 100000 in
theorem ns_ng : ∀ w ∈ nsL.filter (fun w => !goodWord w), w = Cond.castable NSE NSE ∨ nsD w = true := by decide +kernel
