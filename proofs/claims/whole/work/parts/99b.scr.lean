/-! the script: a row of ints of the start, that nobody writes -/
abbrev SCRT : Type := Nat × Nat × (Nat → Int32)
def z_b (Z : SCRT) : Nat := Z.1
def z_n (Z : SCRT) : Nat := Z.2.1
def z_x (Z : SCRT) : Nat → Int32 := Z.2.2
def SCR (Γ : GAM) (E : EV) (Z : SCRT) : Prop :=
  match E with
  | (p, l, e, R, s, m, args, below, meth, c, Q) => va_X (z_b Z) (z_n Z) (z_x Z) s Γ.2.2.1
section
variable {Γ : GAM} {E : EV} {cc : ByteArray} {nL : Nat} {own : String} {ret : Option FieldType} {fr lo : Nat} {K : Option Value → GH → Prop} {pc : Nat} {L : List (Option Value)} {S : List Value} {g : GH}
theorem j_scr (hE : GE Γ E cc nL own ret fr lo K) {Z : SCRT} (hz : SCR Γ E Z) {a : Nat} {i : Int32} (ha : a = z_b Z) (hi : inB i (z_n Z)) (hd : decode cc pc = .ok (.iaload, 1)) (h : JW Γ E (pc + 1) L (.int (z_x Z i.toNatClampNeg) :: S) g) : JW Γ E pc L (.int i :: .ref a :: S) g := by
  subst ha
  obtain ⟨p, l, e, R, s, m, args, below, meth, c, Q⟩ := E
  obtain ⟨hx, hb, hml, ho, hts, hret, hlk, hK, -, hQ⟩ := hE
  intro H locs k' n ls a1 a2 a3
  obtain ⟨scr, h1, h2, h3, h4, h5⟩ := hz
  have hA : H[z_b Z]? = some scr := by rw [a1.2.1 _ (Array.getElem?_eq_some_iff.mp h1).1]; exact h1
  exact W.iald hx hb hA h2 h3 (by rw [h4]; exact inB_in hi) (h5 _ hi.2) rfl rfl hd (h H locs k' n ls a1 a2 a3)
theorem j_scrLen (hE : GE Γ E cc nL own ret fr lo K) {Z : SCRT} (hz : SCR Γ E Z) {a : Nat} (ha : a = z_b Z) (hd : decode cc pc = .ok (.arraylength, 1)) (h : JW Γ E (pc + 1) L (.int (Int32.ofNat (z_n Z)) :: S) g) : JW Γ E pc L (.ref a :: S) g := by
  subst ha
  obtain ⟨p, l, e, R, s, m, args, below, meth, c, Q⟩ := E
  obtain ⟨hx, hb, hml, ho, hts, hret, hlk, hK, -, hQ⟩ := hE
  intro H locs k' n ls a1 a2 a3
  obtain ⟨scr, h1, h2, h3, h4, h5⟩ := hz
  have hA : H[z_b Z]? = some scr := by rw [a1.2.1 _ (Array.getElem?_eq_some_iff.mp h1).1]; exact h1
  exact W.alen hx hb hA h2 (by rw [h4]) rfl rfl hd (h H locs k' n ls a1 a2 a3)
end
