theorem j_iadd {Γ : GAM} {E : EV} {cc : ByteArray} {nL : Nat} {own : String} {ret : Option FieldType} {fr lo : Nat} {K : Option Value → GH → Prop} (hE : GE Γ E cc nL own ret fr lo K) {pc : Nat} {L : List (Option Value)} {S : List Value} {g : GH} {x y : Int32} (hd : decode cc pc = .ok (.iadd, 1))  (h : JW Γ E (pc + 1) L (.int (x + y) :: S) g) : JW Γ E pc L (.int y :: .int x :: S) g := by
  obtain ⟨p, l, e, R, s, m, args, below, meth, c, Q⟩ := E
  obtain ⟨hx, hb, hml, ho, hts, hret, hlk, hK, ⟨hfr, hlo, hcs, hB, u0, hu0, hs0⟩, hQ⟩ := hE
  exact fun H locs k n ls a1 a2 a3 => lv_iadd hx hb hd  (h H locs k n ls a1 a2 a3)
theorem j_isub {Γ : GAM} {E : EV} {cc : ByteArray} {nL : Nat} {own : String} {ret : Option FieldType} {fr lo : Nat} {K : Option Value → GH → Prop} (hE : GE Γ E cc nL own ret fr lo K) {pc : Nat} {L : List (Option Value)} {S : List Value} {g : GH} {x y : Int32} (hd : decode cc pc = .ok (.isub, 1))  (h : JW Γ E (pc + 1) L (.int (x - y) :: S) g) : JW Γ E pc L (.int y :: .int x :: S) g := by
  obtain ⟨p, l, e, R, s, m, args, below, meth, c, Q⟩ := E
  obtain ⟨hx, hb, hml, ho, hts, hret, hlk, hK, ⟨hfr, hlo, hcs, hB, u0, hu0, hs0⟩, hQ⟩ := hE
  exact fun H locs k n ls a1 a2 a3 => lv_isub hx hb hd  (h H locs k n ls a1 a2 a3)
theorem j_imul {Γ : GAM} {E : EV} {cc : ByteArray} {nL : Nat} {own : String} {ret : Option FieldType} {fr lo : Nat} {K : Option Value → GH → Prop} (hE : GE Γ E cc nL own ret fr lo K) {pc : Nat} {L : List (Option Value)} {S : List Value} {g : GH} {x y : Int32} (hd : decode cc pc = .ok (.imul, 1))  (h : JW Γ E (pc + 1) L (.int (x * y) :: S) g) : JW Γ E pc L (.int y :: .int x :: S) g := by
  obtain ⟨p, l, e, R, s, m, args, below, meth, c, Q⟩ := E
  obtain ⟨hx, hb, hml, ho, hts, hret, hlk, hK, ⟨hfr, hlo, hcs, hB, u0, hu0, hs0⟩, hQ⟩ := hE
  exact fun H locs k n ls a1 a2 a3 => lv_imul hx hb hd  (h H locs k n ls a1 a2 a3)
theorem j_iand {Γ : GAM} {E : EV} {cc : ByteArray} {nL : Nat} {own : String} {ret : Option FieldType} {fr lo : Nat} {K : Option Value → GH → Prop} (hE : GE Γ E cc nL own ret fr lo K) {pc : Nat} {L : List (Option Value)} {S : List Value} {g : GH} {x y : Int32} (hd : decode cc pc = .ok (.iand, 1))  (h : JW Γ E (pc + 1) L (.int (x &&& y) :: S) g) : JW Γ E pc L (.int y :: .int x :: S) g := by
  obtain ⟨p, l, e, R, s, m, args, below, meth, c, Q⟩ := E
  obtain ⟨hx, hb, hml, ho, hts, hret, hlk, hK, ⟨hfr, hlo, hcs, hB, u0, hu0, hs0⟩, hQ⟩ := hE
  exact fun H locs k n ls a1 a2 a3 => lv_iand hx hb hd  (h H locs k n ls a1 a2 a3)
theorem j_ior {Γ : GAM} {E : EV} {cc : ByteArray} {nL : Nat} {own : String} {ret : Option FieldType} {fr lo : Nat} {K : Option Value → GH → Prop} (hE : GE Γ E cc nL own ret fr lo K) {pc : Nat} {L : List (Option Value)} {S : List Value} {g : GH} {x y : Int32} (hd : decode cc pc = .ok (.ior, 1))  (h : JW Γ E (pc + 1) L (.int (x ||| y) :: S) g) : JW Γ E pc L (.int y :: .int x :: S) g := by
  obtain ⟨p, l, e, R, s, m, args, below, meth, c, Q⟩ := E
  obtain ⟨hx, hb, hml, ho, hts, hret, hlk, hK, ⟨hfr, hlo, hcs, hB, u0, hu0, hs0⟩, hQ⟩ := hE
  exact fun H locs k n ls a1 a2 a3 => lv_ior hx hb hd  (h H locs k n ls a1 a2 a3)
theorem j_ixor {Γ : GAM} {E : EV} {cc : ByteArray} {nL : Nat} {own : String} {ret : Option FieldType} {fr lo : Nat} {K : Option Value → GH → Prop} (hE : GE Γ E cc nL own ret fr lo K) {pc : Nat} {L : List (Option Value)} {S : List Value} {g : GH} {x y : Int32} (hd : decode cc pc = .ok (.ixor, 1))  (h : JW Γ E (pc + 1) L (.int (x ^^^ y) :: S) g) : JW Γ E pc L (.int y :: .int x :: S) g := by
  obtain ⟨p, l, e, R, s, m, args, below, meth, c, Q⟩ := E
  obtain ⟨hx, hb, hml, ho, hts, hret, hlk, hK, ⟨hfr, hlo, hcs, hB, u0, hu0, hs0⟩, hQ⟩ := hE
  exact fun H locs k n ls a1 a2 a3 => lv_ixor hx hb hd  (h H locs k n ls a1 a2 a3)
theorem j_ishl {Γ : GAM} {E : EV} {cc : ByteArray} {nL : Nat} {own : String} {ret : Option FieldType} {fr lo : Nat} {K : Option Value → GH → Prop} (hE : GE Γ E cc nL own ret fr lo K) {pc : Nat} {L : List (Option Value)} {S : List Value} {g : GH} {x y : Int32} (hd : decode cc pc = .ok (.ishl, 1))  (h : JW Γ E (pc + 1) L (.int (x <<< (y &&& 31)) :: S) g) : JW Γ E pc L (.int y :: .int x :: S) g := by
  obtain ⟨p, l, e, R, s, m, args, below, meth, c, Q⟩ := E
  obtain ⟨hx, hb, hml, ho, hts, hret, hlk, hK, ⟨hfr, hlo, hcs, hB, u0, hu0, hs0⟩, hQ⟩ := hE
  exact fun H locs k n ls a1 a2 a3 => lv_ishl hx hb hd  (h H locs k n ls a1 a2 a3)
theorem j_ishr {Γ : GAM} {E : EV} {cc : ByteArray} {nL : Nat} {own : String} {ret : Option FieldType} {fr lo : Nat} {K : Option Value → GH → Prop} (hE : GE Γ E cc nL own ret fr lo K) {pc : Nat} {L : List (Option Value)} {S : List Value} {g : GH} {x y : Int32} (hd : decode cc pc = .ok (.ishr, 1))  (h : JW Γ E (pc + 1) L (.int (x >>> (y &&& 31)) :: S) g) : JW Γ E pc L (.int y :: .int x :: S) g := by
  obtain ⟨p, l, e, R, s, m, args, below, meth, c, Q⟩ := E
  obtain ⟨hx, hb, hml, ho, hts, hret, hlk, hK, ⟨hfr, hlo, hcs, hB, u0, hu0, hs0⟩, hQ⟩ := hE
  exact fun H locs k n ls a1 a2 a3 => lv_ishr hx hb hd  (h H locs k n ls a1 a2 a3)
theorem j_idiv {Γ : GAM} {E : EV} {cc : ByteArray} {nL : Nat} {own : String} {ret : Option FieldType} {fr lo : Nat} {K : Option Value → GH → Prop} (hE : GE Γ E cc nL own ret fr lo K) {pc : Nat} {L : List (Option Value)} {S : List Value} {g : GH} {x y : Int32} (hd : decode cc pc = .ok (.idiv, 1)) (hne : ¬ y = 0) (h : JW Γ E (pc + 1) L (.int (x / y) :: S) g) : JW Γ E pc L (.int y :: .int x :: S) g := by
  obtain ⟨p, l, e, R, s, m, args, below, meth, c, Q⟩ := E
  obtain ⟨hx, hb, hml, ho, hts, hret, hlk, hK, ⟨hfr, hlo, hcs, hB, u0, hu0, hs0⟩, hQ⟩ := hE
  exact fun H locs k n ls a1 a2 a3 => lv_idiv hx hb hd hne (h H locs k n ls a1 a2 a3)
theorem j_irem {Γ : GAM} {E : EV} {cc : ByteArray} {nL : Nat} {own : String} {ret : Option FieldType} {fr lo : Nat} {K : Option Value → GH → Prop} (hE : GE Γ E cc nL own ret fr lo K) {pc : Nat} {L : List (Option Value)} {S : List Value} {g : GH} {x y : Int32} (hd : decode cc pc = .ok (.irem, 1)) (hne : ¬ y = 0) (h : JW Γ E (pc + 1) L (.int (x - x / y * y) :: S) g) : JW Γ E pc L (.int y :: .int x :: S) g := by
  obtain ⟨p, l, e, R, s, m, args, below, meth, c, Q⟩ := E
  obtain ⟨hx, hb, hml, ho, hts, hret, hlk, hK, ⟨hfr, hlo, hcs, hB, u0, hu0, hs0⟩, hQ⟩ := hE
  exact fun H locs k n ls a1 a2 a3 => lv_irem hx hb hd hne (h H locs k n ls a1 a2 a3)
theorem j_ineg {Γ : GAM} {E : EV} {cc : ByteArray} {nL : Nat} {own : String} {ret : Option FieldType} {fr lo : Nat} {K : Option Value → GH → Prop} (hE : GE Γ E cc nL own ret fr lo K) {pc : Nat} {L : List (Option Value)} {S : List Value} {g : GH} {x : Int32} (hd : decode cc pc = .ok (.ineg, 1))  (h : JW Γ E (pc + 1) L (.int (-x) :: S) g) : JW Γ E pc L (.int x :: S) g := by
  obtain ⟨p, l, e, R, s, m, args, below, meth, c, Q⟩ := E
  obtain ⟨hx, hb, hml, ho, hts, hret, hlk, hK, ⟨hfr, hlo, hcs, hB, u0, hu0, hs0⟩, hQ⟩ := hE
  exact fun H locs k n ls a1 a2 a3 => lv_ineg hx hb hd  (h H locs k n ls a1 a2 a3)
theorem j_i2l {Γ : GAM} {E : EV} {cc : ByteArray} {nL : Nat} {own : String} {ret : Option FieldType} {fr lo : Nat} {K : Option Value → GH → Prop} (hE : GE Γ E cc nL own ret fr lo K) {pc : Nat} {L : List (Option Value)} {S : List Value} {g : GH} {x : Int32} (hd : decode cc pc = .ok (.i2l, 1))  (h : JW Γ E (pc + 1) L (.long x.toInt64 :: S) g) : JW Γ E pc L (.int x :: S) g := by
  obtain ⟨p, l, e, R, s, m, args, below, meth, c, Q⟩ := E
  obtain ⟨hx, hb, hml, ho, hts, hret, hlk, hK, ⟨hfr, hlo, hcs, hB, u0, hu0, hs0⟩, hQ⟩ := hE
  exact fun H locs k n ls a1 a2 a3 => lv_i2l hx hb hd rfl (h H locs k n ls a1 a2 a3)
theorem j_l2i {Γ : GAM} {E : EV} {cc : ByteArray} {nL : Nat} {own : String} {ret : Option FieldType} {fr lo : Nat} {K : Option Value → GH → Prop} (hE : GE Γ E cc nL own ret fr lo K) {pc : Nat} {L : List (Option Value)} {S : List Value} {g : GH} {x : Int64} (hd : decode cc pc = .ok (.l2i, 1))  (h : JW Γ E (pc + 1) L (.int x.toInt32 :: S) g) : JW Γ E pc L (.long x :: S) g := by
  obtain ⟨p, l, e, R, s, m, args, below, meth, c, Q⟩ := E
  obtain ⟨hx, hb, hml, ho, hts, hret, hlk, hK, ⟨hfr, hlo, hcs, hB, u0, hu0, hs0⟩, hQ⟩ := hE
  exact fun H locs k n ls a1 a2 a3 => lv_l2i hx hb hd rfl (h H locs k n ls a1 a2 a3)
theorem j_i2c {Γ : GAM} {E : EV} {cc : ByteArray} {nL : Nat} {own : String} {ret : Option FieldType} {fr lo : Nat} {K : Option Value → GH → Prop} (hE : GE Γ E cc nL own ret fr lo K) {pc : Nat} {L : List (Option Value)} {S : List Value} {g : GH} {x : Int32} (hd : decode cc pc = .ok (.i2c, 1))  (h : JW Γ E (pc + 1) L (.int (x.toUInt32 % 65536).toInt32 :: S) g) : JW Γ E pc L (.int x :: S) g := by
  obtain ⟨p, l, e, R, s, m, args, below, meth, c, Q⟩ := E
  obtain ⟨hx, hb, hml, ho, hts, hret, hlk, hK, ⟨hfr, hlo, hcs, hB, u0, hu0, hs0⟩, hQ⟩ := hE
  exact fun H locs k n ls a1 a2 a3 => lv_i2c hx hb hd rfl (h H locs k n ls a1 a2 a3)
theorem j_iushr {Γ : GAM} {E : EV} {cc : ByteArray} {nL : Nat} {own : String} {ret : Option FieldType} {fr lo : Nat} {K : Option Value → GH → Prop} (hE : GE Γ E cc nL own ret fr lo K) {pc : Nat} {L : List (Option Value)} {S : List Value} {g : GH} {x y : Int32} (hd : decode cc pc = .ok (.iushr, 1))  (h : JW Γ E (pc + 1) L (.int (x.toUInt32 >>> (y.toUInt32 &&& Int32.toUInt32 31)).toInt32 :: S) g) : JW Γ E pc L (.int y :: .int x :: S) g := by
  obtain ⟨p, l, e, R, s, m, args, below, meth, c, Q⟩ := E
  obtain ⟨hx, hb, hml, ho, hts, hret, hlk, hK, ⟨hfr, hlo, hcs, hB, u0, hu0, hs0⟩, hQ⟩ := hE
  exact fun H locs k n ls a1 a2 a3 => lv_iushr hx hb hd rfl (h H locs k n ls a1 a2 a3)
theorem j_lushr {Γ : GAM} {E : EV} {cc : ByteArray} {nL : Nat} {own : String} {ret : Option FieldType} {fr lo : Nat} {K : Option Value → GH → Prop} (hE : GE Γ E cc nL own ret fr lo K) {pc : Nat} {L : List (Option Value)} {S : List Value} {g : GH} {x : Int64} {y : Int32} (hd : decode cc pc = .ok (.lushr, 1))  (h : JW Γ E (pc + 1) L (.long (x.toUInt64 >>> (y.toInt64.toUInt64 &&& Int64.toUInt64 63)).toInt64 :: S) g) : JW Γ E pc L (.int y :: .long x :: S) g := by
  obtain ⟨p, l, e, R, s, m, args, below, meth, c, Q⟩ := E
  obtain ⟨hx, hb, hml, ho, hts, hret, hlk, hK, ⟨hfr, hlo, hcs, hB, u0, hu0, hs0⟩, hQ⟩ := hE
  exact fun H locs k n ls a1 a2 a3 => lv_lushr hx hb hd rfl (h H locs k n ls a1 a2 a3)
theorem j_ladd {Γ : GAM} {E : EV} {cc : ByteArray} {nL : Nat} {own : String} {ret : Option FieldType} {fr lo : Nat} {K : Option Value → GH → Prop} (hE : GE Γ E cc nL own ret fr lo K) {pc : Nat} {L : List (Option Value)} {S : List Value} {g : GH} {x y : Int64} (hd : decode cc pc = .ok (.ladd, 1))  (h : JW Γ E (pc + 1) L (.long (x + y) :: S) g) : JW Γ E pc L (.long y :: .long x :: S) g := by
  obtain ⟨p, l, e, R, s, m, args, below, meth, c, Q⟩ := E
  obtain ⟨hx, hb, hml, ho, hts, hret, hlk, hK, ⟨hfr, hlo, hcs, hB, u0, hu0, hs0⟩, hQ⟩ := hE
  exact fun H locs k n ls a1 a2 a3 => lv_ladd hx hb hd  (h H locs k n ls a1 a2 a3)
theorem j_lsub {Γ : GAM} {E : EV} {cc : ByteArray} {nL : Nat} {own : String} {ret : Option FieldType} {fr lo : Nat} {K : Option Value → GH → Prop} (hE : GE Γ E cc nL own ret fr lo K) {pc : Nat} {L : List (Option Value)} {S : List Value} {g : GH} {x y : Int64} (hd : decode cc pc = .ok (.lsub, 1))  (h : JW Γ E (pc + 1) L (.long (x - y) :: S) g) : JW Γ E pc L (.long y :: .long x :: S) g := by
  obtain ⟨p, l, e, R, s, m, args, below, meth, c, Q⟩ := E
  obtain ⟨hx, hb, hml, ho, hts, hret, hlk, hK, ⟨hfr, hlo, hcs, hB, u0, hu0, hs0⟩, hQ⟩ := hE
  exact fun H locs k n ls a1 a2 a3 => lv_lsub hx hb hd  (h H locs k n ls a1 a2 a3)
theorem j_lmul {Γ : GAM} {E : EV} {cc : ByteArray} {nL : Nat} {own : String} {ret : Option FieldType} {fr lo : Nat} {K : Option Value → GH → Prop} (hE : GE Γ E cc nL own ret fr lo K) {pc : Nat} {L : List (Option Value)} {S : List Value} {g : GH} {x y : Int64} (hd : decode cc pc = .ok (.lmul, 1))  (h : JW Γ E (pc + 1) L (.long (x * y) :: S) g) : JW Γ E pc L (.long y :: .long x :: S) g := by
  obtain ⟨p, l, e, R, s, m, args, below, meth, c, Q⟩ := E
  obtain ⟨hx, hb, hml, ho, hts, hret, hlk, hK, ⟨hfr, hlo, hcs, hB, u0, hu0, hs0⟩, hQ⟩ := hE
  exact fun H locs k n ls a1 a2 a3 => lv_lmul hx hb hd  (h H locs k n ls a1 a2 a3)
theorem j_land {Γ : GAM} {E : EV} {cc : ByteArray} {nL : Nat} {own : String} {ret : Option FieldType} {fr lo : Nat} {K : Option Value → GH → Prop} (hE : GE Γ E cc nL own ret fr lo K) {pc : Nat} {L : List (Option Value)} {S : List Value} {g : GH} {x y : Int64} (hd : decode cc pc = .ok (.land, 1))  (h : JW Γ E (pc + 1) L (.long (x &&& y) :: S) g) : JW Γ E pc L (.long y :: .long x :: S) g := by
  obtain ⟨p, l, e, R, s, m, args, below, meth, c, Q⟩ := E
  obtain ⟨hx, hb, hml, ho, hts, hret, hlk, hK, ⟨hfr, hlo, hcs, hB, u0, hu0, hs0⟩, hQ⟩ := hE
  exact fun H locs k n ls a1 a2 a3 => lv_land hx hb hd  (h H locs k n ls a1 a2 a3)
theorem j_lor {Γ : GAM} {E : EV} {cc : ByteArray} {nL : Nat} {own : String} {ret : Option FieldType} {fr lo : Nat} {K : Option Value → GH → Prop} (hE : GE Γ E cc nL own ret fr lo K) {pc : Nat} {L : List (Option Value)} {S : List Value} {g : GH} {x y : Int64} (hd : decode cc pc = .ok (.lor, 1))  (h : JW Γ E (pc + 1) L (.long (x ||| y) :: S) g) : JW Γ E pc L (.long y :: .long x :: S) g := by
  obtain ⟨p, l, e, R, s, m, args, below, meth, c, Q⟩ := E
  obtain ⟨hx, hb, hml, ho, hts, hret, hlk, hK, ⟨hfr, hlo, hcs, hB, u0, hu0, hs0⟩, hQ⟩ := hE
  exact fun H locs k n ls a1 a2 a3 => lv_lor hx hb hd  (h H locs k n ls a1 a2 a3)
theorem j_lshl {Γ : GAM} {E : EV} {cc : ByteArray} {nL : Nat} {own : String} {ret : Option FieldType} {fr lo : Nat} {K : Option Value → GH → Prop} (hE : GE Γ E cc nL own ret fr lo K) {pc : Nat} {L : List (Option Value)} {S : List Value} {g : GH} {x : Int64} {y : Int32} (hd : decode cc pc = .ok (.lshl, 1))  (h : JW Γ E (pc + 1) L (.long (x <<< (y.toInt64 &&& 63)) :: S) g) : JW Γ E pc L (.int y :: .long x :: S) g := by
  obtain ⟨p, l, e, R, s, m, args, below, meth, c, Q⟩ := E
  obtain ⟨hx, hb, hml, ho, hts, hret, hlk, hK, ⟨hfr, hlo, hcs, hB, u0, hu0, hs0⟩, hQ⟩ := hE
  exact fun H locs k n ls a1 a2 a3 => lv_lshl hx hb hd rfl (h H locs k n ls a1 a2 a3)
theorem j_lrem {Γ : GAM} {E : EV} {cc : ByteArray} {nL : Nat} {own : String} {ret : Option FieldType} {fr lo : Nat} {K : Option Value → GH → Prop} (hE : GE Γ E cc nL own ret fr lo K) {pc : Nat} {L : List (Option Value)} {S : List Value} {g : GH} {x y : Int64} (hd : decode cc pc = .ok (.lrem, 1)) (hne : ¬ y = 0) (h : JW Γ E (pc + 1) L (.long (x - x / y * y) :: S) g) : JW Γ E pc L (.long y :: .long x :: S) g := by
  obtain ⟨p, l, e, R, s, m, args, below, meth, c, Q⟩ := E
  obtain ⟨hx, hb, hml, ho, hts, hret, hlk, hK, ⟨hfr, hlo, hcs, hB, u0, hu0, hs0⟩, hQ⟩ := hE
  exact fun H locs k n ls a1 a2 a3 => lv_lrem hx hb hd hne (h H locs k n ls a1 a2 a3)
theorem j_lcmp {Γ : GAM} {E : EV} {cc : ByteArray} {nL : Nat} {own : String} {ret : Option FieldType} {fr lo : Nat} {K : Option Value → GH → Prop} (hE : GE Γ E cc nL own ret fr lo K) {pc : Nat} {L : List (Option Value)} {S : List Value} {g : GH} {x y : Int64} (hd : decode cc pc = .ok (.lcmp, 1))  (h : JW Γ E (pc + 1) L (.int (lg_cmp x y) :: S) g) : JW Γ E pc L (.long y :: .long x :: S) g := by
  obtain ⟨p, l, e, R, s, m, args, below, meth, c, Q⟩ := E
  obtain ⟨hx, hb, hml, ho, hts, hret, hlk, hK, ⟨hfr, hlo, hcs, hB, u0, hu0, hs0⟩, hQ⟩ := hE
  exact fun H locs k n ls a1 a2 a3 => W.lcmp hx hb hd  (h H locs k n ls a1 a2 a3)
theorem j_iconst {Γ : GAM} {E : EV} {cc : ByteArray} {nL : Nat} {own : String} {ret : Option FieldType} {fr lo : Nat} {K : Option Value → GH → Prop} (hE : GE Γ E cc nL own ret fr lo K) {pc : Nat} {L : List (Option Value)} {S : List Value} {g : GH} {n : Int} {v : Int32} (hd : decode cc pc = .ok (.iconst n, 1)) (hv : Int32.ofInt n = v) (h : JW Γ E (pc + 1) L (.int v :: S) g) : JW Γ E pc L (S) g := by
  obtain ⟨p, l, e, R, s, m, args, below, meth, c, Q⟩ := E
  obtain ⟨hx, hb, hml, ho, hts, hret, hlk, hK, ⟨hfr, hlo, hcs, hB, u0, hu0, hs0⟩, hQ⟩ := hE
  exact fun H locs k n ls a1 a2 a3 => lv_iconst hx hb hd hv (h H locs k n ls a1 a2 a3)
theorem j_bipush {Γ : GAM} {E : EV} {cc : ByteArray} {nL : Nat} {own : String} {ret : Option FieldType} {fr lo : Nat} {K : Option Value → GH → Prop} (hE : GE Γ E cc nL own ret fr lo K) {pc : Nat} {L : List (Option Value)} {S : List Value} {g : GH} {n : Int} {v : Int32} (hd : decode cc pc = .ok (.bipush n, 2)) (hv : (Int8.ofInt n).toInt32 = v) (h : JW Γ E (pc + 2) L (.int v :: S) g) : JW Γ E pc L (S) g := by
  obtain ⟨p, l, e, R, s, m, args, below, meth, c, Q⟩ := E
  obtain ⟨hx, hb, hml, ho, hts, hret, hlk, hK, ⟨hfr, hlo, hcs, hB, u0, hu0, hs0⟩, hQ⟩ := hE
  exact fun H locs k n ls a1 a2 a3 => lv_bipush hx hb hd hv (h H locs k n ls a1 a2 a3)
theorem j_sipush {Γ : GAM} {E : EV} {cc : ByteArray} {nL : Nat} {own : String} {ret : Option FieldType} {fr lo : Nat} {K : Option Value → GH → Prop} (hE : GE Γ E cc nL own ret fr lo K) {pc : Nat} {L : List (Option Value)} {S : List Value} {g : GH} {n : Int} {v : Int32} (hd : decode cc pc = .ok (.sipush n, 3)) (hv : (Int16.ofInt n).toInt32 = v) (h : JW Γ E (pc + 3) L (.int v :: S) g) : JW Γ E pc L (S) g := by
  obtain ⟨p, l, e, R, s, m, args, below, meth, c, Q⟩ := E
  obtain ⟨hx, hb, hml, ho, hts, hret, hlk, hK, ⟨hfr, hlo, hcs, hB, u0, hu0, hs0⟩, hQ⟩ := hE
  exact fun H locs k n ls a1 a2 a3 => lv_sipush hx hb hd hv (h H locs k n ls a1 a2 a3)
theorem j_lconst {Γ : GAM} {E : EV} {cc : ByteArray} {nL : Nat} {own : String} {ret : Option FieldType} {fr lo : Nat} {K : Option Value → GH → Prop} (hE : GE Γ E cc nL own ret fr lo K) {pc : Nat} {L : List (Option Value)} {S : List Value} {g : GH} {n : Fin 2} {v : Int64} (hd : decode cc pc = .ok (.lconst n, 1)) (hv : Int64.ofNat (n : Nat) = v) (h : JW Γ E (pc + 1) L (.long v :: S) g) : JW Γ E pc L (S) g := by
  obtain ⟨p, l, e, R, s, m, args, below, meth, c, Q⟩ := E
  obtain ⟨hx, hb, hml, ho, hts, hret, hlk, hK, ⟨hfr, hlo, hcs, hB, u0, hu0, hs0⟩, hQ⟩ := hE
  exact fun H locs k n ls a1 a2 a3 => lv_lconst hx hb hd hv (h H locs k n ls a1 a2 a3)
theorem j_null {Γ : GAM} {E : EV} {cc : ByteArray} {nL : Nat} {own : String} {ret : Option FieldType} {fr lo : Nat} {K : Option Value → GH → Prop} (hE : GE Γ E cc nL own ret fr lo K) {pc : Nat} {L : List (Option Value)} {S : List Value} {g : GH}  (hd : decode cc pc = .ok (.aconst_null, 1))  (h : JW Γ E (pc + 1) L (va_rf none :: S) g) : JW Γ E pc L (S) g := by
  obtain ⟨p, l, e, R, s, m, args, below, meth, c, Q⟩ := E
  obtain ⟨hx, hb, hml, ho, hts, hret, hlk, hK, ⟨hfr, hlo, hcs, hB, u0, hu0, hs0⟩, hQ⟩ := hE
  exact fun H locs k n ls a1 a2 a3 => lv_null hx hb hd  (h H locs k n ls a1 a2 a3)
theorem j_iload_n {Γ : GAM} {E : EV} {cc : ByteArray} {nL : Nat} {own : String} {ret : Option FieldType} {fr lo : Nat} {K : Option Value → GH → Prop} (hE : GE Γ E cc nL own ret fr lo K) {pc : Nat} {L : List (Option Value)} {S : List Value} {g : GH} {k0 : Fin 4} {i : Nat} {x : Int32} (hd : decode cc pc = .ok (.iload_n k0, 1)) (hi : (k0 : Nat) = i) (hl : L[i]? = some (some (.int x))) (h : JW Γ E (pc + 1) L (.int x :: S) g) : JW Γ E pc L (S) g := by
  obtain ⟨p, l, e, R, s, m, args, below, meth, c, Q⟩ := E
  obtain ⟨hx, hb, hml, ho, hts, hret, hlk, hK, ⟨hfr, hlo, hcs, hB, u0, hu0, hs0⟩, hQ⟩ := hE
  exact fun H locs k n ls a1 a2 a3 => lv_iload_n hx hb hd hi (lhas_at a3 hl) (h H locs k n ls a1 a2 a3)
theorem j_iload {Γ : GAM} {E : EV} {cc : ByteArray} {nL : Nat} {own : String} {ret : Option FieldType} {fr lo : Nat} {K : Option Value → GH → Prop} (hE : GE Γ E cc nL own ret fr lo K) {pc : Nat} {L : List (Option Value)} {S : List Value} {g : GH} {i : Nat} {x : Int32} (hd : decode cc pc = .ok (.iload i, 2)) (hl : L[i]? = some (some (.int x))) (h : JW Γ E (pc + 2) L (.int x :: S) g) : JW Γ E pc L (S) g := by
  obtain ⟨p, l, e, R, s, m, args, below, meth, c, Q⟩ := E
  obtain ⟨hx, hb, hml, ho, hts, hret, hlk, hK, ⟨hfr, hlo, hcs, hB, u0, hu0, hs0⟩, hQ⟩ := hE
  exact fun H locs k n ls a1 a2 a3 => lv_iload hx hb hd (lhas_at a3 hl) (h H locs k n ls a1 a2 a3)
theorem j_aload_n {Γ : GAM} {E : EV} {cc : ByteArray} {nL : Nat} {own : String} {ret : Option FieldType} {fr lo : Nat} {K : Option Value → GH → Prop} (hE : GE Γ E cc nL own ret fr lo K) {pc : Nat} {L : List (Option Value)} {S : List Value} {g : GH} {k0 : Fin 4} {i : Nat} {x : Nat} (hd : decode cc pc = .ok (.aload_n k0, 1)) (hi : (k0 : Nat) = i) (hl : L[i]? = some (some (.ref x))) (h : JW Γ E (pc + 1) L (.ref x :: S) g) : JW Γ E pc L (S) g := by
  obtain ⟨p, l, e, R, s, m, args, below, meth, c, Q⟩ := E
  obtain ⟨hx, hb, hml, ho, hts, hret, hlk, hK, ⟨hfr, hlo, hcs, hB, u0, hu0, hs0⟩, hQ⟩ := hE
  exact fun H locs k n ls a1 a2 a3 => lv_aload_n hx hb hd hi (lhas_at a3 hl) (h H locs k n ls a1 a2 a3)
theorem j_aload {Γ : GAM} {E : EV} {cc : ByteArray} {nL : Nat} {own : String} {ret : Option FieldType} {fr lo : Nat} {K : Option Value → GH → Prop} (hE : GE Γ E cc nL own ret fr lo K) {pc : Nat} {L : List (Option Value)} {S : List Value} {g : GH} {i : Nat} {x : Nat} (hd : decode cc pc = .ok (.aload i, 2)) (hl : L[i]? = some (some (.ref x))) (h : JW Γ E (pc + 2) L (.ref x :: S) g) : JW Γ E pc L (S) g := by
  obtain ⟨p, l, e, R, s, m, args, below, meth, c, Q⟩ := E
  obtain ⟨hx, hb, hml, ho, hts, hret, hlk, hK, ⟨hfr, hlo, hcs, hB, u0, hu0, hs0⟩, hQ⟩ := hE
  exact fun H locs k n ls a1 a2 a3 => lv_aload hx hb hd (lhas_at a3 hl) (h H locs k n ls a1 a2 a3)
theorem j_lload_n {Γ : GAM} {E : EV} {cc : ByteArray} {nL : Nat} {own : String} {ret : Option FieldType} {fr lo : Nat} {K : Option Value → GH → Prop} (hE : GE Γ E cc nL own ret fr lo K) {pc : Nat} {L : List (Option Value)} {S : List Value} {g : GH} {k0 : Fin 4} {i : Nat} {x : Int64} (hd : decode cc pc = .ok (.lload_n k0, 1)) (hi : (k0 : Nat) = i) (hl : L[i]? = some (some (.long x))) (h : JW Γ E (pc + 1) L (.long x :: S) g) : JW Γ E pc L (S) g := by
  obtain ⟨p, l, e, R, s, m, args, below, meth, c, Q⟩ := E
  obtain ⟨hx, hb, hml, ho, hts, hret, hlk, hK, ⟨hfr, hlo, hcs, hB, u0, hu0, hs0⟩, hQ⟩ := hE
  exact fun H locs k n ls a1 a2 a3 => lv_lload_n hx hb hd hi (lhas_at a3 hl) (h H locs k n ls a1 a2 a3)
theorem j_lload {Γ : GAM} {E : EV} {cc : ByteArray} {nL : Nat} {own : String} {ret : Option FieldType} {fr lo : Nat} {K : Option Value → GH → Prop} (hE : GE Γ E cc nL own ret fr lo K) {pc : Nat} {L : List (Option Value)} {S : List Value} {g : GH} {i : Nat} {x : Int64} (hd : decode cc pc = .ok (.lload i, 2)) (hl : L[i]? = some (some (.long x))) (h : JW Γ E (pc + 2) L (.long x :: S) g) : JW Γ E pc L (S) g := by
  obtain ⟨p, l, e, R, s, m, args, below, meth, c, Q⟩ := E
  obtain ⟨hx, hb, hml, ho, hts, hret, hlk, hK, ⟨hfr, hlo, hcs, hB, u0, hu0, hs0⟩, hQ⟩ := hE
  exact fun H locs k n ls a1 a2 a3 => lv_lload hx hb hd (lhas_at a3 hl) (h H locs k n ls a1 a2 a3)
theorem j_aload_nQ {Γ : GAM} {E : EV} {cc : ByteArray} {nL : Nat} {own : String} {ret : Option FieldType} {fr lo : Nat} {K : Option Value → GH → Prop} (hE : GE Γ E cc nL own ret fr lo K) {pc : Nat} {L : List (Option Value)} {S : List Value} {g : GH} {k0 : Fin 4} {i : Nat} {x : Option Nat} (hd : decode cc pc = .ok (.aload_n k0, 1)) (hi : (k0 : Nat) = i) (hl : L[i]? = some (some (va_rf x))) (h : JW Γ E (pc + 1) L (va_rf x :: S) g) : JW Γ E pc L S g := by
  obtain ⟨p, l, e, R, s, m, args, below, meth, c, Q⟩ := E
  obtain ⟨hx, hb, hml, ho, hts, hret, hlk, hK, ⟨hfr, hlo, hcs, hB, u0, hu0, hs0⟩, hQ⟩ := hE
  cases x with
  | none => exact fun H locs k n ls a1 a2 a3 => lv_aload_nN hx hb hd hi (lhas_at a3 hl) (h H locs k n ls a1 a2 a3)
  | some x => exact fun H locs k n ls a1 a2 a3 => lv_aload_n hx hb hd hi (lhas_at a3 hl) (h H locs k n ls a1 a2 a3)
theorem j_aloadQ {Γ : GAM} {E : EV} {cc : ByteArray} {nL : Nat} {own : String} {ret : Option FieldType} {fr lo : Nat} {K : Option Value → GH → Prop} (hE : GE Γ E cc nL own ret fr lo K) {pc : Nat} {L : List (Option Value)} {S : List Value} {g : GH} {i : Nat} {x : Option Nat} (hd : decode cc pc = .ok (.aload i, 2)) (hl : L[i]? = some (some (va_rf x))) (h : JW Γ E (pc + 2) L (va_rf x :: S) g) : JW Γ E pc L S g := by
  obtain ⟨p, l, e, R, s, m, args, below, meth, c, Q⟩ := E
  obtain ⟨hx, hb, hml, ho, hts, hret, hlk, hK, ⟨hfr, hlo, hcs, hB, u0, hu0, hs0⟩, hQ⟩ := hE
  cases x with
  | none => exact fun H locs k n ls a1 a2 a3 => lv_aloadN hx hb hd (lhas_at a3 hl) (h H locs k n ls a1 a2 a3)
  | some x => exact fun H locs k n ls a1 a2 a3 => lv_aload hx hb hd (lhas_at a3 hl) (h H locs k n ls a1 a2 a3)
theorem j_istore_n {Γ : GAM} {E : EV} {cc : ByteArray} {nL : Nat} {own : String} {ret : Option FieldType} {fr lo : Nat} {K : Option Value → GH → Prop} (hE : GE Γ E cc nL own ret fr lo K) {pc : Nat} {L : List (Option Value)} {S : List Value} {g : GH} {k0 : Fin 4} {i : Nat} {x : Int32} (hd : decode cc pc = .ok (.istore_n k0, 1)) (hi : (k0 : Nat) = i) (hk : i < L.length) (hn : nl2 (if i = 0 then none else L[i - 1]?) = true) (h : JW Γ E (pc + 1) (L.set i (some (.int x))) S g) : JW Γ E pc L (.int x :: S) g := by
  obtain ⟨p, l, e, R, s, m, args, below, meth, c, Q⟩ := E
  obtain ⟨hx, hb, hml, ho, hts, hret, hlk, hK, ⟨hfr, hlo, hcs, hB, u0, hu0, hs0⟩, hQ⟩ := hE
  subst hi
  intro H locs k n ls a1 a2 a3
  obtain ⟨ls', e', h'⟩ := lhas_st (v := .int x) a3 hk rfl (fun j e => by first | (subst e; simpa using hn) | simpa [e] using hn)
  intro T hT X
  obtain ⟨t, a, b⟩ := h H locs k n ls' a1 a2 h' T hT X
  refine ⟨t, ?_, b⟩
  have a : Steps p.tables e below (T.setTop (F0 m (pc + 1) ls' S)) t := a
  show Steps p.tables e below (T.setTop (F0 m pc ls (.int x :: S))) t
  jvm_step X.here [X.here.top, ↓top_set X.here.top, hx, hb, hd, e']
  first | exact a | exact ⟨rfl, a⟩
theorem j_istore {Γ : GAM} {E : EV} {cc : ByteArray} {nL : Nat} {own : String} {ret : Option FieldType} {fr lo : Nat} {K : Option Value → GH → Prop} (hE : GE Γ E cc nL own ret fr lo K) {pc : Nat} {L : List (Option Value)} {S : List Value} {g : GH} {i : Nat} {x : Int32} (hd : decode cc pc = .ok (.istore i, 2)) (hk : i < L.length) (hn : nl2 (if i = 0 then none else L[i - 1]?) = true) (h : JW Γ E (pc + 2) (L.set i (some (.int x))) S g) : JW Γ E pc L (.int x :: S) g := by
  obtain ⟨p, l, e, R, s, m, args, below, meth, c, Q⟩ := E
  obtain ⟨hx, hb, hml, ho, hts, hret, hlk, hK, ⟨hfr, hlo, hcs, hB, u0, hu0, hs0⟩, hQ⟩ := hE
  intro H locs k n ls a1 a2 a3
  obtain ⟨ls', e', h'⟩ := lhas_st (v := .int x) a3 hk rfl (fun j e => by first | (subst e; simpa using hn) | simpa [e] using hn)
  intro T hT X
  obtain ⟨t, a, b⟩ := h H locs k n ls' a1 a2 h' T hT X
  refine ⟨t, ?_, b⟩
  have a : Steps p.tables e below (T.setTop (F0 m (pc + 2) ls' S)) t := a
  show Steps p.tables e below (T.setTop (F0 m pc ls (.int x :: S))) t
  jvm_step X.here [X.here.top, ↓top_set X.here.top, hx, hb, hd, e']
  first | exact a | exact ⟨rfl, a⟩
theorem j_astore_n {Γ : GAM} {E : EV} {cc : ByteArray} {nL : Nat} {own : String} {ret : Option FieldType} {fr lo : Nat} {K : Option Value → GH → Prop} (hE : GE Γ E cc nL own ret fr lo K) {pc : Nat} {L : List (Option Value)} {S : List Value} {g : GH} {k0 : Fin 4} {i : Nat} {x : Nat} (hd : decode cc pc = .ok (.astore_n k0, 1)) (hi : (k0 : Nat) = i) (hk : i < L.length) (hn : nl2 (if i = 0 then none else L[i - 1]?) = true) (h : JW Γ E (pc + 1) (L.set i (some (.ref x))) S g) : JW Γ E pc L (.ref x :: S) g := by
  obtain ⟨p, l, e, R, s, m, args, below, meth, c, Q⟩ := E
  obtain ⟨hx, hb, hml, ho, hts, hret, hlk, hK, ⟨hfr, hlo, hcs, hB, u0, hu0, hs0⟩, hQ⟩ := hE
  subst hi
  intro H locs k n ls a1 a2 a3
  obtain ⟨ls', e', h'⟩ := lhas_st (v := .ref x) a3 hk rfl (fun j e => by first | (subst e; simpa using hn) | simpa [e] using hn)
  intro T hT X
  obtain ⟨t, a, b⟩ := h H locs k n ls' a1 a2 h' T hT X
  refine ⟨t, ?_, b⟩
  have a : Steps p.tables e below (T.setTop (F0 m (pc + 1) ls' S)) t := a
  show Steps p.tables e below (T.setTop (F0 m pc ls (.ref x :: S))) t
  jvm_step X.here [X.here.top, ↓top_set X.here.top, hx, hb, hd, e']
  first | exact a | exact ⟨rfl, a⟩
theorem j_astore {Γ : GAM} {E : EV} {cc : ByteArray} {nL : Nat} {own : String} {ret : Option FieldType} {fr lo : Nat} {K : Option Value → GH → Prop} (hE : GE Γ E cc nL own ret fr lo K) {pc : Nat} {L : List (Option Value)} {S : List Value} {g : GH} {i : Nat} {x : Nat} (hd : decode cc pc = .ok (.astore i, 2)) (hk : i < L.length) (hn : nl2 (if i = 0 then none else L[i - 1]?) = true) (h : JW Γ E (pc + 2) (L.set i (some (.ref x))) S g) : JW Γ E pc L (.ref x :: S) g := by
  obtain ⟨p, l, e, R, s, m, args, below, meth, c, Q⟩ := E
  obtain ⟨hx, hb, hml, ho, hts, hret, hlk, hK, ⟨hfr, hlo, hcs, hB, u0, hu0, hs0⟩, hQ⟩ := hE
  intro H locs k n ls a1 a2 a3
  obtain ⟨ls', e', h'⟩ := lhas_st (v := .ref x) a3 hk rfl (fun j e => by first | (subst e; simpa using hn) | simpa [e] using hn)
  intro T hT X
  obtain ⟨t, a, b⟩ := h H locs k n ls' a1 a2 h' T hT X
  refine ⟨t, ?_, b⟩
  have a : Steps p.tables e below (T.setTop (F0 m (pc + 2) ls' S)) t := a
  show Steps p.tables e below (T.setTop (F0 m pc ls (.ref x :: S))) t
  jvm_step X.here [X.here.top, ↓top_set X.here.top, hx, hb, hd, e']
  first | exact a | exact ⟨rfl, a⟩
theorem j_lstore {Γ : GAM} {E : EV} {cc : ByteArray} {nL : Nat} {own : String} {ret : Option FieldType} {fr lo : Nat} {K : Option Value → GH → Prop} (hE : GE Γ E cc nL own ret fr lo K) {pc : Nat} {L : List (Option Value)} {S : List Value} {g : GH} {i : Nat} {x : Int64} (hd : decode cc pc = .ok (.lstore i, 2)) (hk : i + 1 < L.length) (hn : nl2 (if i = 0 then none else L[i - 1]?) = true) (h : JW Γ E (pc + 2) ((L.set i (some (.long x))).set (i + 1) none) S g) : JW Γ E pc L (.long x :: S) g := by
  obtain ⟨p, l, e, R, s, m, args, below, meth, c, Q⟩ := E
  obtain ⟨hx, hb, hml, ho, hts, hret, hlk, hK, ⟨hfr, hlo, hcs, hB, u0, hu0, hs0⟩, hQ⟩ := hE
  intro H locs k n ls a1 a2 a3
  obtain ⟨ls', e', h'⟩ := lhas_st2 (v := .long x) a3 hk rfl (fun j e => by first | (subst e; simpa using hn) | simpa [e] using hn)
  intro T hT X
  obtain ⟨t, a, b⟩ := h H locs k n ls' a1 a2 h' T hT X
  refine ⟨t, ?_, b⟩
  have a : Steps p.tables e below (T.setTop (F0 m (pc + 2) ls' S)) t := a
  show Steps p.tables e below (T.setTop (F0 m pc ls (.long x :: S))) t
  jvm_step X.here [X.here.top, ↓top_set X.here.top, hx, hb, hd, e']
  first | exact a | exact ⟨rfl, a⟩
theorem j_lstore_n {Γ : GAM} {E : EV} {cc : ByteArray} {nL : Nat} {own : String} {ret : Option FieldType} {fr lo : Nat} {K : Option Value → GH → Prop} (hE : GE Γ E cc nL own ret fr lo K) {pc : Nat} {L : List (Option Value)} {S : List Value} {g : GH} {k0 : Fin 4} {i : Nat} {x : Int64} (hd : decode cc pc = .ok (.lstore_n k0, 1)) (hi : (k0 : Nat) = i) (hk : i + 1 < L.length) (hn : nl2 (if i = 0 then none else L[i - 1]?) = true) (h : JW Γ E (pc + 1) ((L.set i (some (.long x))).set (i + 1) none) S g) : JW Γ E pc L (.long x :: S) g := by
  obtain ⟨p, l, e, R, s, m, args, below, meth, c, Q⟩ := E
  obtain ⟨hx, hb, hml, ho, hts, hret, hlk, hK, ⟨hfr, hlo, hcs, hB, u0, hu0, hs0⟩, hQ⟩ := hE
  subst hi
  intro H locs k n ls a1 a2 a3
  obtain ⟨ls', e', h'⟩ := lhas_st2 (v := .long x) a3 hk rfl (fun j e => by first | (subst e; simpa using hn) | simpa [e] using hn)
  intro T hT X
  obtain ⟨t, a, b⟩ := h H locs k n ls' a1 a2 h' T hT X
  refine ⟨t, ?_, b⟩
  have a : Steps p.tables e below (T.setTop (F0 m (pc + 1) ls' S)) t := a
  show Steps p.tables e below (T.setTop (F0 m pc ls (.long x :: S))) t
  jvm_step X.here [X.here.top, ↓top_set X.here.top, hx, hb, hd, e']
  first | exact a | exact ⟨rfl, a⟩
theorem j_astore_nQ {Γ : GAM} {E : EV} {cc : ByteArray} {nL : Nat} {own : String} {ret : Option FieldType} {fr lo : Nat} {K : Option Value → GH → Prop} (hE : GE Γ E cc nL own ret fr lo K) {pc : Nat} {L : List (Option Value)} {S : List Value} {g : GH} {k0 : Fin 4} {i : Nat} {x : Option Nat} (hd : decode cc pc = .ok (.astore_n k0, 1)) (hi : (k0 : Nat) = i) (hk : i < L.length) (hn : nl2 (if i = 0 then none else L[i - 1]?) = true) (h : JW Γ E (pc + 1) (L.set i (some (va_rf x))) S g) : JW Γ E pc L (va_rf x :: S) g := by
  obtain ⟨p, l, e, R, s, m, args, below, meth, c, Q⟩ := E
  obtain ⟨hx, hb, hml, ho, hts, hret, hlk, hK, ⟨hfr, hlo, hcs, hB, u0, hu0, hs0⟩, hQ⟩ := hE
  subst hi
  cases x with
  | some x =>
    intro H locs k n ls a1 a2 a3
    obtain ⟨ls', e', h'⟩ := lhas_st (v := .ref x) a3 hk rfl (fun j e => by first | (subst e; simpa using hn) | simpa [e] using hn)
    intro T hT X
    obtain ⟨t, a, b⟩ := h H locs k n ls' a1 a2 h' T hT X
    refine ⟨t, ?_, b⟩
    have a : Steps p.tables e below (T.setTop (F0 m (pc + 1) ls' S)) t := a
    show Steps p.tables e below (T.setTop (F0 m pc ls (.ref x :: S))) t
    jvm_step X.here [X.here.top, ↓top_set X.here.top, hx, hb, hd, e']
    first | exact a | exact ⟨rfl, a⟩
  | none =>
    intro H locs k n ls a1 a2 a3
    obtain ⟨ls', e', h'⟩ := lhas_st (v := .null) a3 hk rfl (fun j e => by first | (subst e; simpa using hn) | simpa [e] using hn)
    intro T hT X
    obtain ⟨t, a, b⟩ := h H locs k n ls' a1 a2 h' T hT X
    refine ⟨t, ?_, b⟩
    have a : Steps p.tables e below (T.setTop (F0 m (pc + 1) ls' S)) t := a
    show Steps p.tables e below (T.setTop (F0 m pc ls (.null :: S))) t
    jvm_step X.here [X.here.top, ↓top_set X.here.top, hx, hb, hd, e']
    first | exact a | exact ⟨rfl, a⟩
theorem j_astoreQ {Γ : GAM} {E : EV} {cc : ByteArray} {nL : Nat} {own : String} {ret : Option FieldType} {fr lo : Nat} {K : Option Value → GH → Prop} (hE : GE Γ E cc nL own ret fr lo K) {pc : Nat} {L : List (Option Value)} {S : List Value} {g : GH} {i : Nat} {x : Option Nat} (hd : decode cc pc = .ok (.astore i, 2)) (hk : i < L.length) (hn : nl2 (if i = 0 then none else L[i - 1]?) = true) (h : JW Γ E (pc + 2) (L.set i (some (va_rf x))) S g) : JW Γ E pc L (va_rf x :: S) g := by
  obtain ⟨p, l, e, R, s, m, args, below, meth, c, Q⟩ := E
  obtain ⟨hx, hb, hml, ho, hts, hret, hlk, hK, ⟨hfr, hlo, hcs, hB, u0, hu0, hs0⟩, hQ⟩ := hE
  cases x with
  | some x =>
    intro H locs k n ls a1 a2 a3
    obtain ⟨ls', e', h'⟩ := lhas_st (v := .ref x) a3 hk rfl (fun j e => by first | (subst e; simpa using hn) | simpa [e] using hn)
    intro T hT X
    obtain ⟨t, a, b⟩ := h H locs k n ls' a1 a2 h' T hT X
    refine ⟨t, ?_, b⟩
    have a : Steps p.tables e below (T.setTop (F0 m (pc + 2) ls' S)) t := a
    show Steps p.tables e below (T.setTop (F0 m pc ls (.ref x :: S))) t
    jvm_step X.here [X.here.top, ↓top_set X.here.top, hx, hb, hd, e']
    first | exact a | exact ⟨rfl, a⟩
  | none =>
    intro H locs k n ls a1 a2 a3
    obtain ⟨ls', e', h'⟩ := lhas_st (v := .null) a3 hk rfl (fun j e => by first | (subst e; simpa using hn) | simpa [e] using hn)
    intro T hT X
    obtain ⟨t, a, b⟩ := h H locs k n ls' a1 a2 h' T hT X
    refine ⟨t, ?_, b⟩
    have a : Steps p.tables e below (T.setTop (F0 m (pc + 2) ls' S)) t := a
    show Steps p.tables e below (T.setTop (F0 m pc ls (.null :: S))) t
    jvm_step X.here [X.here.top, ↓top_set X.here.top, hx, hb, hd, e']
    first | exact a | exact ⟨rfl, a⟩
theorem j_iinc {Γ : GAM} {E : EV} {cc : ByteArray} {nL : Nat} {own : String} {ret : Option FieldType} {fr lo : Nat} {K : Option Value → GH → Prop} (hE : GE Γ E cc nL own ret fr lo K) {pc : Nat} {L : List (Option Value)} {S : List Value} {g : GH} {i : Nat} {n : Int} {x v : Int32} (hd : decode cc pc = .ok (.iinc i n, 3)) (hv : Int32.ofInt n = v) (hl : L[i]? = some (some (.int x))) (hk : i < L.length) (hn : nl2 (if i = 0 then none else L[i - 1]?) = true) (h : JW Γ E (pc + 3) (L.set i (some (.int (x + v)))) S g) : JW Γ E pc L S g := by
  obtain ⟨p, l, e, R, s, m, args, below, meth, c, Q⟩ := E
  obtain ⟨hx, hb, hml, ho, hts, hret, hlk, hK, ⟨hfr, hlo, hcs, hB, u0, hu0, hs0⟩, hQ⟩ := hE
  subst hv
  intro H locs k n' ls a1 a2 a3
  have hg := lhas_at a3 hl
  obtain ⟨ls', e', h'⟩ := lhas_st (v := .int (x + Int32.ofInt n)) a3 hk rfl (fun j e => by first | (subst e; simpa using hn) | simpa [e] using hn)
  intro T hT X
  obtain ⟨t, a, b⟩ := h H locs k n' ls' a1 a2 h' T hT X
  refine ⟨t, ?_, b⟩
  have a : Steps p.tables e below (T.setTop (F0 m (pc + 3) ls' S)) t := a
  show Steps p.tables e below (T.setTop (F0 m pc ls S)) t
  jvm_step X.here [X.here.top, ↓top_set X.here.top, hx, hb, hd, hg, e']
  exact a
theorem j_dup {Γ : GAM} {E : EV} {cc : ByteArray} {nL : Nat} {own : String} {ret : Option FieldType} {fr lo : Nat} {K : Option Value → GH → Prop} (hE : GE Γ E cc nL own ret fr lo K) {pc : Nat} {L : List (Option Value)} {S : List Value} {g : GH} {v : Value} (hd : decode cc pc = .ok (.dup, 1)) (hv : v.category = 1) (h : JW Γ E (pc + 1) L (v :: v :: S) g) : JW Γ E pc L (v :: S) g := by
  obtain ⟨p, l, e, R, s, m, args, below, meth, c, Q⟩ := E
  obtain ⟨hx, hb, hml, ho, hts, hret, hlk, hK, ⟨hfr, hlo, hcs, hB, u0, hu0, hs0⟩, hQ⟩ := hE
  exact fun H locs k n ls a1 a2 a3 => lv_dup hx hb hd hv (h H locs k n ls a1 a2 a3)
theorem j_pop {Γ : GAM} {E : EV} {cc : ByteArray} {nL : Nat} {own : String} {ret : Option FieldType} {fr lo : Nat} {K : Option Value → GH → Prop} (hE : GE Γ E cc nL own ret fr lo K) {pc : Nat} {L : List (Option Value)} {S : List Value} {g : GH} {v : Value} (hd : decode cc pc = .ok (.pop, 1)) (hv : v.category = 1) (h : JW Γ E (pc + 1) L (S) g) : JW Γ E pc L (v :: S) g := by
  obtain ⟨p, l, e, R, s, m, args, below, meth, c, Q⟩ := E
  obtain ⟨hx, hb, hml, ho, hts, hret, hlk, hK, ⟨hfr, hlo, hcs, hB, u0, hu0, hs0⟩, hQ⟩ := hE
  exact fun H locs k n ls a1 a2 a3 => lv_pop hx hb hd hv (h H locs k n ls a1 a2 a3)
theorem j_dup2 {Γ : GAM} {E : EV} {cc : ByteArray} {nL : Nat} {own : String} {ret : Option FieldType} {fr lo : Nat} {K : Option Value → GH → Prop} (hE : GE Γ E cc nL own ret fr lo K) {pc : Nat} {L : List (Option Value)} {S : List Value} {g : GH} {v w : Value} (hd : decode cc pc = .ok (.dup2, 1)) (hv : v.category = 1) (hw : w.category = 1) (h : JW Γ E (pc + 1) L (v :: w :: v :: w :: S) g) : JW Γ E pc L (v :: w :: S) g := by
  obtain ⟨p, l, e, R, s, m, args, below, meth, c, Q⟩ := E
  obtain ⟨hx, hb, hml, ho, hts, hret, hlk, hK, ⟨hfr, hlo, hcs, hB, u0, hu0, hs0⟩, hQ⟩ := hE
  exact fun H locs k n ls a1 a2 a3 => lv_dup2_11 hx hb hd hv hw (h H locs k n ls a1 a2 a3)
theorem j_dup_x1 {Γ : GAM} {E : EV} {cc : ByteArray} {nL : Nat} {own : String} {ret : Option FieldType} {fr lo : Nat} {K : Option Value → GH → Prop} (hE : GE Γ E cc nL own ret fr lo K) {pc : Nat} {L : List (Option Value)} {S : List Value} {g : GH} {v w : Value} (hd : decode cc pc = .ok (.dup_x1, 1)) (hv : v.category = 1) (hw : w.category = 1) (h : JW Γ E (pc + 1) L (v :: w :: v :: S) g) : JW Γ E pc L (v :: w :: S) g := by
  obtain ⟨p, l, e, R, s, m, args, below, meth, c, Q⟩ := E
  obtain ⟨hx, hb, hml, ho, hts, hret, hlk, hK, ⟨hfr, hlo, hcs, hB, u0, hu0, hs0⟩, hQ⟩ := hE
  exact fun H locs k n ls a1 a2 a3 => lv_dup_x1 hx hb hd hv hw (h H locs k n ls a1 a2 a3)
theorem j_if_eq {Γ : GAM} {E : EV} {cc : ByteArray} {nL : Nat} {own : String} {ret : Option FieldType} {fr lo : Nat} {K : Option Value → GH → Prop} (hE : GE Γ E cc nL own ret fr lo K) {pc : Nat} {L : List (Option Value)} {S : List Value} {g : GH} {x : Int32} {off : Int} {tgt : Nat} (hd : decode cc pc = .ok (.ifCond .eq off, 3)) (ht : (pc : Int) + off = (tgt : Int)) (ht1 : x = 0 → JW Γ E tgt L S g) (hf : ¬ x = 0 → JW Γ E (pc + 3) L S g) : JW Γ E pc L (.int x :: S) g := by
  obtain ⟨p, l, e, R, s, m, args, below, meth, c, Q⟩ := E
  obtain ⟨hx, hb, hml, ho, hts, hret, hlk, hK, ⟨hfr, hlo, hcs, hB, u0, hu0, hs0⟩, hQ⟩ := hE
  exact fun H locs k n ls a1 a2 a3 => lv_if_eq hx hb hd ht (fun q => ht1 q H locs k n ls a1 a2 a3) (fun q => hf q H locs k n ls a1 a2 a3)
theorem j_if_ne {Γ : GAM} {E : EV} {cc : ByteArray} {nL : Nat} {own : String} {ret : Option FieldType} {fr lo : Nat} {K : Option Value → GH → Prop} (hE : GE Γ E cc nL own ret fr lo K) {pc : Nat} {L : List (Option Value)} {S : List Value} {g : GH} {x : Int32} {off : Int} {tgt : Nat} (hd : decode cc pc = .ok (.ifCond .ne off, 3)) (ht : (pc : Int) + off = (tgt : Int)) (ht1 : ¬ x = 0 → JW Γ E tgt L S g) (hf : x = 0 → JW Γ E (pc + 3) L S g) : JW Γ E pc L (.int x :: S) g := by
  obtain ⟨p, l, e, R, s, m, args, below, meth, c, Q⟩ := E
  obtain ⟨hx, hb, hml, ho, hts, hret, hlk, hK, ⟨hfr, hlo, hcs, hB, u0, hu0, hs0⟩, hQ⟩ := hE
  exact fun H locs k n ls a1 a2 a3 => lv_if_ne hx hb hd ht (fun q => ht1 q H locs k n ls a1 a2 a3) (fun q => hf q H locs k n ls a1 a2 a3)
theorem j_if_lt {Γ : GAM} {E : EV} {cc : ByteArray} {nL : Nat} {own : String} {ret : Option FieldType} {fr lo : Nat} {K : Option Value → GH → Prop} (hE : GE Γ E cc nL own ret fr lo K) {pc : Nat} {L : List (Option Value)} {S : List Value} {g : GH} {x : Int32} {off : Int} {tgt : Nat} (hd : decode cc pc = .ok (.ifCond .lt off, 3)) (ht : (pc : Int) + off = (tgt : Int)) (ht1 : x < 0 → JW Γ E tgt L S g) (hf : ¬ x < 0 → JW Γ E (pc + 3) L S g) : JW Γ E pc L (.int x :: S) g := by
  obtain ⟨p, l, e, R, s, m, args, below, meth, c, Q⟩ := E
  obtain ⟨hx, hb, hml, ho, hts, hret, hlk, hK, ⟨hfr, hlo, hcs, hB, u0, hu0, hs0⟩, hQ⟩ := hE
  exact fun H locs k n ls a1 a2 a3 => lv_if_lt hx hb hd ht (fun q => ht1 q H locs k n ls a1 a2 a3) (fun q => hf q H locs k n ls a1 a2 a3)
theorem j_if_ge {Γ : GAM} {E : EV} {cc : ByteArray} {nL : Nat} {own : String} {ret : Option FieldType} {fr lo : Nat} {K : Option Value → GH → Prop} (hE : GE Γ E cc nL own ret fr lo K) {pc : Nat} {L : List (Option Value)} {S : List Value} {g : GH} {x : Int32} {off : Int} {tgt : Nat} (hd : decode cc pc = .ok (.ifCond .ge off, 3)) (ht : (pc : Int) + off = (tgt : Int)) (ht1 : 0 ≤ x → JW Γ E tgt L S g) (hf : ¬ 0 ≤ x → JW Γ E (pc + 3) L S g) : JW Γ E pc L (.int x :: S) g := by
  obtain ⟨p, l, e, R, s, m, args, below, meth, c, Q⟩ := E
  obtain ⟨hx, hb, hml, ho, hts, hret, hlk, hK, ⟨hfr, hlo, hcs, hB, u0, hu0, hs0⟩, hQ⟩ := hE
  exact fun H locs k n ls a1 a2 a3 => lv_if_ge hx hb hd ht (fun q => ht1 q H locs k n ls a1 a2 a3) (fun q => hf q H locs k n ls a1 a2 a3)
theorem j_if_gt {Γ : GAM} {E : EV} {cc : ByteArray} {nL : Nat} {own : String} {ret : Option FieldType} {fr lo : Nat} {K : Option Value → GH → Prop} (hE : GE Γ E cc nL own ret fr lo K) {pc : Nat} {L : List (Option Value)} {S : List Value} {g : GH} {x : Int32} {off : Int} {tgt : Nat} (hd : decode cc pc = .ok (.ifCond .gt off, 3)) (ht : (pc : Int) + off = (tgt : Int)) (ht1 : 0 < x → JW Γ E tgt L S g) (hf : ¬ 0 < x → JW Γ E (pc + 3) L S g) : JW Γ E pc L (.int x :: S) g := by
  obtain ⟨p, l, e, R, s, m, args, below, meth, c, Q⟩ := E
  obtain ⟨hx, hb, hml, ho, hts, hret, hlk, hK, ⟨hfr, hlo, hcs, hB, u0, hu0, hs0⟩, hQ⟩ := hE
  exact fun H locs k n ls a1 a2 a3 => lv_if_gt hx hb hd ht (fun q => ht1 q H locs k n ls a1 a2 a3) (fun q => hf q H locs k n ls a1 a2 a3)
theorem j_if_le {Γ : GAM} {E : EV} {cc : ByteArray} {nL : Nat} {own : String} {ret : Option FieldType} {fr lo : Nat} {K : Option Value → GH → Prop} (hE : GE Γ E cc nL own ret fr lo K) {pc : Nat} {L : List (Option Value)} {S : List Value} {g : GH} {x : Int32} {off : Int} {tgt : Nat} (hd : decode cc pc = .ok (.ifCond .le off, 3)) (ht : (pc : Int) + off = (tgt : Int)) (ht1 : x ≤ 0 → JW Γ E tgt L S g) (hf : ¬ x ≤ 0 → JW Γ E (pc + 3) L S g) : JW Γ E pc L (.int x :: S) g := by
  obtain ⟨p, l, e, R, s, m, args, below, meth, c, Q⟩ := E
  obtain ⟨hx, hb, hml, ho, hts, hret, hlk, hK, ⟨hfr, hlo, hcs, hB, u0, hu0, hs0⟩, hQ⟩ := hE
  exact fun H locs k n ls a1 a2 a3 => lv_if_le hx hb hd ht (fun q => ht1 q H locs k n ls a1 a2 a3) (fun q => hf q H locs k n ls a1 a2 a3)
theorem j_icmp_eq {Γ : GAM} {E : EV} {cc : ByteArray} {nL : Nat} {own : String} {ret : Option FieldType} {fr lo : Nat} {K : Option Value → GH → Prop} (hE : GE Γ E cc nL own ret fr lo K) {pc : Nat} {L : List (Option Value)} {S : List Value} {g : GH} {x y : Int32} {off : Int} {tgt : Nat} (hd : decode cc pc = .ok (.if_icmp .eq off, 3)) (ht : (pc : Int) + off = (tgt : Int)) (ht1 : x = y → JW Γ E tgt L S g) (hf : ¬ x = y → JW Γ E (pc + 3) L S g) : JW Γ E pc L (.int y :: .int x :: S) g := by
  obtain ⟨p, l, e, R, s, m, args, below, meth, c, Q⟩ := E
  obtain ⟨hx, hb, hml, ho, hts, hret, hlk, hK, ⟨hfr, hlo, hcs, hB, u0, hu0, hs0⟩, hQ⟩ := hE
  exact fun H locs k n ls a1 a2 a3 => lv_icmp_eq hx hb hd ht (fun q => ht1 q H locs k n ls a1 a2 a3) (fun q => hf q H locs k n ls a1 a2 a3)
theorem j_icmp_ne {Γ : GAM} {E : EV} {cc : ByteArray} {nL : Nat} {own : String} {ret : Option FieldType} {fr lo : Nat} {K : Option Value → GH → Prop} (hE : GE Γ E cc nL own ret fr lo K) {pc : Nat} {L : List (Option Value)} {S : List Value} {g : GH} {x y : Int32} {off : Int} {tgt : Nat} (hd : decode cc pc = .ok (.if_icmp .ne off, 3)) (ht : (pc : Int) + off = (tgt : Int)) (ht1 : ¬ x = y → JW Γ E tgt L S g) (hf : x = y → JW Γ E (pc + 3) L S g) : JW Γ E pc L (.int y :: .int x :: S) g := by
  obtain ⟨p, l, e, R, s, m, args, below, meth, c, Q⟩ := E
  obtain ⟨hx, hb, hml, ho, hts, hret, hlk, hK, ⟨hfr, hlo, hcs, hB, u0, hu0, hs0⟩, hQ⟩ := hE
  exact fun H locs k n ls a1 a2 a3 => lv_icmp_ne hx hb hd ht (fun q => ht1 q H locs k n ls a1 a2 a3) (fun q => hf q H locs k n ls a1 a2 a3)
theorem j_icmp_lt {Γ : GAM} {E : EV} {cc : ByteArray} {nL : Nat} {own : String} {ret : Option FieldType} {fr lo : Nat} {K : Option Value → GH → Prop} (hE : GE Γ E cc nL own ret fr lo K) {pc : Nat} {L : List (Option Value)} {S : List Value} {g : GH} {x y : Int32} {off : Int} {tgt : Nat} (hd : decode cc pc = .ok (.if_icmp .lt off, 3)) (ht : (pc : Int) + off = (tgt : Int)) (ht1 : x < y → JW Γ E tgt L S g) (hf : ¬ x < y → JW Γ E (pc + 3) L S g) : JW Γ E pc L (.int y :: .int x :: S) g := by
  obtain ⟨p, l, e, R, s, m, args, below, meth, c, Q⟩ := E
  obtain ⟨hx, hb, hml, ho, hts, hret, hlk, hK, ⟨hfr, hlo, hcs, hB, u0, hu0, hs0⟩, hQ⟩ := hE
  exact fun H locs k n ls a1 a2 a3 => lv_icmp_lt hx hb hd ht (fun q => ht1 q H locs k n ls a1 a2 a3) (fun q => hf q H locs k n ls a1 a2 a3)
theorem j_icmp_ge {Γ : GAM} {E : EV} {cc : ByteArray} {nL : Nat} {own : String} {ret : Option FieldType} {fr lo : Nat} {K : Option Value → GH → Prop} (hE : GE Γ E cc nL own ret fr lo K) {pc : Nat} {L : List (Option Value)} {S : List Value} {g : GH} {x y : Int32} {off : Int} {tgt : Nat} (hd : decode cc pc = .ok (.if_icmp .ge off, 3)) (ht : (pc : Int) + off = (tgt : Int)) (ht1 : y ≤ x → JW Γ E tgt L S g) (hf : ¬ y ≤ x → JW Γ E (pc + 3) L S g) : JW Γ E pc L (.int y :: .int x :: S) g := by
  obtain ⟨p, l, e, R, s, m, args, below, meth, c, Q⟩ := E
  obtain ⟨hx, hb, hml, ho, hts, hret, hlk, hK, ⟨hfr, hlo, hcs, hB, u0, hu0, hs0⟩, hQ⟩ := hE
  exact fun H locs k n ls a1 a2 a3 => lv_icmp_ge hx hb hd ht (fun q => ht1 q H locs k n ls a1 a2 a3) (fun q => hf q H locs k n ls a1 a2 a3)
theorem j_icmp_gt {Γ : GAM} {E : EV} {cc : ByteArray} {nL : Nat} {own : String} {ret : Option FieldType} {fr lo : Nat} {K : Option Value → GH → Prop} (hE : GE Γ E cc nL own ret fr lo K) {pc : Nat} {L : List (Option Value)} {S : List Value} {g : GH} {x y : Int32} {off : Int} {tgt : Nat} (hd : decode cc pc = .ok (.if_icmp .gt off, 3)) (ht : (pc : Int) + off = (tgt : Int)) (ht1 : y < x → JW Γ E tgt L S g) (hf : ¬ y < x → JW Γ E (pc + 3) L S g) : JW Γ E pc L (.int y :: .int x :: S) g := by
  obtain ⟨p, l, e, R, s, m, args, below, meth, c, Q⟩ := E
  obtain ⟨hx, hb, hml, ho, hts, hret, hlk, hK, ⟨hfr, hlo, hcs, hB, u0, hu0, hs0⟩, hQ⟩ := hE
  exact fun H locs k n ls a1 a2 a3 => lv_icmp_gt hx hb hd ht (fun q => ht1 q H locs k n ls a1 a2 a3) (fun q => hf q H locs k n ls a1 a2 a3)
theorem j_icmp_le {Γ : GAM} {E : EV} {cc : ByteArray} {nL : Nat} {own : String} {ret : Option FieldType} {fr lo : Nat} {K : Option Value → GH → Prop} (hE : GE Γ E cc nL own ret fr lo K) {pc : Nat} {L : List (Option Value)} {S : List Value} {g : GH} {x y : Int32} {off : Int} {tgt : Nat} (hd : decode cc pc = .ok (.if_icmp .le off, 3)) (ht : (pc : Int) + off = (tgt : Int)) (ht1 : x ≤ y → JW Γ E tgt L S g) (hf : ¬ x ≤ y → JW Γ E (pc + 3) L S g) : JW Γ E pc L (.int y :: .int x :: S) g := by
  obtain ⟨p, l, e, R, s, m, args, below, meth, c, Q⟩ := E
  obtain ⟨hx, hb, hml, ho, hts, hret, hlk, hK, ⟨hfr, hlo, hcs, hB, u0, hu0, hs0⟩, hQ⟩ := hE
  exact fun H locs k n ls a1 a2 a3 => lv_icmp_le hx hb hd ht (fun q => ht1 q H locs k n ls a1 a2 a3) (fun q => hf q H locs k n ls a1 a2 a3)
theorem j_acmp_eq {Γ : GAM} {E : EV} {cc : ByteArray} {nL : Nat} {own : String} {ret : Option FieldType} {fr lo : Nat} {K : Option Value → GH → Prop} (hE : GE Γ E cc nL own ret fr lo K) {pc : Nat} {L : List (Option Value)} {S : List Value} {g : GH} {rx ry : Option Nat} {off : Int} {tgt : Nat} (hd : decode cc pc = .ok (.if_acmp .eq off, 3)) (ht : (pc : Int) + off = (tgt : Int)) (ht1 : rx = ry → JW Γ E tgt L S g) (hf : ¬ rx = ry → JW Γ E (pc + 3) L S g) : JW Γ E pc L (va_rf ry :: va_rf rx :: S) g := by
  obtain ⟨p, l, e, R, s, m, args, below, meth, c, Q⟩ := E
  obtain ⟨hx, hb, hml, ho, hts, hret, hlk, hK, ⟨hfr, hlo, hcs, hB, u0, hu0, hs0⟩, hQ⟩ := hE
  exact fun H locs k n ls a1 a2 a3 => lv_acmp_eq hx hb hd ht (fun q => ht1 q H locs k n ls a1 a2 a3) (fun q => hf q H locs k n ls a1 a2 a3)
theorem j_acmp_ne {Γ : GAM} {E : EV} {cc : ByteArray} {nL : Nat} {own : String} {ret : Option FieldType} {fr lo : Nat} {K : Option Value → GH → Prop} (hE : GE Γ E cc nL own ret fr lo K) {pc : Nat} {L : List (Option Value)} {S : List Value} {g : GH} {rx ry : Option Nat} {off : Int} {tgt : Nat} (hd : decode cc pc = .ok (.if_acmp .ne off, 3)) (ht : (pc : Int) + off = (tgt : Int)) (ht1 : ¬ rx = ry → JW Γ E tgt L S g) (hf : rx = ry → JW Γ E (pc + 3) L S g) : JW Γ E pc L (va_rf ry :: va_rf rx :: S) g := by
  obtain ⟨p, l, e, R, s, m, args, below, meth, c, Q⟩ := E
  obtain ⟨hx, hb, hml, ho, hts, hret, hlk, hK, ⟨hfr, hlo, hcs, hB, u0, hu0, hs0⟩, hQ⟩ := hE
  exact fun H locs k n ls a1 a2 a3 => lv_acmp_ne hx hb hd ht (fun q => ht1 q H locs k n ls a1 a2 a3) (fun q => hf q H locs k n ls a1 a2 a3)
theorem j_ifnull {Γ : GAM} {E : EV} {cc : ByteArray} {nL : Nat} {own : String} {ret : Option FieldType} {fr lo : Nat} {K : Option Value → GH → Prop} (hE : GE Γ E cc nL own ret fr lo K) {pc : Nat} {L : List (Option Value)} {S : List Value} {g : GH} {x : Option Nat} {off : Int} {tgt : Nat} (hd : decode cc pc = .ok (.ifnull off, 3)) (ht : (pc : Int) + off = (tgt : Int)) (ht1 : x = none → JW Γ E tgt L S g) (hf : ∀ a, x = some a → JW Γ E (pc + 3) L S g) : JW Γ E pc L (va_rf x :: S) g := by
  obtain ⟨p, l, e, R, s, m, args, below, meth, c, Q⟩ := E
  obtain ⟨hx, hb, hml, ho, hts, hret, hlk, hK, ⟨hfr, hlo, hcs, hB, u0, hu0, hs0⟩, hQ⟩ := hE
  cases x with
  | none => exact fun H locs k n ls a1 a2 a3 => lv_ifnullN hx hb hd ht (ht1 rfl H locs k n ls a1 a2 a3)
  | some x => exact fun H locs k n ls a1 a2 a3 => lv_ifnull hx hb hd (hf x rfl H locs k n ls a1 a2 a3)
theorem j_ifnonnull {Γ : GAM} {E : EV} {cc : ByteArray} {nL : Nat} {own : String} {ret : Option FieldType} {fr lo : Nat} {K : Option Value → GH → Prop} (hE : GE Γ E cc nL own ret fr lo K) {pc : Nat} {L : List (Option Value)} {S : List Value} {g : GH} {x : Option Nat} {off : Int} {tgt : Nat} (hd : decode cc pc = .ok (.ifnonnull off, 3)) (ht : (pc : Int) + off = (tgt : Int)) (ht1 : x = none → JW Γ E (pc + 3) L S g) (hf : ∀ a, x = some a → JW Γ E tgt L S g) : JW Γ E pc L (va_rf x :: S) g := by
  obtain ⟨p, l, e, R, s, m, args, below, meth, c, Q⟩ := E
  obtain ⟨hx, hb, hml, ho, hts, hret, hlk, hK, ⟨hfr, hlo, hcs, hB, u0, hu0, hs0⟩, hQ⟩ := hE
  cases x with
  | none => exact fun H locs k n ls a1 a2 a3 => lv_ifnonnullN hx hb hd (ht1 rfl H locs k n ls a1 a2 a3)
  | some x => exact fun H locs k n ls a1 a2 a3 => lv_ifnonnull hx hb hd ht (hf x rfl H locs k n ls a1 a2 a3)
theorem j_goto {Γ : GAM} {E : EV} {cc : ByteArray} {nL : Nat} {own : String} {ret : Option FieldType} {fr lo : Nat} {K : Option Value → GH → Prop} (hE : GE Γ E cc nL own ret fr lo K) {pc : Nat} {L : List (Option Value)} {S : List Value} {g : GH} {off : Int} {tgt : Nat} (hd : decode cc pc = .ok (.goto off, 3)) (ht : (pc : Int) + off = (tgt : Int)) (h : JW Γ E tgt L S g) : JW Γ E pc L S g := by
  obtain ⟨p, l, e, R, s, m, args, below, meth, c, Q⟩ := E
  obtain ⟨hx, hb, hml, ho, hts, hret, hlk, hK, ⟨hfr, hlo, hcs, hB, u0, hu0, hs0⟩, hQ⟩ := hE
  exact fun H locs k n ls a1 a2 a3 => lv_goto hx hb hd ht (h H locs k n ls a1 a2 a3)
theorem j_tableIn {Γ : GAM} {E : EV} {cc : ByteArray} {nL : Nat} {own : String} {ret : Option FieldType} {fr lo : Nat} {K : Option Value → GH → Prop} (hE : GE Γ E cc nL own ret fr lo K) {pc : Nat} {L : List (Option Value)} {S : List Value} {g : GH} {dflt lo0 hi : Int} {offs : Array Int} {len : Nat} {x : Int32} {off : Int} {tgt : Nat} (hd : decode cc pc = .ok (.tableswitch dflt lo0 hi offs, len)) (h1 : ¬ x.toInt < lo0) (h2 : ¬ hi < x.toInt) (ho1 : offs[(x.toInt - lo0).toNat]? = some off) (ht : (pc : Int) + off = (tgt : Int)) (h : JW Γ E tgt L S g) : JW Γ E pc L (.int x :: S) g := by
  obtain ⟨p, l, e, R, s, m, args, below, meth, c, Q⟩ := E
  obtain ⟨hx, hb, hml, ho, hts, hret, hlk, hK, ⟨hfr, hlo, hcs, hB, u0, hu0, hs0⟩, hQ⟩ := hE
  exact fun H locs k n ls a1 a2 a3 => lv_tableIn hx hb hd h1 h2 ho1 ht (h H locs k n ls a1 a2 a3)
theorem j_tableOut {Γ : GAM} {E : EV} {cc : ByteArray} {nL : Nat} {own : String} {ret : Option FieldType} {fr lo : Nat} {K : Option Value → GH → Prop} (hE : GE Γ E cc nL own ret fr lo K) {pc : Nat} {L : List (Option Value)} {S : List Value} {g : GH} {dflt lo0 hi : Int} {offs : Array Int} {len : Nat} {x : Int32} {tgt : Nat} (hd : decode cc pc = .ok (.tableswitch dflt lo0 hi offs, len)) (h1 : x.toInt < lo0 ∨ hi < x.toInt) (ht : (pc : Int) + dflt = (tgt : Int)) (h : JW Γ E tgt L S g) : JW Γ E pc L (.int x :: S) g := by
  obtain ⟨p, l, e, R, s, m, args, below, meth, c, Q⟩ := E
  obtain ⟨hx, hb, hml, ho, hts, hret, hlk, hK, ⟨hfr, hlo, hcs, hB, u0, hu0, hs0⟩, hQ⟩ := hE
  exact fun H locs k n ls a1 a2 a3 => lv_tableOut hx hb hd h1 ht (h H locs k n ls a1 a2 a3)
theorem j_lookup {Γ : GAM} {E : EV} {cc : ByteArray} {nL : Nat} {own : String} {ret : Option FieldType} {fr lo : Nat} {K : Option Value → GH → Prop} (hE : GE Γ E cc nL own ret fr lo K) {pc : Nat} {L : List (Option Value)} {S : List Value} {g : GH} {dflt : Int} {ps : Array (Int × Int)} {len : Nat} {x : Int32} {off : Int} {tgt : Nat} (hd : decode cc pc = .ok (.lookupswitch dflt ps, len)) (hp : (ps.toList.zip (ps.toList.drop 1)).all (fun (a, next) => a.1 < next.1) = true) (ho1 : Op.lookupswitch.offset ps.toList dflt x.toInt = off) (ht : (pc : Int) + off = (tgt : Int)) (h : JW Γ E tgt L S g) : JW Γ E pc L (.int x :: S) g := by
  obtain ⟨p, l, e, R, s, m, args, below, meth, c, Q⟩ := E
  obtain ⟨hx, hb, hml, ho, hts, hret, hlk, hK, ⟨hfr, hlo, hcs, hB, u0, hu0, hs0⟩, hQ⟩ := hE
  exact fun H locs k n ls a1 a2 a3 => lv_lookup hx hb hd hp ho1 ht (h H locs k n ls a1 a2 a3)
theorem j_ldc {Γ : GAM} {E : EV} {cc : ByteArray} {nL : Nat} {own : String} {ret : Option FieldType} {fr lo : Nat} {K : Option Value → GH → Prop} (hE : GE Γ E cc nL own ret fr lo K) {pc : Nat} {L : List (Option Value)} {S : List Value} {g : GH} {idx : Nat} {v : Int32} (hc : Jvm.Cond.constant own idx v ∈ gwl) (hd : decode cc pc = .ok (.ldc idx, 2)) (h : JW Γ E (pc + 2) L (.int v :: S) g) : JW Γ E pc L S g := by
  obtain ⟨p, l, e, R, s, m, args, below, meth, c, Q⟩ := E
  obtain ⟨hx, hb, hml, ho, hts, hret, hlk, hK, ⟨hfr, hlo, hcs, hB, u0, hu0, hs0⟩, hQ⟩ := hE
  exact fun H locs k n ls a1 a2 a3 => lv_ldc hx hb ho (hts _ hc) hd (h H locs k n ls a1 a2 a3)
theorem j_ldcw {Γ : GAM} {E : EV} {cc : ByteArray} {nL : Nat} {own : String} {ret : Option FieldType} {fr lo : Nat} {K : Option Value → GH → Prop} (hE : GE Γ E cc nL own ret fr lo K) {pc : Nat} {L : List (Option Value)} {S : List Value} {g : GH} {idx : Nat} {v : Int32} (hc : Jvm.Cond.constant own idx v ∈ gwl) (hd : decode cc pc = .ok (.ldc_w idx, 3)) (h : JW Γ E (pc + 3) L (.int v :: S) g) : JW Γ E pc L S g := by
  obtain ⟨p, l, e, R, s, m, args, below, meth, c, Q⟩ := E
  obtain ⟨hx, hb, hml, ho, hts, hret, hlk, hK, ⟨hfr, hlo, hcs, hB, u0, hu0, hs0⟩, hQ⟩ := hE
  exact fun H locs k n ls a1 a2 a3 => lv_ldcw hx hb ho (hts _ hc) hd (h H locs k n ls a1 a2 a3)
theorem j_ldc2 {Γ : GAM} {E : EV} {cc : ByteArray} {nL : Nat} {own : String} {ret : Option FieldType} {fr lo : Nat} {K : Option Value → GH → Prop} (hE : GE Γ E cc nL own ret fr lo K) {pc : Nat} {L : List (Option Value)} {S : List Value} {g : GH} {idx : Nat} {v : Int64} (hc : Jvm.Cond.constantLong own idx v ∈ gwl) (hd : decode cc pc = .ok (.ldc2_w idx, 3)) (h : JW Γ E (pc + 3) L (.long v :: S) g) : JW Γ E pc L S g := by
  obtain ⟨p, l, e, R, s, m, args, below, meth, c, Q⟩ := E
  obtain ⟨hx, hb, hml, ho, hts, hret, hlk, hK, ⟨hfr, hlo, hcs, hB, u0, hu0, hs0⟩, hQ⟩ := hE
  exact fun H locs k n ls a1 a2 a3 => lv_ldc2 hx hb ho (hts _ hc) hd (h H locs k n ls a1 a2 a3)
