/-! the reference: the draw of lots -/
def rkN (x : Int64) : Int64 := x * (6364136223846793005 : Int64) + (1442695040888963407 : Int64)
def rkI (x : Int64) (n : Int32) : Int32 := ((((x.toUInt64 >>> ((33).toInt64.toUInt64 &&& Int64.toUInt64 63)).toInt64) - ((x.toUInt64 >>> ((33).toInt64.toUInt64 &&& Int64.toUInt64 63)).toInt64) / (n.toInt64) * (n.toInt64)).toInt32)
theorem rk_sh (x : UInt64) : (x >>> 33).toNat < 2147483648 := by
  rw [UInt64.toNat_shiftRight]
  have h : (33 : UInt64).toNat % 64 = 33 := rfl
  rw [h, Nat.shiftRight_eq_div_pow]
  have := x.toNat_lt
  omega
