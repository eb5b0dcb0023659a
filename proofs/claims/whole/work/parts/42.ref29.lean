/-! the reference: the draw of lots -/
def rkN (x : Int64) : Int64 := x * (6364136223846793005 : Int64) + (1442695040888963407 : Int64)
def rkI (x : Int64) (n : Int32) : Int32 := ((((x.toUInt64 >>> ((33 : Int32).toInt64.toUInt64 &&& Int64.toUInt64 63)).toInt64) - ((x.toUInt64 >>> ((33 : Int32).toInt64.toUInt64 &&& Int64.toUInt64 63)).toInt64) / (n.toInt64) * (n.toInt64)).toInt32)
theorem rk_sh (x : UInt64) : (x >>> 33).toNat < 2147483648 := by
  rw [UInt64.toNat_shiftRight]
  have h : (33 : UInt64).toNat % 64 = 33 := rfl
  rw [h, Nat.shiftRight_eq_div_pow]
  have := x.toNat_lt
  omega
theorem rk_rem {a b : Int64} {m n : Nat} (ha : a.toInt = m) (hb : b.toInt = n) (hm : m < 2147483648) (h1 : 1 ≤ n) (h2 : n ≤ 200) : (a - a / b * b).toInt = ((m % n : Nat) : Int) := by
  have hd : (a / b).toInt = ((m / n : Nat) : Int) := by
    rw [Int64.toInt_div, ha, hb]
    rw [show (m : Int).tdiv (n : Int) = ((m / n : Nat) : Int) from by rw [Int.tdiv_eq_ediv_of_nonneg (by omega)]; norm_cast]
    have : m / n ≤ m := Nat.div_le_self _ _
    generalize m / n = q at *
    rw [Int.bmod_def]; split <;> omega
  have hle : m / n * n ≤ m := Nat.div_mul_le_self _ _
  have hmm : (a / b * b).toInt = ((m / n * n : Nat) : Int) := by
    rw [Int64.toInt_mul, hd, hb, ← Int.natCast_mul]
    generalize m / n * n = q at *
    rw [Int.bmod_def]; split <;> omega
  rw [Int64.toInt_sub, ha, hmm]
  have hr : m / n * n + m % n = m := Nat.div_add_mod' m n
  generalize m / n * n = q at *
  generalize m % n = r at *
  rw [Int.bmod_def]; split <;> omega
theorem rkI_v (x : Int64) {n : Nat} (h1 : 1 ≤ n) (h2 : n ≤ 200) : rkI x (nI n) = nI ((x.toUInt64 >>> 33).toNat % n) := by
  have hs : ((33 : Int32).toInt64.toUInt64 &&& Int64.toUInt64 63) = 33 := by decide
  have h3 := rk_sh x.toUInt64
  unfold rkI
  rw [hs]
  generalize x.toUInt64 >>> 33 = y at *
  have hy : y.toInt64.toInt = (y.toNat : Int) := by
    show y.toBitVec.toInt = _
    rw [BitVec.toInt_eq_toNat_bmod]
    have : y.toBitVec.toNat = y.toNat := rfl
    rw [this, Int.bmod_def]; split <;> omega
  have hn : (nI n).toInt64.toInt = (n : Int) := by
    rw [Int32.toInt_toInt64, nj_toInt (by omega)]
  have h4 := rk_rem hy hn h3 h1 h2
  have h5 : y.toNat % n < n := Nat.mod_lt _ (by omega)
  apply Int32.toInt_inj.mp
  rw [Int64.toInt_toInt32, h4, nj_toInt (by omega), Int.bmod_def]
  split <;> omega
theorem rkI_in (x : Int64) {n : Nat} (h1 : 1 ≤ n) (h2 : n ≤ 200) : inB (rkI x (nI n)) n := by
  rw [rkI_v x h1 h2]
  exact inB_nI (Nat.mod_lt _ (by omega)) (by omega)
