/-! ===== the machine's numbers as whole numbers ===== -/
theorem w32_bmod (z : Int) : w32 z = z.bmod (2 ^ 32) := by
  rw [Int.bmod_def, w32_def]
  split <;> omega
theorem w64_bmod (z : Int) : w64 z = z.bmod (2 ^ 64) := by
  rw [Int.bmod_def, w64_def]
  split <;> omega
theorem w32_id {z : Int} (h1 : -2147483648 ≤ z) (h2 : z < 2147483648) : w32 z = z := by rw [w32_def]; omega
theorem w64_id {z : Int} (h1 : -9223372036854775808 ≤ z) (h2 : z < 9223372036854775808) : w64 z = z := by rw [w64_def]; omega
theorem i32_rng (x : Int32) : -2147483648 ≤ x.toInt ∧ x.toInt < 2147483648 := by
  have h1 := Int32.le_toInt x
  have h2 := Int32.toInt_lt x
  constructor <;> simpa using by assumption
theorem i64_rng (x : Int64) : -9223372036854775808 ≤ x.toInt ∧ x.toInt < 9223372036854775808 := by
  have h1 := Int64.le_toInt x
  have h2 := Int64.toInt_lt x
  constructor <;> simpa using by assumption
theorem t32_add (x y : Int32) : (x + y).toInt = w32 (x.toInt + y.toInt) := by rw [w32_bmod, Int32.toInt_add]
theorem t32_sub (x y : Int32) : (x - y).toInt = w32 (x.toInt - y.toInt) := by rw [w32_bmod, Int32.toInt_sub]
theorem t32_mul (x y : Int32) : (x * y).toInt = w32 (x.toInt * y.toInt) := by rw [w32_bmod, Int32.toInt_mul]
theorem t32_div (x y : Int32) : (x / y).toInt = w32 (x.toInt.tdiv y.toInt) := by rw [w32_bmod, Int32.toInt_div]
theorem t64_add (x y : Int64) : (x + y).toInt = w64 (x.toInt + y.toInt) := by rw [w64_bmod, Int64.toInt_add]
theorem t64_sub (x y : Int64) : (x - y).toInt = w64 (x.toInt - y.toInt) := by rw [w64_bmod, Int64.toInt_sub]
theorem t64_mul (x y : Int64) : (x * y).toInt = w64 (x.toInt * y.toInt) := by rw [w64_bmod, Int64.toInt_mul]
theorem t64_div (x y : Int64) : (x / y).toInt = w64 (x.toInt.tdiv y.toInt) := by rw [w64_bmod, Int64.toInt_div]
theorem t32_rem (x y : Int32) : (x - x / y * y).toInt = x.toInt.tmod y.toInt := by
  have h1 : (x % y).toInt = x.toInt.tmod y.toInt := Int32.toInt_mod x y
  have h2 : x - x / y * y = x % y := by
    apply Int32.toInt_inj.mp
    rw [t32_sub, t32_mul, t32_div, h1]
    have h3 : x.toInt.tmod y.toInt = x.toInt - x.toInt.tdiv y.toInt * y.toInt := by
      have := Int.tmod_add_mul_tdiv x.toInt y.toInt
      have h4 : y.toInt * x.toInt.tdiv y.toInt = x.toInt.tdiv y.toInt * y.toInt := Int.mul_comm _ _
      omega
    have r1 := i32_rng (x % y)
    rw [h1] at r1
    simp only [w32_bmod]
    rw [Int.bmod_mul_bmod, Int.sub_bmod_bmod, ← h3, ← w32_bmod]
    exact w32_id r1.1 r1.2
  rw [h2, h1]
theorem t64_rem (x y : Int64) : (x - x / y * y).toInt = x.toInt.tmod y.toInt := by
  have h1 : (x % y).toInt = x.toInt.tmod y.toInt := Int64.toInt_mod x y
  have h2 : x - x / y * y = x % y := by
    apply Int64.toInt_inj.mp
    rw [t64_sub, t64_mul, t64_div, h1]
    have h3 : x.toInt.tmod y.toInt = x.toInt - x.toInt.tdiv y.toInt * y.toInt := by
      have := Int.tmod_add_mul_tdiv x.toInt y.toInt
      have h4 : y.toInt * x.toInt.tdiv y.toInt = x.toInt.tdiv y.toInt * y.toInt := Int.mul_comm _ _
      omega
    have r1 := i64_rng (x % y)
    rw [h1] at r1
    simp only [w64_bmod]
    rw [Int.bmod_mul_bmod, Int.sub_bmod_bmod, ← h3, ← w64_bmod]
    exact w64_id r1.1 r1.2
  rw [h2, h1]
theorem o32 (x : Int32) : Int32.ofInt x.toInt = x := Int32.ofInt_toInt x
theorem o64 (x : Int64) : Int64.ofInt x.toInt = x := Int64.ofInt_toInt x
theorem t32_of {z : Int} (h1 : -2147483648 ≤ z) (h2 : z < 2147483648) : (Int32.ofInt z).toInt = z := by
  rw [Int32.toInt_ofInt, ← w32_bmod]
  exact w32_id h1 h2
theorem t64_of {z : Int} (h1 : -9223372036854775808 ≤ z) (h2 : z < 9223372036854775808) : (Int64.ofInt z).toInt = z := by
  rw [Int64.toInt_ofInt, ← w64_bmod]
  exact w64_id h1 h2
theorem t8_of {z : Int} (h1 : -128 ≤ z) (h2 : z < 128) : (Int8.ofInt z).toInt32.toInt = z := by
  rw [Int8.toInt_toInt32, Int8.toInt_ofInt, Int.bmod_def, show Int8.size = 256 from rfl]
  split <;> omega
theorem t16_of {z : Int} (h1 : -32768 ≤ z) (h2 : z < 32768) : (Int16.ofInt z).toInt32.toInt = z := by
  rw [Int16.toInt_toInt32, Int16.toInt_ofInt, Int.bmod_def, show Int16.size = 65536 from rfl]
  split <;> omega
theorem x_i2l (x : Int32) : x.toInt64.toInt = x.toInt := Int32.toInt_toInt64 x
theorem x_l2i (x : Int64) : x.toInt32.toInt = w32 x.toInt := by rw [w32_bmod, Int64.toInt_toInt32]
theorem x_lcmp (x y : Int64) : (lg_cmp x y).toInt = lcmpz x.toInt y.toInt := by
  unfold lg_cmp lcmpz
  simp only [gt_iff_lt, Int64.lt_iff_toInt_lt, ← Int64.toInt_inj]
  split
  · rfl
  · split <;> rfl
theorem x_in {x : Int32} {n : Nat} (h : 0 ≤ x.toInt ∧ x.toInt < (n : Int)) : vp_in x n := vp_in_iff.mpr h
theorem x_cl {x : Int32} : x.toNatClampNeg = x.toInt.toNat := rfl
