/-! numbers below 0 too: Int32 and Int64 by an Int; rows; my own -/
def zi_I (x : Int) : Int32 := Int32.ofInt x
def zi_L (x : Int) : Int64 := Int64.ofInt x
theorem zi_nI (n : Nat) : nI n = zi_I n := (Int32.ofInt_eq_ofNat (n := n)).symm
theorem zi_lN (n : Nat) : lN n = zi_L n := (Int64.ofInt_eq_ofNat (n := n)).symm
theorem zi_of (x : Int32) : x = zi_I x.toInt := (Int32.ofInt_toInt x).symm
theorem zi_lo (x : Int32) : -2147483648 ≤ x.toInt := Int32.le_toInt x
theorem zi_hi (x : Int32) : x.toInt < 2147483648 := Int32.toInt_lt x
theorem zi_toInt {x : Int} (h1 : -2147483648 ≤ x) (h2 : x < 2147483648) : (zi_I x).toInt = x := Int32.toInt_ofInt_of_le h1 h2
theorem zi_LtoInt {x : Int} (h1 : -9223372036854775808 ≤ x) (h2 : x < 9223372036854775808) : (zi_L x).toInt = x := Int64.toInt_ofInt_of_le h1 h2
theorem zi_add (a b : Int) : zi_I a + zi_I b = zi_I (a + b) := (Int32.ofInt_add a b).symm
theorem zi_sub (a b : Int) : zi_I a - zi_I b = zi_I (a - b) := (Int32.ofInt_sub a b).symm
theorem zi_mul (a b : Int) : zi_I a * zi_I b = zi_I (a * b) := (Int32.ofInt_mul a b).symm
theorem zi_neg (a : Int) : -zi_I a = zi_I (-a) := (Int32.ofInt_neg a).symm
theorem zi_Ladd (a b : Int) : zi_L a + zi_L b = zi_L (a + b) := (Int64.ofInt_add a b).symm
theorem zi_Lsub (a b : Int) : zi_L a - zi_L b = zi_L (a - b) := (Int64.ofInt_sub a b).symm
theorem zi_Lmul (a b : Int) : zi_L a * zi_L b = zi_L (a * b) := (Int64.ofInt_mul a b).symm
theorem zi_rem {a b : Int} (h1 : -2147483648 ≤ a) (h2 : a < 2147483648) (h3 : 0 < b) (h4 : b < 2147483648) : zi_I a - zi_I a / zi_I b * zi_I b = zi_I (a.tmod b) := by
  have e : zi_I a / zi_I b = zi_I (a.tdiv b) := (Int32.ofInt_tdiv (by show (-2147483648 : Int) ≤ a; omega) (by show a ≤ (2147483647 : Int); omega) (by show (-2147483648 : Int) ≤ b; omega) (by show b ≤ (2147483647 : Int); omega)).symm
  rw [e, zi_mul, zi_sub]
  congr 1
  rw [Int.tmod_def, Int.mul_comm]
theorem zi_Lrem {a b : Int} (h1 : -4611686018427387904 ≤ a) (h2 : a < 4611686018427387904) (h3 : 0 < b) (h4 : b < 2147483648) : zi_L a - zi_L a / zi_L b * zi_L b = zi_L (a.tmod b) := by
  have e : zi_L a / zi_L b = zi_L (a.tdiv b) := (Int64.ofInt_tdiv (by show (-9223372036854775808 : Int) ≤ a; omega) (by show a ≤ (9223372036854775807 : Int); omega) (by show (-9223372036854775808 : Int) ≤ b; omega) (by show b ≤ (9223372036854775807 : Int); omega)).symm
  rw [e, zi_Lmul, zi_Lsub]
  congr 1
  rw [Int.tmod_def, Int.mul_comm]
theorem zi_fm {a b : Int} (h : 0 < b) (hn : a.tmod b < 0) : a.tmod b + b = a % b := by
  have h1 := Int.tmod_eq_emod (a := a) (b := b)
  have h2 := Int.emod_nonneg a (show b ≠ 0 by omega)
  have h3 : (b.natAbs : Int) = b := by omega
  split at h1 <;> omega
theorem zi_fp {a b : Int} (h : 0 < b) (hn : 0 ≤ a.tmod b) : a.tmod b = a % b := by
  have h1 := Int.tmod_eq_emod (a := a) (b := b)
  have h2 := Int.emod_lt_of_pos a h
  have h3 : (b.natAbs : Int) = b := by omega
  split at h1 <;> omega
theorem zi_tm {a b : Int} (h : 0 < b) : -b < a.tmod b ∧ a.tmod b < b := ⟨Int.lt_tmod_of_pos a h, Int.tmod_lt_of_pos a h⟩
/-- i to l, l to i -/
theorem zi_i2l {x : Int} (h1 : -2147483648 ≤ x) (h2 : x < 2147483648) : (zi_I x).toInt64 = zi_L x := Int32.toInt64_ofInt h1 (by show x ≤ (2147483647 : Int); omega)
theorem zi_l2i (x : Int) : (zi_L x).toInt32 = zi_I x := Int64.toInt32_ofInt
theorem zi_lt {a b : Int} (h1 : -2147483648 ≤ a) (h2 : a < 2147483648) (h3 : -2147483648 ≤ b) (h4 : b < 2147483648) : zi_I a < zi_I b ↔ a < b := by
  rw [Int32.lt_iff_toInt_lt, zi_toInt h1 h2, zi_toInt h3 h4]
theorem zi_le {a b : Int} (h1 : -2147483648 ≤ a) (h2 : a < 2147483648) (h3 : -2147483648 ≤ b) (h4 : b < 2147483648) : zi_I a ≤ zi_I b ↔ a ≤ b := by
  rw [Int32.le_iff_toInt_le, zi_toInt h1 h2, zi_toInt h3 h4]
theorem zi_eq {a b : Int} (h1 : -2147483648 ≤ a) (h2 : a < 2147483648) (h3 : -2147483648 ≤ b) (h4 : b < 2147483648) : zi_I a = zi_I b ↔ a = b := by
  rw [← Int32.toInt_inj, zi_toInt h1 h2, zi_toInt h3 h4]
theorem zi_0 : (0 : Int32) = zi_I 0 := by decide +kernel
/-- a remainder is a number -/
theorem zi_em (a : Int) {t : Nat} (h : 0 < t) : ∃ r : Nat, r < t ∧ a % (t : Int) = (r : Int) := by
  have h1 := Int.emod_nonneg a (show (t : Int) ≠ 0 by omega)
  have h2 := Int.emod_lt_of_pos a (show (0 : Int) < t by omega)
  exact ⟨(a % (t : Int)).toNat, by omega, by omega⟩
