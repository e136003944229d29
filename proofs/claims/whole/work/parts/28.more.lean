theorem zq_j_lt {t : Nat} (ht : 0 < t) (op a b : Nat) : zq_j t op a b < t := by
  unfold zq_j
  split <;> exact Nat.mod_lt _ ht
theorem zi_b9 {d x : Int} (h1 : -193 ≤ d) (h2 : d ≤ 193) (h3 : 0 ≤ x ∧ x ≤ 193) : d * x ≤ 37249 ∧ -37249 ≤ d * x := by
  have a1 := Int.mul_le_mul_of_nonneg_right h2 h3.1
  have a2 := Int.mul_le_mul_of_nonneg_right h1 h3.1
  constructor <;> omega
