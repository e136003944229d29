/-! what the loops reckon, as functions of numbers; my own -/
def zq_zc (f : Nat → Nat) : Nat → Nat
  | 0 => 0
  | n + 1 => zq_zc f n + (if f n = 0 then 1 else 0)
theorem zq_zc_le (f : Nat → Nat) (n : Nat) : zq_zc f n ≤ n := by
  induction n with
  | zero => exact Nat.le_refl _
  | succ n ih => unfold zq_zc; split <;> omega
theorem zq_zc_0 {f : Nat → Nat} {n : Nat} (h : f n = 0) : zq_zc f (n + 1) = zq_zc f n + 1 := by
  show zq_zc f n + (if f n = 0 then 1 else 0) = _
  rw [if_pos h]
theorem zq_zc_1 {f : Nat → Nat} {n : Nat} (h : f n ≠ 0) : zq_zc f (n + 1) = zq_zc f n := by
  show zq_zc f n + (if f n = 0 then 1 else 0) = _
  rw [if_neg h]; rfl
def zq_pr (t : Nat) (f : Nat → Nat) : Nat → Nat
  | 0 => 1
  | n + 1 => zq_pr t f n * f n % t
theorem zq_pr_lt {t : Nat} (ht : 1 < t) (f : Nat → Nat) (n : Nat) : zq_pr t f n < t := by
  cases n with
  | zero => exact ht
  | succ n => exact Nat.mod_lt _ (by omega)
theorem zq_su_s (t : Nat) (f : Nat → Nat) (n : Nat) : (zq_ns n f % t + f n) % t = zq_ns (n + 1) f % t := by
  rw [zq_ns_s, Nat.mod_add_mod]
def zq_dv (f : Nat → Nat) : Nat → Nat
  | 0 => 0
  | n + 1 => zq_dv f n + (if ∀ k, k < n → f k ≠ f n then 1 else 0)
theorem zq_dv_le (f : Nat → Nat) (n : Nat) : zq_dv f n ≤ n := by
  induction n with
  | zero => exact Nat.le_refl _
  | succ n ih => unfold zq_dv; split <;> omega
theorem zq_dv_1 {f : Nat → Nat} {n : Nat} (h : ∀ k, k < n → f k ≠ f n) : zq_dv f (n + 1) = zq_dv f n + 1 := by
  show zq_dv f n + (if ∀ k, k < n → f k ≠ f n then 1 else 0) = _
  rw [if_pos h]
theorem zq_dv_0 {f : Nat → Nat} {n : Nat} (h : ¬ ∀ k, k < n → f k ≠ f n) : zq_dv f (n + 1) = zq_dv f n := by
  show zq_dv f n + (if ∀ k, k < n → f k ≠ f n then 1 else 0) = _
  rw [if_neg h]; rfl
/-- how many of the first n registers have no zero -/
def zq_un (V : Nat → Nat → Nat) (m : Nat) : Nat → Nat
  | 0 => 0
  | n + 1 => zq_un V m n + (if zq_zc (V n) m = 0 then 1 else 0)
theorem zq_un_le (V : Nat → Nat → Nat) (m n : Nat) : zq_un V m n ≤ n := by
  induction n with
  | zero => exact Nat.le_refl _
  | succ n ih => unfold zq_un; split <;> omega
theorem zq_b2 {a b t : Nat} (ha : a < t) (hb : b < t) (ht : t ≤ 193) : a * b < 2 ^ 31 :=
  Nat.lt_of_le_of_lt (Nat.mul_le_mul (show a ≤ 193 by omega) (show b ≤ 193 by omega)) (by decide)
/-- the number to a power, by squaring: odd and even exponent -/
theorem zq_sq1 (r s q t : Nat) : (r * s % t) * (s * s % t) ^ q % t = r * s ^ (2 * q + 1) % t := by
  have e : r * s ^ (2 * q + 1) = r * s * (s * s) ^ q := by
    rw [Nat.pow_succ, Nat.pow_mul, Nat.pow_two, Nat.mul_assoc, Nat.mul_comm ((s * s) ^ q)]
  rw [e, zq_mm, ← zq_mr, zq_pm, zq_mr]
theorem zq_sq0 (r s q t : Nat) : r * (s * s % t) ^ q % t = r * s ^ (2 * q) % t := by
  rw [← zq_mr, zq_pm, zq_mr, Nat.pow_mul, Nat.pow_two]
/-- yes or no, as a number -/
def zq_yn (c : Prop) [Decidable c] : Nat := if c then 1 else 0
theorem zq_yn_1 {c : Prop} [Decidable c] (h : c) : zq_yn c = 1 := if_pos h
theorem zq_yn_0 {c : Prop} [Decidable c] (h : ¬ c) : zq_yn c = 0 := if_neg h
theorem zq_yn_lt (c : Prop) [Decidable c] : zq_yn c < 2 := by unfold zq_yn; split <;> omega
