/-! the kinds, sums of numbers, and the two ways to tell a polynomial; pure, my own -/
def zk_n (k : Nat) : Nat := match k with | 0 => 4 | 1 => 8 | 2 => 16 | _ => 32
def zk_t (k : Nat) : Nat := match k with | 0 => 17 | 1 => 17 | 2 => 97 | _ => 193
def zk_z (k : Nat) : Nat := match k with | 0 => 2 | 1 => 3 | 2 => 19 | _ => 11
def zk_i (k : Nat) : Nat := match k with | 0 => 13 | 1 => 15 | 2 => 91 | _ => 187
theorem zk_b : ∀ k, k < 4 → 4 ≤ zk_n k ∧ zk_n k ≤ 32 ∧ 17 ≤ zk_t k ∧ zk_t k ≤ 193 ∧ 2 ≤ zk_z k ∧ zk_z k < zk_t k ∧ zk_i k < zk_t k ∧ zk_n k < zk_t k := by decide
def zq_ns : Nat → (Nat → Nat) → Nat
  | 0, _ => 0
  | n + 1, f => zq_ns n f + f n
theorem zq_ns_s (n : Nat) (f : Nat → Nat) : zq_ns (n + 1) f = zq_ns n f + f n := rfl
theorem zq_ns_congr {n : Nat} {f g : Nat → Nat} (h : ∀ i, i < n → f i = g i) : zq_ns n f = zq_ns n g := by
  induction n with
  | zero => rfl
  | succ n ih => rw [zq_ns_s, zq_ns_s, ih (fun i hi => h i (Nat.lt_succ_of_lt hi)), h n (Nat.lt_succ_self n)]
theorem zq_ns_zero (n : Nat) : zq_ns n (fun _ => 0) = 0 := by
  induction n with
  | zero => rfl
  | succ n ih => rw [zq_ns_s, ih]
theorem zq_ns_add (n : Nat) (f g : Nat → Nat) : zq_ns n (fun i => f i + g i) = zq_ns n f + zq_ns n g := by
  induction n with
  | zero => rfl
  | succ n ih => rw [zq_ns_s, zq_ns_s, zq_ns_s, ih]; omega
theorem zq_ns_mulL (n c : Nat) (f : Nat → Nat) : zq_ns n (fun i => c * f i) = c * zq_ns n f := by
  induction n with
  | zero => simp [zq_ns]
  | succ n ih => rw [zq_ns_s, zq_ns_s, ih, Nat.mul_add]
theorem zq_ns_mulR (n c : Nat) (f : Nat → Nat) : zq_ns n (fun i => f i * c) = zq_ns n f * c := by
  induction n with
  | zero => simp [zq_ns]
  | succ n ih => rw [zq_ns_s, zq_ns_s, ih, Nat.add_mul]
theorem zq_ns_swap (n m : Nat) (f : Nat → Nat → Nat) : zq_ns n (fun i => zq_ns m (fun j => f i j)) = zq_ns m (fun j => zq_ns n (fun i => f i j)) := by
  induction n with
  | zero => exact (zq_ns_zero m).symm
  | succ n ih => rw [zq_ns_s, ih, ← zq_ns_add]; rfl
theorem zq_ns_split (a b : Nat) (f : Nat → Nat) : zq_ns (a + b) f = zq_ns a f + zq_ns b (fun i => f (a + i)) := by
  induction b with
  | zero => rfl
  | succ b ih => rw [← Nat.add_assoc, zq_ns_s, zq_ns_s, ih, Nat.add_assoc]
theorem zq_ns_mod {n t : Nat} {f g : Nat → Nat} (h : ∀ i, i < n → f i % t = g i % t) : zq_ns n f % t = zq_ns n g % t := by
  induction n with
  | zero => rfl
  | succ n ih => rw [zq_ns_s, zq_ns_s, Nat.add_mod, ih (fun i hi => h i (Nat.lt_succ_of_lt hi)), h n (Nat.lt_succ_self n), ← Nat.add_mod]
theorem zq_ns_one {n j : Nat} (hj : j < n) (f : Nat → Nat) : zq_ns n (fun i => f i * (if i = j then 1 else 0)) = f j := by
  induction n with
  | zero => omega
  | succ n ih =>
    rw [zq_ns_s]
    by_cases h : n = j
    · subst h
      have h0 : zq_ns n (fun i => f i * (if i = n then 1 else 0)) = 0 := by
        rw [zq_ns_congr (g := fun _ => 0) (fun i hi => by rw [if_neg (by omega), Nat.mul_zero]), zq_ns_zero]
      rw [h0, if_pos rfl, Nat.mul_one, Nat.zero_add]
    · rw [ih (by omega), if_neg h, Nat.mul_zero, Nat.add_zero]
theorem zq_mm (a b t : Nat) : (a % t) * b % t = a * b % t := by rw [Nat.mul_mod, Nat.mod_mod, ← Nat.mul_mod]
theorem zq_mr (a b t : Nat) : a * (b % t) % t = a * b % t := by rw [Nat.mul_mod, Nat.mod_mod, ← Nat.mul_mod]
theorem zq_pm (a e t : Nat) : (a % t) ^ e % t = a ^ e % t := (Nat.pow_mod a e t).symm
/-- powers of z -/
def zk_p (k e : Nat) : Nat := zk_z k ^ (e % (2 * zk_n k)) % zk_t k
def zk_A (k i j : Nat) : Nat := zk_p k ((2 * i + 1) * j)
def zk_B (k i j : Nat) : Nat := zk_p k (2 * zk_n k - (2 * i + 1) * j % (2 * zk_n k))
theorem zk_full : ∀ k, k < 4 → zk_z k ^ (2 * zk_n k) % zk_t k = 1 := by decide +kernel
theorem zk_half : ∀ k, k < 4 → ∀ i, i < zk_n k → zk_z k ^ ((2 * i + 1) * zk_n k) % zk_t k = zk_t k - 1 := by decide +kernel
theorem zk_o1 : ∀ k, k < 4 → ∀ i, i < zk_n k → ∀ i2, i2 < zk_n k → zq_ns (zk_n k) (fun j => zk_A k i j * zk_B k i2 j) * zk_i k % zk_t k = if i = i2 then 1 else 0 := by decide +kernel
theorem zk_o2 : ∀ k, k < 4 → ∀ j, j < zk_n k → ∀ j2, j2 < zk_n k → zq_ns (zk_n k) (fun i => zk_A k i j * zk_B k i j2) * zk_i k % zk_t k = if j = j2 then 1 else 0 := by decide +kernel
theorem zk_p_eq {k : Nat} (hk : k < 4) (e : Nat) : zk_p k e = zk_z k ^ e % zk_t k := by
  have h := Nat.div_add_mod e (2 * zk_n k)
  have hf := zk_full k hk
  have e1 : zk_z k ^ e = (zk_z k ^ (2 * zk_n k)) ^ (e / (2 * zk_n k)) * zk_z k ^ (e % (2 * zk_n k)) := by
    rw [← Nat.pow_mul, ← Nat.pow_add, h]
  have e2 : (zk_z k ^ (2 * zk_n k)) ^ (e / (2 * zk_n k)) % zk_t k = 1 % zk_t k := by
    rw [← zq_pm, hf, Nat.one_pow]
  unfold zk_p
  rw [e1, ← zq_mm, e2, zq_mm, Nat.one_mul]
/-- what a polynomial is at place i; the coefficient out of the values -/
def zq_av (k : Nat) (f : Nat → Nat) (i : Nat) : Nat := zq_ns (zk_n k) (fun j => f j * zk_A k i j) % zk_t k
def zq_cf (k : Nat) (v : Nat → Nat) (j : Nat) : Nat := zq_ns (zk_n k) (fun i => v i * zk_B k i j) * zk_i k % zk_t k
theorem zq_cf_av {k : Nat} (hk : k < 4) {f : Nat → Nat} (hf : ∀ j, j < zk_n k → f j < zk_t k) {j : Nat} (hj : j < zk_n k) : zq_cf k (zq_av k f) j = f j := by
  unfold zq_cf zq_av
  have h1 : zq_ns (zk_n k) (fun i => zq_ns (zk_n k) (fun j => f j * zk_A k i j) % zk_t k * zk_B k i j) % zk_t k = zq_ns (zk_n k) (fun m => f m * zq_ns (zk_n k) (fun i => zk_A k i m * zk_B k i j)) % zk_t k := by
    rw [zq_ns_mod (g := fun i => zq_ns (zk_n k) (fun m => f m * (zk_A k i m * zk_B k i j))) (fun i _ => ?_)]
    · rw [zq_ns_swap]
      congr 1
      exact zq_ns_congr (fun m _ => zq_ns_mulL _ _ _)
    · rw [zq_mm, ← zq_ns_mulR]
      congr 1
      exact zq_ns_congr (fun m _ => Nat.mul_assoc _ _ _)
  rw [Nat.mul_mod, h1, ← Nat.mul_mod, ← zq_ns_mulR]
  rw [zq_ns_mod (g := fun m => f m * (if m = j then 1 else 0)) (fun m hm => ?_)]
  · rw [zq_ns_one hj]
    exact Nat.mod_eq_of_lt (hf j hj)
  · rw [Nat.mul_assoc, ← zq_mr, zk_o2 k hk m hm j hj]
theorem zq_av_cf {k : Nat} (hk : k < 4) {v : Nat → Nat} (hv : ∀ i, i < zk_n k → v i < zk_t k) {i : Nat} (hi : i < zk_n k) : zq_av k (zq_cf k v) i = v i := by
  unfold zq_cf zq_av
  rw [zq_ns_mod (g := fun j => zq_ns (zk_n k) (fun m => v m * (zk_A k i j * zk_B k m j)) * zk_i k) (fun j _ => ?_)]
  · rw [zq_ns_mulR, zq_ns_swap, ← zq_ns_mulR]
    rw [zq_ns_mod (g := fun m => v m * (if m = i then 1 else 0)) (fun m hm => ?_)]
    · rw [zq_ns_one hi]
      exact Nat.mod_eq_of_lt (hv i hi)
    · rw [zq_ns_mulL, Nat.mul_assoc, ← zq_mr, zk_o1 k hk i hi m hm]
      by_cases h : i = m
      · rw [if_pos h, if_pos h.symm]
      · rw [if_neg h, if_neg (fun q => h q.symm)]
  · rw [zq_mm, Nat.mul_assoc, Nat.mul_comm (zk_i k), ← Nat.mul_assoc, ← zq_ns_mulR]
    congr 2
    refine zq_ns_congr (fun m _ => ?_)
    rw [Nat.mul_assoc, Nat.mul_comm (zk_B k m j)]
theorem zq_av_lt {k : Nat} (hk : k < 4) (f : Nat → Nat) (i : Nat) : zq_av k f i < zk_t k := Nat.mod_lt _ (by have := zk_b k hk; omega)
theorem zq_cf_lt {k : Nat} (hk : k < 4) (f : Nat → Nat) (i : Nat) : zq_cf k f i < zk_t k := Nat.mod_lt _ (by have := zk_b k hk; omega)
theorem zq_av_congr {k : Nat} {f g : Nat → Nat} (h : ∀ j, j < zk_n k → f j = g j) (i : Nat) : zq_av k f i = zq_av k g i := by
  unfold zq_av
  rw [zq_ns_congr (fun j hj => by rw [h j hj])]
theorem zq_av_inj {k : Nat} (hk : k < 4) {f g : Nat → Nat} (hf : ∀ j, j < zk_n k → f j < zk_t k) (hg : ∀ j, j < zk_n k → g j < zk_t k) (h : ∀ i, i < zk_n k → zq_av k f i = zq_av k g i) {j : Nat} (hj : j < zk_n k) : f j = g j := by
  rw [← zq_cf_av hk hf hj, ← zq_cf_av hk hg hj]
  unfold zq_cf
  rw [zq_ns_congr (fun i hi => by rw [h i hi])]
