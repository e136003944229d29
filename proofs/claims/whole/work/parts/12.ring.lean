/-! products, changes of one coefficient or value, turns: what they do to the values; pure, my own -/
theorem zk_p_add {k : Nat} (hk : k < 4) (a b : Nat) : zk_p k (a + b) = zk_p k a * zk_p k b % zk_t k := by
  rw [zk_p_eq hk, zk_p_eq hk, zk_p_eq hk, Nat.pow_add, Nat.mul_mod]
theorem zk_A_add {k : Nat} (hk : k < 4) (i a b : Nat) : zk_A k i (a + b) = zk_A k i a * zk_A k i b % zk_t k := by
  unfold zk_A
  rw [Nat.mul_add, zk_p_add hk]
theorem zk_A_n {k : Nat} (hk : k < 4) {i : Nat} (hi : i < zk_n k) (j : Nat) : zk_A k i (zk_n k + j) = (zk_t k - 1) * zk_A k i j % zk_t k := by
  rw [zk_A_add hk]
  congr 2
  unfold zk_A
  rw [zk_p_eq hk, zk_half k hk i hi]
/-- the product's coefficient, in numbers from 0 on: -1 is t - 1 -/
def zq_tw (k : Nat) (f g : Nat → Nat) (j i : Nat) : Nat := if i ≤ j then f i * g (j - i) else (zk_t k - 1) * (f i * g (zk_n k + j - i))
def zq_tm (k : Nat) (f g : Nat → Nat) (j : Nat) : Nat := zq_ns (zk_n k) (zq_tw k f g j) % zk_t k
theorem zq_shift {k : Nat} (hk : k < 4) {i : Nat} (hi : i < zk_n k) (g : Nat → Nat) {m : Nat} (hm : m < zk_n k) :
    zq_ns (zk_n k) (fun j => (if m ≤ j then g (j - m) else (zk_t k - 1) * g (zk_n k + j - m)) * zk_A k i j) % zk_t k = zk_A k i m * zq_ns (zk_n k) (fun j => g j * zk_A k i j) % zk_t k := by
  have e1 : zk_n k = m + (zk_n k - m) := by omega
  have e2 : zk_n k = (zk_n k - m) + m := by omega
  have hL : zq_ns (zk_n k) (fun j => (if m ≤ j then g (j - m) else (zk_t k - 1) * g (zk_n k + j - m)) * zk_A k i j) = zq_ns m (fun j => ((zk_t k - 1) * g (zk_n k + j - m)) * zk_A k i j) + zq_ns (zk_n k - m) (fun j => g j * zk_A k i (m + j)) := by
    conv => lhs; rw [show zq_ns (zk_n k) = zq_ns (m + (zk_n k - m)) by rw [← e1]]
    rw [zq_ns_split]
    congr 1
    · exact zq_ns_congr (fun j hj => by rw [if_neg (by omega)])
    · exact zq_ns_congr (fun j hj => by rw [if_pos (by omega), Nat.add_sub_cancel_left])
  have hR : zq_ns (zk_n k) (fun j => g j * zk_A k i j) = zq_ns (zk_n k - m) (fun j => g j * zk_A k i j) + zq_ns m (fun j => g (zk_n k - m + j) * zk_A k i (zk_n k - m + j)) := by
    conv => lhs; rw [show zq_ns (zk_n k) = zq_ns ((zk_n k - m) + m) by rw [← e2]]
    rw [zq_ns_split]
  rw [hL, hR, Nat.mul_add, Nat.add_comm, Nat.add_mod, Nat.add_mod (zk_A k i m * _)]
  congr 2
  · rw [← zq_ns_mulL]
    refine zq_ns_mod (fun j hj => ?_)
    rw [zk_A_add hk, zq_mr]
    congr 1
    rw [Nat.mul_left_comm]
  · rw [← zq_ns_mulL]
    refine zq_ns_mod (fun j hj => ?_)
    have h1 : (zk_t k - 1) * zk_A k i j % zk_t k = zk_A k i m * zk_A k i (zk_n k - m + j) % zk_t k := by
      rw [← zk_A_n hk hi, ← zk_A_add hk]
      congr 1
      omega
    rw [show zk_n k + j - m = zk_n k - m + j by omega, Nat.mul_comm (zk_t k - 1), Nat.mul_assoc, ← zq_mr, h1, zq_mr, Nat.mul_left_comm]
/-- THE PRODUCT, VALUE BY VALUE -/
theorem zq_av_tm {k : Nat} (hk : k < 4) (f g : Nat → Nat) {i : Nat} (hi : i < zk_n k) : zq_av k (zq_tm k f g) i = zq_av k f i * zq_av k g i % zk_t k := by
  have h1 : zq_av k (zq_tm k f g) i = zq_ns (zk_n k) (fun j => zq_ns (zk_n k) (fun m => zq_tw k f g j m) * zk_A k i j) % zk_t k := by
    unfold zq_av zq_tm
    exact zq_ns_mod (fun j _ => zq_mm _ _ _)
  have h2 : zq_ns (zk_n k) (fun j => zq_ns (zk_n k) (fun m => zq_tw k f g j m) * zk_A k i j) = zq_ns (zk_n k) (fun m => f m * zq_ns (zk_n k) (fun j => (if m ≤ j then g (j - m) else (zk_t k - 1) * g (zk_n k + j - m)) * zk_A k i j)) := by
    rw [zq_ns_congr (fun j _ => (zq_ns_mulR (zk_n k) (zk_A k i j) (fun m => zq_tw k f g j m)).symm), zq_ns_swap]
    refine zq_ns_congr (fun m _ => ?_)
    rw [← zq_ns_mulL]
    refine zq_ns_congr (fun j _ => ?_)
    unfold zq_tw
    split
    · rw [Nat.mul_assoc]
    · rw [Nat.mul_left_comm, Nat.mul_assoc]
  rw [h1, h2]
  unfold zq_av
  rw [← Nat.mul_mod, ← zq_ns_mulR]
  refine zq_ns_mod (fun m hm => ?_)
  rw [← zq_mr, zq_shift hk hi g hm, zq_mr, Nat.mul_assoc]
/-- one coefficient more -/
theorem zq_ns_up {n j : Nat} (hj : j < n) (f : Nat → Nat) (v : Nat) (w : Nat → Nat) : zq_ns n (fun i => (if i = j then v else f i) * w i) + f j * w j = zq_ns n (fun i => f i * w i) + v * w j := by
  induction n with
  | zero => omega
  | succ n ih =>
    rw [zq_ns_s, zq_ns_s]
    by_cases h : n = j
    · subst h
      rw [if_pos rfl, zq_ns_congr (g := fun i => f i * w i) (fun i hi => by rw [if_neg (by omega)])]
      omega
    · rw [if_neg h]
      have := ih (by omega)
      omega
/-- one coefficient set: every value moves by the change times the point's power -/
theorem zq_av_set {k : Nat} (f : Nat → Nat) {j : Nat} (hj : j < zk_n k) (v i : Nat) :
    (zq_av k (fun m => if m = j then v else f m) i : Int) = ((zq_av k f i : Int) + ((v : Int) - (f j : Int)) * (zk_A k i j : Int)) % (zk_t k : Int) := by
  have h := zq_ns_up hj f v (fun m => zk_A k i m)
  show ((zq_ns (zk_n k) (fun m => (if m = j then v else f m) * zk_A k i m) % zk_t k : Nat) : Int) = (((zq_ns (zk_n k) (fun m => f m * zk_A k i m) % zk_t k : Nat) : Int) + ((v : Int) - (f j : Int)) * (zk_A k i j : Int)) % (zk_t k : Int)
  rw [Int.natCast_emod, Int.natCast_emod, Int.emod_add_emod]
  congr 1
  have h2 : ((zq_ns (zk_n k) (fun m => (if m = j then v else f m) * zk_A k i m) + f j * zk_A k i j : Nat) : Int) = ((zq_ns (zk_n k) (fun m => f m * zk_A k i m) + v * zk_A k i j : Nat) : Int) := by rw [h]
  rw [Int.natCast_add, Int.natCast_add, Int.natCast_mul, Int.natCast_mul] at h2
  rw [Int.sub_mul]
  omega
/-- one value set: what the reference adds to the coefficients -/
theorem zq_av_add {k : Nat} (hk : k < 4) (f : Nat → Nat) {i : Nat} (hi : i < zk_n k) (y : Nat) {g : Nat → Nat} (hg : ∀ m, m < zk_n k → g m % zk_t k = (f m + y * zk_i k * zk_B k i m) % zk_t k) {j : Nat} (hj : j < zk_n k) :
    zq_av k g j = (zq_av k f j + y * (if j = i then 1 else 0)) % zk_t k := by
  unfold zq_av
  rw [zq_ns_mod (g := fun m => f m * zk_A k j m + y * (zk_A k j m * zk_B k i m) * zk_i k) (fun m hm => ?_)]
  · rw [zq_ns_add, zq_ns_mulR, zq_ns_mulL, Nat.mul_assoc, Nat.mod_add_mod, ← Nat.add_mod_mod, ← zq_mr, zk_o1 k hk j hj i hi, Nat.add_mod_mod]
  · rw [Nat.mul_mod, hg m hm, ← Nat.mul_mod, Nat.add_mul]
    congr 2
    ac_rfl
/-- sums in another order -/
theorem zq_ns_list (n : Nat) (f : Nat → Nat) : zq_ns n f = ((List.range n).map f).sum := by
  induction n with
  | zero => rfl
  | succ n ih => rw [zq_ns_s, List.range_succ, List.map_append, List.sum_append_nat, ih]; simp
theorem zq_ns_perm {n : Nat} {q : Nat → Nat} (h : ((List.range n).map q).isPerm (List.range n) = true) (f : Nat → Nat) : zq_ns n f = zq_ns n (fun i => f (q i)) := by
  have hp := List.isPerm_iff.mp h
  have h2 := (hp.map f).sum_nat
  rw [zq_ns_list, zq_ns_list, ← h2, List.map_map]
  rfl
/-- the turn: where coefficient i goes, and the place whose value comes -/
def zk_q (k g i : Nat) : Nat := i * g % (2 * zk_n k) % zk_n k
def zk_d (k g i : Nat) : Nat := (2 * i + 1) * g % (2 * zk_n k) / 2
theorem zk_q_perm : ∀ k, k < 4 → ∀ g, g < 2 * zk_n k → g % 2 = 1 → ((List.range (zk_n k)).map (zk_q k g)).isPerm (List.range (zk_n k)) = true := by decide +kernel
theorem zk_d_in : ∀ k, k < 4 → ∀ g, g < 2 * zk_n k → g % 2 = 1 → ∀ i, i < zk_n k → zk_d k g i < zk_n k ∧ (2 * i + 1) * g % (2 * zk_n k) = 2 * zk_d k g i + 1 := by decide +kernel
theorem zk_p_mod {k : Nat} (e : Nat) : zk_p k (e % (2 * zk_n k)) = zk_p k e := by
  unfold zk_p
  rw [Nat.mod_mod]
/-- THE TURN, VALUE BY VALUE -/
theorem zq_av_turn {k : Nat} (hk : k < 4) {g : Nat} (hg : g < 2 * zk_n k) (ho : g % 2 = 1) {a b : Nat → Nat}
    (hb : ∀ m, m < zk_n k → b (zk_q k g m) % zk_t k = (if m * g % (2 * zk_n k) < zk_n k then a m else (zk_t k - 1) * a m) % zk_t k) {i : Nat} (hi : i < zk_n k) :
    zq_av k b i = zq_av k a (zk_d k g i) := by
  obtain ⟨h1, h2⟩ := zk_d_in k hk g hg ho i hi
  have hn := zk_b k hk
  unfold zq_av
  rw [zq_ns_perm (zk_q_perm k hk g hg ho)]
  refine zq_ns_mod (fun m hm => ?_)
  have e : zk_A k (zk_d k g i) m = zk_A k i (m * g % (2 * zk_n k)) := by
    unfold zk_A
    rw [← h2, ← zk_p_mod, ← zk_p_mod ((2 * i + 1) * (m * g % (2 * zk_n k)))]
    congr 1
    rw [Nat.mul_mod, Nat.mod_mod, ← Nat.mul_mod, Nat.mul_mod (2 * i + 1), Nat.mod_mod, ← Nat.mul_mod]
    congr 1
    ac_rfl
  rw [e, Nat.mul_mod, hb m hm]
  have hr : m * g % (2 * zk_n k) < 2 * zk_n k := Nat.mod_lt _ (by omega)
  show _ * (zk_A k i (m * g % (2 * zk_n k) % zk_n k) % zk_t k) % zk_t k = _
  generalize m * g % (2 * zk_n k) = r at hr ⊢
  by_cases h : r < zk_n k
  · rw [if_pos h, ← Nat.mul_mod, Nat.mod_eq_of_lt h]
  · rw [if_neg h, ← Nat.mul_mod]
    have e2 : r % zk_n k = r - zk_n k := by
      rw [Nat.mod_eq_sub_mod (by omega), Nat.mod_eq_of_lt (by omega)]
    have e3 : zk_A k i r = (zk_t k - 1) * zk_A k i (r - zk_n k) % zk_t k := by
      rw [← zk_A_n hk hi]
      congr 1
      omega
    rw [e2, e3, zq_mr]
    congr 1
    ac_rfl
/-- numbers modulo t: what is no zero has an inverse, and a square has its root below half -/
theorem zk_fermat : ∀ k, k < 4 → ∀ x, x < zk_t k → x ≠ 0 → x ^ (zk_t k - 1) % zk_t k = 1 := by decide +kernel
theorem zk_root0 : ∀ k, k < 4 → ∀ x, x < zk_t k → x * x % zk_t k = 0 → x = 0 := by decide +kernel
theorem zk_three : ∀ k, k < 4 → 3 ^ (zk_n k / 2) % (2 * zk_n k) = 1 := by decide +kernel
theorem zk_least : ∀ k, k < 4 → zk_z k ^ zk_n k % zk_t k = zk_t k - 1 ∧ ∀ y, y < zk_z k → 2 ≤ y → y ^ zk_n k % zk_t k ≠ zk_t k - 1 := by decide +kernel
theorem zk_inv : ∀ k, k < 4 → zk_n k ^ (zk_t k - 2) % zk_t k = zk_i k := by decide +kernel
