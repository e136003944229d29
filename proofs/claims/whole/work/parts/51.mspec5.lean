/-! odd and even, roots, the order; my own -/
theorem zi_and1 {x : Int} (h1 : -2147483648 ≤ x) (h2 : x < 2147483648) {o : Nat} (ho : x % 2 = (o : Int)) : zi_I x &&& nI 1 = nI o := by
  have h := Jvm.Kit.i32_mask (zi_I x) (nI 1) (k := 1) (by decide) (by decide)
  rw [← Int32.toInt_inj]
  refine h.trans ?_
  rw [zi_toInt h1 h2, nI_toInt (by omega)]
  exact ho
theorem zi_odd {g : Int} {n g1 : Nat} (hg : g % ((2 * n : Nat) : Int) = (g1 : Int)) (ho : g % 2 ≠ 0) : g1 % 2 = 1 := by
  have h := Int.emod_emod_of_dvd g (show (2 : Int) ∣ ((2 * n : Nat) : Int) from ⟨(n : Int), by omega⟩)
  rw [hg] at h
  omega
theorem zi_m2 {g : Int} {n g1 : Nat} (hn : 0 < n) (hg : g % ((2 * n : Nat) : Int) = (g1 : Int)) : g1 < 2 * n := by
  have h := Int.emod_lt_of_pos g (show (0 : Int) < ((2 * n : Nat) : Int) by omega)
  omega
/-- values of 0 -/
theorem zq_av_z {k : Nat} (hk : k < 4) {f : Nat → Nat} (h : ∀ j, j < zk_n k → f j = 0) (i : Nat) : zq_av k f i = 0 := by
  unfold zq_av
  rw [zq_ns_congr (g := fun _ => 0) (fun j hj => by rw [h j hj, Nat.zero_mul]), zq_ns_zero, Nat.zero_mod]
/-- one more place gets its root -/
theorem zq_rt_s {k : Nat} (hk : k < 4) {b u f : Nat → Nat} {i : Nat} (hi : i < zk_n k) (hf : f i < zk_t k) (hb : ∀ j, j < zk_n k → zq_av k b j = if j < i then f j else 0) (h : ∀ j, j < zk_n k → u j = (b j + f i * zk_i k % zk_t k * zk_B k i j) % zk_t k) {j : Nat} (hj : j < zk_n k) : zq_av k u j = if j < i + 1 then f j else 0 := by
  rw [zq_add_av hk hi h hj]
  by_cases e : j = i
  · rw [if_pos e, hb j hj, if_neg (by omega), if_pos (by omega), e, Nat.mul_one, Nat.zero_add, Nat.mod_eq_of_lt hf]
  · rw [if_neg e, Nat.mul_zero, Nat.add_zero, Nat.mod_eq_of_lt (zq_av_lt hk b j), hb j hj]
    by_cases e2 : j < i
    · rw [if_pos e2, if_pos (by omega)]
    · rw [if_neg e2, if_neg (by omega)]
theorem zq_on_av {k : Nat} (hk : k < 4) {b : Nat → Nat} (hb : ∀ j, j < zk_n k → b j < zk_t k) : zq_on b (zk_n k - 1) = 1 ↔ ∀ i, i < zk_n k → zq_av k b i = 1 := by
  have h9 := zk_b k hk
  rw [zq_on_iff]
  constructor
  · intro h i _
    rw [← zq_av_0 hk i]
    refine zq_av_congr (fun j hj => ?_) i
    by_cases e : j = 0
    · rw [e, if_pos rfl]; exact h.1
    · rw [if_neg e]; exact h.2 j (by omega) (by omega)
  · intro h
    have hj : ∀ j, j < zk_n k → b j = if j = 0 then 1 else 0 := fun j hj => zq_av_inj (g := fun j => if j = 0 then 1 else 0) hk hb (fun j _ => by show (if j = 0 then 1 else 0) < _; split <;> omega) (fun i hi => by rw [h i hi, zq_av_0 hk]) hj
    exact ⟨hj 0 (by omega), fun j h1 h2 => by rw [hj j (by omega), if_neg (by omega)]⟩
theorem zq_2p {m z : Nat} (h : z ≤ m) : 2 ^ (m - z) * 2 = 2 ^ (m + 1 - z) := by rw [← Nat.pow_succ]; congr 1; omega
