/-! what about(..) reckons in the reference; my own -/
/-- w is among the first i -/
def zq_is (f : Nat → Nat) (w : Nat) : Nat → Nat
  | 0 => 0
  | i + 1 => zq_is f w i + (if f i = w then 1 else 0) - zq_is f w i * (if f i = w then 1 else 0)
theorem zq_is_lt (f : Nat → Nat) (w i : Nat) : zq_is f w i < 2 := by
  induction i with
  | zero => show 0 < 2; decide
  | succ i ih =>
    show zq_is f w i + (if f i = w then 1 else 0) - zq_is f w i * (if f i = w then 1 else 0) < 2
    split
    · rw [Nat.mul_one]; omega
    · rw [Nat.mul_zero]; omega
theorem zq_is_1 {f : Nat → Nat} {w i : Nat} (h : f i = w) : zq_is f w (i + 1) = zq_is f w i + 1 - zq_is f w i * 1 := by
  show zq_is f w i + (if f i = w then 1 else 0) - zq_is f w i * (if f i = w then 1 else 0) = _
  rw [if_pos h]
theorem zq_is_0 {f : Nat → Nat} {w i : Nat} (h : f i ≠ w) : zq_is f w (i + 1) = zq_is f w i + 0 - zq_is f w i * 0 := by
  show zq_is f w i + (if f i = w then 1 else 0) - zq_is f w i * (if f i = w then 1 else 0) = _
  rw [if_neg h]
theorem zq_is_iff (f : Nat → Nat) (w i : Nat) : zq_is f w i = 0 ↔ ∀ j, j < i → f j ≠ w := by
  induction i with
  | zero => exact ⟨fun _ j hj => absurd hj (Nat.not_lt_zero _), fun _ => rfl⟩
  | succ i ih =>
    have h2 := zq_is_lt f w i
    by_cases h : f i = w
    · rw [zq_is_1 h]
      exact ⟨fun hh => by omega, fun hh => absurd h (hh i (Nat.lt_succ_self _))⟩
    · rw [zq_is_0 h, show zq_is f w i + 0 - zq_is f w i * 0 = zq_is f w i by omega, ih]
      refine ⟨fun hh j hj => ?_, fun hh j hj => hh j (by omega)⟩
      by_cases e : j = i
      · rw [e]; exact h
      · exact hh j (by omega)
/-- how many numbers below m are among the first n -/
def zq_dw (f : Nat → Nat) (n : Nat) : Nat → Nat
  | 0 => 0
  | m + 1 => zq_dw f n m + zq_is f m n
theorem zq_dw_0 (f : Nat → Nat) (m : Nat) : zq_dw f 0 m = 0 := by
  induction m with
  | zero => rfl
  | succ m ih => show zq_dw f 0 m + 0 = 0; rw [ih]
theorem zq_dw_s (f : Nat → Nat) (n m : Nat) : zq_dw f (n + 1) m = zq_dw f n m + (if f n < m ∧ zq_is f (f n) n = 0 then 1 else 0) := by
  induction m with
  | zero => rw [if_neg (fun h => absurd h.1 (Nat.not_lt_zero _))]; rfl
  | succ m ih =>
    show zq_dw f (n + 1) m + zq_is f m (n + 1) = zq_dw f n m + zq_is f m n + _
    rw [ih]
    have h2 := zq_is_lt f m n
    by_cases h : f n = m
    · rw [zq_is_1 h, if_neg (by omega), h]
      by_cases e : zq_is f m n = 0
      · rw [if_pos ⟨by omega, e⟩]; omega
      · rw [if_neg (fun q => e q.2)]; omega
    · rw [zq_is_0 h]
      by_cases e : f n < m ∧ zq_is f (f n) n = 0
      · rw [if_pos e, if_pos ⟨by omega, e.2⟩]; omega
      · rw [if_neg e, if_neg (fun q => e ⟨by omega, q.2⟩)]; omega
theorem zq_dw_le (f : Nat → Nat) (n m : Nat) : zq_dw f n m ≤ m := by
  induction m with
  | zero => exact Nat.le_refl _
  | succ m ih => have := zq_is_lt f m n; show zq_dw f n m + zq_is f m n ≤ m + 1; omega
/-- both ways count alike -/
theorem zq_dw_dv {f : Nat → Nat} {t : Nat} : ∀ n, (∀ i, i < n → f i < t) → zq_dw f n t = zq_dv f n := by
  intro n
  induction n with
  | zero => intro _; exact zq_dw_0 f t
  | succ n ih =>
    intro h
    rw [zq_dw_s, ih (fun i hi => h i (by omega))]
    by_cases e : ∀ k, k < n → f k ≠ f n
    · rw [zq_dv_1 e, if_pos ⟨h n (by omega), (zq_is_iff f (f n) n).mpr e⟩]
    · rw [zq_dv_0 e, if_neg (fun q => e ((zq_is_iff f (f n) n).mp q.2))]; rfl
/-- the first i are alike -/
def zq_sm (a b : Nat → Nat) : Nat → Nat
  | 0 => 1
  | i + 1 => zq_sm a b i * (if a i = b i then 1 else 0)
theorem zq_sm_lt (a b : Nat → Nat) (i : Nat) : zq_sm a b i < 2 := by
  induction i with
  | zero => show 1 < 2; decide
  | succ i ih =>
    show zq_sm a b i * (if a i = b i then 1 else 0) < 2
    split
    · omega
    · rw [Nat.mul_zero]; omega
theorem zq_sm_1 {a b : Nat → Nat} {i : Nat} (h : a i = b i) : zq_sm a b (i + 1) = zq_sm a b i * 1 := by
  show zq_sm a b i * (if a i = b i then 1 else 0) = _
  rw [if_pos h]
theorem zq_sm_0 {a b : Nat → Nat} {i : Nat} (h : a i ≠ b i) : zq_sm a b (i + 1) = zq_sm a b i * 0 := by
  show zq_sm a b i * (if a i = b i then 1 else 0) = _
  rw [if_neg h]
theorem zq_sm_iff (a b : Nat → Nat) (i : Nat) : zq_sm a b i = 1 ↔ ∀ j, j < i → a j = b j := by
  induction i with
  | zero => exact ⟨fun _ j hj => absurd hj (Nat.not_lt_zero _), fun _ => rfl⟩
  | succ i ih =>
    by_cases h : a i = b i
    · rw [zq_sm_1 h, Nat.mul_one, ih]
      refine ⟨fun hh j hj => ?_, fun hh j hj => hh j (by omega)⟩
      by_cases e : j = i
      · rw [e]; exact h
      · exact hh j (by omega)
    · rw [zq_sm_0 h, Nat.mul_zero]
      exact ⟨fun hh => by omega, fun hh => absurd (hh i (Nat.lt_succ_self _)) h⟩
theorem zq_sm_av {k : Nat} (hk : k < 4) {g : Nat} (hg : g < 2 * zk_n k) (ho : g % 2 = 1) {a b : Nat → Nat} (ha : ∀ j, j < zk_n k → a j < zk_t k)
    (hb : ∀ m, m < zk_n k → b (zk_q k g m) = zq_tn k g a m) : zq_sm a b (zk_n k) = 1 ↔ ∀ i, i < zk_n k → zq_av k a (zk_d k g i) = zq_av k a i := by
  rw [zq_sm_iff]
  constructor
  · intro h i hi
    rw [← zq_av_tn hk hg ho ha hb hi]
    exact (zq_av_congr h i).symm
  · intro h j hj
    exact zq_av_inj hk ha (fun j hj => zq_tn_lt hk hg ho ha hb hj) (fun i hi => by rw [zq_av_tn hk hg ho ha hb hi]; exact (h i hi).symm) hj
theorem zk_3o (n m : Nat) : 3 ^ m % (2 * n) % 2 = 1 := by
  rw [Nat.mod_mod_of_dvd _ ⟨n, rfl⟩, Nat.pow_mod, Nat.one_pow]
theorem zk_3s (n m : Nat) : 3 * (3 ^ m % (2 * n)) % (2 * n) = 3 ^ (m + 1) % (2 * n) := by
  rw [zq_mr, Nat.pow_succ, Nat.mul_comm]
