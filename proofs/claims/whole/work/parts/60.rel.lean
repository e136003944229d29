/-! class and reference side by side: what both hold, and that their answers are one; my own -/
def zy_R (k : Nat) (P : Nat → Nat) (V : Nat → Nat → Nat) (F : Nat → Nat) : Prop :=
  (∀ j, j < 2 * zk_n k → P j = zk_z k ^ j % zk_t k) ∧ (∀ r i, r < 16 → i < zk_n k → V r i = zq_av k (zq_rw F r) i) ∧ ∀ r j, r < 16 → j < zk_n k → F (32 * r + j) < zk_t k
theorem zy_R.V {k : Nat} {P : Nat → Nat} {V : Nat → Nat → Nat} {F : Nat → Nat} (hk : k < 4) (h : zy_R k P V F) : ∀ r i, r < 16 → i < zk_n k → V r i < zk_t k := fun r i hr hi => by
  rw [h.2.1 r i hr hi]; exact zq_av_lt hk _ _
theorem zy_R.P {k : Nat} {P : Nat → Nat} {V : Nat → Nat → Nat} {F : Nat → Nat} (hk : k < 4) (h : zy_R k P V F) : ∀ j, j < 2 * zk_n k → P j < zk_t k := fun j hj => by
  rw [h.1 j hj]; exact Nat.mod_lt _ (by have := zk_b k hk; omega)
theorem zy_keep {k : Nat} {P P1 : Nat → Nat} {V V1 : Nat → Nat → Nat} {F F1 : Nat → Nat} (h : zy_R k P V F) (h1 : P1 = P ∧ V1 = V) (h2 : F1 = F) : zy_R k P1 V1 F1 := by
  obtain ⟨rfl, rfl⟩ := h1
  subst h2
  exact h
theorem zy_row {k : Nat} {P P1 : Nat → Nat} {V V1 : Nat → Nat → Nat} {F F1 : Nat → Nat} {x1 : Nat} {f w : Nat → Nat} (h : zy_R k P V F) (hx : x1 < 16) (h1 : P1 = P ∧ zq_ri V x1 f (zk_n k) V1) (h2 : zq_fr k F x1 w F1) (hw : ∀ i, i < zk_n k → f i = w i) : zy_R k P1 V1 F1 := by
  obtain ⟨rfl, h1⟩ := h1
  refine ⟨h.1, fun r i hr hi => ?_, fun r j hr hj => ?_⟩
  · by_cases e : r = x1
    · subst e
      rw [h1.2 i hi, hw i hi, h2.2.2 i hi]
    · rw [h1.1 r i (Or.inl e), h.2.1 r i hr hi]
      exact (zq_av_congr (fun j hj => h2.1 r e j hj) i).symm
  · by_cases e : r = x1
    · subst e
      exact h2.2.1 j hj
    · rw [h2.1 r e j hj]
      exact h.2.2 r j hr hj
theorem zq_ci_B {n : Nat} (hn : 0 < n) (i j : Nat) : zq_ci n i j = (2 * n - (2 * i + 1) * j % (2 * n)) % (2 * n) := by
  have h := (zq_ci_eq hn i j).1
  have hm : (2 * i + 1) * j % (2 * n) < 2 * n := Nat.mod_lt _ (by omega)
  have e1 : ((2 * i + 1 : Nat) : Int) * (-(j : Int)) = -(((2 * i + 1) * j % (2 * n) : Nat) : Int) + ((2 * n : Nat) : Int) * (-(((2 * i + 1) * j / (2 * n) : Nat) : Int)) := by
    have h9 : (((2 * i + 1) * j : Nat) : Int) = ((2 * n : Nat) : Int) * (((2 * i + 1) * j / (2 * n) : Nat) : Int) + (((2 * i + 1) * j % (2 * n) : Nat) : Int) := by
      rw [← Int.natCast_mul, ← Int.natCast_add, Nat.div_add_mod]
    rw [Int.mul_neg, Int.mul_neg, ← Int.natCast_mul, h9]
    omega
  rw [e1, Int.add_mul_emod_self_left, zi_ng hm] at h
  exact (Int.ofNat.inj h).symm
theorem zy_cc {k : Nat} (hk : k < 4) {P : Nat → Nat} {V : Nat → Nat → Nat} {F : Nat → Nat} (h : zy_R k P V F) {r j : Nat} (hr : r < 16) (hj : j < zk_n k) : zq_cc (zk_n k) (zk_t k) (zk_i k) P (V r) j = F (32 * r + j) := by
  have hb := zk_b k hk
  have h1 := zq_cf_av hk (f := zq_rw F r) (fun j hj => h.2.2 r j hr hj) hj
  rw [show F (32 * r + j) = zq_rw F r j from rfl, ← h1]
  unfold zq_cc zq_cf
  rw [zq_mm, zq_ns_congr (g := fun i => zq_av k (zq_rw F r) i * zk_B k i j) (fun i hi => ?_)]
  rw [h.2.1 r i hr hi, h.1 _ (zq_ci_eq (by omega) i j).2, zq_ci_B (by omega)]
  rfl
/-- set -/
theorem zy_set_fr {k : Nat} (hk : k < 4) {F F1 : Nat → Nat} {x1 x2 y : Nat} (hx1 : x1 < 16) (hx2 : x2 < zk_n k) (hy : y < zk_t k) (hF : ∀ r j, r < 16 → j < zk_n k → F (32 * r + j) < zk_t k) (h : F1 = zq_up F (32 * x1 + x2) y) : zq_fr k F x1 (zq_av k (fun m => if m = x2 then y else zq_rw F x1 m)) F1 := by
  have hb := zk_b k hk
  subst h
  refine ⟨fun r hr j hj => zq_up_n _ _ (by omega), fun j hj => ?_, fun i hi => zq_av_congr (fun j hj => ?_) i⟩
  · by_cases e : j = x2
    · rw [e, zq_up_s]; exact hy
    · rw [zq_up_n _ _ (by omega)]; exact hF x1 j hx1 hj
  · show zq_up F (32 * x1 + x2) y (32 * x1 + j) = if j = x2 then y else F (32 * x1 + j)
    by_cases e : j = x2
    · rw [e, zq_up_s, if_pos rfl]
    · rw [zq_up_n _ _ (by omega), if_neg e]
theorem zy_set {k : Nat} (hk : k < 4) {P : Nat → Nat} {V : Nat → Nat → Nat} {F : Nat → Nat} (h : zy_R k P V F) {x1 x2 y : Nat} (hx1 : x1 < 16) (hx2 : x2 < zk_n k) {i : Nat} (hi : i < zk_n k) : ((((V x1 i : Nat) : Int) + ((y : Int) - (zq_cc (zk_n k) (zk_t k) (zk_i k) P (V x1) x2 : Int)) * ((P ((2 * i + 1) * x2 % (2 * zk_n k)) : Nat) : Int)) % (zk_t k : Int)).toNat = zq_av k (fun m => if m = x2 then y else zq_rw F x1 m) i := by
  have hb := zk_b k hk
  have h1 := zq_av_set (k := k) (zq_rw F x1) hx2 y i
  have e1 : P ((2 * i + 1) * x2 % (2 * zk_n k)) = zk_A k i x2 := by
    rw [h.1 _ (Nat.mod_lt _ (by omega))]
    rfl
  rw [zy_cc hk h hx1 hx2, e1, h.2.1 x1 i hx1 hi]
  rw [show F (32 * x1 + x2) = zq_rw F x1 x2 from rfl, ← h1]
  rfl
/-- zeros -/
theorem zq_zc_iff {f : Nat → Nat} {n : Nat} : zq_zc f n = 0 ↔ ∀ i, i < n → f i ≠ 0 := by
  induction n with
  | zero => exact ⟨fun _ i hi => absurd hi (Nat.not_lt_zero _), fun _ => rfl⟩
  | succ n ih =>
    by_cases h : f n = 0
    · rw [zq_zc_0 h]
      exact ⟨fun hh => by omega, fun hh => absurd h (hh n (Nat.lt_succ_self _))⟩
    · rw [zq_zc_1 h, ih]
      refine ⟨fun hh i hi => ?_, fun hh i hi => hh i (by omega)⟩
      by_cases e : i = n
      · rw [e]; exact h
      · exact hh i (by omega)
theorem zq_zc_eq0 {f g : Nat → Nat} {n : Nat} (h : ∀ i, i < n → (f i = 0 ↔ g i = 0)) : zq_zc f n = zq_zc g n := by
  induction n with
  | zero => rfl
  | succ n ih =>
    have ih := ih (fun i hi => h i (by omega))
    by_cases e : f n = 0
    · rw [zq_zc_0 e, zq_zc_0 ((h n (Nat.lt_succ_self _)).mp e), ih]
    · rw [zq_zc_1 e, zq_zc_1 (fun q => e ((h n (Nat.lt_succ_self _)).mpr q)), ih]
theorem zq_pr_congr {t : Nat} {f g : Nat → Nat} {n : Nat} (h : ∀ i, i < n → f i = g i) : zq_pr t f n = zq_pr t g n := by
  induction n with
  | zero => rfl
  | succ n ih => show zq_pr t f n * f n % t = zq_pr t g n * g n % t; rw [ih (fun i hi => h i (by omega)), h n (Nat.lt_succ_self _)]
theorem zq_dv_congr {f g : Nat → Nat} {n : Nat} (h : ∀ i, i < n → f i = g i) : zq_dv f n = zq_dv g n := by
  induction n with
  | zero => rfl
  | succ n ih =>
    have ih := ih (fun i hi => h i (by omega))
    by_cases e : ∀ k, k < n → f k ≠ f n
    · rw [zq_dv_1 e, zq_dv_1 (fun k hk => by rw [← h k (by omega), ← h n (Nat.lt_succ_self _)]; exact e k hk), ih]
    · rw [zq_dv_0 e, zq_dv_0 (fun q => e (fun k hk => by rw [h k (by omega), h n (Nat.lt_succ_self _)]; exact q k hk)), ih]
theorem zq_un_congr {V W : Nat → Nat → Nat} {m n : Nat} (h : ∀ r i, r < n → i < m → V r i = W r i) : zq_un V m n = zq_un W m n := by
  induction n with
  | zero => rfl
  | succ n ih =>
    show zq_un V m n + (if zq_zc (V n) m = 0 then 1 else 0) = zq_un W m n + (if zq_zc (W n) m = 0 then 1 else 0)
    rw [ih (fun r i hr hi => h r i (by omega) hi), zq_zc_congr (fun i hi => h n i (Nat.lt_succ_self _) hi)]
theorem zq_yn_iff {c d : Prop} [Decidable c] [Decidable d] (h : c ↔ d) : zq_yn c = zq_yn d := by
  by_cases e : c
  · rw [zq_yn_1 e, zq_yn_1 (h.mp e)]
  · rw [zq_yn_0 e, zq_yn_0 (fun q => e (h.mpr q))]
/-- powers below 0 -/
theorem zk_pw {k : Nat} (hk : k < 4) {x : Nat} (hx : x < zk_t k) (h0 : x ≠ 0) (m : Nat) : x ^ m % zk_t k = x ^ (m % (zk_t k - 1)) % zk_t k := by
  have hf := zk_fermat k hk x hx h0
  have e1 : x ^ m = (x ^ (zk_t k - 1)) ^ (m / (zk_t k - 1)) * x ^ (m % (zk_t k - 1)) := by
    rw [← Nat.pow_mul, ← Nat.pow_add, Nat.div_add_mod]
  rw [e1, ← zq_mm, ← zq_pm, hf, Nat.one_pow, zq_mm, Nat.one_mul]
theorem zk_neg {k : Nat} (hk : k < 4) {x : Nat} (hx : x < zk_t k) (h0 : x ≠ 0) {e1 ex : Nat} (h : (-((e1 : Nat) : Int)) % ((zk_t k - 1 : Nat) : Int) = (ex : Int)) : x ^ ex % zk_t k = (x ^ (zk_t k - 2) % zk_t k) ^ e1 % zk_t k := by
  have hb := zk_b k hk
  rw [zq_pm, ← Nat.pow_mul, zk_pw hk hx h0 ((zk_t k - 2) * e1)]
  have h1 : (((zk_t k - 2) * e1 % (zk_t k - 1) : Nat) : Int) = (ex : Int) := by
    rw [← h, Int.natCast_emod, Int.natCast_mul, show ((zk_t k - 2 : Nat) : Int) = ((zk_t k - 1 : Nat) : Int) - 1 by omega, Int.sub_mul, Int.one_mul, show ((zk_t k - 1 : Nat) : Int) * (e1 : Int) - (e1 : Int) = -(e1 : Int) + ((zk_t k - 1 : Nat) : Int) * (e1 : Int) by omega, Int.add_mul_emod_self_left]
  rw [show (zk_t k - 2) * e1 % (zk_t k - 1) = ex by omega]
/-- the first that fails -/
theorem zq_first (p : Nat → Prop) (n : Nat) : (∀ i, i < n → p i) ∨ ∃ i1, i1 < n ∧ (∀ i, i < i1 → p i) ∧ ¬ p i1 := by
  induction n with
  | zero => exact Or.inl (fun i hi => absurd hi (Nat.not_lt_zero _))
  | succ n ih =>
    rcases ih with h | ⟨i1, h1, h2, h3⟩
    · by_cases e : p n
      · refine Or.inl (fun i hi => ?_)
        by_cases e2 : i = n
        · rw [e2]; exact e
        · exact h i (by omega)
      · exact Or.inr ⟨n, by omega, h, e⟩
    · exact Or.inr ⟨i1, by omega, h2, h3⟩
/-- the least -/
theorem zq_least {p : Nat → Prop} {n : Nat} (h : p n) : ∃ m, m ≤ n ∧ p m ∧ ∀ i, i < m → ¬ p i := by
  rcases zq_first (fun i => ¬ p i) (n + 1) with h1 | ⟨i1, h1, h2, h3⟩
  · exact absurd h (h1 n (Nat.lt_succ_self _))
  · exact ⟨i1, by omega, Classical.not_not.mp h3, h2⟩
theorem zk_half2 : ∀ k, k < 4 → ∀ y, y < zk_t k → (zk_t k - y) * (zk_t k - y) % zk_t k = y * y % zk_t k := by decide +kernel
theorem zk_rt {k : Nat} (hk : k < 4) {v y0 : Nat} (hy : y0 < zk_t k ∧ y0 * y0 % zk_t k = v) : ∃ f, f < zk_t k ∧ f ≤ zk_t k / 2 ∧ f * f % zk_t k = v ∧ ∀ y, y < f → y * y % zk_t k ≠ v := by
  obtain ⟨m, h1, h2, h3⟩ := zq_least (p := fun y => y * y % zk_t k = v) hy.2
  refine ⟨m, by omega, ?_, h2, h3⟩
  refine Decidable.byContradiction (fun hh => ?_)
  exact h3 (zk_t k - m) (by omega) ((zk_half2 k hk m (by omega)).trans h2)
theorem zk_d1 : ∀ k, k < 4 → ∀ i, i < zk_n k → zk_d k 1 i = i := by decide +kernel
/-- the turns by three: some number up to n / 2 of them brings all back -/
theorem zk_back {k : Nat} (hk : k < 4) (f : Nat → Nat) : ∃ m0, 1 ≤ m0 ∧ m0 ≤ zk_n k ∧ (∀ j, 1 ≤ j → j < m0 → ¬ (∀ i, i < zk_n k → f (zk_d k (3 ^ j % (2 * zk_n k)) i) = f i)) ∧ ∀ i, i < zk_n k → f (zk_d k (3 ^ m0 % (2 * zk_n k)) i) = f i := by
  have hb := zk_b k hk
  obtain ⟨m, h1, h2, h3⟩ := zq_least (p := fun m => 1 ≤ m ∧ ∀ i, i < zk_n k → f (zk_d k (3 ^ m % (2 * zk_n k)) i) = f i) (n := zk_n k / 2) ⟨by omega, fun i hi => by rw [zk_three k hk, zk_d1 k hk i hi]⟩
  exact ⟨m, h2.1, by omega, fun j hj hjm hh => h3 j hjm ⟨hj, hh⟩, h2.2⟩
theorem zk_ord {k : Nat} (hk : k < 4) {f : Nat → Nat} (hf : ∀ i, i < zk_n k → f i < zk_t k) (h0 : ∀ i, i < zk_n k → f i ≠ 0) : ∃ m0, 1 ≤ m0 ∧ m0 ≤ zk_t k - 1 ∧ (∀ j, 1 ≤ j → j < m0 → ¬ (∀ i, i < zk_n k → f i ^ j % zk_t k = 1)) ∧ ∀ i, i < zk_n k → f i ^ m0 % zk_t k = 1 := by
  have hb := zk_b k hk
  obtain ⟨m, h1, h2, h3⟩ := zq_least (p := fun m => 1 ≤ m ∧ ∀ i, i < zk_n k → f i ^ m % zk_t k = 1) (n := zk_t k - 1) ⟨by omega, fun i hi => zk_fermat k hk (f i) (hf i hi) (h0 i hi)⟩
  exact ⟨m, h2.1, h1, fun j hj hjm hh => h3 j hjm ⟨hj, hh⟩, h2.2⟩
theorem zq_deg (f : Nat → Nat) (n : Nat) : ∃ d0, d0 ≤ n ∧ (∀ j, d0 ≤ j → j < n → f j = 0) ∧ (d0 = 0 ∨ f (d0 - 1) ≠ 0) := by
  obtain ⟨m, h1, h2, h3⟩ := zq_least (p := fun d => ∀ j, d ≤ j → j < n → f j = 0) (n := n) (fun j h1 h2 => by omega)
  refine ⟨m, h1, h2, ?_⟩
  by_cases e : m = 0
  · exact Or.inl e
  · refine Or.inr (fun hz => h3 (m - 1) (by omega) (fun j hj hjn => ?_))
    by_cases e2 : j = m - 1
    · rw [e2]; exact hz
    · exact h2 j (by omega) hjn
/-- ints -/
theorem zi_rng (x : Int32) (n : Nat) (hn : n < 2 ^ 31) : (x < 0 ∨ nI n ≤ x) ∨ ∃ j, j < n ∧ x = nI j := by
  by_cases h : x < 0
  · exact Or.inl (Or.inl h)
  · obtain ⟨j, hj, rfl⟩ := nI_of h
    by_cases h2 : n ≤ j
    · exact Or.inl (Or.inr ((nI_leI hn hj).mpr h2))
    · exact Or.inr ⟨j, by omega, rfl⟩
