/-! a row written place by place; my own -/
def zq_ri (V : Nat → Nat → Nat) (to : Nat) (f : Nat → Nat) (i : Nat) (V1 : Nat → Nat → Nat) : Prop := (∀ r j, r ≠ to ∨ i ≤ j → V1 r j = V r j) ∧ ∀ j, j < i → V1 to j = f j
theorem zq_ri_0 (V : Nat → Nat → Nat) (to : Nat) (f : Nat → Nat) : zq_ri V to f 0 V := ⟨fun _ _ _ => rfl, fun _ h => absurd h (Nat.not_lt_zero _)⟩
theorem zq_ri_s {V V1 : Nat → Nat → Nat} {to i x : Nat} {f : Nat → Nat} (h : zq_ri V to f i V1) (hx : x = f i) : zq_ri V to f (i + 1) (zq_vp V1 to (zq_up (V1 to) i x)) := by
  refine ⟨fun r j hr => ?_, fun j hj => ?_⟩
  · by_cases e : r = to
    · subst e
      rw [zq_vp_s, zq_up_n _ _ (by omega)]
      exact h.1 r j (Or.inr (by omega))
    · rw [zq_vp_n _ _ e]
      exact h.1 r j (Or.inl e)
  · rw [zq_vp_s]
    by_cases e : j = i
    · subst e
      rw [zq_up_s, hx]
    · rw [zq_up_n _ _ e]
      exact h.2 j (by omega)
theorem zq_zc_congr {f g : Nat → Nat} {n : Nat} (h : ∀ i, i < n → f i = g i) : zq_zc f n = zq_zc g n := by
  induction n with
  | zero => rfl
  | succ n ih =>
    show zq_zc f n + (if f n = 0 then 1 else 0) = zq_zc g n + (if g n = 0 then 1 else 0)
    rw [ih (fun i hi => h i (Nat.lt_succ_of_lt hi)), h n (Nat.lt_succ_self n)]
theorem zi_tmod2 (g : Int) : g.tmod 2 = 0 ↔ g % 2 = 0 := by
  have h1 := Int.tmod_eq_emod (a := g) (b := 2)
  have h3 : ((2 : Int).natAbs : Int) = 2 := rfl
  split at h1 <;> omega
