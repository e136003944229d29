/-! more of what the loops reckon, rows with numbers below 0; my own -/
theorem zq_yn_z {c : Prop} [Decidable c] (h : zq_yn c = 0) : ¬ c := fun q => by rw [zq_yn_1 q] at h; cases h
theorem zq_yn_o {c : Prop} [Decidable c] (h : zq_yn c ≠ 0) : c := Decidable.byContradiction fun q => h (zq_yn_0 q)
theorem zq_yn_b {c : Prop} [Decidable c] : zq_yn c < 2 ^ 31 := Nat.lt_trans (zq_yn_lt c) (by decide)
theorem zq_bb {a b : Nat} (ha : a ≤ 40000) (hb : b ≤ 40000) : a * b < 2 ^ 31 :=
  Nat.lt_of_le_of_lt (Nat.mul_le_mul ha hb) (by decide)
theorem zq_b4 {a b t : Nat} (ha : a < t) (hb : b < t) (ht : t ≤ 193) : a * b ≤ 37249 :=
  Nat.mul_le_mul (show a ≤ 193 by omega) (show b ≤ 193 by omega)
theorem zq_ml {x t : Nat} (h0 : 0 < t) (ht : t ≤ 193) : x % t < 2 ^ 31 := Nat.lt_of_lt_of_le (Nat.mod_lt x h0) (by omega)
theorem zi_bd {x : Nat} {e : Int} (hx : x ≤ 1000) (h1 : -1000 ≤ e) (h2 : e ≤ 1000) : -2147483648 ≤ (x : Int) * e ∧ (x : Int) * e < 2147483648 := by
  have h0 : (0 : Int) ≤ (x : Int) := by omega
  have a1 := Int.mul_le_mul_of_nonneg_left h2 h0
  have a2 := Int.mul_le_mul_of_nonneg_left h1 h0
  constructor <;> omega
/-- the place of the power of z that a coefficient's reckoning takes -/
def zq_ci (n i k : Nat) : Nat := (((2 * i + 1 : Nat) : Int) * (-(k : Int)) % ((2 * n : Nat) : Int)).toNat
theorem zq_ci_eq {n : Nat} (hn : 0 < n) (i k : Nat) : ((2 * i + 1 : Nat) : Int) * (-(k : Int)) % ((2 * n : Nat) : Int) = (zq_ci n i k : Int) ∧ zq_ci n i k < 2 * n := by
  have h1 := Int.emod_nonneg (((2 * i + 1 : Nat) : Int) * (-(k : Int))) (show ((2 * n : Nat) : Int) ≠ 0 by omega)
  have h2 := Int.emod_lt_of_pos (((2 * i + 1 : Nat) : Int) * (-(k : Int))) (show (0 : Int) < ((2 * n : Nat) : Int) by omega)
  unfold zq_ci
  constructor <;> omega
def zq_cc (n t v : Nat) (P G : Nat → Nat) (k : Nat) : Nat := zq_ns n (fun i => G i * P (zq_ci n i k)) % t * v % t
def zq_td (n g i : Nat) : Nat := (2 * i + 1) * g % (2 * n) / 2
theorem zq_td_lt {n : Nat} (hn : 0 < n) (g i : Nat) : zq_td n g i < n := by
  unfold zq_td
  have h := Nat.mod_lt ((2 * i + 1) * g) (show 0 < 2 * n by omega)
  omega
def zq_j (t op a b : Nat) : Nat := match op with
  | 0 => (a + b) % t
  | 1 => (a + t - b) % t
  | 2 => a * b % t
  | _ => a * (b ^ (t - 2) % t) % t
section ZZ
variable {p : Program} {l : Launch} {e : Env} {R : Room} {s : State} {m : MethodId} {args : Array Value} {below : List Frame} {meth : Method} {c : Code} {H : Heap} {locs : List Loc} {cells slots : Nat} {Q : State → Prop}
variable {cc : ByteArray} {pc : Nat} {ls : Array Slot} {rest : List Value}
theorem zr_imulNZ (hexec : p.tables.exec = Jvm.exec) (hb : c.code = cc) {x : Nat} {y : Int} (hdg : decode cc pc = .ok (.imul, 1))
    (k : W p l e R s m args below meth c H locs cells slots Q (F0 m (pc + 1) ls (.int (zi_I ((x : Int) * y)) :: rest))) : W p l e R s m args below meth c H locs cells slots Q (F0 m pc ls (.int (zi_I y) :: .int (nI x) :: rest)) := by
  refine lv_imul hexec hb hdg ?_
  rw [zi_nI, zi_mul]
  exact k
theorem zr_imulZN (hexec : p.tables.exec = Jvm.exec) (hb : c.code = cc) {x : Int} {y : Nat} (hdg : decode cc pc = .ok (.imul, 1))
    (k : W p l e R s m args below meth c H locs cells slots Q (F0 m (pc + 1) ls (.int (zi_I (x * (y : Int))) :: rest))) : W p l e R s m args below meth c H locs cells slots Q (F0 m pc ls (.int (nI y) :: .int (zi_I x) :: rest)) := by
  refine lv_imul hexec hb hdg ?_
  rw [zi_nI, zi_mul]
  exact k
theorem zr_iaddNZ (hexec : p.tables.exec = Jvm.exec) (hb : c.code = cc) {x : Nat} {y : Int} (hdg : decode cc pc = .ok (.iadd, 1))
    (k : W p l e R s m args below meth c H locs cells slots Q (F0 m (pc + 1) ls (.int (zi_I ((x : Int) + y)) :: rest))) : W p l e R s m args below meth c H locs cells slots Q (F0 m pc ls (.int (zi_I y) :: .int (nI x) :: rest)) := by
  refine lv_iadd hexec hb hdg ?_
  rw [zi_nI, zi_add]
  exact k
theorem zr_iaddZN (hexec : p.tables.exec = Jvm.exec) (hb : c.code = cc) {x : Int} {y : Nat} (hdg : decode cc pc = .ok (.iadd, 1))
    (k : W p l e R s m args below meth c H locs cells slots Q (F0 m (pc + 1) ls (.int (zi_I (x + (y : Int))) :: rest))) : W p l e R s m args below meth c H locs cells slots Q (F0 m pc ls (.int (nI y) :: .int (zi_I x) :: rest)) := by
  refine lv_iadd hexec hb hdg ?_
  rw [zi_nI, zi_add]
  exact k
theorem zr_isubZ (hexec : p.tables.exec = Jvm.exec) (hb : c.code = cc) {x y : Nat} (hdg : decode cc pc = .ok (.isub, 1))
    (k : W p l e R s m args below meth c H locs cells slots Q (F0 m (pc + 1) ls (.int (zi_I ((x : Int) - (y : Int))) :: rest))) : W p l e R s m args below meth c H locs cells slots Q (F0 m pc ls (.int (nI y) :: .int (nI x) :: rest)) := by
  refine lv_isub hexec hb hdg ?_
  rw [zi_nI, zi_nI, zi_sub]
  exact k
theorem zr_inegN (hexec : p.tables.exec = Jvm.exec) (hb : c.code = cc) {x : Nat} (hdg : decode cc pc = .ok (.ineg, 1))
    (k : W p l e R s m args below meth c H locs cells slots Q (F0 m (pc + 1) ls (.int (zi_I (-(x : Int))) :: rest))) : W p l e R s m args below meth c H locs cells slots Q (F0 m pc ls (.int (nI x) :: rest)) := by
  refine lv_ineg hexec hb hdg ?_
  rw [zi_nI, zi_neg]
  exact k
end ZZ
