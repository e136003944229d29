/-! the reference's reckonings, and rows with longs; my own -/
theorem zq_rs (v e t : Nat) : v ^ e % t * v % t = v ^ (e + 1) % t := by rw [zq_mm, ← Nat.pow_succ]
/-- the value by Horner's way -/
def zq_hr (t x n : Nat) (f : Nat → Nat) : Nat → Nat
  | 0 => 0
  | d + 1 => (zq_hr t x n f d * x + f (n - 1 - d)) % t
theorem zq_hr_lt {t : Nat} (ht : 0 < t) (x n : Nat) (f : Nat → Nat) (d : Nat) : zq_hr t x n f d < t := by
  cases d with
  | zero => exact ht
  | succ d => exact Nat.mod_lt _ ht
theorem zq_hr_sum (t x n : Nat) (f : Nat → Nat) : ∀ d, d ≤ n → zq_hr t x n f d % t = zq_ns d (fun j => f (n - d + j) * x ^ j) % t := by
  intro d
  induction d with
  | zero => intro _; rfl
  | succ d ih =>
    intro hd
    have e1 : zq_ns (d + 1) (fun j => f (n - (d + 1) + j) * x ^ j) = f (n - 1 - d) + zq_ns d (fun j => f (n - d + j) * x ^ j) * x := by
      rw [show d + 1 = 1 + d by omega, zq_ns_split, ← zq_ns_mulR]
      congr 1
      · show 0 + f (n - (1 + d) + 0) * x ^ 0 = f (n - 1 - d)
        rw [Nat.pow_zero, Nat.mul_one, Nat.zero_add]
        congr 1
        omega
      · refine zq_ns_congr (fun j hj => ?_)
        rw [show n - (1 + d) + (1 + j) = n - d + j by omega, Nat.add_comm 1 j, Nat.pow_succ, Nat.mul_assoc]
    show (zq_hr t x n f d * x + f (n - 1 - d)) % t % t = _
    rw [Nat.mod_mod, e1, Nat.add_comm (f (n - 1 - d)), Nat.add_mod, ← zq_mm, ih (by omega), zq_mm, ← Nat.add_mod]
theorem zq_hr_av {k : Nat} (hk : k < 4) (f : Nat → Nat) (i : Nat) : zq_hr (zk_t k) (zk_z k ^ (2 * i + 1) % zk_t k) (zk_n k) f (zk_n k) = zq_av k f i := by
  have hb := zk_b k hk
  have h := zq_hr_sum (zk_t k) (zk_z k ^ (2 * i + 1) % zk_t k) (zk_n k) f (zk_n k) (Nat.le_refl _)
  rw [Nat.mod_eq_of_lt (zq_hr_lt (by omega) _ _ _ _)] at h
  rw [h]
  unfold zq_av
  refine zq_ns_mod (fun j _ => ?_)
  rw [Nat.sub_self, Nat.zero_add, ← zq_mr, zq_pm, ← Nat.pow_mul, zq_mr, ← zq_mr (f j) (zk_A k i j)]
  unfold zk_A
  rw [zk_p_eq hk, Nat.mod_mod, zq_mr]
theorem zq_av_0 {k : Nat} (hk : k < 4) (i : Nat) : zq_av k (fun j => if j = 0 then 1 else 0) i = 1 := by
  have hb := zk_b k hk
  unfold zq_av
  rw [zq_ns_congr (g := fun j => zk_A k i j * (if j = 0 then 1 else 0)) (fun j _ => Nat.mul_comm _ _), zq_ns_one (by omega)]
  unfold zk_A
  rw [Nat.mul_zero, zk_p_eq hk, Nat.pow_zero, Nat.mod_mod, Nat.mod_eq_of_lt (by omega)]
section ZL
variable {p : Program} {l : Launch} {e : Env} {R : Room} {s : State} {m : MethodId} {args : Array Value} {below : List Frame} {meth : Method} {c : Code} {H : Heap} {locs : List Loc} {cells slots : Nat} {Q : State → Prop}
variable {cc : ByteArray} {pc : Nat} {ls : Array Slot} {rest : List Value}
theorem zr_i2l (hexec : p.tables.exec = Jvm.exec) (hb : c.code = cc) {x : Nat} (hdg : decode cc pc = .ok (.i2l, 1)) (hx : x < 2 ^ 31)
    (k : W p l e R s m args below meth c H locs cells slots Q (F0 m (pc + 1) ls (.long (lN x) :: rest))) : W p l e R s m args below meth c H locs cells slots Q (F0 m pc ls (.int (nI x) :: rest)) :=
  lv_i2l (v := lN x) hexec hb hdg (nI_l hx) k
theorem zr_i2lZ (hexec : p.tables.exec = Jvm.exec) (hb : c.code = cc) {x : Int} (hdg : decode cc pc = .ok (.i2l, 1)) (h1 : -2147483648 ≤ x) (h2 : x < 2147483648)
    (k : W p l e R s m args below meth c H locs cells slots Q (F0 m (pc + 1) ls (.long (zi_L x) :: rest))) : W p l e R s m args below meth c H locs cells slots Q (F0 m pc ls (.int (zi_I x) :: rest)) :=
  lv_i2l (v := zi_L x) hexec hb hdg (zi_i2l h1 h2) k
theorem zr_lmul (hexec : p.tables.exec = Jvm.exec) (hb : c.code = cc) {x y : Nat} (hdg : decode cc pc = .ok (.lmul, 1))
    (k : W p l e R s m args below meth c H locs cells slots Q (F0 m (pc + 1) ls (.long (lN (x * y)) :: rest))) : W p l e R s m args below meth c H locs cells slots Q (F0 m pc ls (.long (lN y) :: .long (lN x) :: rest)) := by
  refine lv_lmul hexec hb hdg ?_
  rw [lN_mul]
  exact k
theorem zr_ladd (hexec : p.tables.exec = Jvm.exec) (hb : c.code = cc) {x y : Nat} (hdg : decode cc pc = .ok (.ladd, 1))
    (k : W p l e R s m args below meth c H locs cells slots Q (F0 m (pc + 1) ls (.long (lN (x + y)) :: rest))) : W p l e R s m args below meth c H locs cells slots Q (F0 m pc ls (.long (lN y) :: .long (lN x) :: rest)) := by
  refine lv_ladd hexec hb hdg ?_
  rw [lN_add]
  exact k
theorem zr_lrem (hexec : p.tables.exec = Jvm.exec) (hb : c.code = cc) {x y : Nat} (hdg : decode cc pc = .ok (.lrem, 1)) (hx : x < 2 ^ 63) (h0 : 0 < y) (hy : y < 2 ^ 31)
    (k : W p l e R s m args below meth c H locs cells slots Q (F0 m (pc + 1) ls (.long (lN (x % y)) :: rest))) : W p l e R s m args below meth c H locs cells slots Q (F0 m pc ls (.long (lN y) :: .long (lN x) :: rest)) := by
  refine lv_lrem hexec hb hdg (fun hh => ?_) ?_
  · have h9 : lN y = lN 0 := hh.trans (by decide)
    rw [lN_eq hy (by decide)] at h9
    omega
  · rw [pk_lRem hx h0 (Nat.lt_trans hy (by decide))]
    exact k
end ZL
