/-! what the reference's public methods leave behind; sums and differences value by value; my own -/
theorem zg_X1_85 : Cond.constantLong RX1 85 (lN 2) ∈ zz_w := by decide +kernel
def zq_rw (F : Nat → Nat) (r : Nat) : Nat → Nat := fun j => F (32 * r + j)
abbrev zq_U : Type := (Nat → Nat) × (Nat → Nat) × (Nat → Nat) × (Nat → Nat) × (Nat → Nat)
/-- register 'to' is written: its values are w -/
def zq_fr (k : Nat) (F : Nat → Nat) (to : Nat) (w : Nat → Nat) (F1 : Nat → Nat) : Prop :=
  (∀ r, r ≠ to → ∀ j, j < zk_n k → F1 (32 * r + j) = F (32 * r + j)) ∧ (∀ j, j < zk_n k → F1 (32 * to + j) < zk_t k) ∧ ∀ i, i < zk_n k → zq_av k (zq_rw F1 to) i = w i
theorem zq_fr_put {k : Nat} (hk : k < 4) {F u g w : Nat → Nat} {x1 : Nat} (h : (∀ j, j < zk_n k → u (32 * x1 + j) = g j) ∧ ∀ j, j < 32 * x1 ∨ 32 * x1 + zk_n k ≤ j → u j = F j) (hg : ∀ j, j < zk_n k → g j < zk_t k) (hw : ∀ i, i < zk_n k → zq_av k g i = w i) : zq_fr k F x1 w u := by
  have hb := zk_b k hk
  refine ⟨fun r hr j hj => h.2 _ (by omega), fun j hj => by rw [h.1 j hj]; exact hg j hj, fun i hi => ?_⟩
  rw [← hw i hi]
  exact zq_av_congr (fun j hj => h.1 j hj) i
theorem zq_add_av {k : Nat} (hk : k < 4) {f u : Nat → Nat} {i y : Nat} (hi : i < zk_n k) (h : ∀ j, j < zk_n k → u j = (f j + y * zk_i k % zk_t k * zk_B k i j) % zk_t k) {j : Nat} (hj : j < zk_n k) : zq_av k u j = (zq_av k f j + y * (if j = i then 1 else 0)) % zk_t k :=
  zq_av_add hk f hi y (fun m hm => by rw [h m hm, Nat.mod_mod, ← Nat.add_mod_mod, zq_mm, Nat.add_mod_mod]) hj
/-- a - b, modulo t -/
theorem zq_sb {a b t : Nat} (h : b < t) : (a + t - b) % t = (a + (t - 1) * b) % t := by
  rw [show a + t - b = a + (t - b) by omega, ← Nat.add_mod_mod, zq_ng h, Nat.add_mod_mod]
theorem zi_sb {a b t : Nat} (h : b < t) : (((a : Nat) : Int) - ((b : Nat) : Int)) % ((t : Nat) : Int) = (((a + t - b) % t : Nat) : Int) := by
  rw [Int.natCast_emod, show ((a + t - b : Nat) : Int) = (t : Int) + ((a : Int) - (b : Int)) by omega, Int.add_emod_left]
theorem zq_av_lin0 {k : Nat} {f h g : Nat → Nat} (hg : ∀ j, j < zk_n k → g j = (f j + h j) % zk_t k) (i : Nat) : zq_av k g i = (zq_av k f i + zq_av k h i) % zk_t k := by
  unfold zq_av
  rw [zq_ns_mod (g := fun j => f j * zk_A k i j + h j * zk_A k i j) (fun j hj => by rw [hg j hj, zq_mm, Nat.add_mul]), zq_ns_add, ← Nat.add_mod]
theorem zq_av_lin1 {k : Nat} (hk : k < 4) {f h g : Nat → Nat} (hh : ∀ j, j < zk_n k → h j < zk_t k) (hg : ∀ j, j < zk_n k → g j = (f j + zk_t k - h j) % zk_t k) (i : Nat) : zq_av k g i = (zq_av k f i + zk_t k - zq_av k h i) % zk_t k := by
  rw [zq_sb (zq_av_lt hk h i)]
  unfold zq_av
  rw [zq_ns_mod (g := fun j => f j * zk_A k i j + (zk_t k - 1) * (h j * zk_A k i j)) (fun j hj => by rw [hg j hj, zq_sb (hh j hj), zq_mm, Nat.add_mul, Nat.mul_assoc]), zq_ns_add, zq_ns_mulL, Nat.mod_add_mod, ← Nat.add_mod_mod, ← zq_mr, Nat.add_mod_mod]
/-- one value set -/
theorem zq_sv {k : Nat} (hk : k < 4) {f u : Nat → Nat} {i y r : Nat} (hi : i < zk_n k) (hy : y < zk_t k) (hr : (((y : Nat) : Int) - ((zq_av k f i : Nat) : Int)) % ((zk_t k : Nat) : Int) = ((r : Nat) : Int)) (h : ∀ j, j < zk_n k → u j = (f j + r * zk_i k % zk_t k * zk_B k i j) % zk_t k) {j : Nat} (hj : j < zk_n k) : zq_av k u j = if j = i then y else zq_av k f j := by
  rw [zq_add_av hk hi h hj]
  by_cases e : j = i
  · rw [if_pos e, if_pos e, e, Nat.mul_one]
    have h1 : r = (y + zk_t k - zq_av k f i) % zk_t k := by
      have h2 := zi_sb (a := y) (zq_av_lt hk f i)
      rw [hr] at h2
      omega
    have h3 := zq_av_lt hk f i
    rw [h1, Nat.add_mod_mod, show zq_av k f i + (y + zk_t k - zq_av k f i) = y + zk_t k by omega, Nat.add_mod_right, Nat.mod_eq_of_lt hy]
  · rw [if_neg e, if_neg e, Nat.mul_zero, Nat.add_zero, Nat.mod_eq_of_lt (zq_av_lt hk f j)]
section ZV
variable {p : Program} {l : Launch} {e : Env} {R : Room} {s : State} {m : MethodId} {args : Array Value} {below : List Frame} {meth : Method} {c : Code} {H : Heap} {locs : List Loc} {cells slots : Nat} {Q : State → Prop}
variable {cc : ByteArray} {pc : Nat} {ls : Array Slot} {rest : List Value}
theorem zr_lsub (hexec : p.tables.exec = Jvm.exec) (hb : c.code = cc) {x y : Nat} (hdg : decode cc pc = .ok (.lsub, 1)) (h : y ≤ x)
    (k : W p l e R s m args below meth c H locs cells slots Q (F0 m (pc + 1) ls (.long (lN (x - y)) :: rest))) : W p l e R s m args below meth c H locs cells slots Q (F0 m pc ls (.long (lN y) :: .long (lN x) :: rest)) := by
  refine lv_lsub hexec hb hdg ?_
  rw [lN_sub h]
  exact k
theorem zr_lnegZ (hexec : p.tables.exec = Jvm.exec) (hb : c.code = cc) {x : Nat} (hdg : decode cc pc = .ok (.lneg, 1))
    (k : W p l e R s m args below meth c H locs cells slots Q (F0 m (pc + 1) ls (.long (lN x) :: rest))) : W p l e R s m args below meth c H locs cells slots Q (F0 m pc ls (.long (zi_L (-((x : Nat) : Int))) :: rest)) := by
  refine lv_lneg hexec hb hdg ?_
  rw [show -(zi_L (-((x : Nat) : Int))) = lN x by rw [zi_lN]; exact (Int64.ofInt_neg _).symm.trans (congrArg Int64.ofInt (Int.neg_neg _))]
  exact k
end ZV
