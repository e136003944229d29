/-! longs under 'and' and '>>' (from the kit's bits, turned), compares of longs, the power by squaring, the turn; the rest my own -/
theorem u_tn {n : Nat} (h : n < 2 ^ 64) : (UInt64.ofNat n).toNat = n := Nat.mod_eq_of_lt h
theorem g_and {a b c : Nat} (ha : a < 2 ^ 64) (hb : b < 2 ^ 64) (hc : a &&& b = c) : lN a &&& lN b = lN c := by
  subst hc
  have h : UInt64.ofNat a &&& UInt64.ofNat b = UInt64.ofNat (a &&& b) := UInt64.toNat_inj.mp (by rw [UInt64.toNat_and, u_tn ha, u_tn hb, u_tn (Nat.and_lt_two_pow a hb)])
  have h2 := congrArg UInt64.toInt64 h
  exact h2
theorem g_and1 {a : Nat} (ha : a < 2 ^ 64) : lN a &&& lN 1 = lN (a % 2) := g_and (b := 1) ha (by decide) (Nat.and_two_pow_sub_one_eq_mod a 1)
theorem pf_lI {a : Nat} (h : a < 2 ^ 63) : (lN a).toInt = (a : Int) := lg_ofNat_toInt h
theorem pf_shr {a d : Nat} {D : Int64} (hD : (D.toBitVec.smod 64).toNat = d) (h : a < 2 ^ 62) : lN a >>> D = lN (a / 2 ^ d) := by
  have hd : a / 2 ^ d ≤ a := Nat.div_le_self _ _
  apply Int64.toInt_inj.mp
  have e : (lN a >>> D).toInt = (lN a).toInt >>> d := by
    rw [← hD]
    exact BitVec.toInt_sshiftRight ..
  rw [e, Int.shiftRight_eq_div_pow, pf_lI (by omega), pf_lI (by omega)]
  rfl
theorem zl_half {a : Nat} (h : a < 2 ^ 62) : lN a >>> ((nI 1).toInt64 &&& 63) = lN (a / 2) := pf_shr (d := 1) (by decide +kernel) h
theorem zl_le {a b : Nat} (ha : a < 2 ^ 63) (hb : b < 2 ^ 63) : lN a ≤ lN b ↔ a ≤ b := by
  rw [Int64.le_iff_toInt_le, pf_lI ha, pf_lI hb]; omega
theorem zl_eq {a b : Nat} (ha : a < 2 ^ 63) (hb : b < 2 ^ 63) : lN a = lN b ↔ a = b := by
  rw [← Int64.toInt_inj, pf_lI ha, pf_lI hb]; omega
section ZW
variable {p : Program} {l : Launch} {e : Env} {R : Room} {s : State} {m : MethodId} {args : Array Value} {below : List Frame} {meth : Method} {c : Code} {H : Heap} {locs : List Loc} {cells slots : Nat} {Q : State → Prop}
variable {cc : ByteArray} {pc : Nat} {ls : Array Slot} {rest : List Value}
/-- lcmp, ifle: x ≤ y -/
theorem zr_lle (hexec : p.tables.exec = Jvm.exec) (hb : c.code = cc) {x y : Nat} {off : Int} {tgt : Nat} (hd1 : decode cc pc = .ok (.lcmp, 1)) (hd2 : decode cc (pc + 1) = .ok (.ifCond .le off, 3)) (ht : ((pc + 1 : Nat) : Int) + off = (tgt : Int)) (hx : x < 2 ^ 63) (hy : y < 2 ^ 63)
    (kt : x ≤ y → W p l e R s m args below meth c H locs cells slots Q (F0 m tgt ls rest)) (kf : y < x → W p l e R s m args below meth c H locs cells slots Q (F0 m (pc + 4) ls rest)) : W p l e R s m args below meth c H locs cells slots Q (F0 m pc ls (.long (lN y) :: .long (lN x) :: rest)) :=
  W.lcmp hexec hb hd1 (lv_if_le hexec hb hd2 ht (fun h => kt ((zl_le hx hy).mp ((lg_cmp_le _ _).mp h))) (fun h => kf (Nat.lt_of_not_le fun q => h ((lg_cmp_le _ _).mpr ((zl_le hx hy).mpr q)))))
/-- lcmp, ifne -/
theorem zr_lne (hexec : p.tables.exec = Jvm.exec) (hb : c.code = cc) {x y : Nat} {off : Int} {tgt : Nat} (hd1 : decode cc pc = .ok (.lcmp, 1)) (hd2 : decode cc (pc + 1) = .ok (.ifCond .ne off, 3)) (ht : ((pc + 1 : Nat) : Int) + off = (tgt : Int)) (hx : x < 2 ^ 63) (hy : y < 2 ^ 63)
    (kt : x ≠ y → W p l e R s m args below meth c H locs cells slots Q (F0 m tgt ls rest)) (kf : x = y → W p l e R s m args below meth c H locs cells slots Q (F0 m (pc + 4) ls rest)) : W p l e R s m args below meth c H locs cells slots Q (F0 m pc ls (.long (lN y) :: .long (lN x) :: rest)) :=
  W.lcmp hexec hb hd1 (lv_if_ne hexec hb hd2 ht (fun h => kt (fun q => h ((lg_cmp_eq _ _).mpr ((zl_eq hx hy).mpr q)))) (fun h => kf ((zl_eq hx hy).mp ((lg_cmp_eq _ _).mp h))))
theorem zr_land1 (hexec : p.tables.exec = Jvm.exec) (hb : c.code = cc) {x : Nat} (hdg : decode cc pc = .ok (.land, 1)) (hx : x < 2 ^ 62)
    (k : W p l e R s m args below meth c H locs cells slots Q (F0 m (pc + 1) ls (.long (lN (x % 2)) :: rest))) : W p l e R s m args below meth c H locs cells slots Q (F0 m pc ls (.long (lN 1) :: .long (lN x) :: rest)) := by
  refine lv_land hexec hb hdg ?_
  rw [g_and1 (by omega)]
  exact k
theorem zr_lshr1 (hexec : p.tables.exec = Jvm.exec) (hb : c.code = cc) {x : Nat} (hdg : decode cc pc = .ok (.lshr, 1)) (hx : x < 2 ^ 62)
    (k : W p l e R s m args below meth c H locs cells slots Q (F0 m (pc + 1) ls (.long (lN (x / 2)) :: rest))) : W p l e R s m args below meth c H locs cells slots Q (F0 m pc ls (.int (nI 1) :: .long (lN x) :: rest)) :=
  lv_lshr hexec hb hdg (zl_half hx) k
theorem zi_and01 : ∀ x, x < 2 → ∀ y, y < 2 → nI x &&& nI y = nI (x * y) := by decide +kernel
theorem zi_or01 : ∀ x, x < 2 → ∀ y, y < 2 → nI x ||| nI y = nI (x + y - x * y) := by decide +kernel
theorem zr_iand01 (hexec : p.tables.exec = Jvm.exec) (hb : c.code = cc) {x y : Nat} (hdg : decode cc pc = .ok (.iand, 1)) (hx : x < 2) (hy : y < 2)
    (k : W p l e R s m args below meth c H locs cells slots Q (F0 m (pc + 1) ls (.int (nI (x * y)) :: rest))) : W p l e R s m args below meth c H locs cells slots Q (F0 m pc ls (.int (nI y) :: .int (nI x) :: rest)) := by
  refine lv_iand hexec hb hdg ?_
  rw [zi_and01 x hx y hy]
  exact k
theorem zr_ior01 (hexec : p.tables.exec = Jvm.exec) (hb : c.code = cc) {x y : Nat} (hdg : decode cc pc = .ok (.ior, 1)) (hx : x < 2) (hy : y < 2)
    (k : W p l e R s m args below meth c H locs cells slots Q (F0 m (pc + 1) ls (.int (nI (x + y - x * y)) :: rest))) : W p l e R s m args below meth c H locs cells slots Q (F0 m pc ls (.int (nI y) :: .int (nI x) :: rest)) := by
  refine lv_ior hexec hb hdg ?_
  rw [zi_or01 x hx y hy]
  exact k
end ZW
/-- is it the polynomial 1: the first i + 1 coefficients -/
def zq_on (f : Nat → Nat) : Nat → Nat
  | 0 => if f 0 = 1 then 1 else 0
  | i + 1 => if f (i + 1) = 0 then zq_on f i else 0
theorem zq_on_lt (f : Nat → Nat) (i : Nat) : zq_on f i < 2 := by
  induction i with
  | zero => unfold zq_on; split <;> omega
  | succ i ih => unfold zq_on; split <;> omega
theorem zq_on_iff (f : Nat → Nat) (i : Nat) : zq_on f i = 1 ↔ f 0 = 1 ∧ ∀ j, 0 < j → j ≤ i → f j = 0 := by
  induction i with
  | zero =>
    unfold zq_on
    constructor
    · intro h
      split at h
      · exact ⟨by assumption, fun j h1 h2 => by omega⟩
      · omega
    · intro h
      rw [if_pos h.1]
  | succ i ih =>
    unfold zq_on
    constructor
    · intro h
      split at h
      · rename_i h0
        obtain ⟨a, b⟩ := ih.mp h
        refine ⟨a, fun j h1 h2 => ?_⟩
        by_cases e : j = i + 1
        · rw [e]; exact h0
        · exact b j h1 (by omega)
      · omega
    · intro h
      rw [if_pos (h.2 (i + 1) (by omega) (Nat.le_refl _))]
      exact ih.mpr ⟨h.1, fun j h1 h2 => h.2 j h1 (by omega)⟩
theorem zq_on_s1 {f : Nat → Nat} {i : Nat} (h : f (i + 1) = 0) : zq_on f i * 1 = zq_on f (i + 1) := by
  rw [Nat.mul_one]
  show _ = if f (i + 1) = 0 then zq_on f i else 0
  rw [if_pos h]
theorem zq_on_s0 {f : Nat → Nat} {i : Nat} (h : f (i + 1) ≠ 0) : zq_on f i * 0 = zq_on f (i + 1) := by
  rw [Nat.mul_zero]
  show _ = if f (i + 1) = 0 then zq_on f i else 0
  rw [if_neg h]
/-- below 0, modulo t -/
theorem zi_ng {a t : Nat} (h : a < t) : (-((a : Nat) : Int)) % ((t : Nat) : Int) = (((t - a) % t : Nat) : Int) := by
  rw [Int.natCast_emod, show ((t - a : Nat) : Int) = (t : Int) + -(a : Int) by omega, Int.add_emod_left]
theorem zq_ng {a t : Nat} (h : a < t) : (t - a) % t = (t - 1) * a % t := by
  cases a with
  | zero => rw [Nat.mul_zero, Nat.sub_zero, Nat.mod_self, Nat.zero_mod]
  | succ a =>
    obtain ⟨u, rfl⟩ : ∃ u, t = u + 1 := ⟨t - 1, by omega⟩
    have e : (u + 1 - 1) * (a + 1) = (u + 1 - (a + 1)) + (u + 1) * a := by
      have h1 : (u + 1 - 1) * (a + 1) + (a + 1) = (u + 1) * (a + 1) := by
        rw [Nat.add_sub_cancel, Nat.add_mul u 1, Nat.one_mul]
      have h2 : (u + 1) * (a + 1) = (u + 1) * a + (u + 1) := Nat.mul_succ _ _
      omega
    rw [e, Nat.add_mul_mod_self_left]
/-- a turn's coefficient -/
def zq_tn (k g : Nat) (a : Nat → Nat) (m : Nat) : Nat := if m * g % (2 * zk_n k) < zk_n k then a m else (zk_t k - a m) % zk_t k
theorem zk_q_inj0 : ∀ k, k < 4 → ∀ g, g < zk_n k → ∀ m, m < zk_n k → ∀ i, i < zk_n k → (zk_q k (2 * g + 1) m == zk_q k (2 * g + 1) i) = (m == i) := by decide +kernel
theorem zk_q_inj (k : Nat) (hk : k < 4) (g : Nat) (hg : g < 2 * zk_n k) (ho : g % 2 = 1) (m : Nat) (hm : m < zk_n k) (i : Nat) (hi : i < zk_n k) (h : zk_q k g m = zk_q k g i) : m = i := by
  have h0 := zk_q_inj0 k hk (g / 2) (by omega) m hm i hi
  rw [show 2 * (g / 2) + 1 = g by omega, h, BEq.rfl] at h0
  exact beq_iff_eq.mp h0.symm
theorem zk_q_sur {k : Nat} (hk : k < 4) {g : Nat} (hg : g < 2 * zk_n k) (ho : g % 2 = 1) {j : Nat} (hj : j < zk_n k) : ∃ m, m < zk_n k ∧ zk_q k g m = j := by
  have hp := List.isPerm_iff.mp (zk_q_perm k hk g hg ho)
  have h := hp.mem_iff.mpr (List.mem_range.mpr hj)
  obtain ⟨m, h1, h2⟩ := List.mem_map.mp h
  exact ⟨m, List.mem_range.mp h1, h2⟩
theorem zq_av_tn {k : Nat} (hk : k < 4) {g : Nat} (hg : g < 2 * zk_n k) (ho : g % 2 = 1) {a b : Nat → Nat} (ha : ∀ j, j < zk_n k → a j < zk_t k)
    (hb : ∀ m, m < zk_n k → b (zk_q k g m) = zq_tn k g a m) {i : Nat} (hi : i < zk_n k) : zq_av k b i = zq_av k a (zk_d k g i) := by
  refine zq_av_turn hk hg ho (fun m hm => ?_) hi
  rw [hb m hm]
  unfold zq_tn
  split
  · rfl
  · rw [Nat.mod_mod, zq_ng (ha m hm)]
theorem zq_tn_lt {k : Nat} (hk : k < 4) {g : Nat} (hg : g < 2 * zk_n k) (ho : g % 2 = 1) {a b : Nat → Nat} (ha : ∀ j, j < zk_n k → a j < zk_t k)
    (hb : ∀ m, m < zk_n k → b (zk_q k g m) = zq_tn k g a m) {j : Nat} (hj : j < zk_n k) : b j < zk_t k := by
  have h9 := zk_b k hk
  obtain ⟨m, hm, rfl⟩ := zk_q_sur hk hg ho hj
  rw [hb m hm]
  unfold zq_tn
  split
  · exact ha m hm
  · exact Nat.mod_lt _ (by omega)
theorem zk_shl : ∀ k, k < 4 → nI 4 <<< (nI k &&& 31) = nI (zk_n k) := by decide +kernel
theorem zq_tm_lt {k : Nat} (hk : k < 4) (f g : Nat → Nat) (j : Nat) : zq_tm k f g j < zk_t k := Nat.mod_lt _ (by have := zk_b k hk; omega)
