/-! the reference's product and turn, as its loops reckon them; my own -/
def zq_si (k : Nat) (f g : Nat → Nat) (j : Nat) : Nat → Int
  | 0 => 0
  | i + 1 => zq_si k f g j i + (if i ≤ j then ((f i * g (j - i) : Nat) : Int) else -((f i : Nat) : Int) * ((g (zk_n k + j - i) : Nat) : Int))
theorem zq_si_1 {k : Nat} {f g : Nat → Nat} {j i : Nat} (h : i ≤ j) : zq_si k f g j (i + 1) = zq_si k f g j i + ((f i * g (j - i) : Nat) : Int) := by
  show _ + (if i ≤ j then _ else _) = _
  rw [if_pos h]
theorem zq_si_2 {k : Nat} {f g : Nat → Nat} {j i : Nat} (h : ¬ i ≤ j) : zq_si k f g j (i + 1) = zq_si k f g j i + -((f i : Nat) : Int) * ((g (zk_n k + j - i) : Nat) : Int) := by
  show _ + (if i ≤ j then _ else _) = _
  rw [if_neg h]
theorem zi_nm {a b : Nat} (h : a * b ≤ 37249) : -37249 ≤ -((a : Nat) : Int) * ((b : Nat) : Int) ∧ -((a : Nat) : Int) * ((b : Nat) : Int) ≤ 0 := by
  rw [Int.neg_mul, ← Int.natCast_mul]
  omega
theorem zq_si_b {k : Nat} (hk : k < 4) {f g : Nat → Nat} (hf : ∀ j, j < zk_n k → f j < zk_t k) (hg : ∀ j, j < zk_n k → g j < zk_t k) {j : Nat} (hj : j < zk_n k) : ∀ i, i ≤ zk_n k → -(37249 * (i : Int)) ≤ zq_si k f g j i ∧ zq_si k f g j i ≤ 37249 * (i : Int) := by
  have hb := zk_b k hk
  intro i
  induction i with
  | zero => intro _; exact ⟨show -(37249 * ((0 : Nat) : Int)) ≤ (0 : Int) by decide, show (0 : Int) ≤ 37249 * ((0 : Nat) : Int) by decide⟩
  | succ i ih =>
    intro hi
    obtain ⟨h1, h2⟩ := ih (by omega)
    by_cases h : i ≤ j
    · rw [zq_si_1 h]
      have h3 := zq_b4 (hf i (by omega)) (hg (j - i) (by omega)) hb.2.2.2.1
      constructor <;> omega
    · rw [zq_si_2 h]
      have h3 := zi_nm (zq_b4 (hf i (by omega)) (hg (zk_n k + j - i) (by omega)) hb.2.2.2.1)
      constructor <;> omega
theorem zq_si_tm {k : Nat} (hk : k < 4) (f g : Nat → Nat) (j : Nat) : zq_si k f g j (zk_n k) % (zk_t k : Int) = ((zq_tm k f g j : Nat) : Int) := by
  have hb := zk_b k hk
  have h : ∀ i, zq_si k f g j i % (zk_t k : Int) = ((zq_ns i (zq_tw k f g j) : Nat) : Int) % (zk_t k : Int) := by
    intro i
    induction i with
    | zero => rfl
    | succ i ih =>
      rw [zq_ns_s, Int.natCast_add]
      by_cases h : i ≤ j
      · rw [zq_si_1 h, Int.add_emod, ih, ← Int.add_emod]
        unfold zq_tw
        rw [if_pos h]
      · rw [zq_si_2 h, Int.add_emod, ih, ← Int.add_emod]
        have e9 : (((zk_t k - 1) * (f i * g (zk_n k + j - i)) : Nat) : Int) = (zk_t k : Int) * (((f i : Nat) : Int) * ((g (zk_n k + j - i) : Nat) : Int)) - ((f i : Nat) : Int) * ((g (zk_n k + j - i) : Nat) : Int) := by
          rw [Int.natCast_mul, Int.natCast_mul, show ((zk_t k - 1 : Nat) : Int) = (zk_t k : Int) - 1 by omega, Int.sub_mul, Int.one_mul]
        unfold zq_tw
        rw [if_neg h, e9, Int.neg_mul]
        generalize ((f i : Nat) : Int) * ((g (zk_n k + j - i) : Nat) : Int) = X
        generalize (zk_t k : Int) = T9
        rw [show ∀ S9 : Int, S9 + (T9 * X - X) = (S9 + -X) + T9 * X from fun S9 => by omega, Int.add_mul_emod_self_left]
  rw [h]
  unfold zq_tm
  rw [Int.natCast_emod]
section ZP
variable {p : Program} {l : Launch} {e : Env} {R : Room} {s : State} {m : MethodId} {args : Array Value} {below : List Frame} {meth : Method} {c : Code} {H : Heap} {locs : List Loc} {cells slots : Nat} {Q : State → Prop}
variable {cc : ByteArray} {pc : Nat} {ls : Array Slot} {rest : List Value}
theorem zr_iaddZZ (hexec : p.tables.exec = Jvm.exec) (hb : c.code = cc) {x y : Int} (hdg : decode cc pc = .ok (.iadd, 1))
    (k : W p l e R s m args below meth c H locs cells slots Q (F0 m (pc + 1) ls (.int (zi_I (x + y)) :: rest))) : W p l e R s m args below meth c H locs cells slots Q (F0 m pc ls (.int (zi_I y) :: .int (zi_I x) :: rest)) := by
  refine lv_iadd hexec hb hdg ?_
  rw [zi_add]
  exact k
end ZP
