/-! the worlds: the class's object and arrays (ad: their addresses), the reference's (mo); my own -/
def zc_g (ad : Nat → Nat) : Nat → Option Nat := fun r => some (ad (4 + r))
def zc_w (cA cR : ClassId) (ad : Nat → Nat) (kd n t z v : Nat) (S : Nat → Int32) (P : Nat → Nat) (V : Nat → Nat → Nat) : va_W :=
  [(ad 0, .inr (0, [.ref (ad 1), .ref (ad 2), .ref (ad 3), .int (nI kd), .int (nI n), .int (nI t), .int (nI z), .int (nI v)])), (ad 1, .inl (cR, 16, .inr (.inr (.inr (.inr (zc_g ad)))))), (ad 2, .inl (cA, 32, .inl S)), (ad 3, .inl (cA, 64, .inl (zq_I P))), (ad 4, .inl (cA, 32, .inl (zq_I (V 0)))), (ad 5, .inl (cA, 32, .inl (zq_I (V 1)))), (ad 6, .inl (cA, 32, .inl (zq_I (V 2)))), (ad 7, .inl (cA, 32, .inl (zq_I (V 3)))), (ad 8, .inl (cA, 32, .inl (zq_I (V 4)))), (ad 9, .inl (cA, 32, .inl (zq_I (V 5)))), (ad 10, .inl (cA, 32, .inl (zq_I (V 6)))), (ad 11, .inl (cA, 32, .inl (zq_I (V 7)))), (ad 12, .inl (cA, 32, .inl (zq_I (V 8)))), (ad 13, .inl (cA, 32, .inl (zq_I (V 9)))), (ad 14, .inl (cA, 32, .inl (zq_I (V 10)))), (ad 15, .inl (cA, 32, .inl (zq_I (V 11)))), (ad 16, .inl (cA, 32, .inl (zq_I (V 12)))), (ad 17, .inl (cA, 32, .inl (zq_I (V 13)))), (ad 18, .inl (cA, 32, .inl (zq_I (V 14)))), (ad 19, .inl (cA, 32, .inl (zq_I (V 15))))]
def zq_vp (V : Nat → Nat → Nat) (r : Nat) (g : Nat → Nat) : Nat → Nat → Nat := fun a => if a = r then g else V a
theorem zq_16 {Q : Nat → Prop} (h : Q 0 ∧ Q 1 ∧ Q 2 ∧ Q 3 ∧ Q 4 ∧ Q 5 ∧ Q 6 ∧ Q 7 ∧ Q 8 ∧ Q 9 ∧ Q 10 ∧ Q 11 ∧ Q 12 ∧ Q 13 ∧ Q 14 ∧ Q 15) {r : Nat} (hr : r < 16) : Q r := by
  obtain ⟨h0, h1, h2, h3, h4, h5, h6, h7, h8, h9, h10, h11, h12, h13, h14, h15⟩ := h
  have e : r = 0 ∨ r = 1 ∨ r = 2 ∨ r = 3 ∨ r = 4 ∨ r = 5 ∨ r = 6 ∨ r = 7 ∨ r = 8 ∨ r = 9 ∨ r = 10 ∨ r = 11 ∨ r = 12 ∨ r = 13 ∨ r = 14 ∨ r = 15 := by omega
  rcases e with rfl | rfl | rfl | rfl | rfl | rfl | rfl | rfl | rfl | rfl | rfl | rfl | rfl | rfl | rfl | rfl
  · exact h0
  · exact h1
  · exact h2
  · exact h3
  · exact h4
  · exact h5
  · exact h6
  · exact h7
  · exact h8
  · exact h9
  · exact h10
  · exact h11
  · exact h12
  · exact h13
  · exact h14
  · exact h15
theorem zc_row {cA cR : ClassId} {ad : Nat → Nat} {kd n t z v : Nat} {S : Nat → Int32} {P : Nat → Nat} {V : Nat → Nat → Nat} {wr : va_W} {r : Nat} (hr : r < 16) : (zc_w cA cR ad kd n t z v S P V ++ wr)[4 + r]? = some (ad (4 + r), .inl (cA, 32, .inl (zq_I (V r)))) :=
  zq_16 (Q := fun r => (zc_w cA cR ad kd n t z v S P V ++ wr)[4 + r]? = some (ad (4 + r), .inl (cA, 32, .inl (zq_I (V r))))) ⟨rfl, rfl, rfl, rfl, rfl, rfl, rfl, rfl, rfl, rfl, rfl, rfl, rfl, rfl, rfl, rfl⟩ hr
theorem zc_set {cA cR : ClassId} {ad : Nat → Nat} {kd n t z v : Nat} {S : Nat → Int32} {P : Nat → Nat} {V : Nat → Nat → Nat} {wr : va_W} {r : Nat} (hr : r < 16) (g : Nat → Nat) : (zc_w cA cR ad kd n t z v S P V ++ wr).set (4 + r) (ad (4 + r), .inl (cA, 32, .inl (zq_I g))) = zc_w cA cR ad kd n t z v S P (zq_vp V r g) ++ wr :=
  zq_16 (Q := fun r => (zc_w cA cR ad kd n t z v S P V ++ wr).set (4 + r) (ad (4 + r), .inl (cA, 32, .inl (zq_I g))) = zc_w cA cR ad kd n t z v S P (zq_vp V r g) ++ wr) ⟨rfl, rfl, rfl, rfl, rfl, rfl, rfl, rfl, rfl, rfl, rfl, rfl, rfl, rfl, rfl, rfl⟩ hr
theorem zq_vp_s (V : Nat → Nat → Nat) (r : Nat) (g : Nat → Nat) : zq_vp V r g r = g := by simp [zq_vp]
theorem zq_vp_n (V : Nat → Nat → Nat) {r a : Nat} (g : Nat → Nat) (h : a ≠ r) : zq_vp V r g a = V a := by simp [zq_vp, h]
/-- the reference: its object, the registers (512 places), and four rows -/
def zm_w (cA : ClassId) (mo : Nat → Nat) (th kd n t : Nat) (F a b c d : Nat → Nat) : va_W :=
  [(mo 0, .inr (1, [.int (nI th), .int (nI kd), .int (nI n), .int (nI t), .ref (mo 1), .ref (mo 2), .ref (mo 3), .ref (mo 4), .ref (mo 5)])), (mo 1, .inl (cA, 512, .inl (zq_I F))), (mo 2, .inl (cA, 32, .inl (zq_I a))), (mo 3, .inl (cA, 32, .inl (zq_I b))), (mo 4, .inl (cA, 32, .inl (zq_I c))), (mo 5, .inl (cA, 32, .inl (zq_I d)))]
