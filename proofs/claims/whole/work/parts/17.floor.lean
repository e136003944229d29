/-! Math.floorMod(int, int), the divisor above 0; my own -/
theorem zi_neg_msb (x : Int32) : x < 0 ↔ x.toBitVec.msb = true := by
  rw [Int32.lt_iff_toInt_lt, BitVec.msb_eq_toInt, Int32.toInt_toBitVec, decide_eq_true_eq, Int32.toInt_zero]
theorem zi_xor {a b : Int32} (hb : ¬ b < 0) : (a ^^^ b) < 0 ↔ a < 0 := by
  have hb' : b.toBitVec.msb = false := by
    cases h : b.toBitVec.msb
    · rfl
    · exact absurd ((zi_neg_msb b).mpr h) hb
  rw [zi_neg_msb, zi_neg_msb, Int32.toBitVec_xor, BitVec.msb_xor, hb']
  simp
set_option maxHeartbeats 4000000 in
set_option maxRecDepth 100000 in
theorem cJ_floorMod (l : Launch) (D : va_G) (cl : List vw_C) (tys : List (ClassId × FieldType)) (ws : va_W) (a : Int) (y r : Nat) (h1 : -2147483648 ≤ a) (h2 : a < 2147483648) (hy : 0 < y) (hy2 : y < 2147483648) (hr0 : a % (y : Int) = (r : Int)) : Met l yJ9_floorMod_7cf53 wzJ9_floorMod_7cf53 (k2_rm 0 0) (zr_pre D cl tys ws [.int (zi_I a), .int (nI y)]) (k2_QcV (.int (nI r))) 0 0 (fun _ => False) := by
  refine va_MetF (cc := cJ9_floorMod_7cf53) (maxL := 3) (ret := some .int) (by decide +kernel) rfl ?_
  intro p e s m args below meth c s₁ B hml hv
  obtain ⟨rfl, hP, hK⟩ := hv
  have hx := B.exec
  have hb := B.bytes
  have hr := B.returns
  have hlocks := B.notSynchronized
  have hl := lv_entry ([.int (zi_I a), .int (nI y)]) (n := 3) (Nat.le_of_ble_eq_true rfl)
  rw [lg_entry_eq]
  generalize (lg_sl ([.int (zi_I a), .int (nI y)]) ++ List.replicate (3 - (lg_sl ([.int (zi_I a), .int (nI y)])).length) Slot.unset).toArray = ls at hl ⊢
  have hl : lv_has ls 3 [(0, .int (zi_I a)), (1, .int (nI y))] := hl
  have hy3 : (0 : Int) < (y : Int) := by omega
  obtain ⟨b1, b2⟩ := zi_tm (a := a) hy3
  refine lv_iload_n hx hb dJ9_floorMod_7cf53_0 rfl (lv_at hl 0 rfl) ?_
  refine lv_iload_n hx hb dJ9_floorMod_7cf53_1 rfl (lv_at hl 1 rfl) ?_
  refine lv_irem hx hb dJ9_floorMod_7cf53_2 (nI_ne0 hy (by omega)) ?_
  rw [show zi_I a - zi_I a / nI y * nI y = zi_I (a.tmod y) by rw [zi_nI y]; exact zi_rem h1 h2 hy3 (by omega)]
  refine lv_istore_n (lv' := [(2, .int (zi_I (a.tmod y))), (0, .int (zi_I a)), (1, .int (nI y))]) hx hb dJ9_floorMod_7cf53_3 rfl hl (by decide) rfl (fun ls hl => ?_)
  refine lv_iload_n hx hb dJ9_floorMod_7cf53_4 rfl (lv_at hl 1 rfl) ?_
  refine lv_iload_n hx hb dJ9_floorMod_7cf53_5 rfl (lv_at hl 2 rfl) ?_
  refine lv_ixor hx hb dJ9_floorMod_7cf53_6 ?_
  have hxn : (zi_I a ^^^ nI y) < 0 ↔ a < 0 := by
    rw [zi_xor (nI_pos (by omega)), zi_0, zi_lt h1 h2 (by omega) (by omega)]
  have e18 : a.tmod y = (r : Int) → W p l e (headSpec wzJ9_floorMod_7cf53 (k2_rm 0 0)).room s m ([.int (zi_I a), .int (nI y)] : List Value).toArray below meth c s.heap [] 0 0 (MQ below (k2_QcV (.int (nI r))) ([.int (zi_I a), .int (nI y)] : List Value).toArray s 0 0 (fun _ => False)) (F0 m 18 ls []) := by
    intro he
    refine lv_iload_n hx hb dJ9_floorMod_7cf53_18 rfl (lv_at hl 0 rfl) ?_
    rw [he, ← zi_nI]
    exact W.iret (v := nI r) hx hb hr (fun t ht _ => ⟨rfl, ht⟩) (fun q h => by cases h) dJ9_floorMod_7cf53_19
  refine lv_if_ge (tgt := 18) hx hb dJ9_floorMod_7cf53_7 (by decide) (fun hc => ?_) (fun hc => ?_)
  · have ha : ¬ a < 0 := fun q => absurd (hxn.mpr q) (Int32.not_lt.mpr hc)
    exact e18 (by rw [zi_fp hy3 (Int.tmod_nonneg _ (by omega))]; exact hr0)
  · have ha : a < 0 := hxn.mp (Int32.not_le.mp hc)
    refine lv_iload_n hx hb dJ9_floorMod_7cf53_10 rfl (lv_at hl 0 rfl) ?_
    refine lv_if_eq (tgt := 18) hx hb dJ9_floorMod_7cf53_11 (by decide) (fun hd => ?_) (fun hd => ?_)
    · rw [zi_0, zi_eq (by omega) (by omega) (by omega) (by omega)] at hd
      exact e18 (by rw [zi_fp hy3 (by omega)]; exact hr0)
    · rw [zi_0, zi_eq (by omega) (by omega) (by omega) (by omega)] at hd
      have hneg : a.tmod y < 0 := by
        have h3 : 0 ≤ (-a).tmod y := Int.tmod_nonneg _ (by omega)
        rw [Int.neg_tmod] at h3
        omega
      refine lv_iload_n hx hb dJ9_floorMod_7cf53_14 rfl (lv_at hl 0 rfl) ?_
      refine lv_iload_n hx hb dJ9_floorMod_7cf53_15 rfl (lv_at hl 2 rfl) ?_
      refine lv_iadd hx hb dJ9_floorMod_7cf53_16 ?_
      rw [show zi_I (a.tmod y) + nI y = nI r by rw [zi_nI y, zi_add, zi_fm hy3 hneg, hr0, ← zi_nI]]
      exact W.iret (v := nI r) hx hb hr (fun t ht _ => ⟨rfl, ht⟩) (fun q h => by cases h) dJ9_floorMod_7cf53_17
