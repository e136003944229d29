set_option maxHeartbeats 4000000 in
set_option maxRecDepth 100000 in
/-- X0_get -/
theorem cx_get (l : Launch) (dC : Nat → ClassId) (dI : Nat → Nat → Nat) (cA cR : ClassId) (tr : List (ClassId × FieldType)) (wr : va_W) (ad : Nat → Nat) (kd n t z v : Nat) (S : Nat → Int32) (P : Nat → Nat) (V : Nat → Nat → Nat) (x1 : Nat) (hx1 : x1 < 16) (x2 : Nat) (hx2 : x2 < n) (hn0 : 4 ≤ n) (hn : n ≤ 32) (ht : 1 < t) (ht2 : t ≤ 193) (hV : ∀ r i, r < 16 → i < n → V r i < t) (hPt : ∀ j, j < 2 * n → P j < t) (hvt : v < t) : Met l yX0_get wzX0_get (k2_rm 3 68) (zr_pre (dC, dI) zz_cl ((cA, .int) :: (cR, .array .int) :: tr) (zc_w cA cR ad kd n t z v S P V ++ wr) [.ref (ad 0), .int (nI (x1)), .int (nI (x2))]) (k2_QcV (.int (nI (zq_cc n t v P (V x1) x2)))) 0 0 (fun _ => False) := by
  refine Met.ofW (cc := cX0_get) (maxL := 3) (ret := (some .int)) (by decide) rfl ?_
  intro p e s m args below meth c s₁ B hml hv
  obtain ⟨rfl, hP, hK⟩ := hv
  have hx := B.exec
  have hb := B.bytes
  have hr := B.returns
  have hts := atoms_spec (ws := wzX0_get) B.pre
  have hown : s.vm.findClass RX0 = some m.cls := findClass_of_methodNamed B.named
  have hlocks := B.notSynchronized
  have hl := lv_entry ([.ref (ad 0), .int (nI (x1)), .int (nI (x2))]) (n := 3) (Nat.le_of_ble_eq_true rfl)
  rw [lg_entry_eq]
  generalize (lg_sl ([.ref (ad 0), .int (nI (x1)), .int (nI (x2))]) ++ List.replicate (3 - (lg_sl ([.ref (ad 0), .int (nI (x1)), .int (nI (x2))])).length) Slot.unset).toArray = ls at hl ⊢
  have hl : lv_has ls 3 [(0, .ref (ad 0)), (1, .int (nI (x1))), (2, .int (nI (x2)))] := hl
  refine lv_aload_n hx hb dX0_get_0 rfl (lv_at hl 0 rfl) ?_
  refine lv_iload_n hx hb dX0_get_1 rfl (lv_at hl 1 rfl) ?_
  refine zr_calln (zx_runV (As := [.int (nI (x1))]) (rest := []) hx hb hml hts hown (cx_needRegister l dC dI cA cR tr wr ad kd n t z v S P V x1 (by omega)) zv_X0_39 rfl rfl ⟨Nat.le_of_ble_eq_true rfl, Nat.le_of_ble_eq_true rfl⟩ (zr_preV (q := (RX0, TX0, 8)) (ci := 0) (q0 := 0) hP hK rfl rfl) rfl hl.1 rfl (Nat.le_of_ble_eq_true rfl) dX0_get_2 ⟨Nat.zero_le _, Nat.zero_le _⟩) ?_
  refine lv_aload_n hx hb dX0_get_5 rfl (lv_at hl 0 rfl) ?_
  refine lv_iload_n hx hb dX0_get_6 rfl (lv_at hl 2 rfl) ?_
  refine zr_calln (zx_runV (As := [.int (nI (x2))]) (rest := []) hx hb hml hts hown (cx_needPlace l dC dI cA cR tr wr ad kd n t z v S P V x2 (by omega) hn) zv_X0_42 rfl rfl ⟨Nat.le_of_ble_eq_true rfl, Nat.le_of_ble_eq_true rfl⟩ (zr_preV (q := (RX0, TX0, 8)) (ci := 0) (q0 := 0) hP hK rfl rfl) rfl hl.1 rfl (Nat.le_of_ble_eq_true rfl) dX0_get_7 ⟨Nat.zero_le _, Nat.zero_le _⟩) ?_
  refine lv_aload_n hx hb dX0_get_10 rfl (lv_at hl 0 rfl) ?_
  refine lv_aload_n hx hb dX0_get_11 rfl (lv_at hl 0 rfl) ?_
  refine zx_get0 (v := .ref (ad 1)) hx hb hts hown hK hP 0 rfl 0 (by decide) zf_X0_11 rfl dX0_get_12 ?_
  refine lv_iload_n hx hb dX0_get_15 rfl (lv_at hl 1 rfl) ?_
  refine zr_aald (y := ad (4 + x1)) hx hb hK hP 1 1 rfl rfl (by omega) (by decide) rfl dX0_get_16 ?_
  refine lv_iload_n hx hb dX0_get_17 rfl (lv_at hl 2 rfl) ?_
  refine zr_callq (zx_runV (As := [.ref (ad (4 + x1)), .int (nI (x2))]) (rest := []) hx hb hml hts hown (cx_coefficient l dC dI cA cR tr wr ad kd n t z v S P V (4 + x1) (ad (4 + x1)) (zq_I (V x1)) (V x1) (zc_row (by omega)) (fun _ _ => rfl) hn (by omega) ht ht2 (fun j hj => hV x1 j (by omega) hj) hPt hvt x2 hx2) zv_X0_45 rfl rfl ⟨Nat.le_of_ble_eq_true rfl, Nat.le_of_ble_eq_true rfl⟩ (zr_preV (q := (RX0, TX0, 8)) (ci := 0) (q0 := 0) hP hK rfl rfl) rfl hl.1 rfl (Nat.le_of_ble_eq_true rfl) dX0_get_18 ⟨Nat.zero_le _, Nat.zero_le _⟩) ?_
  exact W.iret (v := nI (zq_cc n t v P (V x1) x2)) hx hb hr (fun t9 h9 _ => ⟨rfl, h9⟩) (fun q h => by cases h) dX0_get_21
set_option maxHeartbeats 4000000 in
set_option maxRecDepth 100000 in
/-- X0_value -/
theorem cx_value (l : Launch) (dC : Nat → ClassId) (dI : Nat → Nat → Nat) (cA cR : ClassId) (tr : List (ClassId × FieldType)) (wr : va_W) (ad : Nat → Nat) (kd n t z v : Nat) (S : Nat → Int32) (P : Nat → Nat) (V : Nat → Nat → Nat) (x1 : Nat) (hx1 : x1 < 16) (x2 : Nat) (hx2 : x2 < n) (hn0 : 4 ≤ n) (hn : n ≤ 32) (ht : 1 < t) (ht2 : t ≤ 193) (hV : ∀ r i, r < 16 → i < n → V r i < t) : Met l yX0_value wzX0_value (k2_rm 1 21) (zr_pre (dC, dI) zz_cl ((cA, .int) :: (cR, .array .int) :: tr) (zc_w cA cR ad kd n t z v S P V ++ wr) [.ref (ad 0), .int (nI (x1)), .int (nI (x2))]) (k2_QcV (.int (nI (V x1 x2)))) 0 0 (fun _ => False) := by
  refine Met.ofW (cc := cX0_value) (maxL := 3) (ret := (some .int)) (by decide) rfl ?_
  intro p e s m args below meth c s₁ B hml hv
  obtain ⟨rfl, hP, hK⟩ := hv
  have hx := B.exec
  have hb := B.bytes
  have hr := B.returns
  have hts := atoms_spec (ws := wzX0_value) B.pre
  have hown : s.vm.findClass RX0 = some m.cls := findClass_of_methodNamed B.named
  have hlocks := B.notSynchronized
  have hl := lv_entry ([.ref (ad 0), .int (nI (x1)), .int (nI (x2))]) (n := 3) (Nat.le_of_ble_eq_true rfl)
  rw [lg_entry_eq]
  generalize (lg_sl ([.ref (ad 0), .int (nI (x1)), .int (nI (x2))]) ++ List.replicate (3 - (lg_sl ([.ref (ad 0), .int (nI (x1)), .int (nI (x2))])).length) Slot.unset).toArray = ls at hl ⊢
  have hl : lv_has ls 3 [(0, .ref (ad 0)), (1, .int (nI (x1))), (2, .int (nI (x2)))] := hl
  refine lv_aload_n hx hb dX0_value_0 rfl (lv_at hl 0 rfl) ?_
  refine lv_iload_n hx hb dX0_value_1 rfl (lv_at hl 1 rfl) ?_
  refine zr_calln (zx_runV (As := [.int (nI (x1))]) (rest := []) hx hb hml hts hown (cx_needRegister l dC dI cA cR tr wr ad kd n t z v S P V x1 (by omega)) zv_X0_39 rfl rfl ⟨Nat.le_of_ble_eq_true rfl, Nat.le_of_ble_eq_true rfl⟩ (zr_preV (q := (RX0, TX0, 8)) (ci := 0) (q0 := 0) hP hK rfl rfl) rfl hl.1 rfl (Nat.le_of_ble_eq_true rfl) dX0_value_2 ⟨Nat.zero_le _, Nat.zero_le _⟩) ?_
  refine lv_aload_n hx hb dX0_value_5 rfl (lv_at hl 0 rfl) ?_
  refine lv_iload_n hx hb dX0_value_6 rfl (lv_at hl 2 rfl) ?_
  refine zr_calln (zx_runV (As := [.int (nI (x2))]) (rest := []) hx hb hml hts hown (cx_needPlace l dC dI cA cR tr wr ad kd n t z v S P V x2 (by omega) hn) zv_X0_42 rfl rfl ⟨Nat.le_of_ble_eq_true rfl, Nat.le_of_ble_eq_true rfl⟩ (zr_preV (q := (RX0, TX0, 8)) (ci := 0) (q0 := 0) hP hK rfl rfl) rfl hl.1 rfl (Nat.le_of_ble_eq_true rfl) dX0_value_7 ⟨Nat.zero_le _, Nat.zero_le _⟩) ?_
  refine lv_aload_n hx hb dX0_value_10 rfl (lv_at hl 0 rfl) ?_
  refine zx_get0 (v := .ref (ad 1)) hx hb hts hown hK hP 0 rfl 0 (by decide) zf_X0_11 rfl dX0_value_11 ?_
  refine lv_iload_n hx hb dX0_value_14 rfl (lv_at hl 1 rfl) ?_
  refine zr_aald (y := ad (4 + x1)) hx hb hK hP 1 1 rfl rfl (by omega) (by decide) rfl dX0_value_15 ?_
  refine lv_iload_n hx hb dX0_value_16 rfl (lv_at hl 2 rfl) ?_
  refine zr_iald (y := V x1 x2) hx hb hK hP (4 + x1) 0 (zc_row (by omega)) rfl (by omega) (by decide) rfl dX0_value_17 ?_
  exact W.iret (v := nI (V x1 x2)) hx hb hr (fun t9 h9 _ => ⟨rfl, h9⟩) (fun q h => by cases h) dX0_value_18
set_option maxHeartbeats 4000000 in
set_option maxRecDepth 100000 in
/-- order of no unit -/
theorem cx_order0 (l : Launch) (dC : Nat → ClassId) (dI : Nat → Nat → Nat) (cA cR : ClassId) (tr : List (ClassId × FieldType)) (wr : va_W) (ad : Nat → Nat) (kd n t z v : Nat) (S : Nat → Int32) (P : Nat → Nat) (V : Nat → Nat → Nat) (x1 : Nat) (hx1 : x1 < 16) (hn0 : 4 ≤ n) (hn : n ≤ 32) (ht : 1 < t) (ht2 : t ≤ 193) (hV : ∀ r i, r < 16 → i < n → V r i < t) (hz : zq_zc (V x1) n ≠ 0) : Met l yX0_order wzX0_order (k2_rm 2 48) (zr_pre (dC, dI) zz_cl ((cA, .int) :: (cR, .array .int) :: tr) (zc_w cA cR ad kd n t z v S P V ++ wr) [.ref (ad 0), .int (nI (x1))]) (k2_QcV (.int (nI 0))) 0 0 (fun _ => False) := by
  refine Met.ofW (cc := cX0_order) (maxL := 3) (ret := (some .int)) (by decide) rfl ?_
  intro p e s m args below meth c s₁ B hml hv
  obtain ⟨rfl, hP, hK⟩ := hv
  have hx := B.exec
  have hb := B.bytes
  have hr := B.returns
  have hts := atoms_spec (ws := wzX0_order) B.pre
  have hown : s.vm.findClass RX0 = some m.cls := findClass_of_methodNamed B.named
  have hlocks := B.notSynchronized
  have hl := lv_entry ([.ref (ad 0), .int (nI (x1))]) (n := 3) (Nat.le_of_ble_eq_true rfl)
  rw [lg_entry_eq]
  generalize (lg_sl ([.ref (ad 0), .int (nI (x1))]) ++ List.replicate (3 - (lg_sl ([.ref (ad 0), .int (nI (x1))])).length) Slot.unset).toArray = ls at hl ⊢
  have hl : lv_has ls 3 [(0, .ref (ad 0)), (1, .int (nI (x1)))] := hl
  have hzl := zq_zc_le (V x1) n
  refine lv_aload_n hx hb dX0_order_0 rfl (lv_at hl 0 rfl) ?_
  refine lv_iload_n hx hb dX0_order_1 rfl (lv_at hl 1 rfl) ?_
  refine zr_calln (zx_runV (As := [.int (nI (x1))]) (rest := []) hx hb hml hts hown (cx_needRegister l dC dI cA cR tr wr ad kd n t z v S P V x1 (by omega)) zv_X0_39 rfl rfl ⟨Nat.le_of_ble_eq_true rfl, Nat.le_of_ble_eq_true rfl⟩ (zr_preV (q := (RX0, TX0, 8)) (ci := 0) (q0 := 0) hP hK rfl rfl) rfl hl.1 rfl (Nat.le_of_ble_eq_true rfl) dX0_order_2 ⟨Nat.zero_le _, Nat.zero_le _⟩) ?_
  refine lv_aload_n hx hb dX0_order_5 rfl (lv_at hl 0 rfl) ?_
  refine lv_aload_n hx hb dX0_order_6 rfl (lv_at hl 0 rfl) ?_
  refine zx_get0 (v := .ref (ad 1)) hx hb hts hown hK hP 0 rfl 0 (by decide) zf_X0_11 rfl dX0_order_7 ?_
  refine lv_iload_n hx hb dX0_order_10 rfl (lv_at hl 1 rfl) ?_
  refine zr_aald (y := ad (4 + x1)) hx hb hK hP 1 1 rfl rfl (by omega) (by decide) rfl dX0_order_11 ?_
  refine zr_callq (zx_runV (As := [.ref (ad (4 + x1))]) (rest := []) hx hb hml hts hown (cx_zeros l dC dI cA cR tr wr ad kd n t z v S P V (4 + x1) (ad (4 + x1)) (zq_I (V x1)) (V x1) (zc_row (by omega)) (fun _ _ => rfl) hn (fun j hj => Nat.lt_trans (hV x1 j (by omega) hj) (by omega))) zv_X0_73 rfl rfl ⟨Nat.le_of_ble_eq_true rfl, Nat.le_of_ble_eq_true rfl⟩ (zr_preV (q := (RX0, TX0, 8)) (ci := 0) (q0 := 0) hP hK rfl rfl) rfl hl.1 rfl (Nat.le_of_ble_eq_true rfl) dX0_order_12 ⟨Nat.zero_le _, Nat.zero_le _⟩) ?_
  refine zr_ifle (tgt := 20) hx hb dX0_order_15 (by decide) (by omega) (fun hno9 => absurd hno9 (by omega)) (fun _ => ?_)
  refine lv_iconst (v := nI 0) hx hb dX0_order_18 (by decide) ?_
  exact W.iret (v := nI 0) hx hb hr (fun t9 h9 _ => ⟨rfl, h9⟩) (fun q h => by cases h) dX0_order_19
set_option maxHeartbeats 4000000 in
set_option maxRecDepth 100000 in
/-- order of a unit -/
theorem cx_order (l : Launch) (dC : Nat → ClassId) (dI : Nat → Nat → Nat) (cA cR : ClassId) (tr : List (ClassId × FieldType)) (wr : va_W) (ad : Nat → Nat) (kd n t z v : Nat) (S : Nat → Int32) (P : Nat → Nat) (V : Nat → Nat → Nat) (x1 : Nat) (hx1 : x1 < 16) (hn0 : 4 ≤ n) (hn : n ≤ 32) (ht : 1 < t) (ht2 : t ≤ 193) (hV : ∀ r i, r < 16 → i < n → V r i < t) (hz : zq_zc (V x1) n = 0) (m0 : Nat) (hm1 : 1 ≤ m0) (hmt : m0 ≤ t - 1) (hlt : ∀ j, 1 ≤ j → j < m0 → ¬ (∀ i, i < n → V x1 i ^ j % t = 1)) (hend : m0 = t - 1 ∨ (∀ i, i < n → V x1 i ^ m0 % t = 1)) : Met l yX0_order wzX0_order (k2_rm 2 48) (zr_pre (dC, dI) zz_cl ((cA, .int) :: (cR, .array .int) :: tr) (zc_w cA cR ad kd n t z v S P V ++ wr) [.ref (ad 0), .int (nI (x1))]) (k2_QcV (.int (nI m0))) 0 0 (fun _ => False) := by
  refine Met.ofW (cc := cX0_order) (maxL := 3) (ret := (some .int)) (by decide) rfl ?_
  intro p e s m args below meth c s₁ B hml hv
  obtain ⟨rfl, hP, hK⟩ := hv
  have hx := B.exec
  have hb := B.bytes
  have hr := B.returns
  have hts := atoms_spec (ws := wzX0_order) B.pre
  have hown : s.vm.findClass RX0 = some m.cls := findClass_of_methodNamed B.named
  have hlocks := B.notSynchronized
  have hl := lv_entry ([.ref (ad 0), .int (nI (x1))]) (n := 3) (Nat.le_of_ble_eq_true rfl)
  rw [lg_entry_eq]
  generalize (lg_sl ([.ref (ad 0), .int (nI (x1))]) ++ List.replicate (3 - (lg_sl ([.ref (ad 0), .int (nI (x1))])).length) Slot.unset).toArray = ls at hl ⊢
  have hl : lv_has ls 3 [(0, .ref (ad 0)), (1, .int (nI (x1)))] := hl
  refine lv_aload_n hx hb dX0_order_0 rfl (lv_at hl 0 rfl) ?_
  refine lv_iload_n hx hb dX0_order_1 rfl (lv_at hl 1 rfl) ?_
  refine zr_calln (zx_runV (As := [.int (nI (x1))]) (rest := []) hx hb hml hts hown (cx_needRegister l dC dI cA cR tr wr ad kd n t z v S P V x1 (by omega)) zv_X0_39 rfl rfl ⟨Nat.le_of_ble_eq_true rfl, Nat.le_of_ble_eq_true rfl⟩ (zr_preV (q := (RX0, TX0, 8)) (ci := 0) (q0 := 0) hP hK rfl rfl) rfl hl.1 rfl (Nat.le_of_ble_eq_true rfl) dX0_order_2 ⟨Nat.zero_le _, Nat.zero_le _⟩) ?_
  refine lv_aload_n hx hb dX0_order_5 rfl (lv_at hl 0 rfl) ?_
  refine lv_aload_n hx hb dX0_order_6 rfl (lv_at hl 0 rfl) ?_
  refine zx_get0 (v := .ref (ad 1)) hx hb hts hown hK hP 0 rfl 0 (by decide) zf_X0_11 rfl dX0_order_7 ?_
  refine lv_iload_n hx hb dX0_order_10 rfl (lv_at hl 1 rfl) ?_
  refine zr_aald (y := ad (4 + x1)) hx hb hK hP 1 1 rfl rfl (by omega) (by decide) rfl dX0_order_11 ?_
  refine zr_callq (zx_runV (As := [.ref (ad (4 + x1))]) (rest := []) hx hb hml hts hown (cx_zeros l dC dI cA cR tr wr ad kd n t z v S P V (4 + x1) (ad (4 + x1)) (zq_I (V x1)) (V x1) (zc_row (by omega)) (fun _ _ => rfl) hn (fun j hj => Nat.lt_trans (hV x1 j (by omega) hj) (by omega))) zv_X0_73 rfl rfl ⟨Nat.le_of_ble_eq_true rfl, Nat.le_of_ble_eq_true rfl⟩ (zr_preV (q := (RX0, TX0, 8)) (ci := 0) (q0 := 0) hP hK rfl rfl) rfl hl.1 rfl (Nat.le_of_ble_eq_true rfl) dX0_order_12 ⟨Nat.zero_le _, Nat.zero_le _⟩) ?_
  refine zr_ifle (tgt := 20) hx hb dX0_order_15 (by decide) (by omega) (fun _ => ?_) (fun hno9 => absurd hno9 (by omega))
  refine lv_iconst (v := nI 1) hx hb dX0_order_20 (by decide) ?_
  refine lv_istore_n (lv' := [(2, .int (nI (1))), (0, .ref (ad 0)), (1, .int (nI (x1)))]) hx hb dX0_order_21 rfl hl (by decide) rfl (fun ls hl => ?_)
  have loop : ∀ (d i : Nat), i + d = m0 → 1 ≤ i → ∀ ls, lv_has ls 3 [(0, .ref (ad 0)), (1, .int (nI (x1))), (2, .int (nI (i)))] → W p l e (headSpec wzX0_order (k2_rm 2 48)).room s m ([.ref (ad 0), .int (nI (x1))] : List Value).toArray below meth c s.heap [] 0 0 (MQ below (k2_QcV (.int (nI m0))) ([.ref (ad 0), .int (nI (x1))] : List Value).toArray s 0 0 (fun _ => False)) (F0 m 22 ls []) := by
    intro d
    induction d with
    | zero =>
      intro i hi hv0 ls hl
      have hi : i = m0 := by omega
      subst hi
      refine lv_iload_n hx hb dX0_order_22 rfl (lv_at hl 2 rfl) ?_
      refine lv_aload_n hx hb dX0_order_23 rfl (lv_at hl 0 rfl) ?_
      refine zx_get0 (v := .int (nI (t))) hx hb hts hown hK hP 0 rfl 5 (by decide) zf_X0_49 rfl dX0_order_24 ?_
      refine lv_iconst (v := nI 1) hx hb dX0_order_27 (by decide) ?_
      refine zr_isub hx hb dX0_order_28 (by omega) ?_
      refine zr_ige (tgt := 52) hx hb dX0_order_29 (by decide) (by omega) (by omega) (fun hge => ?_) (fun hlt2 => ?_)
      · refine lv_iload_n hx hb dX0_order_52 rfl (lv_at hl 2 rfl) ?_
        exact W.iret (v := nI i) hx hb hr (fun t9 h9 _ => ⟨rfl, h9⟩) (fun q h => by cases h) dX0_order_53
      · refine lv_aload_n hx hb dX0_order_32 rfl (lv_at hl 0 rfl) ?_
        refine lv_aload_n hx hb dX0_order_33 rfl (lv_at hl 0 rfl) ?_
        refine zx_get0 (v := .ref (ad 1)) hx hb hts hown hK hP 0 rfl 0 (by decide) zf_X0_11 rfl dX0_order_34 ?_
        refine lv_iload_n hx hb dX0_order_37 rfl (lv_at hl 1 rfl) ?_
        refine zr_aald (y := ad (4 + x1)) hx hb hK hP 1 1 rfl rfl (by omega) (by decide) rfl dX0_order_38 ?_
        refine lv_iload_n hx hb dX0_order_39 rfl (lv_at hl 2 rfl) ?_
        refine zr_callq (zx_runV (As := [.ref (ad (4 + x1)), .int (nI (i))]) (rest := []) hx hb hml hts hown (cx_isOne l dC dI cA cR tr wr ad kd n t z v S P V (4 + x1) (ad (4 + x1)) (zq_I (V x1)) (V x1) (zc_row (by omega)) (fun _ _ => rfl) hn i (by omega) ht ht2 (fun j hj => hV x1 j (by omega) hj)) zv_X0_100 rfl rfl ⟨Nat.le_of_ble_eq_true rfl, Nat.le_of_ble_eq_true rfl⟩ (zr_preV (q := (RX0, TX0, 8)) (ci := 0) (q0 := 0) hP hK rfl rfl) rfl hl.1 rfl (Nat.le_of_ble_eq_true rfl) dX0_order_40 ⟨Nat.zero_le _, Nat.zero_le _⟩) ?_
        refine zr_ifne (tgt := 52) hx hb dX0_order_43 (by decide) zq_yn_b (fun _ => ?_) (fun hno9 => absurd hno9 (fun hh => hend.elim (fun hh2 => by omega) (fun hh2 => by rw [zq_yn_1 hh2] at hh; cases hh)))
        refine lv_iload_n hx hb dX0_order_52 rfl (lv_at hl 2 rfl) ?_
        exact W.iret (v := nI i) hx hb hr (fun t9 h9 _ => ⟨rfl, h9⟩) (fun q h => by cases h) dX0_order_53
    | succ d ih =>
      intro i hi hv0 ls hl
      refine lv_iload_n hx hb dX0_order_22 rfl (lv_at hl 2 rfl) ?_
      refine lv_aload_n hx hb dX0_order_23 rfl (lv_at hl 0 rfl) ?_
      refine zx_get0 (v := .int (nI (t))) hx hb hts hown hK hP 0 rfl 5 (by decide) zf_X0_49 rfl dX0_order_24 ?_
      refine lv_iconst (v := nI 1) hx hb dX0_order_27 (by decide) ?_
      refine zr_isub hx hb dX0_order_28 (by omega) ?_
      refine zr_ige (tgt := 52) hx hb dX0_order_29 (by decide) (by omega) (by omega) (fun hno9 => absurd hno9 (by omega)) (fun _ => ?_)
      refine lv_aload_n hx hb dX0_order_32 rfl (lv_at hl 0 rfl) ?_
      refine lv_aload_n hx hb dX0_order_33 rfl (lv_at hl 0 rfl) ?_
      refine zx_get0 (v := .ref (ad 1)) hx hb hts hown hK hP 0 rfl 0 (by decide) zf_X0_11 rfl dX0_order_34 ?_
      refine lv_iload_n hx hb dX0_order_37 rfl (lv_at hl 1 rfl) ?_
      refine zr_aald (y := ad (4 + x1)) hx hb hK hP 1 1 rfl rfl (by omega) (by decide) rfl dX0_order_38 ?_
      refine lv_iload_n hx hb dX0_order_39 rfl (lv_at hl 2 rfl) ?_
      refine zr_callq (zx_runV (As := [.ref (ad (4 + x1)), .int (nI (i))]) (rest := []) hx hb hml hts hown (cx_isOne l dC dI cA cR tr wr ad kd n t z v S P V (4 + x1) (ad (4 + x1)) (zq_I (V x1)) (V x1) (zc_row (by omega)) (fun _ _ => rfl) hn i (by omega) ht ht2 (fun j hj => hV x1 j (by omega) hj)) zv_X0_100 rfl rfl ⟨Nat.le_of_ble_eq_true rfl, Nat.le_of_ble_eq_true rfl⟩ (zr_preV (q := (RX0, TX0, 8)) (ci := 0) (q0 := 0) hP hK rfl rfl) rfl hl.1 rfl (Nat.le_of_ble_eq_true rfl) dX0_order_40 ⟨Nat.zero_le _, Nat.zero_le _⟩) ?_
      refine zr_ifne (tgt := 52) hx hb dX0_order_43 (by decide) zq_yn_b (fun hno9 => absurd hno9 (fun hh => hh (zq_yn_0 (hlt i (by omega) (by omega))))) (fun _ => ?_)
      refine zr_iinc (k := 2) (lv' := [(2, .int (nI (i + 1))), (0, .ref (ad 0)), (1, .int (nI (x1)))]) hx hb dX0_order_46 hl rfl (by decide) rfl (fun ls hl => ?_)
      refine lv_goto (tgt := 22) hx hb dX0_order_49 (by decide) ?_
      exact ih (i + 1) (by omega) (by omega) ls (lv_sub hl [1, 2, 0] rfl)
  exact loop (m0 - 1) 1 (by omega) (Nat.le_refl _) ls (lv_sub hl [1, 2, 0] rfl)
set_option maxHeartbeats 4000000 in
set_option maxRecDepth 100000 in
/-- about(a, 0) -/
theorem cx_about0 (l : Launch) (dC : Nat → ClassId) (dI : Nat → Nat → Nat) (cA cR : ClassId) (tr : List (ClassId × FieldType)) (wr : va_W) (ad : Nat → Nat) (kd n t z v : Nat) (S : Nat → Int32) (P : Nat → Nat) (V : Nat → Nat → Nat) (x1 : Nat) (hx1 : x1 < 16) (hn0 : 4 ≤ n) (hn : n ≤ 32) (ht : 1 < t) (ht2 : t ≤ 193) (hV : ∀ r i, r < 16 → i < n → V r i < t)  : Met l yX0_about wzX0_about (k2_rm 4 90) (zr_pre (dC, dI) zz_cl ((cA, .int) :: (cR, .array .int) :: tr) (zc_w cA cR ad kd n t z v S P V ++ wr) [.ref (ad 0), .int (nI (x1)), .int (nI (0))]) (k2_QcV (.int (nI (zq_pr t (V x1) n)))) 0 0 (fun _ => False) := by
  refine Met.ofW (cc := cX0_about) (maxL := 3) (ret := (some .int)) (by decide) rfl ?_
  intro p e s m args below meth c s₁ B hml hv
  obtain ⟨rfl, hP, hK⟩ := hv
  have hx := B.exec
  have hb := B.bytes
  have hr := B.returns
  have hts := atoms_spec (ws := wzX0_about) B.pre
  have hown : s.vm.findClass RX0 = some m.cls := findClass_of_methodNamed B.named
  have hlocks := B.notSynchronized
  have hl := lv_entry ([.ref (ad 0), .int (nI (x1)), .int (nI (0))]) (n := 3) (Nat.le_of_ble_eq_true rfl)
  rw [lg_entry_eq]
  generalize (lg_sl ([.ref (ad 0), .int (nI (x1)), .int (nI (0))]) ++ List.replicate (3 - (lg_sl ([.ref (ad 0), .int (nI (x1)), .int (nI (0))])).length) Slot.unset).toArray = ls at hl ⊢
  have hl : lv_has ls 3 [(0, .ref (ad 0)), (1, .int (nI (x1))), (2, .int (nI (0)))] := hl
  refine lv_aload_n hx hb dX0_about_0 rfl (lv_at hl 0 rfl) ?_
  refine lv_iload_n hx hb dX0_about_1 rfl (lv_at hl 1 rfl) ?_
  refine zr_calln (zx_runV (As := [.int (nI (x1))]) (rest := []) hx hb hml hts hown (cx_needRegister l dC dI cA cR tr wr ad kd n t z v S P V x1 (by omega)) zv_X0_39 rfl rfl ⟨Nat.le_of_ble_eq_true rfl, Nat.le_of_ble_eq_true rfl⟩ (zr_preV (q := (RX0, TX0, 8)) (ci := 0) (q0 := 0) hP hK rfl rfl) rfl hl.1 rfl (Nat.le_of_ble_eq_true rfl) dX0_about_2 ⟨Nat.zero_le _, Nat.zero_le _⟩) ?_
  refine lv_iload_n hx hb dX0_about_5 rfl (lv_at hl 2 rfl) ?_
  refine lv_tableIn (tgt := 44) (off := 38) hx hb dX0_about_6 (by decide) (by decide) (by decide) (by decide) ?_
  refine lv_aload_n hx hb dX0_about_44 rfl (lv_at hl 0 rfl) ?_
  refine lv_aload_n hx hb dX0_about_45 rfl (lv_at hl 0 rfl) ?_
  refine zx_get0 (v := .ref (ad 1)) hx hb hts hown hK hP 0 rfl 0 (by decide) zf_X0_11 rfl dX0_about_46 ?_
  refine lv_iload_n hx hb dX0_about_49 rfl (lv_at hl 1 rfl) ?_
  refine zr_aald (y := ad (4 + x1)) hx hb hK hP 1 1 rfl rfl (by omega) (by decide) rfl dX0_about_50 ?_
  refine zr_callq (zx_runV (As := [.ref (ad (4 + x1))]) (rest := []) hx hb hml hts hown (cx_product l dC dI cA cR tr wr ad kd n t z v S P V (4 + x1) (ad (4 + x1)) (zq_I (V x1)) (V x1) (zc_row (by omega)) (fun _ _ => rfl) hn ht ht2 (fun j hj => hV x1 j (by omega) hj)) zv_X0_104 rfl rfl ⟨Nat.le_of_ble_eq_true rfl, Nat.le_of_ble_eq_true rfl⟩ (zr_preV (q := (RX0, TX0, 8)) (ci := 0) (q0 := 0) hP hK rfl rfl) rfl hl.1 rfl (Nat.le_of_ble_eq_true rfl) dX0_about_51 ⟨Nat.zero_le _, Nat.zero_le _⟩) ?_
  exact W.iret (v := nI (zq_pr t (V x1) n)) hx hb hr (fun t9 h9 _ => ⟨rfl, h9⟩) (fun q h => by cases h) dX0_about_54
set_option maxHeartbeats 4000000 in
set_option maxRecDepth 100000 in
/-- about(a, 1) -/
theorem cx_about1 (l : Launch) (dC : Nat → ClassId) (dI : Nat → Nat → Nat) (cA cR : ClassId) (tr : List (ClassId × FieldType)) (wr : va_W) (ad : Nat → Nat) (kd n t z v : Nat) (S : Nat → Int32) (P : Nat → Nat) (V : Nat → Nat → Nat) (x1 : Nat) (hx1 : x1 < 16) (hn0 : 4 ≤ n) (hn : n ≤ 32) (ht : 1 < t) (ht2 : t ≤ 193) (hV : ∀ r i, r < 16 → i < n → V r i < t)  : Met l yX0_about wzX0_about (k2_rm 4 90) (zr_pre (dC, dI) zz_cl ((cA, .int) :: (cR, .array .int) :: tr) (zc_w cA cR ad kd n t z v S P V ++ wr) [.ref (ad 0), .int (nI (x1)), .int (nI (1))]) (k2_QcV (.int (nI (zq_ns n (V x1) % t)))) 0 0 (fun _ => False) := by
  refine Met.ofW (cc := cX0_about) (maxL := 3) (ret := (some .int)) (by decide) rfl ?_
  intro p e s m args below meth c s₁ B hml hv
  obtain ⟨rfl, hP, hK⟩ := hv
  have hx := B.exec
  have hb := B.bytes
  have hr := B.returns
  have hts := atoms_spec (ws := wzX0_about) B.pre
  have hown : s.vm.findClass RX0 = some m.cls := findClass_of_methodNamed B.named
  have hlocks := B.notSynchronized
  have hl := lv_entry ([.ref (ad 0), .int (nI (x1)), .int (nI (1))]) (n := 3) (Nat.le_of_ble_eq_true rfl)
  rw [lg_entry_eq]
  generalize (lg_sl ([.ref (ad 0), .int (nI (x1)), .int (nI (1))]) ++ List.replicate (3 - (lg_sl ([.ref (ad 0), .int (nI (x1)), .int (nI (1))])).length) Slot.unset).toArray = ls at hl ⊢
  have hl : lv_has ls 3 [(0, .ref (ad 0)), (1, .int (nI (x1))), (2, .int (nI (1)))] := hl
  refine lv_aload_n hx hb dX0_about_0 rfl (lv_at hl 0 rfl) ?_
  refine lv_iload_n hx hb dX0_about_1 rfl (lv_at hl 1 rfl) ?_
  refine zr_calln (zx_runV (As := [.int (nI (x1))]) (rest := []) hx hb hml hts hown (cx_needRegister l dC dI cA cR tr wr ad kd n t z v S P V x1 (by omega)) zv_X0_39 rfl rfl ⟨Nat.le_of_ble_eq_true rfl, Nat.le_of_ble_eq_true rfl⟩ (zr_preV (q := (RX0, TX0, 8)) (ci := 0) (q0 := 0) hP hK rfl rfl) rfl hl.1 rfl (Nat.le_of_ble_eq_true rfl) dX0_about_2 ⟨Nat.zero_le _, Nat.zero_le _⟩) ?_
  refine lv_iload_n hx hb dX0_about_5 rfl (lv_at hl 2 rfl) ?_
  refine lv_tableIn (tgt := 55) (off := 49) hx hb dX0_about_6 (by decide) (by decide) (by decide) (by decide) ?_
  refine lv_aload_n hx hb dX0_about_55 rfl (lv_at hl 0 rfl) ?_
  refine lv_aload_n hx hb dX0_about_56 rfl (lv_at hl 0 rfl) ?_
  refine zx_get0 (v := .ref (ad 1)) hx hb hts hown hK hP 0 rfl 0 (by decide) zf_X0_11 rfl dX0_about_57 ?_
  refine lv_iload_n hx hb dX0_about_60 rfl (lv_at hl 1 rfl) ?_
  refine zr_aald (y := ad (4 + x1)) hx hb hK hP 1 1 rfl rfl (by omega) (by decide) rfl dX0_about_61 ?_
  refine zr_callq (zx_runV (As := [.ref (ad (4 + x1))]) (rest := []) hx hb hml hts hown (cx_sum l dC dI cA cR tr wr ad kd n t z v S P V (4 + x1) (ad (4 + x1)) (zq_I (V x1)) (V x1) (zc_row (by omega)) (fun _ _ => rfl) hn ht ht2 (fun j hj => hV x1 j (by omega) hj)) zv_X0_107 rfl rfl ⟨Nat.le_of_ble_eq_true rfl, Nat.le_of_ble_eq_true rfl⟩ (zr_preV (q := (RX0, TX0, 8)) (ci := 0) (q0 := 0) hP hK rfl rfl) rfl hl.1 rfl (Nat.le_of_ble_eq_true rfl) dX0_about_62 ⟨Nat.zero_le _, Nat.zero_le _⟩) ?_
  exact W.iret (v := nI (zq_ns n (V x1) % t)) hx hb hr (fun t9 h9 _ => ⟨rfl, h9⟩) (fun q h => by cases h) dX0_about_65
set_option maxHeartbeats 4000000 in
set_option maxRecDepth 100000 in
/-- about(a, 2) -/
theorem cx_about2 (l : Launch) (dC : Nat → ClassId) (dI : Nat → Nat → Nat) (cA cR : ClassId) (tr : List (ClassId × FieldType)) (wr : va_W) (ad : Nat → Nat) (kd n t z v : Nat) (S : Nat → Int32) (P : Nat → Nat) (V : Nat → Nat → Nat) (x1 : Nat) (hx1 : x1 < 16) (hn0 : 4 ≤ n) (hn : n ≤ 32) (ht : 1 < t) (ht2 : t ≤ 193) (hV : ∀ r i, r < 16 → i < n → V r i < t)  : Met l yX0_about wzX0_about (k2_rm 4 90) (zr_pre (dC, dI) zz_cl ((cA, .int) :: (cR, .array .int) :: tr) (zc_w cA cR ad kd n t z v S P V ++ wr) [.ref (ad 0), .int (nI (x1)), .int (nI (2))]) (k2_QcV (.int (nI (zq_zc (V x1) n)))) 0 0 (fun _ => False) := by
  refine Met.ofW (cc := cX0_about) (maxL := 3) (ret := (some .int)) (by decide) rfl ?_
  intro p e s m args below meth c s₁ B hml hv
  obtain ⟨rfl, hP, hK⟩ := hv
  have hx := B.exec
  have hb := B.bytes
  have hr := B.returns
  have hts := atoms_spec (ws := wzX0_about) B.pre
  have hown : s.vm.findClass RX0 = some m.cls := findClass_of_methodNamed B.named
  have hlocks := B.notSynchronized
  have hl := lv_entry ([.ref (ad 0), .int (nI (x1)), .int (nI (2))]) (n := 3) (Nat.le_of_ble_eq_true rfl)
  rw [lg_entry_eq]
  generalize (lg_sl ([.ref (ad 0), .int (nI (x1)), .int (nI (2))]) ++ List.replicate (3 - (lg_sl ([.ref (ad 0), .int (nI (x1)), .int (nI (2))])).length) Slot.unset).toArray = ls at hl ⊢
  have hl : lv_has ls 3 [(0, .ref (ad 0)), (1, .int (nI (x1))), (2, .int (nI (2)))] := hl
  refine lv_aload_n hx hb dX0_about_0 rfl (lv_at hl 0 rfl) ?_
  refine lv_iload_n hx hb dX0_about_1 rfl (lv_at hl 1 rfl) ?_
  refine zr_calln (zx_runV (As := [.int (nI (x1))]) (rest := []) hx hb hml hts hown (cx_needRegister l dC dI cA cR tr wr ad kd n t z v S P V x1 (by omega)) zv_X0_39 rfl rfl ⟨Nat.le_of_ble_eq_true rfl, Nat.le_of_ble_eq_true rfl⟩ (zr_preV (q := (RX0, TX0, 8)) (ci := 0) (q0 := 0) hP hK rfl rfl) rfl hl.1 rfl (Nat.le_of_ble_eq_true rfl) dX0_about_2 ⟨Nat.zero_le _, Nat.zero_le _⟩) ?_
  refine lv_iload_n hx hb dX0_about_5 rfl (lv_at hl 2 rfl) ?_
  refine lv_tableIn (tgt := 66) (off := 60) hx hb dX0_about_6 (by decide) (by decide) (by decide) (by decide) ?_
  refine lv_aload_n hx hb dX0_about_66 rfl (lv_at hl 0 rfl) ?_
  refine lv_aload_n hx hb dX0_about_67 rfl (lv_at hl 0 rfl) ?_
  refine zx_get0 (v := .ref (ad 1)) hx hb hts hown hK hP 0 rfl 0 (by decide) zf_X0_11 rfl dX0_about_68 ?_
  refine lv_iload_n hx hb dX0_about_71 rfl (lv_at hl 1 rfl) ?_
  refine zr_aald (y := ad (4 + x1)) hx hb hK hP 1 1 rfl rfl (by omega) (by decide) rfl dX0_about_72 ?_
  refine zr_callq (zx_runV (As := [.ref (ad (4 + x1))]) (rest := []) hx hb hml hts hown (cx_zeros l dC dI cA cR tr wr ad kd n t z v S P V (4 + x1) (ad (4 + x1)) (zq_I (V x1)) (V x1) (zc_row (by omega)) (fun _ _ => rfl) hn (fun j hj => Nat.lt_trans (hV x1 j (by omega) hj) (by omega))) zv_X0_73 rfl rfl ⟨Nat.le_of_ble_eq_true rfl, Nat.le_of_ble_eq_true rfl⟩ (zr_preV (q := (RX0, TX0, 8)) (ci := 0) (q0 := 0) hP hK rfl rfl) rfl hl.1 rfl (Nat.le_of_ble_eq_true rfl) dX0_about_73 ⟨Nat.zero_le _, Nat.zero_le _⟩) ?_
  exact W.iret (v := nI (zq_zc (V x1) n)) hx hb hr (fun t9 h9 _ => ⟨rfl, h9⟩) (fun q h => by cases h) dX0_about_76
set_option maxHeartbeats 4000000 in
set_option maxRecDepth 100000 in
/-- about(a, 3) -/
theorem cx_about3 (l : Launch) (dC : Nat → ClassId) (dI : Nat → Nat → Nat) (cA cR : ClassId) (tr : List (ClassId × FieldType)) (wr : va_W) (ad : Nat → Nat) (kd n t z v : Nat) (S : Nat → Int32) (P : Nat → Nat) (V : Nat → Nat → Nat) (x1 : Nat) (hx1 : x1 < 16) (hn0 : 4 ≤ n) (hn : n ≤ 32) (ht : 1 < t) (ht2 : t ≤ 193) (hV : ∀ r i, r < 16 → i < n → V r i < t)  : Met l yX0_about wzX0_about (k2_rm 4 90) (zr_pre (dC, dI) zz_cl ((cA, .int) :: (cR, .array .int) :: tr) (zc_w cA cR ad kd n t z v S P V ++ wr) [.ref (ad 0), .int (nI (x1)), .int (nI (3))]) (k2_QcV (.int (nI (zq_dv (V x1) n)))) 0 0 (fun _ => False) := by
  refine Met.ofW (cc := cX0_about) (maxL := 3) (ret := (some .int)) (by decide) rfl ?_
  intro p e s m args below meth c s₁ B hml hv
  obtain ⟨rfl, hP, hK⟩ := hv
  have hx := B.exec
  have hb := B.bytes
  have hr := B.returns
  have hts := atoms_spec (ws := wzX0_about) B.pre
  have hown : s.vm.findClass RX0 = some m.cls := findClass_of_methodNamed B.named
  have hlocks := B.notSynchronized
  have hl := lv_entry ([.ref (ad 0), .int (nI (x1)), .int (nI (3))]) (n := 3) (Nat.le_of_ble_eq_true rfl)
  rw [lg_entry_eq]
  generalize (lg_sl ([.ref (ad 0), .int (nI (x1)), .int (nI (3))]) ++ List.replicate (3 - (lg_sl ([.ref (ad 0), .int (nI (x1)), .int (nI (3))])).length) Slot.unset).toArray = ls at hl ⊢
  have hl : lv_has ls 3 [(0, .ref (ad 0)), (1, .int (nI (x1))), (2, .int (nI (3)))] := hl
  refine lv_aload_n hx hb dX0_about_0 rfl (lv_at hl 0 rfl) ?_
  refine lv_iload_n hx hb dX0_about_1 rfl (lv_at hl 1 rfl) ?_
  refine zr_calln (zx_runV (As := [.int (nI (x1))]) (rest := []) hx hb hml hts hown (cx_needRegister l dC dI cA cR tr wr ad kd n t z v S P V x1 (by omega)) zv_X0_39 rfl rfl ⟨Nat.le_of_ble_eq_true rfl, Nat.le_of_ble_eq_true rfl⟩ (zr_preV (q := (RX0, TX0, 8)) (ci := 0) (q0 := 0) hP hK rfl rfl) rfl hl.1 rfl (Nat.le_of_ble_eq_true rfl) dX0_about_2 ⟨Nat.zero_le _, Nat.zero_le _⟩) ?_
  refine lv_iload_n hx hb dX0_about_5 rfl (lv_at hl 2 rfl) ?_
  refine lv_tableIn (tgt := 77) (off := 71) hx hb dX0_about_6 (by decide) (by decide) (by decide) (by decide) ?_
  refine lv_aload_n hx hb dX0_about_77 rfl (lv_at hl 0 rfl) ?_
  refine lv_aload_n hx hb dX0_about_78 rfl (lv_at hl 0 rfl) ?_
  refine zx_get0 (v := .ref (ad 1)) hx hb hts hown hK hP 0 rfl 0 (by decide) zf_X0_11 rfl dX0_about_79 ?_
  refine lv_iload_n hx hb dX0_about_82 rfl (lv_at hl 1 rfl) ?_
  refine zr_aald (y := ad (4 + x1)) hx hb hK hP 1 1 rfl rfl (by omega) (by decide) rfl dX0_about_83 ?_
  refine zr_callq (zx_runV (As := [.ref (ad (4 + x1))]) (rest := []) hx hb hml hts hown (cx_differentValues l dC dI cA cR tr wr ad kd n t z v S P V (4 + x1) (ad (4 + x1)) (zq_I (V x1)) (V x1) (zc_row (by omega)) (fun _ _ => rfl) hn (fun j hj => Nat.lt_trans (hV x1 j (by omega) hj) (by omega))) zv_X0_110 rfl rfl ⟨Nat.le_of_ble_eq_true rfl, Nat.le_of_ble_eq_true rfl⟩ (zr_preV (q := (RX0, TX0, 8)) (ci := 0) (q0 := 0) hP hK rfl rfl) rfl hl.1 rfl (Nat.le_of_ble_eq_true rfl) dX0_about_84 ⟨Nat.zero_le _, Nat.zero_le _⟩) ?_
  exact W.iret (v := nI (zq_dv (V x1) n)) hx hb hr (fun t9 h9 _ => ⟨rfl, h9⟩) (fun q h => by cases h) dX0_about_87
set_option maxHeartbeats 4000000 in
set_option maxRecDepth 100000 in
/-- about(a, 4) -/
theorem cx_about4 (l : Launch) (dC : Nat → ClassId) (dI : Nat → Nat → Nat) (cA cR : ClassId) (tr : List (ClassId × FieldType)) (wr : va_W) (ad : Nat → Nat) (kd n t z v : Nat) (S : Nat → Int32) (P : Nat → Nat) (V : Nat → Nat → Nat) (x1 : Nat) (hx1 : x1 < 16) (hn0 : 4 ≤ n) (hn : n ≤ 32) (ht : 1 < t) (ht2 : t ≤ 193) (hV : ∀ r i, r < 16 → i < n → V r i < t) (hPt : ∀ j, j < 2 * n → P j < t) (hvt : v < t) (d0 : Nat) (hd0 : d0 ≤ n) (hz : ∀ j, d0 ≤ j → j < n → zq_cc n t v P (V x1) j = 0) (hnz : d0 = 0 ∨ zq_cc n t v P (V x1) (d0 - 1) ≠ 0) : Met l yX0_about wzX0_about (k2_rm 4 90) (zr_pre (dC, dI) zz_cl ((cA, .int) :: (cR, .array .int) :: tr) (zc_w cA cR ad kd n t z v S P V ++ wr) [.ref (ad 0), .int (nI (x1)), .int (nI (4))]) (k2_QcV (.int (nI d0 + (-1)))) 0 0 (fun _ => False) := by
  refine Met.ofW (cc := cX0_about) (maxL := 3) (ret := (some .int)) (by decide) rfl ?_
  intro p e s m args below meth c s₁ B hml hv
  obtain ⟨rfl, hP, hK⟩ := hv
  have hx := B.exec
  have hb := B.bytes
  have hr := B.returns
  have hts := atoms_spec (ws := wzX0_about) B.pre
  have hown : s.vm.findClass RX0 = some m.cls := findClass_of_methodNamed B.named
  have hlocks := B.notSynchronized
  have hl := lv_entry ([.ref (ad 0), .int (nI (x1)), .int (nI (4))]) (n := 3) (Nat.le_of_ble_eq_true rfl)
  rw [lg_entry_eq]
  generalize (lg_sl ([.ref (ad 0), .int (nI (x1)), .int (nI (4))]) ++ List.replicate (3 - (lg_sl ([.ref (ad 0), .int (nI (x1)), .int (nI (4))])).length) Slot.unset).toArray = ls at hl ⊢
  have hl : lv_has ls 3 [(0, .ref (ad 0)), (1, .int (nI (x1))), (2, .int (nI (4)))] := hl
  refine lv_aload_n hx hb dX0_about_0 rfl (lv_at hl 0 rfl) ?_
  refine lv_iload_n hx hb dX0_about_1 rfl (lv_at hl 1 rfl) ?_
  refine zr_calln (zx_runV (As := [.int (nI (x1))]) (rest := []) hx hb hml hts hown (cx_needRegister l dC dI cA cR tr wr ad kd n t z v S P V x1 (by omega)) zv_X0_39 rfl rfl ⟨Nat.le_of_ble_eq_true rfl, Nat.le_of_ble_eq_true rfl⟩ (zr_preV (q := (RX0, TX0, 8)) (ci := 0) (q0 := 0) hP hK rfl rfl) rfl hl.1 rfl (Nat.le_of_ble_eq_true rfl) dX0_about_2 ⟨Nat.zero_le _, Nat.zero_le _⟩) ?_
  refine lv_iload_n hx hb dX0_about_5 rfl (lv_at hl 2 rfl) ?_
  refine lv_tableIn (tgt := 88) (off := 82) hx hb dX0_about_6 (by decide) (by decide) (by decide) (by decide) ?_
  refine lv_aload_n hx hb dX0_about_88 rfl (lv_at hl 0 rfl) ?_
  refine lv_aload_n hx hb dX0_about_89 rfl (lv_at hl 0 rfl) ?_
  refine zx_get0 (v := .ref (ad 1)) hx hb hts hown hK hP 0 rfl 0 (by decide) zf_X0_11 rfl dX0_about_90 ?_
  refine lv_iload_n hx hb dX0_about_93 rfl (lv_at hl 1 rfl) ?_
  refine zr_aald (y := ad (4 + x1)) hx hb hK hP 1 1 rfl rfl (by omega) (by decide) rfl dX0_about_94 ?_
  refine zr_callq (zx_runV (As := [.ref (ad (4 + x1))]) (rest := []) hx hb hml hts hown (cx_degree l dC dI cA cR tr wr ad kd n t z v S P V (4 + x1) (ad (4 + x1)) (zq_I (V x1)) (V x1) (zc_row (by omega)) (fun _ _ => rfl) hn (by omega) ht ht2 (fun j hj => hV x1 j (by omega) hj) hPt hvt d0 hd0 hz hnz) zv_X0_113 rfl rfl ⟨Nat.le_of_ble_eq_true rfl, Nat.le_of_ble_eq_true rfl⟩ (zr_preV (q := (RX0, TX0, 8)) (ci := 0) (q0 := 0) hP hK rfl rfl) rfl hl.1 rfl (Nat.le_of_ble_eq_true rfl) dX0_about_95 ⟨Nat.zero_le _, Nat.zero_le _⟩) ?_
  exact W.iret (v := nI d0 + (-1)) hx hb hr (fun t9 h9 _ => ⟨rfl, h9⟩) (fun q h => by cases h) dX0_about_98
set_option maxHeartbeats 4000000 in
set_option maxRecDepth 100000 in
/-- about(a, 5) -/
theorem cx_about5 (l : Launch) (dC : Nat → ClassId) (dI : Nat → Nat → Nat) (cA cR : ClassId) (tr : List (ClassId × FieldType)) (wr : va_W) (ad : Nat → Nat) (kd n t z v : Nat) (S : Nat → Int32) (P : Nat → Nat) (V : Nat → Nat → Nat) (x1 : Nat) (hx1 : x1 < 16) (hn0 : 4 ≤ n) (hn : n ≤ 32) (ht : 1 < t) (ht2 : t ≤ 193) (hV : ∀ r i, r < 16 → i < n → V r i < t) (m0 : Nat) (hm1 : 1 ≤ m0) (hmn : m0 ≤ n) (hlt : ∀ j, 1 ≤ j → j < m0 → ¬ (∀ i, i < n → V x1 (zq_td n (3 ^ j % (2 * n)) i) = V x1 i)) (hend : m0 = n ∨ (∀ i, i < n → V x1 (zq_td n (3 ^ m0 % (2 * n)) i) = V x1 i)) : Met l yX0_about wzX0_about (k2_rm 4 90) (zr_pre (dC, dI) zz_cl ((cA, .int) :: (cR, .array .int) :: tr) (zc_w cA cR ad kd n t z v S P V ++ wr) [.ref (ad 0), .int (nI (x1)), .int (nI (5))]) (k2_QcV (.int (nI (m0)))) 0 0 (fun _ => False) := by
  refine Met.ofW (cc := cX0_about) (maxL := 3) (ret := (some .int)) (by decide) rfl ?_
  intro p e s m args below meth c s₁ B hml hv
  obtain ⟨rfl, hP, hK⟩ := hv
  have hx := B.exec
  have hb := B.bytes
  have hr := B.returns
  have hts := atoms_spec (ws := wzX0_about) B.pre
  have hown : s.vm.findClass RX0 = some m.cls := findClass_of_methodNamed B.named
  have hlocks := B.notSynchronized
  have hl := lv_entry ([.ref (ad 0), .int (nI (x1)), .int (nI (5))]) (n := 3) (Nat.le_of_ble_eq_true rfl)
  rw [lg_entry_eq]
  generalize (lg_sl ([.ref (ad 0), .int (nI (x1)), .int (nI (5))]) ++ List.replicate (3 - (lg_sl ([.ref (ad 0), .int (nI (x1)), .int (nI (5))])).length) Slot.unset).toArray = ls at hl ⊢
  have hl : lv_has ls 3 [(0, .ref (ad 0)), (1, .int (nI (x1))), (2, .int (nI (5)))] := hl
  refine lv_aload_n hx hb dX0_about_0 rfl (lv_at hl 0 rfl) ?_
  refine lv_iload_n hx hb dX0_about_1 rfl (lv_at hl 1 rfl) ?_
  refine zr_calln (zx_runV (As := [.int (nI (x1))]) (rest := []) hx hb hml hts hown (cx_needRegister l dC dI cA cR tr wr ad kd n t z v S P V x1 (by omega)) zv_X0_39 rfl rfl ⟨Nat.le_of_ble_eq_true rfl, Nat.le_of_ble_eq_true rfl⟩ (zr_preV (q := (RX0, TX0, 8)) (ci := 0) (q0 := 0) hP hK rfl rfl) rfl hl.1 rfl (Nat.le_of_ble_eq_true rfl) dX0_about_2 ⟨Nat.zero_le _, Nat.zero_le _⟩) ?_
  refine lv_iload_n hx hb dX0_about_5 rfl (lv_at hl 2 rfl) ?_
  refine lv_tableIn (tgt := 99) (off := 93) hx hb dX0_about_6 (by decide) (by decide) (by decide) (by decide) ?_
  refine lv_aload_n hx hb dX0_about_99 rfl (lv_at hl 0 rfl) ?_
  refine lv_aload_n hx hb dX0_about_100 rfl (lv_at hl 0 rfl) ?_
  refine zx_get0 (v := .ref (ad 1)) hx hb hts hown hK hP 0 rfl 0 (by decide) zf_X0_11 rfl dX0_about_101 ?_
  refine lv_iload_n hx hb dX0_about_104 rfl (lv_at hl 1 rfl) ?_
  refine zr_aald (y := ad (4 + x1)) hx hb hK hP 1 1 rfl rfl (by omega) (by decide) rfl dX0_about_105 ?_
  refine zr_callq (zx_runV (As := [.ref (ad (4 + x1))]) (rest := []) hx hb hml hts hown (cx_turnsByThree l dC dI cA cR tr wr ad kd n t z v S P V (4 + x1) (ad (4 + x1)) (zq_I (V x1)) (V x1) (zc_row (by omega)) (fun _ _ => rfl) hn hn0 (fun j hj => Nat.lt_trans (hV x1 j (by omega) hj) (by omega)) m0 hm1 hmn hlt hend) zv_X0_116 rfl rfl ⟨Nat.le_of_ble_eq_true rfl, Nat.le_of_ble_eq_true rfl⟩ (zr_preV (q := (RX0, TX0, 8)) (ci := 0) (q0 := 0) hP hK rfl rfl) rfl hl.1 rfl (Nat.le_of_ble_eq_true rfl) dX0_about_106 ⟨Nat.zero_le _, Nat.zero_le _⟩) ?_
  exact W.iret (v := nI (m0)) hx hb hr (fun t9 h9 _ => ⟨rfl, h9⟩) (fun q h => by cases h) dX0_about_109
set_option maxHeartbeats 4000000 in
set_option maxRecDepth 100000 in
/-- about, no such question throws -/
theorem cb_about_w (l : Launch) (dC : Nat → ClassId) (dI : Nat → Nat → Nat) (cA cR : ClassId) (tr : List (ClassId × FieldType)) (wr : va_W) (ad : Nat → Nat) (kd n t z v : Nat) (S : Nat → Int32) (P : Nat → Nat) (V : Nat → Nat → Nat) (A : Nat → Prop) (hlt9 : l.stackTraces = false) (x1 : Nat) (hx1 : x1 < 16) (x2 : Int32) (hbad : x2.toInt < 0 ∨ 5 < x2.toInt) : vx_Met l yX0_about wzX0_about (zx_rm 6 84) (zx_pre (dC, dI) zz_cl ((cA, .int) :: (cR, .array .int) :: tr) (zc_w cA cR ad kd n t z v S P V ++ wr) A [.ref (ad 0), .int (nI (x1)), .int (x2)]) zx_no (zx_K zx_IA) 1 6 (fun _ => False) := by
  refine vx_ofW (cc := cX0_about) (maxL := 3) (ret := (some .int)) (by decide) rfl ?_
  intro p e s m args below meth c s₁ B hml hxt hv
  obtain ⟨rfl, hP, hK, henv⟩ := hv
  have hx := B.exec
  have hb := B.bytes
  have hr := B.returns
  have hts := atoms_spec (ws := wzX0_about) B.pre
  have hown : s.vm.findClass RX0 = some m.cls := findClass_of_methodNamed B.named
  have hlocks := B.notSynchronized
  have hl := lv_entry ([.ref (ad 0), .int (nI (x1)), .int (x2)]) (n := 3) (Nat.le_of_ble_eq_true rfl)
  rw [lg_entry_eq]
  generalize (lg_sl ([.ref (ad 0), .int (nI (x1)), .int (x2)]) ++ List.replicate (3 - (lg_sl ([.ref (ad 0), .int (nI (x1)), .int (x2)])).length) Slot.unset).toArray = ls at hl ⊢
  have hl : lv_has ls 3 [(0, .ref (ad 0)), (1, .int (nI (x1))), (2, .int (x2))] := hl
  refine lv_aload_n hx hb dX0_about_0 rfl (lv_at hl 0 rfl) ?_
  refine lv_iload_n hx hb dX0_about_1 rfl (lv_at hl 1 rfl) ?_
  refine zr_calln (zx_runV (As := [.int (nI (x1))]) (rest := []) hx hb hml hts hown (cx_needRegister l dC dI cA cR tr wr ad kd n t z v S P V x1 (by omega)) zv_X0_39 rfl rfl ⟨Nat.le_of_ble_eq_true rfl, Nat.le_of_ble_eq_true rfl⟩ (zr_preV (q := (RX0, TX0, 8)) (ci := 0) (q0 := 0) hP hK rfl rfl) rfl hl.1 rfl (Nat.le_of_ble_eq_true rfl) dX0_about_2 ⟨Nat.zero_le _, Nat.zero_le _⟩) ?_
  refine lv_iload_n hx hb dX0_about_5 rfl (lv_at hl 2 rfl) ?_
  refine lv_tableOut (tgt := 110) hx hb dX0_about_6 hbad (by decide) ?_
  exact zx_throw (text := "no such question") hx hb hlt9 hts hown henv va_S.rf zx_okIA (by decide) (hl.1.trans hml.symm) dX0_about_110 dX0_about_113 dX0_about_114 dX0_about_116 dX0_about_119 (fun x h => (hxt x h).elim) (Nat.le_of_ble_eq_true rfl) (Nat.le_of_ble_eq_true rfl) (Nat.le_of_ble_eq_true rfl) (Nat.le_of_ble_eq_true rfl) hlocks (fun t9 _ hz hk => ⟨rfl, hz, hk⟩) (fun z h => nomatch h) (Nat.le_refl _) (Nat.le_refl _)
set_option maxHeartbeats 4000000 in
set_option maxRecDepth 100000 in
/-- X0_same -/
theorem cx_same (l : Launch) (dC : Nat → ClassId) (dI : Nat → Nat → Nat) (cA cR : ClassId) (tr : List (ClassId × FieldType)) (wr : va_W) (ad : Nat → Nat) (kd n t z v : Nat) (S : Nat → Int32) (P : Nat → Nat) (V : Nat → Nat → Nat) (x1 : Nat) (hx1 : x1 < 16) (x2 : Nat) (hx2 : x2 < 16) (hn0 : 4 ≤ n) (hn : n ≤ 32) (ht : 1 < t) (ht2 : t ≤ 193) (hV : ∀ r i, r < 16 → i < n → V r i < t) : Met l yX0_same wzX0_same (k2_rm 1 21) (zr_pre (dC, dI) zz_cl ((cA, .int) :: (cR, .array .int) :: tr) (zc_w cA cR ad kd n t z v S P V ++ wr) [.ref (ad 0), .int (nI (x1)), .int (nI (x2))]) (k2_QcV (.int (nI (zq_yn (∀ i, i < n → V x1 i = V x2 i))))) 0 0 (fun _ => False) := by
  refine Met.ofW (cc := cX0_same) (maxL := 4) (ret := (some .boolean)) (by decide) rfl ?_
  intro p e s m args below meth c s₁ B hml hv
  obtain ⟨rfl, hP, hK⟩ := hv
  have hx := B.exec
  have hb := B.bytes
  have hr := B.returns
  have hts := atoms_spec (ws := wzX0_same) B.pre
  have hown : s.vm.findClass RX0 = some m.cls := findClass_of_methodNamed B.named
  have hlocks := B.notSynchronized
  have hl := lv_entry ([.ref (ad 0), .int (nI (x1)), .int (nI (x2))]) (n := 4) (Nat.le_of_ble_eq_true rfl)
  rw [lg_entry_eq]
  generalize (lg_sl ([.ref (ad 0), .int (nI (x1)), .int (nI (x2))]) ++ List.replicate (4 - (lg_sl ([.ref (ad 0), .int (nI (x1)), .int (nI (x2))])).length) Slot.unset).toArray = ls at hl ⊢
  have hl : lv_has ls 4 [(0, .ref (ad 0)), (1, .int (nI (x1))), (2, .int (nI (x2)))] := hl
  refine lv_aload_n hx hb dX0_same_0 rfl (lv_at hl 0 rfl) ?_
  refine lv_iload_n hx hb dX0_same_1 rfl (lv_at hl 1 rfl) ?_
  refine zr_calln (zx_runV (As := [.int (nI (x1))]) (rest := []) hx hb hml hts hown (cx_needRegister l dC dI cA cR tr wr ad kd n t z v S P V x1 (by omega)) zv_X0_39 rfl rfl ⟨Nat.le_of_ble_eq_true rfl, Nat.le_of_ble_eq_true rfl⟩ (zr_preV (q := (RX0, TX0, 8)) (ci := 0) (q0 := 0) hP hK rfl rfl) rfl hl.1 rfl (Nat.le_of_ble_eq_true rfl) dX0_same_2 ⟨Nat.zero_le _, Nat.zero_le _⟩) ?_
  refine lv_aload_n hx hb dX0_same_5 rfl (lv_at hl 0 rfl) ?_
  refine lv_iload_n hx hb dX0_same_6 rfl (lv_at hl 2 rfl) ?_
  refine zr_calln (zx_runV (As := [.int (nI (x2))]) (rest := []) hx hb hml hts hown (cx_needRegister l dC dI cA cR tr wr ad kd n t z v S P V x2 (by omega)) zv_X0_39 rfl rfl ⟨Nat.le_of_ble_eq_true rfl, Nat.le_of_ble_eq_true rfl⟩ (zr_preV (q := (RX0, TX0, 8)) (ci := 0) (q0 := 0) hP hK rfl rfl) rfl hl.1 rfl (Nat.le_of_ble_eq_true rfl) dX0_same_7 ⟨Nat.zero_le _, Nat.zero_le _⟩) ?_
  refine lv_iconst (v := nI 0) hx hb dX0_same_10 (by decide) ?_
  refine lv_istore_n (lv' := [(3, .int (nI (0))), (0, .ref (ad 0)), (1, .int (nI (x1))), (2, .int (nI (x2)))]) hx hb dX0_same_11 rfl hl (by decide) rfl (fun ls hl => ?_)
  have loop : ∀ (d i : Nat), i + d = n → (∀ k, k < i → V x1 k = V x2 k) → ∀ ls, lv_has ls 4 [(0, .ref (ad 0)), (1, .int (nI (x1))), (2, .int (nI (x2))), (3, .int (nI (i)))] → W p l e (headSpec wzX0_same (k2_rm 1 21)).room s m ([.ref (ad 0), .int (nI (x1)), .int (nI (x2))] : List Value).toArray below meth c s.heap [] 0 0 (MQ below (k2_QcV (.int (nI (zq_yn (∀ i, i < n → V x1 i = V x2 i))))) ([.ref (ad 0), .int (nI (x1)), .int (nI (x2))] : List Value).toArray s 0 0 (fun _ => False)) (F0 m 12 ls []) := by
    intro d
    induction d with
    | zero =>
      intro i hi hv0 ls hl
      have hi : i = n := by omega
      refine lv_iload_n hx hb dX0_same_12 rfl (lv_at hl 3 rfl) ?_
      refine lv_aload_n hx hb dX0_same_13 rfl (lv_at hl 0 rfl) ?_
      refine zx_get0 (v := .int (nI (n))) hx hb hts hown hK hP 0 rfl 4 (by decide) zf_X0_58 rfl dX0_same_14 ?_
      refine zr_ige (tgt := 47) hx hb dX0_same_17 (by decide) (by omega) (by omega) (fun _ => ?_) (fun hno9 => absurd hno9 (by omega))
      refine lv_iconst (v := nI 1) hx hb dX0_same_47 (by decide) ?_
      rw [zq_yn_1 (fun k hk => hv0 k (by omega))]
      exact W.zret (v := nI 1) hx hb hr rfl (fun t9 h9 _ => ⟨rfl, h9⟩) (fun q h => by cases h) dX0_same_48
    | succ d ih =>
      intro i hi hv0 ls hl
      have h1 := hV x1 i (by omega) (by omega)
      have h2 := hV x2 i (by omega) (by omega)
      refine lv_iload_n hx hb dX0_same_12 rfl (lv_at hl 3 rfl) ?_
      refine lv_aload_n hx hb dX0_same_13 rfl (lv_at hl 0 rfl) ?_
      refine zx_get0 (v := .int (nI (n))) hx hb hts hown hK hP 0 rfl 4 (by decide) zf_X0_58 rfl dX0_same_14 ?_
      refine zr_ige (tgt := 47) hx hb dX0_same_17 (by decide) (by omega) (by omega) (fun hno9 => absurd hno9 (by omega)) (fun _ => ?_)
      refine lv_aload_n hx hb dX0_same_20 rfl (lv_at hl 0 rfl) ?_
      refine zx_get0 (v := .ref (ad 1)) hx hb hts hown hK hP 0 rfl 0 (by decide) zf_X0_11 rfl dX0_same_21 ?_
      refine lv_iload_n hx hb dX0_same_24 rfl (lv_at hl 1 rfl) ?_
      refine zr_aald (y := ad (4 + x1)) hx hb hK hP 1 1 rfl rfl (by omega) (by decide) rfl dX0_same_25 ?_
      refine lv_iload_n hx hb dX0_same_26 rfl (lv_at hl 3 rfl) ?_
      refine zr_iald (y := V x1 i) hx hb hK hP (4 + x1) 0 (zc_row (by omega)) rfl (by omega) (by decide) rfl dX0_same_27 ?_
      refine lv_aload_n hx hb dX0_same_28 rfl (lv_at hl 0 rfl) ?_
      refine zx_get0 (v := .ref (ad 1)) hx hb hts hown hK hP 0 rfl 0 (by decide) zf_X0_11 rfl dX0_same_29 ?_
      refine lv_iload_n hx hb dX0_same_32 rfl (lv_at hl 2 rfl) ?_
      refine zr_aald (y := ad (4 + x2)) hx hb hK hP 1 1 rfl rfl (by omega) (by decide) rfl dX0_same_33 ?_
      refine lv_iload_n hx hb dX0_same_34 rfl (lv_at hl 3 rfl) ?_
      refine zr_iald (y := V x2 i) hx hb hK hP (4 + x2) 0 (zc_row (by omega)) rfl (by omega) (by decide) rfl dX0_same_35 ?_
      refine zr_ieq (tgt := 41) hx hb dX0_same_36 (by decide) (by omega) (by omega) (fun heq => ?_) (fun hne => ?_)
      · refine zr_iinc (k := 3) (lv' := [(3, .int (nI (i + 1))), (0, .ref (ad 0)), (1, .int (nI (x1))), (2, .int (nI (x2)))]) hx hb dX0_same_41 hl rfl (by decide) rfl (fun ls hl => ?_)
        refine lv_goto (tgt := 12) hx hb dX0_same_44 (by decide) ?_
        exact ih (i + 1) (by omega) (lt_s hv0 heq) ls (lv_sub hl [1, 2, 3, 0] rfl)
      · refine lv_iconst (v := nI 0) hx hb dX0_same_39 (by decide) ?_
        rw [zq_yn_0 (fun hh => hne (hh i (by omega)))]
        exact W.zret (v := nI 0) hx hb hr rfl (fun t9 h9 _ => ⟨rfl, h9⟩) (fun q h => by cases h) dX0_same_40
  exact loop n 0 (by omega) lt_0 ls (lv_sub hl [1, 2, 3, 0] rfl)
set_option maxHeartbeats 4000000 in
set_option maxRecDepth 100000 in
/-- X0_divides -/
theorem cx_divides (l : Launch) (dC : Nat → ClassId) (dI : Nat → Nat → Nat) (cA cR : ClassId) (tr : List (ClassId × FieldType)) (wr : va_W) (ad : Nat → Nat) (kd n t z v : Nat) (S : Nat → Int32) (P : Nat → Nat) (V : Nat → Nat → Nat) (x1 : Nat) (hx1 : x1 < 16) (x2 : Nat) (hx2 : x2 < 16) (hn0 : 4 ≤ n) (hn : n ≤ 32) (ht : 1 < t) (ht2 : t ≤ 193) (hV : ∀ r i, r < 16 → i < n → V r i < t) : Met l yX0_divides wzX0_divides (k2_rm 1 21) (zr_pre (dC, dI) zz_cl ((cA, .int) :: (cR, .array .int) :: tr) (zc_w cA cR ad kd n t z v S P V ++ wr) [.ref (ad 0), .int (nI (x1)), .int (nI (x2))]) (k2_QcV (.int (nI (zq_yn (∀ i, i < n → (V x2 i = 0 → V x1 i = 0)))))) 0 0 (fun _ => False) := by
  refine Met.ofW (cc := cX0_divides) (maxL := 4) (ret := (some .boolean)) (by decide) rfl ?_
  intro p e s m args below meth c s₁ B hml hv
  obtain ⟨rfl, hP, hK⟩ := hv
  have hx := B.exec
  have hb := B.bytes
  have hr := B.returns
  have hts := atoms_spec (ws := wzX0_divides) B.pre
  have hown : s.vm.findClass RX0 = some m.cls := findClass_of_methodNamed B.named
  have hlocks := B.notSynchronized
  have hl := lv_entry ([.ref (ad 0), .int (nI (x1)), .int (nI (x2))]) (n := 4) (Nat.le_of_ble_eq_true rfl)
  rw [lg_entry_eq]
  generalize (lg_sl ([.ref (ad 0), .int (nI (x1)), .int (nI (x2))]) ++ List.replicate (4 - (lg_sl ([.ref (ad 0), .int (nI (x1)), .int (nI (x2))])).length) Slot.unset).toArray = ls at hl ⊢
  have hl : lv_has ls 4 [(0, .ref (ad 0)), (1, .int (nI (x1))), (2, .int (nI (x2)))] := hl
  refine lv_aload_n hx hb dX0_divides_0 rfl (lv_at hl 0 rfl) ?_
  refine lv_iload_n hx hb dX0_divides_1 rfl (lv_at hl 1 rfl) ?_
  refine zr_calln (zx_runV (As := [.int (nI (x1))]) (rest := []) hx hb hml hts hown (cx_needRegister l dC dI cA cR tr wr ad kd n t z v S P V x1 (by omega)) zv_X0_39 rfl rfl ⟨Nat.le_of_ble_eq_true rfl, Nat.le_of_ble_eq_true rfl⟩ (zr_preV (q := (RX0, TX0, 8)) (ci := 0) (q0 := 0) hP hK rfl rfl) rfl hl.1 rfl (Nat.le_of_ble_eq_true rfl) dX0_divides_2 ⟨Nat.zero_le _, Nat.zero_le _⟩) ?_
  refine lv_aload_n hx hb dX0_divides_5 rfl (lv_at hl 0 rfl) ?_
  refine lv_iload_n hx hb dX0_divides_6 rfl (lv_at hl 2 rfl) ?_
  refine zr_calln (zx_runV (As := [.int (nI (x2))]) (rest := []) hx hb hml hts hown (cx_needRegister l dC dI cA cR tr wr ad kd n t z v S P V x2 (by omega)) zv_X0_39 rfl rfl ⟨Nat.le_of_ble_eq_true rfl, Nat.le_of_ble_eq_true rfl⟩ (zr_preV (q := (RX0, TX0, 8)) (ci := 0) (q0 := 0) hP hK rfl rfl) rfl hl.1 rfl (Nat.le_of_ble_eq_true rfl) dX0_divides_7 ⟨Nat.zero_le _, Nat.zero_le _⟩) ?_
  refine lv_iconst (v := nI 0) hx hb dX0_divides_10 (by decide) ?_
  refine lv_istore_n (lv' := [(3, .int (nI (0))), (0, .ref (ad 0)), (1, .int (nI (x1))), (2, .int (nI (x2)))]) hx hb dX0_divides_11 rfl hl (by decide) rfl (fun ls hl => ?_)
  have loop : ∀ (d i : Nat), i + d = n → (∀ k, k < i → (V x2 k = 0 → V x1 k = 0)) → ∀ ls, lv_has ls 4 [(0, .ref (ad 0)), (1, .int (nI (x1))), (2, .int (nI (x2))), (3, .int (nI (i)))] → W p l e (headSpec wzX0_divides (k2_rm 1 21)).room s m ([.ref (ad 0), .int (nI (x1)), .int (nI (x2))] : List Value).toArray below meth c s.heap [] 0 0 (MQ below (k2_QcV (.int (nI (zq_yn (∀ i, i < n → (V x2 i = 0 → V x1 i = 0)))))) ([.ref (ad 0), .int (nI (x1)), .int (nI (x2))] : List Value).toArray s 0 0 (fun _ => False)) (F0 m 12 ls []) := by
    intro d
    induction d with
    | zero =>
      intro i hi hv0 ls hl
      have hi : i = n := by omega
      refine lv_iload_n hx hb dX0_divides_12 rfl (lv_at hl 3 rfl) ?_
      refine lv_aload_n hx hb dX0_divides_13 rfl (lv_at hl 0 rfl) ?_
      refine zx_get0 (v := .int (nI (n))) hx hb hts hown hK hP 0 rfl 4 (by decide) zf_X0_58 rfl dX0_divides_14 ?_
      refine zr_ige (tgt := 50) hx hb dX0_divides_17 (by decide) (by omega) (by omega) (fun _ => ?_) (fun hno9 => absurd hno9 (by omega))
      refine lv_iconst (v := nI 1) hx hb dX0_divides_50 (by decide) ?_
      rw [zq_yn_1 (fun k hk => hv0 k (by omega))]
      exact W.zret (v := nI 1) hx hb hr rfl (fun t9 h9 _ => ⟨rfl, h9⟩) (fun q h => by cases h) dX0_divides_51
    | succ d ih =>
      intro i hi hv0 ls hl
      have h1 := hV x1 i (by omega) (by omega)
      have h2 := hV x2 i (by omega) (by omega)
      refine lv_iload_n hx hb dX0_divides_12 rfl (lv_at hl 3 rfl) ?_
      refine lv_aload_n hx hb dX0_divides_13 rfl (lv_at hl 0 rfl) ?_
      refine zx_get0 (v := .int (nI (n))) hx hb hts hown hK hP 0 rfl 4 (by decide) zf_X0_58 rfl dX0_divides_14 ?_
      refine zr_ige (tgt := 50) hx hb dX0_divides_17 (by decide) (by omega) (by omega) (fun hno9 => absurd hno9 (by omega)) (fun _ => ?_)
      refine lv_aload_n hx hb dX0_divides_20 rfl (lv_at hl 0 rfl) ?_
      refine zx_get0 (v := .ref (ad 1)) hx hb hts hown hK hP 0 rfl 0 (by decide) zf_X0_11 rfl dX0_divides_21 ?_
      refine lv_iload_n hx hb dX0_divides_24 rfl (lv_at hl 2 rfl) ?_
      refine zr_aald (y := ad (4 + x2)) hx hb hK hP 1 1 rfl rfl (by omega) (by decide) rfl dX0_divides_25 ?_
      refine lv_iload_n hx hb dX0_divides_26 rfl (lv_at hl 3 rfl) ?_
      refine zr_iald (y := V x2 i) hx hb hK hP (4 + x2) 0 (zc_row (by omega)) rfl (by omega) (by decide) rfl dX0_divides_27 ?_
      refine zr_ifne (tgt := 44) hx hb dX0_divides_28 (by decide) (by omega) (fun hne => ?_) (fun hz2 => ?_)
      · refine zr_iinc (k := 3) (lv' := [(3, .int (nI (i + 1))), (0, .ref (ad 0)), (1, .int (nI (x1))), (2, .int (nI (x2)))]) hx hb dX0_divides_44 hl rfl (by decide) rfl (fun ls hl => ?_)
        refine lv_goto (tgt := 12) hx hb dX0_divides_47 (by decide) ?_
        exact ih (i + 1) (by omega) (lt_s hv0 (fun h9 => absurd h9 hne)) ls (lv_sub hl [1, 2, 3, 0] rfl)
      · refine lv_aload_n hx hb dX0_divides_31 rfl (lv_at hl 0 rfl) ?_
        refine zx_get0 (v := .ref (ad 1)) hx hb hts hown hK hP 0 rfl 0 (by decide) zf_X0_11 rfl dX0_divides_32 ?_
        refine lv_iload_n hx hb dX0_divides_35 rfl (lv_at hl 1 rfl) ?_
        refine zr_aald (y := ad (4 + x1)) hx hb hK hP 1 1 rfl rfl (by omega) (by decide) rfl dX0_divides_36 ?_
        refine lv_iload_n hx hb dX0_divides_37 rfl (lv_at hl 3 rfl) ?_
        refine zr_iald (y := V x1 i) hx hb hK hP (4 + x1) 0 (zc_row (by omega)) rfl (by omega) (by decide) rfl dX0_divides_38 ?_
        refine zr_ifeq (tgt := 44) hx hb dX0_divides_39 (by decide) (by omega) (fun hz1 => ?_) (fun hn1 => ?_)
        · refine zr_iinc (k := 3) (lv' := [(3, .int (nI (i + 1))), (0, .ref (ad 0)), (1, .int (nI (x1))), (2, .int (nI (x2)))]) hx hb dX0_divides_44 hl rfl (by decide) rfl (fun ls hl => ?_)
          refine lv_goto (tgt := 12) hx hb dX0_divides_47 (by decide) ?_
          exact ih (i + 1) (by omega) (lt_s hv0 (fun _ => hz1)) ls (lv_sub hl [1, 2, 3, 0] rfl)
        · refine lv_iconst (v := nI 0) hx hb dX0_divides_42 (by decide) ?_
          rw [zq_yn_0 (fun hh => hn1 (hh i (by omega) hz2))]
          exact W.zret (v := nI 0) hx hb hr rfl (fun t9 h9 _ => ⟨rfl, h9⟩) (fun q h => by cases h) dX0_divides_43
  exact loop n 0 (by omega) lt_0 ls (lv_sub hl [1, 2, 3, 0] rfl)
set_option maxHeartbeats 4000000 in
set_option maxRecDepth 100000 in
/-- count(0) -/
theorem cx_count0 (l : Launch) (dC : Nat → ClassId) (dI : Nat → Nat → Nat) (cA cR : ClassId) (tr : List (ClassId × FieldType)) (wr : va_W) (ad : Nat → Nat) (kd n t z v : Nat) (S : Nat → Int32) (P : Nat → Nat) (V : Nat → Nat → Nat)  : Met l yX0_count wzX0_count (k2_rm 2 45) (zr_pre (dC, dI) zz_cl ((cA, .int) :: (cR, .array .int) :: tr) (zc_w cA cR ad kd n t z v S P V ++ wr) [.ref (ad 0), .int (nI (0))]) (k2_QcV (.int (nI (kd)))) 0 0 (fun _ => False) := by
  refine Met.ofW (cc := cX0_count) (maxL := 2) (ret := (some .int)) (by decide) rfl ?_
  intro p e s m args below meth c s₁ B hml hv
  obtain ⟨rfl, hP, hK⟩ := hv
  have hx := B.exec
  have hb := B.bytes
  have hr := B.returns
  have hts := atoms_spec (ws := wzX0_count) B.pre
  have hown : s.vm.findClass RX0 = some m.cls := findClass_of_methodNamed B.named
  have hlocks := B.notSynchronized
  have hl := lv_entry ([.ref (ad 0), .int (nI (0))]) (n := 2) (Nat.le_of_ble_eq_true rfl)
  rw [lg_entry_eq]
  generalize (lg_sl ([.ref (ad 0), .int (nI (0))]) ++ List.replicate (2 - (lg_sl ([.ref (ad 0), .int (nI (0))])).length) Slot.unset).toArray = ls at hl ⊢
  have hl : lv_has ls 2 [(0, .ref (ad 0)), (1, .int (nI (0)))] := hl
  refine lv_iload_n hx hb dX0_count_0 rfl (lv_at hl 1 rfl) ?_
  refine lv_tableIn (tgt := 36) (off := 35) hx hb dX0_count_1 (by decide) (by decide) (by decide) (by decide) ?_
  refine lv_aload_n hx hb dX0_count_36 rfl (lv_at hl 0 rfl) ?_
  refine zx_get0 (v := .int (nI (kd))) hx hb hts hown hK hP 0 rfl 3 (by decide) zf_X0_121 rfl dX0_count_37 ?_
  exact W.iret (v := nI (kd)) hx hb hr (fun t9 h9 _ => ⟨rfl, h9⟩) (fun q h => by cases h) dX0_count_40
set_option maxHeartbeats 4000000 in
set_option maxRecDepth 100000 in
/-- count(1) -/
theorem cx_count1 (l : Launch) (dC : Nat → ClassId) (dI : Nat → Nat → Nat) (cA cR : ClassId) (tr : List (ClassId × FieldType)) (wr : va_W) (ad : Nat → Nat) (kd n t z v : Nat) (S : Nat → Int32) (P : Nat → Nat) (V : Nat → Nat → Nat)  : Met l yX0_count wzX0_count (k2_rm 2 45) (zr_pre (dC, dI) zz_cl ((cA, .int) :: (cR, .array .int) :: tr) (zc_w cA cR ad kd n t z v S P V ++ wr) [.ref (ad 0), .int (nI (1))]) (k2_QcV (.int (nI (n)))) 0 0 (fun _ => False) := by
  refine Met.ofW (cc := cX0_count) (maxL := 2) (ret := (some .int)) (by decide) rfl ?_
  intro p e s m args below meth c s₁ B hml hv
  obtain ⟨rfl, hP, hK⟩ := hv
  have hx := B.exec
  have hb := B.bytes
  have hr := B.returns
  have hts := atoms_spec (ws := wzX0_count) B.pre
  have hown : s.vm.findClass RX0 = some m.cls := findClass_of_methodNamed B.named
  have hlocks := B.notSynchronized
  have hl := lv_entry ([.ref (ad 0), .int (nI (1))]) (n := 2) (Nat.le_of_ble_eq_true rfl)
  rw [lg_entry_eq]
  generalize (lg_sl ([.ref (ad 0), .int (nI (1))]) ++ List.replicate (2 - (lg_sl ([.ref (ad 0), .int (nI (1))])).length) Slot.unset).toArray = ls at hl ⊢
  have hl : lv_has ls 2 [(0, .ref (ad 0)), (1, .int (nI (1)))] := hl
  refine lv_iload_n hx hb dX0_count_0 rfl (lv_at hl 1 rfl) ?_
  refine lv_tableIn (tgt := 41) (off := 40) hx hb dX0_count_1 (by decide) (by decide) (by decide) (by decide) ?_
  refine lv_aload_n hx hb dX0_count_41 rfl (lv_at hl 0 rfl) ?_
  refine zx_get0 (v := .int (nI (n))) hx hb hts hown hK hP 0 rfl 4 (by decide) zf_X0_58 rfl dX0_count_42 ?_
  exact W.iret (v := nI (n)) hx hb hr (fun t9 h9 _ => ⟨rfl, h9⟩) (fun q h => by cases h) dX0_count_45
set_option maxHeartbeats 4000000 in
set_option maxRecDepth 100000 in
/-- count(2) -/
theorem cx_count2 (l : Launch) (dC : Nat → ClassId) (dI : Nat → Nat → Nat) (cA cR : ClassId) (tr : List (ClassId × FieldType)) (wr : va_W) (ad : Nat → Nat) (kd n t z v : Nat) (S : Nat → Int32) (P : Nat → Nat) (V : Nat → Nat → Nat)  : Met l yX0_count wzX0_count (k2_rm 2 45) (zr_pre (dC, dI) zz_cl ((cA, .int) :: (cR, .array .int) :: tr) (zc_w cA cR ad kd n t z v S P V ++ wr) [.ref (ad 0), .int (nI (2))]) (k2_QcV (.int (nI (t)))) 0 0 (fun _ => False) := by
  refine Met.ofW (cc := cX0_count) (maxL := 2) (ret := (some .int)) (by decide) rfl ?_
  intro p e s m args below meth c s₁ B hml hv
  obtain ⟨rfl, hP, hK⟩ := hv
  have hx := B.exec
  have hb := B.bytes
  have hr := B.returns
  have hts := atoms_spec (ws := wzX0_count) B.pre
  have hown : s.vm.findClass RX0 = some m.cls := findClass_of_methodNamed B.named
  have hlocks := B.notSynchronized
  have hl := lv_entry ([.ref (ad 0), .int (nI (2))]) (n := 2) (Nat.le_of_ble_eq_true rfl)
  rw [lg_entry_eq]
  generalize (lg_sl ([.ref (ad 0), .int (nI (2))]) ++ List.replicate (2 - (lg_sl ([.ref (ad 0), .int (nI (2))])).length) Slot.unset).toArray = ls at hl ⊢
  have hl : lv_has ls 2 [(0, .ref (ad 0)), (1, .int (nI (2)))] := hl
  refine lv_iload_n hx hb dX0_count_0 rfl (lv_at hl 1 rfl) ?_
  refine lv_tableIn (tgt := 46) (off := 45) hx hb dX0_count_1 (by decide) (by decide) (by decide) (by decide) ?_
  refine lv_aload_n hx hb dX0_count_46 rfl (lv_at hl 0 rfl) ?_
  refine zx_get0 (v := .int (nI (t))) hx hb hts hown hK hP 0 rfl 5 (by decide) zf_X0_49 rfl dX0_count_47 ?_
  exact W.iret (v := nI (t)) hx hb hr (fun t9 h9 _ => ⟨rfl, h9⟩) (fun q h => by cases h) dX0_count_50
set_option maxHeartbeats 4000000 in
set_option maxRecDepth 100000 in
/-- count(3) -/
theorem cx_count3 (l : Launch) (dC : Nat → ClassId) (dI : Nat → Nat → Nat) (cA cR : ClassId) (tr : List (ClassId × FieldType)) (wr : va_W) (ad : Nat → Nat) (kd n t z v : Nat) (S : Nat → Int32) (P : Nat → Nat) (V : Nat → Nat → Nat)  : Met l yX0_count wzX0_count (k2_rm 2 45) (zr_pre (dC, dI) zz_cl ((cA, .int) :: (cR, .array .int) :: tr) (zc_w cA cR ad kd n t z v S P V ++ wr) [.ref (ad 0), .int (nI (3))]) (k2_QcV (.int (nI (z)))) 0 0 (fun _ => False) := by
  refine Met.ofW (cc := cX0_count) (maxL := 2) (ret := (some .int)) (by decide) rfl ?_
  intro p e s m args below meth c s₁ B hml hv
  obtain ⟨rfl, hP, hK⟩ := hv
  have hx := B.exec
  have hb := B.bytes
  have hr := B.returns
  have hts := atoms_spec (ws := wzX0_count) B.pre
  have hown : s.vm.findClass RX0 = some m.cls := findClass_of_methodNamed B.named
  have hlocks := B.notSynchronized
  have hl := lv_entry ([.ref (ad 0), .int (nI (3))]) (n := 2) (Nat.le_of_ble_eq_true rfl)
  rw [lg_entry_eq]
  generalize (lg_sl ([.ref (ad 0), .int (nI (3))]) ++ List.replicate (2 - (lg_sl ([.ref (ad 0), .int (nI (3))])).length) Slot.unset).toArray = ls at hl ⊢
  have hl : lv_has ls 2 [(0, .ref (ad 0)), (1, .int (nI (3)))] := hl
  refine lv_iload_n hx hb dX0_count_0 rfl (lv_at hl 1 rfl) ?_
  refine lv_tableIn (tgt := 51) (off := 50) hx hb dX0_count_1 (by decide) (by decide) (by decide) (by decide) ?_
  refine lv_aload_n hx hb dX0_count_51 rfl (lv_at hl 0 rfl) ?_
  refine zx_get0 (v := .int (nI (z))) hx hb hts hown hK hP 0 rfl 6 (by decide) zf_X0_35 rfl dX0_count_52 ?_
  exact W.iret (v := nI (z)) hx hb hr (fun t9 h9 _ => ⟨rfl, h9⟩) (fun q h => by cases h) dX0_count_55
set_option maxHeartbeats 4000000 in
set_option maxRecDepth 100000 in
/-- count(4) -/
theorem cx_count4 (l : Launch) (dC : Nat → ClassId) (dI : Nat → Nat → Nat) (cA cR : ClassId) (tr : List (ClassId × FieldType)) (wr : va_W) (ad : Nat → Nat) (kd n t z v : Nat) (S : Nat → Int32) (P : Nat → Nat) (V : Nat → Nat → Nat) (hn0 : 4 ≤ n) (hn : n ≤ 32) (ht : 1 < t) (ht2 : t ≤ 193) (hV : ∀ r i, r < 16 → i < n → V r i < t) : Met l yX0_count wzX0_count (k2_rm 2 45) (zr_pre (dC, dI) zz_cl ((cA, .int) :: (cR, .array .int) :: tr) (zc_w cA cR ad kd n t z v S P V ++ wr) [.ref (ad 0), .int (nI (4))]) (k2_QcV (.int (nI (zq_un V n 16)))) 0 0 (fun _ => False) := by
  refine Met.ofW (cc := cX0_count) (maxL := 2) (ret := (some .int)) (by decide) rfl ?_
  intro p e s m args below meth c s₁ B hml hv
  obtain ⟨rfl, hP, hK⟩ := hv
  have hx := B.exec
  have hb := B.bytes
  have hr := B.returns
  have hts := atoms_spec (ws := wzX0_count) B.pre
  have hown : s.vm.findClass RX0 = some m.cls := findClass_of_methodNamed B.named
  have hlocks := B.notSynchronized
  have hl := lv_entry ([.ref (ad 0), .int (nI (4))]) (n := 2) (Nat.le_of_ble_eq_true rfl)
  rw [lg_entry_eq]
  generalize (lg_sl ([.ref (ad 0), .int (nI (4))]) ++ List.replicate (2 - (lg_sl ([.ref (ad 0), .int (nI (4))])).length) Slot.unset).toArray = ls at hl ⊢
  have hl : lv_has ls 2 [(0, .ref (ad 0)), (1, .int (nI (4)))] := hl
  refine lv_iload_n hx hb dX0_count_0 rfl (lv_at hl 1 rfl) ?_
  refine lv_tableIn (tgt := 56) (off := 55) hx hb dX0_count_1 (by decide) (by decide) (by decide) (by decide) ?_
  refine lv_aload_n hx hb dX0_count_56 rfl (lv_at hl 0 rfl) ?_
  refine zr_callq (zx_runV (As := []) (rest := []) hx hb hml hts hown (cx_units l dC dI cA cR tr wr ad kd n t z v S P V hn (fun r i hr hi => Nat.lt_trans (hV r i hr hi) (by omega))) zv_X0_124 rfl rfl ⟨Nat.le_of_ble_eq_true rfl, Nat.le_of_ble_eq_true rfl⟩ (zr_preV (q := (RX0, TX0, 8)) (ci := 0) (q0 := 0) hP hK rfl rfl) rfl hl.1 rfl (Nat.le_of_ble_eq_true rfl) dX0_count_57 ⟨Nat.zero_le _, Nat.zero_le _⟩) ?_
  exact W.iret (v := nI (zq_un V n 16)) hx hb hr (fun t9 h9 _ => ⟨rfl, h9⟩) (fun q h => by cases h) dX0_count_60
set_option maxHeartbeats 4000000 in
set_option maxRecDepth 100000 in
/-- count, no such question -/
theorem cx_countN (l : Launch) (dC : Nat → ClassId) (dI : Nat → Nat → Nat) (cA cR : ClassId) (tr : List (ClassId × FieldType)) (wr : va_W) (ad : Nat → Nat) (kd n t z v : Nat) (S : Nat → Int32) (P : Nat → Nat) (V : Nat → Nat → Nat) (x : Int32) (hx9 : x.toInt < 0 ∨ 4 < x.toInt) : Met l yX0_count wzX0_count (k2_rm 2 45) (zr_pre (dC, dI) zz_cl ((cA, .int) :: (cR, .array .int) :: tr) (zc_w cA cR ad kd n t z v S P V ++ wr) [.ref (ad 0), .int (x)]) (k2_QcV (.int (-1))) 0 0 (fun _ => False) := by
  refine Met.ofW (cc := cX0_count) (maxL := 2) (ret := (some .int)) (by decide) rfl ?_
  intro p e s m args below meth c s₁ B hml hv
  obtain ⟨rfl, hP, hK⟩ := hv
  have hx := B.exec
  have hb := B.bytes
  have hr := B.returns
  have hts := atoms_spec (ws := wzX0_count) B.pre
  have hown : s.vm.findClass RX0 = some m.cls := findClass_of_methodNamed B.named
  have hlocks := B.notSynchronized
  have hl := lv_entry ([.ref (ad 0), .int (x)]) (n := 2) (Nat.le_of_ble_eq_true rfl)
  rw [lg_entry_eq]
  generalize (lg_sl ([.ref (ad 0), .int (x)]) ++ List.replicate (2 - (lg_sl ([.ref (ad 0), .int (x)])).length) Slot.unset).toArray = ls at hl ⊢
  have hl : lv_has ls 2 [(0, .ref (ad 0)), (1, .int (x))] := hl
  refine lv_iload_n hx hb dX0_count_0 rfl (lv_at hl 1 rfl) ?_
  refine lv_tableOut (tgt := 61) hx hb dX0_count_1 hx9 (by decide) ?_
  refine lv_iconst (v := -1) hx hb dX0_count_61 (by decide) ?_
  exact W.iret (v := (-1)) hx hb hr (fun t9 h9 _ => ⟨rfl, h9⟩) (fun q h => by cases h) dX0_count_62
set_option maxHeartbeats 4000000 in
set_option maxRecDepth 100000 in
/-- join, no such operation throws -/
theorem cb_join_op (l : Launch) (dC : Nat → ClassId) (dI : Nat → Nat → Nat) (cA cR : ClassId) (tr : List (ClassId × FieldType)) (wr : va_W) (ad : Nat → Nat) (kd n t z v : Nat) (S : Nat → Int32) (P : Nat → Nat) (V : Nat → Nat → Nat) (A : Nat → Prop) (hlt9 : l.stackTraces = false) (x2 : Int32) (x1 : Nat) (hx1 : x1 < 16) (x3 : Nat) (hx3 : x3 < 16) (x4 : Nat) (hx4 : x4 < 16) (hbad : x2 < 0 ∨ nI 3 < x2) : vx_Met l yX0_join wzX0_join (zx_rm 6 84) (zx_pre (dC, dI) zz_cl ((cA, .int) :: (cR, .array .int) :: tr) (zc_w cA cR ad kd n t z v S P V ++ wr) A [.ref (ad 0), .int (nI (x1)), .int (x2), .int (nI (x3)), .int (nI (x4))]) zx_no (zx_K zx_IA) 1 6 (fun _ => False) := by
  refine vx_ofW (cc := cX0_join) (maxL := 6) (ret := (some .int)) (by decide) rfl ?_
  intro p e s m args below meth c s₁ B hml hxt hv
  obtain ⟨rfl, hP, hK, henv⟩ := hv
  have hx := B.exec
  have hb := B.bytes
  have hr := B.returns
  have hts := atoms_spec (ws := wzX0_join) B.pre
  have hown : s.vm.findClass RX0 = some m.cls := findClass_of_methodNamed B.named
  have hlocks := B.notSynchronized
  have hl := lv_entry ([.ref (ad 0), .int (nI (x1)), .int (x2), .int (nI (x3)), .int (nI (x4))]) (n := 6) (Nat.le_of_ble_eq_true rfl)
  rw [lg_entry_eq]
  generalize (lg_sl ([.ref (ad 0), .int (nI (x1)), .int (x2), .int (nI (x3)), .int (nI (x4))]) ++ List.replicate (6 - (lg_sl ([.ref (ad 0), .int (nI (x1)), .int (x2), .int (nI (x3)), .int (nI (x4))])).length) Slot.unset).toArray = ls at hl ⊢
  have hl : lv_has ls 6 [(0, .ref (ad 0)), (1, .int (nI (x1))), (2, .int (x2)), (3, .int (nI (x3))), (4, .int (nI (x4)))] := hl
  refine lv_aload_n hx hb dX0_join_0 rfl (lv_at hl 0 rfl) ?_
  refine lv_iload_n hx hb dX0_join_1 rfl (lv_at hl 1 rfl) ?_
  refine zr_calln (zx_runV (As := [.int (nI (x1))]) (rest := []) hx hb hml hts hown (cx_needRegister l dC dI cA cR tr wr ad kd n t z v S P V x1 (by omega)) zv_X0_39 rfl rfl ⟨Nat.le_of_ble_eq_true rfl, Nat.le_of_ble_eq_true rfl⟩ (zr_preV (q := (RX0, TX0, 8)) (ci := 0) (q0 := 0) hP hK rfl rfl) rfl hl.1 rfl (Nat.le_of_ble_eq_true rfl) dX0_join_2 ⟨Nat.zero_le _, Nat.zero_le _⟩) ?_
  refine lv_aload_n hx hb dX0_join_5 rfl (lv_at hl 0 rfl) ?_
  refine lv_iload_n hx hb dX0_join_6 rfl (lv_at hl 3 rfl) ?_
  refine zr_calln (zx_runV (As := [.int (nI (x3))]) (rest := []) hx hb hml hts hown (cx_needRegister l dC dI cA cR tr wr ad kd n t z v S P V x3 (by omega)) zv_X0_39 rfl rfl ⟨Nat.le_of_ble_eq_true rfl, Nat.le_of_ble_eq_true rfl⟩ (zr_preV (q := (RX0, TX0, 8)) (ci := 0) (q0 := 0) hP hK rfl rfl) rfl hl.1 rfl (Nat.le_of_ble_eq_true rfl) dX0_join_7 ⟨Nat.zero_le _, Nat.zero_le _⟩) ?_
  refine lv_aload_n hx hb dX0_join_10 rfl (lv_at hl 0 rfl) ?_
  refine lv_iload hx hb dX0_join_11 (lv_at hl 4 rfl) ?_
  refine zr_calln (zx_runV (As := [.int (nI (x4))]) (rest := []) hx hb hml hts hown (cx_needRegister l dC dI cA cR tr wr ad kd n t z v S P V x4 (by omega)) zv_X0_39 rfl rfl ⟨Nat.le_of_ble_eq_true rfl, Nat.le_of_ble_eq_true rfl⟩ (zr_preV (q := (RX0, TX0, 8)) (ci := 0) (q0 := 0) hP hK rfl rfl) rfl hl.1 rfl (Nat.le_of_ble_eq_true rfl) dX0_join_13 ⟨Nat.zero_le _, Nat.zero_le _⟩) ?_
  refine lv_iload_n hx hb dX0_join_16 rfl (lv_at hl 2 rfl) ?_
  refine lv_if_lt (tgt := 25) hx hb dX0_join_17 (by decide) (fun _ => ?_) (fun hn0 => ?_)
  · exact zx_throw (text := "no such operation") hx hb hlt9 hts hown henv va_S.rf zx_okIA (by decide) (hl.1.trans hml.symm) dX0_join_25 dX0_join_28 dX0_join_29 dX0_join_31 dX0_join_34 (fun x h => (hxt x h).elim) (Nat.le_of_ble_eq_true rfl) (Nat.le_of_ble_eq_true rfl) (Nat.le_of_ble_eq_true rfl) (Nat.le_of_ble_eq_true rfl) hlocks (fun t9 _ hz hk => ⟨rfl, hz, hk⟩) (fun z h => nomatch h) (Nat.le_refl _) (Nat.le_refl _)
  · refine lv_iload_n hx hb dX0_join_20 rfl (lv_at hl 2 rfl) ?_
    refine lv_iconst (v := nI 3) hx hb dX0_join_21 (by decide) ?_
    refine lv_icmp_le (tgt := 35) hx hb dX0_join_22 (by decide) (fun hh => absurd hh (hbad.elim (fun h9 => absurd h9 hn0) (fun h9 => Int32.not_le.mpr h9))) (fun _ => ?_)
    exact zx_throw (text := "no such operation") hx hb hlt9 hts hown henv va_S.rf zx_okIA (by decide) (hl.1.trans hml.symm) dX0_join_25 dX0_join_28 dX0_join_29 dX0_join_31 dX0_join_34 (fun x h => (hxt x h).elim) (Nat.le_of_ble_eq_true rfl) (Nat.le_of_ble_eq_true rfl) (Nat.le_of_ble_eq_true rfl) (Nat.le_of_ble_eq_true rfl) hlocks (fun t9 _ hz hk => ⟨rfl, hz, hk⟩) (fun z h => nomatch h) (Nat.le_refl _) (Nat.le_refl _)
set_option maxHeartbeats 4000000 in
set_option maxRecDepth 100000 in
/-- join, a quotient by no unit throws -/
theorem cb_join_u (l : Launch) (dC : Nat → ClassId) (dI : Nat → Nat → Nat) (cA cR : ClassId) (tr : List (ClassId × FieldType)) (wr : va_W) (ad : Nat → Nat) (kd n t z v : Nat) (S : Nat → Int32) (P : Nat → Nat) (V : Nat → Nat → Nat) (A : Nat → Prop) (hlt9 : l.stackTraces = false) (x1 : Nat) (hx1 : x1 < 16) (x3 : Nat) (hx3 : x3 < 16) (x4 : Nat) (hx4 : x4 < 16) (hn0 : 4 ≤ n) (hn : n ≤ 32) (ht : 1 < t) (ht2 : t ≤ 193) (hV : ∀ r i, r < 16 → i < n → V r i < t) (hz : zq_zc (V x4) n ≠ 0) : vx_Met l yX0_join wzX0_join (zx_rm 7 105) (zx_pre (dC, dI) zz_cl ((cA, .int) :: (cR, .array .int) :: tr) (zc_w cA cR ad kd n t z v S P V ++ wr) A [.ref (ad 0), .int (nI (x1)), .int (nI (3)), .int (nI (x3)), .int (nI (x4))]) zx_no (zx_K zx_IS) 1 6 (fun _ => False) := by
  refine vx_ofW (cc := cX0_join) (maxL := 6) (ret := (some .int)) (by decide) rfl ?_
  intro p e s m args below meth c s₁ B hml hxt hv
  obtain ⟨rfl, hP, hK, henv⟩ := hv
  have hx := B.exec
  have hb := B.bytes
  have hr := B.returns
  have hts := atoms_spec (ws := wzX0_join) B.pre
  have hown : s.vm.findClass RX0 = some m.cls := findClass_of_methodNamed B.named
  have hlocks := B.notSynchronized
  have hl := lv_entry ([.ref (ad 0), .int (nI (x1)), .int (nI (3)), .int (nI (x3)), .int (nI (x4))]) (n := 6) (Nat.le_of_ble_eq_true rfl)
  rw [lg_entry_eq]
  generalize (lg_sl ([.ref (ad 0), .int (nI (x1)), .int (nI (3)), .int (nI (x3)), .int (nI (x4))]) ++ List.replicate (6 - (lg_sl ([.ref (ad 0), .int (nI (x1)), .int (nI (3)), .int (nI (x3)), .int (nI (x4))])).length) Slot.unset).toArray = ls at hl ⊢
  have hl : lv_has ls 6 [(0, .ref (ad 0)), (1, .int (nI (x1))), (2, .int (nI (3))), (3, .int (nI (x3))), (4, .int (nI (x4)))] := hl
  refine lv_aload_n hx hb dX0_join_0 rfl (lv_at hl 0 rfl) ?_
  refine lv_iload_n hx hb dX0_join_1 rfl (lv_at hl 1 rfl) ?_
  refine zr_calln (zx_runV (As := [.int (nI (x1))]) (rest := []) hx hb hml hts hown (cx_needRegister l dC dI cA cR tr wr ad kd n t z v S P V x1 (by omega)) zv_X0_39 rfl rfl ⟨Nat.le_of_ble_eq_true rfl, Nat.le_of_ble_eq_true rfl⟩ (zr_preV (q := (RX0, TX0, 8)) (ci := 0) (q0 := 0) hP hK rfl rfl) rfl hl.1 rfl (Nat.le_of_ble_eq_true rfl) dX0_join_2 ⟨Nat.zero_le _, Nat.zero_le _⟩) ?_
  refine lv_aload_n hx hb dX0_join_5 rfl (lv_at hl 0 rfl) ?_
  refine lv_iload_n hx hb dX0_join_6 rfl (lv_at hl 3 rfl) ?_
  refine zr_calln (zx_runV (As := [.int (nI (x3))]) (rest := []) hx hb hml hts hown (cx_needRegister l dC dI cA cR tr wr ad kd n t z v S P V x3 (by omega)) zv_X0_39 rfl rfl ⟨Nat.le_of_ble_eq_true rfl, Nat.le_of_ble_eq_true rfl⟩ (zr_preV (q := (RX0, TX0, 8)) (ci := 0) (q0 := 0) hP hK rfl rfl) rfl hl.1 rfl (Nat.le_of_ble_eq_true rfl) dX0_join_7 ⟨Nat.zero_le _, Nat.zero_le _⟩) ?_
  refine lv_aload_n hx hb dX0_join_10 rfl (lv_at hl 0 rfl) ?_
  refine lv_iload hx hb dX0_join_11 (lv_at hl 4 rfl) ?_
  refine zr_calln (zx_runV (As := [.int (nI (x4))]) (rest := []) hx hb hml hts hown (cx_needRegister l dC dI cA cR tr wr ad kd n t z v S P V x4 (by omega)) zv_X0_39 rfl rfl ⟨Nat.le_of_ble_eq_true rfl, Nat.le_of_ble_eq_true rfl⟩ (zr_preV (q := (RX0, TX0, 8)) (ci := 0) (q0 := 0) hP hK rfl rfl) rfl hl.1 rfl (Nat.le_of_ble_eq_true rfl) dX0_join_13 ⟨Nat.zero_le _, Nat.zero_le _⟩) ?_
  refine lv_iload_n hx hb dX0_join_16 rfl (lv_at hl 2 rfl) ?_
  refine zr_iflt (tgt := 25) hx hb dX0_join_17 (by decide) (by omega) ?_
  refine lv_iload_n hx hb dX0_join_20 rfl (lv_at hl 2 rfl) ?_
  refine lv_iconst (v := nI 3) hx hb dX0_join_21 (by decide) ?_
  refine zr_ile (tgt := 35) hx hb dX0_join_22 (by decide) (by omega) (by omega) (fun _ => ?_) (fun hno9 => absurd hno9 (by omega))
  refine lv_iload_n hx hb dX0_join_35 rfl (lv_at hl 2 rfl) ?_
  refine lv_iconst (v := nI 3) hx hb dX0_join_36 (by decide) ?_
  refine zr_ine (tgt := 46) hx hb dX0_join_37 (by decide) (by omega) (by omega) (fun hno9 => absurd hno9 (by omega)) (fun _ => ?_)
  refine lv_aload_n hx hb dX0_join_40 rfl (lv_at hl 0 rfl) ?_
  refine lv_iload hx hb dX0_join_41 (lv_at hl 4 rfl) ?_
  exact zx_callP (As := [.int (nI (x4))]) (rest := []) hx hb hml hts hown hxt hlocks (cb_needUnit l dC dI cA cR tr wr ad kd n t z v S P V A hlt9 x4 hx4 hn (fun r i hr hi => Nat.lt_trans (hV r i hr hi) (by omega)) hz) zv_X0_66 rfl rfl ⟨Nat.le_of_ble_eq_true rfl, Nat.le_of_ble_eq_true rfl⟩ (zx_preV (q := (RX0, TX0, 8)) (ci := 0) (q0 := 0) hP hK henv va_S.rf rfl rfl) rfl hl.1 rfl (Nat.le_of_ble_eq_true rfl) dX0_join_43 ⟨Nat.le_of_ble_eq_true rfl, Nat.le_of_ble_eq_true rfl⟩
set_option maxHeartbeats 4000000 in
set_option maxRecDepth 100000 in
/-- turn, an even one throws -/
theorem cb_turn_g (l : Launch) (dC : Nat → ClassId) (dI : Nat → Nat → Nat) (cA cR : ClassId) (tr : List (ClassId × FieldType)) (wr : va_W) (ad : Nat → Nat) (kd n t z v : Nat) (S : Nat → Int32) (P : Nat → Nat) (V : Nat → Nat → Nat) (A : Nat → Prop) (hlt9 : l.stackTraces = false) (x1 : Nat) (hx1 : x1 < 16) (x2 : Nat) (hx2 : x2 < 16) (g0 : Int) (h1 : -2147483648 ≤ g0) (h2 : g0 < 2147483648) (hev : g0 % 2 = 0) : vx_Met l yX0_turn wzX0_turn (zx_rm 6 84) (zx_pre (dC, dI) zz_cl ((cA, .int) :: (cR, .array .int) :: tr) (zc_w cA cR ad kd n t z v S P V ++ wr) A [.ref (ad 0), .int (nI (x1)), .int (nI (x2)), .int (zi_I (g0))]) zx_no (zx_K zx_IA) 1 6 (fun _ => False) := by
  refine vx_ofW (cc := cX0_turn) (maxL := 6) (ret := (some .int)) (by decide) rfl ?_
  intro p e s m args below meth c s₁ B hml hxt hv
  obtain ⟨rfl, hP, hK, henv⟩ := hv
  have hx := B.exec
  have hb := B.bytes
  have hr := B.returns
  have hts := atoms_spec (ws := wzX0_turn) B.pre
  have hown : s.vm.findClass RX0 = some m.cls := findClass_of_methodNamed B.named
  have hlocks := B.notSynchronized
  have hl := lv_entry ([.ref (ad 0), .int (nI (x1)), .int (nI (x2)), .int (zi_I (g0))]) (n := 6) (Nat.le_of_ble_eq_true rfl)
  rw [lg_entry_eq]
  generalize (lg_sl ([.ref (ad 0), .int (nI (x1)), .int (nI (x2)), .int (zi_I (g0))]) ++ List.replicate (6 - (lg_sl ([.ref (ad 0), .int (nI (x1)), .int (nI (x2)), .int (zi_I (g0))])).length) Slot.unset).toArray = ls at hl ⊢
  have hl : lv_has ls 6 [(0, .ref (ad 0)), (1, .int (nI (x1))), (2, .int (nI (x2))), (3, .int (zi_I (g0)))] := hl
  refine lv_aload_n hx hb dX0_turn_0 rfl (lv_at hl 0 rfl) ?_
  refine lv_iload_n hx hb dX0_turn_1 rfl (lv_at hl 1 rfl) ?_
  refine zr_calln (zx_runV (As := [.int (nI (x1))]) (rest := []) hx hb hml hts hown (cx_needRegister l dC dI cA cR tr wr ad kd n t z v S P V x1 (by omega)) zv_X0_39 rfl rfl ⟨Nat.le_of_ble_eq_true rfl, Nat.le_of_ble_eq_true rfl⟩ (zr_preV (q := (RX0, TX0, 8)) (ci := 0) (q0 := 0) hP hK rfl rfl) rfl hl.1 rfl (Nat.le_of_ble_eq_true rfl) dX0_turn_2 ⟨Nat.zero_le _, Nat.zero_le _⟩) ?_
  refine lv_aload_n hx hb dX0_turn_5 rfl (lv_at hl 0 rfl) ?_
  refine lv_iload_n hx hb dX0_turn_6 rfl (lv_at hl 2 rfl) ?_
  refine zr_calln (zx_runV (As := [.int (nI (x2))]) (rest := []) hx hb hml hts hown (cx_needRegister l dC dI cA cR tr wr ad kd n t z v S P V x2 (by omega)) zv_X0_39 rfl rfl ⟨Nat.le_of_ble_eq_true rfl, Nat.le_of_ble_eq_true rfl⟩ (zr_preV (q := (RX0, TX0, 8)) (ci := 0) (q0 := 0) hP hK rfl rfl) rfl hl.1 rfl (Nat.le_of_ble_eq_true rfl) dX0_turn_7 ⟨Nat.zero_le _, Nat.zero_le _⟩) ?_
  refine lv_iload_n hx hb dX0_turn_10 rfl (lv_at hl 3 rfl) ?_
  refine lv_iconst (v := nI 2) hx hb dX0_turn_11 (by decide) ?_
  refine lv_irem hx hb dX0_turn_12 (by decide) ?_
  rw [show zi_I g0 - zi_I g0 / nI 2 * nI 2 = 0 by rw [zi_nI 2, zi_rem h1 h2 (by omega) (by omega), show g0.tmod ((2 : Nat) : Int) = 0 from (zi_tmod2 g0).mpr hev]; decide]
  refine lv_if_ne (tgt := 26) hx hb dX0_turn_13 (by decide) (fun hh => absurd rfl hh) (fun _ => ?_)
  exact zx_throw (text := "an even turn") hx hb hlt9 hts hown henv va_S.rf zx_okIA (by decide) (hl.1.trans hml.symm) dX0_turn_16 dX0_turn_19 dX0_turn_20 dX0_turn_22 dX0_turn_25 (fun x h => (hxt x h).elim) (Nat.le_of_ble_eq_true rfl) (Nat.le_of_ble_eq_true rfl) (Nat.le_of_ble_eq_true rfl) (Nat.le_of_ble_eq_true rfl) hlocks (fun t9 _ hz hk => ⟨rfl, hz, hk⟩) (fun z h => nomatch h) (Nat.le_refl _) (Nat.le_refl _)
set_option maxHeartbeats 4000000 in
set_option maxRecDepth 100000 in
/-- power below 0 of no unit throws -/
theorem cb_power_u (l : Launch) (dC : Nat → ClassId) (dI : Nat → Nat → Nat) (cA cR : ClassId) (tr : List (ClassId × FieldType)) (wr : va_W) (ad : Nat → Nat) (kd n t z v : Nat) (S : Nat → Int32) (P : Nat → Nat) (V : Nat → Nat → Nat) (A : Nat → Prop) (hlt9 : l.stackTraces = false) (x1 : Nat) (hx1 : x1 < 16) (x2 : Nat) (hx2 : x2 < 16) (e0 : Int) (h1 : -2147483648 ≤ e0) (h2 : e0 < 0) (hn0 : 4 ≤ n) (hn : n ≤ 32) (ht : 1 < t) (ht2 : t ≤ 193) (hV : ∀ r i, r < 16 → i < n → V r i < t) (hz : zq_zc (V x2) n ≠ 0) : vx_Met l yX0_power wzX0_power (zx_rm 7 105) (zx_pre (dC, dI) zz_cl ((cA, .int) :: (cR, .array .int) :: tr) (zc_w cA cR ad kd n t z v S P V ++ wr) A [.ref (ad 0), .int (nI (x1)), .int (nI (x2)), .int (zi_I (e0))]) zx_no (zx_K zx_IS) 1 6 (fun _ => False) := by
  refine vx_ofW (cc := cX0_power) (maxL := 6) (ret := (some .int)) (by decide) rfl ?_
  intro p e s m args below meth c s₁ B hml hxt hv
  obtain ⟨rfl, hP, hK, henv⟩ := hv
  have hx := B.exec
  have hb := B.bytes
  have hr := B.returns
  have hts := atoms_spec (ws := wzX0_power) B.pre
  have hown : s.vm.findClass RX0 = some m.cls := findClass_of_methodNamed B.named
  have hlocks := B.notSynchronized
  have hl := lv_entry ([.ref (ad 0), .int (nI (x1)), .int (nI (x2)), .int (zi_I (e0))]) (n := 6) (Nat.le_of_ble_eq_true rfl)
  rw [lg_entry_eq]
  generalize (lg_sl ([.ref (ad 0), .int (nI (x1)), .int (nI (x2)), .int (zi_I (e0))]) ++ List.replicate (6 - (lg_sl ([.ref (ad 0), .int (nI (x1)), .int (nI (x2)), .int (zi_I (e0))])).length) Slot.unset).toArray = ls at hl ⊢
  have hl : lv_has ls 6 [(0, .ref (ad 0)), (1, .int (nI (x1))), (2, .int (nI (x2))), (3, .int (zi_I (e0)))] := hl
  refine lv_aload_n hx hb dX0_power_0 rfl (lv_at hl 0 rfl) ?_
  refine lv_iload_n hx hb dX0_power_1 rfl (lv_at hl 1 rfl) ?_
  refine zr_calln (zx_runV (As := [.int (nI (x1))]) (rest := []) hx hb hml hts hown (cx_needRegister l dC dI cA cR tr wr ad kd n t z v S P V x1 (by omega)) zv_X0_39 rfl rfl ⟨Nat.le_of_ble_eq_true rfl, Nat.le_of_ble_eq_true rfl⟩ (zr_preV (q := (RX0, TX0, 8)) (ci := 0) (q0 := 0) hP hK rfl rfl) rfl hl.1 rfl (Nat.le_of_ble_eq_true rfl) dX0_power_2 ⟨Nat.zero_le _, Nat.zero_le _⟩) ?_
  refine lv_aload_n hx hb dX0_power_5 rfl (lv_at hl 0 rfl) ?_
  refine lv_iload_n hx hb dX0_power_6 rfl (lv_at hl 2 rfl) ?_
  refine zr_calln (zx_runV (As := [.int (nI (x2))]) (rest := []) hx hb hml hts hown (cx_needRegister l dC dI cA cR tr wr ad kd n t z v S P V x2 (by omega)) zv_X0_39 rfl rfl ⟨Nat.le_of_ble_eq_true rfl, Nat.le_of_ble_eq_true rfl⟩ (zr_preV (q := (RX0, TX0, 8)) (ci := 0) (q0 := 0) hP hK rfl rfl) rfl hl.1 rfl (Nat.le_of_ble_eq_true rfl) dX0_power_7 ⟨Nat.zero_le _, Nat.zero_le _⟩) ?_
  refine lv_iload_n hx hb dX0_power_10 rfl (lv_at hl 3 rfl) ?_
  refine lv_if_ge (tgt := 19) hx hb dX0_power_11 (by decide) (fun hh => absurd ((zi_lt h1 (by omega) (by omega) (by omega)).mpr h2) (by rw [← zi_0]; exact Int32.not_lt.mpr hh)) (fun _ => ?_)
  refine lv_aload_n hx hb dX0_power_14 rfl (lv_at hl 0 rfl) ?_
  refine lv_iload_n hx hb dX0_power_15 rfl (lv_at hl 2 rfl) ?_
  exact zx_callP (As := [.int (nI (x2))]) (rest := []) hx hb hml hts hown hxt hlocks (cb_needUnit l dC dI cA cR tr wr ad kd n t z v S P V A hlt9 x2 hx2 hn (fun r i hr hi => Nat.lt_trans (hV r i hr hi) (by omega)) hz) zv_X0_66 rfl rfl ⟨Nat.le_of_ble_eq_true rfl, Nat.le_of_ble_eq_true rfl⟩ (zx_preV (q := (RX0, TX0, 8)) (ci := 0) (q0 := 0) hP hK henv va_S.rf rfl rfl) rfl hl.1 rfl (Nat.le_of_ble_eq_true rfl) dX0_power_16 ⟨Nat.le_of_ble_eq_true rfl, Nat.le_of_ble_eq_true rfl⟩
