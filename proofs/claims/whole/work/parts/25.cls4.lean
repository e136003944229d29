set_option maxHeartbeats 4000000 in
set_option maxRecDepth 100000 in
/-- X0_needRegister -/
theorem cx_needRegister (l : Launch) (dC : Nat → ClassId) (dI : Nat → Nat → Nat) (cA cR : ClassId) (tr : List (ClassId × FieldType)) (wr : va_W) (ad : Nat → Nat) (kd n t z v : Nat) (S : Nat → Int32) (P : Nat → Nat) (V : Nat → Nat → Nat) (r0 : Nat) (hr0 : r0 < 16) : Met l yX0_needRegister wzX0_needRegister (k2_rm 0 0) (zr_pre (dC, dI) zz_cl ((cA, .int) :: (cR, .array .int) :: tr) (zc_w cA cR ad kd n t z v S P V ++ wr) [.ref (ad 0), .int (nI (r0))]) zr_QV 0 0 (fun _ => False) := by
  refine Met.ofW (cc := cX0_needRegister) (maxL := 2) (ret := none) (by decide) rfl ?_
  intro p e s m args below meth c s₁ B hml hv
  obtain ⟨rfl, hP, hK⟩ := hv
  have hx := B.exec
  have hb := B.bytes
  have hr := B.returns
  have hts := atoms_spec (ws := wzX0_needRegister) B.pre
  have hown : s.vm.findClass RX0 = some m.cls := findClass_of_methodNamed B.named
  have hlocks := B.notSynchronized
  have hl := lv_entry ([.ref (ad 0), .int (nI (r0))]) (n := 2) (Nat.le_of_ble_eq_true rfl)
  rw [lg_entry_eq]
  generalize (lg_sl ([.ref (ad 0), .int (nI (r0))]) ++ List.replicate (2 - (lg_sl ([.ref (ad 0), .int (nI (r0))])).length) Slot.unset).toArray = ls at hl ⊢
  have hl : lv_has ls 2 [(0, .ref (ad 0)), (1, .int (nI (r0)))] := hl
  refine lv_iload_n hx hb dX0_needRegister_0 rfl (lv_at hl 1 rfl) ?_
  refine zr_iflt (tgt := 10) hx hb dX0_needRegister_1 (by decide) (by omega) ?_
  refine lv_iload_n hx hb dX0_needRegister_4 rfl (lv_at hl 1 rfl) ?_
  refine lv_bipush (v := nI 16) hx hb dX0_needRegister_5 (by decide) ?_
  refine zr_ilt (tgt := 20) hx hb dX0_needRegister_7 (by decide) (by omega) (by omega) (fun _ => ?_) (fun hno9 => absurd hno9 (by omega))
  exact W.vret hx hb hr (fun t9 h9 _ => ⟨rfl, h9⟩) (fun q h => by cases h) dX0_needRegister_20
set_option maxHeartbeats 4000000 in
set_option maxRecDepth 100000 in
/-- X0_needPlace -/
theorem cx_needPlace (l : Launch) (dC : Nat → ClassId) (dI : Nat → Nat → Nat) (cA cR : ClassId) (tr : List (ClassId × FieldType)) (wr : va_W) (ad : Nat → Nat) (kd n t z v : Nat) (S : Nat → Int32) (P : Nat → Nat) (V : Nat → Nat → Nat) (i0 : Nat) (hi0 : i0 < n) (hn : n ≤ 32) : Met l yX0_needPlace wzX0_needPlace (k2_rm 0 0) (zr_pre (dC, dI) zz_cl ((cA, .int) :: (cR, .array .int) :: tr) (zc_w cA cR ad kd n t z v S P V ++ wr) [.ref (ad 0), .int (nI (i0))]) zr_QV 0 0 (fun _ => False) := by
  refine Met.ofW (cc := cX0_needPlace) (maxL := 2) (ret := none) (by decide) rfl ?_
  intro p e s m args below meth c s₁ B hml hv
  obtain ⟨rfl, hP, hK⟩ := hv
  have hx := B.exec
  have hb := B.bytes
  have hr := B.returns
  have hts := atoms_spec (ws := wzX0_needPlace) B.pre
  have hown : s.vm.findClass RX0 = some m.cls := findClass_of_methodNamed B.named
  have hlocks := B.notSynchronized
  have hl := lv_entry ([.ref (ad 0), .int (nI (i0))]) (n := 2) (Nat.le_of_ble_eq_true rfl)
  rw [lg_entry_eq]
  generalize (lg_sl ([.ref (ad 0), .int (nI (i0))]) ++ List.replicate (2 - (lg_sl ([.ref (ad 0), .int (nI (i0))])).length) Slot.unset).toArray = ls at hl ⊢
  have hl : lv_has ls 2 [(0, .ref (ad 0)), (1, .int (nI (i0)))] := hl
  refine lv_iload_n hx hb dX0_needPlace_0 rfl (lv_at hl 1 rfl) ?_
  refine zr_iflt (tgt := 12) hx hb dX0_needPlace_1 (by decide) (by omega) ?_
  refine lv_iload_n hx hb dX0_needPlace_4 rfl (lv_at hl 1 rfl) ?_
  refine lv_aload_n hx hb dX0_needPlace_5 rfl (lv_at hl 0 rfl) ?_
  refine zx_get0 (v := .int (nI (n))) hx hb hts hown hK hP 0 rfl 4 (by decide) zf_X0_58 rfl dX0_needPlace_6 ?_
  refine zr_ilt (tgt := 22) hx hb dX0_needPlace_9 (by decide) (by omega) (by omega) (fun _ => ?_) (fun hno9 => absurd hno9 (by omega))
  exact W.vret hx hb hr (fun t9 h9 _ => ⟨rfl, h9⟩) (fun q h => by cases h) dX0_needPlace_22
set_option maxHeartbeats 4000000 in
set_option maxRecDepth 100000 in
/-- X0_needUnit -/
theorem cx_needUnit (l : Launch) (dC : Nat → ClassId) (dI : Nat → Nat → Nat) (cA cR : ClassId) (tr : List (ClassId × FieldType)) (wr : va_W) (ad : Nat → Nat) (kd n t z v : Nat) (S : Nat → Int32) (P : Nat → Nat) (V : Nat → Nat → Nat) (r0 : Nat) (hr0 : r0 < 16) (hn : n ≤ 32) (hV : ∀ r i, r < 16 → i < n → V r i < 2147483648) (hz : zq_zc (V r0) n = 0) : Met l yX0_needUnit wzX0_needUnit (k2_rm 1 23) (zr_pre (dC, dI) zz_cl ((cA, .int) :: (cR, .array .int) :: tr) (zc_w cA cR ad kd n t z v S P V ++ wr) [.ref (ad 0), .int (nI (r0))]) zr_QV 0 0 (fun _ => False) := by
  refine Met.ofW (cc := cX0_needUnit) (maxL := 2) (ret := none) (by decide) rfl ?_
  intro p e s m args below meth c s₁ B hml hv
  obtain ⟨rfl, hP, hK⟩ := hv
  have hx := B.exec
  have hb := B.bytes
  have hr := B.returns
  have hts := atoms_spec (ws := wzX0_needUnit) B.pre
  have hown : s.vm.findClass RX0 = some m.cls := findClass_of_methodNamed B.named
  have hlocks := B.notSynchronized
  have hl := lv_entry ([.ref (ad 0), .int (nI (r0))]) (n := 2) (Nat.le_of_ble_eq_true rfl)
  rw [lg_entry_eq]
  generalize (lg_sl ([.ref (ad 0), .int (nI (r0))]) ++ List.replicate (2 - (lg_sl ([.ref (ad 0), .int (nI (r0))])).length) Slot.unset).toArray = ls at hl ⊢
  have hl : lv_has ls 2 [(0, .ref (ad 0)), (1, .int (nI (r0)))] := hl
  refine lv_aload_n hx hb dX0_needUnit_0 rfl (lv_at hl 0 rfl) ?_
  refine lv_aload_n hx hb dX0_needUnit_1 rfl (lv_at hl 0 rfl) ?_
  refine zx_get0 (v := .ref (ad 1)) hx hb hts hown hK hP 0 rfl 0 (by decide) zf_X0_11 rfl dX0_needUnit_2 ?_
  refine lv_iload_n hx hb dX0_needUnit_5 rfl (lv_at hl 1 rfl) ?_
  refine zr_aald (y := ad (4 + r0)) hx hb hK hP 1 1 rfl rfl (by omega) (by decide) rfl dX0_needUnit_6 ?_
  refine zr_callq (zx_runV (As := [.ref (ad (4 + r0))]) (rest := []) hx hb hml hts hown (cx_zeros l dC dI cA cR tr wr ad kd n t z v S P V (4 + r0) (ad (4 + r0)) (zq_I (V r0)) (V r0) (zc_row (by omega)) (fun _ _ => rfl) hn (fun j hj => hV r0 j (by omega) hj)) zv_X0_73 rfl rfl ⟨Nat.le_of_ble_eq_true rfl, Nat.le_of_ble_eq_true rfl⟩ (zr_preV (q := (RX0, TX0, 8)) (ci := 0) (q0 := 0) hP hK rfl rfl) rfl hl.1 rfl (Nat.le_of_ble_eq_true rfl) dX0_needUnit_7 ⟨Nat.zero_le _, Nat.zero_le _⟩) ?_
  refine zr_ifle (tgt := 23) hx hb dX0_needUnit_10 (by decide) (by omega) (fun _ => ?_) (fun hno9 => absurd hno9 (by omega))
  exact W.vret hx hb hr (fun t9 h9 _ => ⟨rfl, h9⟩) (fun q h => by cases h) dX0_needUnit_23
set_option maxHeartbeats 4000000 in
set_option maxRecDepth 100000 in
/-- X0_needRegister throws -/
theorem cb_needRegister (l : Launch) (dC : Nat → ClassId) (dI : Nat → Nat → Nat) (cA cR : ClassId) (tr : List (ClassId × FieldType)) (wr : va_W) (ad : Nat → Nat) (kd n t z v : Nat) (S : Nat → Int32) (P : Nat → Nat) (V : Nat → Nat → Nat) (A : Nat → Prop) (hlt9 : l.stackTraces = false) (r : Int32) (hbad : r < 0 ∨ nI 16 ≤ r) : vx_Met l yX0_needRegister wzX0_needRegister (zx_rm 6 84) (zx_pre (dC, dI) zz_cl ((cA, .int) :: (cR, .array .int) :: tr) (zc_w cA cR ad kd n t z v S P V ++ wr) A [.ref (ad 0), .int (r)]) zx_no (zx_K zx_NS) 1 6 (fun _ => False) := by
  refine vx_ofW (cc := cX0_needRegister) (maxL := 2) (ret := none) (by decide) rfl ?_
  intro p e s m args below meth c s₁ B hml hxt hv
  obtain ⟨rfl, hP, hK, henv⟩ := hv
  have hx := B.exec
  have hb := B.bytes
  have hr := B.returns
  have hts := atoms_spec (ws := wzX0_needRegister) B.pre
  have hown : s.vm.findClass RX0 = some m.cls := findClass_of_methodNamed B.named
  have hlocks := B.notSynchronized
  have hl := lv_entry ([.ref (ad 0), .int (r)]) (n := 2) (Nat.le_of_ble_eq_true rfl)
  rw [lg_entry_eq]
  generalize (lg_sl ([.ref (ad 0), .int (r)]) ++ List.replicate (2 - (lg_sl ([.ref (ad 0), .int (r)])).length) Slot.unset).toArray = ls at hl ⊢
  have hl : lv_has ls 2 [(0, .ref (ad 0)), (1, .int (r))] := hl
  refine lv_iload_n hx hb dX0_needRegister_0 rfl (lv_at hl 1 rfl) ?_
  refine lv_if_lt (tgt := 10) hx hb dX0_needRegister_1 (by decide) (fun _ => ?_) (fun hn0 => ?_)
  · exact zx_throw (text := "no such register") hx hb hlt9 hts hown henv va_S.rf zx_okNS (by decide) (hl.1.trans hml.symm) dX0_needRegister_10 dX0_needRegister_13 dX0_needRegister_14 dX0_needRegister_16 dX0_needRegister_19 (fun x h => (hxt x h).elim) (Nat.le_of_ble_eq_true rfl) (Nat.le_of_ble_eq_true rfl) (Nat.le_of_ble_eq_true rfl) (Nat.le_of_ble_eq_true rfl) hlocks (fun t9 _ hz hk => ⟨rfl, hz, hk⟩) (fun z h => nomatch h) (Nat.le_refl _) (Nat.le_refl _)
  · refine lv_iload_n hx hb dX0_needRegister_4 rfl (lv_at hl 1 rfl) ?_
    refine lv_bipush (v := nI 16) hx hb dX0_needRegister_5 (by decide) ?_
    refine lv_icmp_lt (tgt := 20) hx hb dX0_needRegister_7 (by decide) (fun hh => absurd hh (hbad.elim (fun h9 => absurd h9 hn0) (fun h9 => Int32.not_lt.mpr h9))) (fun _ => ?_)
    exact zx_throw (text := "no such register") hx hb hlt9 hts hown henv va_S.rf zx_okNS (by decide) (hl.1.trans hml.symm) dX0_needRegister_10 dX0_needRegister_13 dX0_needRegister_14 dX0_needRegister_16 dX0_needRegister_19 (fun x h => (hxt x h).elim) (Nat.le_of_ble_eq_true rfl) (Nat.le_of_ble_eq_true rfl) (Nat.le_of_ble_eq_true rfl) (Nat.le_of_ble_eq_true rfl) hlocks (fun t9 _ hz hk => ⟨rfl, hz, hk⟩) (fun z h => nomatch h) (Nat.le_refl _) (Nat.le_refl _)
set_option maxHeartbeats 4000000 in
set_option maxRecDepth 100000 in
/-- X0_needPlace throws -/
theorem cb_needPlace (l : Launch) (dC : Nat → ClassId) (dI : Nat → Nat → Nat) (cA cR : ClassId) (tr : List (ClassId × FieldType)) (wr : va_W) (ad : Nat → Nat) (kd n t z v : Nat) (S : Nat → Int32) (P : Nat → Nat) (V : Nat → Nat → Nat) (A : Nat → Prop) (hlt9 : l.stackTraces = false) (i : Int32) (hbad : i < 0 ∨ nI n ≤ i) : vx_Met l yX0_needPlace wzX0_needPlace (zx_rm 6 84) (zx_pre (dC, dI) zz_cl ((cA, .int) :: (cR, .array .int) :: tr) (zc_w cA cR ad kd n t z v S P V ++ wr) A [.ref (ad 0), .int (i)]) zx_no (zx_K zx_NS) 1 6 (fun _ => False) := by
  refine vx_ofW (cc := cX0_needPlace) (maxL := 2) (ret := none) (by decide) rfl ?_
  intro p e s m args below meth c s₁ B hml hxt hv
  obtain ⟨rfl, hP, hK, henv⟩ := hv
  have hx := B.exec
  have hb := B.bytes
  have hr := B.returns
  have hts := atoms_spec (ws := wzX0_needPlace) B.pre
  have hown : s.vm.findClass RX0 = some m.cls := findClass_of_methodNamed B.named
  have hlocks := B.notSynchronized
  have hl := lv_entry ([.ref (ad 0), .int (i)]) (n := 2) (Nat.le_of_ble_eq_true rfl)
  rw [lg_entry_eq]
  generalize (lg_sl ([.ref (ad 0), .int (i)]) ++ List.replicate (2 - (lg_sl ([.ref (ad 0), .int (i)])).length) Slot.unset).toArray = ls at hl ⊢
  have hl : lv_has ls 2 [(0, .ref (ad 0)), (1, .int (i))] := hl
  refine lv_iload_n hx hb dX0_needPlace_0 rfl (lv_at hl 1 rfl) ?_
  refine lv_if_lt (tgt := 12) hx hb dX0_needPlace_1 (by decide) (fun _ => ?_) (fun hn0 => ?_)
  · exact zx_throw (text := "no such place") hx hb hlt9 hts hown henv va_S.rf zx_okNS (by decide) (hl.1.trans hml.symm) dX0_needPlace_12 dX0_needPlace_15 dX0_needPlace_16 dX0_needPlace_18 dX0_needPlace_21 (fun x h => (hxt x h).elim) (Nat.le_of_ble_eq_true rfl) (Nat.le_of_ble_eq_true rfl) (Nat.le_of_ble_eq_true rfl) (Nat.le_of_ble_eq_true rfl) hlocks (fun t9 _ hz hk => ⟨rfl, hz, hk⟩) (fun z h => nomatch h) (Nat.le_refl _) (Nat.le_refl _)
  · refine lv_iload_n hx hb dX0_needPlace_4 rfl (lv_at hl 1 rfl) ?_
    refine lv_aload_n hx hb dX0_needPlace_5 rfl (lv_at hl 0 rfl) ?_
    refine zx_get0 (v := .int (nI (n))) hx hb hts hown hK hP 0 rfl 4 (by decide) zf_X0_58 rfl dX0_needPlace_6 ?_
    refine lv_icmp_lt (tgt := 22) hx hb dX0_needPlace_9 (by decide) (fun hh => absurd hh (hbad.elim (fun h9 => absurd h9 hn0) (fun h9 => Int32.not_lt.mpr h9))) (fun _ => ?_)
    exact zx_throw (text := "no such place") hx hb hlt9 hts hown henv va_S.rf zx_okNS (by decide) (hl.1.trans hml.symm) dX0_needPlace_12 dX0_needPlace_15 dX0_needPlace_16 dX0_needPlace_18 dX0_needPlace_21 (fun x h => (hxt x h).elim) (Nat.le_of_ble_eq_true rfl) (Nat.le_of_ble_eq_true rfl) (Nat.le_of_ble_eq_true rfl) (Nat.le_of_ble_eq_true rfl) hlocks (fun t9 _ hz hk => ⟨rfl, hz, hk⟩) (fun z h => nomatch h) (Nat.le_refl _) (Nat.le_refl _)
set_option maxHeartbeats 4000000 in
set_option maxRecDepth 100000 in
/-- X0_needUnit throws -/
theorem cb_needUnit (l : Launch) (dC : Nat → ClassId) (dI : Nat → Nat → Nat) (cA cR : ClassId) (tr : List (ClassId × FieldType)) (wr : va_W) (ad : Nat → Nat) (kd n t z v : Nat) (S : Nat → Int32) (P : Nat → Nat) (V : Nat → Nat → Nat) (A : Nat → Prop) (hlt9 : l.stackTraces = false) (r0 : Nat) (hr0 : r0 < 16) (hn : n ≤ 32) (hV : ∀ r i, r < 16 → i < n → V r i < 2147483648) (hz : zq_zc (V r0) n ≠ 0) : vx_Met l yX0_needUnit wzX0_needUnit (zx_rm 6 84) (zx_pre (dC, dI) zz_cl ((cA, .int) :: (cR, .array .int) :: tr) (zc_w cA cR ad kd n t z v S P V ++ wr) A [.ref (ad 0), .int (nI (r0))]) zx_no (zx_K zx_IS) 1 6 (fun _ => False) := by
  refine vx_ofW (cc := cX0_needUnit) (maxL := 2) (ret := none) (by decide) rfl ?_
  intro p e s m args below meth c s₁ B hml hxt hv
  obtain ⟨rfl, hP, hK, henv⟩ := hv
  have hx := B.exec
  have hb := B.bytes
  have hr := B.returns
  have hts := atoms_spec (ws := wzX0_needUnit) B.pre
  have hown : s.vm.findClass RX0 = some m.cls := findClass_of_methodNamed B.named
  have hlocks := B.notSynchronized
  have hl := lv_entry ([.ref (ad 0), .int (nI (r0))]) (n := 2) (Nat.le_of_ble_eq_true rfl)
  rw [lg_entry_eq]
  generalize (lg_sl ([.ref (ad 0), .int (nI (r0))]) ++ List.replicate (2 - (lg_sl ([.ref (ad 0), .int (nI (r0))])).length) Slot.unset).toArray = ls at hl ⊢
  have hl : lv_has ls 2 [(0, .ref (ad 0)), (1, .int (nI (r0)))] := hl
  have hzl := zq_zc_le (V r0) n
  refine lv_aload_n hx hb dX0_needUnit_0 rfl (lv_at hl 0 rfl) ?_
  refine lv_aload_n hx hb dX0_needUnit_1 rfl (lv_at hl 0 rfl) ?_
  refine zx_get0 (v := .ref (ad 1)) hx hb hts hown hK hP 0 rfl 0 (by decide) zf_X0_11 rfl dX0_needUnit_2 ?_
  refine lv_iload_n hx hb dX0_needUnit_5 rfl (lv_at hl 1 rfl) ?_
  refine zr_aald (y := ad (4 + r0)) hx hb hK hP 1 1 rfl rfl (by omega) (by decide) rfl dX0_needUnit_6 ?_
  refine zr_callq (zx_runV (As := [.ref (ad (4 + r0))]) (rest := []) hx hb hml hts hown (cx_zeros l dC dI cA cR tr wr ad kd n t z v S P V (4 + r0) (ad (4 + r0)) (zq_I (V r0)) (V r0) (zc_row (by omega)) (fun _ _ => rfl) hn (fun j hj => hV r0 j (by omega) hj)) zv_X0_73 rfl rfl ⟨Nat.le_of_ble_eq_true rfl, Nat.le_of_ble_eq_true rfl⟩ (zr_preV (q := (RX0, TX0, 8)) (ci := 0) (q0 := 0) hP hK rfl rfl) rfl hl.1 rfl (Nat.le_of_ble_eq_true rfl) dX0_needUnit_7 ⟨Nat.zero_le _, Nat.zero_le _⟩) ?_
  refine zr_ifle (tgt := 23) hx hb dX0_needUnit_10 (by decide) (by omega) (fun hno9 => absurd hno9 (by omega)) (fun _ => ?_)
  exact zx_throw (text := "no unit") hx hb hlt9 hts hown henv va_S.rf zx_okIS (by decide) (hl.1.trans hml.symm) dX0_needUnit_13 dX0_needUnit_16 dX0_needUnit_17 dX0_needUnit_19 dX0_needUnit_22 (fun x h => (hxt x h).elim) (Nat.le_of_ble_eq_true rfl) (Nat.le_of_ble_eq_true rfl) (Nat.le_of_ble_eq_true rfl) (Nat.le_of_ble_eq_true rfl) hlocks (fun t9 _ hz hk => ⟨rfl, hz, hk⟩) (fun z h => nomatch h) (Nat.le_refl _) (Nat.le_refl _)
set_option maxHeartbeats 4000000 in
set_option maxRecDepth 100000 in
/-- set, argument 1 throws -/
theorem cb_set_0 (l : Launch) (dC : Nat → ClassId) (dI : Nat → Nat → Nat) (cA cR : ClassId) (tr : List (ClassId × FieldType)) (wr : va_W) (ad : Nat → Nat) (kd n t z v : Nat) (S : Nat → Int32) (P : Nat → Nat) (V : Nat → Nat → Nat) (A : Nat → Prop) (hlt9 : l.stackTraces = false) (x1 : Int32) (x2 : Int32) (x3 : Int32) (hn : n ≤ 32) (hbad : x1 < 0 ∨ nI 16 ≤ x1) : vx_Met l yX0_set wzX0_set (zx_rm 7 105) (zx_pre (dC, dI) zz_cl ((cA, .int) :: (cR, .array .int) :: tr) (zc_w cA cR ad kd n t z v S P V ++ wr) A [.ref (ad 0), .int (x1), .int (x2), .int (x3)]) zx_no (zx_K zx_NS) 1 6 (fun _ => False) := by
  refine vx_ofW (cc := cX0_set) (maxL := 7) (ret := (some .int)) (by decide) rfl ?_
  intro p e s m args below meth c s₁ B hml hxt hv
  obtain ⟨rfl, hP, hK, henv⟩ := hv
  have hx := B.exec
  have hb := B.bytes
  have hr := B.returns
  have hts := atoms_spec (ws := wzX0_set) B.pre
  have hown : s.vm.findClass RX0 = some m.cls := findClass_of_methodNamed B.named
  have hlocks := B.notSynchronized
  have hl := lv_entry ([.ref (ad 0), .int (x1), .int (x2), .int (x3)]) (n := 7) (Nat.le_of_ble_eq_true rfl)
  rw [lg_entry_eq]
  generalize (lg_sl ([.ref (ad 0), .int (x1), .int (x2), .int (x3)]) ++ List.replicate (7 - (lg_sl ([.ref (ad 0), .int (x1), .int (x2), .int (x3)])).length) Slot.unset).toArray = ls at hl ⊢
  have hl : lv_has ls 7 [(0, .ref (ad 0)), (1, .int (x1)), (2, .int (x2)), (3, .int (x3))] := hl
  refine lv_aload_n hx hb dX0_set_0 rfl (lv_at hl 0 rfl) ?_
  refine lv_iload_n hx hb dX0_set_1 rfl (lv_at hl 1 rfl) ?_
  exact zx_callP (As := [.int (x1)]) (rest := []) hx hb hml hts hown hxt hlocks (cb_needRegister l dC dI cA cR tr wr ad kd n t z v S P V A hlt9 x1 hbad) zv_X0_39 rfl rfl ⟨Nat.le_of_ble_eq_true rfl, Nat.le_of_ble_eq_true rfl⟩ (zx_preV (q := (RX0, TX0, 8)) (ci := 0) (q0 := 0) hP hK henv va_S.rf rfl rfl) rfl hl.1 rfl (Nat.le_of_ble_eq_true rfl) dX0_set_2 ⟨Nat.le_of_ble_eq_true rfl, Nat.le_of_ble_eq_true rfl⟩
set_option maxHeartbeats 4000000 in
set_option maxRecDepth 100000 in
/-- set, argument 2 throws -/
theorem cb_set_1 (l : Launch) (dC : Nat → ClassId) (dI : Nat → Nat → Nat) (cA cR : ClassId) (tr : List (ClassId × FieldType)) (wr : va_W) (ad : Nat → Nat) (kd n t z v : Nat) (S : Nat → Int32) (P : Nat → Nat) (V : Nat → Nat → Nat) (A : Nat → Prop) (hlt9 : l.stackTraces = false) (x1 : Nat) (hx1 : x1 < 16) (x2 : Int32) (x3 : Int32) (hn : n ≤ 32) (hbad : x2 < 0 ∨ nI n ≤ x2) : vx_Met l yX0_set wzX0_set (zx_rm 7 105) (zx_pre (dC, dI) zz_cl ((cA, .int) :: (cR, .array .int) :: tr) (zc_w cA cR ad kd n t z v S P V ++ wr) A [.ref (ad 0), .int (nI (x1)), .int (x2), .int (x3)]) zx_no (zx_K zx_NS) 1 6 (fun _ => False) := by
  refine vx_ofW (cc := cX0_set) (maxL := 7) (ret := (some .int)) (by decide) rfl ?_
  intro p e s m args below meth c s₁ B hml hxt hv
  obtain ⟨rfl, hP, hK, henv⟩ := hv
  have hx := B.exec
  have hb := B.bytes
  have hr := B.returns
  have hts := atoms_spec (ws := wzX0_set) B.pre
  have hown : s.vm.findClass RX0 = some m.cls := findClass_of_methodNamed B.named
  have hlocks := B.notSynchronized
  have hl := lv_entry ([.ref (ad 0), .int (nI (x1)), .int (x2), .int (x3)]) (n := 7) (Nat.le_of_ble_eq_true rfl)
  rw [lg_entry_eq]
  generalize (lg_sl ([.ref (ad 0), .int (nI (x1)), .int (x2), .int (x3)]) ++ List.replicate (7 - (lg_sl ([.ref (ad 0), .int (nI (x1)), .int (x2), .int (x3)])).length) Slot.unset).toArray = ls at hl ⊢
  have hl : lv_has ls 7 [(0, .ref (ad 0)), (1, .int (nI (x1))), (2, .int (x2)), (3, .int (x3))] := hl
  refine lv_aload_n hx hb dX0_set_0 rfl (lv_at hl 0 rfl) ?_
  refine lv_iload_n hx hb dX0_set_1 rfl (lv_at hl 1 rfl) ?_
  refine zr_calln (zx_runV (As := [.int (nI (x1))]) (rest := []) hx hb hml hts hown (cx_needRegister l dC dI cA cR tr wr ad kd n t z v S P V x1 (by omega)) zv_X0_39 rfl rfl ⟨Nat.le_of_ble_eq_true rfl, Nat.le_of_ble_eq_true rfl⟩ (zr_preV (q := (RX0, TX0, 8)) (ci := 0) (q0 := 0) hP hK rfl rfl) rfl hl.1 rfl (Nat.le_of_ble_eq_true rfl) dX0_set_2 ⟨Nat.zero_le _, Nat.zero_le _⟩) ?_
  refine lv_aload_n hx hb dX0_set_5 rfl (lv_at hl 0 rfl) ?_
  refine lv_iload_n hx hb dX0_set_6 rfl (lv_at hl 2 rfl) ?_
  exact zx_callP (As := [.int (x2)]) (rest := []) hx hb hml hts hown hxt hlocks (cb_needPlace l dC dI cA cR tr wr ad kd n t z v S P V A hlt9 x2 hbad) zv_X0_42 rfl rfl ⟨Nat.le_of_ble_eq_true rfl, Nat.le_of_ble_eq_true rfl⟩ (zx_preV (q := (RX0, TX0, 8)) (ci := 0) (q0 := 0) hP hK henv va_S.rf rfl rfl) rfl hl.1 rfl (Nat.le_of_ble_eq_true rfl) dX0_set_7 ⟨Nat.le_of_ble_eq_true rfl, Nat.le_of_ble_eq_true rfl⟩
set_option maxHeartbeats 4000000 in
set_option maxRecDepth 100000 in
/-- get, argument 1 throws -/
theorem cb_get_0 (l : Launch) (dC : Nat → ClassId) (dI : Nat → Nat → Nat) (cA cR : ClassId) (tr : List (ClassId × FieldType)) (wr : va_W) (ad : Nat → Nat) (kd n t z v : Nat) (S : Nat → Int32) (P : Nat → Nat) (V : Nat → Nat → Nat) (A : Nat → Prop) (hlt9 : l.stackTraces = false) (x1 : Int32) (x2 : Int32) (hn : n ≤ 32) (hbad : x1 < 0 ∨ nI 16 ≤ x1) : vx_Met l yX0_get wzX0_get (zx_rm 7 105) (zx_pre (dC, dI) zz_cl ((cA, .int) :: (cR, .array .int) :: tr) (zc_w cA cR ad kd n t z v S P V ++ wr) A [.ref (ad 0), .int (x1), .int (x2)]) zx_no (zx_K zx_NS) 1 6 (fun _ => False) := by
  refine vx_ofW (cc := cX0_get) (maxL := 3) (ret := (some .int)) (by decide) rfl ?_
  intro p e s m args below meth c s₁ B hml hxt hv
  obtain ⟨rfl, hP, hK, henv⟩ := hv
  have hx := B.exec
  have hb := B.bytes
  have hr := B.returns
  have hts := atoms_spec (ws := wzX0_get) B.pre
  have hown : s.vm.findClass RX0 = some m.cls := findClass_of_methodNamed B.named
  have hlocks := B.notSynchronized
  have hl := lv_entry ([.ref (ad 0), .int (x1), .int (x2)]) (n := 3) (Nat.le_of_ble_eq_true rfl)
  rw [lg_entry_eq]
  generalize (lg_sl ([.ref (ad 0), .int (x1), .int (x2)]) ++ List.replicate (3 - (lg_sl ([.ref (ad 0), .int (x1), .int (x2)])).length) Slot.unset).toArray = ls at hl ⊢
  have hl : lv_has ls 3 [(0, .ref (ad 0)), (1, .int (x1)), (2, .int (x2))] := hl
  refine lv_aload_n hx hb dX0_get_0 rfl (lv_at hl 0 rfl) ?_
  refine lv_iload_n hx hb dX0_get_1 rfl (lv_at hl 1 rfl) ?_
  exact zx_callP (As := [.int (x1)]) (rest := []) hx hb hml hts hown hxt hlocks (cb_needRegister l dC dI cA cR tr wr ad kd n t z v S P V A hlt9 x1 hbad) zv_X0_39 rfl rfl ⟨Nat.le_of_ble_eq_true rfl, Nat.le_of_ble_eq_true rfl⟩ (zx_preV (q := (RX0, TX0, 8)) (ci := 0) (q0 := 0) hP hK henv va_S.rf rfl rfl) rfl hl.1 rfl (Nat.le_of_ble_eq_true rfl) dX0_get_2 ⟨Nat.le_of_ble_eq_true rfl, Nat.le_of_ble_eq_true rfl⟩
set_option maxHeartbeats 4000000 in
set_option maxRecDepth 100000 in
/-- get, argument 2 throws -/
theorem cb_get_1 (l : Launch) (dC : Nat → ClassId) (dI : Nat → Nat → Nat) (cA cR : ClassId) (tr : List (ClassId × FieldType)) (wr : va_W) (ad : Nat → Nat) (kd n t z v : Nat) (S : Nat → Int32) (P : Nat → Nat) (V : Nat → Nat → Nat) (A : Nat → Prop) (hlt9 : l.stackTraces = false) (x1 : Nat) (hx1 : x1 < 16) (x2 : Int32) (hn : n ≤ 32) (hbad : x2 < 0 ∨ nI n ≤ x2) : vx_Met l yX0_get wzX0_get (zx_rm 7 105) (zx_pre (dC, dI) zz_cl ((cA, .int) :: (cR, .array .int) :: tr) (zc_w cA cR ad kd n t z v S P V ++ wr) A [.ref (ad 0), .int (nI (x1)), .int (x2)]) zx_no (zx_K zx_NS) 1 6 (fun _ => False) := by
  refine vx_ofW (cc := cX0_get) (maxL := 3) (ret := (some .int)) (by decide) rfl ?_
  intro p e s m args below meth c s₁ B hml hxt hv
  obtain ⟨rfl, hP, hK, henv⟩ := hv
  have hx := B.exec
  have hb := B.bytes
  have hr := B.returns
  have hts := atoms_spec (ws := wzX0_get) B.pre
  have hown : s.vm.findClass RX0 = some m.cls := findClass_of_methodNamed B.named
  have hlocks := B.notSynchronized
  have hl := lv_entry ([.ref (ad 0), .int (nI (x1)), .int (x2)]) (n := 3) (Nat.le_of_ble_eq_true rfl)
  rw [lg_entry_eq]
  generalize (lg_sl ([.ref (ad 0), .int (nI (x1)), .int (x2)]) ++ List.replicate (3 - (lg_sl ([.ref (ad 0), .int (nI (x1)), .int (x2)])).length) Slot.unset).toArray = ls at hl ⊢
  have hl : lv_has ls 3 [(0, .ref (ad 0)), (1, .int (nI (x1))), (2, .int (x2))] := hl
  refine lv_aload_n hx hb dX0_get_0 rfl (lv_at hl 0 rfl) ?_
  refine lv_iload_n hx hb dX0_get_1 rfl (lv_at hl 1 rfl) ?_
  refine zr_calln (zx_runV (As := [.int (nI (x1))]) (rest := []) hx hb hml hts hown (cx_needRegister l dC dI cA cR tr wr ad kd n t z v S P V x1 (by omega)) zv_X0_39 rfl rfl ⟨Nat.le_of_ble_eq_true rfl, Nat.le_of_ble_eq_true rfl⟩ (zr_preV (q := (RX0, TX0, 8)) (ci := 0) (q0 := 0) hP hK rfl rfl) rfl hl.1 rfl (Nat.le_of_ble_eq_true rfl) dX0_get_2 ⟨Nat.zero_le _, Nat.zero_le _⟩) ?_
  refine lv_aload_n hx hb dX0_get_5 rfl (lv_at hl 0 rfl) ?_
  refine lv_iload_n hx hb dX0_get_6 rfl (lv_at hl 2 rfl) ?_
  exact zx_callP (As := [.int (x2)]) (rest := []) hx hb hml hts hown hxt hlocks (cb_needPlace l dC dI cA cR tr wr ad kd n t z v S P V A hlt9 x2 hbad) zv_X0_42 rfl rfl ⟨Nat.le_of_ble_eq_true rfl, Nat.le_of_ble_eq_true rfl⟩ (zx_preV (q := (RX0, TX0, 8)) (ci := 0) (q0 := 0) hP hK henv va_S.rf rfl rfl) rfl hl.1 rfl (Nat.le_of_ble_eq_true rfl) dX0_get_7 ⟨Nat.le_of_ble_eq_true rfl, Nat.le_of_ble_eq_true rfl⟩
set_option maxHeartbeats 4000000 in
set_option maxRecDepth 100000 in
/-- setValue, argument 1 throws -/
theorem cb_setValue_0 (l : Launch) (dC : Nat → ClassId) (dI : Nat → Nat → Nat) (cA cR : ClassId) (tr : List (ClassId × FieldType)) (wr : va_W) (ad : Nat → Nat) (kd n t z v : Nat) (S : Nat → Int32) (P : Nat → Nat) (V : Nat → Nat → Nat) (A : Nat → Prop) (hlt9 : l.stackTraces = false) (x1 : Int32) (x2 : Int32) (x3 : Int32) (hn : n ≤ 32) (hbad : x1 < 0 ∨ nI 16 ≤ x1) : vx_Met l yX0_setValue wzX0_setValue (zx_rm 7 105) (zx_pre (dC, dI) zz_cl ((cA, .int) :: (cR, .array .int) :: tr) (zc_w cA cR ad kd n t z v S P V ++ wr) A [.ref (ad 0), .int (x1), .int (x2), .int (x3)]) zx_no (zx_K zx_NS) 1 6 (fun _ => False) := by
  refine vx_ofW (cc := cX0_setValue) (maxL := 5) (ret := (some .int)) (by decide) rfl ?_
  intro p e s m args below meth c s₁ B hml hxt hv
  obtain ⟨rfl, hP, hK, henv⟩ := hv
  have hx := B.exec
  have hb := B.bytes
  have hr := B.returns
  have hts := atoms_spec (ws := wzX0_setValue) B.pre
  have hown : s.vm.findClass RX0 = some m.cls := findClass_of_methodNamed B.named
  have hlocks := B.notSynchronized
  have hl := lv_entry ([.ref (ad 0), .int (x1), .int (x2), .int (x3)]) (n := 5) (Nat.le_of_ble_eq_true rfl)
  rw [lg_entry_eq]
  generalize (lg_sl ([.ref (ad 0), .int (x1), .int (x2), .int (x3)]) ++ List.replicate (5 - (lg_sl ([.ref (ad 0), .int (x1), .int (x2), .int (x3)])).length) Slot.unset).toArray = ls at hl ⊢
  have hl : lv_has ls 5 [(0, .ref (ad 0)), (1, .int (x1)), (2, .int (x2)), (3, .int (x3))] := hl
  refine lv_aload_n hx hb dX0_setValue_0 rfl (lv_at hl 0 rfl) ?_
  refine lv_iload_n hx hb dX0_setValue_1 rfl (lv_at hl 1 rfl) ?_
  exact zx_callP (As := [.int (x1)]) (rest := []) hx hb hml hts hown hxt hlocks (cb_needRegister l dC dI cA cR tr wr ad kd n t z v S P V A hlt9 x1 hbad) zv_X0_39 rfl rfl ⟨Nat.le_of_ble_eq_true rfl, Nat.le_of_ble_eq_true rfl⟩ (zx_preV (q := (RX0, TX0, 8)) (ci := 0) (q0 := 0) hP hK henv va_S.rf rfl rfl) rfl hl.1 rfl (Nat.le_of_ble_eq_true rfl) dX0_setValue_2 ⟨Nat.le_of_ble_eq_true rfl, Nat.le_of_ble_eq_true rfl⟩
set_option maxHeartbeats 4000000 in
set_option maxRecDepth 100000 in
/-- setValue, argument 2 throws -/
theorem cb_setValue_1 (l : Launch) (dC : Nat → ClassId) (dI : Nat → Nat → Nat) (cA cR : ClassId) (tr : List (ClassId × FieldType)) (wr : va_W) (ad : Nat → Nat) (kd n t z v : Nat) (S : Nat → Int32) (P : Nat → Nat) (V : Nat → Nat → Nat) (A : Nat → Prop) (hlt9 : l.stackTraces = false) (x1 : Nat) (hx1 : x1 < 16) (x2 : Int32) (x3 : Int32) (hn : n ≤ 32) (hbad : x2 < 0 ∨ nI n ≤ x2) : vx_Met l yX0_setValue wzX0_setValue (zx_rm 7 105) (zx_pre (dC, dI) zz_cl ((cA, .int) :: (cR, .array .int) :: tr) (zc_w cA cR ad kd n t z v S P V ++ wr) A [.ref (ad 0), .int (nI (x1)), .int (x2), .int (x3)]) zx_no (zx_K zx_NS) 1 6 (fun _ => False) := by
  refine vx_ofW (cc := cX0_setValue) (maxL := 5) (ret := (some .int)) (by decide) rfl ?_
  intro p e s m args below meth c s₁ B hml hxt hv
  obtain ⟨rfl, hP, hK, henv⟩ := hv
  have hx := B.exec
  have hb := B.bytes
  have hr := B.returns
  have hts := atoms_spec (ws := wzX0_setValue) B.pre
  have hown : s.vm.findClass RX0 = some m.cls := findClass_of_methodNamed B.named
  have hlocks := B.notSynchronized
  have hl := lv_entry ([.ref (ad 0), .int (nI (x1)), .int (x2), .int (x3)]) (n := 5) (Nat.le_of_ble_eq_true rfl)
  rw [lg_entry_eq]
  generalize (lg_sl ([.ref (ad 0), .int (nI (x1)), .int (x2), .int (x3)]) ++ List.replicate (5 - (lg_sl ([.ref (ad 0), .int (nI (x1)), .int (x2), .int (x3)])).length) Slot.unset).toArray = ls at hl ⊢
  have hl : lv_has ls 5 [(0, .ref (ad 0)), (1, .int (nI (x1))), (2, .int (x2)), (3, .int (x3))] := hl
  refine lv_aload_n hx hb dX0_setValue_0 rfl (lv_at hl 0 rfl) ?_
  refine lv_iload_n hx hb dX0_setValue_1 rfl (lv_at hl 1 rfl) ?_
  refine zr_calln (zx_runV (As := [.int (nI (x1))]) (rest := []) hx hb hml hts hown (cx_needRegister l dC dI cA cR tr wr ad kd n t z v S P V x1 (by omega)) zv_X0_39 rfl rfl ⟨Nat.le_of_ble_eq_true rfl, Nat.le_of_ble_eq_true rfl⟩ (zr_preV (q := (RX0, TX0, 8)) (ci := 0) (q0 := 0) hP hK rfl rfl) rfl hl.1 rfl (Nat.le_of_ble_eq_true rfl) dX0_setValue_2 ⟨Nat.zero_le _, Nat.zero_le _⟩) ?_
  refine lv_aload_n hx hb dX0_setValue_5 rfl (lv_at hl 0 rfl) ?_
  refine lv_iload_n hx hb dX0_setValue_6 rfl (lv_at hl 2 rfl) ?_
  exact zx_callP (As := [.int (x2)]) (rest := []) hx hb hml hts hown hxt hlocks (cb_needPlace l dC dI cA cR tr wr ad kd n t z v S P V A hlt9 x2 hbad) zv_X0_42 rfl rfl ⟨Nat.le_of_ble_eq_true rfl, Nat.le_of_ble_eq_true rfl⟩ (zx_preV (q := (RX0, TX0, 8)) (ci := 0) (q0 := 0) hP hK henv va_S.rf rfl rfl) rfl hl.1 rfl (Nat.le_of_ble_eq_true rfl) dX0_setValue_7 ⟨Nat.le_of_ble_eq_true rfl, Nat.le_of_ble_eq_true rfl⟩
set_option maxHeartbeats 4000000 in
set_option maxRecDepth 100000 in
/-- value, argument 1 throws -/
theorem cb_value_0 (l : Launch) (dC : Nat → ClassId) (dI : Nat → Nat → Nat) (cA cR : ClassId) (tr : List (ClassId × FieldType)) (wr : va_W) (ad : Nat → Nat) (kd n t z v : Nat) (S : Nat → Int32) (P : Nat → Nat) (V : Nat → Nat → Nat) (A : Nat → Prop) (hlt9 : l.stackTraces = false) (x1 : Int32) (x2 : Int32) (hn : n ≤ 32) (hbad : x1 < 0 ∨ nI 16 ≤ x1) : vx_Met l yX0_value wzX0_value (zx_rm 7 105) (zx_pre (dC, dI) zz_cl ((cA, .int) :: (cR, .array .int) :: tr) (zc_w cA cR ad kd n t z v S P V ++ wr) A [.ref (ad 0), .int (x1), .int (x2)]) zx_no (zx_K zx_NS) 1 6 (fun _ => False) := by
  refine vx_ofW (cc := cX0_value) (maxL := 3) (ret := (some .int)) (by decide) rfl ?_
  intro p e s m args below meth c s₁ B hml hxt hv
  obtain ⟨rfl, hP, hK, henv⟩ := hv
  have hx := B.exec
  have hb := B.bytes
  have hr := B.returns
  have hts := atoms_spec (ws := wzX0_value) B.pre
  have hown : s.vm.findClass RX0 = some m.cls := findClass_of_methodNamed B.named
  have hlocks := B.notSynchronized
  have hl := lv_entry ([.ref (ad 0), .int (x1), .int (x2)]) (n := 3) (Nat.le_of_ble_eq_true rfl)
  rw [lg_entry_eq]
  generalize (lg_sl ([.ref (ad 0), .int (x1), .int (x2)]) ++ List.replicate (3 - (lg_sl ([.ref (ad 0), .int (x1), .int (x2)])).length) Slot.unset).toArray = ls at hl ⊢
  have hl : lv_has ls 3 [(0, .ref (ad 0)), (1, .int (x1)), (2, .int (x2))] := hl
  refine lv_aload_n hx hb dX0_value_0 rfl (lv_at hl 0 rfl) ?_
  refine lv_iload_n hx hb dX0_value_1 rfl (lv_at hl 1 rfl) ?_
  exact zx_callP (As := [.int (x1)]) (rest := []) hx hb hml hts hown hxt hlocks (cb_needRegister l dC dI cA cR tr wr ad kd n t z v S P V A hlt9 x1 hbad) zv_X0_39 rfl rfl ⟨Nat.le_of_ble_eq_true rfl, Nat.le_of_ble_eq_true rfl⟩ (zx_preV (q := (RX0, TX0, 8)) (ci := 0) (q0 := 0) hP hK henv va_S.rf rfl rfl) rfl hl.1 rfl (Nat.le_of_ble_eq_true rfl) dX0_value_2 ⟨Nat.le_of_ble_eq_true rfl, Nat.le_of_ble_eq_true rfl⟩
set_option maxHeartbeats 4000000 in
set_option maxRecDepth 100000 in
/-- value, argument 2 throws -/
theorem cb_value_1 (l : Launch) (dC : Nat → ClassId) (dI : Nat → Nat → Nat) (cA cR : ClassId) (tr : List (ClassId × FieldType)) (wr : va_W) (ad : Nat → Nat) (kd n t z v : Nat) (S : Nat → Int32) (P : Nat → Nat) (V : Nat → Nat → Nat) (A : Nat → Prop) (hlt9 : l.stackTraces = false) (x1 : Nat) (hx1 : x1 < 16) (x2 : Int32) (hn : n ≤ 32) (hbad : x2 < 0 ∨ nI n ≤ x2) : vx_Met l yX0_value wzX0_value (zx_rm 7 105) (zx_pre (dC, dI) zz_cl ((cA, .int) :: (cR, .array .int) :: tr) (zc_w cA cR ad kd n t z v S P V ++ wr) A [.ref (ad 0), .int (nI (x1)), .int (x2)]) zx_no (zx_K zx_NS) 1 6 (fun _ => False) := by
  refine vx_ofW (cc := cX0_value) (maxL := 3) (ret := (some .int)) (by decide) rfl ?_
  intro p e s m args below meth c s₁ B hml hxt hv
  obtain ⟨rfl, hP, hK, henv⟩ := hv
  have hx := B.exec
  have hb := B.bytes
  have hr := B.returns
  have hts := atoms_spec (ws := wzX0_value) B.pre
  have hown : s.vm.findClass RX0 = some m.cls := findClass_of_methodNamed B.named
  have hlocks := B.notSynchronized
  have hl := lv_entry ([.ref (ad 0), .int (nI (x1)), .int (x2)]) (n := 3) (Nat.le_of_ble_eq_true rfl)
  rw [lg_entry_eq]
  generalize (lg_sl ([.ref (ad 0), .int (nI (x1)), .int (x2)]) ++ List.replicate (3 - (lg_sl ([.ref (ad 0), .int (nI (x1)), .int (x2)])).length) Slot.unset).toArray = ls at hl ⊢
  have hl : lv_has ls 3 [(0, .ref (ad 0)), (1, .int (nI (x1))), (2, .int (x2))] := hl
  refine lv_aload_n hx hb dX0_value_0 rfl (lv_at hl 0 rfl) ?_
  refine lv_iload_n hx hb dX0_value_1 rfl (lv_at hl 1 rfl) ?_
  refine zr_calln (zx_runV (As := [.int (nI (x1))]) (rest := []) hx hb hml hts hown (cx_needRegister l dC dI cA cR tr wr ad kd n t z v S P V x1 (by omega)) zv_X0_39 rfl rfl ⟨Nat.le_of_ble_eq_true rfl, Nat.le_of_ble_eq_true rfl⟩ (zr_preV (q := (RX0, TX0, 8)) (ci := 0) (q0 := 0) hP hK rfl rfl) rfl hl.1 rfl (Nat.le_of_ble_eq_true rfl) dX0_value_2 ⟨Nat.zero_le _, Nat.zero_le _⟩) ?_
  refine lv_aload_n hx hb dX0_value_5 rfl (lv_at hl 0 rfl) ?_
  refine lv_iload_n hx hb dX0_value_6 rfl (lv_at hl 2 rfl) ?_
  exact zx_callP (As := [.int (x2)]) (rest := []) hx hb hml hts hown hxt hlocks (cb_needPlace l dC dI cA cR tr wr ad kd n t z v S P V A hlt9 x2 hbad) zv_X0_42 rfl rfl ⟨Nat.le_of_ble_eq_true rfl, Nat.le_of_ble_eq_true rfl⟩ (zx_preV (q := (RX0, TX0, 8)) (ci := 0) (q0 := 0) hP hK henv va_S.rf rfl rfl) rfl hl.1 rfl (Nat.le_of_ble_eq_true rfl) dX0_value_7 ⟨Nat.le_of_ble_eq_true rfl, Nat.le_of_ble_eq_true rfl⟩
set_option maxHeartbeats 4000000 in
set_option maxRecDepth 100000 in
/-- join, argument 1 throws -/
theorem cb_join_0 (l : Launch) (dC : Nat → ClassId) (dI : Nat → Nat → Nat) (cA cR : ClassId) (tr : List (ClassId × FieldType)) (wr : va_W) (ad : Nat → Nat) (kd n t z v : Nat) (S : Nat → Int32) (P : Nat → Nat) (V : Nat → Nat → Nat) (A : Nat → Prop) (hlt9 : l.stackTraces = false) (x1 : Int32) (x2 : Int32) (x3 : Int32) (x4 : Int32) (hn : n ≤ 32) (hbad : x1 < 0 ∨ nI 16 ≤ x1) : vx_Met l yX0_join wzX0_join (zx_rm 7 105) (zx_pre (dC, dI) zz_cl ((cA, .int) :: (cR, .array .int) :: tr) (zc_w cA cR ad kd n t z v S P V ++ wr) A [.ref (ad 0), .int (x1), .int (x2), .int (x3), .int (x4)]) zx_no (zx_K zx_NS) 1 6 (fun _ => False) := by
  refine vx_ofW (cc := cX0_join) (maxL := 6) (ret := (some .int)) (by decide) rfl ?_
  intro p e s m args below meth c s₁ B hml hxt hv
  obtain ⟨rfl, hP, hK, henv⟩ := hv
  have hx := B.exec
  have hb := B.bytes
  have hr := B.returns
  have hts := atoms_spec (ws := wzX0_join) B.pre
  have hown : s.vm.findClass RX0 = some m.cls := findClass_of_methodNamed B.named
  have hlocks := B.notSynchronized
  have hl := lv_entry ([.ref (ad 0), .int (x1), .int (x2), .int (x3), .int (x4)]) (n := 6) (Nat.le_of_ble_eq_true rfl)
  rw [lg_entry_eq]
  generalize (lg_sl ([.ref (ad 0), .int (x1), .int (x2), .int (x3), .int (x4)]) ++ List.replicate (6 - (lg_sl ([.ref (ad 0), .int (x1), .int (x2), .int (x3), .int (x4)])).length) Slot.unset).toArray = ls at hl ⊢
  have hl : lv_has ls 6 [(0, .ref (ad 0)), (1, .int (x1)), (2, .int (x2)), (3, .int (x3)), (4, .int (x4))] := hl
  refine lv_aload_n hx hb dX0_join_0 rfl (lv_at hl 0 rfl) ?_
  refine lv_iload_n hx hb dX0_join_1 rfl (lv_at hl 1 rfl) ?_
  exact zx_callP (As := [.int (x1)]) (rest := []) hx hb hml hts hown hxt hlocks (cb_needRegister l dC dI cA cR tr wr ad kd n t z v S P V A hlt9 x1 hbad) zv_X0_39 rfl rfl ⟨Nat.le_of_ble_eq_true rfl, Nat.le_of_ble_eq_true rfl⟩ (zx_preV (q := (RX0, TX0, 8)) (ci := 0) (q0 := 0) hP hK henv va_S.rf rfl rfl) rfl hl.1 rfl (Nat.le_of_ble_eq_true rfl) dX0_join_2 ⟨Nat.le_of_ble_eq_true rfl, Nat.le_of_ble_eq_true rfl⟩
set_option maxHeartbeats 4000000 in
set_option maxRecDepth 100000 in
/-- join, argument 3 throws -/
theorem cb_join_1 (l : Launch) (dC : Nat → ClassId) (dI : Nat → Nat → Nat) (cA cR : ClassId) (tr : List (ClassId × FieldType)) (wr : va_W) (ad : Nat → Nat) (kd n t z v : Nat) (S : Nat → Int32) (P : Nat → Nat) (V : Nat → Nat → Nat) (A : Nat → Prop) (hlt9 : l.stackTraces = false) (x1 : Nat) (hx1 : x1 < 16) (x2 : Int32) (x3 : Int32) (x4 : Int32) (hn : n ≤ 32) (hbad : x3 < 0 ∨ nI 16 ≤ x3) : vx_Met l yX0_join wzX0_join (zx_rm 7 105) (zx_pre (dC, dI) zz_cl ((cA, .int) :: (cR, .array .int) :: tr) (zc_w cA cR ad kd n t z v S P V ++ wr) A [.ref (ad 0), .int (nI (x1)), .int (x2), .int (x3), .int (x4)]) zx_no (zx_K zx_NS) 1 6 (fun _ => False) := by
  refine vx_ofW (cc := cX0_join) (maxL := 6) (ret := (some .int)) (by decide) rfl ?_
  intro p e s m args below meth c s₁ B hml hxt hv
  obtain ⟨rfl, hP, hK, henv⟩ := hv
  have hx := B.exec
  have hb := B.bytes
  have hr := B.returns
  have hts := atoms_spec (ws := wzX0_join) B.pre
  have hown : s.vm.findClass RX0 = some m.cls := findClass_of_methodNamed B.named
  have hlocks := B.notSynchronized
  have hl := lv_entry ([.ref (ad 0), .int (nI (x1)), .int (x2), .int (x3), .int (x4)]) (n := 6) (Nat.le_of_ble_eq_true rfl)
  rw [lg_entry_eq]
  generalize (lg_sl ([.ref (ad 0), .int (nI (x1)), .int (x2), .int (x3), .int (x4)]) ++ List.replicate (6 - (lg_sl ([.ref (ad 0), .int (nI (x1)), .int (x2), .int (x3), .int (x4)])).length) Slot.unset).toArray = ls at hl ⊢
  have hl : lv_has ls 6 [(0, .ref (ad 0)), (1, .int (nI (x1))), (2, .int (x2)), (3, .int (x3)), (4, .int (x4))] := hl
  refine lv_aload_n hx hb dX0_join_0 rfl (lv_at hl 0 rfl) ?_
  refine lv_iload_n hx hb dX0_join_1 rfl (lv_at hl 1 rfl) ?_
  refine zr_calln (zx_runV (As := [.int (nI (x1))]) (rest := []) hx hb hml hts hown (cx_needRegister l dC dI cA cR tr wr ad kd n t z v S P V x1 (by omega)) zv_X0_39 rfl rfl ⟨Nat.le_of_ble_eq_true rfl, Nat.le_of_ble_eq_true rfl⟩ (zr_preV (q := (RX0, TX0, 8)) (ci := 0) (q0 := 0) hP hK rfl rfl) rfl hl.1 rfl (Nat.le_of_ble_eq_true rfl) dX0_join_2 ⟨Nat.zero_le _, Nat.zero_le _⟩) ?_
  refine lv_aload_n hx hb dX0_join_5 rfl (lv_at hl 0 rfl) ?_
  refine lv_iload_n hx hb dX0_join_6 rfl (lv_at hl 3 rfl) ?_
  exact zx_callP (As := [.int (x3)]) (rest := []) hx hb hml hts hown hxt hlocks (cb_needRegister l dC dI cA cR tr wr ad kd n t z v S P V A hlt9 x3 hbad) zv_X0_39 rfl rfl ⟨Nat.le_of_ble_eq_true rfl, Nat.le_of_ble_eq_true rfl⟩ (zx_preV (q := (RX0, TX0, 8)) (ci := 0) (q0 := 0) hP hK henv va_S.rf rfl rfl) rfl hl.1 rfl (Nat.le_of_ble_eq_true rfl) dX0_join_7 ⟨Nat.le_of_ble_eq_true rfl, Nat.le_of_ble_eq_true rfl⟩
set_option maxHeartbeats 4000000 in
set_option maxRecDepth 100000 in
/-- join, argument 4 throws -/
theorem cb_join_2 (l : Launch) (dC : Nat → ClassId) (dI : Nat → Nat → Nat) (cA cR : ClassId) (tr : List (ClassId × FieldType)) (wr : va_W) (ad : Nat → Nat) (kd n t z v : Nat) (S : Nat → Int32) (P : Nat → Nat) (V : Nat → Nat → Nat) (A : Nat → Prop) (hlt9 : l.stackTraces = false) (x1 : Nat) (hx1 : x1 < 16) (x2 : Int32) (x3 : Nat) (hx3 : x3 < 16) (x4 : Int32) (hn : n ≤ 32) (hbad : x4 < 0 ∨ nI 16 ≤ x4) : vx_Met l yX0_join wzX0_join (zx_rm 7 105) (zx_pre (dC, dI) zz_cl ((cA, .int) :: (cR, .array .int) :: tr) (zc_w cA cR ad kd n t z v S P V ++ wr) A [.ref (ad 0), .int (nI (x1)), .int (x2), .int (nI (x3)), .int (x4)]) zx_no (zx_K zx_NS) 1 6 (fun _ => False) := by
  refine vx_ofW (cc := cX0_join) (maxL := 6) (ret := (some .int)) (by decide) rfl ?_
  intro p e s m args below meth c s₁ B hml hxt hv
  obtain ⟨rfl, hP, hK, henv⟩ := hv
  have hx := B.exec
  have hb := B.bytes
  have hr := B.returns
  have hts := atoms_spec (ws := wzX0_join) B.pre
  have hown : s.vm.findClass RX0 = some m.cls := findClass_of_methodNamed B.named
  have hlocks := B.notSynchronized
  have hl := lv_entry ([.ref (ad 0), .int (nI (x1)), .int (x2), .int (nI (x3)), .int (x4)]) (n := 6) (Nat.le_of_ble_eq_true rfl)
  rw [lg_entry_eq]
  generalize (lg_sl ([.ref (ad 0), .int (nI (x1)), .int (x2), .int (nI (x3)), .int (x4)]) ++ List.replicate (6 - (lg_sl ([.ref (ad 0), .int (nI (x1)), .int (x2), .int (nI (x3)), .int (x4)])).length) Slot.unset).toArray = ls at hl ⊢
  have hl : lv_has ls 6 [(0, .ref (ad 0)), (1, .int (nI (x1))), (2, .int (x2)), (3, .int (nI (x3))), (4, .int (x4))] := hl
  refine lv_aload_n hx hb dX0_join_0 rfl (lv_at hl 0 rfl) ?_
  refine lv_iload_n hx hb dX0_join_1 rfl (lv_at hl 1 rfl) ?_
  refine zr_calln (zx_runV (As := [.int (nI (x1))]) (rest := []) hx hb hml hts hown (cx_needRegister l dC dI cA cR tr wr ad kd n t z v S P V x1 (by omega)) zv_X0_39 rfl rfl ⟨Nat.le_of_ble_eq_true rfl, Nat.le_of_ble_eq_true rfl⟩ (zr_preV (q := (RX0, TX0, 8)) (ci := 0) (q0 := 0) hP hK rfl rfl) rfl hl.1 rfl (Nat.le_of_ble_eq_true rfl) dX0_join_2 ⟨Nat.zero_le _, Nat.zero_le _⟩) ?_
  refine lv_aload_n hx hb dX0_join_5 rfl (lv_at hl 0 rfl) ?_
  refine lv_iload_n hx hb dX0_join_6 rfl (lv_at hl 3 rfl) ?_
  refine zr_calln (zx_runV (As := [.int (nI (x3))]) (rest := []) hx hb hml hts hown (cx_needRegister l dC dI cA cR tr wr ad kd n t z v S P V x3 (by omega)) zv_X0_39 rfl rfl ⟨Nat.le_of_ble_eq_true rfl, Nat.le_of_ble_eq_true rfl⟩ (zr_preV (q := (RX0, TX0, 8)) (ci := 0) (q0 := 0) hP hK rfl rfl) rfl hl.1 rfl (Nat.le_of_ble_eq_true rfl) dX0_join_7 ⟨Nat.zero_le _, Nat.zero_le _⟩) ?_
  refine lv_aload_n hx hb dX0_join_10 rfl (lv_at hl 0 rfl) ?_
  refine lv_iload hx hb dX0_join_11 (lv_at hl 4 rfl) ?_
  exact zx_callP (As := [.int (x4)]) (rest := []) hx hb hml hts hown hxt hlocks (cb_needRegister l dC dI cA cR tr wr ad kd n t z v S P V A hlt9 x4 hbad) zv_X0_39 rfl rfl ⟨Nat.le_of_ble_eq_true rfl, Nat.le_of_ble_eq_true rfl⟩ (zx_preV (q := (RX0, TX0, 8)) (ci := 0) (q0 := 0) hP hK henv va_S.rf rfl rfl) rfl hl.1 rfl (Nat.le_of_ble_eq_true rfl) dX0_join_13 ⟨Nat.le_of_ble_eq_true rfl, Nat.le_of_ble_eq_true rfl⟩
set_option maxHeartbeats 4000000 in
set_option maxRecDepth 100000 in
/-- turn, argument 1 throws -/
theorem cb_turn_0 (l : Launch) (dC : Nat → ClassId) (dI : Nat → Nat → Nat) (cA cR : ClassId) (tr : List (ClassId × FieldType)) (wr : va_W) (ad : Nat → Nat) (kd n t z v : Nat) (S : Nat → Int32) (P : Nat → Nat) (V : Nat → Nat → Nat) (A : Nat → Prop) (hlt9 : l.stackTraces = false) (x1 : Int32) (x2 : Int32) (x3 : Int32) (hn : n ≤ 32) (hbad : x1 < 0 ∨ nI 16 ≤ x1) : vx_Met l yX0_turn wzX0_turn (zx_rm 7 105) (zx_pre (dC, dI) zz_cl ((cA, .int) :: (cR, .array .int) :: tr) (zc_w cA cR ad kd n t z v S P V ++ wr) A [.ref (ad 0), .int (x1), .int (x2), .int (x3)]) zx_no (zx_K zx_NS) 1 6 (fun _ => False) := by
  refine vx_ofW (cc := cX0_turn) (maxL := 6) (ret := (some .int)) (by decide) rfl ?_
  intro p e s m args below meth c s₁ B hml hxt hv
  obtain ⟨rfl, hP, hK, henv⟩ := hv
  have hx := B.exec
  have hb := B.bytes
  have hr := B.returns
  have hts := atoms_spec (ws := wzX0_turn) B.pre
  have hown : s.vm.findClass RX0 = some m.cls := findClass_of_methodNamed B.named
  have hlocks := B.notSynchronized
  have hl := lv_entry ([.ref (ad 0), .int (x1), .int (x2), .int (x3)]) (n := 6) (Nat.le_of_ble_eq_true rfl)
  rw [lg_entry_eq]
  generalize (lg_sl ([.ref (ad 0), .int (x1), .int (x2), .int (x3)]) ++ List.replicate (6 - (lg_sl ([.ref (ad 0), .int (x1), .int (x2), .int (x3)])).length) Slot.unset).toArray = ls at hl ⊢
  have hl : lv_has ls 6 [(0, .ref (ad 0)), (1, .int (x1)), (2, .int (x2)), (3, .int (x3))] := hl
  refine lv_aload_n hx hb dX0_turn_0 rfl (lv_at hl 0 rfl) ?_
  refine lv_iload_n hx hb dX0_turn_1 rfl (lv_at hl 1 rfl) ?_
  exact zx_callP (As := [.int (x1)]) (rest := []) hx hb hml hts hown hxt hlocks (cb_needRegister l dC dI cA cR tr wr ad kd n t z v S P V A hlt9 x1 hbad) zv_X0_39 rfl rfl ⟨Nat.le_of_ble_eq_true rfl, Nat.le_of_ble_eq_true rfl⟩ (zx_preV (q := (RX0, TX0, 8)) (ci := 0) (q0 := 0) hP hK henv va_S.rf rfl rfl) rfl hl.1 rfl (Nat.le_of_ble_eq_true rfl) dX0_turn_2 ⟨Nat.le_of_ble_eq_true rfl, Nat.le_of_ble_eq_true rfl⟩
set_option maxHeartbeats 4000000 in
set_option maxRecDepth 100000 in
/-- turn, argument 2 throws -/
theorem cb_turn_1 (l : Launch) (dC : Nat → ClassId) (dI : Nat → Nat → Nat) (cA cR : ClassId) (tr : List (ClassId × FieldType)) (wr : va_W) (ad : Nat → Nat) (kd n t z v : Nat) (S : Nat → Int32) (P : Nat → Nat) (V : Nat → Nat → Nat) (A : Nat → Prop) (hlt9 : l.stackTraces = false) (x1 : Nat) (hx1 : x1 < 16) (x2 : Int32) (x3 : Int32) (hn : n ≤ 32) (hbad : x2 < 0 ∨ nI 16 ≤ x2) : vx_Met l yX0_turn wzX0_turn (zx_rm 7 105) (zx_pre (dC, dI) zz_cl ((cA, .int) :: (cR, .array .int) :: tr) (zc_w cA cR ad kd n t z v S P V ++ wr) A [.ref (ad 0), .int (nI (x1)), .int (x2), .int (x3)]) zx_no (zx_K zx_NS) 1 6 (fun _ => False) := by
  refine vx_ofW (cc := cX0_turn) (maxL := 6) (ret := (some .int)) (by decide) rfl ?_
  intro p e s m args below meth c s₁ B hml hxt hv
  obtain ⟨rfl, hP, hK, henv⟩ := hv
  have hx := B.exec
  have hb := B.bytes
  have hr := B.returns
  have hts := atoms_spec (ws := wzX0_turn) B.pre
  have hown : s.vm.findClass RX0 = some m.cls := findClass_of_methodNamed B.named
  have hlocks := B.notSynchronized
  have hl := lv_entry ([.ref (ad 0), .int (nI (x1)), .int (x2), .int (x3)]) (n := 6) (Nat.le_of_ble_eq_true rfl)
  rw [lg_entry_eq]
  generalize (lg_sl ([.ref (ad 0), .int (nI (x1)), .int (x2), .int (x3)]) ++ List.replicate (6 - (lg_sl ([.ref (ad 0), .int (nI (x1)), .int (x2), .int (x3)])).length) Slot.unset).toArray = ls at hl ⊢
  have hl : lv_has ls 6 [(0, .ref (ad 0)), (1, .int (nI (x1))), (2, .int (x2)), (3, .int (x3))] := hl
  refine lv_aload_n hx hb dX0_turn_0 rfl (lv_at hl 0 rfl) ?_
  refine lv_iload_n hx hb dX0_turn_1 rfl (lv_at hl 1 rfl) ?_
  refine zr_calln (zx_runV (As := [.int (nI (x1))]) (rest := []) hx hb hml hts hown (cx_needRegister l dC dI cA cR tr wr ad kd n t z v S P V x1 (by omega)) zv_X0_39 rfl rfl ⟨Nat.le_of_ble_eq_true rfl, Nat.le_of_ble_eq_true rfl⟩ (zr_preV (q := (RX0, TX0, 8)) (ci := 0) (q0 := 0) hP hK rfl rfl) rfl hl.1 rfl (Nat.le_of_ble_eq_true rfl) dX0_turn_2 ⟨Nat.zero_le _, Nat.zero_le _⟩) ?_
  refine lv_aload_n hx hb dX0_turn_5 rfl (lv_at hl 0 rfl) ?_
  refine lv_iload_n hx hb dX0_turn_6 rfl (lv_at hl 2 rfl) ?_
  exact zx_callP (As := [.int (x2)]) (rest := []) hx hb hml hts hown hxt hlocks (cb_needRegister l dC dI cA cR tr wr ad kd n t z v S P V A hlt9 x2 hbad) zv_X0_39 rfl rfl ⟨Nat.le_of_ble_eq_true rfl, Nat.le_of_ble_eq_true rfl⟩ (zx_preV (q := (RX0, TX0, 8)) (ci := 0) (q0 := 0) hP hK henv va_S.rf rfl rfl) rfl hl.1 rfl (Nat.le_of_ble_eq_true rfl) dX0_turn_7 ⟨Nat.le_of_ble_eq_true rfl, Nat.le_of_ble_eq_true rfl⟩
set_option maxHeartbeats 4000000 in
set_option maxRecDepth 100000 in
/-- power, argument 1 throws -/
theorem cb_power_0 (l : Launch) (dC : Nat → ClassId) (dI : Nat → Nat → Nat) (cA cR : ClassId) (tr : List (ClassId × FieldType)) (wr : va_W) (ad : Nat → Nat) (kd n t z v : Nat) (S : Nat → Int32) (P : Nat → Nat) (V : Nat → Nat → Nat) (A : Nat → Prop) (hlt9 : l.stackTraces = false) (x1 : Int32) (x2 : Int32) (x3 : Int32) (hn : n ≤ 32) (hbad : x1 < 0 ∨ nI 16 ≤ x1) : vx_Met l yX0_power wzX0_power (zx_rm 7 105) (zx_pre (dC, dI) zz_cl ((cA, .int) :: (cR, .array .int) :: tr) (zc_w cA cR ad kd n t z v S P V ++ wr) A [.ref (ad 0), .int (x1), .int (x2), .int (x3)]) zx_no (zx_K zx_NS) 1 6 (fun _ => False) := by
  refine vx_ofW (cc := cX0_power) (maxL := 6) (ret := (some .int)) (by decide) rfl ?_
  intro p e s m args below meth c s₁ B hml hxt hv
  obtain ⟨rfl, hP, hK, henv⟩ := hv
  have hx := B.exec
  have hb := B.bytes
  have hr := B.returns
  have hts := atoms_spec (ws := wzX0_power) B.pre
  have hown : s.vm.findClass RX0 = some m.cls := findClass_of_methodNamed B.named
  have hlocks := B.notSynchronized
  have hl := lv_entry ([.ref (ad 0), .int (x1), .int (x2), .int (x3)]) (n := 6) (Nat.le_of_ble_eq_true rfl)
  rw [lg_entry_eq]
  generalize (lg_sl ([.ref (ad 0), .int (x1), .int (x2), .int (x3)]) ++ List.replicate (6 - (lg_sl ([.ref (ad 0), .int (x1), .int (x2), .int (x3)])).length) Slot.unset).toArray = ls at hl ⊢
  have hl : lv_has ls 6 [(0, .ref (ad 0)), (1, .int (x1)), (2, .int (x2)), (3, .int (x3))] := hl
  refine lv_aload_n hx hb dX0_power_0 rfl (lv_at hl 0 rfl) ?_
  refine lv_iload_n hx hb dX0_power_1 rfl (lv_at hl 1 rfl) ?_
  exact zx_callP (As := [.int (x1)]) (rest := []) hx hb hml hts hown hxt hlocks (cb_needRegister l dC dI cA cR tr wr ad kd n t z v S P V A hlt9 x1 hbad) zv_X0_39 rfl rfl ⟨Nat.le_of_ble_eq_true rfl, Nat.le_of_ble_eq_true rfl⟩ (zx_preV (q := (RX0, TX0, 8)) (ci := 0) (q0 := 0) hP hK henv va_S.rf rfl rfl) rfl hl.1 rfl (Nat.le_of_ble_eq_true rfl) dX0_power_2 ⟨Nat.le_of_ble_eq_true rfl, Nat.le_of_ble_eq_true rfl⟩
set_option maxHeartbeats 4000000 in
set_option maxRecDepth 100000 in
/-- power, argument 2 throws -/
theorem cb_power_1 (l : Launch) (dC : Nat → ClassId) (dI : Nat → Nat → Nat) (cA cR : ClassId) (tr : List (ClassId × FieldType)) (wr : va_W) (ad : Nat → Nat) (kd n t z v : Nat) (S : Nat → Int32) (P : Nat → Nat) (V : Nat → Nat → Nat) (A : Nat → Prop) (hlt9 : l.stackTraces = false) (x1 : Nat) (hx1 : x1 < 16) (x2 : Int32) (x3 : Int32) (hn : n ≤ 32) (hbad : x2 < 0 ∨ nI 16 ≤ x2) : vx_Met l yX0_power wzX0_power (zx_rm 7 105) (zx_pre (dC, dI) zz_cl ((cA, .int) :: (cR, .array .int) :: tr) (zc_w cA cR ad kd n t z v S P V ++ wr) A [.ref (ad 0), .int (nI (x1)), .int (x2), .int (x3)]) zx_no (zx_K zx_NS) 1 6 (fun _ => False) := by
  refine vx_ofW (cc := cX0_power) (maxL := 6) (ret := (some .int)) (by decide) rfl ?_
  intro p e s m args below meth c s₁ B hml hxt hv
  obtain ⟨rfl, hP, hK, henv⟩ := hv
  have hx := B.exec
  have hb := B.bytes
  have hr := B.returns
  have hts := atoms_spec (ws := wzX0_power) B.pre
  have hown : s.vm.findClass RX0 = some m.cls := findClass_of_methodNamed B.named
  have hlocks := B.notSynchronized
  have hl := lv_entry ([.ref (ad 0), .int (nI (x1)), .int (x2), .int (x3)]) (n := 6) (Nat.le_of_ble_eq_true rfl)
  rw [lg_entry_eq]
  generalize (lg_sl ([.ref (ad 0), .int (nI (x1)), .int (x2), .int (x3)]) ++ List.replicate (6 - (lg_sl ([.ref (ad 0), .int (nI (x1)), .int (x2), .int (x3)])).length) Slot.unset).toArray = ls at hl ⊢
  have hl : lv_has ls 6 [(0, .ref (ad 0)), (1, .int (nI (x1))), (2, .int (x2)), (3, .int (x3))] := hl
  refine lv_aload_n hx hb dX0_power_0 rfl (lv_at hl 0 rfl) ?_
  refine lv_iload_n hx hb dX0_power_1 rfl (lv_at hl 1 rfl) ?_
  refine zr_calln (zx_runV (As := [.int (nI (x1))]) (rest := []) hx hb hml hts hown (cx_needRegister l dC dI cA cR tr wr ad kd n t z v S P V x1 (by omega)) zv_X0_39 rfl rfl ⟨Nat.le_of_ble_eq_true rfl, Nat.le_of_ble_eq_true rfl⟩ (zr_preV (q := (RX0, TX0, 8)) (ci := 0) (q0 := 0) hP hK rfl rfl) rfl hl.1 rfl (Nat.le_of_ble_eq_true rfl) dX0_power_2 ⟨Nat.zero_le _, Nat.zero_le _⟩) ?_
  refine lv_aload_n hx hb dX0_power_5 rfl (lv_at hl 0 rfl) ?_
  refine lv_iload_n hx hb dX0_power_6 rfl (lv_at hl 2 rfl) ?_
  exact zx_callP (As := [.int (x2)]) (rest := []) hx hb hml hts hown hxt hlocks (cb_needRegister l dC dI cA cR tr wr ad kd n t z v S P V A hlt9 x2 hbad) zv_X0_39 rfl rfl ⟨Nat.le_of_ble_eq_true rfl, Nat.le_of_ble_eq_true rfl⟩ (zx_preV (q := (RX0, TX0, 8)) (ci := 0) (q0 := 0) hP hK henv va_S.rf rfl rfl) rfl hl.1 rfl (Nat.le_of_ble_eq_true rfl) dX0_power_7 ⟨Nat.le_of_ble_eq_true rfl, Nat.le_of_ble_eq_true rfl⟩
set_option maxHeartbeats 4000000 in
set_option maxRecDepth 100000 in
/-- root, argument 1 throws -/
theorem cb_root_0 (l : Launch) (dC : Nat → ClassId) (dI : Nat → Nat → Nat) (cA cR : ClassId) (tr : List (ClassId × FieldType)) (wr : va_W) (ad : Nat → Nat) (kd n t z v : Nat) (S : Nat → Int32) (P : Nat → Nat) (V : Nat → Nat → Nat) (A : Nat → Prop) (hlt9 : l.stackTraces = false) (x1 : Int32) (x2 : Int32) (hn : n ≤ 32) (hbad : x1 < 0 ∨ nI 16 ≤ x1) : vx_Met l yX0_root wzX0_root (zx_rm 7 105) (zx_pre (dC, dI) zz_cl ((cA, .int) :: (cR, .array .int) :: tr) (zc_w cA cR ad kd n t z v S P V ++ wr) A [.ref (ad 0), .int (x1), .int (x2)]) zx_no (zx_K zx_NS) 1 6 (fun _ => False) := by
  refine vx_ofW (cc := cX0_root) (maxL := 4) (ret := (some .long)) (by decide) rfl ?_
  intro p e s m args below meth c s₁ B hml hxt hv
  obtain ⟨rfl, hP, hK, henv⟩ := hv
  have hx := B.exec
  have hb := B.bytes
  have hr := B.returns
  have hts := atoms_spec (ws := wzX0_root) B.pre
  have hown : s.vm.findClass RX0 = some m.cls := findClass_of_methodNamed B.named
  have hlocks := B.notSynchronized
  have hl := lv_entry ([.ref (ad 0), .int (x1), .int (x2)]) (n := 4) (Nat.le_of_ble_eq_true rfl)
  rw [lg_entry_eq]
  generalize (lg_sl ([.ref (ad 0), .int (x1), .int (x2)]) ++ List.replicate (4 - (lg_sl ([.ref (ad 0), .int (x1), .int (x2)])).length) Slot.unset).toArray = ls at hl ⊢
  have hl : lv_has ls 4 [(0, .ref (ad 0)), (1, .int (x1)), (2, .int (x2))] := hl
  refine lv_aload_n hx hb dX0_root_0 rfl (lv_at hl 0 rfl) ?_
  refine lv_iload_n hx hb dX0_root_1 rfl (lv_at hl 1 rfl) ?_
  exact zx_callP (As := [.int (x1)]) (rest := []) hx hb hml hts hown hxt hlocks (cb_needRegister l dC dI cA cR tr wr ad kd n t z v S P V A hlt9 x1 hbad) zv_X0_39 rfl rfl ⟨Nat.le_of_ble_eq_true rfl, Nat.le_of_ble_eq_true rfl⟩ (zx_preV (q := (RX0, TX0, 8)) (ci := 0) (q0 := 0) hP hK henv va_S.rf rfl rfl) rfl hl.1 rfl (Nat.le_of_ble_eq_true rfl) dX0_root_2 ⟨Nat.le_of_ble_eq_true rfl, Nat.le_of_ble_eq_true rfl⟩
set_option maxHeartbeats 4000000 in
set_option maxRecDepth 100000 in
/-- root, argument 2 throws -/
theorem cb_root_1 (l : Launch) (dC : Nat → ClassId) (dI : Nat → Nat → Nat) (cA cR : ClassId) (tr : List (ClassId × FieldType)) (wr : va_W) (ad : Nat → Nat) (kd n t z v : Nat) (S : Nat → Int32) (P : Nat → Nat) (V : Nat → Nat → Nat) (A : Nat → Prop) (hlt9 : l.stackTraces = false) (x1 : Nat) (hx1 : x1 < 16) (x2 : Int32) (hn : n ≤ 32) (hbad : x2 < 0 ∨ nI 16 ≤ x2) : vx_Met l yX0_root wzX0_root (zx_rm 7 105) (zx_pre (dC, dI) zz_cl ((cA, .int) :: (cR, .array .int) :: tr) (zc_w cA cR ad kd n t z v S P V ++ wr) A [.ref (ad 0), .int (nI (x1)), .int (x2)]) zx_no (zx_K zx_NS) 1 6 (fun _ => False) := by
  refine vx_ofW (cc := cX0_root) (maxL := 4) (ret := (some .long)) (by decide) rfl ?_
  intro p e s m args below meth c s₁ B hml hxt hv
  obtain ⟨rfl, hP, hK, henv⟩ := hv
  have hx := B.exec
  have hb := B.bytes
  have hr := B.returns
  have hts := atoms_spec (ws := wzX0_root) B.pre
  have hown : s.vm.findClass RX0 = some m.cls := findClass_of_methodNamed B.named
  have hlocks := B.notSynchronized
  have hl := lv_entry ([.ref (ad 0), .int (nI (x1)), .int (x2)]) (n := 4) (Nat.le_of_ble_eq_true rfl)
  rw [lg_entry_eq]
  generalize (lg_sl ([.ref (ad 0), .int (nI (x1)), .int (x2)]) ++ List.replicate (4 - (lg_sl ([.ref (ad 0), .int (nI (x1)), .int (x2)])).length) Slot.unset).toArray = ls at hl ⊢
  have hl : lv_has ls 4 [(0, .ref (ad 0)), (1, .int (nI (x1))), (2, .int (x2))] := hl
  refine lv_aload_n hx hb dX0_root_0 rfl (lv_at hl 0 rfl) ?_
  refine lv_iload_n hx hb dX0_root_1 rfl (lv_at hl 1 rfl) ?_
  refine zr_calln (zx_runV (As := [.int (nI (x1))]) (rest := []) hx hb hml hts hown (cx_needRegister l dC dI cA cR tr wr ad kd n t z v S P V x1 (by omega)) zv_X0_39 rfl rfl ⟨Nat.le_of_ble_eq_true rfl, Nat.le_of_ble_eq_true rfl⟩ (zr_preV (q := (RX0, TX0, 8)) (ci := 0) (q0 := 0) hP hK rfl rfl) rfl hl.1 rfl (Nat.le_of_ble_eq_true rfl) dX0_root_2 ⟨Nat.zero_le _, Nat.zero_le _⟩) ?_
  refine lv_aload_n hx hb dX0_root_5 rfl (lv_at hl 0 rfl) ?_
  refine lv_iload_n hx hb dX0_root_6 rfl (lv_at hl 2 rfl) ?_
  exact zx_callP (As := [.int (x2)]) (rest := []) hx hb hml hts hown hxt hlocks (cb_needRegister l dC dI cA cR tr wr ad kd n t z v S P V A hlt9 x2 hbad) zv_X0_39 rfl rfl ⟨Nat.le_of_ble_eq_true rfl, Nat.le_of_ble_eq_true rfl⟩ (zx_preV (q := (RX0, TX0, 8)) (ci := 0) (q0 := 0) hP hK henv va_S.rf rfl rfl) rfl hl.1 rfl (Nat.le_of_ble_eq_true rfl) dX0_root_7 ⟨Nat.le_of_ble_eq_true rfl, Nat.le_of_ble_eq_true rfl⟩
set_option maxHeartbeats 4000000 in
set_option maxRecDepth 100000 in
/-- order, argument 1 throws -/
theorem cb_order_0 (l : Launch) (dC : Nat → ClassId) (dI : Nat → Nat → Nat) (cA cR : ClassId) (tr : List (ClassId × FieldType)) (wr : va_W) (ad : Nat → Nat) (kd n t z v : Nat) (S : Nat → Int32) (P : Nat → Nat) (V : Nat → Nat → Nat) (A : Nat → Prop) (hlt9 : l.stackTraces = false) (x1 : Int32) (hn : n ≤ 32) (hbad : x1 < 0 ∨ nI 16 ≤ x1) : vx_Met l yX0_order wzX0_order (zx_rm 7 105) (zx_pre (dC, dI) zz_cl ((cA, .int) :: (cR, .array .int) :: tr) (zc_w cA cR ad kd n t z v S P V ++ wr) A [.ref (ad 0), .int (x1)]) zx_no (zx_K zx_NS) 1 6 (fun _ => False) := by
  refine vx_ofW (cc := cX0_order) (maxL := 3) (ret := (some .int)) (by decide) rfl ?_
  intro p e s m args below meth c s₁ B hml hxt hv
  obtain ⟨rfl, hP, hK, henv⟩ := hv
  have hx := B.exec
  have hb := B.bytes
  have hr := B.returns
  have hts := atoms_spec (ws := wzX0_order) B.pre
  have hown : s.vm.findClass RX0 = some m.cls := findClass_of_methodNamed B.named
  have hlocks := B.notSynchronized
  have hl := lv_entry ([.ref (ad 0), .int (x1)]) (n := 3) (Nat.le_of_ble_eq_true rfl)
  rw [lg_entry_eq]
  generalize (lg_sl ([.ref (ad 0), .int (x1)]) ++ List.replicate (3 - (lg_sl ([.ref (ad 0), .int (x1)])).length) Slot.unset).toArray = ls at hl ⊢
  have hl : lv_has ls 3 [(0, .ref (ad 0)), (1, .int (x1))] := hl
  refine lv_aload_n hx hb dX0_order_0 rfl (lv_at hl 0 rfl) ?_
  refine lv_iload_n hx hb dX0_order_1 rfl (lv_at hl 1 rfl) ?_
  exact zx_callP (As := [.int (x1)]) (rest := []) hx hb hml hts hown hxt hlocks (cb_needRegister l dC dI cA cR tr wr ad kd n t z v S P V A hlt9 x1 hbad) zv_X0_39 rfl rfl ⟨Nat.le_of_ble_eq_true rfl, Nat.le_of_ble_eq_true rfl⟩ (zx_preV (q := (RX0, TX0, 8)) (ci := 0) (q0 := 0) hP hK henv va_S.rf rfl rfl) rfl hl.1 rfl (Nat.le_of_ble_eq_true rfl) dX0_order_2 ⟨Nat.le_of_ble_eq_true rfl, Nat.le_of_ble_eq_true rfl⟩
set_option maxHeartbeats 4000000 in
set_option maxRecDepth 100000 in
/-- about, argument 1 throws -/
theorem cb_about_0 (l : Launch) (dC : Nat → ClassId) (dI : Nat → Nat → Nat) (cA cR : ClassId) (tr : List (ClassId × FieldType)) (wr : va_W) (ad : Nat → Nat) (kd n t z v : Nat) (S : Nat → Int32) (P : Nat → Nat) (V : Nat → Nat → Nat) (A : Nat → Prop) (hlt9 : l.stackTraces = false) (x1 : Int32) (x2 : Int32) (hn : n ≤ 32) (hbad : x1 < 0 ∨ nI 16 ≤ x1) : vx_Met l yX0_about wzX0_about (zx_rm 7 105) (zx_pre (dC, dI) zz_cl ((cA, .int) :: (cR, .array .int) :: tr) (zc_w cA cR ad kd n t z v S P V ++ wr) A [.ref (ad 0), .int (x1), .int (x2)]) zx_no (zx_K zx_NS) 1 6 (fun _ => False) := by
  refine vx_ofW (cc := cX0_about) (maxL := 3) (ret := (some .int)) (by decide) rfl ?_
  intro p e s m args below meth c s₁ B hml hxt hv
  obtain ⟨rfl, hP, hK, henv⟩ := hv
  have hx := B.exec
  have hb := B.bytes
  have hr := B.returns
  have hts := atoms_spec (ws := wzX0_about) B.pre
  have hown : s.vm.findClass RX0 = some m.cls := findClass_of_methodNamed B.named
  have hlocks := B.notSynchronized
  have hl := lv_entry ([.ref (ad 0), .int (x1), .int (x2)]) (n := 3) (Nat.le_of_ble_eq_true rfl)
  rw [lg_entry_eq]
  generalize (lg_sl ([.ref (ad 0), .int (x1), .int (x2)]) ++ List.replicate (3 - (lg_sl ([.ref (ad 0), .int (x1), .int (x2)])).length) Slot.unset).toArray = ls at hl ⊢
  have hl : lv_has ls 3 [(0, .ref (ad 0)), (1, .int (x1)), (2, .int (x2))] := hl
  refine lv_aload_n hx hb dX0_about_0 rfl (lv_at hl 0 rfl) ?_
  refine lv_iload_n hx hb dX0_about_1 rfl (lv_at hl 1 rfl) ?_
  exact zx_callP (As := [.int (x1)]) (rest := []) hx hb hml hts hown hxt hlocks (cb_needRegister l dC dI cA cR tr wr ad kd n t z v S P V A hlt9 x1 hbad) zv_X0_39 rfl rfl ⟨Nat.le_of_ble_eq_true rfl, Nat.le_of_ble_eq_true rfl⟩ (zx_preV (q := (RX0, TX0, 8)) (ci := 0) (q0 := 0) hP hK henv va_S.rf rfl rfl) rfl hl.1 rfl (Nat.le_of_ble_eq_true rfl) dX0_about_2 ⟨Nat.le_of_ble_eq_true rfl, Nat.le_of_ble_eq_true rfl⟩
set_option maxHeartbeats 4000000 in
set_option maxRecDepth 100000 in
/-- same, argument 1 throws -/
theorem cb_same_0 (l : Launch) (dC : Nat → ClassId) (dI : Nat → Nat → Nat) (cA cR : ClassId) (tr : List (ClassId × FieldType)) (wr : va_W) (ad : Nat → Nat) (kd n t z v : Nat) (S : Nat → Int32) (P : Nat → Nat) (V : Nat → Nat → Nat) (A : Nat → Prop) (hlt9 : l.stackTraces = false) (x1 : Int32) (x2 : Int32) (hn : n ≤ 32) (hbad : x1 < 0 ∨ nI 16 ≤ x1) : vx_Met l yX0_same wzX0_same (zx_rm 7 105) (zx_pre (dC, dI) zz_cl ((cA, .int) :: (cR, .array .int) :: tr) (zc_w cA cR ad kd n t z v S P V ++ wr) A [.ref (ad 0), .int (x1), .int (x2)]) zx_no (zx_K zx_NS) 1 6 (fun _ => False) := by
  refine vx_ofW (cc := cX0_same) (maxL := 4) (ret := (some .boolean)) (by decide) rfl ?_
  intro p e s m args below meth c s₁ B hml hxt hv
  obtain ⟨rfl, hP, hK, henv⟩ := hv
  have hx := B.exec
  have hb := B.bytes
  have hr := B.returns
  have hts := atoms_spec (ws := wzX0_same) B.pre
  have hown : s.vm.findClass RX0 = some m.cls := findClass_of_methodNamed B.named
  have hlocks := B.notSynchronized
  have hl := lv_entry ([.ref (ad 0), .int (x1), .int (x2)]) (n := 4) (Nat.le_of_ble_eq_true rfl)
  rw [lg_entry_eq]
  generalize (lg_sl ([.ref (ad 0), .int (x1), .int (x2)]) ++ List.replicate (4 - (lg_sl ([.ref (ad 0), .int (x1), .int (x2)])).length) Slot.unset).toArray = ls at hl ⊢
  have hl : lv_has ls 4 [(0, .ref (ad 0)), (1, .int (x1)), (2, .int (x2))] := hl
  refine lv_aload_n hx hb dX0_same_0 rfl (lv_at hl 0 rfl) ?_
  refine lv_iload_n hx hb dX0_same_1 rfl (lv_at hl 1 rfl) ?_
  exact zx_callP (As := [.int (x1)]) (rest := []) hx hb hml hts hown hxt hlocks (cb_needRegister l dC dI cA cR tr wr ad kd n t z v S P V A hlt9 x1 hbad) zv_X0_39 rfl rfl ⟨Nat.le_of_ble_eq_true rfl, Nat.le_of_ble_eq_true rfl⟩ (zx_preV (q := (RX0, TX0, 8)) (ci := 0) (q0 := 0) hP hK henv va_S.rf rfl rfl) rfl hl.1 rfl (Nat.le_of_ble_eq_true rfl) dX0_same_2 ⟨Nat.le_of_ble_eq_true rfl, Nat.le_of_ble_eq_true rfl⟩
set_option maxHeartbeats 4000000 in
set_option maxRecDepth 100000 in
/-- same, argument 2 throws -/
theorem cb_same_1 (l : Launch) (dC : Nat → ClassId) (dI : Nat → Nat → Nat) (cA cR : ClassId) (tr : List (ClassId × FieldType)) (wr : va_W) (ad : Nat → Nat) (kd n t z v : Nat) (S : Nat → Int32) (P : Nat → Nat) (V : Nat → Nat → Nat) (A : Nat → Prop) (hlt9 : l.stackTraces = false) (x1 : Nat) (hx1 : x1 < 16) (x2 : Int32) (hn : n ≤ 32) (hbad : x2 < 0 ∨ nI 16 ≤ x2) : vx_Met l yX0_same wzX0_same (zx_rm 7 105) (zx_pre (dC, dI) zz_cl ((cA, .int) :: (cR, .array .int) :: tr) (zc_w cA cR ad kd n t z v S P V ++ wr) A [.ref (ad 0), .int (nI (x1)), .int (x2)]) zx_no (zx_K zx_NS) 1 6 (fun _ => False) := by
  refine vx_ofW (cc := cX0_same) (maxL := 4) (ret := (some .boolean)) (by decide) rfl ?_
  intro p e s m args below meth c s₁ B hml hxt hv
  obtain ⟨rfl, hP, hK, henv⟩ := hv
  have hx := B.exec
  have hb := B.bytes
  have hr := B.returns
  have hts := atoms_spec (ws := wzX0_same) B.pre
  have hown : s.vm.findClass RX0 = some m.cls := findClass_of_methodNamed B.named
  have hlocks := B.notSynchronized
  have hl := lv_entry ([.ref (ad 0), .int (nI (x1)), .int (x2)]) (n := 4) (Nat.le_of_ble_eq_true rfl)
  rw [lg_entry_eq]
  generalize (lg_sl ([.ref (ad 0), .int (nI (x1)), .int (x2)]) ++ List.replicate (4 - (lg_sl ([.ref (ad 0), .int (nI (x1)), .int (x2)])).length) Slot.unset).toArray = ls at hl ⊢
  have hl : lv_has ls 4 [(0, .ref (ad 0)), (1, .int (nI (x1))), (2, .int (x2))] := hl
  refine lv_aload_n hx hb dX0_same_0 rfl (lv_at hl 0 rfl) ?_
  refine lv_iload_n hx hb dX0_same_1 rfl (lv_at hl 1 rfl) ?_
  refine zr_calln (zx_runV (As := [.int (nI (x1))]) (rest := []) hx hb hml hts hown (cx_needRegister l dC dI cA cR tr wr ad kd n t z v S P V x1 (by omega)) zv_X0_39 rfl rfl ⟨Nat.le_of_ble_eq_true rfl, Nat.le_of_ble_eq_true rfl⟩ (zr_preV (q := (RX0, TX0, 8)) (ci := 0) (q0 := 0) hP hK rfl rfl) rfl hl.1 rfl (Nat.le_of_ble_eq_true rfl) dX0_same_2 ⟨Nat.zero_le _, Nat.zero_le _⟩) ?_
  refine lv_aload_n hx hb dX0_same_5 rfl (lv_at hl 0 rfl) ?_
  refine lv_iload_n hx hb dX0_same_6 rfl (lv_at hl 2 rfl) ?_
  exact zx_callP (As := [.int (x2)]) (rest := []) hx hb hml hts hown hxt hlocks (cb_needRegister l dC dI cA cR tr wr ad kd n t z v S P V A hlt9 x2 hbad) zv_X0_39 rfl rfl ⟨Nat.le_of_ble_eq_true rfl, Nat.le_of_ble_eq_true rfl⟩ (zx_preV (q := (RX0, TX0, 8)) (ci := 0) (q0 := 0) hP hK henv va_S.rf rfl rfl) rfl hl.1 rfl (Nat.le_of_ble_eq_true rfl) dX0_same_7 ⟨Nat.le_of_ble_eq_true rfl, Nat.le_of_ble_eq_true rfl⟩
set_option maxHeartbeats 4000000 in
set_option maxRecDepth 100000 in
/-- divides, argument 1 throws -/
theorem cb_divides_0 (l : Launch) (dC : Nat → ClassId) (dI : Nat → Nat → Nat) (cA cR : ClassId) (tr : List (ClassId × FieldType)) (wr : va_W) (ad : Nat → Nat) (kd n t z v : Nat) (S : Nat → Int32) (P : Nat → Nat) (V : Nat → Nat → Nat) (A : Nat → Prop) (hlt9 : l.stackTraces = false) (x1 : Int32) (x2 : Int32) (hn : n ≤ 32) (hbad : x1 < 0 ∨ nI 16 ≤ x1) : vx_Met l yX0_divides wzX0_divides (zx_rm 7 105) (zx_pre (dC, dI) zz_cl ((cA, .int) :: (cR, .array .int) :: tr) (zc_w cA cR ad kd n t z v S P V ++ wr) A [.ref (ad 0), .int (x1), .int (x2)]) zx_no (zx_K zx_NS) 1 6 (fun _ => False) := by
  refine vx_ofW (cc := cX0_divides) (maxL := 4) (ret := (some .boolean)) (by decide) rfl ?_
  intro p e s m args below meth c s₁ B hml hxt hv
  obtain ⟨rfl, hP, hK, henv⟩ := hv
  have hx := B.exec
  have hb := B.bytes
  have hr := B.returns
  have hts := atoms_spec (ws := wzX0_divides) B.pre
  have hown : s.vm.findClass RX0 = some m.cls := findClass_of_methodNamed B.named
  have hlocks := B.notSynchronized
  have hl := lv_entry ([.ref (ad 0), .int (x1), .int (x2)]) (n := 4) (Nat.le_of_ble_eq_true rfl)
  rw [lg_entry_eq]
  generalize (lg_sl ([.ref (ad 0), .int (x1), .int (x2)]) ++ List.replicate (4 - (lg_sl ([.ref (ad 0), .int (x1), .int (x2)])).length) Slot.unset).toArray = ls at hl ⊢
  have hl : lv_has ls 4 [(0, .ref (ad 0)), (1, .int (x1)), (2, .int (x2))] := hl
  refine lv_aload_n hx hb dX0_divides_0 rfl (lv_at hl 0 rfl) ?_
  refine lv_iload_n hx hb dX0_divides_1 rfl (lv_at hl 1 rfl) ?_
  exact zx_callP (As := [.int (x1)]) (rest := []) hx hb hml hts hown hxt hlocks (cb_needRegister l dC dI cA cR tr wr ad kd n t z v S P V A hlt9 x1 hbad) zv_X0_39 rfl rfl ⟨Nat.le_of_ble_eq_true rfl, Nat.le_of_ble_eq_true rfl⟩ (zx_preV (q := (RX0, TX0, 8)) (ci := 0) (q0 := 0) hP hK henv va_S.rf rfl rfl) rfl hl.1 rfl (Nat.le_of_ble_eq_true rfl) dX0_divides_2 ⟨Nat.le_of_ble_eq_true rfl, Nat.le_of_ble_eq_true rfl⟩
set_option maxHeartbeats 4000000 in
set_option maxRecDepth 100000 in
/-- divides, argument 2 throws -/
theorem cb_divides_1 (l : Launch) (dC : Nat → ClassId) (dI : Nat → Nat → Nat) (cA cR : ClassId) (tr : List (ClassId × FieldType)) (wr : va_W) (ad : Nat → Nat) (kd n t z v : Nat) (S : Nat → Int32) (P : Nat → Nat) (V : Nat → Nat → Nat) (A : Nat → Prop) (hlt9 : l.stackTraces = false) (x1 : Nat) (hx1 : x1 < 16) (x2 : Int32) (hn : n ≤ 32) (hbad : x2 < 0 ∨ nI 16 ≤ x2) : vx_Met l yX0_divides wzX0_divides (zx_rm 7 105) (zx_pre (dC, dI) zz_cl ((cA, .int) :: (cR, .array .int) :: tr) (zc_w cA cR ad kd n t z v S P V ++ wr) A [.ref (ad 0), .int (nI (x1)), .int (x2)]) zx_no (zx_K zx_NS) 1 6 (fun _ => False) := by
  refine vx_ofW (cc := cX0_divides) (maxL := 4) (ret := (some .boolean)) (by decide) rfl ?_
  intro p e s m args below meth c s₁ B hml hxt hv
  obtain ⟨rfl, hP, hK, henv⟩ := hv
  have hx := B.exec
  have hb := B.bytes
  have hr := B.returns
  have hts := atoms_spec (ws := wzX0_divides) B.pre
  have hown : s.vm.findClass RX0 = some m.cls := findClass_of_methodNamed B.named
  have hlocks := B.notSynchronized
  have hl := lv_entry ([.ref (ad 0), .int (nI (x1)), .int (x2)]) (n := 4) (Nat.le_of_ble_eq_true rfl)
  rw [lg_entry_eq]
  generalize (lg_sl ([.ref (ad 0), .int (nI (x1)), .int (x2)]) ++ List.replicate (4 - (lg_sl ([.ref (ad 0), .int (nI (x1)), .int (x2)])).length) Slot.unset).toArray = ls at hl ⊢
  have hl : lv_has ls 4 [(0, .ref (ad 0)), (1, .int (nI (x1))), (2, .int (x2))] := hl
  refine lv_aload_n hx hb dX0_divides_0 rfl (lv_at hl 0 rfl) ?_
  refine lv_iload_n hx hb dX0_divides_1 rfl (lv_at hl 1 rfl) ?_
  refine zr_calln (zx_runV (As := [.int (nI (x1))]) (rest := []) hx hb hml hts hown (cx_needRegister l dC dI cA cR tr wr ad kd n t z v S P V x1 (by omega)) zv_X0_39 rfl rfl ⟨Nat.le_of_ble_eq_true rfl, Nat.le_of_ble_eq_true rfl⟩ (zr_preV (q := (RX0, TX0, 8)) (ci := 0) (q0 := 0) hP hK rfl rfl) rfl hl.1 rfl (Nat.le_of_ble_eq_true rfl) dX0_divides_2 ⟨Nat.zero_le _, Nat.zero_le _⟩) ?_
  refine lv_aload_n hx hb dX0_divides_5 rfl (lv_at hl 0 rfl) ?_
  refine lv_iload_n hx hb dX0_divides_6 rfl (lv_at hl 2 rfl) ?_
  exact zx_callP (As := [.int (x2)]) (rest := []) hx hb hml hts hown hxt hlocks (cb_needRegister l dC dI cA cR tr wr ad kd n t z v S P V A hlt9 x2 hbad) zv_X0_39 rfl rfl ⟨Nat.le_of_ble_eq_true rfl, Nat.le_of_ble_eq_true rfl⟩ (zx_preV (q := (RX0, TX0, 8)) (ci := 0) (q0 := 0) hP hK henv va_S.rf rfl rfl) rfl hl.1 rfl (Nat.le_of_ble_eq_true rfl) dX0_divides_7 ⟨Nat.le_of_ble_eq_true rfl, Nat.le_of_ble_eq_true rfl⟩
