set_option maxHeartbeats 4000000 in
set_option maxRecDepth 100000 in
/-- setValue(r, i, v) -/
theorem cx_setValue (l : Launch) (dC : Nat → ClassId) (dI : Nat → Nat → Nat) (cA cR : ClassId) (tr : List (ClassId × FieldType)) (wr : va_W) (ad : Nat → Nat) (kd n t z v : Nat) (S : Nat → Int32) (P : Nat → Nat) (V : Nat → Nat → Nat) (sz : Nat) (x1 : Nat) (hx1 : x1 < 16) (x2 : Nat) (hx2 : x2 < n) (v0 : Int) (y : Nat) (h1 : -2147483648 ≤ v0) (h2 : v0 < 2147483648) (hy : v0 % (t : Int) = (y : Int)) (hn0 : 4 ≤ n) (hn : n ≤ 32) (ht : 1 < t) (ht2 : t ≤ 193) (hV : ∀ r i, r < 16 → i < n → V r i < t) : Met l yX0_setValue wzX0_setValue (k2_rm 1 22) (zw_pre (dC, dI) zz_cl ((cA, .int) :: (cR, .array .int) :: tr) (zc_w cA cR ad kd n t z v S P V ++ wr) sz [.ref (ad 0), .int (nI (x1)), .int (nI (x2)), .int (zi_I (v0))]) (va_Qi (fun r u => r = nI (V x1 x2) ∧ u = zq_vp V x1 (zq_up (V x1) x2 y)) (zw_at (dC, dI) zz_cl ((cA, .int) :: (cR, .array .int) :: tr) (va_A (zc_w cA cR ad kd n t z v S P V ++ wr) sz) (fun u => zc_w cA cR ad kd n t z v S P u ++ wr)) (va_A (zc_w cA cR ad kd n t z v S P V ++ wr) sz)) 0 0 (va_A (zc_w cA cR ad kd n t z v S P V ++ wr) sz) := by
  refine Met.ofW (cc := cX0_setValue) (maxL := 5) (ret := (some .int)) (by decide) rfl ?_
  intro p e s m args below meth c s₁ B hml hv
  obtain ⟨rfl, hsz, hP, hK, hD0⟩ := hv
  have hx := B.exec
  have hb := B.bytes
  have hr := B.returns
  have hts := atoms_spec (ws := wzX0_setValue) B.pre
  have hown : s.vm.findClass RX0 = some m.cls := findClass_of_methodNamed B.named
  have hlocks := B.notSynchronized
  subst hsz
  have hD := hD0.self (sz := s.heap.size)
  generalize hAe : va_A (zc_w cA cR ad kd n t z v S P V ++ wr) s.heap.size = A at hD ⊢
  have hA : ∀ q : Nat, s.heap.size ≤ q → A q := fun q h => by rw [← hAe]; exact Or.inr h
  have hS : va_S A s.heap s.heap [] := va_S.rf
  have hl := lv_entry ([.ref (ad 0), .int (nI (x1)), .int (nI (x2)), .int (zi_I (v0))]) (n := 5) (Nat.le_of_ble_eq_true rfl)
  rw [lg_entry_eq]
  generalize (lg_sl ([.ref (ad 0), .int (nI (x1)), .int (nI (x2)), .int (zi_I (v0))]) ++ List.replicate (5 - (lg_sl ([.ref (ad 0), .int (nI (x1)), .int (nI (x2)), .int (zi_I (v0))])).length) Slot.unset).toArray = ls at hl ⊢
  have hl : lv_has ls 5 [(0, .ref (ad 0)), (1, .int (nI (x1))), (2, .int (nI (x2))), (3, .int (zi_I (v0)))] := hl
  refine lv_aload_n hx hb dX0_setValue_0 rfl (lv_at hl 0 rfl) ?_
  refine lv_iload_n hx hb dX0_setValue_1 rfl (lv_at hl 1 rfl) ?_
  refine zr_calln (zx_runV (As := [.int (nI (x1))]) (rest := []) hx hb hml hts hown (cx_needRegister l dC dI cA cR tr wr ad kd n t z v S P V x1 (by omega)) zv_X0_39 rfl rfl ⟨Nat.le_of_ble_eq_true rfl, Nat.le_of_ble_eq_true rfl⟩ (zr_preV (q := (RX0, TX0, 8)) (ci := 0) (q0 := 0) hP hK rfl rfl) rfl hl.1 rfl (Nat.le_of_ble_eq_true rfl) dX0_setValue_2 ⟨Nat.zero_le _, Nat.zero_le _⟩) ?_
  refine lv_aload_n hx hb dX0_setValue_5 rfl (lv_at hl 0 rfl) ?_
  refine lv_iload_n hx hb dX0_setValue_6 rfl (lv_at hl 2 rfl) ?_
  refine zr_calln (zx_runV (As := [.int (nI (x2))]) (rest := []) hx hb hml hts hown (cx_needPlace l dC dI cA cR tr wr ad kd n t z v S P V x2 (by omega) hn) zv_X0_42 rfl rfl ⟨Nat.le_of_ble_eq_true rfl, Nat.le_of_ble_eq_true rfl⟩ (zr_preV (q := (RX0, TX0, 8)) (ci := 0) (q0 := 0) hP hK rfl rfl) rfl hl.1 rfl (Nat.le_of_ble_eq_true rfl) dX0_setValue_7 ⟨Nat.zero_le _, Nat.zero_le _⟩) ?_
  refine lv_aload_n hx hb dX0_setValue_10 rfl (lv_at hl 0 rfl) ?_
  refine zx_get0 (v := .ref (ad 1)) hx hb hts hown hK hP 0 rfl 0 (by decide) zf_X0_11 rfl dX0_setValue_11 ?_
  refine lv_iload_n hx hb dX0_setValue_14 rfl (lv_at hl 1 rfl) ?_
  refine zr_aald (y := ad (4 + x1)) hx hb hK hP 1 1 rfl rfl (by omega) (by decide) rfl dX0_setValue_15 ?_
  refine lv_iload_n hx hb dX0_setValue_16 rfl (lv_at hl 2 rfl) ?_
  refine zr_iald (y := V x1 x2) hx hb hK hP (4 + x1) 0 (zc_row (by omega)) rfl (by omega) (by decide) rfl dX0_setValue_17 ?_
  refine lv_istore (lv' := [(4, .int (nI (V x1 x2))), (0, .ref (ad 0)), (1, .int (nI (x1))), (2, .int (nI (x2))), (3, .int (zi_I (v0)))]) hx hb dX0_setValue_18 hl (by decide) rfl (fun ls hl => ?_)
  refine lv_aload_n hx hb dX0_setValue_20 rfl (lv_at hl 1 rfl) ?_
  refine zx_get0 (v := .ref (ad 1)) hx hb hts hown hK hP 0 rfl 0 (by decide) zf_X0_11 rfl dX0_setValue_21 ?_
  refine lv_iload_n hx hb dX0_setValue_24 rfl (lv_at hl 2 rfl) ?_
  refine zr_aald (y := ad (4 + x1)) hx hb hK hP 1 1 rfl rfl (by omega) (by decide) rfl dX0_setValue_25 ?_
  refine lv_iload_n hx hb dX0_setValue_26 rfl (lv_at hl 3 rfl) ?_
  refine lv_iload_n hx hb dX0_setValue_27 rfl (lv_at hl 4 rfl) ?_
  refine lv_aload_n hx hb dX0_setValue_28 rfl (lv_at hl 1 rfl) ?_
  refine zx_get0 (v := .int (nI (t))) hx hb hts hown hK hP 0 rfl 5 (by decide) zf_X0_49 rfl dX0_setValue_29 ?_
  refine zr_callq (zx_runS (As := [.int (zi_I (v0)), .int (nI (t))]) (rest := [.int (nI (x2)), .ref (ad (4 + x1))]) hx hb hml hts hown (cJ_floorMod l (dC, dI) zz_cl ((cA, .int) :: (cR, .array .int) :: tr) (zc_w cA cR ad kd n t z v S P V ++ wr) v0 t y h1 h2 (by omega) (by omega) hy) zu_X0_52 rfl rfl ⟨Nat.le_of_ble_eq_true rfl, Nat.le_of_ble_eq_true rfl⟩ (zr_preS hP hK) rfl hl.1 rfl (Nat.le_of_ble_eq_true rfl) dX0_setValue_32 ⟨Nat.zero_le _, Nat.zero_le _⟩) ?_
  refine zr_iast (ws' := (zc_w cA cR ad kd n t z v S P (zq_vp V x1 (zq_up (V x1) x2 y)) ++ wr)) hx hb hK hP hD hS (4 + x1) 0 (zc_row (by omega)) rfl (by omega) (by decide) dX0_setValue_35 (zc_set (by omega) _) (fun H locs hP hD hS => ?_)
  refine lv_iload hx hb dX0_setValue_36 (lv_at hl 0 rfl) ?_
  exact W.iret (v := nI (V x1 x2)) hx hb hr (fun t9 h9 hW9 => ⟨⟨nI (V x1 x2), _, rfl, ⟨rfl, rfl⟩, by rw [h9]; exact hP, va_K.moved hW9.alike hK, hD⟩, hS.F h9⟩) hS.2.2 dX0_setValue_38
set_option maxHeartbeats 4000000 in
set_option maxRecDepth 100000 in
/-- set(r, i, v) -/
theorem cx_set (l : Launch) (dC : Nat → ClassId) (dI : Nat → Nat → Nat) (cA cR : ClassId) (tr : List (ClassId × FieldType)) (wr : va_W) (ad : Nat → Nat) (kd n t z v : Nat) (S : Nat → Int32) (P : Nat → Nat) (V : Nat → Nat → Nat) (sz : Nat) (x1 : Nat) (hx1 : x1 < 16) (x2 : Nat) (hx2 : x2 < n) (v0 : Int) (y : Nat) (h1 : -2147483648 ≤ v0) (h2 : v0 < 2147483648) (hy : v0 % (t : Int) = (y : Int)) (hn0 : 4 ≤ n) (hn : n ≤ 32) (ht : 1 < t) (ht2 : t ≤ 193) (hV : ∀ r i, r < 16 → i < n → V r i < t) (hPt : ∀ j, j < 2 * n → P j < t) (hvt : v < t) : Met l yX0_set wzX0_set (k2_rm 3 68) (zw_pre (dC, dI) zz_cl ((cA, .int) :: (cR, .array .int) :: tr) (zc_w cA cR ad kd n t z v S P V ++ wr) sz [.ref (ad 0), .int (nI (x1)), .int (nI (x2)), .int (zi_I (v0))]) (va_Qi (fun r u => r = nI (zq_cc n t v P (V x1) x2) ∧ zq_ri V x1 (fun j => ((((V x1 j : Nat) : Int) + ((y : Int) - (zq_cc n t v P (V x1) x2 : Int)) * ((P ((2 * j + 1) * x2 % (2 * n)) : Nat) : Int)) % (t : Int)).toNat) n u) (zw_at (dC, dI) zz_cl ((cA, .int) :: (cR, .array .int) :: tr) (va_A (zc_w cA cR ad kd n t z v S P V ++ wr) sz) (fun u => zc_w cA cR ad kd n t z v S P u ++ wr)) (va_A (zc_w cA cR ad kd n t z v S P V ++ wr) sz)) 0 0 (va_A (zc_w cA cR ad kd n t z v S P V ++ wr) sz) := by
  refine Met.ofW (cc := cX0_set) (maxL := 7) (ret := (some .int)) (by decide) rfl ?_
  intro p e s m args below meth c s₁ B hml hv
  obtain ⟨rfl, hsz, hP, hK, hD0⟩ := hv
  have hx := B.exec
  have hb := B.bytes
  have hr := B.returns
  have hts := atoms_spec (ws := wzX0_set) B.pre
  have hown : s.vm.findClass RX0 = some m.cls := findClass_of_methodNamed B.named
  have hlocks := B.notSynchronized
  subst hsz
  have hD := hD0.self (sz := s.heap.size)
  generalize hAe : va_A (zc_w cA cR ad kd n t z v S P V ++ wr) s.heap.size = A at hD ⊢
  have hA : ∀ q : Nat, s.heap.size ≤ q → A q := fun q h => by rw [← hAe]; exact Or.inr h
  have hS : va_S A s.heap s.heap [] := va_S.rf
  have hl := lv_entry ([.ref (ad 0), .int (nI (x1)), .int (nI (x2)), .int (zi_I (v0))]) (n := 7) (Nat.le_of_ble_eq_true rfl)
  rw [lg_entry_eq]
  generalize (lg_sl ([.ref (ad 0), .int (nI (x1)), .int (nI (x2)), .int (zi_I (v0))]) ++ List.replicate (7 - (lg_sl ([.ref (ad 0), .int (nI (x1)), .int (nI (x2)), .int (zi_I (v0))])).length) Slot.unset).toArray = ls at hl ⊢
  have hl : lv_has ls 7 [(0, .ref (ad 0)), (1, .int (nI (x1))), (2, .int (nI (x2))), (3, .int (zi_I (v0)))] := hl
  refine lv_aload_n hx hb dX0_set_0 rfl (lv_at hl 0 rfl) ?_
  refine lv_iload_n hx hb dX0_set_1 rfl (lv_at hl 1 rfl) ?_
  refine zr_calln (zx_runV (As := [.int (nI (x1))]) (rest := []) hx hb hml hts hown (cx_needRegister l dC dI cA cR tr wr ad kd n t z v S P V x1 (by omega)) zv_X0_39 rfl rfl ⟨Nat.le_of_ble_eq_true rfl, Nat.le_of_ble_eq_true rfl⟩ (zr_preV (q := (RX0, TX0, 8)) (ci := 0) (q0 := 0) hP hK rfl rfl) rfl hl.1 rfl (Nat.le_of_ble_eq_true rfl) dX0_set_2 ⟨Nat.zero_le _, Nat.zero_le _⟩) ?_
  refine lv_aload_n hx hb dX0_set_5 rfl (lv_at hl 0 rfl) ?_
  refine lv_iload_n hx hb dX0_set_6 rfl (lv_at hl 2 rfl) ?_
  refine zr_calln (zx_runV (As := [.int (nI (x2))]) (rest := []) hx hb hml hts hown (cx_needPlace l dC dI cA cR tr wr ad kd n t z v S P V x2 (by omega) hn) zv_X0_42 rfl rfl ⟨Nat.le_of_ble_eq_true rfl, Nat.le_of_ble_eq_true rfl⟩ (zr_preV (q := (RX0, TX0, 8)) (ci := 0) (q0 := 0) hP hK rfl rfl) rfl hl.1 rfl (Nat.le_of_ble_eq_true rfl) dX0_set_7 ⟨Nat.zero_le _, Nat.zero_le _⟩) ?_
  refine lv_aload_n hx hb dX0_set_10 rfl (lv_at hl 0 rfl) ?_
  refine lv_aload_n hx hb dX0_set_11 rfl (lv_at hl 0 rfl) ?_
  refine zx_get0 (v := .ref (ad 1)) hx hb hts hown hK hP 0 rfl 0 (by decide) zf_X0_11 rfl dX0_set_12 ?_
  refine lv_iload_n hx hb dX0_set_15 rfl (lv_at hl 1 rfl) ?_
  refine zr_aald (y := ad (4 + x1)) hx hb hK hP 1 1 rfl rfl (by omega) (by decide) rfl dX0_set_16 ?_
  refine lv_iload_n hx hb dX0_set_17 rfl (lv_at hl 2 rfl) ?_
  refine zr_callq (zx_runV (As := [.ref (ad (4 + x1)), .int (nI (x2))]) (rest := []) hx hb hml hts hown (cx_coefficient l dC dI cA cR tr wr ad kd n t z v S P V (4 + x1) (ad (4 + x1)) (zq_I (V x1)) (V x1) (zc_row (by omega)) (fun _ _ => rfl) hn (by omega) ht ht2 (fun j hj => hV x1 j (by omega) hj) hPt hvt x2 hx2) zv_X0_45 rfl rfl ⟨Nat.le_of_ble_eq_true rfl, Nat.le_of_ble_eq_true rfl⟩ (zr_preV (q := (RX0, TX0, 8)) (ci := 0) (q0 := 0) hP hK rfl rfl) rfl hl.1 rfl (Nat.le_of_ble_eq_true rfl) dX0_set_18 ⟨Nat.zero_le _, Nat.zero_le _⟩) ?_
  refine lv_istore (lv' := [(4, .int (nI (zq_cc n t v P (V x1) x2))), (0, .ref (ad 0)), (1, .int (nI (x1))), (2, .int (nI (x2))), (3, .int (zi_I (v0)))]) hx hb dX0_set_21 hl (by decide) rfl (fun ls hl => ?_)
  refine lv_iload_n hx hb dX0_set_23 rfl (lv_at hl 4 rfl) ?_
  refine lv_aload_n hx hb dX0_set_24 rfl (lv_at hl 1 rfl) ?_
  refine zx_get0 (v := .int (nI (t))) hx hb hts hown hK hP 0 rfl 5 (by decide) zf_X0_49 rfl dX0_set_25 ?_
  refine zr_callq (zx_runS (As := [.int (zi_I (v0)), .int (nI (t))]) (rest := []) hx hb hml hts hown (cJ_floorMod l (dC, dI) zz_cl ((cA, .int) :: (cR, .array .int) :: tr) (zc_w cA cR ad kd n t z v S P V ++ wr) v0 t y h1 h2 (by omega) (by omega) hy) zu_X0_52 rfl rfl ⟨Nat.le_of_ble_eq_true rfl, Nat.le_of_ble_eq_true rfl⟩ (zr_preS hP hK) rfl hl.1 rfl (Nat.le_of_ble_eq_true rfl) dX0_set_28 ⟨Nat.zero_le _, Nat.zero_le _⟩) ?_
  refine lv_iload hx hb dX0_set_31 (lv_at hl 0 rfl) ?_
  refine zr_isubZ hx hb dX0_set_33 ?_
  refine lv_istore (lv' := [(5, .int (zi_I (((y : Nat) : Int) - ((zq_cc n t v P (V x1) x2 : Nat) : Int)))), (4, .int (nI (zq_cc n t v P (V x1) x2))), (0, .ref (ad 0)), (1, .int (nI (x1))), (2, .int (nI (x2))), (3, .int (zi_I (v0)))]) hx hb dX0_set_34 hl (by decide) rfl (fun ls hl => ?_)
  refine lv_iconst (v := nI 0) hx hb dX0_set_36 (by decide) ?_
  refine lv_istore (lv' := [(6, .int (nI (0))), (5, .int (zi_I (((y : Nat) : Int) - ((zq_cc n t v P (V x1) x2 : Nat) : Int)))), (4, .int (nI (zq_cc n t v P (V x1) x2))), (0, .ref (ad 0)), (1, .int (nI (x1))), (2, .int (nI (x2))), (3, .int (zi_I (v0)))]) hx hb dX0_set_37 hl (by decide) rfl (fun ls hl => ?_)
  have hct : zq_cc n t v P (V x1) x2 < t := Nat.mod_lt _ (by omega)
  have hyt : (y : Int) < (t : Int) := by rw [← hy]; exact Int.emod_lt_of_pos _ (by omega)
  have loop : ∀ (d i : Nat), i + d = n → ∀ (V1 : Nat → Nat → Nat), zq_ri V x1 (fun j => ((((V x1 j : Nat) : Int) + ((y : Int) - (zq_cc n t v P (V x1) x2 : Int)) * ((P ((2 * j + 1) * x2 % (2 * n)) : Nat) : Int)) % (t : Int)).toNat) i V1 → ∀ (H : Heap) (locs : List Loc), va_P (dC, dI) zz_cl (zc_w cA cR ad kd n t z v S P V1 ++ wr) H → va_D A (zc_w cA cR ad kd n t z v S P V1 ++ wr) → va_S A s.heap H locs → ∀ ls, lv_has ls 7 [(0, .ref (ad 0)), (1, .int (nI (x1))), (2, .int (nI (x2))), (4, .int (nI (zq_cc n t v P (V x1) x2))), (5, .int (zi_I (((y : Nat) : Int) - ((zq_cc n t v P (V x1) x2 : Nat) : Int)))), (6, .int (nI (i)))] → W p l e (headSpec wzX0_set (k2_rm 3 68)).room s m ([.ref (ad 0), .int (nI (x1)), .int (nI (x2)), .int (zi_I (v0))] : List Value).toArray below meth c H locs 0 0 (MQ below (va_Qi (fun r u => r = nI (zq_cc n t v P (V x1) x2) ∧ zq_ri V x1 (fun j => ((((V x1 j : Nat) : Int) + ((y : Int) - (zq_cc n t v P (V x1) x2 : Int)) * ((P ((2 * j + 1) * x2 % (2 * n)) : Nat) : Int)) % (t : Int)).toNat) n u) (zw_at (dC, dI) zz_cl ((cA, .int) :: (cR, .array .int) :: tr) A (fun u => zc_w cA cR ad kd n t z v S P u ++ wr)) A) ([.ref (ad 0), .int (nI (x1)), .int (nI (x2)), .int (zi_I (v0))] : List Value).toArray s 0 0 A) (F0 m 39 ls []) := by
    intro d
    induction d with
    | zero =>
      intro i hi V1 hri H locs hP hD hS ls hl
      have hi : i = n := by omega
      rw [hi] at hri
      refine lv_iload hx hb dX0_set_39 (lv_at hl 5 rfl) ?_
      refine lv_aload_n hx hb dX0_set_41 rfl (lv_at hl 0 rfl) ?_
      refine zx_get0 (v := .int (nI (n))) hx hb hts hown hK hP 0 rfl 4 (by decide) zf_X0_58 rfl dX0_set_42 ?_
      refine zr_ige (tgt := 90) hx hb dX0_set_45 (by decide) (by omega) (by omega) (fun _ => ?_) (fun hno9 => absurd hno9 (by omega))
      refine lv_iload hx hb dX0_set_90 (lv_at hl 3 rfl) ?_
      exact W.iret (v := nI (zq_cc n t v P (V x1) x2)) hx hb hr (fun t9 h9 hW9 => ⟨⟨nI (zq_cc n t v P (V x1) x2), V1, rfl, ⟨rfl, hri⟩, by rw [h9]; exact hP, va_K.moved hW9.alike hK, hD⟩, hS.F h9⟩) hS.2.2 dX0_set_92
    | succ d ih =>
      intro i hi V1 hri H locs hP hD hS ls hl
      refine lv_iload hx hb dX0_set_39 (lv_at hl 5 rfl) ?_
      refine lv_aload_n hx hb dX0_set_41 rfl (lv_at hl 0 rfl) ?_
      refine zx_get0 (v := .int (nI (n))) hx hb hts hown hK hP 0 rfl 4 (by decide) zf_X0_58 rfl dX0_set_42 ?_
      refine zr_ige (tgt := 90) hx hb dX0_set_45 (by decide) (by omega) (by omega) (fun hno9 => absurd hno9 (by omega)) (fun _ => ?_)
      have hv1 : V1 x1 i = V x1 i := hri.1 x1 i (Or.inr (Nat.le_refl _))
      have hvi := hV x1 i (by omega) (by omega)
      have hpm : (2 * i + 1) * x2 % (2 * n) < 2 * n := Nat.mod_lt _ (by omega)
      have hpp := hPt _ hpm
      have hb9 : (((y : Nat) : Int) - ((zq_cc n t v P (V x1) x2 : Nat) : Int)) * ((P ((2 * i + 1) * x2 % (2 * n)) : Nat) : Int) ≤ 37249 ∧ -37249 ≤ (((y : Nat) : Int) - ((zq_cc n t v P (V x1) x2 : Nat) : Int)) * ((P ((2 * i + 1) * x2 % (2 * n)) : Nat) : Int) := zi_b9 (by omega) (by omega) (by omega)
      obtain ⟨r9, hr9, he9⟩ := zi_em (((V1 x1 i : Nat) : Int) + (((y : Nat) : Int) - ((zq_cc n t v P (V x1) x2 : Nat) : Int)) * ((P ((2 * i + 1) * x2 % (2 * n)) : Nat) : Int)) (show 0 < t by omega)
      refine lv_aload_n hx hb dX0_set_48 rfl (lv_at hl 0 rfl) ?_
      refine zx_get0 (v := .ref (ad 1)) hx hb hts hown hK hP 0 rfl 0 (by decide) zf_X0_11 rfl dX0_set_49 ?_
      refine lv_iload_n hx hb dX0_set_52 rfl (lv_at hl 1 rfl) ?_
      refine zr_aald (y := ad (4 + x1)) hx hb hK hP 1 1 rfl rfl (by omega) (by decide) rfl dX0_set_53 ?_
      refine lv_iload hx hb dX0_set_54 (lv_at hl 5 rfl) ?_
      refine lv_aload_n hx hb dX0_set_56 rfl (lv_at hl 0 rfl) ?_
      refine zx_get0 (v := .ref (ad 1)) hx hb hts hown hK hP 0 rfl 0 (by decide) zf_X0_11 rfl dX0_set_57 ?_
      refine lv_iload_n hx hb dX0_set_60 rfl (lv_at hl 1 rfl) ?_
      refine zr_aald (y := ad (4 + x1)) hx hb hK hP 1 1 rfl rfl (by omega) (by decide) rfl dX0_set_61 ?_
      refine lv_iload hx hb dX0_set_62 (lv_at hl 5 rfl) ?_
      refine zr_iald (y := V1 x1 i) hx hb hK hP (4 + x1) 0 (zc_row (by omega)) rfl (by omega) (by decide) rfl dX0_set_64 ?_
      refine lv_iload hx hb dX0_set_65 (lv_at hl 4 rfl) ?_
      refine lv_aload_n hx hb dX0_set_67 rfl (lv_at hl 0 rfl) ?_
      refine lv_iload hx hb dX0_set_68 (lv_at hl 5 rfl) ?_
      refine lv_iload_n hx hb dX0_set_70 rfl (lv_at hl 2 rfl) ?_
      rw [zi_nI x2]
      refine zr_callq (zx_runV (As := [.int (nI (i)), .int (zi_I (((x2 : Nat) : Int)))]) (rest := [.int (zi_I (((y : Nat) : Int) - ((zq_cc n t v P (V x1) x2 : Nat) : Int))), .int (nI (V1 x1 i)), .int (nI (i)), .ref (ad (4 + x1))]) hx hb hml hts hown (cx_powerOfPoint l dC dI cA cR tr wr ad kd n t z v S P V1 i ((x2 : Nat) : Int) ((2 * i + 1) * x2 % (2 * n)) (by omega) (by omega) (by omega) (by omega) hn (by rw [← Int.natCast_mul, ← Int.natCast_emod])) zv_X0_61 rfl rfl ⟨Nat.le_of_ble_eq_true rfl, Nat.le_of_ble_eq_true rfl⟩ (zr_preV (q := (RX0, TX0, 8)) (ci := 0) (q0 := 0) hP hK rfl rfl) rfl hl.1 rfl (Nat.le_of_ble_eq_true rfl) dX0_set_71 ⟨Nat.zero_le _, Nat.zero_le _⟩) ?_
      refine zr_imulZN hx hb dX0_set_74 ?_
      refine zr_iaddNZ hx hb dX0_set_75 ?_
      refine lv_aload_n hx hb dX0_set_76 rfl (lv_at hl 0 rfl) ?_
      refine zx_get0 (v := .int (nI (t))) hx hb hts hown hK hP 0 rfl 5 (by decide) zf_X0_49 rfl dX0_set_77 ?_
      refine zr_callq (zx_runS (As := [.int (zi_I (((V1 x1 i : Nat) : Int) + ((((y : Nat) : Int) - ((zq_cc n t v P (V x1) x2 : Nat) : Int)) * ((P ((2 * i + 1) * x2 % (2 * n)) : Nat) : Int)))), .int (nI (t))]) (rest := [.int (nI (i)), .ref (ad (4 + x1))]) hx hb hml hts hown (cJ_floorMod l (dC, dI) zz_cl ((cA, .int) :: (cR, .array .int) :: tr) (zc_w cA cR ad kd n t z v S P V1 ++ wr) (((V1 x1 i : Nat) : Int) + (((y : Nat) : Int) - ((zq_cc n t v P (V x1) x2 : Nat) : Int)) * ((P ((2 * i + 1) * x2 % (2 * n)) : Nat) : Int)) t r9 (by omega) (by omega) (by omega) (by omega) he9) zu_X0_52 rfl rfl ⟨Nat.le_of_ble_eq_true rfl, Nat.le_of_ble_eq_true rfl⟩ (zr_preS hP hK) rfl hl.1 rfl (Nat.le_of_ble_eq_true rfl) dX0_set_80 ⟨Nat.zero_le _, Nat.zero_le _⟩) ?_
      refine zr_iast (ws' := (zc_w cA cR ad kd n t z v S P (zq_vp V1 x1 (zq_up (V1 x1) i r9)) ++ wr)) hx hb hK hP hD hS (4 + x1) 0 (zc_row (by omega)) rfl (by omega) (by decide) dX0_set_83 (zc_set (by omega) _) (fun H locs hP hD hS => ?_)
      refine zr_iinc (k := 5) (lv' := [(6, .int (nI (i + 1))), (0, .ref (ad 0)), (1, .int (nI (x1))), (2, .int (nI (x2))), (4, .int (nI (zq_cc n t v P (V x1) x2))), (5, .int (zi_I (((y : Nat) : Int) - ((zq_cc n t v P (V x1) x2 : Nat) : Int))))]) hx hb dX0_set_84 hl rfl (by decide) rfl (fun ls hl => ?_)
      refine lv_goto (tgt := 39) hx hb dX0_set_87 (by decide) ?_
      exact ih (i + 1) (by omega) _ (zq_ri_s hri (by rw [← hv1]; show r9 = (_ : Int).toNat; rw [he9]; rfl)) H locs hP hD hS ls (lv_sub hl [1, 2, 3, 4, 5, 0] rfl)
  exact loop n 0 (by omega) V (zq_ri_0 _ _ _) s.heap [] hP hD hS ls (lv_sub hl [3, 4, 5, 2, 1, 0] rfl)
set_option maxHeartbeats 4000000 in
set_option maxRecDepth 100000 in
/-- join(to, op, a, b) -/
theorem cx_join (l : Launch) (dC : Nat → ClassId) (dI : Nat → Nat → Nat) (cA cR : ClassId) (tr : List (ClassId × FieldType)) (wr : va_W) (ad : Nat → Nat) (kd n t z v : Nat) (S : Nat → Int32) (P : Nat → Nat) (V : Nat → Nat → Nat) (sz : Nat) (x1 : Nat) (hx1 : x1 < 16) (x2 : Nat) (hx2 : x2 ≤ 3) (x3 : Nat) (hx3 : x3 < 16) (x4 : Nat) (hx4 : x4 < 16) (hn0 : 4 ≤ n) (hn : n ≤ 32) (ht : 1 < t) (ht2 : t ≤ 193) (hV : ∀ r i, r < 16 → i < n → V r i < t) (hz : x2 = 3 → zq_zc (V x4) n = 0) : Met l yX0_join wzX0_join (k2_rm 3 69) (zw_pre (dC, dI) zz_cl ((cA, .int) :: (cR, .array .int) :: tr) (zc_w cA cR ad kd n t z v S P V ++ wr) sz [.ref (ad 0), .int (nI (x1)), .int (nI (x2)), .int (nI (x3)), .int (nI (x4))]) (va_Qi (fun r u => r = nI (zq_zc (fun j => zq_j t x2 (V x3 j) (V x4 j)) n) ∧ zq_ri V x1 (fun j => zq_j t x2 (V x3 j) (V x4 j)) n u) (zw_at (dC, dI) zz_cl ((cA, .int) :: (cR, .array .int) :: tr) (va_A (zc_w cA cR ad kd n t z v S P V ++ wr) sz) (fun u => zc_w cA cR ad kd n t z v S P u ++ wr)) (va_A (zc_w cA cR ad kd n t z v S P V ++ wr) sz)) 0 0 (va_A (zc_w cA cR ad kd n t z v S P V ++ wr) sz) := by
  refine Met.ofW (cc := cX0_join) (maxL := 6) (ret := (some .int)) (by decide) rfl ?_
  intro p e s m args below meth c s₁ B hml hv
  obtain ⟨rfl, hsz, hP, hK, hD0⟩ := hv
  have hx := B.exec
  have hb := B.bytes
  have hr := B.returns
  have hts := atoms_spec (ws := wzX0_join) B.pre
  have hown : s.vm.findClass RX0 = some m.cls := findClass_of_methodNamed B.named
  have hlocks := B.notSynchronized
  subst hsz
  have hD := hD0.self (sz := s.heap.size)
  generalize hAe : va_A (zc_w cA cR ad kd n t z v S P V ++ wr) s.heap.size = A at hD ⊢
  have hA : ∀ q : Nat, s.heap.size ≤ q → A q := fun q h => by rw [← hAe]; exact Or.inr h
  have hS : va_S A s.heap s.heap [] := va_S.rf
  have hl := lv_entry ([.ref (ad 0), .int (nI (x1)), .int (nI (x2)), .int (nI (x3)), .int (nI (x4))]) (n := 6) (Nat.le_of_ble_eq_true rfl)
  rw [lg_entry_eq]
  generalize (lg_sl ([.ref (ad 0), .int (nI (x1)), .int (nI (x2)), .int (nI (x3)), .int (nI (x4))]) ++ List.replicate (6 - (lg_sl ([.ref (ad 0), .int (nI (x1)), .int (nI (x2)), .int (nI (x3)), .int (nI (x4))])).length) Slot.unset).toArray = ls at hl ⊢
  have hl : lv_has ls 6 [(0, .ref (ad 0)), (1, .int (nI (x1))), (2, .int (nI (x2))), (3, .int (nI (x3))), (4, .int (nI (x4)))] := hl
  refine lv_aload_n hx hb dX0_join_0 rfl (lv_at hl 0 rfl) ?_
  refine lv_iload_n hx hb dX0_join_1 rfl (lv_at hl 1 rfl) ?_
  refine zr_calln (zx_runV (As := [.int (nI (x1))]) (rest := []) hx hb hml hts hown (cx_needRegister l dC dI cA cR tr wr ad kd n t z v S P V x1 (by omega)) zv_X0_39 rfl rfl ⟨Nat.le_of_ble_eq_true rfl, Nat.le_of_ble_eq_true rfl⟩ (zr_preV (q := (RX0, TX0, 8)) (ci := 0) (q0 := 0) hP hK rfl rfl) rfl hl.1 rfl (Nat.le_of_ble_eq_true rfl) dX0_join_2 ⟨Nat.zero_le _, Nat.zero_le _⟩) ?_
  refine lv_aload_n hx hb dX0_join_5 rfl (lv_at hl 0 rfl) ?_
  refine lv_iload_n hx hb dX0_join_6 rfl (lv_at hl 3 rfl) ?_
  refine zr_calln (zx_runV (As := [.int (nI (x3))]) (rest := []) hx hb hml hts hown (cx_needRegister l dC dI cA cR tr wr ad kd n t z v S P V x3 (by omega)) zv_X0_39 rfl rfl ⟨Nat.le_of_ble_eq_true rfl, Nat.le_of_ble_eq_true rfl⟩ (zr_preV (q := (RX0, TX0, 8)) (ci := 0) (q0 := 0) hP hK rfl rfl) rfl hl.1 rfl (Nat.le_of_ble_eq_true rfl) dX0_join_7 ⟨Nat.zero_le _, Nat.zero_le _⟩) ?_
  refine lv_aload_n hx hb dX0_join_10 rfl (lv_at hl 0 rfl) ?_
  refine lv_iload hx hb dX0_join_11 (lv_at hl 4 rfl) ?_
  refine zr_calln (zx_runV (As := [.int (nI (x4))]) (rest := []) hx hb hml hts hown (cx_needRegister l dC dI cA cR tr wr ad kd n t z v S P V x4 (by omega)) zv_X0_39 rfl rfl ⟨Nat.le_of_ble_eq_true rfl, Nat.le_of_ble_eq_true rfl⟩ (zr_preV (q := (RX0, TX0, 8)) (ci := 0) (q0 := 0) hP hK rfl rfl) rfl hl.1 rfl (Nat.le_of_ble_eq_true rfl) dX0_join_13 ⟨Nat.zero_le _, Nat.zero_le _⟩) ?_
  refine lv_iload_n hx hb dX0_join_16 rfl (lv_at hl 2 rfl) ?_
  refine zr_iflt (tgt := 25) hx hb dX0_join_17 (by decide) (by omega) ?_
  refine lv_iload_n hx hb dX0_join_20 rfl (lv_at hl 2 rfl) ?_
  refine lv_iconst (v := nI 3) hx hb dX0_join_21 (by decide) ?_
  refine zr_ile (tgt := 35) hx hb dX0_join_22 (by decide) (by omega) (by omega) (fun _ => ?_) (fun hno9 => absurd hno9 (by omega))
  have h46 : ∀ ls, lv_has ls 6 [(0, .ref (ad 0)), (1, .int (nI (x1))), (2, .int (nI (x2))), (3, .int (nI (x3))), (4, .int (nI (x4)))] → W p l e (headSpec wzX0_join (k2_rm 3 69)).room s m ([.ref (ad 0), .int (nI (x1)), .int (nI (x2)), .int (nI (x3)), .int (nI (x4))] : List Value).toArray below meth c s.heap [] 0 0 (MQ below (va_Qi (fun r u => r = nI (zq_zc (fun j => zq_j t x2 (V x3 j) (V x4 j)) n) ∧ zq_ri V x1 (fun j => zq_j t x2 (V x3 j) (V x4 j)) n u) (zw_at (dC, dI) zz_cl ((cA, .int) :: (cR, .array .int) :: tr) A (fun u => zc_w cA cR ad kd n t z v S P u ++ wr)) A) ([.ref (ad 0), .int (nI (x1)), .int (nI (x2)), .int (nI (x3)), .int (nI (x4))] : List Value).toArray s 0 0 A) (F0 m 46 ls []) := by
    intro ls hl
    refine lv_iconst (v := nI 0) hx hb dX0_join_46 (by decide) ?_
    refine lv_istore (lv' := [(5, .int (nI (0))), (0, .ref (ad 0)), (1, .int (nI (x1))), (2, .int (nI (x2))), (3, .int (nI (x3))), (4, .int (nI (x4)))]) hx hb dX0_join_47 hl (by decide) rfl (fun ls hl => ?_)
    have loop : ∀ (d i : Nat), i + d = n → ∀ (V1 : Nat → Nat → Nat), zq_ri V x1 (fun j => zq_j t x2 (V x3 j) (V x4 j)) i V1 → ∀ (H : Heap) (locs : List Loc), va_P (dC, dI) zz_cl (zc_w cA cR ad kd n t z v S P V1 ++ wr) H → va_D A (zc_w cA cR ad kd n t z v S P V1 ++ wr) → va_S A s.heap H locs → ∀ ls, lv_has ls 6 [(0, .ref (ad 0)), (1, .int (nI (x1))), (2, .int (nI (x2))), (3, .int (nI (x3))), (4, .int (nI (x4))), (5, .int (nI (i)))] → W p l e (headSpec wzX0_join (k2_rm 3 69)).room s m ([.ref (ad 0), .int (nI (x1)), .int (nI (x2)), .int (nI (x3)), .int (nI (x4))] : List Value).toArray below meth c H locs 0 0 (MQ below (va_Qi (fun r u => r = nI (zq_zc (fun j => zq_j t x2 (V x3 j) (V x4 j)) n) ∧ zq_ri V x1 (fun j => zq_j t x2 (V x3 j) (V x4 j)) n u) (zw_at (dC, dI) zz_cl ((cA, .int) :: (cR, .array .int) :: tr) A (fun u => zc_w cA cR ad kd n t z v S P u ++ wr)) A) ([.ref (ad 0), .int (nI (x1)), .int (nI (x2)), .int (nI (x3)), .int (nI (x4))] : List Value).toArray s 0 0 A) (F0 m 49 ls []) := by
      intro d
      induction d with
      | zero =>
        intro i hi V1 hri H locs hP hD hS ls hl
        have hi : i = n := by omega
        rw [hi] at hri
        refine lv_iload hx hb dX0_join_49 (lv_at hl 5 rfl) ?_
        refine lv_aload_n hx hb dX0_join_51 rfl (lv_at hl 0 rfl) ?_
        refine zx_get0 (v := .int (nI (n))) hx hb hts hown hK hP 0 rfl 4 (by decide) zf_X0_58 rfl dX0_join_52 ?_
        refine zr_ige (tgt := 97) hx hb dX0_join_55 (by decide) (by omega) (by omega) (fun _ => ?_) (fun hno9 => absurd hno9 (by omega))
        have hzz : zq_zc (V1 x1) n = zq_zc (fun j => zq_j t x2 (V x3 j) (V x4 j)) n := zq_zc_congr hri.2
        refine lv_aload_n hx hb dX0_join_97 rfl (lv_at hl 0 rfl) ?_
        refine lv_aload_n hx hb dX0_join_98 rfl (lv_at hl 0 rfl) ?_
        refine zx_get0 (v := .ref (ad 1)) hx hb hts hown hK hP 0 rfl 0 (by decide) zf_X0_11 rfl dX0_join_99 ?_
        refine lv_iload_n hx hb dX0_join_102 rfl (lv_at hl 1 rfl) ?_
        refine zr_aald (y := ad (4 + x1)) hx hb hK hP 1 1 rfl rfl (by omega) (by decide) rfl dX0_join_103 ?_
        refine zr_callq (zx_runV (As := [.ref (ad (4 + x1))]) (rest := []) hx hb hml hts hown (cx_zeros l dC dI cA cR tr wr ad kd n t z v S P V1 (4 + x1) (ad (4 + x1)) (zq_I (V1 x1)) (V1 x1) (zc_row (by omega)) (fun _ _ => rfl) hn (fun j hj => by rw [hri.2 j hj]; exact Nat.lt_trans (zq_j_lt (by omega) _ _ _) (by omega))) zv_X0_73 rfl rfl ⟨Nat.le_of_ble_eq_true rfl, Nat.le_of_ble_eq_true rfl⟩ (zr_preV (q := (RX0, TX0, 8)) (ci := 0) (q0 := 0) hP hK rfl rfl) rfl hl.1 rfl (Nat.le_of_ble_eq_true rfl) dX0_join_104 ⟨Nat.zero_le _, Nat.zero_le _⟩) ?_
        rw [hzz]
        exact W.iret (v := nI (zq_zc (fun j => zq_j t x2 (V x3 j) (V x4 j)) n)) hx hb hr (fun t9 h9 hW9 => ⟨⟨nI (zq_zc (fun j => zq_j t x2 (V x3 j) (V x4 j)) n), V1, rfl, ⟨rfl, hri⟩, by rw [h9]; exact hP, va_K.moved hW9.alike hK, hD⟩, hS.F h9⟩) hS.2.2 dX0_join_107
      | succ d ih =>
        intro i hi V1 hri H locs hP hD hS ls hl
        refine lv_iload hx hb dX0_join_49 (lv_at hl 5 rfl) ?_
        refine lv_aload_n hx hb dX0_join_51 rfl (lv_at hl 0 rfl) ?_
        refine zx_get0 (v := .int (nI (n))) hx hb hts hown hK hP 0 rfl 4 (by decide) zf_X0_58 rfl dX0_join_52 ?_
        refine zr_ige (tgt := 97) hx hb dX0_join_55 (by decide) (by omega) (by omega) (fun hno9 => absurd hno9 (by omega)) (fun _ => ?_)
        have e3 : V1 x3 i = V x3 i := hri.1 x3 i (Or.inr (Nat.le_refl _))
        have e4 : V1 x4 i = V x4 i := hri.1 x4 i (Or.inr (Nat.le_refl _))
        have b3 := hV x3 i (by omega) (by omega)
        have b4 := hV x4 i (by omega) (by omega)
        refine lv_aload_n hx hb dX0_join_58 rfl (lv_at hl 0 rfl) ?_
        refine zx_get0 (v := .ref (ad 1)) hx hb hts hown hK hP 0 rfl 0 (by decide) zf_X0_11 rfl dX0_join_59 ?_
        refine lv_iload_n hx hb dX0_join_62 rfl (lv_at hl 1 rfl) ?_
        refine zr_aald (y := ad (4 + x1)) hx hb hK hP 1 1 rfl rfl (by omega) (by decide) rfl dX0_join_63 ?_
        refine lv_iload hx hb dX0_join_64 (lv_at hl 5 rfl) ?_
        refine lv_aload_n hx hb dX0_join_66 rfl (lv_at hl 0 rfl) ?_
        refine lv_iload_n hx hb dX0_join_67 rfl (lv_at hl 2 rfl) ?_
        refine lv_aload_n hx hb dX0_join_68 rfl (lv_at hl 0 rfl) ?_
        refine zx_get0 (v := .ref (ad 1)) hx hb hts hown hK hP 0 rfl 0 (by decide) zf_X0_11 rfl dX0_join_69 ?_
        refine lv_iload_n hx hb dX0_join_72 rfl (lv_at hl 3 rfl) ?_
        refine zr_aald (y := ad (4 + x3)) hx hb hK hP 1 1 rfl rfl (by omega) (by decide) rfl dX0_join_73 ?_
        refine lv_iload hx hb dX0_join_74 (lv_at hl 5 rfl) ?_
        refine zr_iald (y := V1 x3 i) hx hb hK hP (4 + x3) 0 (zc_row (by omega)) rfl (by omega) (by decide) rfl dX0_join_76 ?_
        refine lv_aload_n hx hb dX0_join_77 rfl (lv_at hl 0 rfl) ?_
        refine zx_get0 (v := .ref (ad 1)) hx hb hts hown hK hP 0 rfl 0 (by decide) zf_X0_11 rfl dX0_join_78 ?_
        refine lv_iload hx hb dX0_join_81 (lv_at hl 4 rfl) ?_
        refine zr_aald (y := ad (4 + x4)) hx hb hK hP 1 1 rfl rfl (by omega) (by decide) rfl dX0_join_83 ?_
        refine lv_iload hx hb dX0_join_84 (lv_at hl 5 rfl) ?_
        refine zr_iald (y := V1 x4 i) hx hb hK hP (4 + x4) 0 (zc_row (by omega)) rfl (by omega) (by decide) rfl dX0_join_86 ?_
        refine zr_callq (zx_runV (As := [.int (nI (x2)), .int (nI (V1 x3 i)), .int (nI (V1 x4 i))]) (rest := [.int (nI (i)), .ref (ad (4 + x1))]) hx hb hml hts hown (cx_joined l dC dI cA cR tr wr ad kd n t z v S P V1 x2 (V1 x3 i) (V1 x4 i) hx2 (by omega) (by omega) ht ht2) zv_X0_69 rfl rfl ⟨Nat.le_of_ble_eq_true rfl, Nat.le_of_ble_eq_true rfl⟩ (zr_preV (q := (RX0, TX0, 8)) (ci := 0) (q0 := 0) hP hK rfl rfl) rfl hl.1 rfl (Nat.le_of_ble_eq_true rfl) dX0_join_87 ⟨Nat.zero_le _, Nat.zero_le _⟩) ?_
        refine zr_iast (ws' := (zc_w cA cR ad kd n t z v S P (zq_vp V1 x1 (zq_up (V1 x1) i (zq_j t x2 (V1 x3 i) (V1 x4 i)))) ++ wr)) hx hb hK hP hD hS (4 + x1) 0 (zc_row (by omega)) rfl (by omega) (by decide) dX0_join_90 (zc_set (by omega) _) (fun H locs hP hD hS => ?_)
        refine zr_iinc (k := 5) (lv' := [(5, .int (nI (i + 1))), (0, .ref (ad 0)), (1, .int (nI (x1))), (2, .int (nI (x2))), (3, .int (nI (x3))), (4, .int (nI (x4)))]) hx hb dX0_join_91 hl rfl (by decide) rfl (fun ls hl => ?_)
        refine lv_goto (tgt := 49) hx hb dX0_join_94 (by decide) ?_
        exact ih (i + 1) (by omega) _ (zq_ri_s hri (by rw [e3, e4])) H locs hP hD hS ls (lv_sub hl [1, 2, 3, 4, 5, 0] rfl)
    exact loop n 0 (by omega) V (zq_ri_0 _ _ _) s.heap [] hP hD hS ls (lv_sub hl [1, 2, 3, 4, 5, 0] rfl)
  refine lv_iload_n hx hb dX0_join_35 rfl (lv_at hl 2 rfl) ?_
  refine lv_iconst (v := nI 3) hx hb dX0_join_36 (by decide) ?_
  refine zr_ine (tgt := 46) hx hb dX0_join_37 (by decide) (by omega) (by omega) (fun hne => ?_) (fun h3 => ?_)
  · exact h46 ls (lv_sub hl [0, 1, 2, 3, 4] rfl)
  · refine lv_aload_n hx hb dX0_join_40 rfl (lv_at hl 0 rfl) ?_
    refine lv_iload hx hb dX0_join_41 (lv_at hl 4 rfl) ?_
    refine zr_calln (zx_runV (As := [.int (nI (x4))]) (rest := []) hx hb hml hts hown (cx_needUnit l dC dI cA cR tr wr ad kd n t z v S P V x4 hx4 hn (fun r i hr hi => Nat.lt_trans (hV r i hr hi) (by omega)) (hz h3)) zv_X0_66 rfl rfl ⟨Nat.le_of_ble_eq_true rfl, Nat.le_of_ble_eq_true rfl⟩ (zr_preV (q := (RX0, TX0, 8)) (ci := 0) (q0 := 0) hP hK rfl rfl) rfl hl.1 rfl (Nat.le_of_ble_eq_true rfl) dX0_join_43 ⟨Nat.zero_le _, Nat.zero_le _⟩) ?_
    exact h46 ls (lv_sub hl [0, 1, 2, 3, 4] rfl)
set_option maxHeartbeats 4000000 in
set_option maxRecDepth 100000 in
/-- power(to, a, n) -/
theorem cx_power (l : Launch) (dC : Nat → ClassId) (dI : Nat → Nat → Nat) (cA cR : ClassId) (tr : List (ClassId × FieldType)) (wr : va_W) (ad : Nat → Nat) (kd n t z v : Nat) (S : Nat → Int32) (P : Nat → Nat) (V : Nat → Nat → Nat) (sz : Nat) (x1 : Nat) (hx1 : x1 < 16) (x2 : Nat) (hx2 : x2 < 16) (e0 : Int) (ex : Nat) (h1 : -2147483648 ≤ e0) (h2 : e0 < 2147483648) (hex : (0 ≤ e0 → e0 = (ex : Int)) ∧ (e0 < 0 → e0 % ((t - 1 : Nat) : Int) = (ex : Int))) (hn0 : 4 ≤ n) (hn : n ≤ 32) (ht : 1 < t) (ht2 : t ≤ 193) (hV : ∀ r i, r < 16 → i < n → V r i < t) (hz : e0 < 0 → zq_zc (V x2) n = 0) : Met l yX0_power wzX0_power (k2_rm 2 44) (zw_pre (dC, dI) zz_cl ((cA, .int) :: (cR, .array .int) :: tr) (zc_w cA cR ad kd n t z v S P V ++ wr) sz [.ref (ad 0), .int (nI (x1)), .int (nI (x2)), .int (zi_I (e0))]) (va_Qi (fun r u => r = nI (zq_zc (fun j => V x2 j ^ ex % t) n) ∧ zq_ri V x1 (fun j => V x2 j ^ ex % t) n u) (zw_at (dC, dI) zz_cl ((cA, .int) :: (cR, .array .int) :: tr) (va_A (zc_w cA cR ad kd n t z v S P V ++ wr) sz) (fun u => zc_w cA cR ad kd n t z v S P u ++ wr)) (va_A (zc_w cA cR ad kd n t z v S P V ++ wr) sz)) 0 0 (va_A (zc_w cA cR ad kd n t z v S P V ++ wr) sz) := by
  refine Met.ofW (cc := cX0_power) (maxL := 6) (ret := (some .int)) (by decide) rfl ?_
  intro p e s m args below meth c s₁ B hml hv
  obtain ⟨rfl, hsz, hP, hK, hD0⟩ := hv
  have hx := B.exec
  have hb := B.bytes
  have hr := B.returns
  have hts := atoms_spec (ws := wzX0_power) B.pre
  have hown : s.vm.findClass RX0 = some m.cls := findClass_of_methodNamed B.named
  have hlocks := B.notSynchronized
  subst hsz
  have hD := hD0.self (sz := s.heap.size)
  generalize hAe : va_A (zc_w cA cR ad kd n t z v S P V ++ wr) s.heap.size = A at hD ⊢
  have hA : ∀ q : Nat, s.heap.size ≤ q → A q := fun q h => by rw [← hAe]; exact Or.inr h
  have hS : va_S A s.heap s.heap [] := va_S.rf
  have hl := lv_entry ([.ref (ad 0), .int (nI (x1)), .int (nI (x2)), .int (zi_I (e0))]) (n := 6) (Nat.le_of_ble_eq_true rfl)
  rw [lg_entry_eq]
  generalize (lg_sl ([.ref (ad 0), .int (nI (x1)), .int (nI (x2)), .int (zi_I (e0))]) ++ List.replicate (6 - (lg_sl ([.ref (ad 0), .int (nI (x1)), .int (nI (x2)), .int (zi_I (e0))])).length) Slot.unset).toArray = ls at hl ⊢
  have hl : lv_has ls 6 [(0, .ref (ad 0)), (1, .int (nI (x1))), (2, .int (nI (x2))), (3, .int (zi_I (e0)))] := hl
  refine lv_aload_n hx hb dX0_power_0 rfl (lv_at hl 0 rfl) ?_
  refine lv_iload_n hx hb dX0_power_1 rfl (lv_at hl 1 rfl) ?_
  refine zr_calln (zx_runV (As := [.int (nI (x1))]) (rest := []) hx hb hml hts hown (cx_needRegister l dC dI cA cR tr wr ad kd n t z v S P V x1 (by omega)) zv_X0_39 rfl rfl ⟨Nat.le_of_ble_eq_true rfl, Nat.le_of_ble_eq_true rfl⟩ (zr_preV (q := (RX0, TX0, 8)) (ci := 0) (q0 := 0) hP hK rfl rfl) rfl hl.1 rfl (Nat.le_of_ble_eq_true rfl) dX0_power_2 ⟨Nat.zero_le _, Nat.zero_le _⟩) ?_
  refine lv_aload_n hx hb dX0_power_5 rfl (lv_at hl 0 rfl) ?_
  refine lv_iload_n hx hb dX0_power_6 rfl (lv_at hl 2 rfl) ?_
  refine zr_calln (zx_runV (As := [.int (nI (x2))]) (rest := []) hx hb hml hts hown (cx_needRegister l dC dI cA cR tr wr ad kd n t z v S P V x2 (by omega)) zv_X0_39 rfl rfl ⟨Nat.le_of_ble_eq_true rfl, Nat.le_of_ble_eq_true rfl⟩ (zr_preV (q := (RX0, TX0, 8)) (ci := 0) (q0 := 0) hP hK rfl rfl) rfl hl.1 rfl (Nat.le_of_ble_eq_true rfl) dX0_power_7 ⟨Nat.zero_le _, Nat.zero_le _⟩) ?_
  have hexb : ex < 2147483648 := by
    rcases Int.lt_or_le e0 0 with h9 | h9
    · have h8 := hex.2 h9
      have h7 := Int.emod_lt_of_pos e0 (show (0 : Int) < ((t - 1 : Nat) : Int) by omega)
      omega
    · have h8 := hex.1 h9
      omega
  have h37 : ∀ ls, lv_has ls 6 [(0, .ref (ad 0)), (1, .int (nI (x1))), (2, .int (nI (x2)))] → W p l e (headSpec wzX0_power (k2_rm 2 44)).room s m ([.ref (ad 0), .int (nI (x1)), .int (nI (x2)), .int (zi_I (e0))] : List Value).toArray below meth c s.heap [] 0 0 (MQ below (va_Qi (fun r u => r = nI (zq_zc (fun j => V x2 j ^ ex % t) n) ∧ zq_ri V x1 (fun j => V x2 j ^ ex % t) n u) (zw_at (dC, dI) zz_cl ((cA, .int) :: (cR, .array .int) :: tr) A (fun u => zc_w cA cR ad kd n t z v S P u ++ wr)) A) ([.ref (ad 0), .int (nI (x1)), .int (nI (x2)), .int (zi_I (e0))] : List Value).toArray s 0 0 A) (F0 m 37 ls [.int (nI ex)]) := by
    intro ls hl
    refine lv_istore (lv' := [(4, .int (nI (ex))), (0, .ref (ad 0)), (1, .int (nI (x1))), (2, .int (nI (x2)))]) hx hb dX0_power_37 hl (by decide) rfl (fun ls hl => ?_)
    refine lv_iconst (v := nI 0) hx hb dX0_power_39 (by decide) ?_
    refine lv_istore (lv' := [(5, .int (nI (0))), (4, .int (nI (ex))), (0, .ref (ad 0)), (1, .int (nI (x1))), (2, .int (nI (x2)))]) hx hb dX0_power_40 hl (by decide) rfl (fun ls hl => ?_)
    have loop : ∀ (d i : Nat), i + d = n → ∀ (V1 : Nat → Nat → Nat), zq_ri V x1 (fun j => V x2 j ^ ex % t) i V1 → ∀ (H : Heap) (locs : List Loc), va_P (dC, dI) zz_cl (zc_w cA cR ad kd n t z v S P V1 ++ wr) H → va_D A (zc_w cA cR ad kd n t z v S P V1 ++ wr) → va_S A s.heap H locs → ∀ ls, lv_has ls 6 [(0, .ref (ad 0)), (1, .int (nI (x1))), (2, .int (nI (x2))), (4, .int (nI (ex))), (5, .int (nI (i)))] → W p l e (headSpec wzX0_power (k2_rm 2 44)).room s m ([.ref (ad 0), .int (nI (x1)), .int (nI (x2)), .int (zi_I (e0))] : List Value).toArray below meth c H locs 0 0 (MQ below (va_Qi (fun r u => r = nI (zq_zc (fun j => V x2 j ^ ex % t) n) ∧ zq_ri V x1 (fun j => V x2 j ^ ex % t) n u) (zw_at (dC, dI) zz_cl ((cA, .int) :: (cR, .array .int) :: tr) A (fun u => zc_w cA cR ad kd n t z v S P u ++ wr)) A) ([.ref (ad 0), .int (nI (x1)), .int (nI (x2)), .int (zi_I (e0))] : List Value).toArray s 0 0 A) (F0 m 42 ls []) := by
      intro d
      induction d with
      | zero =>
        intro i hi V1 hri H locs hP hD hS ls hl
        have hi : i = n := by omega
        rw [hi] at hri
        refine lv_iload hx hb dX0_power_42 (lv_at hl 4 rfl) ?_
        refine lv_aload_n hx hb dX0_power_44 rfl (lv_at hl 0 rfl) ?_
        refine zx_get0 (v := .int (nI (n))) hx hb hts hown hK hP 0 rfl 4 (by decide) zf_X0_58 rfl dX0_power_45 ?_
        refine zr_ige (tgt := 81) hx hb dX0_power_48 (by decide) (by omega) (by omega) (fun _ => ?_) (fun hno9 => absurd hno9 (by omega))
        have hzz : zq_zc (V1 x1) n = zq_zc (fun j => V x2 j ^ ex % t) n := zq_zc_congr hri.2
        refine lv_aload_n hx hb dX0_power_81 rfl (lv_at hl 0 rfl) ?_
        refine lv_aload_n hx hb dX0_power_82 rfl (lv_at hl 0 rfl) ?_
        refine zx_get0 (v := .ref (ad 1)) hx hb hts hown hK hP 0 rfl 0 (by decide) zf_X0_11 rfl dX0_power_83 ?_
        refine lv_iload_n hx hb dX0_power_86 rfl (lv_at hl 1 rfl) ?_
        refine zr_aald (y := ad (4 + x1)) hx hb hK hP 1 1 rfl rfl (by omega) (by decide) rfl dX0_power_87 ?_
        refine zr_callq (zx_runV (As := [.ref (ad (4 + x1))]) (rest := []) hx hb hml hts hown (cx_zeros l dC dI cA cR tr wr ad kd n t z v S P V1 (4 + x1) (ad (4 + x1)) (zq_I (V1 x1)) (V1 x1) (zc_row (by omega)) (fun _ _ => rfl) hn (fun j hj => by rw [hri.2 j hj]; exact Nat.lt_trans (Nat.mod_lt _ (by omega)) (by omega))) zv_X0_73 rfl rfl ⟨Nat.le_of_ble_eq_true rfl, Nat.le_of_ble_eq_true rfl⟩ (zr_preV (q := (RX0, TX0, 8)) (ci := 0) (q0 := 0) hP hK rfl rfl) rfl hl.1 rfl (Nat.le_of_ble_eq_true rfl) dX0_power_88 ⟨Nat.zero_le _, Nat.zero_le _⟩) ?_
        rw [hzz]
        exact W.iret (v := nI (zq_zc (fun j => V x2 j ^ ex % t) n)) hx hb hr (fun t9 h9 hW9 => ⟨⟨nI (zq_zc (fun j => V x2 j ^ ex % t) n), V1, rfl, ⟨rfl, hri⟩, by rw [h9]; exact hP, va_K.moved hW9.alike hK, hD⟩, hS.F h9⟩) hS.2.2 dX0_power_91
      | succ d ih =>
        intro i hi V1 hri H locs hP hD hS ls hl
        refine lv_iload hx hb dX0_power_42 (lv_at hl 4 rfl) ?_
        refine lv_aload_n hx hb dX0_power_44 rfl (lv_at hl 0 rfl) ?_
        refine zx_get0 (v := .int (nI (n))) hx hb hts hown hK hP 0 rfl 4 (by decide) zf_X0_58 rfl dX0_power_45 ?_
        refine zr_ige (tgt := 81) hx hb dX0_power_48 (by decide) (by omega) (by omega) (fun hno9 => absurd hno9 (by omega)) (fun _ => ?_)
        have e2 : V1 x2 i = V x2 i := hri.1 x2 i (Or.inr (Nat.le_refl _))
        have b2 := hV x2 i (by omega) (by omega)
        refine lv_aload_n hx hb dX0_power_51 rfl (lv_at hl 0 rfl) ?_
        refine zx_get0 (v := .ref (ad 1)) hx hb hts hown hK hP 0 rfl 0 (by decide) zf_X0_11 rfl dX0_power_52 ?_
        refine lv_iload_n hx hb dX0_power_55 rfl (lv_at hl 1 rfl) ?_
        refine zr_aald (y := ad (4 + x1)) hx hb hK hP 1 1 rfl rfl (by omega) (by decide) rfl dX0_power_56 ?_
        refine lv_iload hx hb dX0_power_57 (lv_at hl 4 rfl) ?_
        refine lv_aload_n hx hb dX0_power_59 rfl (lv_at hl 0 rfl) ?_
        refine lv_aload_n hx hb dX0_power_60 rfl (lv_at hl 0 rfl) ?_
        refine zx_get0 (v := .ref (ad 1)) hx hb hts hown hK hP 0 rfl 0 (by decide) zf_X0_11 rfl dX0_power_61 ?_
        refine lv_iload_n hx hb dX0_power_64 rfl (lv_at hl 2 rfl) ?_
        refine zr_aald (y := ad (4 + x2)) hx hb hK hP 1 1 rfl rfl (by omega) (by decide) rfl dX0_power_65 ?_
        refine lv_iload hx hb dX0_power_66 (lv_at hl 4 rfl) ?_
        refine zr_iald (y := V1 x2 i) hx hb hK hP (4 + x2) 0 (zc_row (by omega)) rfl (by omega) (by decide) rfl dX0_power_68 ?_
        refine lv_iload hx hb dX0_power_69 (lv_at hl 3 rfl) ?_
        refine zr_callq (zx_runV (As := [.int (nI (V1 x2 i)), .int (nI (ex))]) (rest := [.int (nI (i)), .ref (ad (4 + x1))]) hx hb hml hts hown (cx_raised l dC dI cA cR tr wr ad kd n t z v S P V1 (V1 x2 i) ex (by omega) ht ht2 hexb) zv_X0_88 rfl rfl ⟨Nat.le_of_ble_eq_true rfl, Nat.le_of_ble_eq_true rfl⟩ (zr_preV (q := (RX0, TX0, 8)) (ci := 0) (q0 := 0) hP hK rfl rfl) rfl hl.1 rfl (Nat.le_of_ble_eq_true rfl) dX0_power_71 ⟨Nat.zero_le _, Nat.zero_le _⟩) ?_
        refine zr_iast (ws' := (zc_w cA cR ad kd n t z v S P (zq_vp V1 x1 (zq_up (V1 x1) i (V1 x2 i ^ ex % t))) ++ wr)) hx hb hK hP hD hS (4 + x1) 0 (zc_row (by omega)) rfl (by omega) (by decide) dX0_power_74 (zc_set (by omega) _) (fun H locs hP hD hS => ?_)
        refine zr_iinc (k := 4) (lv' := [(5, .int (nI (i + 1))), (0, .ref (ad 0)), (1, .int (nI (x1))), (2, .int (nI (x2))), (4, .int (nI (ex)))]) hx hb dX0_power_75 hl rfl (by decide) rfl (fun ls hl => ?_)
        refine lv_goto (tgt := 42) hx hb dX0_power_78 (by decide) ?_
        exact ih (i + 1) (by omega) _ (zq_ri_s hri (by rw [e2])) H locs hP hD hS ls (lv_sub hl [1, 2, 3, 4, 0] rfl)
    exact loop n 0 (by omega) V (zq_ri_0 _ _ _) s.heap [] hP hD hS ls (lv_sub hl [2, 3, 4, 1, 0] rfl)
  by_cases hneg : e0 < 0
  · refine lv_iload_n hx hb dX0_power_10 rfl (lv_at hl 3 rfl) ?_
    refine lv_if_ge (tgt := 19) hx hb dX0_power_11 (by decide) (fun hh => absurd ((zi_lt h1 h2 (by omega) (by omega)).mpr hneg) (by rw [← zi_0]; exact Int32.not_lt.mpr hh)) (fun _ => ?_)
    refine lv_aload_n hx hb dX0_power_14 rfl (lv_at hl 0 rfl) ?_
    refine lv_iload_n hx hb dX0_power_15 rfl (lv_at hl 2 rfl) ?_
    refine zr_calln (zx_runV (As := [.int (nI (x2))]) (rest := []) hx hb hml hts hown (cx_needUnit l dC dI cA cR tr wr ad kd n t z v S P V x2 hx2 hn (fun r i hr hi => Nat.lt_trans (hV r i hr hi) (by omega)) (hz hneg)) zv_X0_66 rfl rfl ⟨Nat.le_of_ble_eq_true rfl, Nat.le_of_ble_eq_true rfl⟩ (zr_preV (q := (RX0, TX0, 8)) (ci := 0) (q0 := 0) hP hK rfl rfl) rfl hl.1 rfl (Nat.le_of_ble_eq_true rfl) dX0_power_16 ⟨Nat.zero_le _, Nat.zero_le _⟩) ?_
    refine lv_iload_n hx hb dX0_power_19 rfl (lv_at hl 3 rfl) ?_
    refine lv_if_ge (tgt := 36) hx hb dX0_power_20 (by decide) (fun hh => absurd ((zi_lt h1 h2 (by omega) (by omega)).mpr hneg) (by rw [← zi_0]; exact Int32.not_lt.mpr hh)) (fun _ => ?_)
    refine lv_iload_n hx hb dX0_power_23 rfl (lv_at hl 3 rfl) ?_
    refine lv_aload_n hx hb dX0_power_24 rfl (lv_at hl 0 rfl) ?_
    refine zx_get0 (v := .int (nI (t))) hx hb hts hown hK hP 0 rfl 5 (by decide) zf_X0_49 rfl dX0_power_25 ?_
    refine lv_iconst (v := nI 1) hx hb dX0_power_28 (by decide) ?_
    refine zr_isub hx hb dX0_power_29 (by omega) ?_
    refine zr_callq (zx_runS (As := [.int (zi_I (e0)), .int (nI (t - 1))]) (rest := []) hx hb hml hts hown (cJ_floorMod l (dC, dI) zz_cl ((cA, .int) :: (cR, .array .int) :: tr) (zc_w cA cR ad kd n t z v S P V ++ wr) e0 (t - 1) ex h1 h2 (by omega) (by omega) (hex.2 hneg)) zu_X0_52 rfl rfl ⟨Nat.le_of_ble_eq_true rfl, Nat.le_of_ble_eq_true rfl⟩ (zr_preS hP hK) rfl hl.1 rfl (Nat.le_of_ble_eq_true rfl) dX0_power_30 ⟨Nat.zero_le _, Nat.zero_le _⟩) ?_
    refine lv_goto (tgt := 37) hx hb dX0_power_33 (by decide) ?_
    exact h37 ls (lv_sub hl [0, 1, 2] rfl)
  · refine lv_iload_n hx hb dX0_power_10 rfl (lv_at hl 3 rfl) ?_
    refine lv_if_ge (tgt := 19) hx hb dX0_power_11 (by decide) (fun _ => ?_) (fun hh => absurd (Int32.not_le.mp hh) (by rw [zi_0, zi_lt h1 h2 (by omega) (by omega)]; exact hneg))
    refine lv_iload_n hx hb dX0_power_19 rfl (lv_at hl 3 rfl) ?_
    refine lv_if_ge (tgt := 36) hx hb dX0_power_20 (by decide) (fun _ => ?_) (fun hh => absurd (Int32.not_le.mp hh) (by rw [zi_0, zi_lt h1 h2 (by omega) (by omega)]; exact hneg))
    refine lv_iload_n hx hb dX0_power_36 rfl (lv_at hl 3 rfl) ?_
    have h38 := h37 ls (lv_sub hl [0, 1, 2] rfl)
    rw [show nI ex = zi_I e0 by rw [hex.1 (by omega)]; exact zi_nI ex] at h38
    exact h38
