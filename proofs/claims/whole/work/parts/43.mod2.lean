set_option maxHeartbeats 4000000 in
set_option maxRecDepth 100000 in
/-- fail(code) -/
theorem cm_fail (l : Launch) (dC : Nat → ClassId) (dI : Nat → Nat → Nat) (cA : ClassId) (tr : List (ClassId × FieldType)) (wr : va_W) (mo : Nat → Nat) (th k : Nat) (F fa fb fc fd : Nat → Nat) (hk : k < 4) (sz : Nat) (x : Nat) : Met l yX1_fail wzX1_fail (k2_rm 0 0) (zw_pre (dC, dI) zz_cl ((cA, .int) :: tr) (zm_w cA mo th k (zk_n k) (zk_t k) F fa fb fc fd ++ wr) sz [.ref (mo 0), .int (nI (x))]) (va_Qi (fun r (_ : Unit) => r = nI 0) (zw_at (dC, dI) zz_cl ((cA, .int) :: tr) (va_A (zm_w cA mo th k (zk_n k) (zk_t k) F fa fb fc fd ++ wr) sz) (fun _ : Unit => zm_w cA mo x k (zk_n k) (zk_t k) F fa fb fc fd ++ wr)) (va_A (zm_w cA mo th k (zk_n k) (zk_t k) F fa fb fc fd ++ wr) sz)) 0 0 (va_A (zm_w cA mo th k (zk_n k) (zk_t k) F fa fb fc fd ++ wr) sz) := by
  refine Met.ofW (cc := cX1_fail) (maxL := 2) (ret := (some .int)) (by decide) rfl ?_
  intro p e s m args below meth c s₁ B hml hv
  obtain ⟨rfl, hsz, hP, hK, hD0⟩ := hv
  have hx := B.exec
  have hb := B.bytes
  have hr := B.returns
  have hts := atoms_spec (ws := wzX1_fail) B.pre
  have hown : s.vm.findClass RX1 = some m.cls := findClass_of_methodNamed B.named
  have hlocks := B.notSynchronized
  subst hsz
  have hD := hD0.self (sz := s.heap.size)
  generalize hAe : va_A (zm_w cA mo th k (zk_n k) (zk_t k) F fa fb fc fd ++ wr) s.heap.size = A at hD ⊢
  have hA : ∀ q : Nat, s.heap.size ≤ q → A q := fun q h => by rw [← hAe]; exact Or.inr h
  have hS : va_S A s.heap s.heap [] := va_S.rf
  have hl := lv_entry ([.ref (mo 0), .int (nI (x))]) (n := 2) (Nat.le_of_ble_eq_true rfl)
  rw [lg_entry_eq]
  generalize (lg_sl ([.ref (mo 0), .int (nI (x))]) ++ List.replicate (2 - (lg_sl ([.ref (mo 0), .int (nI (x))])).length) Slot.unset).toArray = ls at hl ⊢
  have hl : lv_has ls 2 [(0, .ref (mo 0)), (1, .int (nI (x)))] := hl
  obtain ⟨hb1, hb2, hb3, hb4, hb5, hb6, hb7, hb8⟩ := zk_b k hk
  refine lv_aload_n hx hb dX1_fail_0 rfl (lv_at hl 0 rfl) ?_
  refine lv_iload_n hx hb dX1_fail_1 rfl (lv_at hl 1 rfl) ?_
  refine zx_put1 (ws' := (zm_w cA mo x k (zk_n k) (zk_t k) F fa fb fc fd ++ wr)) hx hb hts hown hK hP hD hS 0 rfl 0 (by decide) zf_X1_32 rfl (by decide +kernel) (Nat.le_of_ble_eq_true rfl) dX1_fail_2 rfl (fun H locs hP hD hS => ?_)
  refine lv_iconst (v := nI 0) hx hb dX1_fail_5 (by decide) ?_
  exact W.iret (v := nI 0) hx hb hr (fun t9 h9 hW9 => ⟨⟨nI 0, (), rfl, rfl, by rw [h9]; exact hP, va_K.moved hW9.alike hK, hD⟩, hS.F h9⟩) hS.2.2 dX1_fail_6
set_option maxHeartbeats 4000000 in
set_option maxRecDepth 100000 in
/-- no(r, i): all well -/
theorem cm_no0 (l : Launch) (dC : Nat → ClassId) (dI : Nat → Nat → Nat) (cA : ClassId) (tr : List (ClassId × FieldType)) (wr : va_W) (mo : Nat → Nat) (th k : Nat) (F fa fb fc fd : Nat → Nat) (hk : k < 4) (sz : Nat) (x1 x2 : Nat) (hx1 : x1 < 16) (hx2 : x2 < zk_n k) : Met l yX1_no wzX1_no (k2_rm 1 20) (zw_pre (dC, dI) zz_cl ((cA, .int) :: tr) (zm_w cA mo th k (zk_n k) (zk_t k) F fa fb fc fd ++ wr) sz [.ref (mo 0), .int (nI (x1)), .int (nI (x2))]) (va_Qi (fun r (_ : Unit) => r = nI 0) (zw_at (dC, dI) zz_cl ((cA, .int) :: tr) (va_A (zm_w cA mo th k (zk_n k) (zk_t k) F fa fb fc fd ++ wr) sz) (fun _ : Unit => zm_w cA mo 0 k (zk_n k) (zk_t k) F fa fb fc fd ++ wr)) (va_A (zm_w cA mo th k (zk_n k) (zk_t k) F fa fb fc fd ++ wr) sz)) 0 0 (va_A (zm_w cA mo th k (zk_n k) (zk_t k) F fa fb fc fd ++ wr) sz) := by
  refine Met.ofW (cc := cX1_no) (maxL := 3) (ret := (some .boolean)) (by decide) rfl ?_
  intro p e s m args below meth c s₁ B hml hv
  obtain ⟨rfl, hsz, hP, hK, hD0⟩ := hv
  have hx := B.exec
  have hb := B.bytes
  have hr := B.returns
  have hts := atoms_spec (ws := wzX1_no) B.pre
  have hown : s.vm.findClass RX1 = some m.cls := findClass_of_methodNamed B.named
  have hlocks := B.notSynchronized
  subst hsz
  have hD := hD0.self (sz := s.heap.size)
  generalize hAe : va_A (zm_w cA mo th k (zk_n k) (zk_t k) F fa fb fc fd ++ wr) s.heap.size = A at hD ⊢
  have hA : ∀ q : Nat, s.heap.size ≤ q → A q := fun q h => by rw [← hAe]; exact Or.inr h
  have hS : va_S A s.heap s.heap [] := va_S.rf
  have hl := lv_entry ([.ref (mo 0), .int (nI (x1)), .int (nI (x2))]) (n := 3) (Nat.le_of_ble_eq_true rfl)
  rw [lg_entry_eq]
  generalize (lg_sl ([.ref (mo 0), .int (nI (x1)), .int (nI (x2))]) ++ List.replicate (3 - (lg_sl ([.ref (mo 0), .int (nI (x1)), .int (nI (x2))])).length) Slot.unset).toArray = ls at hl ⊢
  have hl : lv_has ls 3 [(0, .ref (mo 0)), (1, .int (nI (x1))), (2, .int (nI (x2)))] := hl
  obtain ⟨hb1, hb2, hb3, hb4, hb5, hb6, hb7, hb8⟩ := zk_b k hk
  refine lv_aload_n hx hb dX1_no_0 rfl (lv_at hl 0 rfl) ?_
  refine lv_iload_n hx hb dX1_no_1 rfl (lv_at hl 1 rfl) ?_
  refine zr_callq (zx_runS (As := [.int (nI (x1))]) (rest := [.ref (mo 0)]) hx hb hml hts hown (cm_none0 l (dC, dI) zz_cl ((cA, .int) :: tr) (zm_w cA mo th k (zk_n k) (zk_t k) F fa fb fc fd ++ wr) x1 (by omega)) zu_X1_46 rfl rfl ⟨Nat.le_of_ble_eq_true rfl, Nat.le_of_ble_eq_true rfl⟩ (zr_preS hP hK) rfl hl.1 rfl (Nat.le_of_ble_eq_true rfl) dX1_no_2 ⟨Nat.zero_le _, Nat.zero_le _⟩) ?_
  refine zr_ifne (tgt := 20) hx hb dX1_no_5 (by decide) (by omega) (fun hno9 => absurd hno9 (by omega)) (fun _ => ?_)
  refine lv_iload_n hx hb dX1_no_8 rfl (lv_at hl 2 rfl) ?_
  refine zr_iflt (tgt := 20) hx hb dX1_no_9 (by decide) (by omega) ?_
  refine lv_iload_n hx hb dX1_no_12 rfl (lv_at hl 2 rfl) ?_
  refine lv_aload_n hx hb dX1_no_13 rfl (lv_at hl 0 rfl) ?_
  refine zx_get1 (v := .int (nI (zk_n k))) hx hb hts hown hK hP 0 rfl 2 (by decide) zf_X1_7 rfl dX1_no_14 ?_
  refine zr_ilt (tgt := 24) hx hb dX1_no_17 (by decide) (by omega) (by omega) (fun _ => ?_) (fun hno9 => absurd hno9 (by omega))
  refine lv_iconst (v := nI 0) hx hb dX1_no_24 (by decide) ?_
  refine zx_put1 (ws' := (zm_w cA mo 0 k (zk_n k) (zk_t k) F fa fb fc fd ++ wr)) hx hb hts hown hK hP hD hS 0 rfl 0 (by decide) zf_X1_32 rfl (by decide +kernel) (Nat.le_of_ble_eq_true rfl) dX1_no_25 rfl (fun H locs hP hD hS => ?_)
  refine lv_aload_n hx hb dX1_no_28 rfl (lv_at hl 0 rfl) ?_
  refine zx_get1 (v := .int (nI (0))) hx hb hts hown hK hP 0 rfl 0 (by decide) zf_X1_32 rfl dX1_no_29 ?_
  refine zr_ifle (tgt := 39) hx hb dX1_no_32 (by decide) (by omega) (fun _ => ?_) (fun hno9 => absurd hno9 (by omega))
  refine lv_iconst (v := nI 0) hx hb dX1_no_39 (by decide) ?_
  exact W.zret (v := nI 0) hx hb hr rfl (fun t9 h9 hW9 => ⟨⟨nI 0, (), rfl, rfl, by rw [h9]; exact hP, va_K.moved hW9.alike hK, hD⟩, hS.F h9⟩) hS.2.2 dX1_no_40
set_option maxHeartbeats 4000000 in
set_option maxRecDepth 100000 in
/-- no(r, i): refused -/
theorem cm_no1 (l : Launch) (dC : Nat → ClassId) (dI : Nat → Nat → Nat) (cA : ClassId) (tr : List (ClassId × FieldType)) (wr : va_W) (mo : Nat → Nat) (th k : Nat) (F fa fb fc fd : Nat → Nat) (hk : k < 4) (sz : Nat) (x1 x2 : Int32) (hbad : x1 < 0 ∨ nI 16 ≤ x1) : Met l yX1_no wzX1_no (k2_rm 1 20) (zw_pre (dC, dI) zz_cl ((cA, .int) :: tr) (zm_w cA mo th k (zk_n k) (zk_t k) F fa fb fc fd ++ wr) sz [.ref (mo 0), .int (x1), .int (x2)]) (va_Qi (fun r (_ : Unit) => r = nI 1) (zw_at (dC, dI) zz_cl ((cA, .int) :: tr) (va_A (zm_w cA mo th k (zk_n k) (zk_t k) F fa fb fc fd ++ wr) sz) (fun _ : Unit => zm_w cA mo 1 k (zk_n k) (zk_t k) F fa fb fc fd ++ wr)) (va_A (zm_w cA mo th k (zk_n k) (zk_t k) F fa fb fc fd ++ wr) sz)) 0 0 (va_A (zm_w cA mo th k (zk_n k) (zk_t k) F fa fb fc fd ++ wr) sz) := by
  refine Met.ofW (cc := cX1_no) (maxL := 3) (ret := (some .boolean)) (by decide) rfl ?_
  intro p e s m args below meth c s₁ B hml hv
  obtain ⟨rfl, hsz, hP, hK, hD0⟩ := hv
  have hx := B.exec
  have hb := B.bytes
  have hr := B.returns
  have hts := atoms_spec (ws := wzX1_no) B.pre
  have hown : s.vm.findClass RX1 = some m.cls := findClass_of_methodNamed B.named
  have hlocks := B.notSynchronized
  subst hsz
  have hD := hD0.self (sz := s.heap.size)
  generalize hAe : va_A (zm_w cA mo th k (zk_n k) (zk_t k) F fa fb fc fd ++ wr) s.heap.size = A at hD ⊢
  have hA : ∀ q : Nat, s.heap.size ≤ q → A q := fun q h => by rw [← hAe]; exact Or.inr h
  have hS : va_S A s.heap s.heap [] := va_S.rf
  have hl := lv_entry ([.ref (mo 0), .int (x1), .int (x2)]) (n := 3) (Nat.le_of_ble_eq_true rfl)
  rw [lg_entry_eq]
  generalize (lg_sl ([.ref (mo 0), .int (x1), .int (x2)]) ++ List.replicate (3 - (lg_sl ([.ref (mo 0), .int (x1), .int (x2)])).length) Slot.unset).toArray = ls at hl ⊢
  have hl : lv_has ls 3 [(0, .ref (mo 0)), (1, .int (x1)), (2, .int (x2))] := hl
  obtain ⟨hb1, hb2, hb3, hb4, hb5, hb6, hb7, hb8⟩ := zk_b k hk
  have h20 : ∀ ls, lv_has ls 3 [(0, .ref (mo 0)), (1, .int (x1)), (2, .int (x2))] → W p l e (headSpec wzX1_no (k2_rm 1 20)).room s m ([.ref (mo 0), .int (x1), .int (x2)] : List Value).toArray below meth c s.heap [] 0 0 (MQ below (va_Qi (fun r (_ : Unit) => r = nI 1) (zw_at (dC, dI) zz_cl ((cA, .int) :: tr) A (fun _ : Unit => zm_w cA mo 1 k (zk_n k) (zk_t k) F fa fb fc fd ++ wr)) A) ([.ref (mo 0), .int (x1), .int (x2)] : List Value).toArray s 0 0 A) (F0 m 20 ls [.ref (mo 0)]) := by
    intro ls hl
    refine lv_iconst (v := nI 1) hx hb dX1_no_20 (by decide) ?_
    refine lv_goto (tgt := 25) hx hb dX1_no_21 (by decide) ?_
    refine zx_put1 (ws' := (zm_w cA mo 1 k (zk_n k) (zk_t k) F fa fb fc fd ++ wr)) hx hb hts hown hK hP hD hS 0 rfl 0 (by decide) zf_X1_32 rfl (by decide +kernel) (Nat.le_of_ble_eq_true rfl) dX1_no_25 rfl (fun H locs hP hD hS => ?_)
    refine lv_aload_n hx hb dX1_no_28 rfl (lv_at hl 0 rfl) ?_
    refine zx_get1 (v := .int (nI (1))) hx hb hts hown hK hP 0 rfl 0 (by decide) zf_X1_32 rfl dX1_no_29 ?_
    refine zr_ifle (tgt := 39) hx hb dX1_no_32 (by decide) (by omega) (fun hno9 => absurd hno9 (by omega)) (fun _ => ?_)
    refine lv_iconst (v := nI 1) hx hb dX1_no_35 (by decide) ?_
    refine lv_goto (tgt := 40) hx hb dX1_no_36 (by decide) ?_
    exact W.zret (v := nI 1) hx hb hr rfl (fun t9 h9 hW9 => ⟨⟨nI 1, (), rfl, rfl, by rw [h9]; exact hP, va_K.moved hW9.alike hK, hD⟩, hS.F h9⟩) hS.2.2 dX1_no_40
  refine lv_aload_n hx hb dX1_no_0 rfl (lv_at hl 0 rfl) ?_
  refine lv_iload_n hx hb dX1_no_1 rfl (lv_at hl 1 rfl) ?_
  refine zr_callq (zx_runS (As := [.int (x1)]) (rest := [.ref (mo 0)]) hx hb hml hts hown (cm_none1 l (dC, dI) zz_cl ((cA, .int) :: tr) (zm_w cA mo th k (zk_n k) (zk_t k) F fa fb fc fd ++ wr) x1 hbad) zu_X1_46 rfl rfl ⟨Nat.le_of_ble_eq_true rfl, Nat.le_of_ble_eq_true rfl⟩ (zr_preS hP hK) rfl hl.1 rfl (Nat.le_of_ble_eq_true rfl) dX1_no_2 ⟨Nat.zero_le _, Nat.zero_le _⟩) ?_
  refine zr_ifne (tgt := 20) hx hb dX1_no_5 (by decide) (by omega) (fun _ => ?_) (fun hno9 => absurd hno9 (by omega))
  exact h20 ls hl
set_option maxHeartbeats 4000000 in
set_option maxRecDepth 100000 in
/-- no(r, i): refused -/
theorem cm_no2 (l : Launch) (dC : Nat → ClassId) (dI : Nat → Nat → Nat) (cA : ClassId) (tr : List (ClassId × FieldType)) (wr : va_W) (mo : Nat → Nat) (th k : Nat) (F fa fb fc fd : Nat → Nat) (hk : k < 4) (sz : Nat) (x1 : Nat) (hx1 : x1 < 16) (x2 : Int32) (hbad : x2 < 0 ∨ nI (zk_n k) ≤ x2) : Met l yX1_no wzX1_no (k2_rm 1 20) (zw_pre (dC, dI) zz_cl ((cA, .int) :: tr) (zm_w cA mo th k (zk_n k) (zk_t k) F fa fb fc fd ++ wr) sz [.ref (mo 0), .int (nI (x1)), .int (x2)]) (va_Qi (fun r (_ : Unit) => r = nI 1) (zw_at (dC, dI) zz_cl ((cA, .int) :: tr) (va_A (zm_w cA mo th k (zk_n k) (zk_t k) F fa fb fc fd ++ wr) sz) (fun _ : Unit => zm_w cA mo 1 k (zk_n k) (zk_t k) F fa fb fc fd ++ wr)) (va_A (zm_w cA mo th k (zk_n k) (zk_t k) F fa fb fc fd ++ wr) sz)) 0 0 (va_A (zm_w cA mo th k (zk_n k) (zk_t k) F fa fb fc fd ++ wr) sz) := by
  refine Met.ofW (cc := cX1_no) (maxL := 3) (ret := (some .boolean)) (by decide) rfl ?_
  intro p e s m args below meth c s₁ B hml hv
  obtain ⟨rfl, hsz, hP, hK, hD0⟩ := hv
  have hx := B.exec
  have hb := B.bytes
  have hr := B.returns
  have hts := atoms_spec (ws := wzX1_no) B.pre
  have hown : s.vm.findClass RX1 = some m.cls := findClass_of_methodNamed B.named
  have hlocks := B.notSynchronized
  subst hsz
  have hD := hD0.self (sz := s.heap.size)
  generalize hAe : va_A (zm_w cA mo th k (zk_n k) (zk_t k) F fa fb fc fd ++ wr) s.heap.size = A at hD ⊢
  have hA : ∀ q : Nat, s.heap.size ≤ q → A q := fun q h => by rw [← hAe]; exact Or.inr h
  have hS : va_S A s.heap s.heap [] := va_S.rf
  have hl := lv_entry ([.ref (mo 0), .int (nI (x1)), .int (x2)]) (n := 3) (Nat.le_of_ble_eq_true rfl)
  rw [lg_entry_eq]
  generalize (lg_sl ([.ref (mo 0), .int (nI (x1)), .int (x2)]) ++ List.replicate (3 - (lg_sl ([.ref (mo 0), .int (nI (x1)), .int (x2)])).length) Slot.unset).toArray = ls at hl ⊢
  have hl : lv_has ls 3 [(0, .ref (mo 0)), (1, .int (nI (x1))), (2, .int (x2))] := hl
  obtain ⟨hb1, hb2, hb3, hb4, hb5, hb6, hb7, hb8⟩ := zk_b k hk
  have h20 : ∀ ls, lv_has ls 3 [(0, .ref (mo 0)), (1, .int (nI (x1))), (2, .int (x2))] → W p l e (headSpec wzX1_no (k2_rm 1 20)).room s m ([.ref (mo 0), .int (nI (x1)), .int (x2)] : List Value).toArray below meth c s.heap [] 0 0 (MQ below (va_Qi (fun r (_ : Unit) => r = nI 1) (zw_at (dC, dI) zz_cl ((cA, .int) :: tr) A (fun _ : Unit => zm_w cA mo 1 k (zk_n k) (zk_t k) F fa fb fc fd ++ wr)) A) ([.ref (mo 0), .int (nI (x1)), .int (x2)] : List Value).toArray s 0 0 A) (F0 m 20 ls [.ref (mo 0)]) := by
    intro ls hl
    refine lv_iconst (v := nI 1) hx hb dX1_no_20 (by decide) ?_
    refine lv_goto (tgt := 25) hx hb dX1_no_21 (by decide) ?_
    refine zx_put1 (ws' := (zm_w cA mo 1 k (zk_n k) (zk_t k) F fa fb fc fd ++ wr)) hx hb hts hown hK hP hD hS 0 rfl 0 (by decide) zf_X1_32 rfl (by decide +kernel) (Nat.le_of_ble_eq_true rfl) dX1_no_25 rfl (fun H locs hP hD hS => ?_)
    refine lv_aload_n hx hb dX1_no_28 rfl (lv_at hl 0 rfl) ?_
    refine zx_get1 (v := .int (nI (1))) hx hb hts hown hK hP 0 rfl 0 (by decide) zf_X1_32 rfl dX1_no_29 ?_
    refine zr_ifle (tgt := 39) hx hb dX1_no_32 (by decide) (by omega) (fun hno9 => absurd hno9 (by omega)) (fun _ => ?_)
    refine lv_iconst (v := nI 1) hx hb dX1_no_35 (by decide) ?_
    refine lv_goto (tgt := 40) hx hb dX1_no_36 (by decide) ?_
    exact W.zret (v := nI 1) hx hb hr rfl (fun t9 h9 hW9 => ⟨⟨nI 1, (), rfl, rfl, by rw [h9]; exact hP, va_K.moved hW9.alike hK, hD⟩, hS.F h9⟩) hS.2.2 dX1_no_40
  refine lv_aload_n hx hb dX1_no_0 rfl (lv_at hl 0 rfl) ?_
  refine lv_iload_n hx hb dX1_no_1 rfl (lv_at hl 1 rfl) ?_
  refine zr_callq (zx_runS (As := [.int (nI (x1))]) (rest := [.ref (mo 0)]) hx hb hml hts hown (cm_none0 l (dC, dI) zz_cl ((cA, .int) :: tr) (zm_w cA mo th k (zk_n k) (zk_t k) F fa fb fc fd ++ wr) x1 (by omega)) zu_X1_46 rfl rfl ⟨Nat.le_of_ble_eq_true rfl, Nat.le_of_ble_eq_true rfl⟩ (zr_preS hP hK) rfl hl.1 rfl (Nat.le_of_ble_eq_true rfl) dX1_no_2 ⟨Nat.zero_le _, Nat.zero_le _⟩) ?_
  refine zr_ifne (tgt := 20) hx hb dX1_no_5 (by decide) (by omega) (fun hno9 => absurd hno9 (by omega)) (fun _ => ?_)
  refine lv_iload_n hx hb dX1_no_8 rfl (lv_at hl 2 rfl) ?_
  refine lv_if_lt (tgt := 20) hx hb dX1_no_9 (by decide) (fun _ => h20 ls hl) (fun hn0 => ?_)
  refine lv_iload_n hx hb dX1_no_12 rfl (lv_at hl 2 rfl) ?_
  refine lv_aload_n hx hb dX1_no_13 rfl (lv_at hl 0 rfl) ?_
  refine zx_get1 (v := .int (nI (zk_n k))) hx hb hts hown hK hP 0 rfl 2 (by decide) zf_X1_7 rfl dX1_no_14 ?_
  refine lv_icmp_lt (tgt := 24) hx hb dX1_no_17 (by decide) (fun hh => absurd hh (hbad.elim (fun h9 => absurd h9 hn0) (fun h9 => Int32.not_lt.mpr h9))) (fun _ => h20 ls hl)
set_option maxHeartbeats 4000000 in
set_option maxRecDepth 100000 in
/-- take(r, to) -/
theorem cm_take2 (l : Launch) (dC : Nat → ClassId) (dI : Nat → Nat → Nat) (cA : ClassId) (tr : List (ClassId × FieldType)) (wr : va_W) (mo : Nat → Nat) (th k : Nat) (F fa fb fc fd : Nat → Nat) (hk : k < 4) (sz : Nat) (x1 : Nat) (hx1 : x1 < 16) : Met l yX1_take wzX1_take (k2_rm 0 0) (zw_pre (dC, dI) zz_cl ((cA, .int) :: tr) (zm_w cA mo th k (zk_n k) (zk_t k) F fa fb fc fd ++ wr) sz [.ref (mo 0), .int (nI (x1)), .ref (mo 2)]) (va_Qv (fun u : Nat → Nat => ∀ j, j < zk_n k → u j = F (32 * x1 + j)) (zw_at (dC, dI) zz_cl ((cA, .int) :: tr) (va_A (zm_w cA mo th k (zk_n k) (zk_t k) F fa fb fc fd ++ wr) sz) (fun u : Nat → Nat => zm_w cA mo th k (zk_n k) (zk_t k) F u fb fc fd ++ wr)) (va_A (zm_w cA mo th k (zk_n k) (zk_t k) F fa fb fc fd ++ wr) sz)) 0 0 (va_A (zm_w cA mo th k (zk_n k) (zk_t k) F fa fb fc fd ++ wr) sz) := by
  refine Met.ofW (cc := cX1_take) (maxL := 4) (ret := none) (by decide) rfl ?_
  intro p e s m args below meth c s₁ B hml hv
  obtain ⟨rfl, hsz, hP, hK, hD0⟩ := hv
  have hx := B.exec
  have hb := B.bytes
  have hr := B.returns
  have hts := atoms_spec (ws := wzX1_take) B.pre
  have hown : s.vm.findClass RX1 = some m.cls := findClass_of_methodNamed B.named
  have hlocks := B.notSynchronized
  subst hsz
  have hD := hD0.self (sz := s.heap.size)
  generalize hAe : va_A (zm_w cA mo th k (zk_n k) (zk_t k) F fa fb fc fd ++ wr) s.heap.size = A at hD ⊢
  have hA : ∀ q : Nat, s.heap.size ≤ q → A q := fun q h => by rw [← hAe]; exact Or.inr h
  have hS : va_S A s.heap s.heap [] := va_S.rf
  have hl := lv_entry ([.ref (mo 0), .int (nI (x1)), .ref (mo 2)]) (n := 4) (Nat.le_of_ble_eq_true rfl)
  rw [lg_entry_eq]
  generalize (lg_sl ([.ref (mo 0), .int (nI (x1)), .ref (mo 2)]) ++ List.replicate (4 - (lg_sl ([.ref (mo 0), .int (nI (x1)), .ref (mo 2)])).length) Slot.unset).toArray = ls at hl ⊢
  have hl : lv_has ls 4 [(0, .ref (mo 0)), (1, .int (nI (x1))), (2, .ref (mo 2))] := hl
  obtain ⟨hb1, hb2, hb3, hb4, hb5, hb6, hb7, hb8⟩ := zk_b k hk
  refine lv_iconst (v := nI 0) hx hb dX1_take_0 (by decide) ?_
  refine lv_istore_n (lv' := [(3, .int (nI (0))), (0, .ref (mo 0)), (1, .int (nI (x1))), (2, .ref (mo 2))]) hx hb dX1_take_1 rfl hl (by decide) rfl (fun ls hl => ?_)
  have loop : ∀ (d i : Nat), i + d = zk_n k → ∀ (G1 : Nat → Nat), (∀ j, j < i → G1 j = F (32 * x1 + j)) → ∀ (H : Heap) (locs : List Loc), va_P (dC, dI) zz_cl (zm_w cA mo th k (zk_n k) (zk_t k) F G1 fb fc fd ++ wr) H → va_D A (zm_w cA mo th k (zk_n k) (zk_t k) F G1 fb fc fd ++ wr) → va_S A s.heap H locs → ∀ ls, lv_has ls 4 [(0, .ref (mo 0)), (1, .int (nI (x1))), (2, .ref (mo 2)), (3, .int (nI (i)))] → W p l e (headSpec wzX1_take (k2_rm 0 0)).room s m ([.ref (mo 0), .int (nI (x1)), .ref (mo 2)] : List Value).toArray below meth c H locs 0 0 (MQ below (va_Qv (fun u : Nat → Nat => ∀ j, j < zk_n k → u j = F (32 * x1 + j)) (zw_at (dC, dI) zz_cl ((cA, .int) :: tr) A (fun u : Nat → Nat => zm_w cA mo th k (zk_n k) (zk_t k) F u fb fc fd ++ wr)) A) ([.ref (mo 0), .int (nI (x1)), .ref (mo 2)] : List Value).toArray s 0 0 A) (F0 m 2 ls []) := by
    intro d
    induction d with
    | zero =>
      intro i hi G1 hinv H locs hP hD hS ls hl
      have hi : i = zk_n k := by omega
      rw [hi] at hinv
      refine lv_iload_n hx hb dX1_take_2 rfl (lv_at hl 3 rfl) ?_
      refine lv_aload_n hx hb dX1_take_3 rfl (lv_at hl 0 rfl) ?_
      refine zx_get1 (v := .int (nI (zk_n k))) hx hb hts hown hK hP 0 rfl 2 (by decide) zf_X1_7 rfl dX1_take_4 ?_
      refine zr_ige (tgt := 30) hx hb dX1_take_7 (by decide) (by omega) (by omega) (fun _ => ?_) (fun hno9 => absurd hno9 (by omega))
      exact W.vret hx hb hr (fun t9 h9 hW9 => ⟨⟨G1, rfl, hinv, by rw [h9]; exact hP, va_K.moved hW9.alike hK, hD⟩, hS.F h9⟩) hS.2.2 dX1_take_30
    | succ d ih =>
      intro i hi G1 hinv H locs hP hD hS ls hl
      refine lv_iload_n hx hb dX1_take_2 rfl (lv_at hl 3 rfl) ?_
      refine lv_aload_n hx hb dX1_take_3 rfl (lv_at hl 0 rfl) ?_
      refine zx_get1 (v := .int (nI (zk_n k))) hx hb hts hown hK hP 0 rfl 2 (by decide) zf_X1_7 rfl dX1_take_4 ?_
      refine zr_ige (tgt := 30) hx hb dX1_take_7 (by decide) (by omega) (by omega) (fun hno9 => absurd hno9 (by omega)) (fun _ => ?_)
      refine lv_aload_n hx hb dX1_take_10 rfl (lv_at hl 2 rfl) ?_
      refine lv_iload_n hx hb dX1_take_11 rfl (lv_at hl 3 rfl) ?_
      refine lv_aload_n hx hb dX1_take_12 rfl (lv_at hl 0 rfl) ?_
      refine zx_get1 (v := .ref (mo 1)) hx hb hts hown hK hP 0 rfl 4 (by decide) zf_X1_16 rfl dX1_take_13 ?_
      refine lv_bipush (v := nI 32) hx hb dX1_take_16 (by decide) ?_
      refine lv_iload_n hx hb dX1_take_18 rfl (lv_at hl 1 rfl) ?_
      refine zr_imul hx hb dX1_take_19 ?_
      refine lv_iload_n hx hb dX1_take_20 rfl (lv_at hl 3 rfl) ?_
      refine zr_iadd hx hb dX1_take_21 ?_
      refine zr_iald (y := F ((32 * x1) + i)) hx hb hK hP 1 0 rfl rfl (by omega) (by decide) rfl dX1_take_22 ?_
      refine zr_iast (ws' := (zm_w cA mo th k (zk_n k) (zk_t k) F (zq_up G1 i (F ((32 * x1) + i))) fb fc fd ++ wr)) hx hb hK hP hD hS 2 0 rfl rfl (by omega) (by decide) dX1_take_23 rfl (fun H locs hP hD hS => ?_)
      refine zr_iinc (k := 3) (lv' := [(3, .int (nI (i + 1))), (0, .ref (mo 0)), (1, .int (nI (x1))), (2, .ref (mo 2))]) hx hb dX1_take_24 hl rfl (by decide) rfl (fun ls hl => ?_)
      refine lv_goto (tgt := 2) hx hb dX1_take_27 (by decide) ?_
      refine ih (i + 1) (by omega) _ (fun j hj => ?_) H locs hP hD hS ls (lv_sub hl [1, 2, 3, 0] rfl)
      by_cases e9 : j = i
      · rw [e9, zq_up_s]
      · rw [zq_up_n _ _ e9]; exact hinv j (by omega)
  exact loop (zk_n k) 0 (by omega) fa (fun j hj => absurd hj (Nat.not_lt_zero _)) s.heap [] hP hD hS ls (lv_sub hl [1, 2, 3, 0] rfl)
set_option maxHeartbeats 4000000 in
set_option maxRecDepth 100000 in
/-- take(r, to) -/
theorem cm_take3 (l : Launch) (dC : Nat → ClassId) (dI : Nat → Nat → Nat) (cA : ClassId) (tr : List (ClassId × FieldType)) (wr : va_W) (mo : Nat → Nat) (th k : Nat) (F fa fb fc fd : Nat → Nat) (hk : k < 4) (sz : Nat) (x1 : Nat) (hx1 : x1 < 16) : Met l yX1_take wzX1_take (k2_rm 0 0) (zw_pre (dC, dI) zz_cl ((cA, .int) :: tr) (zm_w cA mo th k (zk_n k) (zk_t k) F fa fb fc fd ++ wr) sz [.ref (mo 0), .int (nI (x1)), .ref (mo 3)]) (va_Qv (fun u : Nat → Nat => ∀ j, j < zk_n k → u j = F (32 * x1 + j)) (zw_at (dC, dI) zz_cl ((cA, .int) :: tr) (va_A (zm_w cA mo th k (zk_n k) (zk_t k) F fa fb fc fd ++ wr) sz) (fun u : Nat → Nat => zm_w cA mo th k (zk_n k) (zk_t k) F fa u fc fd ++ wr)) (va_A (zm_w cA mo th k (zk_n k) (zk_t k) F fa fb fc fd ++ wr) sz)) 0 0 (va_A (zm_w cA mo th k (zk_n k) (zk_t k) F fa fb fc fd ++ wr) sz) := by
  refine Met.ofW (cc := cX1_take) (maxL := 4) (ret := none) (by decide) rfl ?_
  intro p e s m args below meth c s₁ B hml hv
  obtain ⟨rfl, hsz, hP, hK, hD0⟩ := hv
  have hx := B.exec
  have hb := B.bytes
  have hr := B.returns
  have hts := atoms_spec (ws := wzX1_take) B.pre
  have hown : s.vm.findClass RX1 = some m.cls := findClass_of_methodNamed B.named
  have hlocks := B.notSynchronized
  subst hsz
  have hD := hD0.self (sz := s.heap.size)
  generalize hAe : va_A (zm_w cA mo th k (zk_n k) (zk_t k) F fa fb fc fd ++ wr) s.heap.size = A at hD ⊢
  have hA : ∀ q : Nat, s.heap.size ≤ q → A q := fun q h => by rw [← hAe]; exact Or.inr h
  have hS : va_S A s.heap s.heap [] := va_S.rf
  have hl := lv_entry ([.ref (mo 0), .int (nI (x1)), .ref (mo 3)]) (n := 4) (Nat.le_of_ble_eq_true rfl)
  rw [lg_entry_eq]
  generalize (lg_sl ([.ref (mo 0), .int (nI (x1)), .ref (mo 3)]) ++ List.replicate (4 - (lg_sl ([.ref (mo 0), .int (nI (x1)), .ref (mo 3)])).length) Slot.unset).toArray = ls at hl ⊢
  have hl : lv_has ls 4 [(0, .ref (mo 0)), (1, .int (nI (x1))), (2, .ref (mo 3))] := hl
  obtain ⟨hb1, hb2, hb3, hb4, hb5, hb6, hb7, hb8⟩ := zk_b k hk
  refine lv_iconst (v := nI 0) hx hb dX1_take_0 (by decide) ?_
  refine lv_istore_n (lv' := [(3, .int (nI (0))), (0, .ref (mo 0)), (1, .int (nI (x1))), (2, .ref (mo 3))]) hx hb dX1_take_1 rfl hl (by decide) rfl (fun ls hl => ?_)
  have loop : ∀ (d i : Nat), i + d = zk_n k → ∀ (G1 : Nat → Nat), (∀ j, j < i → G1 j = F (32 * x1 + j)) → ∀ (H : Heap) (locs : List Loc), va_P (dC, dI) zz_cl (zm_w cA mo th k (zk_n k) (zk_t k) F fa G1 fc fd ++ wr) H → va_D A (zm_w cA mo th k (zk_n k) (zk_t k) F fa G1 fc fd ++ wr) → va_S A s.heap H locs → ∀ ls, lv_has ls 4 [(0, .ref (mo 0)), (1, .int (nI (x1))), (2, .ref (mo 3)), (3, .int (nI (i)))] → W p l e (headSpec wzX1_take (k2_rm 0 0)).room s m ([.ref (mo 0), .int (nI (x1)), .ref (mo 3)] : List Value).toArray below meth c H locs 0 0 (MQ below (va_Qv (fun u : Nat → Nat => ∀ j, j < zk_n k → u j = F (32 * x1 + j)) (zw_at (dC, dI) zz_cl ((cA, .int) :: tr) A (fun u : Nat → Nat => zm_w cA mo th k (zk_n k) (zk_t k) F fa u fc fd ++ wr)) A) ([.ref (mo 0), .int (nI (x1)), .ref (mo 3)] : List Value).toArray s 0 0 A) (F0 m 2 ls []) := by
    intro d
    induction d with
    | zero =>
      intro i hi G1 hinv H locs hP hD hS ls hl
      have hi : i = zk_n k := by omega
      rw [hi] at hinv
      refine lv_iload_n hx hb dX1_take_2 rfl (lv_at hl 3 rfl) ?_
      refine lv_aload_n hx hb dX1_take_3 rfl (lv_at hl 0 rfl) ?_
      refine zx_get1 (v := .int (nI (zk_n k))) hx hb hts hown hK hP 0 rfl 2 (by decide) zf_X1_7 rfl dX1_take_4 ?_
      refine zr_ige (tgt := 30) hx hb dX1_take_7 (by decide) (by omega) (by omega) (fun _ => ?_) (fun hno9 => absurd hno9 (by omega))
      exact W.vret hx hb hr (fun t9 h9 hW9 => ⟨⟨G1, rfl, hinv, by rw [h9]; exact hP, va_K.moved hW9.alike hK, hD⟩, hS.F h9⟩) hS.2.2 dX1_take_30
    | succ d ih =>
      intro i hi G1 hinv H locs hP hD hS ls hl
      refine lv_iload_n hx hb dX1_take_2 rfl (lv_at hl 3 rfl) ?_
      refine lv_aload_n hx hb dX1_take_3 rfl (lv_at hl 0 rfl) ?_
      refine zx_get1 (v := .int (nI (zk_n k))) hx hb hts hown hK hP 0 rfl 2 (by decide) zf_X1_7 rfl dX1_take_4 ?_
      refine zr_ige (tgt := 30) hx hb dX1_take_7 (by decide) (by omega) (by omega) (fun hno9 => absurd hno9 (by omega)) (fun _ => ?_)
      refine lv_aload_n hx hb dX1_take_10 rfl (lv_at hl 2 rfl) ?_
      refine lv_iload_n hx hb dX1_take_11 rfl (lv_at hl 3 rfl) ?_
      refine lv_aload_n hx hb dX1_take_12 rfl (lv_at hl 0 rfl) ?_
      refine zx_get1 (v := .ref (mo 1)) hx hb hts hown hK hP 0 rfl 4 (by decide) zf_X1_16 rfl dX1_take_13 ?_
      refine lv_bipush (v := nI 32) hx hb dX1_take_16 (by decide) ?_
      refine lv_iload_n hx hb dX1_take_18 rfl (lv_at hl 1 rfl) ?_
      refine zr_imul hx hb dX1_take_19 ?_
      refine lv_iload_n hx hb dX1_take_20 rfl (lv_at hl 3 rfl) ?_
      refine zr_iadd hx hb dX1_take_21 ?_
      refine zr_iald (y := F ((32 * x1) + i)) hx hb hK hP 1 0 rfl rfl (by omega) (by decide) rfl dX1_take_22 ?_
      refine zr_iast (ws' := (zm_w cA mo th k (zk_n k) (zk_t k) F fa (zq_up G1 i (F ((32 * x1) + i))) fc fd ++ wr)) hx hb hK hP hD hS 3 0 rfl rfl (by omega) (by decide) dX1_take_23 rfl (fun H locs hP hD hS => ?_)
      refine zr_iinc (k := 3) (lv' := [(3, .int (nI (i + 1))), (0, .ref (mo 0)), (1, .int (nI (x1))), (2, .ref (mo 3))]) hx hb dX1_take_24 hl rfl (by decide) rfl (fun ls hl => ?_)
      refine lv_goto (tgt := 2) hx hb dX1_take_27 (by decide) ?_
      refine ih (i + 1) (by omega) _ (fun j hj => ?_) H locs hP hD hS ls (lv_sub hl [1, 2, 3, 0] rfl)
      by_cases e9 : j = i
      · rw [e9, zq_up_s]
      · rw [zq_up_n _ _ e9]; exact hinv j (by omega)
  exact loop (zk_n k) 0 (by omega) fb (fun j hj => absurd hj (Nat.not_lt_zero _)) s.heap [] hP hD hS ls (lv_sub hl [1, 2, 3, 0] rfl)
set_option maxHeartbeats 4000000 in
set_option maxRecDepth 100000 in
/-- put(r, from) -/
theorem cm_put2 (l : Launch) (dC : Nat → ClassId) (dI : Nat → Nat → Nat) (cA : ClassId) (tr : List (ClassId × FieldType)) (wr : va_W) (mo : Nat → Nat) (th k : Nat) (F fa fb fc fd : Nat → Nat) (hk : k < 4) (sz : Nat) (x1 : Nat) (hx1 : x1 < 16) : Met l yX1_put wzX1_put (k2_rm 0 0) (zw_pre (dC, dI) zz_cl ((cA, .int) :: tr) (zm_w cA mo th k (zk_n k) (zk_t k) F fa fb fc fd ++ wr) sz [.ref (mo 0), .int (nI (x1)), .ref (mo 2)]) (va_Qv (fun u : Nat → Nat => (∀ j, j < zk_n k → u (32 * x1 + j) = fa j) ∧ ∀ j, j < 32 * x1 ∨ 32 * x1 + zk_n k ≤ j → u j = F j) (zw_at (dC, dI) zz_cl ((cA, .int) :: tr) (va_A (zm_w cA mo th k (zk_n k) (zk_t k) F fa fb fc fd ++ wr) sz) (fun u : Nat → Nat => zm_w cA mo th k (zk_n k) (zk_t k) u fa fb fc fd ++ wr)) (va_A (zm_w cA mo th k (zk_n k) (zk_t k) F fa fb fc fd ++ wr) sz)) 0 0 (va_A (zm_w cA mo th k (zk_n k) (zk_t k) F fa fb fc fd ++ wr) sz) := by
  refine Met.ofW (cc := cX1_put) (maxL := 4) (ret := none) (by decide) rfl ?_
  intro p e s m args below meth c s₁ B hml hv
  obtain ⟨rfl, hsz, hP, hK, hD0⟩ := hv
  have hx := B.exec
  have hb := B.bytes
  have hr := B.returns
  have hts := atoms_spec (ws := wzX1_put) B.pre
  have hown : s.vm.findClass RX1 = some m.cls := findClass_of_methodNamed B.named
  have hlocks := B.notSynchronized
  subst hsz
  have hD := hD0.self (sz := s.heap.size)
  generalize hAe : va_A (zm_w cA mo th k (zk_n k) (zk_t k) F fa fb fc fd ++ wr) s.heap.size = A at hD ⊢
  have hA : ∀ q : Nat, s.heap.size ≤ q → A q := fun q h => by rw [← hAe]; exact Or.inr h
  have hS : va_S A s.heap s.heap [] := va_S.rf
  have hl := lv_entry ([.ref (mo 0), .int (nI (x1)), .ref (mo 2)]) (n := 4) (Nat.le_of_ble_eq_true rfl)
  rw [lg_entry_eq]
  generalize (lg_sl ([.ref (mo 0), .int (nI (x1)), .ref (mo 2)]) ++ List.replicate (4 - (lg_sl ([.ref (mo 0), .int (nI (x1)), .ref (mo 2)])).length) Slot.unset).toArray = ls at hl ⊢
  have hl : lv_has ls 4 [(0, .ref (mo 0)), (1, .int (nI (x1))), (2, .ref (mo 2))] := hl
  obtain ⟨hb1, hb2, hb3, hb4, hb5, hb6, hb7, hb8⟩ := zk_b k hk
  refine lv_iconst (v := nI 0) hx hb dX1_put_0 (by decide) ?_
  refine lv_istore_n (lv' := [(3, .int (nI (0))), (0, .ref (mo 0)), (1, .int (nI (x1))), (2, .ref (mo 2))]) hx hb dX1_put_1 rfl hl (by decide) rfl (fun ls hl => ?_)
  have loop : ∀ (d i : Nat), i + d = zk_n k → ∀ (G1 : Nat → Nat), ((∀ j, j < i → G1 (32 * x1 + j) = fa j) ∧ ∀ j, j < 32 * x1 ∨ 32 * x1 + i ≤ j → G1 j = F j) → ∀ (H : Heap) (locs : List Loc), va_P (dC, dI) zz_cl (zm_w cA mo th k (zk_n k) (zk_t k) G1 fa fb fc fd ++ wr) H → va_D A (zm_w cA mo th k (zk_n k) (zk_t k) G1 fa fb fc fd ++ wr) → va_S A s.heap H locs → ∀ ls, lv_has ls 4 [(0, .ref (mo 0)), (1, .int (nI (x1))), (2, .ref (mo 2)), (3, .int (nI (i)))] → W p l e (headSpec wzX1_put (k2_rm 0 0)).room s m ([.ref (mo 0), .int (nI (x1)), .ref (mo 2)] : List Value).toArray below meth c H locs 0 0 (MQ below (va_Qv (fun u : Nat → Nat => (∀ j, j < zk_n k → u (32 * x1 + j) = fa j) ∧ ∀ j, j < 32 * x1 ∨ 32 * x1 + zk_n k ≤ j → u j = F j) (zw_at (dC, dI) zz_cl ((cA, .int) :: tr) A (fun u : Nat → Nat => zm_w cA mo th k (zk_n k) (zk_t k) u fa fb fc fd ++ wr)) A) ([.ref (mo 0), .int (nI (x1)), .ref (mo 2)] : List Value).toArray s 0 0 A) (F0 m 2 ls []) := by
    intro d
    induction d with
    | zero =>
      intro i hi G1 hinv H locs hP hD hS ls hl
      have hi : i = zk_n k := by omega
      rw [hi] at hinv
      refine lv_iload_n hx hb dX1_put_2 rfl (lv_at hl 3 rfl) ?_
      refine lv_aload_n hx hb dX1_put_3 rfl (lv_at hl 0 rfl) ?_
      refine zx_get1 (v := .int (nI (zk_n k))) hx hb hts hown hK hP 0 rfl 2 (by decide) zf_X1_7 rfl dX1_put_4 ?_
      refine zr_ige (tgt := 30) hx hb dX1_put_7 (by decide) (by omega) (by omega) (fun _ => ?_) (fun hno9 => absurd hno9 (by omega))
      exact W.vret hx hb hr (fun t9 h9 hW9 => ⟨⟨G1, rfl, hinv, by rw [h9]; exact hP, va_K.moved hW9.alike hK, hD⟩, hS.F h9⟩) hS.2.2 dX1_put_30
    | succ d ih =>
      intro i hi G1 hinv H locs hP hD hS ls hl
      refine lv_iload_n hx hb dX1_put_2 rfl (lv_at hl 3 rfl) ?_
      refine lv_aload_n hx hb dX1_put_3 rfl (lv_at hl 0 rfl) ?_
      refine zx_get1 (v := .int (nI (zk_n k))) hx hb hts hown hK hP 0 rfl 2 (by decide) zf_X1_7 rfl dX1_put_4 ?_
      refine zr_ige (tgt := 30) hx hb dX1_put_7 (by decide) (by omega) (by omega) (fun hno9 => absurd hno9 (by omega)) (fun _ => ?_)
      refine lv_aload_n hx hb dX1_put_10 rfl (lv_at hl 0 rfl) ?_
      refine zx_get1 (v := .ref (mo 1)) hx hb hts hown hK hP 0 rfl 4 (by decide) zf_X1_16 rfl dX1_put_11 ?_
      refine lv_bipush (v := nI 32) hx hb dX1_put_14 (by decide) ?_
      refine lv_iload_n hx hb dX1_put_16 rfl (lv_at hl 1 rfl) ?_
      refine zr_imul hx hb dX1_put_17 ?_
      refine lv_iload_n hx hb dX1_put_18 rfl (lv_at hl 3 rfl) ?_
      refine zr_iadd hx hb dX1_put_19 ?_
      refine lv_aload_n hx hb dX1_put_20 rfl (lv_at hl 2 rfl) ?_
      refine lv_iload_n hx hb dX1_put_21 rfl (lv_at hl 3 rfl) ?_
      refine zr_iald (y := fa i) hx hb hK hP 2 0 rfl rfl (by omega) (by decide) rfl dX1_put_22 ?_
      refine zr_iast (ws' := (zm_w cA mo th k (zk_n k) (zk_t k) (zq_up G1 ((32 * x1) + i) (fa i)) fa fb fc fd ++ wr)) hx hb hK hP hD hS 1 0 rfl rfl (by omega) (by decide) dX1_put_23 rfl (fun H locs hP hD hS => ?_)
      refine zr_iinc (k := 3) (lv' := [(3, .int (nI (i + 1))), (0, .ref (mo 0)), (1, .int (nI (x1))), (2, .ref (mo 2))]) hx hb dX1_put_24 hl rfl (by decide) rfl (fun ls hl => ?_)
      refine lv_goto (tgt := 2) hx hb dX1_put_27 (by decide) ?_
      refine ih (i + 1) (by omega) _ ⟨fun j hj => ?_, fun j hj => ?_⟩ H locs hP hD hS ls (lv_sub hl [1, 2, 3, 0] rfl)
      · by_cases e9 : j = i
        · rw [e9, zq_up_s]
        · rw [zq_up_n _ _ (by omega)]; exact hinv.1 j (by omega)
      · rw [zq_up_n _ _ (by omega)]; exact hinv.2 j (by omega)
  exact loop (zk_n k) 0 (by omega) F ⟨fun j hj => absurd hj (Nat.not_lt_zero _), fun _ _ => rfl⟩ s.heap [] hP hD hS ls (lv_sub hl [1, 2, 3, 0] rfl)
set_option maxHeartbeats 4000000 in
set_option maxRecDepth 100000 in
/-- put(r, from) -/
theorem cm_put3 (l : Launch) (dC : Nat → ClassId) (dI : Nat → Nat → Nat) (cA : ClassId) (tr : List (ClassId × FieldType)) (wr : va_W) (mo : Nat → Nat) (th k : Nat) (F fa fb fc fd : Nat → Nat) (hk : k < 4) (sz : Nat) (x1 : Nat) (hx1 : x1 < 16) : Met l yX1_put wzX1_put (k2_rm 0 0) (zw_pre (dC, dI) zz_cl ((cA, .int) :: tr) (zm_w cA mo th k (zk_n k) (zk_t k) F fa fb fc fd ++ wr) sz [.ref (mo 0), .int (nI (x1)), .ref (mo 3)]) (va_Qv (fun u : Nat → Nat => (∀ j, j < zk_n k → u (32 * x1 + j) = fb j) ∧ ∀ j, j < 32 * x1 ∨ 32 * x1 + zk_n k ≤ j → u j = F j) (zw_at (dC, dI) zz_cl ((cA, .int) :: tr) (va_A (zm_w cA mo th k (zk_n k) (zk_t k) F fa fb fc fd ++ wr) sz) (fun u : Nat → Nat => zm_w cA mo th k (zk_n k) (zk_t k) u fa fb fc fd ++ wr)) (va_A (zm_w cA mo th k (zk_n k) (zk_t k) F fa fb fc fd ++ wr) sz)) 0 0 (va_A (zm_w cA mo th k (zk_n k) (zk_t k) F fa fb fc fd ++ wr) sz) := by
  refine Met.ofW (cc := cX1_put) (maxL := 4) (ret := none) (by decide) rfl ?_
  intro p e s m args below meth c s₁ B hml hv
  obtain ⟨rfl, hsz, hP, hK, hD0⟩ := hv
  have hx := B.exec
  have hb := B.bytes
  have hr := B.returns
  have hts := atoms_spec (ws := wzX1_put) B.pre
  have hown : s.vm.findClass RX1 = some m.cls := findClass_of_methodNamed B.named
  have hlocks := B.notSynchronized
  subst hsz
  have hD := hD0.self (sz := s.heap.size)
  generalize hAe : va_A (zm_w cA mo th k (zk_n k) (zk_t k) F fa fb fc fd ++ wr) s.heap.size = A at hD ⊢
  have hA : ∀ q : Nat, s.heap.size ≤ q → A q := fun q h => by rw [← hAe]; exact Or.inr h
  have hS : va_S A s.heap s.heap [] := va_S.rf
  have hl := lv_entry ([.ref (mo 0), .int (nI (x1)), .ref (mo 3)]) (n := 4) (Nat.le_of_ble_eq_true rfl)
  rw [lg_entry_eq]
  generalize (lg_sl ([.ref (mo 0), .int (nI (x1)), .ref (mo 3)]) ++ List.replicate (4 - (lg_sl ([.ref (mo 0), .int (nI (x1)), .ref (mo 3)])).length) Slot.unset).toArray = ls at hl ⊢
  have hl : lv_has ls 4 [(0, .ref (mo 0)), (1, .int (nI (x1))), (2, .ref (mo 3))] := hl
  obtain ⟨hb1, hb2, hb3, hb4, hb5, hb6, hb7, hb8⟩ := zk_b k hk
  refine lv_iconst (v := nI 0) hx hb dX1_put_0 (by decide) ?_
  refine lv_istore_n (lv' := [(3, .int (nI (0))), (0, .ref (mo 0)), (1, .int (nI (x1))), (2, .ref (mo 3))]) hx hb dX1_put_1 rfl hl (by decide) rfl (fun ls hl => ?_)
  have loop : ∀ (d i : Nat), i + d = zk_n k → ∀ (G1 : Nat → Nat), ((∀ j, j < i → G1 (32 * x1 + j) = fb j) ∧ ∀ j, j < 32 * x1 ∨ 32 * x1 + i ≤ j → G1 j = F j) → ∀ (H : Heap) (locs : List Loc), va_P (dC, dI) zz_cl (zm_w cA mo th k (zk_n k) (zk_t k) G1 fa fb fc fd ++ wr) H → va_D A (zm_w cA mo th k (zk_n k) (zk_t k) G1 fa fb fc fd ++ wr) → va_S A s.heap H locs → ∀ ls, lv_has ls 4 [(0, .ref (mo 0)), (1, .int (nI (x1))), (2, .ref (mo 3)), (3, .int (nI (i)))] → W p l e (headSpec wzX1_put (k2_rm 0 0)).room s m ([.ref (mo 0), .int (nI (x1)), .ref (mo 3)] : List Value).toArray below meth c H locs 0 0 (MQ below (va_Qv (fun u : Nat → Nat => (∀ j, j < zk_n k → u (32 * x1 + j) = fb j) ∧ ∀ j, j < 32 * x1 ∨ 32 * x1 + zk_n k ≤ j → u j = F j) (zw_at (dC, dI) zz_cl ((cA, .int) :: tr) A (fun u : Nat → Nat => zm_w cA mo th k (zk_n k) (zk_t k) u fa fb fc fd ++ wr)) A) ([.ref (mo 0), .int (nI (x1)), .ref (mo 3)] : List Value).toArray s 0 0 A) (F0 m 2 ls []) := by
    intro d
    induction d with
    | zero =>
      intro i hi G1 hinv H locs hP hD hS ls hl
      have hi : i = zk_n k := by omega
      rw [hi] at hinv
      refine lv_iload_n hx hb dX1_put_2 rfl (lv_at hl 3 rfl) ?_
      refine lv_aload_n hx hb dX1_put_3 rfl (lv_at hl 0 rfl) ?_
      refine zx_get1 (v := .int (nI (zk_n k))) hx hb hts hown hK hP 0 rfl 2 (by decide) zf_X1_7 rfl dX1_put_4 ?_
      refine zr_ige (tgt := 30) hx hb dX1_put_7 (by decide) (by omega) (by omega) (fun _ => ?_) (fun hno9 => absurd hno9 (by omega))
      exact W.vret hx hb hr (fun t9 h9 hW9 => ⟨⟨G1, rfl, hinv, by rw [h9]; exact hP, va_K.moved hW9.alike hK, hD⟩, hS.F h9⟩) hS.2.2 dX1_put_30
    | succ d ih =>
      intro i hi G1 hinv H locs hP hD hS ls hl
      refine lv_iload_n hx hb dX1_put_2 rfl (lv_at hl 3 rfl) ?_
      refine lv_aload_n hx hb dX1_put_3 rfl (lv_at hl 0 rfl) ?_
      refine zx_get1 (v := .int (nI (zk_n k))) hx hb hts hown hK hP 0 rfl 2 (by decide) zf_X1_7 rfl dX1_put_4 ?_
      refine zr_ige (tgt := 30) hx hb dX1_put_7 (by decide) (by omega) (by omega) (fun hno9 => absurd hno9 (by omega)) (fun _ => ?_)
      refine lv_aload_n hx hb dX1_put_10 rfl (lv_at hl 0 rfl) ?_
      refine zx_get1 (v := .ref (mo 1)) hx hb hts hown hK hP 0 rfl 4 (by decide) zf_X1_16 rfl dX1_put_11 ?_
      refine lv_bipush (v := nI 32) hx hb dX1_put_14 (by decide) ?_
      refine lv_iload_n hx hb dX1_put_16 rfl (lv_at hl 1 rfl) ?_
      refine zr_imul hx hb dX1_put_17 ?_
      refine lv_iload_n hx hb dX1_put_18 rfl (lv_at hl 3 rfl) ?_
      refine zr_iadd hx hb dX1_put_19 ?_
      refine lv_aload_n hx hb dX1_put_20 rfl (lv_at hl 2 rfl) ?_
      refine lv_iload_n hx hb dX1_put_21 rfl (lv_at hl 3 rfl) ?_
      refine zr_iald (y := fb i) hx hb hK hP 3 0 rfl rfl (by omega) (by decide) rfl dX1_put_22 ?_
      refine zr_iast (ws' := (zm_w cA mo th k (zk_n k) (zk_t k) (zq_up G1 ((32 * x1) + i) (fb i)) fa fb fc fd ++ wr)) hx hb hK hP hD hS 1 0 rfl rfl (by omega) (by decide) dX1_put_23 rfl (fun H locs hP hD hS => ?_)
      refine zr_iinc (k := 3) (lv' := [(3, .int (nI (i + 1))), (0, .ref (mo 0)), (1, .int (nI (x1))), (2, .ref (mo 3))]) hx hb dX1_put_24 hl rfl (by decide) rfl (fun ls hl => ?_)
      refine lv_goto (tgt := 2) hx hb dX1_put_27 (by decide) ?_
      refine ih (i + 1) (by omega) _ ⟨fun j hj => ?_, fun j hj => ?_⟩ H locs hP hD hS ls (lv_sub hl [1, 2, 3, 0] rfl)
      · by_cases e9 : j = i
        · rw [e9, zq_up_s]
        · rw [zq_up_n _ _ (by omega)]; exact hinv.1 j (by omega)
      · rw [zq_up_n _ _ (by omega)]; exact hinv.2 j (by omega)
  exact loop (zk_n k) 0 (by omega) F ⟨fun j hj => absurd hj (Nat.not_lt_zero _), fun _ _ => rfl⟩ s.heap [] hP hD hS ls (lv_sub hl [1, 2, 3, 0] rfl)
set_option maxHeartbeats 4000000 in
set_option maxRecDepth 100000 in
/-- put(r, from) -/
theorem cm_put4 (l : Launch) (dC : Nat → ClassId) (dI : Nat → Nat → Nat) (cA : ClassId) (tr : List (ClassId × FieldType)) (wr : va_W) (mo : Nat → Nat) (th k : Nat) (F fa fb fc fd : Nat → Nat) (hk : k < 4) (sz : Nat) (x1 : Nat) (hx1 : x1 < 16) : Met l yX1_put wzX1_put (k2_rm 0 0) (zw_pre (dC, dI) zz_cl ((cA, .int) :: tr) (zm_w cA mo th k (zk_n k) (zk_t k) F fa fb fc fd ++ wr) sz [.ref (mo 0), .int (nI (x1)), .ref (mo 4)]) (va_Qv (fun u : Nat → Nat => (∀ j, j < zk_n k → u (32 * x1 + j) = fc j) ∧ ∀ j, j < 32 * x1 ∨ 32 * x1 + zk_n k ≤ j → u j = F j) (zw_at (dC, dI) zz_cl ((cA, .int) :: tr) (va_A (zm_w cA mo th k (zk_n k) (zk_t k) F fa fb fc fd ++ wr) sz) (fun u : Nat → Nat => zm_w cA mo th k (zk_n k) (zk_t k) u fa fb fc fd ++ wr)) (va_A (zm_w cA mo th k (zk_n k) (zk_t k) F fa fb fc fd ++ wr) sz)) 0 0 (va_A (zm_w cA mo th k (zk_n k) (zk_t k) F fa fb fc fd ++ wr) sz) := by
  refine Met.ofW (cc := cX1_put) (maxL := 4) (ret := none) (by decide) rfl ?_
  intro p e s m args below meth c s₁ B hml hv
  obtain ⟨rfl, hsz, hP, hK, hD0⟩ := hv
  have hx := B.exec
  have hb := B.bytes
  have hr := B.returns
  have hts := atoms_spec (ws := wzX1_put) B.pre
  have hown : s.vm.findClass RX1 = some m.cls := findClass_of_methodNamed B.named
  have hlocks := B.notSynchronized
  subst hsz
  have hD := hD0.self (sz := s.heap.size)
  generalize hAe : va_A (zm_w cA mo th k (zk_n k) (zk_t k) F fa fb fc fd ++ wr) s.heap.size = A at hD ⊢
  have hA : ∀ q : Nat, s.heap.size ≤ q → A q := fun q h => by rw [← hAe]; exact Or.inr h
  have hS : va_S A s.heap s.heap [] := va_S.rf
  have hl := lv_entry ([.ref (mo 0), .int (nI (x1)), .ref (mo 4)]) (n := 4) (Nat.le_of_ble_eq_true rfl)
  rw [lg_entry_eq]
  generalize (lg_sl ([.ref (mo 0), .int (nI (x1)), .ref (mo 4)]) ++ List.replicate (4 - (lg_sl ([.ref (mo 0), .int (nI (x1)), .ref (mo 4)])).length) Slot.unset).toArray = ls at hl ⊢
  have hl : lv_has ls 4 [(0, .ref (mo 0)), (1, .int (nI (x1))), (2, .ref (mo 4))] := hl
  obtain ⟨hb1, hb2, hb3, hb4, hb5, hb6, hb7, hb8⟩ := zk_b k hk
  refine lv_iconst (v := nI 0) hx hb dX1_put_0 (by decide) ?_
  refine lv_istore_n (lv' := [(3, .int (nI (0))), (0, .ref (mo 0)), (1, .int (nI (x1))), (2, .ref (mo 4))]) hx hb dX1_put_1 rfl hl (by decide) rfl (fun ls hl => ?_)
  have loop : ∀ (d i : Nat), i + d = zk_n k → ∀ (G1 : Nat → Nat), ((∀ j, j < i → G1 (32 * x1 + j) = fc j) ∧ ∀ j, j < 32 * x1 ∨ 32 * x1 + i ≤ j → G1 j = F j) → ∀ (H : Heap) (locs : List Loc), va_P (dC, dI) zz_cl (zm_w cA mo th k (zk_n k) (zk_t k) G1 fa fb fc fd ++ wr) H → va_D A (zm_w cA mo th k (zk_n k) (zk_t k) G1 fa fb fc fd ++ wr) → va_S A s.heap H locs → ∀ ls, lv_has ls 4 [(0, .ref (mo 0)), (1, .int (nI (x1))), (2, .ref (mo 4)), (3, .int (nI (i)))] → W p l e (headSpec wzX1_put (k2_rm 0 0)).room s m ([.ref (mo 0), .int (nI (x1)), .ref (mo 4)] : List Value).toArray below meth c H locs 0 0 (MQ below (va_Qv (fun u : Nat → Nat => (∀ j, j < zk_n k → u (32 * x1 + j) = fc j) ∧ ∀ j, j < 32 * x1 ∨ 32 * x1 + zk_n k ≤ j → u j = F j) (zw_at (dC, dI) zz_cl ((cA, .int) :: tr) A (fun u : Nat → Nat => zm_w cA mo th k (zk_n k) (zk_t k) u fa fb fc fd ++ wr)) A) ([.ref (mo 0), .int (nI (x1)), .ref (mo 4)] : List Value).toArray s 0 0 A) (F0 m 2 ls []) := by
    intro d
    induction d with
    | zero =>
      intro i hi G1 hinv H locs hP hD hS ls hl
      have hi : i = zk_n k := by omega
      rw [hi] at hinv
      refine lv_iload_n hx hb dX1_put_2 rfl (lv_at hl 3 rfl) ?_
      refine lv_aload_n hx hb dX1_put_3 rfl (lv_at hl 0 rfl) ?_
      refine zx_get1 (v := .int (nI (zk_n k))) hx hb hts hown hK hP 0 rfl 2 (by decide) zf_X1_7 rfl dX1_put_4 ?_
      refine zr_ige (tgt := 30) hx hb dX1_put_7 (by decide) (by omega) (by omega) (fun _ => ?_) (fun hno9 => absurd hno9 (by omega))
      exact W.vret hx hb hr (fun t9 h9 hW9 => ⟨⟨G1, rfl, hinv, by rw [h9]; exact hP, va_K.moved hW9.alike hK, hD⟩, hS.F h9⟩) hS.2.2 dX1_put_30
    | succ d ih =>
      intro i hi G1 hinv H locs hP hD hS ls hl
      refine lv_iload_n hx hb dX1_put_2 rfl (lv_at hl 3 rfl) ?_
      refine lv_aload_n hx hb dX1_put_3 rfl (lv_at hl 0 rfl) ?_
      refine zx_get1 (v := .int (nI (zk_n k))) hx hb hts hown hK hP 0 rfl 2 (by decide) zf_X1_7 rfl dX1_put_4 ?_
      refine zr_ige (tgt := 30) hx hb dX1_put_7 (by decide) (by omega) (by omega) (fun hno9 => absurd hno9 (by omega)) (fun _ => ?_)
      refine lv_aload_n hx hb dX1_put_10 rfl (lv_at hl 0 rfl) ?_
      refine zx_get1 (v := .ref (mo 1)) hx hb hts hown hK hP 0 rfl 4 (by decide) zf_X1_16 rfl dX1_put_11 ?_
      refine lv_bipush (v := nI 32) hx hb dX1_put_14 (by decide) ?_
      refine lv_iload_n hx hb dX1_put_16 rfl (lv_at hl 1 rfl) ?_
      refine zr_imul hx hb dX1_put_17 ?_
      refine lv_iload_n hx hb dX1_put_18 rfl (lv_at hl 3 rfl) ?_
      refine zr_iadd hx hb dX1_put_19 ?_
      refine lv_aload_n hx hb dX1_put_20 rfl (lv_at hl 2 rfl) ?_
      refine lv_iload_n hx hb dX1_put_21 rfl (lv_at hl 3 rfl) ?_
      refine zr_iald (y := fc i) hx hb hK hP 4 0 rfl rfl (by omega) (by decide) rfl dX1_put_22 ?_
      refine zr_iast (ws' := (zm_w cA mo th k (zk_n k) (zk_t k) (zq_up G1 ((32 * x1) + i) (fc i)) fa fb fc fd ++ wr)) hx hb hK hP hD hS 1 0 rfl rfl (by omega) (by decide) dX1_put_23 rfl (fun H locs hP hD hS => ?_)
      refine zr_iinc (k := 3) (lv' := [(3, .int (nI (i + 1))), (0, .ref (mo 0)), (1, .int (nI (x1))), (2, .ref (mo 4))]) hx hb dX1_put_24 hl rfl (by decide) rfl (fun ls hl => ?_)
      refine lv_goto (tgt := 2) hx hb dX1_put_27 (by decide) ?_
      refine ih (i + 1) (by omega) _ ⟨fun j hj => ?_, fun j hj => ?_⟩ H locs hP hD hS ls (lv_sub hl [1, 2, 3, 0] rfl)
      · by_cases e9 : j = i
        · rw [e9, zq_up_s]
        · rw [zq_up_n _ _ (by omega)]; exact hinv.1 j (by omega)
      · rw [zq_up_n _ _ (by omega)]; exact hinv.2 j (by omega)
  exact loop (zk_n k) 0 (by omega) F ⟨fun j hj => absurd hj (Nat.not_lt_zero _), fun _ _ => rfl⟩ s.heap [] hP hD hS ls (lv_sub hl [1, 2, 3, 0] rfl)
set_option maxHeartbeats 4000000 in
set_option maxRecDepth 100000 in
/-- add(f, i, much) -/
theorem cm_add2 (l : Launch) (dC : Nat → ClassId) (dI : Nat → Nat → Nat) (cA : ClassId) (tr : List (ClassId × FieldType)) (wr : va_W) (mo : Nat → Nat) (th k : Nat) (F fa fb fc fd : Nat → Nat) (hk : k < 4) (sz : Nat) (i0 y : Nat) (hi0 : i0 < zk_n k) (hy : y < zk_t k) (hG : ∀ j, j < zk_n k → fa j < zk_t k) : Met l yX1_add wzX1_add (k2_rm 2 45) (zw_pre (dC, dI) zz_cl ((cA, .int) :: tr) (zm_w cA mo th k (zk_n k) (zk_t k) F fa fb fc fd ++ wr) sz [.ref (mo 0), .ref (mo 2), .int (nI (i0)), .int (nI (y))]) (va_Qv (fun u : Nat → Nat => (∀ j, j < zk_n k → u j = (fa j + y * zk_i k % zk_t k * zk_B k i0 j) % zk_t k) ∧ ∀ j, zk_n k ≤ j → u j = fa j) (zw_at (dC, dI) zz_cl ((cA, .int) :: tr) (va_A (zm_w cA mo th k (zk_n k) (zk_t k) F fa fb fc fd ++ wr) sz) (fun u : Nat → Nat => zm_w cA mo th k (zk_n k) (zk_t k) F u fb fc fd ++ wr)) (va_A (zm_w cA mo th k (zk_n k) (zk_t k) F fa fb fc fd ++ wr) sz)) 0 0 (va_A (zm_w cA mo th k (zk_n k) (zk_t k) F fa fb fc fd ++ wr) sz) := by
  refine Met.ofW (cc := cX1_add) (maxL := 7) (ret := none) (by decide) rfl ?_
  intro p e s m args below meth c s₁ B hml hv
  obtain ⟨rfl, hsz, hP, hK, hD0⟩ := hv
  have hx := B.exec
  have hb := B.bytes
  have hr := B.returns
  have hts := atoms_spec (ws := wzX1_add) B.pre
  have hown : s.vm.findClass RX1 = some m.cls := findClass_of_methodNamed B.named
  have hlocks := B.notSynchronized
  subst hsz
  have hD := hD0.self (sz := s.heap.size)
  generalize hAe : va_A (zm_w cA mo th k (zk_n k) (zk_t k) F fa fb fc fd ++ wr) s.heap.size = A at hD ⊢
  have hA : ∀ q : Nat, s.heap.size ≤ q → A q := fun q h => by rw [← hAe]; exact Or.inr h
  have hS : va_S A s.heap s.heap [] := va_S.rf
  have hl := lv_entry ([.ref (mo 0), .ref (mo 2), .int (nI (i0)), .int (nI (y))]) (n := 7) (Nat.le_of_ble_eq_true rfl)
  rw [lg_entry_eq]
  generalize (lg_sl ([.ref (mo 0), .ref (mo 2), .int (nI (i0)), .int (nI (y))]) ++ List.replicate (7 - (lg_sl ([.ref (mo 0), .ref (mo 2), .int (nI (i0)), .int (nI (y))])).length) Slot.unset).toArray = ls at hl ⊢
  have hl : lv_has ls 7 [(0, .ref (mo 0)), (1, .ref (mo 2)), (2, .int (nI (i0))), (3, .int (nI (y)))] := hl
  obtain ⟨hb1, hb2, hb3, hb4, hb5, hb6, hb7, hb8⟩ := zk_b k hk
  refine lv_aload_n hx hb dX1_add_0 rfl (lv_at hl 0 rfl) ?_
  refine lv_aload_n hx hb dX1_add_1 rfl (lv_at hl 0 rfl) ?_
  refine zx_get1 (v := .int (nI (zk_n k))) hx hb hts hown hK hP 0 rfl 2 (by decide) zf_X1_7 rfl dX1_add_2 ?_
  refine lv_aload_n hx hb dX1_add_5 rfl (lv_at hl 0 rfl) ?_
  refine zx_get1 (v := .int (nI (zk_t k))) hx hb hts hown hK hP 0 rfl 3 (by decide) zf_X1_13 rfl dX1_add_6 ?_
  refine lv_iconst (v := nI 2) hx hb dX1_add_9 (by decide) ?_
  refine zr_isub hx hb dX1_add_10 (by omega) ?_
  refine zr_callq (zx_runV (As := [.int (nI (zk_n k)), .int (nI ((zk_t k) - 2))]) (rest := []) hx hb hml hts hown (cm_raised l dC dI cA tr wr mo th k F fa fb fc fd hk (zk_n k) (zk_t k - 2) hb8 (by omega)) zv_X1_35 rfl rfl ⟨Nat.le_of_ble_eq_true rfl, Nat.le_of_ble_eq_true rfl⟩ (zr_preV (q := (RX1, TM1, 9)) (ci := 1) (q0 := 0) hP hK rfl rfl) rfl hl.1 rfl (Nat.le_of_ble_eq_true rfl) dX1_add_11 ⟨Nat.zero_le _, Nat.zero_le _⟩) ?_
  rw [zk_inv k hk]
  refine lv_istore (lv' := [(4, .int (nI (zk_i k))), (0, .ref (mo 0)), (1, .ref (mo 2)), (2, .int (nI (i0))), (3, .int (nI (y)))]) hx hb dX1_add_14 hl (by decide) rfl (fun ls hl => ?_)
  refine lv_aload_n hx hb dX1_add_16 rfl (lv_at hl 1 rfl) ?_
  refine zr_callq (zx_runV (As := []) (rest := []) hx hb hml hts hown (cm_least l dC dI cA tr wr mo th k F fa fb fc fd hk) zv_X1_42 rfl rfl ⟨Nat.le_of_ble_eq_true rfl, Nat.le_of_ble_eq_true rfl⟩ (zr_preV (q := (RX1, TM1, 9)) (ci := 1) (q0 := 0) hP hK rfl rfl) rfl hl.1 rfl (Nat.le_of_ble_eq_true rfl) dX1_add_17 ⟨Nat.zero_le _, Nat.zero_le _⟩) ?_
  refine lv_istore (lv' := [(5, .int (nI (zk_z k))), (4, .int (nI (zk_i k))), (0, .ref (mo 0)), (1, .ref (mo 2)), (2, .int (nI (i0))), (3, .int (nI (y)))]) hx hb dX1_add_20 hl (by decide) rfl (fun ls hl => ?_)
  refine lv_iconst (v := nI 0) hx hb dX1_add_22 (by decide) ?_
  refine lv_istore (lv' := [(6, .int (nI (0))), (5, .int (nI (zk_z k))), (4, .int (nI (zk_i k))), (0, .ref (mo 0)), (1, .ref (mo 2)), (2, .int (nI (i0))), (3, .int (nI (y)))]) hx hb dX1_add_23 hl (by decide) rfl (fun ls hl => ?_)
  have loop : ∀ (d i : Nat), i + d = zk_n k → ∀ (G1 : Nat → Nat), ((∀ j, j < i → G1 j = (fa j + y * zk_i k % zk_t k * zk_B k i0 j) % zk_t k) ∧ ∀ j, i ≤ j → G1 j = fa j) → ∀ (H : Heap) (locs : List Loc), va_P (dC, dI) zz_cl (zm_w cA mo th k (zk_n k) (zk_t k) F G1 fb fc fd ++ wr) H → va_D A (zm_w cA mo th k (zk_n k) (zk_t k) F G1 fb fc fd ++ wr) → va_S A s.heap H locs → ∀ ls, lv_has ls 7 [(0, .ref (mo 0)), (1, .ref (mo 2)), (2, .int (nI (i0))), (3, .int (nI (y))), (4, .int (nI (zk_i k))), (5, .int (nI (zk_z k))), (6, .int (nI (i)))] → W p l e (headSpec wzX1_add (k2_rm 2 45)).room s m ([.ref (mo 0), .ref (mo 2), .int (nI (i0)), .int (nI (y))] : List Value).toArray below meth c H locs 0 0 (MQ below (va_Qv (fun u : Nat → Nat => (∀ j, j < zk_n k → u j = (fa j + y * zk_i k % zk_t k * zk_B k i0 j) % zk_t k) ∧ ∀ j, zk_n k ≤ j → u j = fa j) (zw_at (dC, dI) zz_cl ((cA, .int) :: tr) A (fun u : Nat → Nat => zm_w cA mo th k (zk_n k) (zk_t k) F u fb fc fd ++ wr)) A) ([.ref (mo 0), .ref (mo 2), .int (nI (i0)), .int (nI (y))] : List Value).toArray s 0 0 A) (F0 m 25 ls []) := by
    intro d
    induction d with
    | zero =>
      intro i hi G1 hinv H locs hP hD hS ls hl
      have hi : i = zk_n k := by omega
      rw [hi] at hinv
      refine lv_iload hx hb dX1_add_25 (lv_at hl 6 rfl) ?_
      refine lv_aload_n hx hb dX1_add_27 rfl (lv_at hl 0 rfl) ?_
      refine zx_get1 (v := .int (nI (zk_n k))) hx hb hts hown hK hP 0 rfl 2 (by decide) zf_X1_7 rfl dX1_add_28 ?_
      refine zr_ige (tgt := 103) hx hb dX1_add_31 (by decide) (by omega) (by omega) (fun _ => ?_) (fun hno9 => absurd hno9 (by omega))
      exact W.vret hx hb hr (fun t9 h9 hW9 => ⟨⟨G1, rfl, hinv, by rw [h9]; exact hP, va_K.moved hW9.alike hK, hD⟩, hS.F h9⟩) hS.2.2 dX1_add_103
    | succ d ih =>
      intro i hi G1 hinv H locs hP hD hS ls hl
      refine lv_iload hx hb dX1_add_25 (lv_at hl 6 rfl) ?_
      refine lv_aload_n hx hb dX1_add_27 rfl (lv_at hl 0 rfl) ?_
      refine zx_get1 (v := .int (nI (zk_n k))) hx hb hts hown hK hP 0 rfl 2 (by decide) zf_X1_7 rfl dX1_add_28 ?_
      refine zr_ige (tgt := 103) hx hb dX1_add_31 (by decide) (by omega) (by omega) (fun hno9 => absurd hno9 (by omega)) (fun _ => ?_)
      have hm9 : (2 * i0 + 1) * i % (2 * zk_n k) < 2 * zk_n k := Nat.mod_lt _ (by omega)
      have hm8 : (2 * zk_n k - (2 * i0 + 1) * i % (2 * zk_n k)) % (2 * zk_n k) < 2 * zk_n k := Nat.mod_lt _ (by omega)
      have hyi := zq_b4 hy hb7 hb4
      have hB : zk_B k i0 i < zk_t k := Nat.mod_lt _ (by omega)
      have hyB := zq_b4 (Nat.mod_lt (y * zk_i k) (show zk_t k > 0 by omega)) hB hb4
      have hgi : G1 i = fa i := hinv.2 i (Nat.le_refl _)
      have hgt := hG i (by omega)
      refine lv_aload_n hx hb dX1_add_34 rfl (lv_at hl 1 rfl) ?_
      refine lv_iload hx hb dX1_add_35 (lv_at hl 6 rfl) ?_
      refine lv_aload_n hx hb dX1_add_37 rfl (lv_at hl 0 rfl) ?_
      refine lv_aload_n hx hb dX1_add_38 rfl (lv_at hl 1 rfl) ?_
      refine lv_iload hx hb dX1_add_39 (lv_at hl 6 rfl) ?_
      refine zr_iald (y := G1 i) hx hb hK hP 2 0 rfl rfl (by omega) (by decide) rfl dX1_add_41 ?_
      refine zr_i2l hx hb dX1_add_42 (by omega) ?_
      refine lv_iload_n hx hb dX1_add_43 rfl (lv_at hl 3 rfl) ?_
      refine zr_i2l hx hb dX1_add_44 (by omega) ?_
      refine lv_iload hx hb dX1_add_45 (lv_at hl 4 rfl) ?_
      refine zr_i2l hx hb dX1_add_47 (by omega) ?_
      refine zr_lmul hx hb dX1_add_48 ?_
      refine lv_aload_n hx hb dX1_add_49 rfl (lv_at hl 0 rfl) ?_
      refine zx_get1 (v := .int (nI (zk_t k))) hx hb hts hown hK hP 0 rfl 3 (by decide) zf_X1_13 rfl dX1_add_50 ?_
      refine zr_i2l hx hb dX1_add_53 (by omega) ?_
      refine zr_lrem hx hb dX1_add_54 (by omega) (by omega) (by omega) ?_
      refine lv_aload_n hx hb dX1_add_55 rfl (lv_at hl 0 rfl) ?_
      refine lv_iload hx hb dX1_add_56 (lv_at hl 5 rfl) ?_
      refine lv_iconst (v := nI 2) hx hb dX1_add_58 (by decide) ?_
      refine lv_aload_n hx hb dX1_add_59 rfl (lv_at hl 0 rfl) ?_
      refine zx_get1 (v := .int (nI (zk_n k))) hx hb hts hown hK hP 0 rfl 2 (by decide) zf_X1_7 rfl dX1_add_60 ?_
      refine zr_imul hx hb dX1_add_63 ?_
      refine lv_iconst (v := nI 2) hx hb dX1_add_64 (by decide) ?_
      refine lv_iload_n hx hb dX1_add_65 rfl (lv_at hl 2 rfl) ?_
      refine zr_imul hx hb dX1_add_66 ?_
      refine lv_iconst (v := nI 1) hx hb dX1_add_67 (by decide) ?_
      refine zr_iadd hx hb dX1_add_68 ?_
      refine lv_iload hx hb dX1_add_69 (lv_at hl 6 rfl) ?_
      refine zr_imul hx hb dX1_add_71 ?_
      refine lv_iconst (v := nI 2) hx hb dX1_add_72 (by decide) ?_
      refine lv_aload_n hx hb dX1_add_73 rfl (lv_at hl 0 rfl) ?_
      refine zx_get1 (v := .int (nI (zk_n k))) hx hb hts hown hK hP 0 rfl 2 (by decide) zf_X1_7 rfl dX1_add_74 ?_
      refine zr_imul hx hb dX1_add_77 ?_
      refine zr_irem hx hb dX1_add_78 (zq_bb (by omega) (by omega)) (by omega) (by omega) ?_
      refine zr_isub hx hb dX1_add_79 (by omega) ?_
      refine lv_iconst (v := nI 2) hx hb dX1_add_80 (by decide) ?_
      refine lv_aload_n hx hb dX1_add_81 rfl (lv_at hl 0 rfl) ?_
      refine zx_get1 (v := .int (nI (zk_n k))) hx hb hts hown hK hP 0 rfl 2 (by decide) zf_X1_7 rfl dX1_add_82 ?_
      refine zr_imul hx hb dX1_add_85 ?_
      refine zr_irem hx hb dX1_add_86 (by omega) (by omega) (by omega) ?_
      refine zr_callq (zx_runV (As := [.int (nI (zk_z k)), .int (nI (((2 * (zk_n k)) - ((((2 * i0) + 1) * i) % (2 * (zk_n k)))) % (2 * (zk_n k))))]) (rest := [.long (lN ((y * (zk_i k)) % (zk_t k))), .long (lN (G1 i)), .ref (mo 0), .int (nI (i)), .ref (mo 2)]) hx hb hml hts hown (cm_raised l dC dI cA tr wr mo th k F G1 fb fc fd hk (zk_z k) ((2 * zk_n k - (2 * i0 + 1) * i % (2 * zk_n k)) % (2 * zk_n k)) hb6 (by omega)) zv_X1_35 rfl rfl ⟨Nat.le_of_ble_eq_true rfl, Nat.le_of_ble_eq_true rfl⟩ (zr_preV (q := (RX1, TM1, 9)) (ci := 1) (q0 := 0) hP hK rfl rfl) rfl hl.1 rfl (Nat.le_of_ble_eq_true rfl) dX1_add_87 ⟨Nat.zero_le _, Nat.zero_le _⟩) ?_
      rw [show zk_z k ^ ((2 * zk_n k - (2 * i0 + 1) * i % (2 * zk_n k)) % (2 * zk_n k)) % zk_t k = zk_B k i0 i from rfl]
      refine zr_i2l hx hb dX1_add_90 (by omega) ?_
      refine zr_lmul hx hb dX1_add_91 ?_
      refine zr_ladd hx hb dX1_add_92 ?_
      rw [zi_lN]
      refine zr_callq (zx_runV (As := [.long (lN ((G1 i) + (((y * (zk_i k)) % (zk_t k)) * (zk_B k i0 i))))]) (rest := [.int (nI (i)), .ref (mo 2)]) hx hb hml hts hown (cm_of l dC dI cA tr wr mo th k F G1 fb fc fd hk ((G1 i + y * zk_i k % zk_t k * zk_B k i0 i : Nat) : Int) ((G1 i + y * zk_i k % zk_t k * zk_B k i0 i) % zk_t k) (by omega) (by omega) (Int.natCast_emod _ _).symm) zv_X1_54 rfl rfl ⟨Nat.le_of_ble_eq_true rfl, Nat.le_of_ble_eq_true rfl⟩ (zr_preV (q := (RX1, TM1, 9)) (ci := 1) (q0 := 0) hP hK rfl rfl) rfl hl.1 rfl (Nat.le_of_ble_eq_true rfl) dX1_add_93 ⟨Nat.zero_le _, Nat.zero_le _⟩) ?_
      refine zr_iast (ws' := (zm_w cA mo th k (zk_n k) (zk_t k) F (zq_up G1 i ((G1 i + y * zk_i k % zk_t k * zk_B k i0 i) % zk_t k)) fb fc fd ++ wr)) hx hb hK hP hD hS 2 0 rfl rfl (by omega) (by decide) dX1_add_96 rfl (fun H locs hP hD hS => ?_)
      refine zr_iinc (k := 6) (lv' := [(6, .int (nI (i + 1))), (0, .ref (mo 0)), (1, .ref (mo 2)), (2, .int (nI (i0))), (3, .int (nI (y))), (4, .int (nI (zk_i k))), (5, .int (nI (zk_z k)))]) hx hb dX1_add_97 hl rfl (by decide) rfl (fun ls hl => ?_)
      refine lv_goto (tgt := 25) hx hb dX1_add_100 (by decide) ?_
      refine ih (i + 1) (by omega) _ ⟨fun j hj => ?_, fun j hj => ?_⟩ H locs hP hD hS ls (lv_sub hl [1, 2, 3, 4, 5, 6, 0] rfl)
      · by_cases e9 : j = i
        · rw [e9, zq_up_s, hgi]
        · rw [zq_up_n _ _ e9]; exact hinv.1 j (by omega)
      · rw [zq_up_n _ _ (by omega)]; exact hinv.2 j (by omega)
  exact loop (zk_n k) 0 (by omega) fa ⟨fun j hj => absurd hj (Nat.not_lt_zero _), fun _ _ => rfl⟩ s.heap [] hP hD hS ls (lv_sub hl [3, 4, 5, 6, 2, 1, 0] rfl)
set_option maxHeartbeats 4000000 in
set_option maxRecDepth 100000 in
/-- add(f, i, much) -/
theorem cm_add3 (l : Launch) (dC : Nat → ClassId) (dI : Nat → Nat → Nat) (cA : ClassId) (tr : List (ClassId × FieldType)) (wr : va_W) (mo : Nat → Nat) (th k : Nat) (F fa fb fc fd : Nat → Nat) (hk : k < 4) (sz : Nat) (i0 y : Nat) (hi0 : i0 < zk_n k) (hy : y < zk_t k) (hG : ∀ j, j < zk_n k → fb j < zk_t k) : Met l yX1_add wzX1_add (k2_rm 2 45) (zw_pre (dC, dI) zz_cl ((cA, .int) :: tr) (zm_w cA mo th k (zk_n k) (zk_t k) F fa fb fc fd ++ wr) sz [.ref (mo 0), .ref (mo 3), .int (nI (i0)), .int (nI (y))]) (va_Qv (fun u : Nat → Nat => (∀ j, j < zk_n k → u j = (fb j + y * zk_i k % zk_t k * zk_B k i0 j) % zk_t k) ∧ ∀ j, zk_n k ≤ j → u j = fb j) (zw_at (dC, dI) zz_cl ((cA, .int) :: tr) (va_A (zm_w cA mo th k (zk_n k) (zk_t k) F fa fb fc fd ++ wr) sz) (fun u : Nat → Nat => zm_w cA mo th k (zk_n k) (zk_t k) F fa u fc fd ++ wr)) (va_A (zm_w cA mo th k (zk_n k) (zk_t k) F fa fb fc fd ++ wr) sz)) 0 0 (va_A (zm_w cA mo th k (zk_n k) (zk_t k) F fa fb fc fd ++ wr) sz) := by
  refine Met.ofW (cc := cX1_add) (maxL := 7) (ret := none) (by decide) rfl ?_
  intro p e s m args below meth c s₁ B hml hv
  obtain ⟨rfl, hsz, hP, hK, hD0⟩ := hv
  have hx := B.exec
  have hb := B.bytes
  have hr := B.returns
  have hts := atoms_spec (ws := wzX1_add) B.pre
  have hown : s.vm.findClass RX1 = some m.cls := findClass_of_methodNamed B.named
  have hlocks := B.notSynchronized
  subst hsz
  have hD := hD0.self (sz := s.heap.size)
  generalize hAe : va_A (zm_w cA mo th k (zk_n k) (zk_t k) F fa fb fc fd ++ wr) s.heap.size = A at hD ⊢
  have hA : ∀ q : Nat, s.heap.size ≤ q → A q := fun q h => by rw [← hAe]; exact Or.inr h
  have hS : va_S A s.heap s.heap [] := va_S.rf
  have hl := lv_entry ([.ref (mo 0), .ref (mo 3), .int (nI (i0)), .int (nI (y))]) (n := 7) (Nat.le_of_ble_eq_true rfl)
  rw [lg_entry_eq]
  generalize (lg_sl ([.ref (mo 0), .ref (mo 3), .int (nI (i0)), .int (nI (y))]) ++ List.replicate (7 - (lg_sl ([.ref (mo 0), .ref (mo 3), .int (nI (i0)), .int (nI (y))])).length) Slot.unset).toArray = ls at hl ⊢
  have hl : lv_has ls 7 [(0, .ref (mo 0)), (1, .ref (mo 3)), (2, .int (nI (i0))), (3, .int (nI (y)))] := hl
  obtain ⟨hb1, hb2, hb3, hb4, hb5, hb6, hb7, hb8⟩ := zk_b k hk
  refine lv_aload_n hx hb dX1_add_0 rfl (lv_at hl 0 rfl) ?_
  refine lv_aload_n hx hb dX1_add_1 rfl (lv_at hl 0 rfl) ?_
  refine zx_get1 (v := .int (nI (zk_n k))) hx hb hts hown hK hP 0 rfl 2 (by decide) zf_X1_7 rfl dX1_add_2 ?_
  refine lv_aload_n hx hb dX1_add_5 rfl (lv_at hl 0 rfl) ?_
  refine zx_get1 (v := .int (nI (zk_t k))) hx hb hts hown hK hP 0 rfl 3 (by decide) zf_X1_13 rfl dX1_add_6 ?_
  refine lv_iconst (v := nI 2) hx hb dX1_add_9 (by decide) ?_
  refine zr_isub hx hb dX1_add_10 (by omega) ?_
  refine zr_callq (zx_runV (As := [.int (nI (zk_n k)), .int (nI ((zk_t k) - 2))]) (rest := []) hx hb hml hts hown (cm_raised l dC dI cA tr wr mo th k F fa fb fc fd hk (zk_n k) (zk_t k - 2) hb8 (by omega)) zv_X1_35 rfl rfl ⟨Nat.le_of_ble_eq_true rfl, Nat.le_of_ble_eq_true rfl⟩ (zr_preV (q := (RX1, TM1, 9)) (ci := 1) (q0 := 0) hP hK rfl rfl) rfl hl.1 rfl (Nat.le_of_ble_eq_true rfl) dX1_add_11 ⟨Nat.zero_le _, Nat.zero_le _⟩) ?_
  rw [zk_inv k hk]
  refine lv_istore (lv' := [(4, .int (nI (zk_i k))), (0, .ref (mo 0)), (1, .ref (mo 3)), (2, .int (nI (i0))), (3, .int (nI (y)))]) hx hb dX1_add_14 hl (by decide) rfl (fun ls hl => ?_)
  refine lv_aload_n hx hb dX1_add_16 rfl (lv_at hl 1 rfl) ?_
  refine zr_callq (zx_runV (As := []) (rest := []) hx hb hml hts hown (cm_least l dC dI cA tr wr mo th k F fa fb fc fd hk) zv_X1_42 rfl rfl ⟨Nat.le_of_ble_eq_true rfl, Nat.le_of_ble_eq_true rfl⟩ (zr_preV (q := (RX1, TM1, 9)) (ci := 1) (q0 := 0) hP hK rfl rfl) rfl hl.1 rfl (Nat.le_of_ble_eq_true rfl) dX1_add_17 ⟨Nat.zero_le _, Nat.zero_le _⟩) ?_
  refine lv_istore (lv' := [(5, .int (nI (zk_z k))), (4, .int (nI (zk_i k))), (0, .ref (mo 0)), (1, .ref (mo 3)), (2, .int (nI (i0))), (3, .int (nI (y)))]) hx hb dX1_add_20 hl (by decide) rfl (fun ls hl => ?_)
  refine lv_iconst (v := nI 0) hx hb dX1_add_22 (by decide) ?_
  refine lv_istore (lv' := [(6, .int (nI (0))), (5, .int (nI (zk_z k))), (4, .int (nI (zk_i k))), (0, .ref (mo 0)), (1, .ref (mo 3)), (2, .int (nI (i0))), (3, .int (nI (y)))]) hx hb dX1_add_23 hl (by decide) rfl (fun ls hl => ?_)
  have loop : ∀ (d i : Nat), i + d = zk_n k → ∀ (G1 : Nat → Nat), ((∀ j, j < i → G1 j = (fb j + y * zk_i k % zk_t k * zk_B k i0 j) % zk_t k) ∧ ∀ j, i ≤ j → G1 j = fb j) → ∀ (H : Heap) (locs : List Loc), va_P (dC, dI) zz_cl (zm_w cA mo th k (zk_n k) (zk_t k) F fa G1 fc fd ++ wr) H → va_D A (zm_w cA mo th k (zk_n k) (zk_t k) F fa G1 fc fd ++ wr) → va_S A s.heap H locs → ∀ ls, lv_has ls 7 [(0, .ref (mo 0)), (1, .ref (mo 3)), (2, .int (nI (i0))), (3, .int (nI (y))), (4, .int (nI (zk_i k))), (5, .int (nI (zk_z k))), (6, .int (nI (i)))] → W p l e (headSpec wzX1_add (k2_rm 2 45)).room s m ([.ref (mo 0), .ref (mo 3), .int (nI (i0)), .int (nI (y))] : List Value).toArray below meth c H locs 0 0 (MQ below (va_Qv (fun u : Nat → Nat => (∀ j, j < zk_n k → u j = (fb j + y * zk_i k % zk_t k * zk_B k i0 j) % zk_t k) ∧ ∀ j, zk_n k ≤ j → u j = fb j) (zw_at (dC, dI) zz_cl ((cA, .int) :: tr) A (fun u : Nat → Nat => zm_w cA mo th k (zk_n k) (zk_t k) F fa u fc fd ++ wr)) A) ([.ref (mo 0), .ref (mo 3), .int (nI (i0)), .int (nI (y))] : List Value).toArray s 0 0 A) (F0 m 25 ls []) := by
    intro d
    induction d with
    | zero =>
      intro i hi G1 hinv H locs hP hD hS ls hl
      have hi : i = zk_n k := by omega
      rw [hi] at hinv
      refine lv_iload hx hb dX1_add_25 (lv_at hl 6 rfl) ?_
      refine lv_aload_n hx hb dX1_add_27 rfl (lv_at hl 0 rfl) ?_
      refine zx_get1 (v := .int (nI (zk_n k))) hx hb hts hown hK hP 0 rfl 2 (by decide) zf_X1_7 rfl dX1_add_28 ?_
      refine zr_ige (tgt := 103) hx hb dX1_add_31 (by decide) (by omega) (by omega) (fun _ => ?_) (fun hno9 => absurd hno9 (by omega))
      exact W.vret hx hb hr (fun t9 h9 hW9 => ⟨⟨G1, rfl, hinv, by rw [h9]; exact hP, va_K.moved hW9.alike hK, hD⟩, hS.F h9⟩) hS.2.2 dX1_add_103
    | succ d ih =>
      intro i hi G1 hinv H locs hP hD hS ls hl
      refine lv_iload hx hb dX1_add_25 (lv_at hl 6 rfl) ?_
      refine lv_aload_n hx hb dX1_add_27 rfl (lv_at hl 0 rfl) ?_
      refine zx_get1 (v := .int (nI (zk_n k))) hx hb hts hown hK hP 0 rfl 2 (by decide) zf_X1_7 rfl dX1_add_28 ?_
      refine zr_ige (tgt := 103) hx hb dX1_add_31 (by decide) (by omega) (by omega) (fun hno9 => absurd hno9 (by omega)) (fun _ => ?_)
      have hm9 : (2 * i0 + 1) * i % (2 * zk_n k) < 2 * zk_n k := Nat.mod_lt _ (by omega)
      have hm8 : (2 * zk_n k - (2 * i0 + 1) * i % (2 * zk_n k)) % (2 * zk_n k) < 2 * zk_n k := Nat.mod_lt _ (by omega)
      have hyi := zq_b4 hy hb7 hb4
      have hB : zk_B k i0 i < zk_t k := Nat.mod_lt _ (by omega)
      have hyB := zq_b4 (Nat.mod_lt (y * zk_i k) (show zk_t k > 0 by omega)) hB hb4
      have hgi : G1 i = fb i := hinv.2 i (Nat.le_refl _)
      have hgt := hG i (by omega)
      refine lv_aload_n hx hb dX1_add_34 rfl (lv_at hl 1 rfl) ?_
      refine lv_iload hx hb dX1_add_35 (lv_at hl 6 rfl) ?_
      refine lv_aload_n hx hb dX1_add_37 rfl (lv_at hl 0 rfl) ?_
      refine lv_aload_n hx hb dX1_add_38 rfl (lv_at hl 1 rfl) ?_
      refine lv_iload hx hb dX1_add_39 (lv_at hl 6 rfl) ?_
      refine zr_iald (y := G1 i) hx hb hK hP 3 0 rfl rfl (by omega) (by decide) rfl dX1_add_41 ?_
      refine zr_i2l hx hb dX1_add_42 (by omega) ?_
      refine lv_iload_n hx hb dX1_add_43 rfl (lv_at hl 3 rfl) ?_
      refine zr_i2l hx hb dX1_add_44 (by omega) ?_
      refine lv_iload hx hb dX1_add_45 (lv_at hl 4 rfl) ?_
      refine zr_i2l hx hb dX1_add_47 (by omega) ?_
      refine zr_lmul hx hb dX1_add_48 ?_
      refine lv_aload_n hx hb dX1_add_49 rfl (lv_at hl 0 rfl) ?_
      refine zx_get1 (v := .int (nI (zk_t k))) hx hb hts hown hK hP 0 rfl 3 (by decide) zf_X1_13 rfl dX1_add_50 ?_
      refine zr_i2l hx hb dX1_add_53 (by omega) ?_
      refine zr_lrem hx hb dX1_add_54 (by omega) (by omega) (by omega) ?_
      refine lv_aload_n hx hb dX1_add_55 rfl (lv_at hl 0 rfl) ?_
      refine lv_iload hx hb dX1_add_56 (lv_at hl 5 rfl) ?_
      refine lv_iconst (v := nI 2) hx hb dX1_add_58 (by decide) ?_
      refine lv_aload_n hx hb dX1_add_59 rfl (lv_at hl 0 rfl) ?_
      refine zx_get1 (v := .int (nI (zk_n k))) hx hb hts hown hK hP 0 rfl 2 (by decide) zf_X1_7 rfl dX1_add_60 ?_
      refine zr_imul hx hb dX1_add_63 ?_
      refine lv_iconst (v := nI 2) hx hb dX1_add_64 (by decide) ?_
      refine lv_iload_n hx hb dX1_add_65 rfl (lv_at hl 2 rfl) ?_
      refine zr_imul hx hb dX1_add_66 ?_
      refine lv_iconst (v := nI 1) hx hb dX1_add_67 (by decide) ?_
      refine zr_iadd hx hb dX1_add_68 ?_
      refine lv_iload hx hb dX1_add_69 (lv_at hl 6 rfl) ?_
      refine zr_imul hx hb dX1_add_71 ?_
      refine lv_iconst (v := nI 2) hx hb dX1_add_72 (by decide) ?_
      refine lv_aload_n hx hb dX1_add_73 rfl (lv_at hl 0 rfl) ?_
      refine zx_get1 (v := .int (nI (zk_n k))) hx hb hts hown hK hP 0 rfl 2 (by decide) zf_X1_7 rfl dX1_add_74 ?_
      refine zr_imul hx hb dX1_add_77 ?_
      refine zr_irem hx hb dX1_add_78 (zq_bb (by omega) (by omega)) (by omega) (by omega) ?_
      refine zr_isub hx hb dX1_add_79 (by omega) ?_
      refine lv_iconst (v := nI 2) hx hb dX1_add_80 (by decide) ?_
      refine lv_aload_n hx hb dX1_add_81 rfl (lv_at hl 0 rfl) ?_
      refine zx_get1 (v := .int (nI (zk_n k))) hx hb hts hown hK hP 0 rfl 2 (by decide) zf_X1_7 rfl dX1_add_82 ?_
      refine zr_imul hx hb dX1_add_85 ?_
      refine zr_irem hx hb dX1_add_86 (by omega) (by omega) (by omega) ?_
      refine zr_callq (zx_runV (As := [.int (nI (zk_z k)), .int (nI (((2 * (zk_n k)) - ((((2 * i0) + 1) * i) % (2 * (zk_n k)))) % (2 * (zk_n k))))]) (rest := [.long (lN ((y * (zk_i k)) % (zk_t k))), .long (lN (G1 i)), .ref (mo 0), .int (nI (i)), .ref (mo 3)]) hx hb hml hts hown (cm_raised l dC dI cA tr wr mo th k F fa G1 fc fd hk (zk_z k) ((2 * zk_n k - (2 * i0 + 1) * i % (2 * zk_n k)) % (2 * zk_n k)) hb6 (by omega)) zv_X1_35 rfl rfl ⟨Nat.le_of_ble_eq_true rfl, Nat.le_of_ble_eq_true rfl⟩ (zr_preV (q := (RX1, TM1, 9)) (ci := 1) (q0 := 0) hP hK rfl rfl) rfl hl.1 rfl (Nat.le_of_ble_eq_true rfl) dX1_add_87 ⟨Nat.zero_le _, Nat.zero_le _⟩) ?_
      rw [show zk_z k ^ ((2 * zk_n k - (2 * i0 + 1) * i % (2 * zk_n k)) % (2 * zk_n k)) % zk_t k = zk_B k i0 i from rfl]
      refine zr_i2l hx hb dX1_add_90 (by omega) ?_
      refine zr_lmul hx hb dX1_add_91 ?_
      refine zr_ladd hx hb dX1_add_92 ?_
      rw [zi_lN]
      refine zr_callq (zx_runV (As := [.long (lN ((G1 i) + (((y * (zk_i k)) % (zk_t k)) * (zk_B k i0 i))))]) (rest := [.int (nI (i)), .ref (mo 3)]) hx hb hml hts hown (cm_of l dC dI cA tr wr mo th k F fa G1 fc fd hk ((G1 i + y * zk_i k % zk_t k * zk_B k i0 i : Nat) : Int) ((G1 i + y * zk_i k % zk_t k * zk_B k i0 i) % zk_t k) (by omega) (by omega) (Int.natCast_emod _ _).symm) zv_X1_54 rfl rfl ⟨Nat.le_of_ble_eq_true rfl, Nat.le_of_ble_eq_true rfl⟩ (zr_preV (q := (RX1, TM1, 9)) (ci := 1) (q0 := 0) hP hK rfl rfl) rfl hl.1 rfl (Nat.le_of_ble_eq_true rfl) dX1_add_93 ⟨Nat.zero_le _, Nat.zero_le _⟩) ?_
      refine zr_iast (ws' := (zm_w cA mo th k (zk_n k) (zk_t k) F fa (zq_up G1 i ((G1 i + y * zk_i k % zk_t k * zk_B k i0 i) % zk_t k)) fc fd ++ wr)) hx hb hK hP hD hS 3 0 rfl rfl (by omega) (by decide) dX1_add_96 rfl (fun H locs hP hD hS => ?_)
      refine zr_iinc (k := 6) (lv' := [(6, .int (nI (i + 1))), (0, .ref (mo 0)), (1, .ref (mo 3)), (2, .int (nI (i0))), (3, .int (nI (y))), (4, .int (nI (zk_i k))), (5, .int (nI (zk_z k)))]) hx hb dX1_add_97 hl rfl (by decide) rfl (fun ls hl => ?_)
      refine lv_goto (tgt := 25) hx hb dX1_add_100 (by decide) ?_
      refine ih (i + 1) (by omega) _ ⟨fun j hj => ?_, fun j hj => ?_⟩ H locs hP hD hS ls (lv_sub hl [1, 2, 3, 4, 5, 6, 0] rfl)
      · by_cases e9 : j = i
        · rw [e9, zq_up_s, hgi]
        · rw [zq_up_n _ _ e9]; exact hinv.1 j (by omega)
      · rw [zq_up_n _ _ (by omega)]; exact hinv.2 j (by omega)
  exact loop (zk_n k) 0 (by omega) fb ⟨fun j hj => absurd hj (Nat.not_lt_zero _), fun _ _ => rfl⟩ s.heap [] hP hD hS ls (lv_sub hl [3, 4, 5, 6, 2, 1, 0] rfl)
