set_option maxHeartbeats 4000000 in
set_option maxRecDepth 100000 in
/-- X1_join -/
theorem cm_join_r1 (l : Launch) (dC : Nat → ClassId) (dI : Nat → Nat → Nat) (cA : ClassId) (tr : List (ClassId × FieldType)) (wr : va_W) (mo : Nat → Nat) (th k : Nat) (F fa fb fc fd : Nat → Nat) (hk : k < 4) (sz : Nat) (x1 : Int32) (x2 : Int32) (x3 : Int32) (x4 : Int32) (hbad : x1 < 0 ∨ nI 16 ≤ x1) : Met l yX1_join wzX1_join (k2_rm 1 20) (zw_pre (dC, dI) zz_cl ((cA, .int) :: tr) (zm_w cA mo th k (zk_n k) (zk_t k) F fa fb fc fd ++ wr) sz [.ref (mo 0), .int (x1), .int (x2), .int (x3), .int (x4)]) (va_Qi (fun r (u : zq_U) => r = nI 0 ∧ u.1 = F) (zw_at (dC, dI) zz_cl ((cA, .int) :: tr) (va_A (zm_w cA mo th k (zk_n k) (zk_t k) F fa fb fc fd ++ wr) sz) (fun u : zq_U => zm_w cA mo 1 k (zk_n k) (zk_t k) u.1 u.2.1 u.2.2.1 u.2.2.2.1 u.2.2.2.2 ++ wr)) (va_A (zm_w cA mo th k (zk_n k) (zk_t k) F fa fb fc fd ++ wr) sz)) 0 0 (va_A (zm_w cA mo th k (zk_n k) (zk_t k) F fa fb fc fd ++ wr) sz) := by
  refine Met.ofW (cc := cX1_join) (maxL := 6) (ret := (some .int)) (by decide) rfl ?_
  intro p e s m args below meth c s₁ B hml hv
  obtain ⟨rfl, hsz, hP, hK, hD0⟩ := hv
  have hx := B.exec
  have hb := B.bytes
  have hr := B.returns
  have hts := atoms_spec (ws := wzX1_join) B.pre
  have hown : s.vm.findClass RX1 = some m.cls := findClass_of_methodNamed B.named
  have hlocks := B.notSynchronized
  subst hsz
  have hD := hD0.self (sz := s.heap.size)
  generalize hAe : va_A (zm_w cA mo th k (zk_n k) (zk_t k) F fa fb fc fd ++ wr) s.heap.size = A at hD ⊢
  have hA : ∀ q : Nat, s.heap.size ≤ q → A q := fun q h => by rw [← hAe]; exact Or.inr h
  have hS : va_S A s.heap s.heap [] := va_S.rf
  have hl := lv_entry ([.ref (mo 0), .int (x1), .int (x2), .int (x3), .int (x4)]) (n := 6) (Nat.le_of_ble_eq_true rfl)
  rw [lg_entry_eq]
  generalize (lg_sl ([.ref (mo 0), .int (x1), .int (x2), .int (x3), .int (x4)]) ++ List.replicate (6 - (lg_sl ([.ref (mo 0), .int (x1), .int (x2), .int (x3), .int (x4)])).length) Slot.unset).toArray = ls at hl ⊢
  have hl : lv_has ls 6 [(0, .ref (mo 0)), (1, .int (x1)), (2, .int (x2)), (3, .int (x3)), (4, .int (x4))] := hl
  obtain ⟨hb1, hb2, hb3, hb4, hb5, hb6, hb7, hb8⟩ := zk_b k hk
  refine lv_aload_n hx hb dX1_join_0 rfl (lv_at hl 0 rfl) ?_
  refine lv_iload_n hx hb dX1_join_1 rfl (lv_at hl 1 rfl) ?_
  refine zr_callq (zx_runS (As := [.int (x1)]) (rest := [.ref (mo 0)]) hx hb hml hts hown (cm_none1 l (dC, dI) zz_cl ((cA, .int) :: tr) (zm_w cA mo th k (zk_n k) (zk_t k) F fa fb fc fd ++ wr) x1 hbad) zu_X1_46 rfl rfl ⟨Nat.le_of_ble_eq_true rfl, Nat.le_of_ble_eq_true rfl⟩ (zr_preS hP hK) rfl hl.1 rfl (Nat.le_of_ble_eq_true rfl) dX1_join_2 ⟨Nat.zero_le _, Nat.zero_le _⟩) ?_
  refine zr_ifne (tgt := 23) hx hb dX1_join_5 (by decide) (by omega) (fun _ => ?_) (fun hno9 => absurd hno9 (by omega))
  refine lv_iconst (v := nI 1) hx hb dX1_join_23 (by decide) ?_
  refine lv_goto (tgt := 41) hx hb dX1_join_24 (by decide) ?_
  refine zx_put1 (ws' := (zm_w cA mo 1 k (zk_n k) (zk_t k) F fa fb fc fd ++ wr)) hx hb hts hown hK hP hD hS 0 rfl 0 (by decide) zf_X1_32 rfl (by decide +kernel) (Nat.le_of_ble_eq_true rfl) dX1_join_41 rfl (fun H locs hP hD hS => ?_)
  refine lv_aload_n hx hb dX1_join_44 rfl (lv_at hl 0 rfl) ?_
  refine zx_get1 (v := .int (nI (1))) hx hb hts hown hK hP 0 rfl 0 (by decide) zf_X1_32 rfl dX1_join_45 ?_
  refine zr_ifle (tgt := 53) hx hb dX1_join_48 (by decide) (by omega) (fun hno9 => absurd hno9 (by omega)) (fun _ => ?_)
  refine lv_iconst (v := nI 0) hx hb dX1_join_51 (by decide) ?_
  exact W.iret (v := nI 0) hx hb hr (fun t9 h9 hW9 => ⟨⟨nI 0, (F, fa, fb, fc, fd), rfl, ⟨rfl, rfl⟩, by rw [h9]; exact hP, va_K.moved hW9.alike hK, hD⟩, hS.F h9⟩) hS.2.2 dX1_join_52
set_option maxHeartbeats 4000000 in
set_option maxRecDepth 100000 in
/-- X1_join -/
theorem cm_join_r3 (l : Launch) (dC : Nat → ClassId) (dI : Nat → Nat → Nat) (cA : ClassId) (tr : List (ClassId × FieldType)) (wr : va_W) (mo : Nat → Nat) (th k : Nat) (F fa fb fc fd : Nat → Nat) (hk : k < 4) (sz : Nat) (x1 : Nat) (hx1 : x1 < 16) (x2 : Int32) (x3 : Int32) (x4 : Int32) (hbad : x3 < 0 ∨ nI 16 ≤ x3) : Met l yX1_join wzX1_join (k2_rm 1 20) (zw_pre (dC, dI) zz_cl ((cA, .int) :: tr) (zm_w cA mo th k (zk_n k) (zk_t k) F fa fb fc fd ++ wr) sz [.ref (mo 0), .int (nI (x1)), .int (x2), .int (x3), .int (x4)]) (va_Qi (fun r (u : zq_U) => r = nI 0 ∧ u.1 = F) (zw_at (dC, dI) zz_cl ((cA, .int) :: tr) (va_A (zm_w cA mo th k (zk_n k) (zk_t k) F fa fb fc fd ++ wr) sz) (fun u : zq_U => zm_w cA mo 1 k (zk_n k) (zk_t k) u.1 u.2.1 u.2.2.1 u.2.2.2.1 u.2.2.2.2 ++ wr)) (va_A (zm_w cA mo th k (zk_n k) (zk_t k) F fa fb fc fd ++ wr) sz)) 0 0 (va_A (zm_w cA mo th k (zk_n k) (zk_t k) F fa fb fc fd ++ wr) sz) := by
  refine Met.ofW (cc := cX1_join) (maxL := 6) (ret := (some .int)) (by decide) rfl ?_
  intro p e s m args below meth c s₁ B hml hv
  obtain ⟨rfl, hsz, hP, hK, hD0⟩ := hv
  have hx := B.exec
  have hb := B.bytes
  have hr := B.returns
  have hts := atoms_spec (ws := wzX1_join) B.pre
  have hown : s.vm.findClass RX1 = some m.cls := findClass_of_methodNamed B.named
  have hlocks := B.notSynchronized
  subst hsz
  have hD := hD0.self (sz := s.heap.size)
  generalize hAe : va_A (zm_w cA mo th k (zk_n k) (zk_t k) F fa fb fc fd ++ wr) s.heap.size = A at hD ⊢
  have hA : ∀ q : Nat, s.heap.size ≤ q → A q := fun q h => by rw [← hAe]; exact Or.inr h
  have hS : va_S A s.heap s.heap [] := va_S.rf
  have hl := lv_entry ([.ref (mo 0), .int (nI (x1)), .int (x2), .int (x3), .int (x4)]) (n := 6) (Nat.le_of_ble_eq_true rfl)
  rw [lg_entry_eq]
  generalize (lg_sl ([.ref (mo 0), .int (nI (x1)), .int (x2), .int (x3), .int (x4)]) ++ List.replicate (6 - (lg_sl ([.ref (mo 0), .int (nI (x1)), .int (x2), .int (x3), .int (x4)])).length) Slot.unset).toArray = ls at hl ⊢
  have hl : lv_has ls 6 [(0, .ref (mo 0)), (1, .int (nI (x1))), (2, .int (x2)), (3, .int (x3)), (4, .int (x4))] := hl
  obtain ⟨hb1, hb2, hb3, hb4, hb5, hb6, hb7, hb8⟩ := zk_b k hk
  refine lv_aload_n hx hb dX1_join_0 rfl (lv_at hl 0 rfl) ?_
  refine lv_iload_n hx hb dX1_join_1 rfl (lv_at hl 1 rfl) ?_
  refine zr_callq (zx_runS (As := [.int (nI (x1))]) (rest := [.ref (mo 0)]) hx hb hml hts hown (cm_none0 l (dC, dI) zz_cl ((cA, .int) :: tr) (zm_w cA mo th k (zk_n k) (zk_t k) F fa fb fc fd ++ wr) x1 (by omega)) zu_X1_46 rfl rfl ⟨Nat.le_of_ble_eq_true rfl, Nat.le_of_ble_eq_true rfl⟩ (zr_preS hP hK) rfl hl.1 rfl (Nat.le_of_ble_eq_true rfl) dX1_join_2 ⟨Nat.zero_le _, Nat.zero_le _⟩) ?_
  refine zr_ifne (tgt := 23) hx hb dX1_join_5 (by decide) (by omega) (fun hno9 => absurd hno9 (by omega)) (fun _ => ?_)
  refine lv_iload_n hx hb dX1_join_8 rfl (lv_at hl 3 rfl) ?_
  refine zr_callq (zx_runS (As := [.int (x3)]) (rest := [.ref (mo 0)]) hx hb hml hts hown (cm_none1 l (dC, dI) zz_cl ((cA, .int) :: tr) (zm_w cA mo th k (zk_n k) (zk_t k) F fa fb fc fd ++ wr) x3 hbad) zu_X1_46 rfl rfl ⟨Nat.le_of_ble_eq_true rfl, Nat.le_of_ble_eq_true rfl⟩ (zr_preS hP hK) rfl hl.1 rfl (Nat.le_of_ble_eq_true rfl) dX1_join_9 ⟨Nat.zero_le _, Nat.zero_le _⟩) ?_
  refine zr_ifne (tgt := 23) hx hb dX1_join_12 (by decide) (by omega) (fun _ => ?_) (fun hno9 => absurd hno9 (by omega))
  refine lv_iconst (v := nI 1) hx hb dX1_join_23 (by decide) ?_
  refine lv_goto (tgt := 41) hx hb dX1_join_24 (by decide) ?_
  refine zx_put1 (ws' := (zm_w cA mo 1 k (zk_n k) (zk_t k) F fa fb fc fd ++ wr)) hx hb hts hown hK hP hD hS 0 rfl 0 (by decide) zf_X1_32 rfl (by decide +kernel) (Nat.le_of_ble_eq_true rfl) dX1_join_41 rfl (fun H locs hP hD hS => ?_)
  refine lv_aload_n hx hb dX1_join_44 rfl (lv_at hl 0 rfl) ?_
  refine zx_get1 (v := .int (nI (1))) hx hb hts hown hK hP 0 rfl 0 (by decide) zf_X1_32 rfl dX1_join_45 ?_
  refine zr_ifle (tgt := 53) hx hb dX1_join_48 (by decide) (by omega) (fun hno9 => absurd hno9 (by omega)) (fun _ => ?_)
  refine lv_iconst (v := nI 0) hx hb dX1_join_51 (by decide) ?_
  exact W.iret (v := nI 0) hx hb hr (fun t9 h9 hW9 => ⟨⟨nI 0, (F, fa, fb, fc, fd), rfl, ⟨rfl, rfl⟩, by rw [h9]; exact hP, va_K.moved hW9.alike hK, hD⟩, hS.F h9⟩) hS.2.2 dX1_join_52
set_option maxHeartbeats 4000000 in
set_option maxRecDepth 100000 in
/-- X1_join -/
theorem cm_join_r4 (l : Launch) (dC : Nat → ClassId) (dI : Nat → Nat → Nat) (cA : ClassId) (tr : List (ClassId × FieldType)) (wr : va_W) (mo : Nat → Nat) (th k : Nat) (F fa fb fc fd : Nat → Nat) (hk : k < 4) (sz : Nat) (x1 : Nat) (hx1 : x1 < 16) (x2 : Int32) (x3 : Nat) (hx3 : x3 < 16) (x4 : Int32) (hbad : x4 < 0 ∨ nI 16 ≤ x4) : Met l yX1_join wzX1_join (k2_rm 1 20) (zw_pre (dC, dI) zz_cl ((cA, .int) :: tr) (zm_w cA mo th k (zk_n k) (zk_t k) F fa fb fc fd ++ wr) sz [.ref (mo 0), .int (nI (x1)), .int (x2), .int (nI (x3)), .int (x4)]) (va_Qi (fun r (u : zq_U) => r = nI 0 ∧ u.1 = F) (zw_at (dC, dI) zz_cl ((cA, .int) :: tr) (va_A (zm_w cA mo th k (zk_n k) (zk_t k) F fa fb fc fd ++ wr) sz) (fun u : zq_U => zm_w cA mo 1 k (zk_n k) (zk_t k) u.1 u.2.1 u.2.2.1 u.2.2.2.1 u.2.2.2.2 ++ wr)) (va_A (zm_w cA mo th k (zk_n k) (zk_t k) F fa fb fc fd ++ wr) sz)) 0 0 (va_A (zm_w cA mo th k (zk_n k) (zk_t k) F fa fb fc fd ++ wr) sz) := by
  refine Met.ofW (cc := cX1_join) (maxL := 6) (ret := (some .int)) (by decide) rfl ?_
  intro p e s m args below meth c s₁ B hml hv
  obtain ⟨rfl, hsz, hP, hK, hD0⟩ := hv
  have hx := B.exec
  have hb := B.bytes
  have hr := B.returns
  have hts := atoms_spec (ws := wzX1_join) B.pre
  have hown : s.vm.findClass RX1 = some m.cls := findClass_of_methodNamed B.named
  have hlocks := B.notSynchronized
  subst hsz
  have hD := hD0.self (sz := s.heap.size)
  generalize hAe : va_A (zm_w cA mo th k (zk_n k) (zk_t k) F fa fb fc fd ++ wr) s.heap.size = A at hD ⊢
  have hA : ∀ q : Nat, s.heap.size ≤ q → A q := fun q h => by rw [← hAe]; exact Or.inr h
  have hS : va_S A s.heap s.heap [] := va_S.rf
  have hl := lv_entry ([.ref (mo 0), .int (nI (x1)), .int (x2), .int (nI (x3)), .int (x4)]) (n := 6) (Nat.le_of_ble_eq_true rfl)
  rw [lg_entry_eq]
  generalize (lg_sl ([.ref (mo 0), .int (nI (x1)), .int (x2), .int (nI (x3)), .int (x4)]) ++ List.replicate (6 - (lg_sl ([.ref (mo 0), .int (nI (x1)), .int (x2), .int (nI (x3)), .int (x4)])).length) Slot.unset).toArray = ls at hl ⊢
  have hl : lv_has ls 6 [(0, .ref (mo 0)), (1, .int (nI (x1))), (2, .int (x2)), (3, .int (nI (x3))), (4, .int (x4))] := hl
  obtain ⟨hb1, hb2, hb3, hb4, hb5, hb6, hb7, hb8⟩ := zk_b k hk
  refine lv_aload_n hx hb dX1_join_0 rfl (lv_at hl 0 rfl) ?_
  refine lv_iload_n hx hb dX1_join_1 rfl (lv_at hl 1 rfl) ?_
  refine zr_callq (zx_runS (As := [.int (nI (x1))]) (rest := [.ref (mo 0)]) hx hb hml hts hown (cm_none0 l (dC, dI) zz_cl ((cA, .int) :: tr) (zm_w cA mo th k (zk_n k) (zk_t k) F fa fb fc fd ++ wr) x1 (by omega)) zu_X1_46 rfl rfl ⟨Nat.le_of_ble_eq_true rfl, Nat.le_of_ble_eq_true rfl⟩ (zr_preS hP hK) rfl hl.1 rfl (Nat.le_of_ble_eq_true rfl) dX1_join_2 ⟨Nat.zero_le _, Nat.zero_le _⟩) ?_
  refine zr_ifne (tgt := 23) hx hb dX1_join_5 (by decide) (by omega) (fun hno9 => absurd hno9 (by omega)) (fun _ => ?_)
  refine lv_iload_n hx hb dX1_join_8 rfl (lv_at hl 3 rfl) ?_
  refine zr_callq (zx_runS (As := [.int (nI (x3))]) (rest := [.ref (mo 0)]) hx hb hml hts hown (cm_none0 l (dC, dI) zz_cl ((cA, .int) :: tr) (zm_w cA mo th k (zk_n k) (zk_t k) F fa fb fc fd ++ wr) x3 (by omega)) zu_X1_46 rfl rfl ⟨Nat.le_of_ble_eq_true rfl, Nat.le_of_ble_eq_true rfl⟩ (zr_preS hP hK) rfl hl.1 rfl (Nat.le_of_ble_eq_true rfl) dX1_join_9 ⟨Nat.zero_le _, Nat.zero_le _⟩) ?_
  refine zr_ifne (tgt := 23) hx hb dX1_join_12 (by decide) (by omega) (fun hno9 => absurd hno9 (by omega)) (fun _ => ?_)
  refine lv_iload hx hb dX1_join_15 (lv_at hl 4 rfl) ?_
  refine zr_callq (zx_runS (As := [.int (x4)]) (rest := [.ref (mo 0)]) hx hb hml hts hown (cm_none1 l (dC, dI) zz_cl ((cA, .int) :: tr) (zm_w cA mo th k (zk_n k) (zk_t k) F fa fb fc fd ++ wr) x4 hbad) zu_X1_46 rfl rfl ⟨Nat.le_of_ble_eq_true rfl, Nat.le_of_ble_eq_true rfl⟩ (zr_preS hP hK) rfl hl.1 rfl (Nat.le_of_ble_eq_true rfl) dX1_join_17 ⟨Nat.zero_le _, Nat.zero_le _⟩) ?_
  refine zr_ifeq (tgt := 27) hx hb dX1_join_20 (by decide) (by omega) (fun hno9 => absurd hno9 (by omega)) (fun _ => ?_)
  refine lv_iconst (v := nI 1) hx hb dX1_join_23 (by decide) ?_
  refine lv_goto (tgt := 41) hx hb dX1_join_24 (by decide) ?_
  refine zx_put1 (ws' := (zm_w cA mo 1 k (zk_n k) (zk_t k) F fa fb fc fd ++ wr)) hx hb hts hown hK hP hD hS 0 rfl 0 (by decide) zf_X1_32 rfl (by decide +kernel) (Nat.le_of_ble_eq_true rfl) dX1_join_41 rfl (fun H locs hP hD hS => ?_)
  refine lv_aload_n hx hb dX1_join_44 rfl (lv_at hl 0 rfl) ?_
  refine zx_get1 (v := .int (nI (1))) hx hb hts hown hK hP 0 rfl 0 (by decide) zf_X1_32 rfl dX1_join_45 ?_
  refine zr_ifle (tgt := 53) hx hb dX1_join_48 (by decide) (by omega) (fun hno9 => absurd hno9 (by omega)) (fun _ => ?_)
  refine lv_iconst (v := nI 0) hx hb dX1_join_51 (by decide) ?_
  exact W.iret (v := nI 0) hx hb hr (fun t9 h9 hW9 => ⟨⟨nI 0, (F, fa, fb, fc, fd), rfl, ⟨rfl, rfl⟩, by rw [h9]; exact hP, va_K.moved hW9.alike hK, hD⟩, hS.F h9⟩) hS.2.2 dX1_join_52
set_option maxHeartbeats 4000000 in
set_option maxRecDepth 100000 in
/-- X1_join -/
theorem cm_join_op (l : Launch) (dC : Nat → ClassId) (dI : Nat → Nat → Nat) (cA : ClassId) (tr : List (ClassId × FieldType)) (wr : va_W) (mo : Nat → Nat) (th k : Nat) (F fa fb fc fd : Nat → Nat) (hk : k < 4) (sz : Nat) (x1 : Nat) (hx1 : x1 < 16) (x3 : Nat) (hx3 : x3 < 16) (x4 : Nat) (hx4 : x4 < 16) (x2 : Int32) (hbad : x2 < 0 ∨ nI 3 < x2) : Met l yX1_join wzX1_join (k2_rm 1 20) (zw_pre (dC, dI) zz_cl ((cA, .int) :: tr) (zm_w cA mo th k (zk_n k) (zk_t k) F fa fb fc fd ++ wr) sz [.ref (mo 0), .int (nI (x1)), .int (x2), .int (nI (x3)), .int (nI (x4))]) (va_Qi (fun r (u : zq_U) => r = nI 0 ∧ u.1 = F) (zw_at (dC, dI) zz_cl ((cA, .int) :: tr) (va_A (zm_w cA mo th k (zk_n k) (zk_t k) F fa fb fc fd ++ wr) sz) (fun u : zq_U => zm_w cA mo 2 k (zk_n k) (zk_t k) u.1 u.2.1 u.2.2.1 u.2.2.2.1 u.2.2.2.2 ++ wr)) (va_A (zm_w cA mo th k (zk_n k) (zk_t k) F fa fb fc fd ++ wr) sz)) 0 0 (va_A (zm_w cA mo th k (zk_n k) (zk_t k) F fa fb fc fd ++ wr) sz) := by
  refine Met.ofW (cc := cX1_join) (maxL := 6) (ret := (some .int)) (by decide) rfl ?_
  intro p e s m args below meth c s₁ B hml hv
  obtain ⟨rfl, hsz, hP, hK, hD0⟩ := hv
  have hx := B.exec
  have hb := B.bytes
  have hr := B.returns
  have hts := atoms_spec (ws := wzX1_join) B.pre
  have hown : s.vm.findClass RX1 = some m.cls := findClass_of_methodNamed B.named
  have hlocks := B.notSynchronized
  subst hsz
  have hD := hD0.self (sz := s.heap.size)
  generalize hAe : va_A (zm_w cA mo th k (zk_n k) (zk_t k) F fa fb fc fd ++ wr) s.heap.size = A at hD ⊢
  have hA : ∀ q : Nat, s.heap.size ≤ q → A q := fun q h => by rw [← hAe]; exact Or.inr h
  have hS : va_S A s.heap s.heap [] := va_S.rf
  have hl := lv_entry ([.ref (mo 0), .int (nI (x1)), .int (x2), .int (nI (x3)), .int (nI (x4))]) (n := 6) (Nat.le_of_ble_eq_true rfl)
  rw [lg_entry_eq]
  generalize (lg_sl ([.ref (mo 0), .int (nI (x1)), .int (x2), .int (nI (x3)), .int (nI (x4))]) ++ List.replicate (6 - (lg_sl ([.ref (mo 0), .int (nI (x1)), .int (x2), .int (nI (x3)), .int (nI (x4))])).length) Slot.unset).toArray = ls at hl ⊢
  have hl : lv_has ls 6 [(0, .ref (mo 0)), (1, .int (nI (x1))), (2, .int (x2)), (3, .int (nI (x3))), (4, .int (nI (x4)))] := hl
  obtain ⟨hb1, hb2, hb3, hb4, hb5, hb6, hb7, hb8⟩ := zk_b k hk
  have h36 : ∀ ls, lv_has ls 6 [(0, .ref (mo 0)), (1, .int (nI (x1))), (2, .int (x2)), (3, .int (nI (x3))), (4, .int (nI (x4)))] → W p l e (headSpec wzX1_join (k2_rm 1 20)).room s m ([.ref (mo 0), .int (nI (x1)), .int (x2), .int (nI (x3)), .int (nI (x4))] : List Value).toArray below meth c s.heap [] 0 0 (MQ below (va_Qi (fun r (u : zq_U) => r = nI 0 ∧ u.1 = F) (zw_at (dC, dI) zz_cl ((cA, .int) :: tr) A (fun u : zq_U => zm_w cA mo 2 k (zk_n k) (zk_t k) u.1 u.2.1 u.2.2.1 u.2.2.2.1 u.2.2.2.2 ++ wr)) A) ([.ref (mo 0), .int (nI (x1)), .int (x2), .int (nI (x3)), .int (nI (x4))] : List Value).toArray s 0 0 A) (F0 m 36 ls [.ref (mo 0)]) := by
    intro ls hl
    refine lv_iconst (v := nI 2) hx hb dX1_join_36 (by decide) ?_
    refine lv_goto (tgt := 41) hx hb dX1_join_37 (by decide) ?_
    refine zx_put1 (ws' := (zm_w cA mo 2 k (zk_n k) (zk_t k) F fa fb fc fd ++ wr)) hx hb hts hown hK hP hD hS 0 rfl 0 (by decide) zf_X1_32 rfl (by decide +kernel) (Nat.le_of_ble_eq_true rfl) dX1_join_41 rfl (fun H locs hP hD hS => ?_)
    refine lv_aload_n hx hb dX1_join_44 rfl (lv_at hl 0 rfl) ?_
    refine zx_get1 (v := .int (nI (2))) hx hb hts hown hK hP 0 rfl 0 (by decide) zf_X1_32 rfl dX1_join_45 ?_
    refine zr_ifle (tgt := 53) hx hb dX1_join_48 (by decide) (by omega) (fun hno9 => absurd hno9 (by omega)) (fun _ => ?_)
    refine lv_iconst (v := nI 0) hx hb dX1_join_51 (by decide) ?_
    exact W.iret (v := nI 0) hx hb hr (fun t9 h9 hW9 => ⟨⟨nI 0, (F, fa, fb, fc, fd), rfl, ⟨rfl, rfl⟩, by rw [h9]; exact hP, va_K.moved hW9.alike hK, hD⟩, hS.F h9⟩) hS.2.2 dX1_join_52
  refine lv_aload_n hx hb dX1_join_0 rfl (lv_at hl 0 rfl) ?_
  refine lv_iload_n hx hb dX1_join_1 rfl (lv_at hl 1 rfl) ?_
  refine zr_callq (zx_runS (As := [.int (nI (x1))]) (rest := [.ref (mo 0)]) hx hb hml hts hown (cm_none0 l (dC, dI) zz_cl ((cA, .int) :: tr) (zm_w cA mo th k (zk_n k) (zk_t k) F fa fb fc fd ++ wr) x1 (by omega)) zu_X1_46 rfl rfl ⟨Nat.le_of_ble_eq_true rfl, Nat.le_of_ble_eq_true rfl⟩ (zr_preS hP hK) rfl hl.1 rfl (Nat.le_of_ble_eq_true rfl) dX1_join_2 ⟨Nat.zero_le _, Nat.zero_le _⟩) ?_
  refine zr_ifne (tgt := 23) hx hb dX1_join_5 (by decide) (by omega) (fun hno9 => absurd hno9 (by omega)) (fun _ => ?_)
  refine lv_iload_n hx hb dX1_join_8 rfl (lv_at hl 3 rfl) ?_
  refine zr_callq (zx_runS (As := [.int (nI (x3))]) (rest := [.ref (mo 0)]) hx hb hml hts hown (cm_none0 l (dC, dI) zz_cl ((cA, .int) :: tr) (zm_w cA mo th k (zk_n k) (zk_t k) F fa fb fc fd ++ wr) x3 (by omega)) zu_X1_46 rfl rfl ⟨Nat.le_of_ble_eq_true rfl, Nat.le_of_ble_eq_true rfl⟩ (zr_preS hP hK) rfl hl.1 rfl (Nat.le_of_ble_eq_true rfl) dX1_join_9 ⟨Nat.zero_le _, Nat.zero_le _⟩) ?_
  refine zr_ifne (tgt := 23) hx hb dX1_join_12 (by decide) (by omega) (fun hno9 => absurd hno9 (by omega)) (fun _ => ?_)
  refine lv_iload hx hb dX1_join_15 (lv_at hl 4 rfl) ?_
  refine zr_callq (zx_runS (As := [.int (nI (x4))]) (rest := [.ref (mo 0)]) hx hb hml hts hown (cm_none0 l (dC, dI) zz_cl ((cA, .int) :: tr) (zm_w cA mo th k (zk_n k) (zk_t k) F fa fb fc fd ++ wr) x4 (by omega)) zu_X1_46 rfl rfl ⟨Nat.le_of_ble_eq_true rfl, Nat.le_of_ble_eq_true rfl⟩ (zr_preS hP hK) rfl hl.1 rfl (Nat.le_of_ble_eq_true rfl) dX1_join_17 ⟨Nat.zero_le _, Nat.zero_le _⟩) ?_
  refine zr_ifeq (tgt := 27) hx hb dX1_join_20 (by decide) (by omega) (fun _ => ?_) (fun hno9 => absurd hno9 (by omega))
  refine lv_iload_n hx hb dX1_join_27 rfl (lv_at hl 2 rfl) ?_
  refine lv_if_lt (tgt := 36) hx hb dX1_join_28 (by decide) (fun _ => h36 ls hl) (fun hn0 => ?_)
  refine lv_iload_n hx hb dX1_join_31 rfl (lv_at hl 2 rfl) ?_
  refine lv_iconst (v := nI 3) hx hb dX1_join_32 (by decide) ?_
  refine lv_icmp_le (tgt := 40) hx hb dX1_join_33 (by decide) (fun hh => absurd hh (hbad.elim (fun h9 => absurd h9 hn0) (fun h9 => Int32.not_le.mpr h9))) (fun _ => h36 ls hl)
set_option maxHeartbeats 4000000 in
set_option maxRecDepth 100000 in
/-- X1_join -/
theorem cm_join0 (l : Launch) (dC : Nat → ClassId) (dI : Nat → Nat → Nat) (cA : ClassId) (tr : List (ClassId × FieldType)) (wr : va_W) (mo : Nat → Nat) (th k : Nat) (F fa fb fc fd : Nat → Nat) (hk : k < 4) (sz : Nat) (x1 : Nat) (hx1 : x1 < 16) (x3 : Nat) (hx3 : x3 < 16) (x4 : Nat) (hx4 : x4 < 16) (hF : ∀ r j, r < 16 → j < zk_n k → F (32 * r + j) < zk_t k)  : Met l yX1_join wzX1_join (k2_rm 4 93) (zw_pre (dC, dI) zz_cl ((cA, .int) :: tr) (zm_w cA mo th k (zk_n k) (zk_t k) F fa fb fc fd ++ wr) sz [.ref (mo 0), .int (nI (x1)), .int (nI (0)), .int (nI (x3)), .int (nI (x4))]) (va_Qi (fun r (u : zq_U) => r = nI (zq_zc (fun i => zq_j (zk_t k) 0 (zq_av k (zq_rw F x3) i) (zq_av k (zq_rw F x4) i)) (zk_n k)) ∧ zq_fr k F x1 (fun i => zq_j (zk_t k) 0 (zq_av k (zq_rw F x3) i) (zq_av k (zq_rw F x4) i)) u.1) (zw_at (dC, dI) zz_cl ((cA, .int) :: tr) (va_A (zm_w cA mo th k (zk_n k) (zk_t k) F fa fb fc fd ++ wr) sz) (fun u : zq_U => zm_w cA mo 0 k (zk_n k) (zk_t k) u.1 u.2.1 u.2.2.1 u.2.2.2.1 u.2.2.2.2 ++ wr)) (va_A (zm_w cA mo th k (zk_n k) (zk_t k) F fa fb fc fd ++ wr) sz)) 0 0 (va_A (zm_w cA mo th k (zk_n k) (zk_t k) F fa fb fc fd ++ wr) sz) := by
  refine Met.ofW (cc := cX1_join) (maxL := 6) (ret := (some .int)) (by decide) rfl ?_
  intro p e s m args below meth c s₁ B hml hv
  obtain ⟨rfl, hsz, hP, hK, hD0⟩ := hv
  have hx := B.exec
  have hb := B.bytes
  have hr := B.returns
  have hts := atoms_spec (ws := wzX1_join) B.pre
  have hown : s.vm.findClass RX1 = some m.cls := findClass_of_methodNamed B.named
  have hlocks := B.notSynchronized
  subst hsz
  have hD := hD0.self (sz := s.heap.size)
  generalize hAe : va_A (zm_w cA mo th k (zk_n k) (zk_t k) F fa fb fc fd ++ wr) s.heap.size = A at hD ⊢
  have hA : ∀ q : Nat, s.heap.size ≤ q → A q := fun q h => by rw [← hAe]; exact Or.inr h
  have hS : va_S A s.heap s.heap [] := va_S.rf
  have hl := lv_entry ([.ref (mo 0), .int (nI (x1)), .int (nI (0)), .int (nI (x3)), .int (nI (x4))]) (n := 6) (Nat.le_of_ble_eq_true rfl)
  rw [lg_entry_eq]
  generalize (lg_sl ([.ref (mo 0), .int (nI (x1)), .int (nI (0)), .int (nI (x3)), .int (nI (x4))]) ++ List.replicate (6 - (lg_sl ([.ref (mo 0), .int (nI (x1)), .int (nI (0)), .int (nI (x3)), .int (nI (x4))])).length) Slot.unset).toArray = ls at hl ⊢
  have hl : lv_has ls 6 [(0, .ref (mo 0)), (1, .int (nI (x1))), (2, .int (nI (0))), (3, .int (nI (x3))), (4, .int (nI (x4)))] := hl
  obtain ⟨hb1, hb2, hb3, hb4, hb5, hb6, hb7, hb8⟩ := zk_b k hk
  refine lv_aload_n hx hb dX1_join_0 rfl (lv_at hl 0 rfl) ?_
  refine lv_iload_n hx hb dX1_join_1 rfl (lv_at hl 1 rfl) ?_
  refine zr_callq (zx_runS (As := [.int (nI (x1))]) (rest := [.ref (mo 0)]) hx hb hml hts hown (cm_none0 l (dC, dI) zz_cl ((cA, .int) :: tr) (zm_w cA mo th k (zk_n k) (zk_t k) F fa fb fc fd ++ wr) x1 (by omega)) zu_X1_46 rfl rfl ⟨Nat.le_of_ble_eq_true rfl, Nat.le_of_ble_eq_true rfl⟩ (zr_preS hP hK) rfl hl.1 rfl (Nat.le_of_ble_eq_true rfl) dX1_join_2 ⟨Nat.zero_le _, Nat.zero_le _⟩) ?_
  refine zr_ifne (tgt := 23) hx hb dX1_join_5 (by decide) (by omega) (fun hno9 => absurd hno9 (by omega)) (fun _ => ?_)
  refine lv_iload_n hx hb dX1_join_8 rfl (lv_at hl 3 rfl) ?_
  refine zr_callq (zx_runS (As := [.int (nI (x3))]) (rest := [.ref (mo 0)]) hx hb hml hts hown (cm_none0 l (dC, dI) zz_cl ((cA, .int) :: tr) (zm_w cA mo th k (zk_n k) (zk_t k) F fa fb fc fd ++ wr) x3 (by omega)) zu_X1_46 rfl rfl ⟨Nat.le_of_ble_eq_true rfl, Nat.le_of_ble_eq_true rfl⟩ (zr_preS hP hK) rfl hl.1 rfl (Nat.le_of_ble_eq_true rfl) dX1_join_9 ⟨Nat.zero_le _, Nat.zero_le _⟩) ?_
  refine zr_ifne (tgt := 23) hx hb dX1_join_12 (by decide) (by omega) (fun hno9 => absurd hno9 (by omega)) (fun _ => ?_)
  refine lv_iload hx hb dX1_join_15 (lv_at hl 4 rfl) ?_
  refine zr_callq (zx_runS (As := [.int (nI (x4))]) (rest := [.ref (mo 0)]) hx hb hml hts hown (cm_none0 l (dC, dI) zz_cl ((cA, .int) :: tr) (zm_w cA mo th k (zk_n k) (zk_t k) F fa fb fc fd ++ wr) x4 (by omega)) zu_X1_46 rfl rfl ⟨Nat.le_of_ble_eq_true rfl, Nat.le_of_ble_eq_true rfl⟩ (zr_preS hP hK) rfl hl.1 rfl (Nat.le_of_ble_eq_true rfl) dX1_join_17 ⟨Nat.zero_le _, Nat.zero_le _⟩) ?_
  refine zr_ifeq (tgt := 27) hx hb dX1_join_20 (by decide) (by omega) (fun _ => ?_) (fun hno9 => absurd hno9 (by omega))
  refine lv_iload_n hx hb dX1_join_27 rfl (lv_at hl 2 rfl) ?_
  refine zr_iflt (tgt := 36) hx hb dX1_join_28 (by decide) (by omega) ?_
  refine lv_iload_n hx hb dX1_join_31 rfl (lv_at hl 2 rfl) ?_
  refine lv_iconst (v := nI 3) hx hb dX1_join_32 (by decide) ?_
  refine zr_ile (tgt := 40) hx hb dX1_join_33 (by decide) (by omega) (by omega) (fun _ => ?_) (fun hno9 => absurd hno9 (by omega))
  refine lv_iconst (v := nI 0) hx hb dX1_join_40 (by decide) ?_
  refine zx_put1 (ws' := (zm_w cA mo 0 k (zk_n k) (zk_t k) F fa fb fc fd ++ wr)) hx hb hts hown hK hP hD hS 0 rfl 0 (by decide) zf_X1_32 rfl (by decide +kernel) (Nat.le_of_ble_eq_true rfl) dX1_join_41 rfl (fun H locs hP hD hS => ?_)
  refine lv_aload_n hx hb dX1_join_44 rfl (lv_at hl 0 rfl) ?_
  refine zx_get1 (v := .int (nI (0))) hx hb hts hown hK hP 0 rfl 0 (by decide) zf_X1_32 rfl dX1_join_45 ?_
  refine zr_ifle (tgt := 53) hx hb dX1_join_48 (by decide) (by omega) (fun _ => ?_) (fun hno9 => absurd hno9 (by omega))
  refine lv_aload_n hx hb dX1_join_53 rfl (lv_at hl 0 rfl) ?_
  refine lv_iload_n hx hb dX1_join_54 rfl (lv_at hl 3 rfl) ?_
  refine lv_aload_n hx hb dX1_join_55 rfl (lv_at hl 0 rfl) ?_
  refine zx_get1 (v := .ref (mo 2)) hx hb hts hown hK hP 0 rfl 5 (by decide) zf_X1_20 rfl dX1_join_56 ?_
  refine zw_callv (w' := fun u : Nat → Nat => zm_w cA mo 0 k (zk_n k) (zk_t k) F u fb fc fd ++ wr) hD hS hA (zx_runV (As := [.int (nI (x3)), .ref (mo 2)]) (rest := []) hx hb hml hts hown (cm_take2 l dC dI cA tr wr mo 0 k F fa fb fc fd hk H.size x3 (by omega)) zv_X1_62 rfl rfl ⟨Nat.le_of_ble_eq_true rfl, Nat.le_of_ble_eq_true rfl⟩ (zw_preV (q := (RX1, TM1, 9)) (ci := 1) (q0 := 0) hP hK hD rfl rfl) rfl hl.1 rfl (Nat.le_of_ble_eq_true rfl) dX1_join_59 ⟨Nat.zero_le _, Nat.zero_le _⟩) (fun ua H locs hua hP hD hS => ?_)
  have hlua : ∀ j, j < zk_n k → ua j < zk_t k := fun j hj => by rw [hua j hj]; exact hF x3 j (by omega) hj
  refine lv_aload_n hx hb dX1_join_62 rfl (lv_at hl 0 rfl) ?_
  refine lv_iload hx hb dX1_join_63 (lv_at hl 4 rfl) ?_
  refine lv_aload_n hx hb dX1_join_65 rfl (lv_at hl 0 rfl) ?_
  refine zx_get1 (v := .ref (mo 3)) hx hb hts hown hK hP 0 rfl 6 (by decide) zf_X1_23 rfl dX1_join_66 ?_
  refine zw_callv (w' := fun u : Nat → Nat => zm_w cA mo 0 k (zk_n k) (zk_t k) F ua u fc fd ++ wr) hD hS hA (zx_runV (As := [.int (nI (x4)), .ref (mo 3)]) (rest := []) hx hb hml hts hown (cm_take3 l dC dI cA tr wr mo 0 k F ua fb fc fd hk H.size x4 (by omega)) zv_X1_62 rfl rfl ⟨Nat.le_of_ble_eq_true rfl, Nat.le_of_ble_eq_true rfl⟩ (zw_preV (q := (RX1, TM1, 9)) (ci := 1) (q0 := 0) hP hK hD rfl rfl) rfl hl.1 rfl (Nat.le_of_ble_eq_true rfl) dX1_join_69 ⟨Nat.zero_le _, Nat.zero_le _⟩) (fun ub H locs hub hP hD hS => ?_)
  have hlub : ∀ j, j < zk_n k → ub j < zk_t k := fun j hj => by rw [hub j hj]; exact hF x4 j (by omega) hj
  refine lv_iload_n hx hb dX1_join_72 rfl (lv_at hl 2 rfl) ?_
  refine lv_iconst (v := nI 3) hx hb dX1_join_73 (by decide) ?_
  refine zr_ine (tgt := 94) hx hb dX1_join_74 (by decide) (by omega) (by omega) (fun _ => ?_) (fun hno9 => absurd hno9 (by omega))
  refine lv_iload_n hx hb dX1_join_94 rfl (lv_at hl 2 rfl) ?_
  refine lv_iconst (v := nI 2) hx hb dX1_join_95 (by decide) ?_
  refine zr_ige (tgt := 170) hx hb dX1_join_96 (by decide) (by omega) (by omega) (fun hno9 => absurd hno9 (by omega)) (fun _ => ?_)
  refine lv_iconst (v := nI 0) hx hb dX1_join_99 (by decide) ?_
  refine lv_istore (lv' := [(5, .int (nI (0))), (0, .ref (mo 0)), (1, .int (nI (x1))), (2, .int (nI (0))), (3, .int (nI (x3))), (4, .int (nI (x4)))]) hx hb dX1_join_100 hl (by decide) rfl (fun ls hl => ?_)
  have loop : ∀ (d i : Nat), i + d = zk_n k → ∀ (uc : Nat → Nat), (∀ j, j < i → uc j = (ua j + ub j) % zk_t k) → ∀ (H : Heap) (locs : List Loc), va_P (dC, dI) zz_cl (zm_w cA mo 0 k (zk_n k) (zk_t k) F ua ub uc fd ++ wr) H → va_D A (zm_w cA mo 0 k (zk_n k) (zk_t k) F ua ub uc fd ++ wr) → va_S A s.heap H locs → ∀ ls, lv_has ls 6 [(0, .ref (mo 0)), (1, .int (nI (x1))), (2, .int (nI (0))), (5, .int (nI (i)))] → W p l e (headSpec wzX1_join (k2_rm 4 93)).room s m ([.ref (mo 0), .int (nI (x1)), .int (nI (0)), .int (nI (x3)), .int (nI (x4))] : List Value).toArray below meth c H locs 0 0 (MQ below (va_Qi (fun r (u : zq_U) => r = nI (zq_zc (fun i => zq_j (zk_t k) 0 (zq_av k (zq_rw F x3) i) (zq_av k (zq_rw F x4) i)) (zk_n k)) ∧ zq_fr k F x1 (fun i => zq_j (zk_t k) 0 (zq_av k (zq_rw F x3) i) (zq_av k (zq_rw F x4) i)) u.1) (zw_at (dC, dI) zz_cl ((cA, .int) :: tr) A (fun u : zq_U => zm_w cA mo 0 k (zk_n k) (zk_t k) u.1 u.2.1 u.2.2.1 u.2.2.2.1 u.2.2.2.2 ++ wr)) A) ([.ref (mo 0), .int (nI (x1)), .int (nI (0)), .int (nI (x3)), .int (nI (x4))] : List Value).toArray s 0 0 A) (F0 m 102 ls []) := by
    intro d
    induction d with
    | zero =>
      intro i hi uc hinv H locs hP hD hS ls hl
      have hi : i = zk_n k := by omega
      rw [hi] at hinv
      refine lv_iload hx hb dX1_join_102 (lv_at hl 3 rfl) ?_
      refine lv_aload_n hx hb dX1_join_104 rfl (lv_at hl 0 rfl) ?_
      refine zx_get1 (v := .int (nI (zk_n k))) hx hb hts hown hK hP 0 rfl 2 (by decide) zf_X1_7 rfl dX1_join_105 ?_
      refine zr_ige (tgt := 167) hx hb dX1_join_108 (by decide) (by omega) (by omega) (fun _ => ?_) (fun hno9 => absurd hno9 (by omega))
      have hluc : ∀ j, j < zk_n k → uc j < zk_t k := fun j hj => by rw [hinv j hj]; exact Nat.mod_lt _ (by omega)
      have hwc : ∀ i, i < zk_n k → zq_av k uc i = zq_j (zk_t k) 0 (zq_av k (zq_rw F x3) i) (zq_av k (zq_rw F x4) i) := fun i hi => by rw [zq_av_lin0 hinv i, zq_av_congr hua, zq_av_congr hub]; rfl
      refine lv_goto (tgt := 204) hx hb dX1_join_167 (by decide) ?_
      refine lv_aload_n hx hb dX1_join_204 rfl (lv_at hl 0 rfl) ?_
      refine lv_iload_n hx hb dX1_join_205 rfl (lv_at hl 1 rfl) ?_
      refine lv_aload_n hx hb dX1_join_206 rfl (lv_at hl 0 rfl) ?_
      refine zx_get1 (v := .ref (mo 4)) hx hb hts hown hK hP 0 rfl 7 (by decide) zf_X1_26 rfl dX1_join_207 ?_
      refine zw_callv (w' := fun u : Nat → Nat => zm_w cA mo 0 k (zk_n k) (zk_t k) u ua ub uc fd ++ wr) hD hS hA (zx_runV (As := [.int (nI (x1)), .ref (mo 4)]) (rest := []) hx hb hml hts hown (cm_put4 l dC dI cA tr wr mo 0 k F ua ub uc fd hk H.size x1 (by omega)) zv_X1_70 rfl rfl ⟨Nat.le_of_ble_eq_true rfl, Nat.le_of_ble_eq_true rfl⟩ (zw_preV (q := (RX1, TM1, 9)) (ci := 1) (q0 := 0) hP hK hD rfl rfl) rfl hl.1 rfl (Nat.le_of_ble_eq_true rfl) dX1_join_210 ⟨Nat.zero_le _, Nat.zero_le _⟩) (fun uF H locs huF hP hD hS => ?_)
      refine lv_aload_n hx hb dX1_join_213 rfl (lv_at hl 0 rfl) ?_
      refine lv_aload_n hx hb dX1_join_214 rfl (lv_at hl 0 rfl) ?_
      refine zx_get1 (v := .ref (mo 4)) hx hb hts hown hK hP 0 rfl 7 (by decide) zf_X1_26 rfl dX1_join_215 ?_
      refine zr_callq (zx_runV (As := [.ref (mo 4)]) (rest := []) hx hb hml hts hown (cm_zeros l dC dI cA tr wr mo 0 k uF ua ub uc fd hk 4 (mo 4) uc rfl hluc) zv_X1_77 rfl rfl ⟨Nat.le_of_ble_eq_true rfl, Nat.le_of_ble_eq_true rfl⟩ (zr_preV (q := (RX1, TM1, 9)) (ci := 1) (q0 := 0) hP hK rfl rfl) rfl hl.1 rfl (Nat.le_of_ble_eq_true rfl) dX1_join_218 ⟨Nat.zero_le _, Nat.zero_le _⟩) ?_
      have hzc9 := zq_zc_le (zq_av k uc) (zk_n k)
      exact W.iret (v := nI (zq_zc (zq_av k uc) (zk_n k))) hx hb hr (fun t9 h9 hW9 => ⟨⟨nI (zq_zc (zq_av k uc) (zk_n k)), (uF, ua, ub, uc, fd), rfl, ⟨congrArg nI (zq_zc_congr (fun i hi => hwc i hi)), zq_fr_put hk huF hluc (fun i hi => hwc i hi)⟩, by rw [h9]; exact hP, va_K.moved hW9.alike hK, hD⟩, hS.F h9⟩) hS.2.2 dX1_join_221
    | succ d ih =>
      intro i hi uc hinv H locs hP hD hS ls hl
      refine lv_iload hx hb dX1_join_102 (lv_at hl 3 rfl) ?_
      refine lv_aload_n hx hb dX1_join_104 rfl (lv_at hl 0 rfl) ?_
      refine zx_get1 (v := .int (nI (zk_n k))) hx hb hts hown hK hP 0 rfl 2 (by decide) zf_X1_7 rfl dX1_join_105 ?_
      refine zr_ige (tgt := 167) hx hb dX1_join_108 (by decide) (by omega) (by omega) (fun hno9 => absurd hno9 (by omega)) (fun _ => ?_)
      have hai := hlua i (by omega)
      have hbi := hlub i (by omega)
      refine lv_aload_n hx hb dX1_join_111 rfl (lv_at hl 0 rfl) ?_
      refine zx_get1 (v := .ref (mo 4)) hx hb hts hown hK hP 0 rfl 7 (by decide) zf_X1_26 rfl dX1_join_112 ?_
      refine lv_iload hx hb dX1_join_115 (lv_at hl 3 rfl) ?_
      refine lv_aload_n hx hb dX1_join_117 rfl (lv_at hl 0 rfl) ?_
      refine lv_iload_n hx hb dX1_join_118 rfl (lv_at hl 2 rfl) ?_
      refine zr_ifne (tgt := 141) hx hb dX1_join_119 (by decide) (by omega) (fun hno9 => absurd hno9 (by omega)) (fun _ => ?_)
      refine lv_aload_n hx hb dX1_join_122 rfl (lv_at hl 0 rfl) ?_
      refine zx_get1 (v := .ref (mo 2)) hx hb hts hown hK hP 0 rfl 5 (by decide) zf_X1_20 rfl dX1_join_123 ?_
      refine lv_iload hx hb dX1_join_126 (lv_at hl 3 rfl) ?_
      refine zr_iald (y := ua i) hx hb hK hP 2 0 rfl rfl (by omega) (by decide) rfl dX1_join_128 ?_
      refine lv_aload_n hx hb dX1_join_129 rfl (lv_at hl 0 rfl) ?_
      refine zx_get1 (v := .ref (mo 3)) hx hb hts hown hK hP 0 rfl 6 (by decide) zf_X1_23 rfl dX1_join_130 ?_
      refine lv_iload hx hb dX1_join_133 (lv_at hl 3 rfl) ?_
      refine zr_iald (y := ub i) hx hb hK hP 3 0 rfl rfl (by omega) (by decide) rfl dX1_join_135 ?_
      refine zr_iadd hx hb dX1_join_136 ?_
      refine zr_i2l hx hb dX1_join_137 (by omega) ?_
      refine lv_goto (tgt := 157) hx hb dX1_join_138 (by decide) ?_
      rw [zi_lN (ua i + ub i)]
      refine zr_callq (zx_runV (As := [.long (lN ((ua i) + (ub i)))]) (rest := [.int (nI (i)), .ref (mo 4)]) hx hb hml hts hown (cm_of l dC dI cA tr wr mo 0 k F ua ub uc fd hk (((ua i + ub i : Nat) : Int)) ((ua i + ub i) % zk_t k) (by omega) (by omega) (by rw [← Int.natCast_emod])) zv_X1_54 rfl rfl ⟨Nat.le_of_ble_eq_true rfl, Nat.le_of_ble_eq_true rfl⟩ (zr_preV (q := (RX1, TM1, 9)) (ci := 1) (q0 := 0) hP hK rfl rfl) rfl hl.1 rfl (Nat.le_of_ble_eq_true rfl) dX1_join_157 ⟨Nat.zero_le _, Nat.zero_le _⟩) ?_
      refine zr_iast (ws' := (zm_w cA mo 0 k (zk_n k) (zk_t k) F ua ub (zq_up uc i ((ua i + ub i) % zk_t k)) fd ++ wr)) hx hb hK hP hD hS 4 0 rfl rfl (by omega) (by decide) dX1_join_160 rfl (fun H locs hP hD hS => ?_)
      refine zr_iinc (k := 3) (lv' := [(5, .int (nI (i + 1))), (0, .ref (mo 0)), (1, .int (nI (x1))), (2, .int (nI (0)))]) hx hb dX1_join_161 hl rfl (by decide) rfl (fun ls hl => ?_)
      refine lv_goto (tgt := 102) hx hb dX1_join_164 (by decide) ?_
      refine ih (i + 1) (by omega) _ (fun j hj => ?_) H locs hP hD hS ls (lv_sub hl [1, 2, 3, 0] rfl)
      by_cases e9 : j = i
      · rw [e9, zq_up_s]
      · rw [zq_up_n _ _ e9]; exact hinv j (by omega)
  exact loop (zk_n k) 0 (by omega) fc (fun j hj => absurd hj (Nat.not_lt_zero _)) H locs hP hD hS ls (lv_sub hl [1, 2, 3, 0] rfl)
set_option maxHeartbeats 4000000 in
set_option maxRecDepth 100000 in
/-- X1_join -/
theorem cm_join1 (l : Launch) (dC : Nat → ClassId) (dI : Nat → Nat → Nat) (cA : ClassId) (tr : List (ClassId × FieldType)) (wr : va_W) (mo : Nat → Nat) (th k : Nat) (F fa fb fc fd : Nat → Nat) (hk : k < 4) (sz : Nat) (x1 : Nat) (hx1 : x1 < 16) (x3 : Nat) (hx3 : x3 < 16) (x4 : Nat) (hx4 : x4 < 16) (hF : ∀ r j, r < 16 → j < zk_n k → F (32 * r + j) < zk_t k)  : Met l yX1_join wzX1_join (k2_rm 4 93) (zw_pre (dC, dI) zz_cl ((cA, .int) :: tr) (zm_w cA mo th k (zk_n k) (zk_t k) F fa fb fc fd ++ wr) sz [.ref (mo 0), .int (nI (x1)), .int (nI (1)), .int (nI (x3)), .int (nI (x4))]) (va_Qi (fun r (u : zq_U) => r = nI (zq_zc (fun i => zq_j (zk_t k) 1 (zq_av k (zq_rw F x3) i) (zq_av k (zq_rw F x4) i)) (zk_n k)) ∧ zq_fr k F x1 (fun i => zq_j (zk_t k) 1 (zq_av k (zq_rw F x3) i) (zq_av k (zq_rw F x4) i)) u.1) (zw_at (dC, dI) zz_cl ((cA, .int) :: tr) (va_A (zm_w cA mo th k (zk_n k) (zk_t k) F fa fb fc fd ++ wr) sz) (fun u : zq_U => zm_w cA mo 0 k (zk_n k) (zk_t k) u.1 u.2.1 u.2.2.1 u.2.2.2.1 u.2.2.2.2 ++ wr)) (va_A (zm_w cA mo th k (zk_n k) (zk_t k) F fa fb fc fd ++ wr) sz)) 0 0 (va_A (zm_w cA mo th k (zk_n k) (zk_t k) F fa fb fc fd ++ wr) sz) := by
  refine Met.ofW (cc := cX1_join) (maxL := 6) (ret := (some .int)) (by decide) rfl ?_
  intro p e s m args below meth c s₁ B hml hv
  obtain ⟨rfl, hsz, hP, hK, hD0⟩ := hv
  have hx := B.exec
  have hb := B.bytes
  have hr := B.returns
  have hts := atoms_spec (ws := wzX1_join) B.pre
  have hown : s.vm.findClass RX1 = some m.cls := findClass_of_methodNamed B.named
  have hlocks := B.notSynchronized
  subst hsz
  have hD := hD0.self (sz := s.heap.size)
  generalize hAe : va_A (zm_w cA mo th k (zk_n k) (zk_t k) F fa fb fc fd ++ wr) s.heap.size = A at hD ⊢
  have hA : ∀ q : Nat, s.heap.size ≤ q → A q := fun q h => by rw [← hAe]; exact Or.inr h
  have hS : va_S A s.heap s.heap [] := va_S.rf
  have hl := lv_entry ([.ref (mo 0), .int (nI (x1)), .int (nI (1)), .int (nI (x3)), .int (nI (x4))]) (n := 6) (Nat.le_of_ble_eq_true rfl)
  rw [lg_entry_eq]
  generalize (lg_sl ([.ref (mo 0), .int (nI (x1)), .int (nI (1)), .int (nI (x3)), .int (nI (x4))]) ++ List.replicate (6 - (lg_sl ([.ref (mo 0), .int (nI (x1)), .int (nI (1)), .int (nI (x3)), .int (nI (x4))])).length) Slot.unset).toArray = ls at hl ⊢
  have hl : lv_has ls 6 [(0, .ref (mo 0)), (1, .int (nI (x1))), (2, .int (nI (1))), (3, .int (nI (x3))), (4, .int (nI (x4)))] := hl
  obtain ⟨hb1, hb2, hb3, hb4, hb5, hb6, hb7, hb8⟩ := zk_b k hk
  refine lv_aload_n hx hb dX1_join_0 rfl (lv_at hl 0 rfl) ?_
  refine lv_iload_n hx hb dX1_join_1 rfl (lv_at hl 1 rfl) ?_
  refine zr_callq (zx_runS (As := [.int (nI (x1))]) (rest := [.ref (mo 0)]) hx hb hml hts hown (cm_none0 l (dC, dI) zz_cl ((cA, .int) :: tr) (zm_w cA mo th k (zk_n k) (zk_t k) F fa fb fc fd ++ wr) x1 (by omega)) zu_X1_46 rfl rfl ⟨Nat.le_of_ble_eq_true rfl, Nat.le_of_ble_eq_true rfl⟩ (zr_preS hP hK) rfl hl.1 rfl (Nat.le_of_ble_eq_true rfl) dX1_join_2 ⟨Nat.zero_le _, Nat.zero_le _⟩) ?_
  refine zr_ifne (tgt := 23) hx hb dX1_join_5 (by decide) (by omega) (fun hno9 => absurd hno9 (by omega)) (fun _ => ?_)
  refine lv_iload_n hx hb dX1_join_8 rfl (lv_at hl 3 rfl) ?_
  refine zr_callq (zx_runS (As := [.int (nI (x3))]) (rest := [.ref (mo 0)]) hx hb hml hts hown (cm_none0 l (dC, dI) zz_cl ((cA, .int) :: tr) (zm_w cA mo th k (zk_n k) (zk_t k) F fa fb fc fd ++ wr) x3 (by omega)) zu_X1_46 rfl rfl ⟨Nat.le_of_ble_eq_true rfl, Nat.le_of_ble_eq_true rfl⟩ (zr_preS hP hK) rfl hl.1 rfl (Nat.le_of_ble_eq_true rfl) dX1_join_9 ⟨Nat.zero_le _, Nat.zero_le _⟩) ?_
  refine zr_ifne (tgt := 23) hx hb dX1_join_12 (by decide) (by omega) (fun hno9 => absurd hno9 (by omega)) (fun _ => ?_)
  refine lv_iload hx hb dX1_join_15 (lv_at hl 4 rfl) ?_
  refine zr_callq (zx_runS (As := [.int (nI (x4))]) (rest := [.ref (mo 0)]) hx hb hml hts hown (cm_none0 l (dC, dI) zz_cl ((cA, .int) :: tr) (zm_w cA mo th k (zk_n k) (zk_t k) F fa fb fc fd ++ wr) x4 (by omega)) zu_X1_46 rfl rfl ⟨Nat.le_of_ble_eq_true rfl, Nat.le_of_ble_eq_true rfl⟩ (zr_preS hP hK) rfl hl.1 rfl (Nat.le_of_ble_eq_true rfl) dX1_join_17 ⟨Nat.zero_le _, Nat.zero_le _⟩) ?_
  refine zr_ifeq (tgt := 27) hx hb dX1_join_20 (by decide) (by omega) (fun _ => ?_) (fun hno9 => absurd hno9 (by omega))
  refine lv_iload_n hx hb dX1_join_27 rfl (lv_at hl 2 rfl) ?_
  refine zr_iflt (tgt := 36) hx hb dX1_join_28 (by decide) (by omega) ?_
  refine lv_iload_n hx hb dX1_join_31 rfl (lv_at hl 2 rfl) ?_
  refine lv_iconst (v := nI 3) hx hb dX1_join_32 (by decide) ?_
  refine zr_ile (tgt := 40) hx hb dX1_join_33 (by decide) (by omega) (by omega) (fun _ => ?_) (fun hno9 => absurd hno9 (by omega))
  refine lv_iconst (v := nI 0) hx hb dX1_join_40 (by decide) ?_
  refine zx_put1 (ws' := (zm_w cA mo 0 k (zk_n k) (zk_t k) F fa fb fc fd ++ wr)) hx hb hts hown hK hP hD hS 0 rfl 0 (by decide) zf_X1_32 rfl (by decide +kernel) (Nat.le_of_ble_eq_true rfl) dX1_join_41 rfl (fun H locs hP hD hS => ?_)
  refine lv_aload_n hx hb dX1_join_44 rfl (lv_at hl 0 rfl) ?_
  refine zx_get1 (v := .int (nI (0))) hx hb hts hown hK hP 0 rfl 0 (by decide) zf_X1_32 rfl dX1_join_45 ?_
  refine zr_ifle (tgt := 53) hx hb dX1_join_48 (by decide) (by omega) (fun _ => ?_) (fun hno9 => absurd hno9 (by omega))
  refine lv_aload_n hx hb dX1_join_53 rfl (lv_at hl 0 rfl) ?_
  refine lv_iload_n hx hb dX1_join_54 rfl (lv_at hl 3 rfl) ?_
  refine lv_aload_n hx hb dX1_join_55 rfl (lv_at hl 0 rfl) ?_
  refine zx_get1 (v := .ref (mo 2)) hx hb hts hown hK hP 0 rfl 5 (by decide) zf_X1_20 rfl dX1_join_56 ?_
  refine zw_callv (w' := fun u : Nat → Nat => zm_w cA mo 0 k (zk_n k) (zk_t k) F u fb fc fd ++ wr) hD hS hA (zx_runV (As := [.int (nI (x3)), .ref (mo 2)]) (rest := []) hx hb hml hts hown (cm_take2 l dC dI cA tr wr mo 0 k F fa fb fc fd hk H.size x3 (by omega)) zv_X1_62 rfl rfl ⟨Nat.le_of_ble_eq_true rfl, Nat.le_of_ble_eq_true rfl⟩ (zw_preV (q := (RX1, TM1, 9)) (ci := 1) (q0 := 0) hP hK hD rfl rfl) rfl hl.1 rfl (Nat.le_of_ble_eq_true rfl) dX1_join_59 ⟨Nat.zero_le _, Nat.zero_le _⟩) (fun ua H locs hua hP hD hS => ?_)
  have hlua : ∀ j, j < zk_n k → ua j < zk_t k := fun j hj => by rw [hua j hj]; exact hF x3 j (by omega) hj
  refine lv_aload_n hx hb dX1_join_62 rfl (lv_at hl 0 rfl) ?_
  refine lv_iload hx hb dX1_join_63 (lv_at hl 4 rfl) ?_
  refine lv_aload_n hx hb dX1_join_65 rfl (lv_at hl 0 rfl) ?_
  refine zx_get1 (v := .ref (mo 3)) hx hb hts hown hK hP 0 rfl 6 (by decide) zf_X1_23 rfl dX1_join_66 ?_
  refine zw_callv (w' := fun u : Nat → Nat => zm_w cA mo 0 k (zk_n k) (zk_t k) F ua u fc fd ++ wr) hD hS hA (zx_runV (As := [.int (nI (x4)), .ref (mo 3)]) (rest := []) hx hb hml hts hown (cm_take3 l dC dI cA tr wr mo 0 k F ua fb fc fd hk H.size x4 (by omega)) zv_X1_62 rfl rfl ⟨Nat.le_of_ble_eq_true rfl, Nat.le_of_ble_eq_true rfl⟩ (zw_preV (q := (RX1, TM1, 9)) (ci := 1) (q0 := 0) hP hK hD rfl rfl) rfl hl.1 rfl (Nat.le_of_ble_eq_true rfl) dX1_join_69 ⟨Nat.zero_le _, Nat.zero_le _⟩) (fun ub H locs hub hP hD hS => ?_)
  have hlub : ∀ j, j < zk_n k → ub j < zk_t k := fun j hj => by rw [hub j hj]; exact hF x4 j (by omega) hj
  refine lv_iload_n hx hb dX1_join_72 rfl (lv_at hl 2 rfl) ?_
  refine lv_iconst (v := nI 3) hx hb dX1_join_73 (by decide) ?_
  refine zr_ine (tgt := 94) hx hb dX1_join_74 (by decide) (by omega) (by omega) (fun _ => ?_) (fun hno9 => absurd hno9 (by omega))
  refine lv_iload_n hx hb dX1_join_94 rfl (lv_at hl 2 rfl) ?_
  refine lv_iconst (v := nI 2) hx hb dX1_join_95 (by decide) ?_
  refine zr_ige (tgt := 170) hx hb dX1_join_96 (by decide) (by omega) (by omega) (fun hno9 => absurd hno9 (by omega)) (fun _ => ?_)
  refine lv_iconst (v := nI 0) hx hb dX1_join_99 (by decide) ?_
  refine lv_istore (lv' := [(5, .int (nI (0))), (0, .ref (mo 0)), (1, .int (nI (x1))), (2, .int (nI (1))), (3, .int (nI (x3))), (4, .int (nI (x4)))]) hx hb dX1_join_100 hl (by decide) rfl (fun ls hl => ?_)
  have loop : ∀ (d i : Nat), i + d = zk_n k → ∀ (uc : Nat → Nat), (∀ j, j < i → uc j = (ua j + zk_t k - ub j) % zk_t k) → ∀ (H : Heap) (locs : List Loc), va_P (dC, dI) zz_cl (zm_w cA mo 0 k (zk_n k) (zk_t k) F ua ub uc fd ++ wr) H → va_D A (zm_w cA mo 0 k (zk_n k) (zk_t k) F ua ub uc fd ++ wr) → va_S A s.heap H locs → ∀ ls, lv_has ls 6 [(0, .ref (mo 0)), (1, .int (nI (x1))), (2, .int (nI (1))), (5, .int (nI (i)))] → W p l e (headSpec wzX1_join (k2_rm 4 93)).room s m ([.ref (mo 0), .int (nI (x1)), .int (nI (1)), .int (nI (x3)), .int (nI (x4))] : List Value).toArray below meth c H locs 0 0 (MQ below (va_Qi (fun r (u : zq_U) => r = nI (zq_zc (fun i => zq_j (zk_t k) 1 (zq_av k (zq_rw F x3) i) (zq_av k (zq_rw F x4) i)) (zk_n k)) ∧ zq_fr k F x1 (fun i => zq_j (zk_t k) 1 (zq_av k (zq_rw F x3) i) (zq_av k (zq_rw F x4) i)) u.1) (zw_at (dC, dI) zz_cl ((cA, .int) :: tr) A (fun u : zq_U => zm_w cA mo 0 k (zk_n k) (zk_t k) u.1 u.2.1 u.2.2.1 u.2.2.2.1 u.2.2.2.2 ++ wr)) A) ([.ref (mo 0), .int (nI (x1)), .int (nI (1)), .int (nI (x3)), .int (nI (x4))] : List Value).toArray s 0 0 A) (F0 m 102 ls []) := by
    intro d
    induction d with
    | zero =>
      intro i hi uc hinv H locs hP hD hS ls hl
      have hi : i = zk_n k := by omega
      rw [hi] at hinv
      refine lv_iload hx hb dX1_join_102 (lv_at hl 3 rfl) ?_
      refine lv_aload_n hx hb dX1_join_104 rfl (lv_at hl 0 rfl) ?_
      refine zx_get1 (v := .int (nI (zk_n k))) hx hb hts hown hK hP 0 rfl 2 (by decide) zf_X1_7 rfl dX1_join_105 ?_
      refine zr_ige (tgt := 167) hx hb dX1_join_108 (by decide) (by omega) (by omega) (fun _ => ?_) (fun hno9 => absurd hno9 (by omega))
      have hluc : ∀ j, j < zk_n k → uc j < zk_t k := fun j hj => by rw [hinv j hj]; exact Nat.mod_lt _ (by omega)
      have hwc : ∀ i, i < zk_n k → zq_av k uc i = zq_j (zk_t k) 1 (zq_av k (zq_rw F x3) i) (zq_av k (zq_rw F x4) i) := fun i hi => by rw [zq_av_lin1 hk hlub hinv i, zq_av_congr hua, zq_av_congr hub]; rfl
      refine lv_goto (tgt := 204) hx hb dX1_join_167 (by decide) ?_
      refine lv_aload_n hx hb dX1_join_204 rfl (lv_at hl 0 rfl) ?_
      refine lv_iload_n hx hb dX1_join_205 rfl (lv_at hl 1 rfl) ?_
      refine lv_aload_n hx hb dX1_join_206 rfl (lv_at hl 0 rfl) ?_
      refine zx_get1 (v := .ref (mo 4)) hx hb hts hown hK hP 0 rfl 7 (by decide) zf_X1_26 rfl dX1_join_207 ?_
      refine zw_callv (w' := fun u : Nat → Nat => zm_w cA mo 0 k (zk_n k) (zk_t k) u ua ub uc fd ++ wr) hD hS hA (zx_runV (As := [.int (nI (x1)), .ref (mo 4)]) (rest := []) hx hb hml hts hown (cm_put4 l dC dI cA tr wr mo 0 k F ua ub uc fd hk H.size x1 (by omega)) zv_X1_70 rfl rfl ⟨Nat.le_of_ble_eq_true rfl, Nat.le_of_ble_eq_true rfl⟩ (zw_preV (q := (RX1, TM1, 9)) (ci := 1) (q0 := 0) hP hK hD rfl rfl) rfl hl.1 rfl (Nat.le_of_ble_eq_true rfl) dX1_join_210 ⟨Nat.zero_le _, Nat.zero_le _⟩) (fun uF H locs huF hP hD hS => ?_)
      refine lv_aload_n hx hb dX1_join_213 rfl (lv_at hl 0 rfl) ?_
      refine lv_aload_n hx hb dX1_join_214 rfl (lv_at hl 0 rfl) ?_
      refine zx_get1 (v := .ref (mo 4)) hx hb hts hown hK hP 0 rfl 7 (by decide) zf_X1_26 rfl dX1_join_215 ?_
      refine zr_callq (zx_runV (As := [.ref (mo 4)]) (rest := []) hx hb hml hts hown (cm_zeros l dC dI cA tr wr mo 0 k uF ua ub uc fd hk 4 (mo 4) uc rfl hluc) zv_X1_77 rfl rfl ⟨Nat.le_of_ble_eq_true rfl, Nat.le_of_ble_eq_true rfl⟩ (zr_preV (q := (RX1, TM1, 9)) (ci := 1) (q0 := 0) hP hK rfl rfl) rfl hl.1 rfl (Nat.le_of_ble_eq_true rfl) dX1_join_218 ⟨Nat.zero_le _, Nat.zero_le _⟩) ?_
      have hzc9 := zq_zc_le (zq_av k uc) (zk_n k)
      exact W.iret (v := nI (zq_zc (zq_av k uc) (zk_n k))) hx hb hr (fun t9 h9 hW9 => ⟨⟨nI (zq_zc (zq_av k uc) (zk_n k)), (uF, ua, ub, uc, fd), rfl, ⟨congrArg nI (zq_zc_congr (fun i hi => hwc i hi)), zq_fr_put hk huF hluc (fun i hi => hwc i hi)⟩, by rw [h9]; exact hP, va_K.moved hW9.alike hK, hD⟩, hS.F h9⟩) hS.2.2 dX1_join_221
    | succ d ih =>
      intro i hi uc hinv H locs hP hD hS ls hl
      refine lv_iload hx hb dX1_join_102 (lv_at hl 3 rfl) ?_
      refine lv_aload_n hx hb dX1_join_104 rfl (lv_at hl 0 rfl) ?_
      refine zx_get1 (v := .int (nI (zk_n k))) hx hb hts hown hK hP 0 rfl 2 (by decide) zf_X1_7 rfl dX1_join_105 ?_
      refine zr_ige (tgt := 167) hx hb dX1_join_108 (by decide) (by omega) (by omega) (fun hno9 => absurd hno9 (by omega)) (fun _ => ?_)
      have hai := hlua i (by omega)
      have hbi := hlub i (by omega)
      refine lv_aload_n hx hb dX1_join_111 rfl (lv_at hl 0 rfl) ?_
      refine zx_get1 (v := .ref (mo 4)) hx hb hts hown hK hP 0 rfl 7 (by decide) zf_X1_26 rfl dX1_join_112 ?_
      refine lv_iload hx hb dX1_join_115 (lv_at hl 3 rfl) ?_
      refine lv_aload_n hx hb dX1_join_117 rfl (lv_at hl 0 rfl) ?_
      refine lv_iload_n hx hb dX1_join_118 rfl (lv_at hl 2 rfl) ?_
      refine zr_ifne (tgt := 141) hx hb dX1_join_119 (by decide) (by omega) (fun _ => ?_) (fun hno9 => absurd hno9 (by omega))
      refine lv_aload_n hx hb dX1_join_141 rfl (lv_at hl 0 rfl) ?_
      refine zx_get1 (v := .ref (mo 2)) hx hb hts hown hK hP 0 rfl 5 (by decide) zf_X1_20 rfl dX1_join_142 ?_
      refine lv_iload hx hb dX1_join_145 (lv_at hl 3 rfl) ?_
      refine zr_iald (y := ua i) hx hb hK hP 2 0 rfl rfl (by omega) (by decide) rfl dX1_join_147 ?_
      refine lv_aload_n hx hb dX1_join_148 rfl (lv_at hl 0 rfl) ?_
      refine zx_get1 (v := .ref (mo 3)) hx hb hts hown hK hP 0 rfl 6 (by decide) zf_X1_23 rfl dX1_join_149 ?_
      refine lv_iload hx hb dX1_join_152 (lv_at hl 3 rfl) ?_
      refine zr_iald (y := ub i) hx hb hK hP 3 0 rfl rfl (by omega) (by decide) rfl dX1_join_154 ?_
      refine zr_isubZ hx hb dX1_join_155 ?_
      refine zr_i2lZ hx hb dX1_join_156 (by omega) (by omega) ?_
      refine zr_callq (zx_runV (As := [.long (zi_L (((ua i : Nat) : Int) - ((ub i : Nat) : Int)))]) (rest := [.int (nI (i)), .ref (mo 4)]) hx hb hml hts hown (cm_of l dC dI cA tr wr mo 0 k F ua ub uc fd hk (((ua i : Nat) : Int) - ((ub i : Nat) : Int)) ((ua i + zk_t k - ub i) % zk_t k) (by omega) (by omega) (zi_sb hbi)) zv_X1_54 rfl rfl ⟨Nat.le_of_ble_eq_true rfl, Nat.le_of_ble_eq_true rfl⟩ (zr_preV (q := (RX1, TM1, 9)) (ci := 1) (q0 := 0) hP hK rfl rfl) rfl hl.1 rfl (Nat.le_of_ble_eq_true rfl) dX1_join_157 ⟨Nat.zero_le _, Nat.zero_le _⟩) ?_
      refine zr_iast (ws' := (zm_w cA mo 0 k (zk_n k) (zk_t k) F ua ub (zq_up uc i ((ua i + zk_t k - ub i) % zk_t k)) fd ++ wr)) hx hb hK hP hD hS 4 0 rfl rfl (by omega) (by decide) dX1_join_160 rfl (fun H locs hP hD hS => ?_)
      refine zr_iinc (k := 3) (lv' := [(5, .int (nI (i + 1))), (0, .ref (mo 0)), (1, .int (nI (x1))), (2, .int (nI (1)))]) hx hb dX1_join_161 hl rfl (by decide) rfl (fun ls hl => ?_)
      refine lv_goto (tgt := 102) hx hb dX1_join_164 (by decide) ?_
      refine ih (i + 1) (by omega) _ (fun j hj => ?_) H locs hP hD hS ls (lv_sub hl [1, 2, 3, 0] rfl)
      by_cases e9 : j = i
      · rw [e9, zq_up_s]
      · rw [zq_up_n _ _ e9]; exact hinv j (by omega)
  exact loop (zk_n k) 0 (by omega) fc (fun j hj => absurd hj (Nat.not_lt_zero _)) H locs hP hD hS ls (lv_sub hl [1, 2, 3, 0] rfl)
set_option maxHeartbeats 4000000 in
set_option maxRecDepth 100000 in
/-- X1_join -/
theorem cm_join2 (l : Launch) (dC : Nat → ClassId) (dI : Nat → Nat → Nat) (cA : ClassId) (tr : List (ClassId × FieldType)) (wr : va_W) (mo : Nat → Nat) (th k : Nat) (F fa fb fc fd : Nat → Nat) (hk : k < 4) (sz : Nat) (x1 : Nat) (hx1 : x1 < 16) (x3 : Nat) (hx3 : x3 < 16) (x4 : Nat) (hx4 : x4 < 16) (hF : ∀ r j, r < 16 → j < zk_n k → F (32 * r + j) < zk_t k)  : Met l yX1_join wzX1_join (k2_rm 4 93) (zw_pre (dC, dI) zz_cl ((cA, .int) :: tr) (zm_w cA mo th k (zk_n k) (zk_t k) F fa fb fc fd ++ wr) sz [.ref (mo 0), .int (nI (x1)), .int (nI (2)), .int (nI (x3)), .int (nI (x4))]) (va_Qi (fun r (u : zq_U) => r = nI (zq_zc (fun i => zq_j (zk_t k) 2 (zq_av k (zq_rw F x3) i) (zq_av k (zq_rw F x4) i)) (zk_n k)) ∧ zq_fr k F x1 (fun i => zq_j (zk_t k) 2 (zq_av k (zq_rw F x3) i) (zq_av k (zq_rw F x4) i)) u.1) (zw_at (dC, dI) zz_cl ((cA, .int) :: tr) (va_A (zm_w cA mo th k (zk_n k) (zk_t k) F fa fb fc fd ++ wr) sz) (fun u : zq_U => zm_w cA mo 0 k (zk_n k) (zk_t k) u.1 u.2.1 u.2.2.1 u.2.2.2.1 u.2.2.2.2 ++ wr)) (va_A (zm_w cA mo th k (zk_n k) (zk_t k) F fa fb fc fd ++ wr) sz)) 0 0 (va_A (zm_w cA mo th k (zk_n k) (zk_t k) F fa fb fc fd ++ wr) sz) := by
  refine Met.ofW (cc := cX1_join) (maxL := 6) (ret := (some .int)) (by decide) rfl ?_
  intro p e s m args below meth c s₁ B hml hv
  obtain ⟨rfl, hsz, hP, hK, hD0⟩ := hv
  have hx := B.exec
  have hb := B.bytes
  have hr := B.returns
  have hts := atoms_spec (ws := wzX1_join) B.pre
  have hown : s.vm.findClass RX1 = some m.cls := findClass_of_methodNamed B.named
  have hlocks := B.notSynchronized
  subst hsz
  have hD := hD0.self (sz := s.heap.size)
  generalize hAe : va_A (zm_w cA mo th k (zk_n k) (zk_t k) F fa fb fc fd ++ wr) s.heap.size = A at hD ⊢
  have hA : ∀ q : Nat, s.heap.size ≤ q → A q := fun q h => by rw [← hAe]; exact Or.inr h
  have hS : va_S A s.heap s.heap [] := va_S.rf
  have hl := lv_entry ([.ref (mo 0), .int (nI (x1)), .int (nI (2)), .int (nI (x3)), .int (nI (x4))]) (n := 6) (Nat.le_of_ble_eq_true rfl)
  rw [lg_entry_eq]
  generalize (lg_sl ([.ref (mo 0), .int (nI (x1)), .int (nI (2)), .int (nI (x3)), .int (nI (x4))]) ++ List.replicate (6 - (lg_sl ([.ref (mo 0), .int (nI (x1)), .int (nI (2)), .int (nI (x3)), .int (nI (x4))])).length) Slot.unset).toArray = ls at hl ⊢
  have hl : lv_has ls 6 [(0, .ref (mo 0)), (1, .int (nI (x1))), (2, .int (nI (2))), (3, .int (nI (x3))), (4, .int (nI (x4)))] := hl
  obtain ⟨hb1, hb2, hb3, hb4, hb5, hb6, hb7, hb8⟩ := zk_b k hk
  refine lv_aload_n hx hb dX1_join_0 rfl (lv_at hl 0 rfl) ?_
  refine lv_iload_n hx hb dX1_join_1 rfl (lv_at hl 1 rfl) ?_
  refine zr_callq (zx_runS (As := [.int (nI (x1))]) (rest := [.ref (mo 0)]) hx hb hml hts hown (cm_none0 l (dC, dI) zz_cl ((cA, .int) :: tr) (zm_w cA mo th k (zk_n k) (zk_t k) F fa fb fc fd ++ wr) x1 (by omega)) zu_X1_46 rfl rfl ⟨Nat.le_of_ble_eq_true rfl, Nat.le_of_ble_eq_true rfl⟩ (zr_preS hP hK) rfl hl.1 rfl (Nat.le_of_ble_eq_true rfl) dX1_join_2 ⟨Nat.zero_le _, Nat.zero_le _⟩) ?_
  refine zr_ifne (tgt := 23) hx hb dX1_join_5 (by decide) (by omega) (fun hno9 => absurd hno9 (by omega)) (fun _ => ?_)
  refine lv_iload_n hx hb dX1_join_8 rfl (lv_at hl 3 rfl) ?_
  refine zr_callq (zx_runS (As := [.int (nI (x3))]) (rest := [.ref (mo 0)]) hx hb hml hts hown (cm_none0 l (dC, dI) zz_cl ((cA, .int) :: tr) (zm_w cA mo th k (zk_n k) (zk_t k) F fa fb fc fd ++ wr) x3 (by omega)) zu_X1_46 rfl rfl ⟨Nat.le_of_ble_eq_true rfl, Nat.le_of_ble_eq_true rfl⟩ (zr_preS hP hK) rfl hl.1 rfl (Nat.le_of_ble_eq_true rfl) dX1_join_9 ⟨Nat.zero_le _, Nat.zero_le _⟩) ?_
  refine zr_ifne (tgt := 23) hx hb dX1_join_12 (by decide) (by omega) (fun hno9 => absurd hno9 (by omega)) (fun _ => ?_)
  refine lv_iload hx hb dX1_join_15 (lv_at hl 4 rfl) ?_
  refine zr_callq (zx_runS (As := [.int (nI (x4))]) (rest := [.ref (mo 0)]) hx hb hml hts hown (cm_none0 l (dC, dI) zz_cl ((cA, .int) :: tr) (zm_w cA mo th k (zk_n k) (zk_t k) F fa fb fc fd ++ wr) x4 (by omega)) zu_X1_46 rfl rfl ⟨Nat.le_of_ble_eq_true rfl, Nat.le_of_ble_eq_true rfl⟩ (zr_preS hP hK) rfl hl.1 rfl (Nat.le_of_ble_eq_true rfl) dX1_join_17 ⟨Nat.zero_le _, Nat.zero_le _⟩) ?_
  refine zr_ifeq (tgt := 27) hx hb dX1_join_20 (by decide) (by omega) (fun _ => ?_) (fun hno9 => absurd hno9 (by omega))
  refine lv_iload_n hx hb dX1_join_27 rfl (lv_at hl 2 rfl) ?_
  refine zr_iflt (tgt := 36) hx hb dX1_join_28 (by decide) (by omega) ?_
  refine lv_iload_n hx hb dX1_join_31 rfl (lv_at hl 2 rfl) ?_
  refine lv_iconst (v := nI 3) hx hb dX1_join_32 (by decide) ?_
  refine zr_ile (tgt := 40) hx hb dX1_join_33 (by decide) (by omega) (by omega) (fun _ => ?_) (fun hno9 => absurd hno9 (by omega))
  refine lv_iconst (v := nI 0) hx hb dX1_join_40 (by decide) ?_
  refine zx_put1 (ws' := (zm_w cA mo 0 k (zk_n k) (zk_t k) F fa fb fc fd ++ wr)) hx hb hts hown hK hP hD hS 0 rfl 0 (by decide) zf_X1_32 rfl (by decide +kernel) (Nat.le_of_ble_eq_true rfl) dX1_join_41 rfl (fun H locs hP hD hS => ?_)
  refine lv_aload_n hx hb dX1_join_44 rfl (lv_at hl 0 rfl) ?_
  refine zx_get1 (v := .int (nI (0))) hx hb hts hown hK hP 0 rfl 0 (by decide) zf_X1_32 rfl dX1_join_45 ?_
  refine zr_ifle (tgt := 53) hx hb dX1_join_48 (by decide) (by omega) (fun _ => ?_) (fun hno9 => absurd hno9 (by omega))
  refine lv_aload_n hx hb dX1_join_53 rfl (lv_at hl 0 rfl) ?_
  refine lv_iload_n hx hb dX1_join_54 rfl (lv_at hl 3 rfl) ?_
  refine lv_aload_n hx hb dX1_join_55 rfl (lv_at hl 0 rfl) ?_
  refine zx_get1 (v := .ref (mo 2)) hx hb hts hown hK hP 0 rfl 5 (by decide) zf_X1_20 rfl dX1_join_56 ?_
  refine zw_callv (w' := fun u : Nat → Nat => zm_w cA mo 0 k (zk_n k) (zk_t k) F u fb fc fd ++ wr) hD hS hA (zx_runV (As := [.int (nI (x3)), .ref (mo 2)]) (rest := []) hx hb hml hts hown (cm_take2 l dC dI cA tr wr mo 0 k F fa fb fc fd hk H.size x3 (by omega)) zv_X1_62 rfl rfl ⟨Nat.le_of_ble_eq_true rfl, Nat.le_of_ble_eq_true rfl⟩ (zw_preV (q := (RX1, TM1, 9)) (ci := 1) (q0 := 0) hP hK hD rfl rfl) rfl hl.1 rfl (Nat.le_of_ble_eq_true rfl) dX1_join_59 ⟨Nat.zero_le _, Nat.zero_le _⟩) (fun ua H locs hua hP hD hS => ?_)
  have hlua : ∀ j, j < zk_n k → ua j < zk_t k := fun j hj => by rw [hua j hj]; exact hF x3 j (by omega) hj
  refine lv_aload_n hx hb dX1_join_62 rfl (lv_at hl 0 rfl) ?_
  refine lv_iload hx hb dX1_join_63 (lv_at hl 4 rfl) ?_
  refine lv_aload_n hx hb dX1_join_65 rfl (lv_at hl 0 rfl) ?_
  refine zx_get1 (v := .ref (mo 3)) hx hb hts hown hK hP 0 rfl 6 (by decide) zf_X1_23 rfl dX1_join_66 ?_
  refine zw_callv (w' := fun u : Nat → Nat => zm_w cA mo 0 k (zk_n k) (zk_t k) F ua u fc fd ++ wr) hD hS hA (zx_runV (As := [.int (nI (x4)), .ref (mo 3)]) (rest := []) hx hb hml hts hown (cm_take3 l dC dI cA tr wr mo 0 k F ua fb fc fd hk H.size x4 (by omega)) zv_X1_62 rfl rfl ⟨Nat.le_of_ble_eq_true rfl, Nat.le_of_ble_eq_true rfl⟩ (zw_preV (q := (RX1, TM1, 9)) (ci := 1) (q0 := 0) hP hK hD rfl rfl) rfl hl.1 rfl (Nat.le_of_ble_eq_true rfl) dX1_join_69 ⟨Nat.zero_le _, Nat.zero_le _⟩) (fun ub H locs hub hP hD hS => ?_)
  have hlub : ∀ j, j < zk_n k → ub j < zk_t k := fun j hj => by rw [hub j hj]; exact hF x4 j (by omega) hj
  refine lv_iload_n hx hb dX1_join_72 rfl (lv_at hl 2 rfl) ?_
  refine lv_iconst (v := nI 3) hx hb dX1_join_73 (by decide) ?_
  refine zr_ine (tgt := 94) hx hb dX1_join_74 (by decide) (by omega) (by omega) (fun _ => ?_) (fun hno9 => absurd hno9 (by omega))
  refine lv_iload_n hx hb dX1_join_94 rfl (lv_at hl 2 rfl) ?_
  refine lv_iconst (v := nI 2) hx hb dX1_join_95 (by decide) ?_
  refine zr_ige (tgt := 170) hx hb dX1_join_96 (by decide) (by omega) (by omega) (fun _ => ?_) (fun hno9 => absurd hno9 (by omega))
  refine lv_iload_n hx hb dX1_join_170 rfl (lv_at hl 2 rfl) ?_
  refine lv_iconst (v := nI 3) hx hb dX1_join_171 (by decide) ?_
  refine zr_ine (tgt := 192) hx hb dX1_join_172 (by decide) (by omega) (by omega) (fun _ => ?_) (fun hno9 => absurd hno9 (by omega))
  refine lv_aload_n hx hb dX1_join_192 rfl (lv_at hl 0 rfl) ?_
  refine lv_aload_n hx hb dX1_join_193 rfl (lv_at hl 0 rfl) ?_
  refine zx_get1 (v := .ref (mo 2)) hx hb hts hown hK hP 0 rfl 5 (by decide) zf_X1_20 rfl dX1_join_194 ?_
  refine lv_aload_n hx hb dX1_join_197 rfl (lv_at hl 0 rfl) ?_
  refine zx_get1 (v := .ref (mo 3)) hx hb hts hown hK hP 0 rfl 6 (by decide) zf_X1_23 rfl dX1_join_198 ?_
  refine zw_callv (w' := fun u : Nat → Nat => zm_w cA mo 0 k (zk_n k) (zk_t k) F ua ub u fd ++ wr) hD hS hA (zx_runV (As := [.ref (mo 2), .ref (mo 3)]) (rest := []) hx hb hml hts hown (cm_times23 l dC dI cA tr wr mo 0 k F ua ub fc fd hk H.size hlua hlub) zv_X1_73 rfl rfl ⟨Nat.le_of_ble_eq_true rfl, Nat.le_of_ble_eq_true rfl⟩ (zw_preV (q := (RX1, TM1, 9)) (ci := 1) (q0 := 0) hP hK hD rfl rfl) rfl hl.1 rfl (Nat.le_of_ble_eq_true rfl) dX1_join_201 ⟨Nat.zero_le _, Nat.zero_le _⟩) (fun uc H locs huc hP hD hS => ?_)
  have hluc : ∀ j, j < zk_n k → uc j < zk_t k := fun j hj => by rw [huc j hj]; exact zq_tm_lt hk _ _ _
  have hwc : ∀ i, i < zk_n k → zq_av k uc i = zq_j (zk_t k) 2 (zq_av k (zq_rw F x3) i) (zq_av k (zq_rw F x4) i) := fun i hi => by rw [zq_av_congr huc, zq_av_tm hk _ _ hi, zq_av_congr hua, zq_av_congr hub]; rfl
  refine lv_aload_n hx hb dX1_join_204 rfl (lv_at hl 0 rfl) ?_
  refine lv_iload_n hx hb dX1_join_205 rfl (lv_at hl 1 rfl) ?_
  refine lv_aload_n hx hb dX1_join_206 rfl (lv_at hl 0 rfl) ?_
  refine zx_get1 (v := .ref (mo 4)) hx hb hts hown hK hP 0 rfl 7 (by decide) zf_X1_26 rfl dX1_join_207 ?_
  refine zw_callv (w' := fun u : Nat → Nat => zm_w cA mo 0 k (zk_n k) (zk_t k) u ua ub uc fd ++ wr) hD hS hA (zx_runV (As := [.int (nI (x1)), .ref (mo 4)]) (rest := []) hx hb hml hts hown (cm_put4 l dC dI cA tr wr mo 0 k F ua ub uc fd hk H.size x1 (by omega)) zv_X1_70 rfl rfl ⟨Nat.le_of_ble_eq_true rfl, Nat.le_of_ble_eq_true rfl⟩ (zw_preV (q := (RX1, TM1, 9)) (ci := 1) (q0 := 0) hP hK hD rfl rfl) rfl hl.1 rfl (Nat.le_of_ble_eq_true rfl) dX1_join_210 ⟨Nat.zero_le _, Nat.zero_le _⟩) (fun uF H locs huF hP hD hS => ?_)
  refine lv_aload_n hx hb dX1_join_213 rfl (lv_at hl 0 rfl) ?_
  refine lv_aload_n hx hb dX1_join_214 rfl (lv_at hl 0 rfl) ?_
  refine zx_get1 (v := .ref (mo 4)) hx hb hts hown hK hP 0 rfl 7 (by decide) zf_X1_26 rfl dX1_join_215 ?_
  refine zr_callq (zx_runV (As := [.ref (mo 4)]) (rest := []) hx hb hml hts hown (cm_zeros l dC dI cA tr wr mo 0 k uF ua ub uc fd hk 4 (mo 4) uc rfl hluc) zv_X1_77 rfl rfl ⟨Nat.le_of_ble_eq_true rfl, Nat.le_of_ble_eq_true rfl⟩ (zr_preV (q := (RX1, TM1, 9)) (ci := 1) (q0 := 0) hP hK rfl rfl) rfl hl.1 rfl (Nat.le_of_ble_eq_true rfl) dX1_join_218 ⟨Nat.zero_le _, Nat.zero_le _⟩) ?_
  have hzc9 := zq_zc_le (zq_av k uc) (zk_n k)
  exact W.iret (v := nI (zq_zc (zq_av k uc) (zk_n k))) hx hb hr (fun t9 h9 hW9 => ⟨⟨nI (zq_zc (zq_av k uc) (zk_n k)), (uF, ua, ub, uc, fd), rfl, ⟨congrArg nI (zq_zc_congr (fun i hi => hwc i hi)), zq_fr_put hk huF hluc (fun i hi => hwc i hi)⟩, by rw [h9]; exact hP, va_K.moved hW9.alike hK, hD⟩, hS.F h9⟩) hS.2.2 dX1_join_221
set_option maxHeartbeats 4000000 in
set_option maxRecDepth 100000 in
/-- X1_join -/
theorem cm_join3 (l : Launch) (dC : Nat → ClassId) (dI : Nat → Nat → Nat) (cA : ClassId) (tr : List (ClassId × FieldType)) (wr : va_W) (mo : Nat → Nat) (th k : Nat) (F fa fb fc fd : Nat → Nat) (hk : k < 4) (sz : Nat) (x1 : Nat) (hx1 : x1 < 16) (x3 : Nat) (hx3 : x3 < 16) (x4 : Nat) (hx4 : x4 < 16) (hF : ∀ r j, r < 16 → j < zk_n k → F (32 * r + j) < zk_t k) (hz : zq_zc (zq_av k (zq_rw F x4)) (zk_n k) = 0) : Met l yX1_join wzX1_join (k2_rm 4 93) (zw_pre (dC, dI) zz_cl ((cA, .int) :: tr) (zm_w cA mo th k (zk_n k) (zk_t k) F fa fb fc fd ++ wr) sz [.ref (mo 0), .int (nI (x1)), .int (nI (3)), .int (nI (x3)), .int (nI (x4))]) (va_Qi (fun r (u : zq_U) => r = nI (zq_zc (fun i => zq_j (zk_t k) 3 (zq_av k (zq_rw F x3) i) (zq_av k (zq_rw F x4) i)) (zk_n k)) ∧ zq_fr k F x1 (fun i => zq_j (zk_t k) 3 (zq_av k (zq_rw F x3) i) (zq_av k (zq_rw F x4) i)) u.1) (zw_at (dC, dI) zz_cl ((cA, .int) :: tr) (va_A (zm_w cA mo th k (zk_n k) (zk_t k) F fa fb fc fd ++ wr) sz) (fun u : zq_U => zm_w cA mo 0 k (zk_n k) (zk_t k) u.1 u.2.1 u.2.2.1 u.2.2.2.1 u.2.2.2.2 ++ wr)) (va_A (zm_w cA mo th k (zk_n k) (zk_t k) F fa fb fc fd ++ wr) sz)) 0 0 (va_A (zm_w cA mo th k (zk_n k) (zk_t k) F fa fb fc fd ++ wr) sz) := by
  refine Met.ofW (cc := cX1_join) (maxL := 6) (ret := (some .int)) (by decide) rfl ?_
  intro p e s m args below meth c s₁ B hml hv
  obtain ⟨rfl, hsz, hP, hK, hD0⟩ := hv
  have hx := B.exec
  have hb := B.bytes
  have hr := B.returns
  have hts := atoms_spec (ws := wzX1_join) B.pre
  have hown : s.vm.findClass RX1 = some m.cls := findClass_of_methodNamed B.named
  have hlocks := B.notSynchronized
  subst hsz
  have hD := hD0.self (sz := s.heap.size)
  generalize hAe : va_A (zm_w cA mo th k (zk_n k) (zk_t k) F fa fb fc fd ++ wr) s.heap.size = A at hD ⊢
  have hA : ∀ q : Nat, s.heap.size ≤ q → A q := fun q h => by rw [← hAe]; exact Or.inr h
  have hS : va_S A s.heap s.heap [] := va_S.rf
  have hl := lv_entry ([.ref (mo 0), .int (nI (x1)), .int (nI (3)), .int (nI (x3)), .int (nI (x4))]) (n := 6) (Nat.le_of_ble_eq_true rfl)
  rw [lg_entry_eq]
  generalize (lg_sl ([.ref (mo 0), .int (nI (x1)), .int (nI (3)), .int (nI (x3)), .int (nI (x4))]) ++ List.replicate (6 - (lg_sl ([.ref (mo 0), .int (nI (x1)), .int (nI (3)), .int (nI (x3)), .int (nI (x4))])).length) Slot.unset).toArray = ls at hl ⊢
  have hl : lv_has ls 6 [(0, .ref (mo 0)), (1, .int (nI (x1))), (2, .int (nI (3))), (3, .int (nI (x3))), (4, .int (nI (x4)))] := hl
  obtain ⟨hb1, hb2, hb3, hb4, hb5, hb6, hb7, hb8⟩ := zk_b k hk
  refine lv_aload_n hx hb dX1_join_0 rfl (lv_at hl 0 rfl) ?_
  refine lv_iload_n hx hb dX1_join_1 rfl (lv_at hl 1 rfl) ?_
  refine zr_callq (zx_runS (As := [.int (nI (x1))]) (rest := [.ref (mo 0)]) hx hb hml hts hown (cm_none0 l (dC, dI) zz_cl ((cA, .int) :: tr) (zm_w cA mo th k (zk_n k) (zk_t k) F fa fb fc fd ++ wr) x1 (by omega)) zu_X1_46 rfl rfl ⟨Nat.le_of_ble_eq_true rfl, Nat.le_of_ble_eq_true rfl⟩ (zr_preS hP hK) rfl hl.1 rfl (Nat.le_of_ble_eq_true rfl) dX1_join_2 ⟨Nat.zero_le _, Nat.zero_le _⟩) ?_
  refine zr_ifne (tgt := 23) hx hb dX1_join_5 (by decide) (by omega) (fun hno9 => absurd hno9 (by omega)) (fun _ => ?_)
  refine lv_iload_n hx hb dX1_join_8 rfl (lv_at hl 3 rfl) ?_
  refine zr_callq (zx_runS (As := [.int (nI (x3))]) (rest := [.ref (mo 0)]) hx hb hml hts hown (cm_none0 l (dC, dI) zz_cl ((cA, .int) :: tr) (zm_w cA mo th k (zk_n k) (zk_t k) F fa fb fc fd ++ wr) x3 (by omega)) zu_X1_46 rfl rfl ⟨Nat.le_of_ble_eq_true rfl, Nat.le_of_ble_eq_true rfl⟩ (zr_preS hP hK) rfl hl.1 rfl (Nat.le_of_ble_eq_true rfl) dX1_join_9 ⟨Nat.zero_le _, Nat.zero_le _⟩) ?_
  refine zr_ifne (tgt := 23) hx hb dX1_join_12 (by decide) (by omega) (fun hno9 => absurd hno9 (by omega)) (fun _ => ?_)
  refine lv_iload hx hb dX1_join_15 (lv_at hl 4 rfl) ?_
  refine zr_callq (zx_runS (As := [.int (nI (x4))]) (rest := [.ref (mo 0)]) hx hb hml hts hown (cm_none0 l (dC, dI) zz_cl ((cA, .int) :: tr) (zm_w cA mo th k (zk_n k) (zk_t k) F fa fb fc fd ++ wr) x4 (by omega)) zu_X1_46 rfl rfl ⟨Nat.le_of_ble_eq_true rfl, Nat.le_of_ble_eq_true rfl⟩ (zr_preS hP hK) rfl hl.1 rfl (Nat.le_of_ble_eq_true rfl) dX1_join_17 ⟨Nat.zero_le _, Nat.zero_le _⟩) ?_
  refine zr_ifeq (tgt := 27) hx hb dX1_join_20 (by decide) (by omega) (fun _ => ?_) (fun hno9 => absurd hno9 (by omega))
  refine lv_iload_n hx hb dX1_join_27 rfl (lv_at hl 2 rfl) ?_
  refine zr_iflt (tgt := 36) hx hb dX1_join_28 (by decide) (by omega) ?_
  refine lv_iload_n hx hb dX1_join_31 rfl (lv_at hl 2 rfl) ?_
  refine lv_iconst (v := nI 3) hx hb dX1_join_32 (by decide) ?_
  refine zr_ile (tgt := 40) hx hb dX1_join_33 (by decide) (by omega) (by omega) (fun _ => ?_) (fun hno9 => absurd hno9 (by omega))
  refine lv_iconst (v := nI 0) hx hb dX1_join_40 (by decide) ?_
  refine zx_put1 (ws' := (zm_w cA mo 0 k (zk_n k) (zk_t k) F fa fb fc fd ++ wr)) hx hb hts hown hK hP hD hS 0 rfl 0 (by decide) zf_X1_32 rfl (by decide +kernel) (Nat.le_of_ble_eq_true rfl) dX1_join_41 rfl (fun H locs hP hD hS => ?_)
  refine lv_aload_n hx hb dX1_join_44 rfl (lv_at hl 0 rfl) ?_
  refine zx_get1 (v := .int (nI (0))) hx hb hts hown hK hP 0 rfl 0 (by decide) zf_X1_32 rfl dX1_join_45 ?_
  refine zr_ifle (tgt := 53) hx hb dX1_join_48 (by decide) (by omega) (fun _ => ?_) (fun hno9 => absurd hno9 (by omega))
  refine lv_aload_n hx hb dX1_join_53 rfl (lv_at hl 0 rfl) ?_
  refine lv_iload_n hx hb dX1_join_54 rfl (lv_at hl 3 rfl) ?_
  refine lv_aload_n hx hb dX1_join_55 rfl (lv_at hl 0 rfl) ?_
  refine zx_get1 (v := .ref (mo 2)) hx hb hts hown hK hP 0 rfl 5 (by decide) zf_X1_20 rfl dX1_join_56 ?_
  refine zw_callv (w' := fun u : Nat → Nat => zm_w cA mo 0 k (zk_n k) (zk_t k) F u fb fc fd ++ wr) hD hS hA (zx_runV (As := [.int (nI (x3)), .ref (mo 2)]) (rest := []) hx hb hml hts hown (cm_take2 l dC dI cA tr wr mo 0 k F fa fb fc fd hk H.size x3 (by omega)) zv_X1_62 rfl rfl ⟨Nat.le_of_ble_eq_true rfl, Nat.le_of_ble_eq_true rfl⟩ (zw_preV (q := (RX1, TM1, 9)) (ci := 1) (q0 := 0) hP hK hD rfl rfl) rfl hl.1 rfl (Nat.le_of_ble_eq_true rfl) dX1_join_59 ⟨Nat.zero_le _, Nat.zero_le _⟩) (fun ua H locs hua hP hD hS => ?_)
  have hlua : ∀ j, j < zk_n k → ua j < zk_t k := fun j hj => by rw [hua j hj]; exact hF x3 j (by omega) hj
  refine lv_aload_n hx hb dX1_join_62 rfl (lv_at hl 0 rfl) ?_
  refine lv_iload hx hb dX1_join_63 (lv_at hl 4 rfl) ?_
  refine lv_aload_n hx hb dX1_join_65 rfl (lv_at hl 0 rfl) ?_
  refine zx_get1 (v := .ref (mo 3)) hx hb hts hown hK hP 0 rfl 6 (by decide) zf_X1_23 rfl dX1_join_66 ?_
  refine zw_callv (w' := fun u : Nat → Nat => zm_w cA mo 0 k (zk_n k) (zk_t k) F ua u fc fd ++ wr) hD hS hA (zx_runV (As := [.int (nI (x4)), .ref (mo 3)]) (rest := []) hx hb hml hts hown (cm_take3 l dC dI cA tr wr mo 0 k F ua fb fc fd hk H.size x4 (by omega)) zv_X1_62 rfl rfl ⟨Nat.le_of_ble_eq_true rfl, Nat.le_of_ble_eq_true rfl⟩ (zw_preV (q := (RX1, TM1, 9)) (ci := 1) (q0 := 0) hP hK hD rfl rfl) rfl hl.1 rfl (Nat.le_of_ble_eq_true rfl) dX1_join_69 ⟨Nat.zero_le _, Nat.zero_le _⟩) (fun ub H locs hub hP hD hS => ?_)
  have hlub : ∀ j, j < zk_n k → ub j < zk_t k := fun j hj => by rw [hub j hj]; exact hF x4 j (by omega) hj
  refine lv_iload_n hx hb dX1_join_72 rfl (lv_at hl 2 rfl) ?_
  refine lv_iconst (v := nI 3) hx hb dX1_join_73 (by decide) ?_
  refine zr_ine (tgt := 94) hx hb dX1_join_74 (by decide) (by omega) (by omega) (fun hno9 => absurd hno9 (by omega)) (fun _ => ?_)
  have hzb : zq_zc (zq_av k ub) (zk_n k) = zq_zc (zq_av k (zq_rw F x4)) (zk_n k) := zq_zc_congr (fun i hi => zq_av_congr hub i)
  refine lv_aload_n hx hb dX1_join_77 rfl (lv_at hl 0 rfl) ?_
  refine lv_aload_n hx hb dX1_join_78 rfl (lv_at hl 0 rfl) ?_
  refine zx_get1 (v := .ref (mo 3)) hx hb hts hown hK hP 0 rfl 6 (by decide) zf_X1_23 rfl dX1_join_79 ?_
  refine zr_callq (zx_runV (As := [.ref (mo 3)]) (rest := []) hx hb hml hts hown (cm_zeros l dC dI cA tr wr mo 0 k F ua ub fc fd hk 3 (mo 3) ub rfl hlub) zv_X1_77 rfl rfl ⟨Nat.le_of_ble_eq_true rfl, Nat.le_of_ble_eq_true rfl⟩ (zr_preV (q := (RX1, TM1, 9)) (ci := 1) (q0 := 0) hP hK rfl rfl) rfl hl.1 rfl (Nat.le_of_ble_eq_true rfl) dX1_join_82 ⟨Nat.zero_le _, Nat.zero_le _⟩) ?_
  have hzc9 := zq_zc_le (zq_av k ub) (zk_n k)
  refine zr_ifle (tgt := 94) hx hb dX1_join_85 (by decide) (by omega) (fun _ => ?_) (fun hno9 => absurd hno9 (by omega))
  refine lv_iload_n hx hb dX1_join_94 rfl (lv_at hl 2 rfl) ?_
  refine lv_iconst (v := nI 2) hx hb dX1_join_95 (by decide) ?_
  refine zr_ige (tgt := 170) hx hb dX1_join_96 (by decide) (by omega) (by omega) (fun _ => ?_) (fun hno9 => absurd hno9 (by omega))
  refine lv_iload_n hx hb dX1_join_170 rfl (lv_at hl 2 rfl) ?_
  refine lv_iconst (v := nI 3) hx hb dX1_join_171 (by decide) ?_
  refine zr_ine (tgt := 192) hx hb dX1_join_172 (by decide) (by omega) (by omega) (fun hno9 => absurd hno9 (by omega)) (fun _ => ?_)
  refine lv_aload_n hx hb dX1_join_175 rfl (lv_at hl 0 rfl) ?_
  refine lv_aload_n hx hb dX1_join_176 rfl (lv_at hl 0 rfl) ?_
  refine zx_get1 (v := .ref (mo 3)) hx hb hts hown hK hP 0 rfl 6 (by decide) zf_X1_23 rfl dX1_join_177 ?_
  refine lv_aload_n hx hb dX1_join_180 rfl (lv_at hl 0 rfl) ?_
  refine zx_get1 (v := .int (nI (zk_t k))) hx hb hts hown hK hP 0 rfl 3 (by decide) zf_X1_13 rfl dX1_join_181 ?_
  refine zr_i2l hx hb dX1_join_184 (by omega) ?_
  refine lv_ldc2 (v := lN 2) hx hb hown (hts _ (List.mem_cons_of_mem _ zg_X1_85)) dX1_join_185 ?_
  refine zr_lsub hx hb dX1_join_188 (by omega) ?_
  refine zw_callv (w' := fun u : (Nat → Nat) × (Nat → Nat) × (Nat → Nat) => zm_w cA mo 0 k (zk_n k) (zk_t k) F ua u.1 u.2.1 u.2.2 ++ wr) hD hS hA (zx_runV (As := [.ref (mo 3), .long (lN ((zk_t k) - 2))]) (rest := []) hx hb hml hts hown (cm_raise3 l dC dI cA tr wr mo 0 k F ua ub fc fd hk H.size (zk_t k - 2) (by omega) hlub) zv_X1_87 rfl rfl ⟨Nat.le_of_ble_eq_true rfl, Nat.le_of_ble_eq_true rfl⟩ (zw_preV (q := (RX1, TM1, 9)) (ci := 1) (q0 := 0) hP hK hD rfl rfl) rfl hl.1 rfl (Nat.le_of_ble_eq_true rfl) dX1_join_189 ⟨Nat.zero_le _, Nat.zero_le _⟩) (fun ur H locs hur hP hD hS => ?_)
  obtain ⟨hlur, hvur⟩ := hur
  obtain ⟨ub1, uc1, ud1⟩ := ur
  have hlub1 : ∀ j, j < zk_n k → ub1 j < zk_t k := hlur
  refine lv_aload_n hx hb dX1_join_192 rfl (lv_at hl 0 rfl) ?_
  refine lv_aload_n hx hb dX1_join_193 rfl (lv_at hl 0 rfl) ?_
  refine zx_get1 (v := .ref (mo 2)) hx hb hts hown hK hP 0 rfl 5 (by decide) zf_X1_20 rfl dX1_join_194 ?_
  refine lv_aload_n hx hb dX1_join_197 rfl (lv_at hl 0 rfl) ?_
  refine zx_get1 (v := .ref (mo 3)) hx hb hts hown hK hP 0 rfl 6 (by decide) zf_X1_23 rfl dX1_join_198 ?_
  refine zw_callv (w' := fun u : Nat → Nat => zm_w cA mo 0 k (zk_n k) (zk_t k) F ua ub1 u ud1 ++ wr) hD hS hA (zx_runV (As := [.ref (mo 2), .ref (mo 3)]) (rest := []) hx hb hml hts hown (cm_times23 l dC dI cA tr wr mo 0 k F ua ub1 uc1 ud1 hk H.size hlua hlub1) zv_X1_73 rfl rfl ⟨Nat.le_of_ble_eq_true rfl, Nat.le_of_ble_eq_true rfl⟩ (zw_preV (q := (RX1, TM1, 9)) (ci := 1) (q0 := 0) hP hK hD rfl rfl) rfl hl.1 rfl (Nat.le_of_ble_eq_true rfl) dX1_join_201 ⟨Nat.zero_le _, Nat.zero_le _⟩) (fun uc H locs huc hP hD hS => ?_)
  have hluc : ∀ j, j < zk_n k → uc j < zk_t k := fun j hj => by rw [huc j hj]; exact zq_tm_lt hk _ _ _
  have hwc : ∀ i, i < zk_n k → zq_av k uc i = zq_j (zk_t k) 3 (zq_av k (zq_rw F x3) i) (zq_av k (zq_rw F x4) i) := fun i hi => by rw [zq_av_congr huc, zq_av_tm hk _ _ hi, zq_av_congr hua, show zq_av k ub1 i = zq_av k ub i ^ (zk_t k - 2) % zk_t k from hvur i hi, zq_av_congr hub]; rfl
  refine lv_aload_n hx hb dX1_join_204 rfl (lv_at hl 0 rfl) ?_
  refine lv_iload_n hx hb dX1_join_205 rfl (lv_at hl 1 rfl) ?_
  refine lv_aload_n hx hb dX1_join_206 rfl (lv_at hl 0 rfl) ?_
  refine zx_get1 (v := .ref (mo 4)) hx hb hts hown hK hP 0 rfl 7 (by decide) zf_X1_26 rfl dX1_join_207 ?_
  refine zw_callv (w' := fun u : Nat → Nat => zm_w cA mo 0 k (zk_n k) (zk_t k) u ua ub1 uc ud1 ++ wr) hD hS hA (zx_runV (As := [.int (nI (x1)), .ref (mo 4)]) (rest := []) hx hb hml hts hown (cm_put4 l dC dI cA tr wr mo 0 k F ua ub1 uc ud1 hk H.size x1 (by omega)) zv_X1_70 rfl rfl ⟨Nat.le_of_ble_eq_true rfl, Nat.le_of_ble_eq_true rfl⟩ (zw_preV (q := (RX1, TM1, 9)) (ci := 1) (q0 := 0) hP hK hD rfl rfl) rfl hl.1 rfl (Nat.le_of_ble_eq_true rfl) dX1_join_210 ⟨Nat.zero_le _, Nat.zero_le _⟩) (fun uF H locs huF hP hD hS => ?_)
  refine lv_aload_n hx hb dX1_join_213 rfl (lv_at hl 0 rfl) ?_
  refine lv_aload_n hx hb dX1_join_214 rfl (lv_at hl 0 rfl) ?_
  refine zx_get1 (v := .ref (mo 4)) hx hb hts hown hK hP 0 rfl 7 (by decide) zf_X1_26 rfl dX1_join_215 ?_
  refine zr_callq (zx_runV (As := [.ref (mo 4)]) (rest := []) hx hb hml hts hown (cm_zeros l dC dI cA tr wr mo 0 k uF ua ub1 uc ud1 hk 4 (mo 4) uc rfl hluc) zv_X1_77 rfl rfl ⟨Nat.le_of_ble_eq_true rfl, Nat.le_of_ble_eq_true rfl⟩ (zr_preV (q := (RX1, TM1, 9)) (ci := 1) (q0 := 0) hP hK rfl rfl) rfl hl.1 rfl (Nat.le_of_ble_eq_true rfl) dX1_join_218 ⟨Nat.zero_le _, Nat.zero_le _⟩) ?_
  have hzc9 := zq_zc_le (zq_av k uc) (zk_n k)
  exact W.iret (v := nI (zq_zc (zq_av k uc) (zk_n k))) hx hb hr (fun t9 h9 hW9 => ⟨⟨nI (zq_zc (zq_av k uc) (zk_n k)), (uF, ua, ub1, uc, ud1), rfl, ⟨congrArg nI (zq_zc_congr (fun i hi => hwc i hi)), zq_fr_put hk huF hluc (fun i hi => hwc i hi)⟩, by rw [h9]; exact hP, va_K.moved hW9.alike hK, hD⟩, hS.F h9⟩) hS.2.2 dX1_join_221
set_option maxHeartbeats 4000000 in
set_option maxRecDepth 100000 in
/-- X1_join -/
theorem cm_join_u (l : Launch) (dC : Nat → ClassId) (dI : Nat → Nat → Nat) (cA : ClassId) (tr : List (ClassId × FieldType)) (wr : va_W) (mo : Nat → Nat) (th k : Nat) (F fa fb fc fd : Nat → Nat) (hk : k < 4) (sz : Nat) (x1 : Nat) (hx1 : x1 < 16) (x3 : Nat) (hx3 : x3 < 16) (x4 : Nat) (hx4 : x4 < 16) (hF : ∀ r j, r < 16 → j < zk_n k → F (32 * r + j) < zk_t k) (hz : zq_zc (zq_av k (zq_rw F x4)) (zk_n k) ≠ 0) : Met l yX1_join wzX1_join (k2_rm 4 93) (zw_pre (dC, dI) zz_cl ((cA, .int) :: tr) (zm_w cA mo th k (zk_n k) (zk_t k) F fa fb fc fd ++ wr) sz [.ref (mo 0), .int (nI (x1)), .int (nI (3)), .int (nI (x3)), .int (nI (x4))]) (va_Qi (fun r (u : zq_U) => r = nI 0 ∧ u.1 = F) (zw_at (dC, dI) zz_cl ((cA, .int) :: tr) (va_A (zm_w cA mo th k (zk_n k) (zk_t k) F fa fb fc fd ++ wr) sz) (fun u : zq_U => zm_w cA mo 3 k (zk_n k) (zk_t k) u.1 u.2.1 u.2.2.1 u.2.2.2.1 u.2.2.2.2 ++ wr)) (va_A (zm_w cA mo th k (zk_n k) (zk_t k) F fa fb fc fd ++ wr) sz)) 0 0 (va_A (zm_w cA mo th k (zk_n k) (zk_t k) F fa fb fc fd ++ wr) sz) := by
  refine Met.ofW (cc := cX1_join) (maxL := 6) (ret := (some .int)) (by decide) rfl ?_
  intro p e s m args below meth c s₁ B hml hv
  obtain ⟨rfl, hsz, hP, hK, hD0⟩ := hv
  have hx := B.exec
  have hb := B.bytes
  have hr := B.returns
  have hts := atoms_spec (ws := wzX1_join) B.pre
  have hown : s.vm.findClass RX1 = some m.cls := findClass_of_methodNamed B.named
  have hlocks := B.notSynchronized
  subst hsz
  have hD := hD0.self (sz := s.heap.size)
  generalize hAe : va_A (zm_w cA mo th k (zk_n k) (zk_t k) F fa fb fc fd ++ wr) s.heap.size = A at hD ⊢
  have hA : ∀ q : Nat, s.heap.size ≤ q → A q := fun q h => by rw [← hAe]; exact Or.inr h
  have hS : va_S A s.heap s.heap [] := va_S.rf
  have hl := lv_entry ([.ref (mo 0), .int (nI (x1)), .int (nI (3)), .int (nI (x3)), .int (nI (x4))]) (n := 6) (Nat.le_of_ble_eq_true rfl)
  rw [lg_entry_eq]
  generalize (lg_sl ([.ref (mo 0), .int (nI (x1)), .int (nI (3)), .int (nI (x3)), .int (nI (x4))]) ++ List.replicate (6 - (lg_sl ([.ref (mo 0), .int (nI (x1)), .int (nI (3)), .int (nI (x3)), .int (nI (x4))])).length) Slot.unset).toArray = ls at hl ⊢
  have hl : lv_has ls 6 [(0, .ref (mo 0)), (1, .int (nI (x1))), (2, .int (nI (3))), (3, .int (nI (x3))), (4, .int (nI (x4)))] := hl
  obtain ⟨hb1, hb2, hb3, hb4, hb5, hb6, hb7, hb8⟩ := zk_b k hk
  refine lv_aload_n hx hb dX1_join_0 rfl (lv_at hl 0 rfl) ?_
  refine lv_iload_n hx hb dX1_join_1 rfl (lv_at hl 1 rfl) ?_
  refine zr_callq (zx_runS (As := [.int (nI (x1))]) (rest := [.ref (mo 0)]) hx hb hml hts hown (cm_none0 l (dC, dI) zz_cl ((cA, .int) :: tr) (zm_w cA mo th k (zk_n k) (zk_t k) F fa fb fc fd ++ wr) x1 (by omega)) zu_X1_46 rfl rfl ⟨Nat.le_of_ble_eq_true rfl, Nat.le_of_ble_eq_true rfl⟩ (zr_preS hP hK) rfl hl.1 rfl (Nat.le_of_ble_eq_true rfl) dX1_join_2 ⟨Nat.zero_le _, Nat.zero_le _⟩) ?_
  refine zr_ifne (tgt := 23) hx hb dX1_join_5 (by decide) (by omega) (fun hno9 => absurd hno9 (by omega)) (fun _ => ?_)
  refine lv_iload_n hx hb dX1_join_8 rfl (lv_at hl 3 rfl) ?_
  refine zr_callq (zx_runS (As := [.int (nI (x3))]) (rest := [.ref (mo 0)]) hx hb hml hts hown (cm_none0 l (dC, dI) zz_cl ((cA, .int) :: tr) (zm_w cA mo th k (zk_n k) (zk_t k) F fa fb fc fd ++ wr) x3 (by omega)) zu_X1_46 rfl rfl ⟨Nat.le_of_ble_eq_true rfl, Nat.le_of_ble_eq_true rfl⟩ (zr_preS hP hK) rfl hl.1 rfl (Nat.le_of_ble_eq_true rfl) dX1_join_9 ⟨Nat.zero_le _, Nat.zero_le _⟩) ?_
  refine zr_ifne (tgt := 23) hx hb dX1_join_12 (by decide) (by omega) (fun hno9 => absurd hno9 (by omega)) (fun _ => ?_)
  refine lv_iload hx hb dX1_join_15 (lv_at hl 4 rfl) ?_
  refine zr_callq (zx_runS (As := [.int (nI (x4))]) (rest := [.ref (mo 0)]) hx hb hml hts hown (cm_none0 l (dC, dI) zz_cl ((cA, .int) :: tr) (zm_w cA mo th k (zk_n k) (zk_t k) F fa fb fc fd ++ wr) x4 (by omega)) zu_X1_46 rfl rfl ⟨Nat.le_of_ble_eq_true rfl, Nat.le_of_ble_eq_true rfl⟩ (zr_preS hP hK) rfl hl.1 rfl (Nat.le_of_ble_eq_true rfl) dX1_join_17 ⟨Nat.zero_le _, Nat.zero_le _⟩) ?_
  refine zr_ifeq (tgt := 27) hx hb dX1_join_20 (by decide) (by omega) (fun _ => ?_) (fun hno9 => absurd hno9 (by omega))
  refine lv_iload_n hx hb dX1_join_27 rfl (lv_at hl 2 rfl) ?_
  refine zr_iflt (tgt := 36) hx hb dX1_join_28 (by decide) (by omega) ?_
  refine lv_iload_n hx hb dX1_join_31 rfl (lv_at hl 2 rfl) ?_
  refine lv_iconst (v := nI 3) hx hb dX1_join_32 (by decide) ?_
  refine zr_ile (tgt := 40) hx hb dX1_join_33 (by decide) (by omega) (by omega) (fun _ => ?_) (fun hno9 => absurd hno9 (by omega))
  refine lv_iconst (v := nI 0) hx hb dX1_join_40 (by decide) ?_
  refine zx_put1 (ws' := (zm_w cA mo 0 k (zk_n k) (zk_t k) F fa fb fc fd ++ wr)) hx hb hts hown hK hP hD hS 0 rfl 0 (by decide) zf_X1_32 rfl (by decide +kernel) (Nat.le_of_ble_eq_true rfl) dX1_join_41 rfl (fun H locs hP hD hS => ?_)
  refine lv_aload_n hx hb dX1_join_44 rfl (lv_at hl 0 rfl) ?_
  refine zx_get1 (v := .int (nI (0))) hx hb hts hown hK hP 0 rfl 0 (by decide) zf_X1_32 rfl dX1_join_45 ?_
  refine zr_ifle (tgt := 53) hx hb dX1_join_48 (by decide) (by omega) (fun _ => ?_) (fun hno9 => absurd hno9 (by omega))
  refine lv_aload_n hx hb dX1_join_53 rfl (lv_at hl 0 rfl) ?_
  refine lv_iload_n hx hb dX1_join_54 rfl (lv_at hl 3 rfl) ?_
  refine lv_aload_n hx hb dX1_join_55 rfl (lv_at hl 0 rfl) ?_
  refine zx_get1 (v := .ref (mo 2)) hx hb hts hown hK hP 0 rfl 5 (by decide) zf_X1_20 rfl dX1_join_56 ?_
  refine zw_callv (w' := fun u : Nat → Nat => zm_w cA mo 0 k (zk_n k) (zk_t k) F u fb fc fd ++ wr) hD hS hA (zx_runV (As := [.int (nI (x3)), .ref (mo 2)]) (rest := []) hx hb hml hts hown (cm_take2 l dC dI cA tr wr mo 0 k F fa fb fc fd hk H.size x3 (by omega)) zv_X1_62 rfl rfl ⟨Nat.le_of_ble_eq_true rfl, Nat.le_of_ble_eq_true rfl⟩ (zw_preV (q := (RX1, TM1, 9)) (ci := 1) (q0 := 0) hP hK hD rfl rfl) rfl hl.1 rfl (Nat.le_of_ble_eq_true rfl) dX1_join_59 ⟨Nat.zero_le _, Nat.zero_le _⟩) (fun ua H locs hua hP hD hS => ?_)
  have hlua : ∀ j, j < zk_n k → ua j < zk_t k := fun j hj => by rw [hua j hj]; exact hF x3 j (by omega) hj
  refine lv_aload_n hx hb dX1_join_62 rfl (lv_at hl 0 rfl) ?_
  refine lv_iload hx hb dX1_join_63 (lv_at hl 4 rfl) ?_
  refine lv_aload_n hx hb dX1_join_65 rfl (lv_at hl 0 rfl) ?_
  refine zx_get1 (v := .ref (mo 3)) hx hb hts hown hK hP 0 rfl 6 (by decide) zf_X1_23 rfl dX1_join_66 ?_
  refine zw_callv (w' := fun u : Nat → Nat => zm_w cA mo 0 k (zk_n k) (zk_t k) F ua u fc fd ++ wr) hD hS hA (zx_runV (As := [.int (nI (x4)), .ref (mo 3)]) (rest := []) hx hb hml hts hown (cm_take3 l dC dI cA tr wr mo 0 k F ua fb fc fd hk H.size x4 (by omega)) zv_X1_62 rfl rfl ⟨Nat.le_of_ble_eq_true rfl, Nat.le_of_ble_eq_true rfl⟩ (zw_preV (q := (RX1, TM1, 9)) (ci := 1) (q0 := 0) hP hK hD rfl rfl) rfl hl.1 rfl (Nat.le_of_ble_eq_true rfl) dX1_join_69 ⟨Nat.zero_le _, Nat.zero_le _⟩) (fun ub H locs hub hP hD hS => ?_)
  have hlub : ∀ j, j < zk_n k → ub j < zk_t k := fun j hj => by rw [hub j hj]; exact hF x4 j (by omega) hj
  refine lv_iload_n hx hb dX1_join_72 rfl (lv_at hl 2 rfl) ?_
  refine lv_iconst (v := nI 3) hx hb dX1_join_73 (by decide) ?_
  refine zr_ine (tgt := 94) hx hb dX1_join_74 (by decide) (by omega) (by omega) (fun hno9 => absurd hno9 (by omega)) (fun _ => ?_)
  have hzb : zq_zc (zq_av k ub) (zk_n k) = zq_zc (zq_av k (zq_rw F x4)) (zk_n k) := zq_zc_congr (fun i hi => zq_av_congr hub i)
  refine lv_aload_n hx hb dX1_join_77 rfl (lv_at hl 0 rfl) ?_
  refine lv_aload_n hx hb dX1_join_78 rfl (lv_at hl 0 rfl) ?_
  refine zx_get1 (v := .ref (mo 3)) hx hb hts hown hK hP 0 rfl 6 (by decide) zf_X1_23 rfl dX1_join_79 ?_
  refine zr_callq (zx_runV (As := [.ref (mo 3)]) (rest := []) hx hb hml hts hown (cm_zeros l dC dI cA tr wr mo 0 k F ua ub fc fd hk 3 (mo 3) ub rfl hlub) zv_X1_77 rfl rfl ⟨Nat.le_of_ble_eq_true rfl, Nat.le_of_ble_eq_true rfl⟩ (zr_preV (q := (RX1, TM1, 9)) (ci := 1) (q0 := 0) hP hK rfl rfl) rfl hl.1 rfl (Nat.le_of_ble_eq_true rfl) dX1_join_82 ⟨Nat.zero_le _, Nat.zero_le _⟩) ?_
  have hzc9 := zq_zc_le (zq_av k ub) (zk_n k)
  refine zr_ifle (tgt := 94) hx hb dX1_join_85 (by decide) (by omega) (fun hno9 => absurd hno9 (by omega)) (fun _ => ?_)
  refine lv_aload_n hx hb dX1_join_88 rfl (lv_at hl 0 rfl) ?_
  refine lv_iconst (v := nI 3) hx hb dX1_join_89 (by decide) ?_
  refine zw_calli (w' := fun u : Unit => zm_w cA mo 3 k (zk_n k) (zk_t k) F ua ub fc fd ++ wr) hD hS hA (zx_runV (As := [.int (nI (3))]) (rest := []) hx hb hml hts hown (cm_fail l dC dI cA tr wr mo 0 k F ua ub fc fd hk H.size 3) zv_X1_81 rfl rfl ⟨Nat.le_of_ble_eq_true rfl, Nat.le_of_ble_eq_true rfl⟩ (zw_preV (q := (RX1, TM1, 9)) (ci := 1) (q0 := 0) hP hK hD rfl rfl) rfl hl.1 rfl (Nat.le_of_ble_eq_true rfl) dX1_join_90 ⟨Nat.zero_le _, Nat.zero_le _⟩) (fun r9 u9 H locs hr9 hP hD hS => ?_)
  subst hr9
  exact W.iret (v := nI 0) hx hb hr (fun t9 h9 hW9 => ⟨⟨nI 0, (F, ua, ub, fc, fd), rfl, ⟨rfl, rfl⟩, by rw [h9]; exact hP, va_K.moved hW9.alike hK, hD⟩, hS.F h9⟩) hS.2.2 dX1_join_93
