set_option maxHeartbeats 4000000 in
set_option maxRecDepth 100000 in
/-- X1_turn -/
theorem cm_turn_r1 (l : Launch) (dC : Nat → ClassId) (dI : Nat → Nat → Nat) (cA : ClassId) (tr : List (ClassId × FieldType)) (wr : va_W) (mo : Nat → Nat) (th k : Nat) (F fa fb fc fd : Nat → Nat) (hk : k < 4) (sz : Nat) (x1 : Int32) (x2 : Int32) (x3 : Int32) (hbad : x1 < 0 ∨ nI 16 ≤ x1) : Met l yX1_turn wzX1_turn (k2_rm 1 20) (zw_pre (dC, dI) zz_cl ((cA, .int) :: tr) (zm_w cA mo th k (zk_n k) (zk_t k) F fa fb fc fd ++ wr) sz [.ref (mo 0), .int (x1), .int (x2), .int (x3)]) (va_Qi (fun r (u : zq_U) => r = nI 0 ∧ u.1 = F) (zw_at (dC, dI) zz_cl ((cA, .int) :: tr) (va_A (zm_w cA mo th k (zk_n k) (zk_t k) F fa fb fc fd ++ wr) sz) (fun u : zq_U => zm_w cA mo 1 k (zk_n k) (zk_t k) u.1 u.2.1 u.2.2.1 u.2.2.2.1 u.2.2.2.2 ++ wr)) (va_A (zm_w cA mo th k (zk_n k) (zk_t k) F fa fb fc fd ++ wr) sz)) 0 0 (va_A (zm_w cA mo th k (zk_n k) (zk_t k) F fa fb fc fd ++ wr) sz) := by
  refine Met.ofW (cc := cX1_turn) (maxL := 4) (ret := (some .int)) (by decide) rfl ?_
  intro p e s m args below meth c s₁ B hml hv
  obtain ⟨rfl, hsz, hP, hK, hD0⟩ := hv
  have hx := B.exec
  have hb := B.bytes
  have hr := B.returns
  have hts := atoms_spec (ws := wzX1_turn) B.pre
  have hown : s.vm.findClass RX1 = some m.cls := findClass_of_methodNamed B.named
  have hlocks := B.notSynchronized
  subst hsz
  have hD := hD0.self (sz := s.heap.size)
  generalize hAe : va_A (zm_w cA mo th k (zk_n k) (zk_t k) F fa fb fc fd ++ wr) s.heap.size = A at hD ⊢
  have hA : ∀ q : Nat, s.heap.size ≤ q → A q := fun q h => by rw [← hAe]; exact Or.inr h
  have hS : va_S A s.heap s.heap [] := va_S.rf
  have hl := lv_entry ([.ref (mo 0), .int (x1), .int (x2), .int (x3)]) (n := 4) (Nat.le_of_ble_eq_true rfl)
  rw [lg_entry_eq]
  generalize (lg_sl ([.ref (mo 0), .int (x1), .int (x2), .int (x3)]) ++ List.replicate (4 - (lg_sl ([.ref (mo 0), .int (x1), .int (x2), .int (x3)])).length) Slot.unset).toArray = ls at hl ⊢
  have hl : lv_has ls 4 [(0, .ref (mo 0)), (1, .int (x1)), (2, .int (x2)), (3, .int (x3))] := hl
  obtain ⟨hb1, hb2, hb3, hb4, hb5, hb6, hb7, hb8⟩ := zk_b k hk
  refine lv_aload_n hx hb dX1_turn_0 rfl (lv_at hl 0 rfl) ?_
  refine lv_iload_n hx hb dX1_turn_1 rfl (lv_at hl 1 rfl) ?_
  refine zr_callq (zx_runS (As := [.int (x1)]) (rest := [.ref (mo 0)]) hx hb hml hts hown (cm_none1 l (dC, dI) zz_cl ((cA, .int) :: tr) (zm_w cA mo th k (zk_n k) (zk_t k) F fa fb fc fd ++ wr) x1 hbad) zu_X1_46 rfl rfl ⟨Nat.le_of_ble_eq_true rfl, Nat.le_of_ble_eq_true rfl⟩ (zr_preS hP hK) rfl hl.1 rfl (Nat.le_of_ble_eq_true rfl) dX1_turn_2 ⟨Nat.zero_le _, Nat.zero_le _⟩) ?_
  refine zr_ifne (tgt := 15) hx hb dX1_turn_5 (by decide) (by omega) (fun _ => ?_) (fun hno9 => absurd hno9 (by omega))
  refine lv_iconst (v := nI 1) hx hb dX1_turn_15 (by decide) ?_
  refine lv_goto (tgt := 30) hx hb dX1_turn_16 (by decide) ?_
  refine zx_put1 (ws' := (zm_w cA mo 1 k (zk_n k) (zk_t k) F fa fb fc fd ++ wr)) hx hb hts hown hK hP hD hS 0 rfl 0 (by decide) zf_X1_32 rfl (by decide +kernel) (Nat.le_of_ble_eq_true rfl) dX1_turn_30 rfl (fun H locs hP hD hS => ?_)
  refine lv_aload_n hx hb dX1_turn_33 rfl (lv_at hl 0 rfl) ?_
  refine zx_get1 (v := .int (nI (1))) hx hb hts hown hK hP 0 rfl 0 (by decide) zf_X1_32 rfl dX1_turn_34 ?_
  refine zr_ifle (tgt := 42) hx hb dX1_turn_37 (by decide) (by omega) (fun hno9 => absurd hno9 (by omega)) (fun _ => ?_)
  refine lv_iconst (v := nI 0) hx hb dX1_turn_40 (by decide) ?_
  exact W.iret (v := nI 0) hx hb hr (fun t9 h9 hW9 => ⟨⟨nI 0, (F, fa, fb, fc, fd), rfl, ⟨rfl, rfl⟩, by rw [h9]; exact hP, va_K.moved hW9.alike hK, hD⟩, hS.F h9⟩) hS.2.2 dX1_turn_41
set_option maxHeartbeats 4000000 in
set_option maxRecDepth 100000 in
/-- X1_turn -/
theorem cm_turn_r2 (l : Launch) (dC : Nat → ClassId) (dI : Nat → Nat → Nat) (cA : ClassId) (tr : List (ClassId × FieldType)) (wr : va_W) (mo : Nat → Nat) (th k : Nat) (F fa fb fc fd : Nat → Nat) (hk : k < 4) (sz : Nat) (x1 : Nat) (hx1 : x1 < 16) (x2 : Int32) (x3 : Int32) (hbad : x2 < 0 ∨ nI 16 ≤ x2) : Met l yX1_turn wzX1_turn (k2_rm 1 20) (zw_pre (dC, dI) zz_cl ((cA, .int) :: tr) (zm_w cA mo th k (zk_n k) (zk_t k) F fa fb fc fd ++ wr) sz [.ref (mo 0), .int (nI (x1)), .int (x2), .int (x3)]) (va_Qi (fun r (u : zq_U) => r = nI 0 ∧ u.1 = F) (zw_at (dC, dI) zz_cl ((cA, .int) :: tr) (va_A (zm_w cA mo th k (zk_n k) (zk_t k) F fa fb fc fd ++ wr) sz) (fun u : zq_U => zm_w cA mo 1 k (zk_n k) (zk_t k) u.1 u.2.1 u.2.2.1 u.2.2.2.1 u.2.2.2.2 ++ wr)) (va_A (zm_w cA mo th k (zk_n k) (zk_t k) F fa fb fc fd ++ wr) sz)) 0 0 (va_A (zm_w cA mo th k (zk_n k) (zk_t k) F fa fb fc fd ++ wr) sz) := by
  refine Met.ofW (cc := cX1_turn) (maxL := 4) (ret := (some .int)) (by decide) rfl ?_
  intro p e s m args below meth c s₁ B hml hv
  obtain ⟨rfl, hsz, hP, hK, hD0⟩ := hv
  have hx := B.exec
  have hb := B.bytes
  have hr := B.returns
  have hts := atoms_spec (ws := wzX1_turn) B.pre
  have hown : s.vm.findClass RX1 = some m.cls := findClass_of_methodNamed B.named
  have hlocks := B.notSynchronized
  subst hsz
  have hD := hD0.self (sz := s.heap.size)
  generalize hAe : va_A (zm_w cA mo th k (zk_n k) (zk_t k) F fa fb fc fd ++ wr) s.heap.size = A at hD ⊢
  have hA : ∀ q : Nat, s.heap.size ≤ q → A q := fun q h => by rw [← hAe]; exact Or.inr h
  have hS : va_S A s.heap s.heap [] := va_S.rf
  have hl := lv_entry ([.ref (mo 0), .int (nI (x1)), .int (x2), .int (x3)]) (n := 4) (Nat.le_of_ble_eq_true rfl)
  rw [lg_entry_eq]
  generalize (lg_sl ([.ref (mo 0), .int (nI (x1)), .int (x2), .int (x3)]) ++ List.replicate (4 - (lg_sl ([.ref (mo 0), .int (nI (x1)), .int (x2), .int (x3)])).length) Slot.unset).toArray = ls at hl ⊢
  have hl : lv_has ls 4 [(0, .ref (mo 0)), (1, .int (nI (x1))), (2, .int (x2)), (3, .int (x3))] := hl
  obtain ⟨hb1, hb2, hb3, hb4, hb5, hb6, hb7, hb8⟩ := zk_b k hk
  refine lv_aload_n hx hb dX1_turn_0 rfl (lv_at hl 0 rfl) ?_
  refine lv_iload_n hx hb dX1_turn_1 rfl (lv_at hl 1 rfl) ?_
  refine zr_callq (zx_runS (As := [.int (nI (x1))]) (rest := [.ref (mo 0)]) hx hb hml hts hown (cm_none0 l (dC, dI) zz_cl ((cA, .int) :: tr) (zm_w cA mo th k (zk_n k) (zk_t k) F fa fb fc fd ++ wr) x1 (by omega)) zu_X1_46 rfl rfl ⟨Nat.le_of_ble_eq_true rfl, Nat.le_of_ble_eq_true rfl⟩ (zr_preS hP hK) rfl hl.1 rfl (Nat.le_of_ble_eq_true rfl) dX1_turn_2 ⟨Nat.zero_le _, Nat.zero_le _⟩) ?_
  refine zr_ifne (tgt := 15) hx hb dX1_turn_5 (by decide) (by omega) (fun hno9 => absurd hno9 (by omega)) (fun _ => ?_)
  refine lv_iload_n hx hb dX1_turn_8 rfl (lv_at hl 2 rfl) ?_
  refine zr_callq (zx_runS (As := [.int (x2)]) (rest := [.ref (mo 0)]) hx hb hml hts hown (cm_none1 l (dC, dI) zz_cl ((cA, .int) :: tr) (zm_w cA mo th k (zk_n k) (zk_t k) F fa fb fc fd ++ wr) x2 hbad) zu_X1_46 rfl rfl ⟨Nat.le_of_ble_eq_true rfl, Nat.le_of_ble_eq_true rfl⟩ (zr_preS hP hK) rfl hl.1 rfl (Nat.le_of_ble_eq_true rfl) dX1_turn_9 ⟨Nat.zero_le _, Nat.zero_le _⟩) ?_
  refine zr_ifeq (tgt := 19) hx hb dX1_turn_12 (by decide) (by omega) (fun hno9 => absurd hno9 (by omega)) (fun _ => ?_)
  refine lv_iconst (v := nI 1) hx hb dX1_turn_15 (by decide) ?_
  refine lv_goto (tgt := 30) hx hb dX1_turn_16 (by decide) ?_
  refine zx_put1 (ws' := (zm_w cA mo 1 k (zk_n k) (zk_t k) F fa fb fc fd ++ wr)) hx hb hts hown hK hP hD hS 0 rfl 0 (by decide) zf_X1_32 rfl (by decide +kernel) (Nat.le_of_ble_eq_true rfl) dX1_turn_30 rfl (fun H locs hP hD hS => ?_)
  refine lv_aload_n hx hb dX1_turn_33 rfl (lv_at hl 0 rfl) ?_
  refine zx_get1 (v := .int (nI (1))) hx hb hts hown hK hP 0 rfl 0 (by decide) zf_X1_32 rfl dX1_turn_34 ?_
  refine zr_ifle (tgt := 42) hx hb dX1_turn_37 (by decide) (by omega) (fun hno9 => absurd hno9 (by omega)) (fun _ => ?_)
  refine lv_iconst (v := nI 0) hx hb dX1_turn_40 (by decide) ?_
  exact W.iret (v := nI 0) hx hb hr (fun t9 h9 hW9 => ⟨⟨nI 0, (F, fa, fb, fc, fd), rfl, ⟨rfl, rfl⟩, by rw [h9]; exact hP, va_K.moved hW9.alike hK, hD⟩, hS.F h9⟩) hS.2.2 dX1_turn_41
set_option maxHeartbeats 4000000 in
set_option maxRecDepth 100000 in
/-- X1_turn -/
theorem cm_turn_g (l : Launch) (dC : Nat → ClassId) (dI : Nat → Nat → Nat) (cA : ClassId) (tr : List (ClassId × FieldType)) (wr : va_W) (mo : Nat → Nat) (th k : Nat) (F fa fb fc fd : Nat → Nat) (hk : k < 4) (sz : Nat) (x1 : Nat) (hx1 : x1 < 16) (x2 : Nat) (hx2 : x2 < 16) (g0 : Int) (h1 : -2147483648 ≤ g0) (h2 : g0 < 2147483648) (hev : g0 % 2 = 0) : Met l yX1_turn wzX1_turn (k2_rm 1 20) (zw_pre (dC, dI) zz_cl ((cA, .int) :: tr) (zm_w cA mo th k (zk_n k) (zk_t k) F fa fb fc fd ++ wr) sz [.ref (mo 0), .int (nI (x1)), .int (nI (x2)), .int (zi_I (g0))]) (va_Qi (fun r (u : zq_U) => r = nI 0 ∧ u.1 = F) (zw_at (dC, dI) zz_cl ((cA, .int) :: tr) (va_A (zm_w cA mo th k (zk_n k) (zk_t k) F fa fb fc fd ++ wr) sz) (fun u : zq_U => zm_w cA mo 2 k (zk_n k) (zk_t k) u.1 u.2.1 u.2.2.1 u.2.2.2.1 u.2.2.2.2 ++ wr)) (va_A (zm_w cA mo th k (zk_n k) (zk_t k) F fa fb fc fd ++ wr) sz)) 0 0 (va_A (zm_w cA mo th k (zk_n k) (zk_t k) F fa fb fc fd ++ wr) sz) := by
  refine Met.ofW (cc := cX1_turn) (maxL := 4) (ret := (some .int)) (by decide) rfl ?_
  intro p e s m args below meth c s₁ B hml hv
  obtain ⟨rfl, hsz, hP, hK, hD0⟩ := hv
  have hx := B.exec
  have hb := B.bytes
  have hr := B.returns
  have hts := atoms_spec (ws := wzX1_turn) B.pre
  have hown : s.vm.findClass RX1 = some m.cls := findClass_of_methodNamed B.named
  have hlocks := B.notSynchronized
  subst hsz
  have hD := hD0.self (sz := s.heap.size)
  generalize hAe : va_A (zm_w cA mo th k (zk_n k) (zk_t k) F fa fb fc fd ++ wr) s.heap.size = A at hD ⊢
  have hA : ∀ q : Nat, s.heap.size ≤ q → A q := fun q h => by rw [← hAe]; exact Or.inr h
  have hS : va_S A s.heap s.heap [] := va_S.rf
  have hl := lv_entry ([.ref (mo 0), .int (nI (x1)), .int (nI (x2)), .int (zi_I (g0))]) (n := 4) (Nat.le_of_ble_eq_true rfl)
  rw [lg_entry_eq]
  generalize (lg_sl ([.ref (mo 0), .int (nI (x1)), .int (nI (x2)), .int (zi_I (g0))]) ++ List.replicate (4 - (lg_sl ([.ref (mo 0), .int (nI (x1)), .int (nI (x2)), .int (zi_I (g0))])).length) Slot.unset).toArray = ls at hl ⊢
  have hl : lv_has ls 4 [(0, .ref (mo 0)), (1, .int (nI (x1))), (2, .int (nI (x2))), (3, .int (zi_I (g0)))] := hl
  obtain ⟨hb1, hb2, hb3, hb4, hb5, hb6, hb7, hb8⟩ := zk_b k hk
  refine lv_aload_n hx hb dX1_turn_0 rfl (lv_at hl 0 rfl) ?_
  refine lv_iload_n hx hb dX1_turn_1 rfl (lv_at hl 1 rfl) ?_
  refine zr_callq (zx_runS (As := [.int (nI (x1))]) (rest := [.ref (mo 0)]) hx hb hml hts hown (cm_none0 l (dC, dI) zz_cl ((cA, .int) :: tr) (zm_w cA mo th k (zk_n k) (zk_t k) F fa fb fc fd ++ wr) x1 (by omega)) zu_X1_46 rfl rfl ⟨Nat.le_of_ble_eq_true rfl, Nat.le_of_ble_eq_true rfl⟩ (zr_preS hP hK) rfl hl.1 rfl (Nat.le_of_ble_eq_true rfl) dX1_turn_2 ⟨Nat.zero_le _, Nat.zero_le _⟩) ?_
  refine zr_ifne (tgt := 15) hx hb dX1_turn_5 (by decide) (by omega) (fun hno9 => absurd hno9 (by omega)) (fun _ => ?_)
  refine lv_iload_n hx hb dX1_turn_8 rfl (lv_at hl 2 rfl) ?_
  refine zr_callq (zx_runS (As := [.int (nI (x2))]) (rest := [.ref (mo 0)]) hx hb hml hts hown (cm_none0 l (dC, dI) zz_cl ((cA, .int) :: tr) (zm_w cA mo th k (zk_n k) (zk_t k) F fa fb fc fd ++ wr) x2 (by omega)) zu_X1_46 rfl rfl ⟨Nat.le_of_ble_eq_true rfl, Nat.le_of_ble_eq_true rfl⟩ (zr_preS hP hK) rfl hl.1 rfl (Nat.le_of_ble_eq_true rfl) dX1_turn_9 ⟨Nat.zero_le _, Nat.zero_le _⟩) ?_
  refine zr_ifeq (tgt := 19) hx hb dX1_turn_12 (by decide) (by omega) (fun _ => ?_) (fun hno9 => absurd hno9 (by omega))
  refine lv_iload_n hx hb dX1_turn_19 rfl (lv_at hl 3 rfl) ?_
  refine lv_iconst (v := nI 1) hx hb dX1_turn_20 (by decide) ?_
  refine lv_iand hx hb dX1_turn_21 ?_
  rw [zi_and1 h1 h2 (o := 0) (by omega)]
  refine zr_ifne (tgt := 29) hx hb dX1_turn_22 (by decide) (by omega) (fun hno9 => absurd hno9 (by omega)) (fun _ => ?_)
  refine lv_iconst (v := nI 2) hx hb dX1_turn_25 (by decide) ?_
  refine lv_goto (tgt := 30) hx hb dX1_turn_26 (by decide) ?_
  refine zx_put1 (ws' := (zm_w cA mo 2 k (zk_n k) (zk_t k) F fa fb fc fd ++ wr)) hx hb hts hown hK hP hD hS 0 rfl 0 (by decide) zf_X1_32 rfl (by decide +kernel) (Nat.le_of_ble_eq_true rfl) dX1_turn_30 rfl (fun H locs hP hD hS => ?_)
  refine lv_aload_n hx hb dX1_turn_33 rfl (lv_at hl 0 rfl) ?_
  refine zx_get1 (v := .int (nI (2))) hx hb hts hown hK hP 0 rfl 0 (by decide) zf_X1_32 rfl dX1_turn_34 ?_
  refine zr_ifle (tgt := 42) hx hb dX1_turn_37 (by decide) (by omega) (fun hno9 => absurd hno9 (by omega)) (fun _ => ?_)
  refine lv_iconst (v := nI 0) hx hb dX1_turn_40 (by decide) ?_
  exact W.iret (v := nI 0) hx hb hr (fun t9 h9 hW9 => ⟨⟨nI 0, (F, fa, fb, fc, fd), rfl, ⟨rfl, rfl⟩, by rw [h9]; exact hP, va_K.moved hW9.alike hK, hD⟩, hS.F h9⟩) hS.2.2 dX1_turn_41
set_option maxHeartbeats 4000000 in
set_option maxRecDepth 100000 in
/-- X1_turn -/
theorem cm_turn (l : Launch) (dC : Nat → ClassId) (dI : Nat → Nat → Nat) (cA : ClassId) (tr : List (ClassId × FieldType)) (wr : va_W) (mo : Nat → Nat) (th k : Nat) (F fa fb fc fd : Nat → Nat) (hk : k < 4) (sz : Nat) (x1 : Nat) (hx1 : x1 < 16) (x2 : Nat) (hx2 : x2 < 16) (g0 : Int) (h1 : -2147483648 ≤ g0) (h2 : g0 < 2147483648) (g1 : Nat) (hodd : g0 % 2 ≠ 0) (hg : g0 % ((2 * zk_n k : Nat) : Int) = (g1 : Int)) (hF : ∀ r j, r < 16 → j < zk_n k → F (32 * r + j) < zk_t k) : Met l yX1_turn wzX1_turn (k2_rm 3 70) (zw_pre (dC, dI) zz_cl ((cA, .int) :: tr) (zm_w cA mo th k (zk_n k) (zk_t k) F fa fb fc fd ++ wr) sz [.ref (mo 0), .int (nI (x1)), .int (nI (x2)), .int (zi_I (g0))]) (va_Qi (fun r (u : zq_U) => r = nI (zq_av k (zq_rw F x2) (zk_d k g1 0)) ∧ zq_fr k F x1 (fun i => zq_av k (zq_rw F x2) (zk_d k g1 i)) u.1) (zw_at (dC, dI) zz_cl ((cA, .int) :: tr) (va_A (zm_w cA mo th k (zk_n k) (zk_t k) F fa fb fc fd ++ wr) sz) (fun u : zq_U => zm_w cA mo 0 k (zk_n k) (zk_t k) u.1 u.2.1 u.2.2.1 u.2.2.2.1 u.2.2.2.2 ++ wr)) (va_A (zm_w cA mo th k (zk_n k) (zk_t k) F fa fb fc fd ++ wr) sz)) 0 0 (va_A (zm_w cA mo th k (zk_n k) (zk_t k) F fa fb fc fd ++ wr) sz) := by
  refine Met.ofW (cc := cX1_turn) (maxL := 4) (ret := (some .int)) (by decide) rfl ?_
  intro p e s m args below meth c s₁ B hml hv
  obtain ⟨rfl, hsz, hP, hK, hD0⟩ := hv
  have hx := B.exec
  have hb := B.bytes
  have hr := B.returns
  have hts := atoms_spec (ws := wzX1_turn) B.pre
  have hown : s.vm.findClass RX1 = some m.cls := findClass_of_methodNamed B.named
  have hlocks := B.notSynchronized
  subst hsz
  have hD := hD0.self (sz := s.heap.size)
  generalize hAe : va_A (zm_w cA mo th k (zk_n k) (zk_t k) F fa fb fc fd ++ wr) s.heap.size = A at hD ⊢
  have hA : ∀ q : Nat, s.heap.size ≤ q → A q := fun q h => by rw [← hAe]; exact Or.inr h
  have hS : va_S A s.heap s.heap [] := va_S.rf
  have hl := lv_entry ([.ref (mo 0), .int (nI (x1)), .int (nI (x2)), .int (zi_I (g0))]) (n := 4) (Nat.le_of_ble_eq_true rfl)
  rw [lg_entry_eq]
  generalize (lg_sl ([.ref (mo 0), .int (nI (x1)), .int (nI (x2)), .int (zi_I (g0))]) ++ List.replicate (4 - (lg_sl ([.ref (mo 0), .int (nI (x1)), .int (nI (x2)), .int (zi_I (g0))])).length) Slot.unset).toArray = ls at hl ⊢
  have hl : lv_has ls 4 [(0, .ref (mo 0)), (1, .int (nI (x1))), (2, .int (nI (x2))), (3, .int (zi_I (g0)))] := hl
  obtain ⟨hb1, hb2, hb3, hb4, hb5, hb6, hb7, hb8⟩ := zk_b k hk
  have hg1 := zi_m2 (show 0 < zk_n k by omega) hg
  have ho1 := zi_odd hg hodd
  refine lv_aload_n hx hb dX1_turn_0 rfl (lv_at hl 0 rfl) ?_
  refine lv_iload_n hx hb dX1_turn_1 rfl (lv_at hl 1 rfl) ?_
  refine zr_callq (zx_runS (As := [.int (nI (x1))]) (rest := [.ref (mo 0)]) hx hb hml hts hown (cm_none0 l (dC, dI) zz_cl ((cA, .int) :: tr) (zm_w cA mo th k (zk_n k) (zk_t k) F fa fb fc fd ++ wr) x1 (by omega)) zu_X1_46 rfl rfl ⟨Nat.le_of_ble_eq_true rfl, Nat.le_of_ble_eq_true rfl⟩ (zr_preS hP hK) rfl hl.1 rfl (Nat.le_of_ble_eq_true rfl) dX1_turn_2 ⟨Nat.zero_le _, Nat.zero_le _⟩) ?_
  refine zr_ifne (tgt := 15) hx hb dX1_turn_5 (by decide) (by omega) (fun hno9 => absurd hno9 (by omega)) (fun _ => ?_)
  refine lv_iload_n hx hb dX1_turn_8 rfl (lv_at hl 2 rfl) ?_
  refine zr_callq (zx_runS (As := [.int (nI (x2))]) (rest := [.ref (mo 0)]) hx hb hml hts hown (cm_none0 l (dC, dI) zz_cl ((cA, .int) :: tr) (zm_w cA mo th k (zk_n k) (zk_t k) F fa fb fc fd ++ wr) x2 (by omega)) zu_X1_46 rfl rfl ⟨Nat.le_of_ble_eq_true rfl, Nat.le_of_ble_eq_true rfl⟩ (zr_preS hP hK) rfl hl.1 rfl (Nat.le_of_ble_eq_true rfl) dX1_turn_9 ⟨Nat.zero_le _, Nat.zero_le _⟩) ?_
  refine zr_ifeq (tgt := 19) hx hb dX1_turn_12 (by decide) (by omega) (fun _ => ?_) (fun hno9 => absurd hno9 (by omega))
  refine lv_iload_n hx hb dX1_turn_19 rfl (lv_at hl 3 rfl) ?_
  refine lv_iconst (v := nI 1) hx hb dX1_turn_20 (by decide) ?_
  refine lv_iand hx hb dX1_turn_21 ?_
  rw [zi_and1 h1 h2 (o := 1) (by omega)]
  refine zr_ifne (tgt := 29) hx hb dX1_turn_22 (by decide) (by omega) (fun _ => ?_) (fun hno9 => absurd hno9 (by omega))
  refine lv_iconst (v := nI 0) hx hb dX1_turn_29 (by decide) ?_
  refine zx_put1 (ws' := (zm_w cA mo 0 k (zk_n k) (zk_t k) F fa fb fc fd ++ wr)) hx hb hts hown hK hP hD hS 0 rfl 0 (by decide) zf_X1_32 rfl (by decide +kernel) (Nat.le_of_ble_eq_true rfl) dX1_turn_30 rfl (fun H locs hP hD hS => ?_)
  refine lv_aload_n hx hb dX1_turn_33 rfl (lv_at hl 0 rfl) ?_
  refine zx_get1 (v := .int (nI (0))) hx hb hts hown hK hP 0 rfl 0 (by decide) zf_X1_32 rfl dX1_turn_34 ?_
  refine zr_ifle (tgt := 42) hx hb dX1_turn_37 (by decide) (by omega) (fun _ => ?_) (fun hno9 => absurd hno9 (by omega))
  refine lv_aload_n hx hb dX1_turn_42 rfl (lv_at hl 0 rfl) ?_
  refine lv_iload_n hx hb dX1_turn_43 rfl (lv_at hl 2 rfl) ?_
  refine lv_aload_n hx hb dX1_turn_44 rfl (lv_at hl 0 rfl) ?_
  refine zx_get1 (v := .ref (mo 2)) hx hb hts hown hK hP 0 rfl 5 (by decide) zf_X1_20 rfl dX1_turn_45 ?_
  refine zw_callv (w' := fun u : Nat → Nat => zm_w cA mo 0 k (zk_n k) (zk_t k) F u fb fc fd ++ wr) hD hS hA (zx_runV (As := [.int (nI (x2)), .ref (mo 2)]) (rest := []) hx hb hml hts hown (cm_take2 l dC dI cA tr wr mo 0 k F fa fb fc fd hk H.size x2 (by omega)) zv_X1_62 rfl rfl ⟨Nat.le_of_ble_eq_true rfl, Nat.le_of_ble_eq_true rfl⟩ (zw_preV (q := (RX1, TM1, 9)) (ci := 1) (q0 := 0) hP hK hD rfl rfl) rfl hl.1 rfl (Nat.le_of_ble_eq_true rfl) dX1_turn_48 ⟨Nat.zero_le _, Nat.zero_le _⟩) (fun ua H locs hua hP hD hS => ?_)
  have hlua : ∀ j, j < zk_n k → ua j < zk_t k := fun j hj => by rw [hua j hj]; exact hF x2 j (by omega) hj
  refine lv_aload_n hx hb dX1_turn_51 rfl (lv_at hl 0 rfl) ?_
  refine lv_iload_n hx hb dX1_turn_52 rfl (lv_at hl 3 rfl) ?_
  refine lv_iconst (v := nI 2) hx hb dX1_turn_53 (by decide) ?_
  refine lv_aload_n hx hb dX1_turn_54 rfl (lv_at hl 0 rfl) ?_
  refine zx_get1 (v := .int (nI (zk_n k))) hx hb hts hown hK hP 0 rfl 2 (by decide) zf_X1_7 rfl dX1_turn_55 ?_
  refine zr_imul hx hb dX1_turn_58 ?_
  refine zr_callq (zx_runS (As := [.int (zi_I (g0)), .int (nI (2 * (zk_n k)))]) (rest := [.ref (mo 0)]) hx hb hml hts hown (cJ_floorMod l (dC, dI) zz_cl ((cA, .int) :: tr) (zm_w cA mo 0 k (zk_n k) (zk_t k) F ua fb fc fd ++ wr) g0 (2 * zk_n k) g1 h1 h2 (by omega) (by omega) hg) zu_X1_91 rfl rfl ⟨Nat.le_of_ble_eq_true rfl, Nat.le_of_ble_eq_true rfl⟩ (zr_preS hP hK) rfl hl.1 rfl (Nat.le_of_ble_eq_true rfl) dX1_turn_59 ⟨Nat.zero_le _, Nat.zero_le _⟩) ?_
  refine zw_callv (w' := fun u : Nat → Nat => zm_w cA mo 0 k (zk_n k) (zk_t k) F ua u fc fd ++ wr) hD hS hA (zx_runV (As := [.int (nI (g1))]) (rest := []) hx hb hml hts hown (cm_turn1 l dC dI cA tr wr mo 0 k F ua fb fc fd hk H.size g1 hg1 ho1 hlua) zv_X1_96 rfl rfl ⟨Nat.le_of_ble_eq_true rfl, Nat.le_of_ble_eq_true rfl⟩ (zw_preV (q := (RX1, TM1, 9)) (ci := 1) (q0 := 0) hP hK hD rfl rfl) rfl hl.1 rfl (Nat.le_of_ble_eq_true rfl) dX1_turn_62 ⟨Nat.zero_le _, Nat.zero_le _⟩) (fun ub H locs hub hP hD hS => ?_)
  have hlub : ∀ j, j < zk_n k → ub j < zk_t k := fun j hj => zq_tn_lt hk hg1 ho1 hlua hub hj
  refine lv_aload_n hx hb dX1_turn_65 rfl (lv_at hl 0 rfl) ?_
  refine lv_iload_n hx hb dX1_turn_66 rfl (lv_at hl 1 rfl) ?_
  refine lv_aload_n hx hb dX1_turn_67 rfl (lv_at hl 0 rfl) ?_
  refine zx_get1 (v := .ref (mo 3)) hx hb hts hown hK hP 0 rfl 6 (by decide) zf_X1_23 rfl dX1_turn_68 ?_
  refine zw_callv (w' := fun u : Nat → Nat => zm_w cA mo 0 k (zk_n k) (zk_t k) u ua ub fc fd ++ wr) hD hS hA (zx_runV (As := [.int (nI (x1)), .ref (mo 3)]) (rest := []) hx hb hml hts hown (cm_put3 l dC dI cA tr wr mo 0 k F ua ub fc fd hk H.size x1 (by omega)) zv_X1_70 rfl rfl ⟨Nat.le_of_ble_eq_true rfl, Nat.le_of_ble_eq_true rfl⟩ (zw_preV (q := (RX1, TM1, 9)) (ci := 1) (q0 := 0) hP hK hD rfl rfl) rfl hl.1 rfl (Nat.le_of_ble_eq_true rfl) dX1_turn_71 ⟨Nat.zero_le _, Nat.zero_le _⟩) (fun uF H locs huF hP hD hS => ?_)
  refine lv_aload_n hx hb dX1_turn_74 rfl (lv_at hl 0 rfl) ?_
  refine lv_aload_n hx hb dX1_turn_75 rfl (lv_at hl 0 rfl) ?_
  refine zx_get1 (v := .ref (mo 3)) hx hb hts hown hK hP 0 rfl 6 (by decide) zf_X1_23 rfl dX1_turn_76 ?_
  refine lv_iconst (v := nI 0) hx hb dX1_turn_79 (by decide) ?_
  refine zr_callq (zx_runV (As := [.ref (mo 3), .int (nI (0))]) (rest := []) hx hb hml hts hown (cm_at l dC dI cA tr wr mo 0 k uF ua ub fc fd hk 3 (mo 3) ub rfl hlub 0 (by omega)) zv_X1_58 rfl rfl ⟨Nat.le_of_ble_eq_true rfl, Nat.le_of_ble_eq_true rfl⟩ (zr_preV (q := (RX1, TM1, 9)) (ci := 1) (q0 := 0) hP hK rfl rfl) rfl hl.1 rfl (Nat.le_of_ble_eq_true rfl) dX1_turn_80 ⟨Nat.zero_le _, Nat.zero_le _⟩) ?_
  have hwb : ∀ i, i < zk_n k → zq_av k ub i = zq_av k (zq_rw F x2) (zk_d k g1 i) := fun i hi => by rw [zq_av_tn hk hg1 ho1 hlua hub hi, zq_av_congr hua]; rfl
  exact W.iret (v := nI (zq_av k ub 0)) hx hb hr (fun t9 h9 hW9 => ⟨⟨nI (zq_av k ub 0), (uF, ua, ub, fc, fd), rfl, ⟨congrArg nI (hwb 0 (by omega)), zq_fr_put hk huF hlub hwb⟩, by rw [h9]; exact hP, va_K.moved hW9.alike hK, hD⟩, hS.F h9⟩) hS.2.2 dX1_turn_83
set_option maxHeartbeats 4000000 in
set_option maxRecDepth 100000 in
/-- X1_power -/
theorem cm_power_r1 (l : Launch) (dC : Nat → ClassId) (dI : Nat → Nat → Nat) (cA : ClassId) (tr : List (ClassId × FieldType)) (wr : va_W) (mo : Nat → Nat) (th k : Nat) (F fa fb fc fd : Nat → Nat) (hk : k < 4) (sz : Nat) (x1 : Int32) (x2 : Int32) (x3 : Int32) (hbad : x1 < 0 ∨ nI 16 ≤ x1) : Met l yX1_power wzX1_power (k2_rm 1 20) (zw_pre (dC, dI) zz_cl ((cA, .int) :: tr) (zm_w cA mo th k (zk_n k) (zk_t k) F fa fb fc fd ++ wr) sz [.ref (mo 0), .int (x1), .int (x2), .int (x3)]) (va_Qi (fun r (u : zq_U) => r = nI 0 ∧ u.1 = F) (zw_at (dC, dI) zz_cl ((cA, .int) :: tr) (va_A (zm_w cA mo th k (zk_n k) (zk_t k) F fa fb fc fd ++ wr) sz) (fun u : zq_U => zm_w cA mo 1 k (zk_n k) (zk_t k) u.1 u.2.1 u.2.2.1 u.2.2.2.1 u.2.2.2.2 ++ wr)) (va_A (zm_w cA mo th k (zk_n k) (zk_t k) F fa fb fc fd ++ wr) sz)) 0 0 (va_A (zm_w cA mo th k (zk_n k) (zk_t k) F fa fb fc fd ++ wr) sz) := by
  refine Met.ofW (cc := cX1_power) (maxL := 4) (ret := (some .int)) (by decide) rfl ?_
  intro p e s m args below meth c s₁ B hml hv
  obtain ⟨rfl, hsz, hP, hK, hD0⟩ := hv
  have hx := B.exec
  have hb := B.bytes
  have hr := B.returns
  have hts := atoms_spec (ws := wzX1_power) B.pre
  have hown : s.vm.findClass RX1 = some m.cls := findClass_of_methodNamed B.named
  have hlocks := B.notSynchronized
  subst hsz
  have hD := hD0.self (sz := s.heap.size)
  generalize hAe : va_A (zm_w cA mo th k (zk_n k) (zk_t k) F fa fb fc fd ++ wr) s.heap.size = A at hD ⊢
  have hA : ∀ q : Nat, s.heap.size ≤ q → A q := fun q h => by rw [← hAe]; exact Or.inr h
  have hS : va_S A s.heap s.heap [] := va_S.rf
  have hl := lv_entry ([.ref (mo 0), .int (x1), .int (x2), .int (x3)]) (n := 4) (Nat.le_of_ble_eq_true rfl)
  rw [lg_entry_eq]
  generalize (lg_sl ([.ref (mo 0), .int (x1), .int (x2), .int (x3)]) ++ List.replicate (4 - (lg_sl ([.ref (mo 0), .int (x1), .int (x2), .int (x3)])).length) Slot.unset).toArray = ls at hl ⊢
  have hl : lv_has ls 4 [(0, .ref (mo 0)), (1, .int (x1)), (2, .int (x2)), (3, .int (x3))] := hl
  obtain ⟨hb1, hb2, hb3, hb4, hb5, hb6, hb7, hb8⟩ := zk_b k hk
  refine lv_aload_n hx hb dX1_power_0 rfl (lv_at hl 0 rfl) ?_
  refine lv_iload_n hx hb dX1_power_1 rfl (lv_at hl 1 rfl) ?_
  refine zr_callq (zx_runS (As := [.int (x1)]) (rest := [.ref (mo 0)]) hx hb hml hts hown (cm_none1 l (dC, dI) zz_cl ((cA, .int) :: tr) (zm_w cA mo th k (zk_n k) (zk_t k) F fa fb fc fd ++ wr) x1 hbad) zu_X1_46 rfl rfl ⟨Nat.le_of_ble_eq_true rfl, Nat.le_of_ble_eq_true rfl⟩ (zr_preS hP hK) rfl hl.1 rfl (Nat.le_of_ble_eq_true rfl) dX1_power_2 ⟨Nat.zero_le _, Nat.zero_le _⟩) ?_
  refine zr_ifne (tgt := 15) hx hb dX1_power_5 (by decide) (by omega) (fun _ => ?_) (fun hno9 => absurd hno9 (by omega))
  refine lv_iconst (v := nI 1) hx hb dX1_power_15 (by decide) ?_
  refine lv_goto (tgt := 20) hx hb dX1_power_16 (by decide) ?_
  refine zx_put1 (ws' := (zm_w cA mo 1 k (zk_n k) (zk_t k) F fa fb fc fd ++ wr)) hx hb hts hown hK hP hD hS 0 rfl 0 (by decide) zf_X1_32 rfl (by decide +kernel) (Nat.le_of_ble_eq_true rfl) dX1_power_20 rfl (fun H locs hP hD hS => ?_)
  refine lv_aload_n hx hb dX1_power_23 rfl (lv_at hl 0 rfl) ?_
  refine zx_get1 (v := .int (nI (1))) hx hb hts hown hK hP 0 rfl 0 (by decide) zf_X1_32 rfl dX1_power_24 ?_
  refine zr_ifle (tgt := 32) hx hb dX1_power_27 (by decide) (by omega) (fun hno9 => absurd hno9 (by omega)) (fun _ => ?_)
  refine lv_iconst (v := nI 0) hx hb dX1_power_30 (by decide) ?_
  exact W.iret (v := nI 0) hx hb hr (fun t9 h9 hW9 => ⟨⟨nI 0, (F, fa, fb, fc, fd), rfl, ⟨rfl, rfl⟩, by rw [h9]; exact hP, va_K.moved hW9.alike hK, hD⟩, hS.F h9⟩) hS.2.2 dX1_power_31
set_option maxHeartbeats 4000000 in
set_option maxRecDepth 100000 in
/-- X1_power -/
theorem cm_power_r2 (l : Launch) (dC : Nat → ClassId) (dI : Nat → Nat → Nat) (cA : ClassId) (tr : List (ClassId × FieldType)) (wr : va_W) (mo : Nat → Nat) (th k : Nat) (F fa fb fc fd : Nat → Nat) (hk : k < 4) (sz : Nat) (x1 : Nat) (hx1 : x1 < 16) (x2 : Int32) (x3 : Int32) (hbad : x2 < 0 ∨ nI 16 ≤ x2) : Met l yX1_power wzX1_power (k2_rm 1 20) (zw_pre (dC, dI) zz_cl ((cA, .int) :: tr) (zm_w cA mo th k (zk_n k) (zk_t k) F fa fb fc fd ++ wr) sz [.ref (mo 0), .int (nI (x1)), .int (x2), .int (x3)]) (va_Qi (fun r (u : zq_U) => r = nI 0 ∧ u.1 = F) (zw_at (dC, dI) zz_cl ((cA, .int) :: tr) (va_A (zm_w cA mo th k (zk_n k) (zk_t k) F fa fb fc fd ++ wr) sz) (fun u : zq_U => zm_w cA mo 1 k (zk_n k) (zk_t k) u.1 u.2.1 u.2.2.1 u.2.2.2.1 u.2.2.2.2 ++ wr)) (va_A (zm_w cA mo th k (zk_n k) (zk_t k) F fa fb fc fd ++ wr) sz)) 0 0 (va_A (zm_w cA mo th k (zk_n k) (zk_t k) F fa fb fc fd ++ wr) sz) := by
  refine Met.ofW (cc := cX1_power) (maxL := 4) (ret := (some .int)) (by decide) rfl ?_
  intro p e s m args below meth c s₁ B hml hv
  obtain ⟨rfl, hsz, hP, hK, hD0⟩ := hv
  have hx := B.exec
  have hb := B.bytes
  have hr := B.returns
  have hts := atoms_spec (ws := wzX1_power) B.pre
  have hown : s.vm.findClass RX1 = some m.cls := findClass_of_methodNamed B.named
  have hlocks := B.notSynchronized
  subst hsz
  have hD := hD0.self (sz := s.heap.size)
  generalize hAe : va_A (zm_w cA mo th k (zk_n k) (zk_t k) F fa fb fc fd ++ wr) s.heap.size = A at hD ⊢
  have hA : ∀ q : Nat, s.heap.size ≤ q → A q := fun q h => by rw [← hAe]; exact Or.inr h
  have hS : va_S A s.heap s.heap [] := va_S.rf
  have hl := lv_entry ([.ref (mo 0), .int (nI (x1)), .int (x2), .int (x3)]) (n := 4) (Nat.le_of_ble_eq_true rfl)
  rw [lg_entry_eq]
  generalize (lg_sl ([.ref (mo 0), .int (nI (x1)), .int (x2), .int (x3)]) ++ List.replicate (4 - (lg_sl ([.ref (mo 0), .int (nI (x1)), .int (x2), .int (x3)])).length) Slot.unset).toArray = ls at hl ⊢
  have hl : lv_has ls 4 [(0, .ref (mo 0)), (1, .int (nI (x1))), (2, .int (x2)), (3, .int (x3))] := hl
  obtain ⟨hb1, hb2, hb3, hb4, hb5, hb6, hb7, hb8⟩ := zk_b k hk
  refine lv_aload_n hx hb dX1_power_0 rfl (lv_at hl 0 rfl) ?_
  refine lv_iload_n hx hb dX1_power_1 rfl (lv_at hl 1 rfl) ?_
  refine zr_callq (zx_runS (As := [.int (nI (x1))]) (rest := [.ref (mo 0)]) hx hb hml hts hown (cm_none0 l (dC, dI) zz_cl ((cA, .int) :: tr) (zm_w cA mo th k (zk_n k) (zk_t k) F fa fb fc fd ++ wr) x1 (by omega)) zu_X1_46 rfl rfl ⟨Nat.le_of_ble_eq_true rfl, Nat.le_of_ble_eq_true rfl⟩ (zr_preS hP hK) rfl hl.1 rfl (Nat.le_of_ble_eq_true rfl) dX1_power_2 ⟨Nat.zero_le _, Nat.zero_le _⟩) ?_
  refine zr_ifne (tgt := 15) hx hb dX1_power_5 (by decide) (by omega) (fun hno9 => absurd hno9 (by omega)) (fun _ => ?_)
  refine lv_iload_n hx hb dX1_power_8 rfl (lv_at hl 2 rfl) ?_
  refine zr_callq (zx_runS (As := [.int (x2)]) (rest := [.ref (mo 0)]) hx hb hml hts hown (cm_none1 l (dC, dI) zz_cl ((cA, .int) :: tr) (zm_w cA mo th k (zk_n k) (zk_t k) F fa fb fc fd ++ wr) x2 hbad) zu_X1_46 rfl rfl ⟨Nat.le_of_ble_eq_true rfl, Nat.le_of_ble_eq_true rfl⟩ (zr_preS hP hK) rfl hl.1 rfl (Nat.le_of_ble_eq_true rfl) dX1_power_9 ⟨Nat.zero_le _, Nat.zero_le _⟩) ?_
  refine zr_ifeq (tgt := 19) hx hb dX1_power_12 (by decide) (by omega) (fun hno9 => absurd hno9 (by omega)) (fun _ => ?_)
  refine lv_iconst (v := nI 1) hx hb dX1_power_15 (by decide) ?_
  refine lv_goto (tgt := 20) hx hb dX1_power_16 (by decide) ?_
  refine zx_put1 (ws' := (zm_w cA mo 1 k (zk_n k) (zk_t k) F fa fb fc fd ++ wr)) hx hb hts hown hK hP hD hS 0 rfl 0 (by decide) zf_X1_32 rfl (by decide +kernel) (Nat.le_of_ble_eq_true rfl) dX1_power_20 rfl (fun H locs hP hD hS => ?_)
  refine lv_aload_n hx hb dX1_power_23 rfl (lv_at hl 0 rfl) ?_
  refine zx_get1 (v := .int (nI (1))) hx hb hts hown hK hP 0 rfl 0 (by decide) zf_X1_32 rfl dX1_power_24 ?_
  refine zr_ifle (tgt := 32) hx hb dX1_power_27 (by decide) (by omega) (fun hno9 => absurd hno9 (by omega)) (fun _ => ?_)
  refine lv_iconst (v := nI 0) hx hb dX1_power_30 (by decide) ?_
  exact W.iret (v := nI 0) hx hb hr (fun t9 h9 hW9 => ⟨⟨nI 0, (F, fa, fb, fc, fd), rfl, ⟨rfl, rfl⟩, by rw [h9]; exact hP, va_K.moved hW9.alike hK, hD⟩, hS.F h9⟩) hS.2.2 dX1_power_31
set_option maxHeartbeats 4000000 in
set_option maxRecDepth 100000 in
/-- X1_power -/
theorem cm_powerP (l : Launch) (dC : Nat → ClassId) (dI : Nat → Nat → Nat) (cA : ClassId) (tr : List (ClassId × FieldType)) (wr : va_W) (mo : Nat → Nat) (th k : Nat) (F fa fb fc fd : Nat → Nat) (hk : k < 4) (sz : Nat) (x1 : Nat) (hx1 : x1 < 16) (x2 : Nat) (hx2 : x2 < 16) (e0 : Nat) (he0 : e0 < 2147483648) (hF : ∀ r j, r < 16 → j < zk_n k → F (32 * r + j) < zk_t k) : Met l yX1_power wzX1_power (k2_rm 4 93) (zw_pre (dC, dI) zz_cl ((cA, .int) :: tr) (zm_w cA mo th k (zk_n k) (zk_t k) F fa fb fc fd ++ wr) sz [.ref (mo 0), .int (nI (x1)), .int (nI (x2)), .int (nI (e0))]) (va_Qi (fun r (u : zq_U) => r = nI (zq_zc (fun i => zq_av k (zq_rw F x2) i ^ e0 % zk_t k) (zk_n k)) ∧ zq_fr k F x1 (fun i => zq_av k (zq_rw F x2) i ^ e0 % zk_t k) u.1) (zw_at (dC, dI) zz_cl ((cA, .int) :: tr) (va_A (zm_w cA mo th k (zk_n k) (zk_t k) F fa fb fc fd ++ wr) sz) (fun u : zq_U => zm_w cA mo 0 k (zk_n k) (zk_t k) u.1 u.2.1 u.2.2.1 u.2.2.2.1 u.2.2.2.2 ++ wr)) (va_A (zm_w cA mo th k (zk_n k) (zk_t k) F fa fb fc fd ++ wr) sz)) 0 0 (va_A (zm_w cA mo th k (zk_n k) (zk_t k) F fa fb fc fd ++ wr) sz) := by
  refine Met.ofW (cc := cX1_power) (maxL := 4) (ret := (some .int)) (by decide) rfl ?_
  intro p e s m args below meth c s₁ B hml hv
  obtain ⟨rfl, hsz, hP, hK, hD0⟩ := hv
  have hx := B.exec
  have hb := B.bytes
  have hr := B.returns
  have hts := atoms_spec (ws := wzX1_power) B.pre
  have hown : s.vm.findClass RX1 = some m.cls := findClass_of_methodNamed B.named
  have hlocks := B.notSynchronized
  subst hsz
  have hD := hD0.self (sz := s.heap.size)
  generalize hAe : va_A (zm_w cA mo th k (zk_n k) (zk_t k) F fa fb fc fd ++ wr) s.heap.size = A at hD ⊢
  have hA : ∀ q : Nat, s.heap.size ≤ q → A q := fun q h => by rw [← hAe]; exact Or.inr h
  have hS : va_S A s.heap s.heap [] := va_S.rf
  have hl := lv_entry ([.ref (mo 0), .int (nI (x1)), .int (nI (x2)), .int (nI (e0))]) (n := 4) (Nat.le_of_ble_eq_true rfl)
  rw [lg_entry_eq]
  generalize (lg_sl ([.ref (mo 0), .int (nI (x1)), .int (nI (x2)), .int (nI (e0))]) ++ List.replicate (4 - (lg_sl ([.ref (mo 0), .int (nI (x1)), .int (nI (x2)), .int (nI (e0))])).length) Slot.unset).toArray = ls at hl ⊢
  have hl : lv_has ls 4 [(0, .ref (mo 0)), (1, .int (nI (x1))), (2, .int (nI (x2))), (3, .int (nI (e0)))] := hl
  obtain ⟨hb1, hb2, hb3, hb4, hb5, hb6, hb7, hb8⟩ := zk_b k hk
  refine lv_aload_n hx hb dX1_power_0 rfl (lv_at hl 0 rfl) ?_
  refine lv_iload_n hx hb dX1_power_1 rfl (lv_at hl 1 rfl) ?_
  refine zr_callq (zx_runS (As := [.int (nI (x1))]) (rest := [.ref (mo 0)]) hx hb hml hts hown (cm_none0 l (dC, dI) zz_cl ((cA, .int) :: tr) (zm_w cA mo th k (zk_n k) (zk_t k) F fa fb fc fd ++ wr) x1 (by omega)) zu_X1_46 rfl rfl ⟨Nat.le_of_ble_eq_true rfl, Nat.le_of_ble_eq_true rfl⟩ (zr_preS hP hK) rfl hl.1 rfl (Nat.le_of_ble_eq_true rfl) dX1_power_2 ⟨Nat.zero_le _, Nat.zero_le _⟩) ?_
  refine zr_ifne (tgt := 15) hx hb dX1_power_5 (by decide) (by omega) (fun hno9 => absurd hno9 (by omega)) (fun _ => ?_)
  refine lv_iload_n hx hb dX1_power_8 rfl (lv_at hl 2 rfl) ?_
  refine zr_callq (zx_runS (As := [.int (nI (x2))]) (rest := [.ref (mo 0)]) hx hb hml hts hown (cm_none0 l (dC, dI) zz_cl ((cA, .int) :: tr) (zm_w cA mo th k (zk_n k) (zk_t k) F fa fb fc fd ++ wr) x2 (by omega)) zu_X1_46 rfl rfl ⟨Nat.le_of_ble_eq_true rfl, Nat.le_of_ble_eq_true rfl⟩ (zr_preS hP hK) rfl hl.1 rfl (Nat.le_of_ble_eq_true rfl) dX1_power_9 ⟨Nat.zero_le _, Nat.zero_le _⟩) ?_
  refine zr_ifeq (tgt := 19) hx hb dX1_power_12 (by decide) (by omega) (fun _ => ?_) (fun hno9 => absurd hno9 (by omega))
  refine lv_iconst (v := nI 0) hx hb dX1_power_19 (by decide) ?_
  refine zx_put1 (ws' := (zm_w cA mo 0 k (zk_n k) (zk_t k) F fa fb fc fd ++ wr)) hx hb hts hown hK hP hD hS 0 rfl 0 (by decide) zf_X1_32 rfl (by decide +kernel) (Nat.le_of_ble_eq_true rfl) dX1_power_20 rfl (fun H locs hP hD hS => ?_)
  refine lv_aload_n hx hb dX1_power_23 rfl (lv_at hl 0 rfl) ?_
  refine zx_get1 (v := .int (nI (0))) hx hb hts hown hK hP 0 rfl 0 (by decide) zf_X1_32 rfl dX1_power_24 ?_
  refine zr_ifle (tgt := 32) hx hb dX1_power_27 (by decide) (by omega) (fun _ => ?_) (fun hno9 => absurd hno9 (by omega))
  refine lv_aload_n hx hb dX1_power_32 rfl (lv_at hl 0 rfl) ?_
  refine lv_iload_n hx hb dX1_power_33 rfl (lv_at hl 2 rfl) ?_
  refine lv_aload_n hx hb dX1_power_34 rfl (lv_at hl 0 rfl) ?_
  refine zx_get1 (v := .ref (mo 2)) hx hb hts hown hK hP 0 rfl 5 (by decide) zf_X1_20 rfl dX1_power_35 ?_
  refine zw_callv (w' := fun u : Nat → Nat => zm_w cA mo 0 k (zk_n k) (zk_t k) F u fb fc fd ++ wr) hD hS hA (zx_runV (As := [.int (nI (x2)), .ref (mo 2)]) (rest := []) hx hb hml hts hown (cm_take2 l dC dI cA tr wr mo 0 k F fa fb fc fd hk H.size x2 (by omega)) zv_X1_62 rfl rfl ⟨Nat.le_of_ble_eq_true rfl, Nat.le_of_ble_eq_true rfl⟩ (zw_preV (q := (RX1, TM1, 9)) (ci := 1) (q0 := 0) hP hK hD rfl rfl) rfl hl.1 rfl (Nat.le_of_ble_eq_true rfl) dX1_power_38 ⟨Nat.zero_le _, Nat.zero_le _⟩) (fun ua H locs hua hP hD hS => ?_)
  have hlua : ∀ j, j < zk_n k → ua j < zk_t k := fun j hj => by rw [hua j hj]; exact hF x2 j (by omega) hj
  refine lv_iload_n hx hb dX1_power_41 rfl (lv_at hl 3 rfl) ?_
  refine zr_ifge (tgt := 79) hx hb dX1_power_42 (by decide) (by omega) ?_
  refine lv_aload_n hx hb dX1_power_79 rfl (lv_at hl 0 rfl) ?_
  refine lv_aload_n hx hb dX1_power_80 rfl (lv_at hl 0 rfl) ?_
  refine zx_get1 (v := .ref (mo 2)) hx hb hts hown hK hP 0 rfl 5 (by decide) zf_X1_20 rfl dX1_power_81 ?_
  refine lv_iload_n hx hb dX1_power_84 rfl (lv_at hl 3 rfl) ?_
  refine zr_ifge (tgt := 94) hx hb dX1_power_85 (by decide) (by omega) ?_
  refine lv_iload_n hx hb dX1_power_94 rfl (lv_at hl 3 rfl) ?_
  refine zr_i2l hx hb dX1_power_95 (by omega) ?_
  refine zw_callv (w' := fun u : (Nat → Nat) × (Nat → Nat) × (Nat → Nat) => zm_w cA mo 0 k (zk_n k) (zk_t k) F u.1 fb u.2.1 u.2.2 ++ wr) hD hS hA (zx_runV (As := [.ref (mo 2), .long (lN (e0))]) (rest := []) hx hb hml hts hown (cm_raise2 l dC dI cA tr wr mo 0 k F ua fb fc fd hk H.size e0 (by omega) hlua) zv_X1_87 rfl rfl ⟨Nat.le_of_ble_eq_true rfl, Nat.le_of_ble_eq_true rfl⟩ (zw_preV (q := (RX1, TM1, 9)) (ci := 1) (q0 := 0) hP hK hD rfl rfl) rfl hl.1 rfl (Nat.le_of_ble_eq_true rfl) dX1_power_96 ⟨Nat.zero_le _, Nat.zero_le _⟩) (fun ur H locs hur hP hD hS => ?_)
  obtain ⟨hlub, hvub⟩ := hur
  obtain ⟨ub, uc1, ud1⟩ := ur
  replace hlub : ∀ j, j < zk_n k → ub j < zk_t k := hlub
  refine lv_aload_n hx hb dX1_power_99 rfl (lv_at hl 0 rfl) ?_
  refine lv_iload_n hx hb dX1_power_100 rfl (lv_at hl 1 rfl) ?_
  refine lv_aload_n hx hb dX1_power_101 rfl (lv_at hl 0 rfl) ?_
  refine zx_get1 (v := .ref (mo 2)) hx hb hts hown hK hP 0 rfl 5 (by decide) zf_X1_20 rfl dX1_power_102 ?_
  refine zw_callv (w' := fun u : Nat → Nat => zm_w cA mo 0 k (zk_n k) (zk_t k) u ub fb uc1 ud1 ++ wr) hD hS hA (zx_runV (As := [.int (nI (x1)), .ref (mo 2)]) (rest := []) hx hb hml hts hown (cm_put2 l dC dI cA tr wr mo 0 k F ub fb uc1 ud1 hk H.size x1 (by omega)) zv_X1_70 rfl rfl ⟨Nat.le_of_ble_eq_true rfl, Nat.le_of_ble_eq_true rfl⟩ (zw_preV (q := (RX1, TM1, 9)) (ci := 1) (q0 := 0) hP hK hD rfl rfl) rfl hl.1 rfl (Nat.le_of_ble_eq_true rfl) dX1_power_105 ⟨Nat.zero_le _, Nat.zero_le _⟩) (fun uF H locs huF hP hD hS => ?_)
  refine lv_aload_n hx hb dX1_power_108 rfl (lv_at hl 0 rfl) ?_
  refine lv_aload_n hx hb dX1_power_109 rfl (lv_at hl 0 rfl) ?_
  refine zx_get1 (v := .ref (mo 2)) hx hb hts hown hK hP 0 rfl 5 (by decide) zf_X1_20 rfl dX1_power_110 ?_
  refine zr_callq (zx_runV (As := [.ref (mo 2)]) (rest := []) hx hb hml hts hown (cm_zeros l dC dI cA tr wr mo 0 k uF ub fb uc1 ud1 hk 2 (mo 2) ub rfl hlub) zv_X1_77 rfl rfl ⟨Nat.le_of_ble_eq_true rfl, Nat.le_of_ble_eq_true rfl⟩ (zr_preV (q := (RX1, TM1, 9)) (ci := 1) (q0 := 0) hP hK rfl rfl) rfl hl.1 rfl (Nat.le_of_ble_eq_true rfl) dX1_power_113 ⟨Nat.zero_le _, Nat.zero_le _⟩) ?_
  have hzc9 := zq_zc_le (zq_av k ub) (zk_n k)
  have hwa : ∀ i, i < zk_n k → zq_av k ub i = (fun i => zq_av k (zq_rw F x2) i ^ e0 % zk_t k) i := fun i hi => by rw [show zq_av k ub i = zq_av k ua i ^ e0 % zk_t k from hvub i hi, zq_av_congr hua]; rfl
  exact W.iret (v := nI (zq_zc (zq_av k ub) (zk_n k))) hx hb hr (fun t9 h9 hW9 => ⟨⟨nI (zq_zc (zq_av k ub) (zk_n k)), (uF, ub, fb, uc1, ud1), rfl, ⟨congrArg nI (zq_zc_congr hwa), zq_fr_put hk huF hlub hwa⟩, by rw [h9]; exact hP, va_K.moved hW9.alike hK, hD⟩, hS.F h9⟩) hS.2.2 dX1_power_116
set_option maxHeartbeats 4000000 in
set_option maxRecDepth 100000 in
/-- X1_power -/
theorem cm_powerM (l : Launch) (dC : Nat → ClassId) (dI : Nat → Nat → Nat) (cA : ClassId) (tr : List (ClassId × FieldType)) (wr : va_W) (mo : Nat → Nat) (th k : Nat) (F fa fb fc fd : Nat → Nat) (hk : k < 4) (sz : Nat) (x1 : Nat) (hx1 : x1 < 16) (x2 : Nat) (hx2 : x2 < 16) (e1 : Nat) (he0 : 0 < e1) (he1 : e1 ≤ 2147483648) (hF : ∀ r j, r < 16 → j < zk_n k → F (32 * r + j) < zk_t k) (hz : zq_zc (zq_av k (zq_rw F x2)) (zk_n k) = 0) : Met l yX1_power wzX1_power (k2_rm 4 93) (zw_pre (dC, dI) zz_cl ((cA, .int) :: tr) (zm_w cA mo th k (zk_n k) (zk_t k) F fa fb fc fd ++ wr) sz [.ref (mo 0), .int (nI (x1)), .int (nI (x2)), .int (zi_I (-((e1 : Nat) : Int)))]) (va_Qi (fun r (u : zq_U) => r = nI (zq_zc (fun i => (zq_av k (zq_rw F x2) i ^ (zk_t k - 2) % zk_t k) ^ e1 % zk_t k) (zk_n k)) ∧ zq_fr k F x1 (fun i => (zq_av k (zq_rw F x2) i ^ (zk_t k - 2) % zk_t k) ^ e1 % zk_t k) u.1) (zw_at (dC, dI) zz_cl ((cA, .int) :: tr) (va_A (zm_w cA mo th k (zk_n k) (zk_t k) F fa fb fc fd ++ wr) sz) (fun u : zq_U => zm_w cA mo 0 k (zk_n k) (zk_t k) u.1 u.2.1 u.2.2.1 u.2.2.2.1 u.2.2.2.2 ++ wr)) (va_A (zm_w cA mo th k (zk_n k) (zk_t k) F fa fb fc fd ++ wr) sz)) 0 0 (va_A (zm_w cA mo th k (zk_n k) (zk_t k) F fa fb fc fd ++ wr) sz) := by
  refine Met.ofW (cc := cX1_power) (maxL := 4) (ret := (some .int)) (by decide) rfl ?_
  intro p e s m args below meth c s₁ B hml hv
  obtain ⟨rfl, hsz, hP, hK, hD0⟩ := hv
  have hx := B.exec
  have hb := B.bytes
  have hr := B.returns
  have hts := atoms_spec (ws := wzX1_power) B.pre
  have hown : s.vm.findClass RX1 = some m.cls := findClass_of_methodNamed B.named
  have hlocks := B.notSynchronized
  subst hsz
  have hD := hD0.self (sz := s.heap.size)
  generalize hAe : va_A (zm_w cA mo th k (zk_n k) (zk_t k) F fa fb fc fd ++ wr) s.heap.size = A at hD ⊢
  have hA : ∀ q : Nat, s.heap.size ≤ q → A q := fun q h => by rw [← hAe]; exact Or.inr h
  have hS : va_S A s.heap s.heap [] := va_S.rf
  have hl := lv_entry ([.ref (mo 0), .int (nI (x1)), .int (nI (x2)), .int (zi_I (-((e1 : Nat) : Int)))]) (n := 4) (Nat.le_of_ble_eq_true rfl)
  rw [lg_entry_eq]
  generalize (lg_sl ([.ref (mo 0), .int (nI (x1)), .int (nI (x2)), .int (zi_I (-((e1 : Nat) : Int)))]) ++ List.replicate (4 - (lg_sl ([.ref (mo 0), .int (nI (x1)), .int (nI (x2)), .int (zi_I (-((e1 : Nat) : Int)))])).length) Slot.unset).toArray = ls at hl ⊢
  have hl : lv_has ls 4 [(0, .ref (mo 0)), (1, .int (nI (x1))), (2, .int (nI (x2))), (3, .int (zi_I (-((e1 : Nat) : Int))))] := hl
  obtain ⟨hb1, hb2, hb3, hb4, hb5, hb6, hb7, hb8⟩ := zk_b k hk
  have hneg : ¬ (0 : Int32) ≤ zi_I (-((e1 : Nat) : Int)) := by rw [zi_0, zi_le (by omega) (by omega) (by omega) (by omega)]; omega
  refine lv_aload_n hx hb dX1_power_0 rfl (lv_at hl 0 rfl) ?_
  refine lv_iload_n hx hb dX1_power_1 rfl (lv_at hl 1 rfl) ?_
  refine zr_callq (zx_runS (As := [.int (nI (x1))]) (rest := [.ref (mo 0)]) hx hb hml hts hown (cm_none0 l (dC, dI) zz_cl ((cA, .int) :: tr) (zm_w cA mo th k (zk_n k) (zk_t k) F fa fb fc fd ++ wr) x1 (by omega)) zu_X1_46 rfl rfl ⟨Nat.le_of_ble_eq_true rfl, Nat.le_of_ble_eq_true rfl⟩ (zr_preS hP hK) rfl hl.1 rfl (Nat.le_of_ble_eq_true rfl) dX1_power_2 ⟨Nat.zero_le _, Nat.zero_le _⟩) ?_
  refine zr_ifne (tgt := 15) hx hb dX1_power_5 (by decide) (by omega) (fun hno9 => absurd hno9 (by omega)) (fun _ => ?_)
  refine lv_iload_n hx hb dX1_power_8 rfl (lv_at hl 2 rfl) ?_
  refine zr_callq (zx_runS (As := [.int (nI (x2))]) (rest := [.ref (mo 0)]) hx hb hml hts hown (cm_none0 l (dC, dI) zz_cl ((cA, .int) :: tr) (zm_w cA mo th k (zk_n k) (zk_t k) F fa fb fc fd ++ wr) x2 (by omega)) zu_X1_46 rfl rfl ⟨Nat.le_of_ble_eq_true rfl, Nat.le_of_ble_eq_true rfl⟩ (zr_preS hP hK) rfl hl.1 rfl (Nat.le_of_ble_eq_true rfl) dX1_power_9 ⟨Nat.zero_le _, Nat.zero_le _⟩) ?_
  refine zr_ifeq (tgt := 19) hx hb dX1_power_12 (by decide) (by omega) (fun _ => ?_) (fun hno9 => absurd hno9 (by omega))
  refine lv_iconst (v := nI 0) hx hb dX1_power_19 (by decide) ?_
  refine zx_put1 (ws' := (zm_w cA mo 0 k (zk_n k) (zk_t k) F fa fb fc fd ++ wr)) hx hb hts hown hK hP hD hS 0 rfl 0 (by decide) zf_X1_32 rfl (by decide +kernel) (Nat.le_of_ble_eq_true rfl) dX1_power_20 rfl (fun H locs hP hD hS => ?_)
  refine lv_aload_n hx hb dX1_power_23 rfl (lv_at hl 0 rfl) ?_
  refine zx_get1 (v := .int (nI (0))) hx hb hts hown hK hP 0 rfl 0 (by decide) zf_X1_32 rfl dX1_power_24 ?_
  refine zr_ifle (tgt := 32) hx hb dX1_power_27 (by decide) (by omega) (fun _ => ?_) (fun hno9 => absurd hno9 (by omega))
  refine lv_aload_n hx hb dX1_power_32 rfl (lv_at hl 0 rfl) ?_
  refine lv_iload_n hx hb dX1_power_33 rfl (lv_at hl 2 rfl) ?_
  refine lv_aload_n hx hb dX1_power_34 rfl (lv_at hl 0 rfl) ?_
  refine zx_get1 (v := .ref (mo 2)) hx hb hts hown hK hP 0 rfl 5 (by decide) zf_X1_20 rfl dX1_power_35 ?_
  refine zw_callv (w' := fun u : Nat → Nat => zm_w cA mo 0 k (zk_n k) (zk_t k) F u fb fc fd ++ wr) hD hS hA (zx_runV (As := [.int (nI (x2)), .ref (mo 2)]) (rest := []) hx hb hml hts hown (cm_take2 l dC dI cA tr wr mo 0 k F fa fb fc fd hk H.size x2 (by omega)) zv_X1_62 rfl rfl ⟨Nat.le_of_ble_eq_true rfl, Nat.le_of_ble_eq_true rfl⟩ (zw_preV (q := (RX1, TM1, 9)) (ci := 1) (q0 := 0) hP hK hD rfl rfl) rfl hl.1 rfl (Nat.le_of_ble_eq_true rfl) dX1_power_38 ⟨Nat.zero_le _, Nat.zero_le _⟩) (fun ua H locs hua hP hD hS => ?_)
  have hlua : ∀ j, j < zk_n k → ua j < zk_t k := fun j hj => by rw [hua j hj]; exact hF x2 j (by omega) hj
  refine lv_iload_n hx hb dX1_power_41 rfl (lv_at hl 3 rfl) ?_
  refine lv_if_ge (tgt := 79) hx hb dX1_power_42 (by decide) (fun hh => absurd hh hneg) (fun _ => ?_)
  refine lv_aload_n hx hb dX1_power_45 rfl (lv_at hl 0 rfl) ?_
  refine lv_aload_n hx hb dX1_power_46 rfl (lv_at hl 0 rfl) ?_
  refine zx_get1 (v := .ref (mo 2)) hx hb hts hown hK hP 0 rfl 5 (by decide) zf_X1_20 rfl dX1_power_47 ?_
  refine zr_callq (zx_runV (As := [.ref (mo 2)]) (rest := []) hx hb hml hts hown (cm_zeros l dC dI cA tr wr mo 0 k F ua fb fc fd hk 2 (mo 2) ua rfl hlua) zv_X1_77 rfl rfl ⟨Nat.le_of_ble_eq_true rfl, Nat.le_of_ble_eq_true rfl⟩ (zr_preV (q := (RX1, TM1, 9)) (ci := 1) (q0 := 0) hP hK rfl rfl) rfl hl.1 rfl (Nat.le_of_ble_eq_true rfl) dX1_power_50 ⟨Nat.zero_le _, Nat.zero_le _⟩) ?_
  have hzc9 := zq_zc_le (zq_av k ua) (zk_n k)
  have hza : zq_zc (zq_av k ua) (zk_n k) = zq_zc (zq_av k (zq_rw F x2)) (zk_n k) := zq_zc_congr (fun i hi => zq_av_congr hua i)
  refine zr_ifle (tgt := 62) hx hb dX1_power_53 (by decide) (by omega) (fun _ => ?_) (fun hno9 => absurd hno9 (by omega))
  refine lv_aload_n hx hb dX1_power_62 rfl (lv_at hl 0 rfl) ?_
  refine lv_aload_n hx hb dX1_power_63 rfl (lv_at hl 0 rfl) ?_
  refine zx_get1 (v := .ref (mo 2)) hx hb hts hown hK hP 0 rfl 5 (by decide) zf_X1_20 rfl dX1_power_64 ?_
  refine lv_aload_n hx hb dX1_power_67 rfl (lv_at hl 0 rfl) ?_
  refine zx_get1 (v := .int (nI (zk_t k))) hx hb hts hown hK hP 0 rfl 3 (by decide) zf_X1_13 rfl dX1_power_68 ?_
  refine zr_i2l hx hb dX1_power_71 (by omega) ?_
  refine lv_ldc2 (v := lN 2) hx hb hown (hts _ (List.mem_cons_of_mem _ zg_X1_85)) dX1_power_72 ?_
  refine zr_lsub hx hb dX1_power_75 (by omega) ?_
  refine zw_callv (w' := fun u : (Nat → Nat) × (Nat → Nat) × (Nat → Nat) => zm_w cA mo 0 k (zk_n k) (zk_t k) F u.1 fb u.2.1 u.2.2 ++ wr) hD hS hA (zx_runV (As := [.ref (mo 2), .long (lN ((zk_t k) - 2))]) (rest := []) hx hb hml hts hown (cm_raise2 l dC dI cA tr wr mo 0 k F ua fb fc fd hk H.size (zk_t k - 2) (by omega) hlua) zv_X1_87 rfl rfl ⟨Nat.le_of_ble_eq_true rfl, Nat.le_of_ble_eq_true rfl⟩ (zw_preV (q := (RX1, TM1, 9)) (ci := 1) (q0 := 0) hP hK hD rfl rfl) rfl hl.1 rfl (Nat.le_of_ble_eq_true rfl) dX1_power_76 ⟨Nat.zero_le _, Nat.zero_le _⟩) (fun ur H locs hur hP hD hS => ?_)
  obtain ⟨hlub, hvub⟩ := hur
  obtain ⟨ub, uc1, ud1⟩ := ur
  replace hlub : ∀ j, j < zk_n k → ub j < zk_t k := hlub
  refine lv_aload_n hx hb dX1_power_79 rfl (lv_at hl 0 rfl) ?_
  refine lv_aload_n hx hb dX1_power_80 rfl (lv_at hl 0 rfl) ?_
  refine zx_get1 (v := .ref (mo 2)) hx hb hts hown hK hP 0 rfl 5 (by decide) zf_X1_20 rfl dX1_power_81 ?_
  refine lv_iload_n hx hb dX1_power_84 rfl (lv_at hl 3 rfl) ?_
  refine lv_if_ge (tgt := 94) hx hb dX1_power_85 (by decide) (fun hh => absurd hh hneg) (fun _ => ?_)
  refine lv_iload_n hx hb dX1_power_88 rfl (lv_at hl 3 rfl) ?_
  refine zr_i2lZ hx hb dX1_power_89 (by omega) (by omega) ?_
  refine zr_lnegZ hx hb dX1_power_90 ?_
  refine lv_goto (tgt := 96) hx hb dX1_power_91 (by decide) ?_
  refine zw_callv (w' := fun u : (Nat → Nat) × (Nat → Nat) × (Nat → Nat) => zm_w cA mo 0 k (zk_n k) (zk_t k) F u.1 fb u.2.1 u.2.2 ++ wr) hD hS hA (zx_runV (As := [.ref (mo 2), .long (lN (e1))]) (rest := []) hx hb hml hts hown (cm_raise2 l dC dI cA tr wr mo 0 k F ub fb uc1 ud1 hk H.size e1 (by omega) hlub) zv_X1_87 rfl rfl ⟨Nat.le_of_ble_eq_true rfl, Nat.le_of_ble_eq_true rfl⟩ (zw_preV (q := (RX1, TM1, 9)) (ci := 1) (q0 := 0) hP hK hD rfl rfl) rfl hl.1 rfl (Nat.le_of_ble_eq_true rfl) dX1_power_96 ⟨Nat.zero_le _, Nat.zero_le _⟩) (fun ur H locs hur hP hD hS => ?_)
  obtain ⟨hlud, hvud⟩ := hur
  obtain ⟨ud, uc2, ud2⟩ := ur
  replace hlud : ∀ j, j < zk_n k → ud j < zk_t k := hlud
  refine lv_aload_n hx hb dX1_power_99 rfl (lv_at hl 0 rfl) ?_
  refine lv_iload_n hx hb dX1_power_100 rfl (lv_at hl 1 rfl) ?_
  refine lv_aload_n hx hb dX1_power_101 rfl (lv_at hl 0 rfl) ?_
  refine zx_get1 (v := .ref (mo 2)) hx hb hts hown hK hP 0 rfl 5 (by decide) zf_X1_20 rfl dX1_power_102 ?_
  refine zw_callv (w' := fun u : Nat → Nat => zm_w cA mo 0 k (zk_n k) (zk_t k) u ud fb uc2 ud2 ++ wr) hD hS hA (zx_runV (As := [.int (nI (x1)), .ref (mo 2)]) (rest := []) hx hb hml hts hown (cm_put2 l dC dI cA tr wr mo 0 k F ud fb uc2 ud2 hk H.size x1 (by omega)) zv_X1_70 rfl rfl ⟨Nat.le_of_ble_eq_true rfl, Nat.le_of_ble_eq_true rfl⟩ (zw_preV (q := (RX1, TM1, 9)) (ci := 1) (q0 := 0) hP hK hD rfl rfl) rfl hl.1 rfl (Nat.le_of_ble_eq_true rfl) dX1_power_105 ⟨Nat.zero_le _, Nat.zero_le _⟩) (fun uF H locs huF hP hD hS => ?_)
  refine lv_aload_n hx hb dX1_power_108 rfl (lv_at hl 0 rfl) ?_
  refine lv_aload_n hx hb dX1_power_109 rfl (lv_at hl 0 rfl) ?_
  refine zx_get1 (v := .ref (mo 2)) hx hb hts hown hK hP 0 rfl 5 (by decide) zf_X1_20 rfl dX1_power_110 ?_
  refine zr_callq (zx_runV (As := [.ref (mo 2)]) (rest := []) hx hb hml hts hown (cm_zeros l dC dI cA tr wr mo 0 k uF ud fb uc2 ud2 hk 2 (mo 2) ud rfl hlud) zv_X1_77 rfl rfl ⟨Nat.le_of_ble_eq_true rfl, Nat.le_of_ble_eq_true rfl⟩ (zr_preV (q := (RX1, TM1, 9)) (ci := 1) (q0 := 0) hP hK rfl rfl) rfl hl.1 rfl (Nat.le_of_ble_eq_true rfl) dX1_power_113 ⟨Nat.zero_le _, Nat.zero_le _⟩) ?_
  have hzc9 := zq_zc_le (zq_av k ud) (zk_n k)
  have hwa : ∀ i, i < zk_n k → zq_av k ud i = (fun i => (zq_av k (zq_rw F x2) i ^ (zk_t k - 2) % zk_t k) ^ e1 % zk_t k) i := fun i hi => by rw [show zq_av k ud i = zq_av k ub i ^ e1 % zk_t k from hvud i hi, show zq_av k ub i = zq_av k ua i ^ (zk_t k - 2) % zk_t k from hvub i hi, zq_av_congr hua]; rfl
  exact W.iret (v := nI (zq_zc (zq_av k ud) (zk_n k))) hx hb hr (fun t9 h9 hW9 => ⟨⟨nI (zq_zc (zq_av k ud) (zk_n k)), (uF, ud, fb, uc2, ud2), rfl, ⟨congrArg nI (zq_zc_congr hwa), zq_fr_put hk huF hlud hwa⟩, by rw [h9]; exact hP, va_K.moved hW9.alike hK, hD⟩, hS.F h9⟩) hS.2.2 dX1_power_116
set_option maxHeartbeats 4000000 in
set_option maxRecDepth 100000 in
/-- X1_power -/
theorem cm_power_u (l : Launch) (dC : Nat → ClassId) (dI : Nat → Nat → Nat) (cA : ClassId) (tr : List (ClassId × FieldType)) (wr : va_W) (mo : Nat → Nat) (th k : Nat) (F fa fb fc fd : Nat → Nat) (hk : k < 4) (sz : Nat) (x1 : Nat) (hx1 : x1 < 16) (x2 : Nat) (hx2 : x2 < 16) (e1 : Nat) (he0 : 0 < e1) (he1 : e1 ≤ 2147483648) (hF : ∀ r j, r < 16 → j < zk_n k → F (32 * r + j) < zk_t k) (hz : zq_zc (zq_av k (zq_rw F x2)) (zk_n k) ≠ 0) : Met l yX1_power wzX1_power (k2_rm 4 93) (zw_pre (dC, dI) zz_cl ((cA, .int) :: tr) (zm_w cA mo th k (zk_n k) (zk_t k) F fa fb fc fd ++ wr) sz [.ref (mo 0), .int (nI (x1)), .int (nI (x2)), .int (zi_I (-((e1 : Nat) : Int)))]) (va_Qi (fun r (u : zq_U) => r = nI 0 ∧ u.1 = F) (zw_at (dC, dI) zz_cl ((cA, .int) :: tr) (va_A (zm_w cA mo th k (zk_n k) (zk_t k) F fa fb fc fd ++ wr) sz) (fun u : zq_U => zm_w cA mo 2 k (zk_n k) (zk_t k) u.1 u.2.1 u.2.2.1 u.2.2.2.1 u.2.2.2.2 ++ wr)) (va_A (zm_w cA mo th k (zk_n k) (zk_t k) F fa fb fc fd ++ wr) sz)) 0 0 (va_A (zm_w cA mo th k (zk_n k) (zk_t k) F fa fb fc fd ++ wr) sz) := by
  refine Met.ofW (cc := cX1_power) (maxL := 4) (ret := (some .int)) (by decide) rfl ?_
  intro p e s m args below meth c s₁ B hml hv
  obtain ⟨rfl, hsz, hP, hK, hD0⟩ := hv
  have hx := B.exec
  have hb := B.bytes
  have hr := B.returns
  have hts := atoms_spec (ws := wzX1_power) B.pre
  have hown : s.vm.findClass RX1 = some m.cls := findClass_of_methodNamed B.named
  have hlocks := B.notSynchronized
  subst hsz
  have hD := hD0.self (sz := s.heap.size)
  generalize hAe : va_A (zm_w cA mo th k (zk_n k) (zk_t k) F fa fb fc fd ++ wr) s.heap.size = A at hD ⊢
  have hA : ∀ q : Nat, s.heap.size ≤ q → A q := fun q h => by rw [← hAe]; exact Or.inr h
  have hS : va_S A s.heap s.heap [] := va_S.rf
  have hl := lv_entry ([.ref (mo 0), .int (nI (x1)), .int (nI (x2)), .int (zi_I (-((e1 : Nat) : Int)))]) (n := 4) (Nat.le_of_ble_eq_true rfl)
  rw [lg_entry_eq]
  generalize (lg_sl ([.ref (mo 0), .int (nI (x1)), .int (nI (x2)), .int (zi_I (-((e1 : Nat) : Int)))]) ++ List.replicate (4 - (lg_sl ([.ref (mo 0), .int (nI (x1)), .int (nI (x2)), .int (zi_I (-((e1 : Nat) : Int)))])).length) Slot.unset).toArray = ls at hl ⊢
  have hl : lv_has ls 4 [(0, .ref (mo 0)), (1, .int (nI (x1))), (2, .int (nI (x2))), (3, .int (zi_I (-((e1 : Nat) : Int))))] := hl
  obtain ⟨hb1, hb2, hb3, hb4, hb5, hb6, hb7, hb8⟩ := zk_b k hk
  have hneg : ¬ (0 : Int32) ≤ zi_I (-((e1 : Nat) : Int)) := by rw [zi_0, zi_le (by omega) (by omega) (by omega) (by omega)]; omega
  refine lv_aload_n hx hb dX1_power_0 rfl (lv_at hl 0 rfl) ?_
  refine lv_iload_n hx hb dX1_power_1 rfl (lv_at hl 1 rfl) ?_
  refine zr_callq (zx_runS (As := [.int (nI (x1))]) (rest := [.ref (mo 0)]) hx hb hml hts hown (cm_none0 l (dC, dI) zz_cl ((cA, .int) :: tr) (zm_w cA mo th k (zk_n k) (zk_t k) F fa fb fc fd ++ wr) x1 (by omega)) zu_X1_46 rfl rfl ⟨Nat.le_of_ble_eq_true rfl, Nat.le_of_ble_eq_true rfl⟩ (zr_preS hP hK) rfl hl.1 rfl (Nat.le_of_ble_eq_true rfl) dX1_power_2 ⟨Nat.zero_le _, Nat.zero_le _⟩) ?_
  refine zr_ifne (tgt := 15) hx hb dX1_power_5 (by decide) (by omega) (fun hno9 => absurd hno9 (by omega)) (fun _ => ?_)
  refine lv_iload_n hx hb dX1_power_8 rfl (lv_at hl 2 rfl) ?_
  refine zr_callq (zx_runS (As := [.int (nI (x2))]) (rest := [.ref (mo 0)]) hx hb hml hts hown (cm_none0 l (dC, dI) zz_cl ((cA, .int) :: tr) (zm_w cA mo th k (zk_n k) (zk_t k) F fa fb fc fd ++ wr) x2 (by omega)) zu_X1_46 rfl rfl ⟨Nat.le_of_ble_eq_true rfl, Nat.le_of_ble_eq_true rfl⟩ (zr_preS hP hK) rfl hl.1 rfl (Nat.le_of_ble_eq_true rfl) dX1_power_9 ⟨Nat.zero_le _, Nat.zero_le _⟩) ?_
  refine zr_ifeq (tgt := 19) hx hb dX1_power_12 (by decide) (by omega) (fun _ => ?_) (fun hno9 => absurd hno9 (by omega))
  refine lv_iconst (v := nI 0) hx hb dX1_power_19 (by decide) ?_
  refine zx_put1 (ws' := (zm_w cA mo 0 k (zk_n k) (zk_t k) F fa fb fc fd ++ wr)) hx hb hts hown hK hP hD hS 0 rfl 0 (by decide) zf_X1_32 rfl (by decide +kernel) (Nat.le_of_ble_eq_true rfl) dX1_power_20 rfl (fun H locs hP hD hS => ?_)
  refine lv_aload_n hx hb dX1_power_23 rfl (lv_at hl 0 rfl) ?_
  refine zx_get1 (v := .int (nI (0))) hx hb hts hown hK hP 0 rfl 0 (by decide) zf_X1_32 rfl dX1_power_24 ?_
  refine zr_ifle (tgt := 32) hx hb dX1_power_27 (by decide) (by omega) (fun _ => ?_) (fun hno9 => absurd hno9 (by omega))
  refine lv_aload_n hx hb dX1_power_32 rfl (lv_at hl 0 rfl) ?_
  refine lv_iload_n hx hb dX1_power_33 rfl (lv_at hl 2 rfl) ?_
  refine lv_aload_n hx hb dX1_power_34 rfl (lv_at hl 0 rfl) ?_
  refine zx_get1 (v := .ref (mo 2)) hx hb hts hown hK hP 0 rfl 5 (by decide) zf_X1_20 rfl dX1_power_35 ?_
  refine zw_callv (w' := fun u : Nat → Nat => zm_w cA mo 0 k (zk_n k) (zk_t k) F u fb fc fd ++ wr) hD hS hA (zx_runV (As := [.int (nI (x2)), .ref (mo 2)]) (rest := []) hx hb hml hts hown (cm_take2 l dC dI cA tr wr mo 0 k F fa fb fc fd hk H.size x2 (by omega)) zv_X1_62 rfl rfl ⟨Nat.le_of_ble_eq_true rfl, Nat.le_of_ble_eq_true rfl⟩ (zw_preV (q := (RX1, TM1, 9)) (ci := 1) (q0 := 0) hP hK hD rfl rfl) rfl hl.1 rfl (Nat.le_of_ble_eq_true rfl) dX1_power_38 ⟨Nat.zero_le _, Nat.zero_le _⟩) (fun ua H locs hua hP hD hS => ?_)
  have hlua : ∀ j, j < zk_n k → ua j < zk_t k := fun j hj => by rw [hua j hj]; exact hF x2 j (by omega) hj
  refine lv_iload_n hx hb dX1_power_41 rfl (lv_at hl 3 rfl) ?_
  refine lv_if_ge (tgt := 79) hx hb dX1_power_42 (by decide) (fun hh => absurd hh hneg) (fun _ => ?_)
  refine lv_aload_n hx hb dX1_power_45 rfl (lv_at hl 0 rfl) ?_
  refine lv_aload_n hx hb dX1_power_46 rfl (lv_at hl 0 rfl) ?_
  refine zx_get1 (v := .ref (mo 2)) hx hb hts hown hK hP 0 rfl 5 (by decide) zf_X1_20 rfl dX1_power_47 ?_
  refine zr_callq (zx_runV (As := [.ref (mo 2)]) (rest := []) hx hb hml hts hown (cm_zeros l dC dI cA tr wr mo 0 k F ua fb fc fd hk 2 (mo 2) ua rfl hlua) zv_X1_77 rfl rfl ⟨Nat.le_of_ble_eq_true rfl, Nat.le_of_ble_eq_true rfl⟩ (zr_preV (q := (RX1, TM1, 9)) (ci := 1) (q0 := 0) hP hK rfl rfl) rfl hl.1 rfl (Nat.le_of_ble_eq_true rfl) dX1_power_50 ⟨Nat.zero_le _, Nat.zero_le _⟩) ?_
  have hzc9 := zq_zc_le (zq_av k ua) (zk_n k)
  have hza : zq_zc (zq_av k ua) (zk_n k) = zq_zc (zq_av k (zq_rw F x2)) (zk_n k) := zq_zc_congr (fun i hi => zq_av_congr hua i)
  refine zr_ifle (tgt := 62) hx hb dX1_power_53 (by decide) (by omega) (fun hno9 => absurd hno9 (by omega)) (fun _ => ?_)
  refine lv_aload_n hx hb dX1_power_56 rfl (lv_at hl 0 rfl) ?_
  refine lv_iconst (v := nI 2) hx hb dX1_power_57 (by decide) ?_
  refine zw_calli (w' := fun u : Unit => zm_w cA mo 2 k (zk_n k) (zk_t k) F ua fb fc fd ++ wr) hD hS hA (zx_runV (As := [.int (nI (2))]) (rest := []) hx hb hml hts hown (cm_fail l dC dI cA tr wr mo 0 k F ua fb fc fd hk H.size 2) zv_X1_81 rfl rfl ⟨Nat.le_of_ble_eq_true rfl, Nat.le_of_ble_eq_true rfl⟩ (zw_preV (q := (RX1, TM1, 9)) (ci := 1) (q0 := 0) hP hK hD rfl rfl) rfl hl.1 rfl (Nat.le_of_ble_eq_true rfl) dX1_power_58 ⟨Nat.zero_le _, Nat.zero_le _⟩) (fun r9 u9 H locs hr9 hP hD hS => ?_)
  subst hr9
  exact W.iret (v := nI 0) hx hb hr (fun t9 h9 hW9 => ⟨⟨nI 0, (F, ua, fb, fc, fd), rfl, ⟨rfl, rfl⟩, by rw [h9]; exact hP, va_K.moved hW9.alike hK, hD⟩, hS.F h9⟩) hS.2.2 dX1_power_61
