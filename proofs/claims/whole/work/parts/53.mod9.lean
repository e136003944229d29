set_option maxHeartbeats 4000000 in
set_option maxRecDepth 100000 in
/-- X1_root -/
theorem cm_root_r1 (l : Launch) (dC : Nat → ClassId) (dI : Nat → Nat → Nat) (cA : ClassId) (tr : List (ClassId × FieldType)) (wr : va_W) (mo : Nat → Nat) (th k : Nat) (F fa fb fc fd : Nat → Nat) (hk : k < 4) (sz : Nat) (x1 : Int32) (x2 : Int32) (hbad : x1 < 0 ∨ nI 16 ≤ x1) : Met l yX1_root wzX1_root (k2_rm 1 20) (zw_pre (dC, dI) zz_cl ((cA, .int) :: tr) (zm_w cA mo th k (zk_n k) (zk_t k) F fa fb fc fd ++ wr) sz [.ref (mo 0), .int (x1), .int (x2)]) (va_Ql (fun r (u : zq_U) => r = lN 0 ∧ u.1 = F) (zw_at (dC, dI) zz_cl ((cA, .int) :: tr) (va_A (zm_w cA mo th k (zk_n k) (zk_t k) F fa fb fc fd ++ wr) sz) (fun u : zq_U => zm_w cA mo 1 k (zk_n k) (zk_t k) u.1 u.2.1 u.2.2.1 u.2.2.2.1 u.2.2.2.2 ++ wr)) (va_A (zm_w cA mo th k (zk_n k) (zk_t k) F fa fb fc fd ++ wr) sz)) 0 0 (va_A (zm_w cA mo th k (zk_n k) (zk_t k) F fa fb fc fd ++ wr) sz) := by
  refine Met.ofW (cc := cX1_root) (maxL := 8) (ret := (some .long)) (by decide) rfl ?_
  intro p e s m args below meth c s₁ B hml hv
  obtain ⟨rfl, hsz, hP, hK, hD0⟩ := hv
  have hx := B.exec
  have hb := B.bytes
  have hr := B.returns
  have hts := atoms_spec (ws := wzX1_root) B.pre
  have hown : s.vm.findClass RX1 = some m.cls := findClass_of_methodNamed B.named
  have hlocks := B.notSynchronized
  subst hsz
  have hD := hD0.self (sz := s.heap.size)
  generalize hAe : va_A (zm_w cA mo th k (zk_n k) (zk_t k) F fa fb fc fd ++ wr) s.heap.size = A at hD ⊢
  have hA : ∀ q : Nat, s.heap.size ≤ q → A q := fun q h => by rw [← hAe]; exact Or.inr h
  have hS : va_S A s.heap s.heap [] := va_S.rf
  have hl := lv_entry ([.ref (mo 0), .int (x1), .int (x2)]) (n := 8) (Nat.le_of_ble_eq_true rfl)
  rw [lg_entry_eq]
  generalize (lg_sl ([.ref (mo 0), .int (x1), .int (x2)]) ++ List.replicate (8 - (lg_sl ([.ref (mo 0), .int (x1), .int (x2)])).length) Slot.unset).toArray = ls at hl ⊢
  have hl : lv_has ls 8 [(0, .ref (mo 0)), (1, .int (x1)), (2, .int (x2))] := hl
  obtain ⟨hb1, hb2, hb3, hb4, hb5, hb6, hb7, hb8⟩ := zk_b k hk
  refine lv_aload_n hx hb dX1_root_0 rfl (lv_at hl 0 rfl) ?_
  refine lv_iload_n hx hb dX1_root_1 rfl (lv_at hl 1 rfl) ?_
  refine zr_callq (zx_runS (As := [.int (x1)]) (rest := [.ref (mo 0)]) hx hb hml hts hown (cm_none1 l (dC, dI) zz_cl ((cA, .int) :: tr) (zm_w cA mo th k (zk_n k) (zk_t k) F fa fb fc fd ++ wr) x1 hbad) zu_X1_46 rfl rfl ⟨Nat.le_of_ble_eq_true rfl, Nat.le_of_ble_eq_true rfl⟩ (zr_preS hP hK) rfl hl.1 rfl (Nat.le_of_ble_eq_true rfl) dX1_root_2 ⟨Nat.zero_le _, Nat.zero_le _⟩) ?_
  refine zr_ifne (tgt := 15) hx hb dX1_root_5 (by decide) (by omega) (fun _ => ?_) (fun hno9 => absurd hno9 (by omega))
  refine lv_iconst (v := nI 1) hx hb dX1_root_15 (by decide) ?_
  refine lv_goto (tgt := 20) hx hb dX1_root_16 (by decide) ?_
  refine zx_put1 (ws' := (zm_w cA mo 1 k (zk_n k) (zk_t k) F fa fb fc fd ++ wr)) hx hb hts hown hK hP hD hS 0 rfl 0 (by decide) zf_X1_32 rfl (by decide +kernel) (Nat.le_of_ble_eq_true rfl) dX1_root_20 rfl (fun H locs hP hD hS => ?_)
  refine lv_aload_n hx hb dX1_root_23 rfl (lv_at hl 0 rfl) ?_
  refine zx_get1 (v := .int (nI (1))) hx hb hts hown hK hP 0 rfl 0 (by decide) zf_X1_32 rfl dX1_root_24 ?_
  refine zr_ifle (tgt := 32) hx hb dX1_root_27 (by decide) (by omega) (fun hno9 => absurd hno9 (by omega)) (fun _ => ?_)
  refine lv_lconst (v := lN 0) hx hb dX1_root_30 (by decide) ?_
  exact W.lret (v := lN 0) hx hb hr (fun t9 h9 hW9 => ⟨⟨lN 0, (F, fa, fb, fc, fd), rfl, ⟨rfl, rfl⟩, by rw [h9]; exact hP, va_K.moved hW9.alike hK, hD⟩, hS.F h9⟩) hS.2.2 dX1_root_31
set_option maxHeartbeats 4000000 in
set_option maxRecDepth 100000 in
/-- X1_root -/
theorem cm_root_r2 (l : Launch) (dC : Nat → ClassId) (dI : Nat → Nat → Nat) (cA : ClassId) (tr : List (ClassId × FieldType)) (wr : va_W) (mo : Nat → Nat) (th k : Nat) (F fa fb fc fd : Nat → Nat) (hk : k < 4) (sz : Nat) (x1 : Nat) (hx1 : x1 < 16) (x2 : Int32) (hbad : x2 < 0 ∨ nI 16 ≤ x2) : Met l yX1_root wzX1_root (k2_rm 1 20) (zw_pre (dC, dI) zz_cl ((cA, .int) :: tr) (zm_w cA mo th k (zk_n k) (zk_t k) F fa fb fc fd ++ wr) sz [.ref (mo 0), .int (nI (x1)), .int (x2)]) (va_Ql (fun r (u : zq_U) => r = lN 0 ∧ u.1 = F) (zw_at (dC, dI) zz_cl ((cA, .int) :: tr) (va_A (zm_w cA mo th k (zk_n k) (zk_t k) F fa fb fc fd ++ wr) sz) (fun u : zq_U => zm_w cA mo 1 k (zk_n k) (zk_t k) u.1 u.2.1 u.2.2.1 u.2.2.2.1 u.2.2.2.2 ++ wr)) (va_A (zm_w cA mo th k (zk_n k) (zk_t k) F fa fb fc fd ++ wr) sz)) 0 0 (va_A (zm_w cA mo th k (zk_n k) (zk_t k) F fa fb fc fd ++ wr) sz) := by
  refine Met.ofW (cc := cX1_root) (maxL := 8) (ret := (some .long)) (by decide) rfl ?_
  intro p e s m args below meth c s₁ B hml hv
  obtain ⟨rfl, hsz, hP, hK, hD0⟩ := hv
  have hx := B.exec
  have hb := B.bytes
  have hr := B.returns
  have hts := atoms_spec (ws := wzX1_root) B.pre
  have hown : s.vm.findClass RX1 = some m.cls := findClass_of_methodNamed B.named
  have hlocks := B.notSynchronized
  subst hsz
  have hD := hD0.self (sz := s.heap.size)
  generalize hAe : va_A (zm_w cA mo th k (zk_n k) (zk_t k) F fa fb fc fd ++ wr) s.heap.size = A at hD ⊢
  have hA : ∀ q : Nat, s.heap.size ≤ q → A q := fun q h => by rw [← hAe]; exact Or.inr h
  have hS : va_S A s.heap s.heap [] := va_S.rf
  have hl := lv_entry ([.ref (mo 0), .int (nI (x1)), .int (x2)]) (n := 8) (Nat.le_of_ble_eq_true rfl)
  rw [lg_entry_eq]
  generalize (lg_sl ([.ref (mo 0), .int (nI (x1)), .int (x2)]) ++ List.replicate (8 - (lg_sl ([.ref (mo 0), .int (nI (x1)), .int (x2)])).length) Slot.unset).toArray = ls at hl ⊢
  have hl : lv_has ls 8 [(0, .ref (mo 0)), (1, .int (nI (x1))), (2, .int (x2))] := hl
  obtain ⟨hb1, hb2, hb3, hb4, hb5, hb6, hb7, hb8⟩ := zk_b k hk
  refine lv_aload_n hx hb dX1_root_0 rfl (lv_at hl 0 rfl) ?_
  refine lv_iload_n hx hb dX1_root_1 rfl (lv_at hl 1 rfl) ?_
  refine zr_callq (zx_runS (As := [.int (nI (x1))]) (rest := [.ref (mo 0)]) hx hb hml hts hown (cm_none0 l (dC, dI) zz_cl ((cA, .int) :: tr) (zm_w cA mo th k (zk_n k) (zk_t k) F fa fb fc fd ++ wr) x1 (by omega)) zu_X1_46 rfl rfl ⟨Nat.le_of_ble_eq_true rfl, Nat.le_of_ble_eq_true rfl⟩ (zr_preS hP hK) rfl hl.1 rfl (Nat.le_of_ble_eq_true rfl) dX1_root_2 ⟨Nat.zero_le _, Nat.zero_le _⟩) ?_
  refine zr_ifne (tgt := 15) hx hb dX1_root_5 (by decide) (by omega) (fun hno9 => absurd hno9 (by omega)) (fun _ => ?_)
  refine lv_iload_n hx hb dX1_root_8 rfl (lv_at hl 2 rfl) ?_
  refine zr_callq (zx_runS (As := [.int (x2)]) (rest := [.ref (mo 0)]) hx hb hml hts hown (cm_none1 l (dC, dI) zz_cl ((cA, .int) :: tr) (zm_w cA mo th k (zk_n k) (zk_t k) F fa fb fc fd ++ wr) x2 hbad) zu_X1_46 rfl rfl ⟨Nat.le_of_ble_eq_true rfl, Nat.le_of_ble_eq_true rfl⟩ (zr_preS hP hK) rfl hl.1 rfl (Nat.le_of_ble_eq_true rfl) dX1_root_9 ⟨Nat.zero_le _, Nat.zero_le _⟩) ?_
  refine zr_ifeq (tgt := 19) hx hb dX1_root_12 (by decide) (by omega) (fun hno9 => absurd hno9 (by omega)) (fun _ => ?_)
  refine lv_iconst (v := nI 1) hx hb dX1_root_15 (by decide) ?_
  refine lv_goto (tgt := 20) hx hb dX1_root_16 (by decide) ?_
  refine zx_put1 (ws' := (zm_w cA mo 1 k (zk_n k) (zk_t k) F fa fb fc fd ++ wr)) hx hb hts hown hK hP hD hS 0 rfl 0 (by decide) zf_X1_32 rfl (by decide +kernel) (Nat.le_of_ble_eq_true rfl) dX1_root_20 rfl (fun H locs hP hD hS => ?_)
  refine lv_aload_n hx hb dX1_root_23 rfl (lv_at hl 0 rfl) ?_
  refine zx_get1 (v := .int (nI (1))) hx hb hts hown hK hP 0 rfl 0 (by decide) zf_X1_32 rfl dX1_root_24 ?_
  refine zr_ifle (tgt := 32) hx hb dX1_root_27 (by decide) (by omega) (fun hno9 => absurd hno9 (by omega)) (fun _ => ?_)
  refine lv_lconst (v := lN 0) hx hb dX1_root_30 (by decide) ?_
  exact W.lret (v := lN 0) hx hb hr (fun t9 h9 hW9 => ⟨⟨lN 0, (F, fa, fb, fc, fd), rfl, ⟨rfl, rfl⟩, by rw [h9]; exact hP, va_K.moved hW9.alike hK, hD⟩, hS.F h9⟩) hS.2.2 dX1_root_31
set_option maxHeartbeats 4000000 in
set_option maxRecDepth 100000 in
/-- X1_root -/
theorem cm_root (l : Launch) (dC : Nat → ClassId) (dI : Nat → Nat → Nat) (cA : ClassId) (tr : List (ClassId × FieldType)) (wr : va_W) (mo : Nat → Nat) (th k : Nat) (F fa fb fc fd : Nat → Nat) (hk : k < 4) (sz : Nat) (x1 : Nat) (hx1 : x1 < 16) (x2 : Nat) (hx2 : x2 < 16) (hF : ∀ r j, r < 16 → j < zk_n k → F (32 * r + j) < zk_t k) (f : Nat → Nat) (hf : ∀ i, i < zk_n k → f i < zk_t k ∧ f i * f i % zk_t k = zq_av k (zq_rw F x2) i ∧ ∀ y, y < f i → y * y % zk_t k ≠ zq_av k (zq_rw F x2) i) : Met l yX1_root wzX1_root (k2_rm 3 71) (zw_pre (dC, dI) zz_cl ((cA, .int) :: tr) (zm_w cA mo th k (zk_n k) (zk_t k) F fa fb fc fd ++ wr) sz [.ref (mo 0), .int (nI (x1)), .int (nI (x2))]) (va_Ql (fun r (u : zq_U) => r = lN (2 ^ (zk_n k - zq_zc (zq_av k (zq_rw F x2)) (zk_n k))) ∧ zq_fr k F x1 f u.1) (zw_at (dC, dI) zz_cl ((cA, .int) :: tr) (va_A (zm_w cA mo th k (zk_n k) (zk_t k) F fa fb fc fd ++ wr) sz) (fun u : zq_U => zm_w cA mo 0 k (zk_n k) (zk_t k) u.1 u.2.1 u.2.2.1 u.2.2.2.1 u.2.2.2.2 ++ wr)) (va_A (zm_w cA mo th k (zk_n k) (zk_t k) F fa fb fc fd ++ wr) sz)) 0 0 (va_A (zm_w cA mo th k (zk_n k) (zk_t k) F fa fb fc fd ++ wr) sz) := by
  refine Met.ofW (cc := cX1_root) (maxL := 8) (ret := (some .long)) (by decide) rfl ?_
  intro p e s m args below meth c s₁ B hml hv
  obtain ⟨rfl, hsz, hP, hK, hD0⟩ := hv
  have hx := B.exec
  have hb := B.bytes
  have hr := B.returns
  have hts := atoms_spec (ws := wzX1_root) B.pre
  have hown : s.vm.findClass RX1 = some m.cls := findClass_of_methodNamed B.named
  have hlocks := B.notSynchronized
  subst hsz
  have hD := hD0.self (sz := s.heap.size)
  generalize hAe : va_A (zm_w cA mo th k (zk_n k) (zk_t k) F fa fb fc fd ++ wr) s.heap.size = A at hD ⊢
  have hA : ∀ q : Nat, s.heap.size ≤ q → A q := fun q h => by rw [← hAe]; exact Or.inr h
  have hS : va_S A s.heap s.heap [] := va_S.rf
  have hl := lv_entry ([.ref (mo 0), .int (nI (x1)), .int (nI (x2))]) (n := 8) (Nat.le_of_ble_eq_true rfl)
  rw [lg_entry_eq]
  generalize (lg_sl ([.ref (mo 0), .int (nI (x1)), .int (nI (x2))]) ++ List.replicate (8 - (lg_sl ([.ref (mo 0), .int (nI (x1)), .int (nI (x2))])).length) Slot.unset).toArray = ls at hl ⊢
  have hl : lv_has ls 8 [(0, .ref (mo 0)), (1, .int (nI (x1))), (2, .int (nI (x2)))] := hl
  obtain ⟨hb1, hb2, hb3, hb4, hb5, hb6, hb7, hb8⟩ := zk_b k hk
  refine lv_aload_n hx hb dX1_root_0 rfl (lv_at hl 0 rfl) ?_
  refine lv_iload_n hx hb dX1_root_1 rfl (lv_at hl 1 rfl) ?_
  refine zr_callq (zx_runS (As := [.int (nI (x1))]) (rest := [.ref (mo 0)]) hx hb hml hts hown (cm_none0 l (dC, dI) zz_cl ((cA, .int) :: tr) (zm_w cA mo th k (zk_n k) (zk_t k) F fa fb fc fd ++ wr) x1 (by omega)) zu_X1_46 rfl rfl ⟨Nat.le_of_ble_eq_true rfl, Nat.le_of_ble_eq_true rfl⟩ (zr_preS hP hK) rfl hl.1 rfl (Nat.le_of_ble_eq_true rfl) dX1_root_2 ⟨Nat.zero_le _, Nat.zero_le _⟩) ?_
  refine zr_ifne (tgt := 15) hx hb dX1_root_5 (by decide) (by omega) (fun hno9 => absurd hno9 (by omega)) (fun _ => ?_)
  refine lv_iload_n hx hb dX1_root_8 rfl (lv_at hl 2 rfl) ?_
  refine zr_callq (zx_runS (As := [.int (nI (x2))]) (rest := [.ref (mo 0)]) hx hb hml hts hown (cm_none0 l (dC, dI) zz_cl ((cA, .int) :: tr) (zm_w cA mo th k (zk_n k) (zk_t k) F fa fb fc fd ++ wr) x2 (by omega)) zu_X1_46 rfl rfl ⟨Nat.le_of_ble_eq_true rfl, Nat.le_of_ble_eq_true rfl⟩ (zr_preS hP hK) rfl hl.1 rfl (Nat.le_of_ble_eq_true rfl) dX1_root_9 ⟨Nat.zero_le _, Nat.zero_le _⟩) ?_
  refine zr_ifeq (tgt := 19) hx hb dX1_root_12 (by decide) (by omega) (fun _ => ?_) (fun hno9 => absurd hno9 (by omega))
  refine lv_iconst (v := nI 0) hx hb dX1_root_19 (by decide) ?_
  refine zx_put1 (ws' := (zm_w cA mo 0 k (zk_n k) (zk_t k) F fa fb fc fd ++ wr)) hx hb hts hown hK hP hD hS 0 rfl 0 (by decide) zf_X1_32 rfl (by decide +kernel) (Nat.le_of_ble_eq_true rfl) dX1_root_20 rfl (fun H locs hP hD hS => ?_)
  refine lv_aload_n hx hb dX1_root_23 rfl (lv_at hl 0 rfl) ?_
  refine zx_get1 (v := .int (nI (0))) hx hb hts hown hK hP 0 rfl 0 (by decide) zf_X1_32 rfl dX1_root_24 ?_
  refine zr_ifle (tgt := 32) hx hb dX1_root_27 (by decide) (by omega) (fun _ => ?_) (fun hno9 => absurd hno9 (by omega))
  refine lv_aload_n hx hb dX1_root_32 rfl (lv_at hl 0 rfl) ?_
  refine lv_iload_n hx hb dX1_root_33 rfl (lv_at hl 2 rfl) ?_
  refine lv_aload_n hx hb dX1_root_34 rfl (lv_at hl 0 rfl) ?_
  refine zx_get1 (v := .ref (mo 2)) hx hb hts hown hK hP 0 rfl 5 (by decide) zf_X1_20 rfl dX1_root_35 ?_
  refine zw_callv (w' := fun u : Nat → Nat => zm_w cA mo 0 k (zk_n k) (zk_t k) F u fb fc fd ++ wr) hD hS hA (zx_runV (As := [.int (nI (x2)), .ref (mo 2)]) (rest := []) hx hb hml hts hown (cm_take2 l dC dI cA tr wr mo 0 k F fa fb fc fd hk H.size x2 (by omega)) zv_X1_62 rfl rfl ⟨Nat.le_of_ble_eq_true rfl, Nat.le_of_ble_eq_true rfl⟩ (zw_preV (q := (RX1, TM1, 9)) (ci := 1) (q0 := 0) hP hK hD rfl rfl) rfl hl.1 rfl (Nat.le_of_ble_eq_true rfl) dX1_root_38 ⟨Nat.zero_le _, Nat.zero_le _⟩) (fun ua H locs hua hP hD hS => ?_)
  have hlua : ∀ j, j < zk_n k → ua j < zk_t k := fun j hj => by rw [hua j hj]; exact hF x2 j (by omega) hj
  refine lv_iconst (v := nI 0) hx hb dX1_root_41 (by decide) ?_
  refine lv_istore_n (lv' := [(3, .int (nI (0))), (0, .ref (mo 0)), (1, .int (nI (x1))), (2, .int (nI (x2)))]) hx hb dX1_root_42 rfl hl (by decide) rfl (fun ls hl => ?_)
  have hAv : ∀ i, zq_av k ua i = zq_av k (zq_rw F x2) i := fun i => zq_av_congr hua i
  have main : ∀ (d i : Nat), i + d = zk_n k → ∀ (G1 : Nat → Nat), ((∀ j, j < zk_n k → G1 j < zk_t k) ∧ ∀ j, j < zk_n k → zq_av k G1 j = if j < i then f j else 0) → ∀ (H : Heap) (locs : List Loc), va_P (dC, dI) zz_cl (zm_w cA mo 0 k (zk_n k) (zk_t k) F ua G1 fc fd ++ wr) H → va_D A (zm_w cA mo 0 k (zk_n k) (zk_t k) F ua G1 fc fd ++ wr) → va_S A s.heap H locs → ∀ ls, lv_has ls 8 [(0, .ref (mo 0)), (1, .int (nI (x1))), (2, .int (nI (x2))), (3, .long (lN (2 ^ (i - zq_zc (zq_av k (zq_rw F x2)) i)))), (5, .int (nI (i)))] → W p l e (headSpec wzX1_root (k2_rm 3 71)).room s m ([.ref (mo 0), .int (nI (x1)), .int (nI (x2))] : List Value).toArray below meth c H locs 0 0 (MQ below (va_Ql (fun r (u : zq_U) => r = lN (2 ^ (zk_n k - zq_zc (zq_av k (zq_rw F x2)) (zk_n k))) ∧ zq_fr k F x1 f u.1) (zw_at (dC, dI) zz_cl ((cA, .int) :: tr) A (fun u : zq_U => zm_w cA mo 0 k (zk_n k) (zk_t k) u.1 u.2.1 u.2.2.1 u.2.2.2.1 u.2.2.2.2 ++ wr)) A) ([.ref (mo 0), .int (nI (x1)), .int (nI (x2))] : List Value).toArray s 0 0 A) (F0 m 69 ls []) := by
    intro d
    induction d with
    | zero =>
      intro i hi G1 hinv H locs hP hD hS ls hl
      have hi : i = zk_n k := by omega
      subst hi
      refine lv_iload hx hb dX1_root_69 (lv_at hl 4 rfl) ?_
      refine lv_aload_n hx hb dX1_root_71 rfl (lv_at hl 0 rfl) ?_
      refine zx_get1 (v := .int (nI (zk_n k))) hx hb hts hown hK hP 0 rfl 2 (by decide) zf_X1_7 rfl dX1_root_72 ?_
      refine zr_ige (tgt := 168) hx hb dX1_root_75 (by decide) (by omega) (by omega) (fun _ => ?_) (fun hno9 => absurd hno9 (by omega))
      refine lv_aload_n hx hb dX1_root_168 rfl (lv_at hl 0 rfl) ?_
      refine lv_iload_n hx hb dX1_root_169 rfl (lv_at hl 1 rfl) ?_
      refine lv_aload_n hx hb dX1_root_170 rfl (lv_at hl 0 rfl) ?_
      refine zx_get1 (v := .ref (mo 3)) hx hb hts hown hK hP 0 rfl 6 (by decide) zf_X1_23 rfl dX1_root_171 ?_
      refine zw_callv (w' := fun u : Nat → Nat => zm_w cA mo 0 k (zk_n k) (zk_t k) u ua G1 fc fd ++ wr) hD hS hA (zx_runV (As := [.int (nI (x1)), .ref (mo 3)]) (rest := []) hx hb hml hts hown (cm_put3 l dC dI cA tr wr mo 0 k F ua G1 fc fd hk H.size x1 (by omega)) zv_X1_70 rfl rfl ⟨Nat.le_of_ble_eq_true rfl, Nat.le_of_ble_eq_true rfl⟩ (zw_preV (q := (RX1, TM1, 9)) (ci := 1) (q0 := 0) hP hK hD rfl rfl) rfl hl.1 rfl (Nat.le_of_ble_eq_true rfl) dX1_root_174 ⟨Nat.zero_le _, Nat.zero_le _⟩) (fun uF H locs huF hP hD hS => ?_)
      refine lv_lload_n hx hb dX1_root_177 rfl (lv_at hl 3 rfl) ?_
      exact W.lret (v := lN (2 ^ (zk_n k - zq_zc (zq_av k (zq_rw F x2)) (zk_n k)))) hx hb hr (fun t9 h9 hW9 => ⟨⟨lN (2 ^ (zk_n k - zq_zc (zq_av k (zq_rw F x2)) (zk_n k))), (uF, ua, G1, fc, fd), rfl, ⟨rfl, zq_fr_put hk huF hinv.1 (fun i hi => by rw [hinv.2 i hi, if_pos hi])⟩, by rw [h9]; exact hP, va_K.moved hW9.alike hK, hD⟩, hS.F h9⟩) hS.2.2 dX1_root_178
    | succ d ih =>
      intro i hi G1 hinv H locs hP hD hS ls hl
      obtain ⟨hf1, hf2, hf3⟩ := hf i (by omega)
      have hva := zq_av_lt hk ua i
      refine lv_iload hx hb dX1_root_69 (lv_at hl 4 rfl) ?_
      refine lv_aload_n hx hb dX1_root_71 rfl (lv_at hl 0 rfl) ?_
      refine zx_get1 (v := .int (nI (zk_n k))) hx hb hts hown hK hP 0 rfl 2 (by decide) zf_X1_7 rfl dX1_root_72 ?_
      refine zr_ige (tgt := 168) hx hb dX1_root_75 (by decide) (by omega) (by omega) (fun hno9 => absurd hno9 (by omega)) (fun _ => ?_)
      refine lv_aload_n hx hb dX1_root_78 rfl (lv_at hl 0 rfl) ?_
      refine lv_aload_n hx hb dX1_root_79 rfl (lv_at hl 0 rfl) ?_
      refine zx_get1 (v := .ref (mo 2)) hx hb hts hown hK hP 0 rfl 5 (by decide) zf_X1_20 rfl dX1_root_80 ?_
      refine lv_iload hx hb dX1_root_83 (lv_at hl 4 rfl) ?_
      refine zr_callq (zx_runV (As := [.ref (mo 2), .int (nI (i))]) (rest := []) hx hb hml hts hown (cm_at l dC dI cA tr wr mo 0 k F ua G1 fc fd hk 2 (mo 2) ua rfl hlua i (by omega)) zv_X1_58 rfl rfl ⟨Nat.le_of_ble_eq_true rfl, Nat.le_of_ble_eq_true rfl⟩ (zr_preV (q := (RX1, TM1, 9)) (ci := 1) (q0 := 0) hP hK rfl rfl) rfl hl.1 rfl (Nat.le_of_ble_eq_true rfl) dX1_root_85 ⟨Nat.zero_le _, Nat.zero_le _⟩) ?_
      refine lv_istore (lv' := [(6, .int (nI (zq_av k ua i))), (0, .ref (mo 0)), (1, .int (nI (x1))), (2, .int (nI (x2))), (3, .long (lN (2 ^ (i - zq_zc (zq_av k (zq_rw F x2)) i)))), (5, .int (nI (i)))]) hx hb dX1_root_88 hl (by decide) rfl (fun ls hl => ?_)
      refine lv_iconst (v := nI 0) hx hb dX1_root_90 (by decide) ?_
      refine lv_istore (lv' := [(7, .int (nI (0))), (6, .int (nI (zq_av k ua i))), (0, .ref (mo 0)), (1, .int (nI (x1))), (2, .int (nI (x2))), (3, .long (lN (2 ^ (i - zq_zc (zq_av k (zq_rw F x2)) i)))), (5, .int (nI (i)))]) hx hb dX1_root_91 hl (by decide) rfl (fun ls hl => ?_)
      have inner : ∀ (d2 y9 : Nat), y9 + d2 = f i → ∀ ls, lv_has ls 8 [(0, .ref (mo 0)), (1, .int (nI (x1))), (2, .int (nI (x2))), (3, .long (lN (2 ^ (i - zq_zc (zq_av k (zq_rw F x2)) i)))), (5, .int (nI (i))), (6, .int (nI (zq_av k ua i))), (7, .int (nI (y9)))] → W p l e (headSpec wzX1_root (k2_rm 3 71)).room s m ([.ref (mo 0), .int (nI (x1)), .int (nI (x2))] : List Value).toArray below meth c H locs 0 0 (MQ below (va_Ql (fun r (u : zq_U) => r = lN (2 ^ (zk_n k - zq_zc (zq_av k (zq_rw F x2)) (zk_n k))) ∧ zq_fr k F x1 f u.1) (zw_at (dC, dI) zz_cl ((cA, .int) :: tr) A (fun u : zq_U => zm_w cA mo 0 k (zk_n k) (zk_t k) u.1 u.2.1 u.2.2.1 u.2.2.2.1 u.2.2.2.2 ++ wr)) A) ([.ref (mo 0), .int (nI (x1)), .int (nI (x2))] : List Value).toArray s 0 0 A) (F0 m 93 ls []) := by
        intro d2
        induction d2 with
        | zero =>
          intro y9 hy9 ls hl
          have hy8 : y9 = f i := by omega
          subst hy8
          refine lv_iload hx hb dX1_root_93 (lv_at hl 6 rfl) ?_
          refine lv_aload_n hx hb dX1_root_95 rfl (lv_at hl 0 rfl) ?_
          refine zx_get1 (v := .int (nI (zk_t k))) hx hb hts hown hK hP 0 rfl 3 (by decide) zf_X1_13 rfl dX1_root_96 ?_
          refine zr_ige (tgt := 123) hx hb dX1_root_99 (by decide) (by omega) (by omega) (fun hno9 => absurd hno9 (by omega)) (fun _ => ?_)
          refine lv_iload hx hb dX1_root_102 (lv_at hl 6 rfl) ?_
          refine lv_iload hx hb dX1_root_104 (lv_at hl 6 rfl) ?_
          refine zr_imul hx hb dX1_root_106 ?_
          refine lv_aload_n hx hb dX1_root_107 rfl (lv_at hl 0 rfl) ?_
          refine zx_get1 (v := .int (nI (zk_t k))) hx hb hts hown hK hP 0 rfl 3 (by decide) zf_X1_13 rfl dX1_root_108 ?_
          refine zr_irem hx hb dX1_root_111 (zq_b2 hf1 hf1 hb4) (by omega) (by omega) ?_
          refine lv_iload hx hb dX1_root_112 (lv_at hl 5 rfl) ?_
          refine zr_ieq (tgt := 123) hx hb dX1_root_114 (by decide) (zq_ml (by omega) hb4) (by omega) (fun _ => ?_) (fun hno9 => absurd hno9 (fun hh => hh (hf2.trans (hAv i).symm)))
          refine lv_iload hx hb dX1_root_123 (lv_at hl 6 rfl) ?_
          refine lv_aload_n hx hb dX1_root_125 rfl (lv_at hl 0 rfl) ?_
          refine zx_get1 (v := .int (nI (zk_t k))) hx hb hts hown hK hP 0 rfl 3 (by decide) zf_X1_13 rfl dX1_root_126 ?_
          refine zr_ine (tgt := 139) hx hb dX1_root_129 (by decide) (by omega) (by omega) (fun _ => ?_) (fun hno9 => absurd hno9 (by omega))
          refine lv_iload hx hb dX1_root_139 (lv_at hl 5 rfl) ?_
          refine zr_ifeq (tgt := 150) hx hb dX1_root_141 (by decide) (by omega) (fun hv0 => ?_) (fun hv0 => ?_)
          · refine lv_aload_n hx hb dX1_root_150 rfl (lv_at hl 0 rfl) ?_
            refine lv_aload_n hx hb dX1_root_151 rfl (lv_at hl 0 rfl) ?_
            refine zx_get1 (v := .ref (mo 3)) hx hb hts hown hK hP 0 rfl 6 (by decide) zf_X1_23 rfl dX1_root_152 ?_
            refine lv_iload hx hb dX1_root_155 (lv_at hl 4 rfl) ?_
            refine lv_iload hx hb dX1_root_157 (lv_at hl 6 rfl) ?_
            refine zw_callv (w' := fun u : Nat → Nat => zm_w cA mo 0 k (zk_n k) (zk_t k) F ua u fc fd ++ wr) hD hS hA (zx_runV (As := [.ref (mo 3), .int (nI (i)), .int (nI (f i))]) (rest := []) hx hb hml hts hown (cm_add3 l dC dI cA tr wr mo 0 k F ua G1 fc fd hk H.size i (f i) (by omega) hf1 hinv.1) zv_X1_66 rfl rfl ⟨Nat.le_of_ble_eq_true rfl, Nat.le_of_ble_eq_true rfl⟩ (zw_preV (q := (RX1, TM1, 9)) (ci := 1) (q0 := 0) hP hK hD rfl rfl) rfl hl.1 rfl (Nat.le_of_ble_eq_true rfl) dX1_root_159 ⟨Nat.zero_le _, Nat.zero_le _⟩) (fun ub H locs hub hP hD hS => ?_)
            refine zr_iinc (k := 4) (lv' := [(5, .int (nI (i + 1))), (0, .ref (mo 0)), (1, .int (nI (x1))), (2, .int (nI (x2))), (3, .long (lN (2 ^ (i - zq_zc (zq_av k (zq_rw F x2)) i)))), (6, .int (nI (zq_av k ua i))), (7, .int (nI (f i)))]) hx hb dX1_root_162 hl rfl (by decide) rfl (fun ls hl => ?_)
            refine lv_goto (tgt := 69) hx hb dX1_root_165 (by decide) ?_
            refine ih (i + 1) (by omega) ub ⟨fun j hj => by rw [hub.1 j hj]; exact Nat.mod_lt _ (by omega), fun j hj => zq_rt_s hk (by omega) hf1 hinv.2 hub.1 hj⟩ H locs hP hD hS ls (by rw [zq_zc_0 (show zq_av k (zq_rw F x2) i = 0 by rw [← hAv i]; exact hv0), show i + 1 - (zq_zc (zq_av k (zq_rw F x2)) i + 1) = i - zq_zc (zq_av k (zq_rw F x2)) i by omega]; exact (lv_sub hl [1, 2, 3, 4, 0] rfl))
          · refine lv_lload_n hx hb dX1_root_144 rfl (lv_at hl 3 rfl) ?_
            refine lv_ldc2 (v := lN 2) hx hb hown (hts _ (List.mem_cons_of_mem _ zg_X1_85)) dX1_root_145 ?_
            refine zr_lmul hx hb dX1_root_148 ?_
            refine lv_lstore_n (lv' := [(3, .long (lN ((2 ^ (i - zq_zc (zq_av k (zq_rw F x2)) i)) * 2))), (0, .ref (mo 0)), (1, .int (nI (x1))), (2, .int (nI (x2))), (5, .int (nI (i))), (6, .int (nI (zq_av k ua i))), (7, .int (nI (f i)))]) hx hb dX1_root_149 rfl hl (by decide) rfl (fun ls hl => ?_)
            refine lv_aload_n hx hb dX1_root_150 rfl (lv_at hl 1 rfl) ?_
            refine lv_aload_n hx hb dX1_root_151 rfl (lv_at hl 1 rfl) ?_
            refine zx_get1 (v := .ref (mo 3)) hx hb hts hown hK hP 0 rfl 6 (by decide) zf_X1_23 rfl dX1_root_152 ?_
            refine lv_iload hx hb dX1_root_155 (lv_at hl 4 rfl) ?_
            refine lv_iload hx hb dX1_root_157 (lv_at hl 6 rfl) ?_
            refine zw_callv (w' := fun u : Nat → Nat => zm_w cA mo 0 k (zk_n k) (zk_t k) F ua u fc fd ++ wr) hD hS hA (zx_runV (As := [.ref (mo 3), .int (nI (i)), .int (nI (f i))]) (rest := []) hx hb hml hts hown (cm_add3 l dC dI cA tr wr mo 0 k F ua G1 fc fd hk H.size i (f i) (by omega) hf1 hinv.1) zv_X1_66 rfl rfl ⟨Nat.le_of_ble_eq_true rfl, Nat.le_of_ble_eq_true rfl⟩ (zw_preV (q := (RX1, TM1, 9)) (ci := 1) (q0 := 0) hP hK hD rfl rfl) rfl hl.1 rfl (Nat.le_of_ble_eq_true rfl) dX1_root_159 ⟨Nat.zero_le _, Nat.zero_le _⟩) (fun ub H locs hub hP hD hS => ?_)
            refine zr_iinc (k := 4) (lv' := [(5, .int (nI (i + 1))), (3, .long (lN ((2 ^ (i - zq_zc (zq_av k (zq_rw F x2)) i)) * 2))), (0, .ref (mo 0)), (1, .int (nI (x1))), (2, .int (nI (x2))), (6, .int (nI (zq_av k ua i))), (7, .int (nI (f i)))]) hx hb dX1_root_162 hl rfl (by decide) rfl (fun ls hl => ?_)
            refine lv_goto (tgt := 69) hx hb dX1_root_165 (by decide) ?_
            refine ih (i + 1) (by omega) ub ⟨fun j hj => by rw [hub.1 j hj]; exact Nat.mod_lt _ (by omega), fun j hj => zq_rt_s hk (by omega) hf1 hinv.2 hub.1 hj⟩ H locs hP hD hS ls (by rw [zq_zc_1 (show zq_av k (zq_rw F x2) i ≠ 0 by rw [← hAv i]; exact hv0), ← zq_2p (zq_zc_le _ _)]; exact (lv_sub hl [2, 3, 4, 1, 0] rfl))
        | succ d2 ih2 =>
          intro y9 hy9 ls hl
          refine lv_iload hx hb dX1_root_93 (lv_at hl 6 rfl) ?_
          refine lv_aload_n hx hb dX1_root_95 rfl (lv_at hl 0 rfl) ?_
          refine zx_get1 (v := .int (nI (zk_t k))) hx hb hts hown hK hP 0 rfl 3 (by decide) zf_X1_13 rfl dX1_root_96 ?_
          refine zr_ige (tgt := 123) hx hb dX1_root_99 (by decide) (by omega) (by omega) (fun hno9 => absurd hno9 (by omega)) (fun _ => ?_)
          refine lv_iload hx hb dX1_root_102 (lv_at hl 6 rfl) ?_
          refine lv_iload hx hb dX1_root_104 (lv_at hl 6 rfl) ?_
          refine zr_imul hx hb dX1_root_106 ?_
          refine lv_aload_n hx hb dX1_root_107 rfl (lv_at hl 0 rfl) ?_
          refine zx_get1 (v := .int (nI (zk_t k))) hx hb hts hown hK hP 0 rfl 3 (by decide) zf_X1_13 rfl dX1_root_108 ?_
          refine zr_irem hx hb dX1_root_111 (zq_b2 (show y9 < zk_t k by omega) (show y9 < zk_t k by omega) hb4) (by omega) (by omega) ?_
          refine lv_iload hx hb dX1_root_112 (lv_at hl 5 rfl) ?_
          refine zr_ieq (tgt := 123) hx hb dX1_root_114 (by decide) (zq_ml (by omega) hb4) (by omega) (fun hno9 => absurd hno9 (fun hh => hf3 y9 (by omega) (hh.trans (hAv i)))) (fun _ => ?_)
          refine zr_iinc (k := 6) (lv' := [(7, .int (nI (y9 + 1))), (0, .ref (mo 0)), (1, .int (nI (x1))), (2, .int (nI (x2))), (3, .long (lN (2 ^ (i - zq_zc (zq_av k (zq_rw F x2)) i)))), (5, .int (nI (i))), (6, .int (nI (zq_av k ua i)))]) hx hb dX1_root_117 hl rfl (by decide) rfl (fun ls hl => ?_)
          refine lv_goto (tgt := 93) hx hb dX1_root_120 (by decide) ?_
          exact ih2 (y9 + 1) (by omega) ls (lv_sub hl [1, 2, 3, 4, 5, 6, 0] rfl)
      exact inner (f i) 0 (by omega) ls (lv_sub hl [2, 3, 4, 5, 6, 1, 0] rfl)
  have first : ∀ (d i : Nat), i + d = zk_n k → ∀ (G1 : Nat → Nat), (∀ j, j < i → G1 j = 0) → ∀ (H : Heap) (locs : List Loc), va_P (dC, dI) zz_cl (zm_w cA mo 0 k (zk_n k) (zk_t k) F ua G1 fc fd ++ wr) H → va_D A (zm_w cA mo 0 k (zk_n k) (zk_t k) F ua G1 fc fd ++ wr) → va_S A s.heap H locs → ∀ ls, lv_has ls 8 [(0, .ref (mo 0)), (1, .int (nI (x1))), (2, .int (nI (x2))), (3, .int (nI (i)))] → W p l e (headSpec wzX1_root (k2_rm 3 71)).room s m ([.ref (mo 0), .int (nI (x1)), .int (nI (x2))] : List Value).toArray below meth c H locs 0 0 (MQ below (va_Ql (fun r (u : zq_U) => r = lN (2 ^ (zk_n k - zq_zc (zq_av k (zq_rw F x2)) (zk_n k))) ∧ zq_fr k F x1 f u.1) (zw_at (dC, dI) zz_cl ((cA, .int) :: tr) A (fun u : zq_U => zm_w cA mo 0 k (zk_n k) (zk_t k) u.1 u.2.1 u.2.2.1 u.2.2.2.1 u.2.2.2.2 ++ wr)) A) ([.ref (mo 0), .int (nI (x1)), .int (nI (x2))] : List Value).toArray s 0 0 A) (F0 m 43 ls []) := by
    intro d
    induction d with
    | zero =>
      intro i hi G1 hinv H locs hP hD hS ls hl
      have hi : i = zk_n k := by omega
      rw [hi] at hinv
      refine lv_iload_n hx hb dX1_root_43 rfl (lv_at hl 3 rfl) ?_
      refine lv_aload_n hx hb dX1_root_44 rfl (lv_at hl 0 rfl) ?_
      refine zx_get1 (v := .int (nI (zk_n k))) hx hb hts hown hK hP 0 rfl 2 (by decide) zf_X1_7 rfl dX1_root_45 ?_
      refine zr_ige (tgt := 64) hx hb dX1_root_48 (by decide) (by omega) (by omega) (fun _ => ?_) (fun hno9 => absurd hno9 (by omega))
      refine lv_lconst (v := lN 1) hx hb dX1_root_64 (by decide) ?_
      refine lv_lstore_n (lv' := [(3, .long (lN (1))), (0, .ref (mo 0)), (1, .int (nI (x1))), (2, .int (nI (x2)))]) hx hb dX1_root_65 rfl hl (by decide) rfl (fun ls hl => ?_)
      refine lv_iconst (v := nI 0) hx hb dX1_root_66 (by decide) ?_
      refine lv_istore (lv' := [(5, .int (nI (0))), (3, .long (lN (1))), (0, .ref (mo 0)), (1, .int (nI (x1))), (2, .int (nI (x2)))]) hx hb dX1_root_67 hl (by decide) rfl (fun ls hl => ?_)
      exact main (zk_n k) 0 (by omega) G1 ⟨fun j hj => by rw [hinv j hj]; omega, fun j hj => by rw [zq_av_z hk hinv, if_neg (Nat.not_lt_zero _)]⟩ H locs hP hD hS ls (lv_sub hl [2, 3, 4, 1, 0] rfl)
    | succ d ih =>
      intro i hi G1 hinv H locs hP hD hS ls hl
      refine lv_iload_n hx hb dX1_root_43 rfl (lv_at hl 3 rfl) ?_
      refine lv_aload_n hx hb dX1_root_44 rfl (lv_at hl 0 rfl) ?_
      refine zx_get1 (v := .int (nI (zk_n k))) hx hb hts hown hK hP 0 rfl 2 (by decide) zf_X1_7 rfl dX1_root_45 ?_
      refine zr_ige (tgt := 64) hx hb dX1_root_48 (by decide) (by omega) (by omega) (fun hno9 => absurd hno9 (by omega)) (fun _ => ?_)
      refine lv_aload_n hx hb dX1_root_51 rfl (lv_at hl 0 rfl) ?_
      refine zx_get1 (v := .ref (mo 3)) hx hb hts hown hK hP 0 rfl 6 (by decide) zf_X1_23 rfl dX1_root_52 ?_
      refine lv_iload_n hx hb dX1_root_55 rfl (lv_at hl 3 rfl) ?_
      refine lv_iconst (v := nI 0) hx hb dX1_root_56 (by decide) ?_
      refine zr_iast (ws' := (zm_w cA mo 0 k (zk_n k) (zk_t k) F ua (zq_up G1 i 0) fc fd ++ wr)) hx hb hK hP hD hS 3 0 rfl rfl (by omega) (by decide) dX1_root_57 rfl (fun H locs hP hD hS => ?_)
      refine zr_iinc (k := 3) (lv' := [(3, .int (nI (i + 1))), (0, .ref (mo 0)), (1, .int (nI (x1))), (2, .int (nI (x2)))]) hx hb dX1_root_58 hl rfl (by decide) rfl (fun ls hl => ?_)
      refine lv_goto (tgt := 43) hx hb dX1_root_61 (by decide) ?_
      refine ih (i + 1) (by omega) _ (fun j hj => ?_) H locs hP hD hS ls (lv_sub hl [1, 2, 3, 0] rfl)
      by_cases e9 : j = i
      · rw [e9, zq_up_s]
      · rw [zq_up_n _ _ e9]; exact hinv j (by omega)
  exact first (zk_n k) 0 (by omega) fb (fun j hj => absurd hj (Nat.not_lt_zero _)) H locs hP hD hS ls (lv_sub hl [1, 2, 3, 0] rfl)
set_option maxHeartbeats 4000000 in
set_option maxRecDepth 100000 in
/-- X1_root -/
theorem cm_root_s (l : Launch) (dC : Nat → ClassId) (dI : Nat → Nat → Nat) (cA : ClassId) (tr : List (ClassId × FieldType)) (wr : va_W) (mo : Nat → Nat) (th k : Nat) (F fa fb fc fd : Nat → Nat) (hk : k < 4) (sz : Nat) (x1 : Nat) (hx1 : x1 < 16) (x2 : Nat) (hx2 : x2 < 16) (hF : ∀ r j, r < 16 → j < zk_n k → F (32 * r + j) < zk_t k) (i1 : Nat) (hi1 : i1 < zk_n k) (f : Nat → Nat) (hf : ∀ i, i < i1 → f i < zk_t k ∧ f i * f i % zk_t k = zq_av k (zq_rw F x2) i ∧ ∀ y, y < f i → y * y % zk_t k ≠ zq_av k (zq_rw F x2) i) (hno : ∀ y, y < zk_t k → y * y % zk_t k ≠ zq_av k (zq_rw F x2) i1) : Met l yX1_root wzX1_root (k2_rm 3 71) (zw_pre (dC, dI) zz_cl ((cA, .int) :: tr) (zm_w cA mo th k (zk_n k) (zk_t k) F fa fb fc fd ++ wr) sz [.ref (mo 0), .int (nI (x1)), .int (nI (x2))]) (va_Ql (fun r (u : zq_U) => r = lN 0 ∧ u.1 = F) (zw_at (dC, dI) zz_cl ((cA, .int) :: tr) (va_A (zm_w cA mo th k (zk_n k) (zk_t k) F fa fb fc fd ++ wr) sz) (fun u : zq_U => zm_w cA mo 2 k (zk_n k) (zk_t k) u.1 u.2.1 u.2.2.1 u.2.2.2.1 u.2.2.2.2 ++ wr)) (va_A (zm_w cA mo th k (zk_n k) (zk_t k) F fa fb fc fd ++ wr) sz)) 0 0 (va_A (zm_w cA mo th k (zk_n k) (zk_t k) F fa fb fc fd ++ wr) sz) := by
  refine Met.ofW (cc := cX1_root) (maxL := 8) (ret := (some .long)) (by decide) rfl ?_
  intro p e s m args below meth c s₁ B hml hv
  obtain ⟨rfl, hsz, hP, hK, hD0⟩ := hv
  have hx := B.exec
  have hb := B.bytes
  have hr := B.returns
  have hts := atoms_spec (ws := wzX1_root) B.pre
  have hown : s.vm.findClass RX1 = some m.cls := findClass_of_methodNamed B.named
  have hlocks := B.notSynchronized
  subst hsz
  have hD := hD0.self (sz := s.heap.size)
  generalize hAe : va_A (zm_w cA mo th k (zk_n k) (zk_t k) F fa fb fc fd ++ wr) s.heap.size = A at hD ⊢
  have hA : ∀ q : Nat, s.heap.size ≤ q → A q := fun q h => by rw [← hAe]; exact Or.inr h
  have hS : va_S A s.heap s.heap [] := va_S.rf
  have hl := lv_entry ([.ref (mo 0), .int (nI (x1)), .int (nI (x2))]) (n := 8) (Nat.le_of_ble_eq_true rfl)
  rw [lg_entry_eq]
  generalize (lg_sl ([.ref (mo 0), .int (nI (x1)), .int (nI (x2))]) ++ List.replicate (8 - (lg_sl ([.ref (mo 0), .int (nI (x1)), .int (nI (x2))])).length) Slot.unset).toArray = ls at hl ⊢
  have hl : lv_has ls 8 [(0, .ref (mo 0)), (1, .int (nI (x1))), (2, .int (nI (x2)))] := hl
  obtain ⟨hb1, hb2, hb3, hb4, hb5, hb6, hb7, hb8⟩ := zk_b k hk
  refine lv_aload_n hx hb dX1_root_0 rfl (lv_at hl 0 rfl) ?_
  refine lv_iload_n hx hb dX1_root_1 rfl (lv_at hl 1 rfl) ?_
  refine zr_callq (zx_runS (As := [.int (nI (x1))]) (rest := [.ref (mo 0)]) hx hb hml hts hown (cm_none0 l (dC, dI) zz_cl ((cA, .int) :: tr) (zm_w cA mo th k (zk_n k) (zk_t k) F fa fb fc fd ++ wr) x1 (by omega)) zu_X1_46 rfl rfl ⟨Nat.le_of_ble_eq_true rfl, Nat.le_of_ble_eq_true rfl⟩ (zr_preS hP hK) rfl hl.1 rfl (Nat.le_of_ble_eq_true rfl) dX1_root_2 ⟨Nat.zero_le _, Nat.zero_le _⟩) ?_
  refine zr_ifne (tgt := 15) hx hb dX1_root_5 (by decide) (by omega) (fun hno9 => absurd hno9 (by omega)) (fun _ => ?_)
  refine lv_iload_n hx hb dX1_root_8 rfl (lv_at hl 2 rfl) ?_
  refine zr_callq (zx_runS (As := [.int (nI (x2))]) (rest := [.ref (mo 0)]) hx hb hml hts hown (cm_none0 l (dC, dI) zz_cl ((cA, .int) :: tr) (zm_w cA mo th k (zk_n k) (zk_t k) F fa fb fc fd ++ wr) x2 (by omega)) zu_X1_46 rfl rfl ⟨Nat.le_of_ble_eq_true rfl, Nat.le_of_ble_eq_true rfl⟩ (zr_preS hP hK) rfl hl.1 rfl (Nat.le_of_ble_eq_true rfl) dX1_root_9 ⟨Nat.zero_le _, Nat.zero_le _⟩) ?_
  refine zr_ifeq (tgt := 19) hx hb dX1_root_12 (by decide) (by omega) (fun _ => ?_) (fun hno9 => absurd hno9 (by omega))
  refine lv_iconst (v := nI 0) hx hb dX1_root_19 (by decide) ?_
  refine zx_put1 (ws' := (zm_w cA mo 0 k (zk_n k) (zk_t k) F fa fb fc fd ++ wr)) hx hb hts hown hK hP hD hS 0 rfl 0 (by decide) zf_X1_32 rfl (by decide +kernel) (Nat.le_of_ble_eq_true rfl) dX1_root_20 rfl (fun H locs hP hD hS => ?_)
  refine lv_aload_n hx hb dX1_root_23 rfl (lv_at hl 0 rfl) ?_
  refine zx_get1 (v := .int (nI (0))) hx hb hts hown hK hP 0 rfl 0 (by decide) zf_X1_32 rfl dX1_root_24 ?_
  refine zr_ifle (tgt := 32) hx hb dX1_root_27 (by decide) (by omega) (fun _ => ?_) (fun hno9 => absurd hno9 (by omega))
  refine lv_aload_n hx hb dX1_root_32 rfl (lv_at hl 0 rfl) ?_
  refine lv_iload_n hx hb dX1_root_33 rfl (lv_at hl 2 rfl) ?_
  refine lv_aload_n hx hb dX1_root_34 rfl (lv_at hl 0 rfl) ?_
  refine zx_get1 (v := .ref (mo 2)) hx hb hts hown hK hP 0 rfl 5 (by decide) zf_X1_20 rfl dX1_root_35 ?_
  refine zw_callv (w' := fun u : Nat → Nat => zm_w cA mo 0 k (zk_n k) (zk_t k) F u fb fc fd ++ wr) hD hS hA (zx_runV (As := [.int (nI (x2)), .ref (mo 2)]) (rest := []) hx hb hml hts hown (cm_take2 l dC dI cA tr wr mo 0 k F fa fb fc fd hk H.size x2 (by omega)) zv_X1_62 rfl rfl ⟨Nat.le_of_ble_eq_true rfl, Nat.le_of_ble_eq_true rfl⟩ (zw_preV (q := (RX1, TM1, 9)) (ci := 1) (q0 := 0) hP hK hD rfl rfl) rfl hl.1 rfl (Nat.le_of_ble_eq_true rfl) dX1_root_38 ⟨Nat.zero_le _, Nat.zero_le _⟩) (fun ua H locs hua hP hD hS => ?_)
  have hlua : ∀ j, j < zk_n k → ua j < zk_t k := fun j hj => by rw [hua j hj]; exact hF x2 j (by omega) hj
  refine lv_iconst (v := nI 0) hx hb dX1_root_41 (by decide) ?_
  refine lv_istore_n (lv' := [(3, .int (nI (0))), (0, .ref (mo 0)), (1, .int (nI (x1))), (2, .int (nI (x2)))]) hx hb dX1_root_42 rfl hl (by decide) rfl (fun ls hl => ?_)
  have hAv : ∀ i, zq_av k ua i = zq_av k (zq_rw F x2) i := fun i => zq_av_congr hua i
  have main : ∀ (d i : Nat), i + d = i1 → ∀ (G1 : Nat → Nat), ((∀ j, j < zk_n k → G1 j < zk_t k) ∧ ∀ j, j < zk_n k → zq_av k G1 j = if j < i then f j else 0) → ∀ (H : Heap) (locs : List Loc), va_P (dC, dI) zz_cl (zm_w cA mo 0 k (zk_n k) (zk_t k) F ua G1 fc fd ++ wr) H → va_D A (zm_w cA mo 0 k (zk_n k) (zk_t k) F ua G1 fc fd ++ wr) → va_S A s.heap H locs → ∀ ls, lv_has ls 8 [(0, .ref (mo 0)), (1, .int (nI (x1))), (2, .int (nI (x2))), (3, .long (lN (2 ^ (i - zq_zc (zq_av k (zq_rw F x2)) i)))), (5, .int (nI (i)))] → W p l e (headSpec wzX1_root (k2_rm 3 71)).room s m ([.ref (mo 0), .int (nI (x1)), .int (nI (x2))] : List Value).toArray below meth c H locs 0 0 (MQ below (va_Ql (fun r (u : zq_U) => r = lN 0 ∧ u.1 = F) (zw_at (dC, dI) zz_cl ((cA, .int) :: tr) A (fun u : zq_U => zm_w cA mo 2 k (zk_n k) (zk_t k) u.1 u.2.1 u.2.2.1 u.2.2.2.1 u.2.2.2.2 ++ wr)) A) ([.ref (mo 0), .int (nI (x1)), .int (nI (x2))] : List Value).toArray s 0 0 A) (F0 m 69 ls []) := by
    intro d
    induction d with
    | zero =>
      intro i hi G1 hinv H locs hP hD hS ls hl
      have hi : i = i1 := by omega
      subst hi
      refine lv_iload hx hb dX1_root_69 (lv_at hl 4 rfl) ?_
      refine lv_aload_n hx hb dX1_root_71 rfl (lv_at hl 0 rfl) ?_
      refine zx_get1 (v := .int (nI (zk_n k))) hx hb hts hown hK hP 0 rfl 2 (by decide) zf_X1_7 rfl dX1_root_72 ?_
      refine zr_ige (tgt := 168) hx hb dX1_root_75 (by decide) (by omega) (by omega) (fun hno9 => absurd hno9 (by omega)) (fun _ => ?_)
      have hva := zq_av_lt hk ua i
      refine lv_aload_n hx hb dX1_root_78 rfl (lv_at hl 0 rfl) ?_
      refine lv_aload_n hx hb dX1_root_79 rfl (lv_at hl 0 rfl) ?_
      refine zx_get1 (v := .ref (mo 2)) hx hb hts hown hK hP 0 rfl 5 (by decide) zf_X1_20 rfl dX1_root_80 ?_
      refine lv_iload hx hb dX1_root_83 (lv_at hl 4 rfl) ?_
      refine zr_callq (zx_runV (As := [.ref (mo 2), .int (nI (i))]) (rest := []) hx hb hml hts hown (cm_at l dC dI cA tr wr mo 0 k F ua G1 fc fd hk 2 (mo 2) ua rfl hlua i (by omega)) zv_X1_58 rfl rfl ⟨Nat.le_of_ble_eq_true rfl, Nat.le_of_ble_eq_true rfl⟩ (zr_preV (q := (RX1, TM1, 9)) (ci := 1) (q0 := 0) hP hK rfl rfl) rfl hl.1 rfl (Nat.le_of_ble_eq_true rfl) dX1_root_85 ⟨Nat.zero_le _, Nat.zero_le _⟩) ?_
      refine lv_istore (lv' := [(6, .int (nI (zq_av k ua i))), (0, .ref (mo 0)), (1, .int (nI (x1))), (2, .int (nI (x2))), (3, .long (lN (2 ^ (i - zq_zc (zq_av k (zq_rw F x2)) i)))), (5, .int (nI (i)))]) hx hb dX1_root_88 hl (by decide) rfl (fun ls hl => ?_)
      refine lv_iconst (v := nI 0) hx hb dX1_root_90 (by decide) ?_
      refine lv_istore (lv' := [(7, .int (nI (0))), (6, .int (nI (zq_av k ua i))), (0, .ref (mo 0)), (1, .int (nI (x1))), (2, .int (nI (x2))), (3, .long (lN (2 ^ (i - zq_zc (zq_av k (zq_rw F x2)) i)))), (5, .int (nI (i)))]) hx hb dX1_root_91 hl (by decide) rfl (fun ls hl => ?_)
      have inner : ∀ (d2 y9 : Nat), y9 + d2 = zk_t k → ∀ ls, lv_has ls 8 [(0, .ref (mo 0)), (1, .int (nI (x1))), (2, .int (nI (x2))), (3, .long (lN (2 ^ (i - zq_zc (zq_av k (zq_rw F x2)) i)))), (5, .int (nI (i))), (6, .int (nI (zq_av k ua i))), (7, .int (nI (y9)))] → W p l e (headSpec wzX1_root (k2_rm 3 71)).room s m ([.ref (mo 0), .int (nI (x1)), .int (nI (x2))] : List Value).toArray below meth c H locs 0 0 (MQ below (va_Ql (fun r (u : zq_U) => r = lN 0 ∧ u.1 = F) (zw_at (dC, dI) zz_cl ((cA, .int) :: tr) A (fun u : zq_U => zm_w cA mo 2 k (zk_n k) (zk_t k) u.1 u.2.1 u.2.2.1 u.2.2.2.1 u.2.2.2.2 ++ wr)) A) ([.ref (mo 0), .int (nI (x1)), .int (nI (x2))] : List Value).toArray s 0 0 A) (F0 m 93 ls []) := by
        intro d2
        induction d2 with
        | zero =>
          intro y9 hy9 ls hl
          have hy8 : y9 = zk_t k := by omega
          subst hy8
          refine lv_iload hx hb dX1_root_93 (lv_at hl 6 rfl) ?_
          refine lv_aload_n hx hb dX1_root_95 rfl (lv_at hl 0 rfl) ?_
          refine zx_get1 (v := .int (nI (zk_t k))) hx hb hts hown hK hP 0 rfl 3 (by decide) zf_X1_13 rfl dX1_root_96 ?_
          refine zr_ige (tgt := 123) hx hb dX1_root_99 (by decide) (by omega) (by omega) (fun _ => ?_) (fun hno9 => absurd hno9 (by omega))
          refine lv_iload hx hb dX1_root_123 (lv_at hl 6 rfl) ?_
          refine lv_aload_n hx hb dX1_root_125 rfl (lv_at hl 0 rfl) ?_
          refine zx_get1 (v := .int (nI (zk_t k))) hx hb hts hown hK hP 0 rfl 3 (by decide) zf_X1_13 rfl dX1_root_126 ?_
          refine zr_ine (tgt := 139) hx hb dX1_root_129 (by decide) (by omega) (by omega) (fun hno9 => absurd hno9 (by omega)) (fun _ => ?_)
          refine lv_aload_n hx hb dX1_root_132 rfl (lv_at hl 0 rfl) ?_
          refine lv_iconst (v := nI 2) hx hb dX1_root_133 (by decide) ?_
          refine zw_calli (w' := fun u : Unit => zm_w cA mo 2 k (zk_n k) (zk_t k) F ua G1 fc fd ++ wr) hD hS hA (zx_runV (As := [.int (nI (2))]) (rest := []) hx hb hml hts hown (cm_fail l dC dI cA tr wr mo 0 k F ua G1 fc fd hk H.size 2) zv_X1_81 rfl rfl ⟨Nat.le_of_ble_eq_true rfl, Nat.le_of_ble_eq_true rfl⟩ (zw_preV (q := (RX1, TM1, 9)) (ci := 1) (q0 := 0) hP hK hD rfl rfl) rfl hl.1 rfl (Nat.le_of_ble_eq_true rfl) dX1_root_134 ⟨Nat.zero_le _, Nat.zero_le _⟩) (fun r9 u9 H locs hr9 hP hD hS => ?_)
          subst hr9
          refine zr_i2l hx hb dX1_root_137 (by omega) ?_
          exact W.lret (v := lN 0) hx hb hr (fun t9 h9 hW9 => ⟨⟨lN 0, (F, ua, G1, fc, fd), rfl, ⟨rfl, rfl⟩, by rw [h9]; exact hP, va_K.moved hW9.alike hK, hD⟩, hS.F h9⟩) hS.2.2 dX1_root_138
        | succ d2 ih2 =>
          intro y9 hy9 ls hl
          refine lv_iload hx hb dX1_root_93 (lv_at hl 6 rfl) ?_
          refine lv_aload_n hx hb dX1_root_95 rfl (lv_at hl 0 rfl) ?_
          refine zx_get1 (v := .int (nI (zk_t k))) hx hb hts hown hK hP 0 rfl 3 (by decide) zf_X1_13 rfl dX1_root_96 ?_
          refine zr_ige (tgt := 123) hx hb dX1_root_99 (by decide) (by omega) (by omega) (fun hno9 => absurd hno9 (by omega)) (fun _ => ?_)
          refine lv_iload hx hb dX1_root_102 (lv_at hl 6 rfl) ?_
          refine lv_iload hx hb dX1_root_104 (lv_at hl 6 rfl) ?_
          refine zr_imul hx hb dX1_root_106 ?_
          refine lv_aload_n hx hb dX1_root_107 rfl (lv_at hl 0 rfl) ?_
          refine zx_get1 (v := .int (nI (zk_t k))) hx hb hts hown hK hP 0 rfl 3 (by decide) zf_X1_13 rfl dX1_root_108 ?_
          refine zr_irem hx hb dX1_root_111 (zq_b2 (show y9 < zk_t k by omega) (show y9 < zk_t k by omega) hb4) (by omega) (by omega) ?_
          refine lv_iload hx hb dX1_root_112 (lv_at hl 5 rfl) ?_
          refine zr_ieq (tgt := 123) hx hb dX1_root_114 (by decide) (zq_ml (by omega) hb4) (by omega) (fun hno9 => absurd hno9 (fun hh => hno y9 (by omega) (hh.trans (hAv i)))) (fun _ => ?_)
          refine zr_iinc (k := 6) (lv' := [(7, .int (nI (y9 + 1))), (0, .ref (mo 0)), (1, .int (nI (x1))), (2, .int (nI (x2))), (3, .long (lN (2 ^ (i - zq_zc (zq_av k (zq_rw F x2)) i)))), (5, .int (nI (i))), (6, .int (nI (zq_av k ua i)))]) hx hb dX1_root_117 hl rfl (by decide) rfl (fun ls hl => ?_)
          refine lv_goto (tgt := 93) hx hb dX1_root_120 (by decide) ?_
          exact ih2 (y9 + 1) (by omega) ls (lv_sub hl [1, 2, 3, 4, 5, 6, 0] rfl)
      exact inner (zk_t k) 0 (by omega) ls (lv_sub hl [2, 3, 4, 5, 6, 1, 0] rfl)
    | succ d ih =>
      intro i hi G1 hinv H locs hP hD hS ls hl
      obtain ⟨hf1, hf2, hf3⟩ := hf i (by omega)
      have hva := zq_av_lt hk ua i
      refine lv_iload hx hb dX1_root_69 (lv_at hl 4 rfl) ?_
      refine lv_aload_n hx hb dX1_root_71 rfl (lv_at hl 0 rfl) ?_
      refine zx_get1 (v := .int (nI (zk_n k))) hx hb hts hown hK hP 0 rfl 2 (by decide) zf_X1_7 rfl dX1_root_72 ?_
      refine zr_ige (tgt := 168) hx hb dX1_root_75 (by decide) (by omega) (by omega) (fun hno9 => absurd hno9 (by omega)) (fun _ => ?_)
      refine lv_aload_n hx hb dX1_root_78 rfl (lv_at hl 0 rfl) ?_
      refine lv_aload_n hx hb dX1_root_79 rfl (lv_at hl 0 rfl) ?_
      refine zx_get1 (v := .ref (mo 2)) hx hb hts hown hK hP 0 rfl 5 (by decide) zf_X1_20 rfl dX1_root_80 ?_
      refine lv_iload hx hb dX1_root_83 (lv_at hl 4 rfl) ?_
      refine zr_callq (zx_runV (As := [.ref (mo 2), .int (nI (i))]) (rest := []) hx hb hml hts hown (cm_at l dC dI cA tr wr mo 0 k F ua G1 fc fd hk 2 (mo 2) ua rfl hlua i (by omega)) zv_X1_58 rfl rfl ⟨Nat.le_of_ble_eq_true rfl, Nat.le_of_ble_eq_true rfl⟩ (zr_preV (q := (RX1, TM1, 9)) (ci := 1) (q0 := 0) hP hK rfl rfl) rfl hl.1 rfl (Nat.le_of_ble_eq_true rfl) dX1_root_85 ⟨Nat.zero_le _, Nat.zero_le _⟩) ?_
      refine lv_istore (lv' := [(6, .int (nI (zq_av k ua i))), (0, .ref (mo 0)), (1, .int (nI (x1))), (2, .int (nI (x2))), (3, .long (lN (2 ^ (i - zq_zc (zq_av k (zq_rw F x2)) i)))), (5, .int (nI (i)))]) hx hb dX1_root_88 hl (by decide) rfl (fun ls hl => ?_)
      refine lv_iconst (v := nI 0) hx hb dX1_root_90 (by decide) ?_
      refine lv_istore (lv' := [(7, .int (nI (0))), (6, .int (nI (zq_av k ua i))), (0, .ref (mo 0)), (1, .int (nI (x1))), (2, .int (nI (x2))), (3, .long (lN (2 ^ (i - zq_zc (zq_av k (zq_rw F x2)) i)))), (5, .int (nI (i)))]) hx hb dX1_root_91 hl (by decide) rfl (fun ls hl => ?_)
      have inner : ∀ (d2 y9 : Nat), y9 + d2 = f i → ∀ ls, lv_has ls 8 [(0, .ref (mo 0)), (1, .int (nI (x1))), (2, .int (nI (x2))), (3, .long (lN (2 ^ (i - zq_zc (zq_av k (zq_rw F x2)) i)))), (5, .int (nI (i))), (6, .int (nI (zq_av k ua i))), (7, .int (nI (y9)))] → W p l e (headSpec wzX1_root (k2_rm 3 71)).room s m ([.ref (mo 0), .int (nI (x1)), .int (nI (x2))] : List Value).toArray below meth c H locs 0 0 (MQ below (va_Ql (fun r (u : zq_U) => r = lN 0 ∧ u.1 = F) (zw_at (dC, dI) zz_cl ((cA, .int) :: tr) A (fun u : zq_U => zm_w cA mo 2 k (zk_n k) (zk_t k) u.1 u.2.1 u.2.2.1 u.2.2.2.1 u.2.2.2.2 ++ wr)) A) ([.ref (mo 0), .int (nI (x1)), .int (nI (x2))] : List Value).toArray s 0 0 A) (F0 m 93 ls []) := by
        intro d2
        induction d2 with
        | zero =>
          intro y9 hy9 ls hl
          have hy8 : y9 = f i := by omega
          subst hy8
          refine lv_iload hx hb dX1_root_93 (lv_at hl 6 rfl) ?_
          refine lv_aload_n hx hb dX1_root_95 rfl (lv_at hl 0 rfl) ?_
          refine zx_get1 (v := .int (nI (zk_t k))) hx hb hts hown hK hP 0 rfl 3 (by decide) zf_X1_13 rfl dX1_root_96 ?_
          refine zr_ige (tgt := 123) hx hb dX1_root_99 (by decide) (by omega) (by omega) (fun hno9 => absurd hno9 (by omega)) (fun _ => ?_)
          refine lv_iload hx hb dX1_root_102 (lv_at hl 6 rfl) ?_
          refine lv_iload hx hb dX1_root_104 (lv_at hl 6 rfl) ?_
          refine zr_imul hx hb dX1_root_106 ?_
          refine lv_aload_n hx hb dX1_root_107 rfl (lv_at hl 0 rfl) ?_
          refine zx_get1 (v := .int (nI (zk_t k))) hx hb hts hown hK hP 0 rfl 3 (by decide) zf_X1_13 rfl dX1_root_108 ?_
          refine zr_irem hx hb dX1_root_111 (zq_b2 hf1 hf1 hb4) (by omega) (by omega) ?_
          refine lv_iload hx hb dX1_root_112 (lv_at hl 5 rfl) ?_
          refine zr_ieq (tgt := 123) hx hb dX1_root_114 (by decide) (zq_ml (by omega) hb4) (by omega) (fun _ => ?_) (fun hno9 => absurd hno9 (fun hh => hh (hf2.trans (hAv i).symm)))
          refine lv_iload hx hb dX1_root_123 (lv_at hl 6 rfl) ?_
          refine lv_aload_n hx hb dX1_root_125 rfl (lv_at hl 0 rfl) ?_
          refine zx_get1 (v := .int (nI (zk_t k))) hx hb hts hown hK hP 0 rfl 3 (by decide) zf_X1_13 rfl dX1_root_126 ?_
          refine zr_ine (tgt := 139) hx hb dX1_root_129 (by decide) (by omega) (by omega) (fun _ => ?_) (fun hno9 => absurd hno9 (by omega))
          refine lv_iload hx hb dX1_root_139 (lv_at hl 5 rfl) ?_
          refine zr_ifeq (tgt := 150) hx hb dX1_root_141 (by decide) (by omega) (fun hv0 => ?_) (fun hv0 => ?_)
          · refine lv_aload_n hx hb dX1_root_150 rfl (lv_at hl 0 rfl) ?_
            refine lv_aload_n hx hb dX1_root_151 rfl (lv_at hl 0 rfl) ?_
            refine zx_get1 (v := .ref (mo 3)) hx hb hts hown hK hP 0 rfl 6 (by decide) zf_X1_23 rfl dX1_root_152 ?_
            refine lv_iload hx hb dX1_root_155 (lv_at hl 4 rfl) ?_
            refine lv_iload hx hb dX1_root_157 (lv_at hl 6 rfl) ?_
            refine zw_callv (w' := fun u : Nat → Nat => zm_w cA mo 0 k (zk_n k) (zk_t k) F ua u fc fd ++ wr) hD hS hA (zx_runV (As := [.ref (mo 3), .int (nI (i)), .int (nI (f i))]) (rest := []) hx hb hml hts hown (cm_add3 l dC dI cA tr wr mo 0 k F ua G1 fc fd hk H.size i (f i) (by omega) hf1 hinv.1) zv_X1_66 rfl rfl ⟨Nat.le_of_ble_eq_true rfl, Nat.le_of_ble_eq_true rfl⟩ (zw_preV (q := (RX1, TM1, 9)) (ci := 1) (q0 := 0) hP hK hD rfl rfl) rfl hl.1 rfl (Nat.le_of_ble_eq_true rfl) dX1_root_159 ⟨Nat.zero_le _, Nat.zero_le _⟩) (fun ub H locs hub hP hD hS => ?_)
            refine zr_iinc (k := 4) (lv' := [(5, .int (nI (i + 1))), (0, .ref (mo 0)), (1, .int (nI (x1))), (2, .int (nI (x2))), (3, .long (lN (2 ^ (i - zq_zc (zq_av k (zq_rw F x2)) i)))), (6, .int (nI (zq_av k ua i))), (7, .int (nI (f i)))]) hx hb dX1_root_162 hl rfl (by decide) rfl (fun ls hl => ?_)
            refine lv_goto (tgt := 69) hx hb dX1_root_165 (by decide) ?_
            refine ih (i + 1) (by omega) ub ⟨fun j hj => by rw [hub.1 j hj]; exact Nat.mod_lt _ (by omega), fun j hj => zq_rt_s hk (by omega) hf1 hinv.2 hub.1 hj⟩ H locs hP hD hS ls (by rw [zq_zc_0 (show zq_av k (zq_rw F x2) i = 0 by rw [← hAv i]; exact hv0), show i + 1 - (zq_zc (zq_av k (zq_rw F x2)) i + 1) = i - zq_zc (zq_av k (zq_rw F x2)) i by omega]; exact (lv_sub hl [1, 2, 3, 4, 0] rfl))
          · refine lv_lload_n hx hb dX1_root_144 rfl (lv_at hl 3 rfl) ?_
            refine lv_ldc2 (v := lN 2) hx hb hown (hts _ (List.mem_cons_of_mem _ zg_X1_85)) dX1_root_145 ?_
            refine zr_lmul hx hb dX1_root_148 ?_
            refine lv_lstore_n (lv' := [(3, .long (lN ((2 ^ (i - zq_zc (zq_av k (zq_rw F x2)) i)) * 2))), (0, .ref (mo 0)), (1, .int (nI (x1))), (2, .int (nI (x2))), (5, .int (nI (i))), (6, .int (nI (zq_av k ua i))), (7, .int (nI (f i)))]) hx hb dX1_root_149 rfl hl (by decide) rfl (fun ls hl => ?_)
            refine lv_aload_n hx hb dX1_root_150 rfl (lv_at hl 1 rfl) ?_
            refine lv_aload_n hx hb dX1_root_151 rfl (lv_at hl 1 rfl) ?_
            refine zx_get1 (v := .ref (mo 3)) hx hb hts hown hK hP 0 rfl 6 (by decide) zf_X1_23 rfl dX1_root_152 ?_
            refine lv_iload hx hb dX1_root_155 (lv_at hl 4 rfl) ?_
            refine lv_iload hx hb dX1_root_157 (lv_at hl 6 rfl) ?_
            refine zw_callv (w' := fun u : Nat → Nat => zm_w cA mo 0 k (zk_n k) (zk_t k) F ua u fc fd ++ wr) hD hS hA (zx_runV (As := [.ref (mo 3), .int (nI (i)), .int (nI (f i))]) (rest := []) hx hb hml hts hown (cm_add3 l dC dI cA tr wr mo 0 k F ua G1 fc fd hk H.size i (f i) (by omega) hf1 hinv.1) zv_X1_66 rfl rfl ⟨Nat.le_of_ble_eq_true rfl, Nat.le_of_ble_eq_true rfl⟩ (zw_preV (q := (RX1, TM1, 9)) (ci := 1) (q0 := 0) hP hK hD rfl rfl) rfl hl.1 rfl (Nat.le_of_ble_eq_true rfl) dX1_root_159 ⟨Nat.zero_le _, Nat.zero_le _⟩) (fun ub H locs hub hP hD hS => ?_)
            refine zr_iinc (k := 4) (lv' := [(5, .int (nI (i + 1))), (3, .long (lN ((2 ^ (i - zq_zc (zq_av k (zq_rw F x2)) i)) * 2))), (0, .ref (mo 0)), (1, .int (nI (x1))), (2, .int (nI (x2))), (6, .int (nI (zq_av k ua i))), (7, .int (nI (f i)))]) hx hb dX1_root_162 hl rfl (by decide) rfl (fun ls hl => ?_)
            refine lv_goto (tgt := 69) hx hb dX1_root_165 (by decide) ?_
            refine ih (i + 1) (by omega) ub ⟨fun j hj => by rw [hub.1 j hj]; exact Nat.mod_lt _ (by omega), fun j hj => zq_rt_s hk (by omega) hf1 hinv.2 hub.1 hj⟩ H locs hP hD hS ls (by rw [zq_zc_1 (show zq_av k (zq_rw F x2) i ≠ 0 by rw [← hAv i]; exact hv0), ← zq_2p (zq_zc_le _ _)]; exact (lv_sub hl [2, 3, 4, 1, 0] rfl))
        | succ d2 ih2 =>
          intro y9 hy9 ls hl
          refine lv_iload hx hb dX1_root_93 (lv_at hl 6 rfl) ?_
          refine lv_aload_n hx hb dX1_root_95 rfl (lv_at hl 0 rfl) ?_
          refine zx_get1 (v := .int (nI (zk_t k))) hx hb hts hown hK hP 0 rfl 3 (by decide) zf_X1_13 rfl dX1_root_96 ?_
          refine zr_ige (tgt := 123) hx hb dX1_root_99 (by decide) (by omega) (by omega) (fun hno9 => absurd hno9 (by omega)) (fun _ => ?_)
          refine lv_iload hx hb dX1_root_102 (lv_at hl 6 rfl) ?_
          refine lv_iload hx hb dX1_root_104 (lv_at hl 6 rfl) ?_
          refine zr_imul hx hb dX1_root_106 ?_
          refine lv_aload_n hx hb dX1_root_107 rfl (lv_at hl 0 rfl) ?_
          refine zx_get1 (v := .int (nI (zk_t k))) hx hb hts hown hK hP 0 rfl 3 (by decide) zf_X1_13 rfl dX1_root_108 ?_
          refine zr_irem hx hb dX1_root_111 (zq_b2 (show y9 < zk_t k by omega) (show y9 < zk_t k by omega) hb4) (by omega) (by omega) ?_
          refine lv_iload hx hb dX1_root_112 (lv_at hl 5 rfl) ?_
          refine zr_ieq (tgt := 123) hx hb dX1_root_114 (by decide) (zq_ml (by omega) hb4) (by omega) (fun hno9 => absurd hno9 (fun hh => hf3 y9 (by omega) (hh.trans (hAv i)))) (fun _ => ?_)
          refine zr_iinc (k := 6) (lv' := [(7, .int (nI (y9 + 1))), (0, .ref (mo 0)), (1, .int (nI (x1))), (2, .int (nI (x2))), (3, .long (lN (2 ^ (i - zq_zc (zq_av k (zq_rw F x2)) i)))), (5, .int (nI (i))), (6, .int (nI (zq_av k ua i)))]) hx hb dX1_root_117 hl rfl (by decide) rfl (fun ls hl => ?_)
          refine lv_goto (tgt := 93) hx hb dX1_root_120 (by decide) ?_
          exact ih2 (y9 + 1) (by omega) ls (lv_sub hl [1, 2, 3, 4, 5, 6, 0] rfl)
      exact inner (f i) 0 (by omega) ls (lv_sub hl [2, 3, 4, 5, 6, 1, 0] rfl)
  have first : ∀ (d i : Nat), i + d = zk_n k → ∀ (G1 : Nat → Nat), (∀ j, j < i → G1 j = 0) → ∀ (H : Heap) (locs : List Loc), va_P (dC, dI) zz_cl (zm_w cA mo 0 k (zk_n k) (zk_t k) F ua G1 fc fd ++ wr) H → va_D A (zm_w cA mo 0 k (zk_n k) (zk_t k) F ua G1 fc fd ++ wr) → va_S A s.heap H locs → ∀ ls, lv_has ls 8 [(0, .ref (mo 0)), (1, .int (nI (x1))), (2, .int (nI (x2))), (3, .int (nI (i)))] → W p l e (headSpec wzX1_root (k2_rm 3 71)).room s m ([.ref (mo 0), .int (nI (x1)), .int (nI (x2))] : List Value).toArray below meth c H locs 0 0 (MQ below (va_Ql (fun r (u : zq_U) => r = lN 0 ∧ u.1 = F) (zw_at (dC, dI) zz_cl ((cA, .int) :: tr) A (fun u : zq_U => zm_w cA mo 2 k (zk_n k) (zk_t k) u.1 u.2.1 u.2.2.1 u.2.2.2.1 u.2.2.2.2 ++ wr)) A) ([.ref (mo 0), .int (nI (x1)), .int (nI (x2))] : List Value).toArray s 0 0 A) (F0 m 43 ls []) := by
    intro d
    induction d with
    | zero =>
      intro i hi G1 hinv H locs hP hD hS ls hl
      have hi : i = zk_n k := by omega
      rw [hi] at hinv
      refine lv_iload_n hx hb dX1_root_43 rfl (lv_at hl 3 rfl) ?_
      refine lv_aload_n hx hb dX1_root_44 rfl (lv_at hl 0 rfl) ?_
      refine zx_get1 (v := .int (nI (zk_n k))) hx hb hts hown hK hP 0 rfl 2 (by decide) zf_X1_7 rfl dX1_root_45 ?_
      refine zr_ige (tgt := 64) hx hb dX1_root_48 (by decide) (by omega) (by omega) (fun _ => ?_) (fun hno9 => absurd hno9 (by omega))
      refine lv_lconst (v := lN 1) hx hb dX1_root_64 (by decide) ?_
      refine lv_lstore_n (lv' := [(3, .long (lN (1))), (0, .ref (mo 0)), (1, .int (nI (x1))), (2, .int (nI (x2)))]) hx hb dX1_root_65 rfl hl (by decide) rfl (fun ls hl => ?_)
      refine lv_iconst (v := nI 0) hx hb dX1_root_66 (by decide) ?_
      refine lv_istore (lv' := [(5, .int (nI (0))), (3, .long (lN (1))), (0, .ref (mo 0)), (1, .int (nI (x1))), (2, .int (nI (x2)))]) hx hb dX1_root_67 hl (by decide) rfl (fun ls hl => ?_)
      exact main i1 0 (by omega) G1 ⟨fun j hj => by rw [hinv j hj]; omega, fun j hj => by rw [zq_av_z hk hinv, if_neg (Nat.not_lt_zero _)]⟩ H locs hP hD hS ls (lv_sub hl [2, 3, 4, 1, 0] rfl)
    | succ d ih =>
      intro i hi G1 hinv H locs hP hD hS ls hl
      refine lv_iload_n hx hb dX1_root_43 rfl (lv_at hl 3 rfl) ?_
      refine lv_aload_n hx hb dX1_root_44 rfl (lv_at hl 0 rfl) ?_
      refine zx_get1 (v := .int (nI (zk_n k))) hx hb hts hown hK hP 0 rfl 2 (by decide) zf_X1_7 rfl dX1_root_45 ?_
      refine zr_ige (tgt := 64) hx hb dX1_root_48 (by decide) (by omega) (by omega) (fun hno9 => absurd hno9 (by omega)) (fun _ => ?_)
      refine lv_aload_n hx hb dX1_root_51 rfl (lv_at hl 0 rfl) ?_
      refine zx_get1 (v := .ref (mo 3)) hx hb hts hown hK hP 0 rfl 6 (by decide) zf_X1_23 rfl dX1_root_52 ?_
      refine lv_iload_n hx hb dX1_root_55 rfl (lv_at hl 3 rfl) ?_
      refine lv_iconst (v := nI 0) hx hb dX1_root_56 (by decide) ?_
      refine zr_iast (ws' := (zm_w cA mo 0 k (zk_n k) (zk_t k) F ua (zq_up G1 i 0) fc fd ++ wr)) hx hb hK hP hD hS 3 0 rfl rfl (by omega) (by decide) dX1_root_57 rfl (fun H locs hP hD hS => ?_)
      refine zr_iinc (k := 3) (lv' := [(3, .int (nI (i + 1))), (0, .ref (mo 0)), (1, .int (nI (x1))), (2, .int (nI (x2)))]) hx hb dX1_root_58 hl rfl (by decide) rfl (fun ls hl => ?_)
      refine lv_goto (tgt := 43) hx hb dX1_root_61 (by decide) ?_
      refine ih (i + 1) (by omega) _ (fun j hj => ?_) H locs hP hD hS ls (lv_sub hl [1, 2, 3, 0] rfl)
      by_cases e9 : j = i
      · rw [e9, zq_up_s]
      · rw [zq_up_n _ _ e9]; exact hinv j (by omega)
  exact first (zk_n k) 0 (by omega) fb (fun j hj => absurd hj (Nat.not_lt_zero _)) H locs hP hD hS ls (lv_sub hl [1, 2, 3, 0] rfl)
set_option maxHeartbeats 4000000 in
set_option maxRecDepth 100000 in
/-- X1_order -/
theorem cm_order_r1 (l : Launch) (dC : Nat → ClassId) (dI : Nat → Nat → Nat) (cA : ClassId) (tr : List (ClassId × FieldType)) (wr : va_W) (mo : Nat → Nat) (th k : Nat) (F fa fb fc fd : Nat → Nat) (hk : k < 4) (sz : Nat) (x1 : Int32) (hbad : x1 < 0 ∨ nI 16 ≤ x1) : Met l yX1_order wzX1_order (k2_rm 1 20) (zw_pre (dC, dI) zz_cl ((cA, .int) :: tr) (zm_w cA mo th k (zk_n k) (zk_t k) F fa fb fc fd ++ wr) sz [.ref (mo 0), .int (x1)]) (va_Qi (fun r (u : zq_U) => r = nI 0 ∧ u.1 = F) (zw_at (dC, dI) zz_cl ((cA, .int) :: tr) (va_A (zm_w cA mo th k (zk_n k) (zk_t k) F fa fb fc fd ++ wr) sz) (fun u : zq_U => zm_w cA mo 1 k (zk_n k) (zk_t k) u.1 u.2.1 u.2.2.1 u.2.2.2.1 u.2.2.2.2 ++ wr)) (va_A (zm_w cA mo th k (zk_n k) (zk_t k) F fa fb fc fd ++ wr) sz)) 0 0 (va_A (zm_w cA mo th k (zk_n k) (zk_t k) F fa fb fc fd ++ wr) sz) := by
  refine Met.ofW (cc := cX1_order) (maxL := 4) (ret := (some .int)) (by decide) rfl ?_
  intro p e s m args below meth c s₁ B hml hv
  obtain ⟨rfl, hsz, hP, hK, hD0⟩ := hv
  have hx := B.exec
  have hb := B.bytes
  have hr := B.returns
  have hts := atoms_spec (ws := wzX1_order) B.pre
  have hown : s.vm.findClass RX1 = some m.cls := findClass_of_methodNamed B.named
  have hlocks := B.notSynchronized
  subst hsz
  have hD := hD0.self (sz := s.heap.size)
  generalize hAe : va_A (zm_w cA mo th k (zk_n k) (zk_t k) F fa fb fc fd ++ wr) s.heap.size = A at hD ⊢
  have hA : ∀ q : Nat, s.heap.size ≤ q → A q := fun q h => by rw [← hAe]; exact Or.inr h
  have hS : va_S A s.heap s.heap [] := va_S.rf
  have hl := lv_entry ([.ref (mo 0), .int (x1)]) (n := 4) (Nat.le_of_ble_eq_true rfl)
  rw [lg_entry_eq]
  generalize (lg_sl ([.ref (mo 0), .int (x1)]) ++ List.replicate (4 - (lg_sl ([.ref (mo 0), .int (x1)])).length) Slot.unset).toArray = ls at hl ⊢
  have hl : lv_has ls 4 [(0, .ref (mo 0)), (1, .int (x1))] := hl
  obtain ⟨hb1, hb2, hb3, hb4, hb5, hb6, hb7, hb8⟩ := zk_b k hk
  refine lv_aload_n hx hb dX1_order_0 rfl (lv_at hl 0 rfl) ?_
  refine lv_iload_n hx hb dX1_order_1 rfl (lv_at hl 1 rfl) ?_
  refine zr_callq (zx_runS (As := [.int (x1)]) (rest := [.ref (mo 0)]) hx hb hml hts hown (cm_none1 l (dC, dI) zz_cl ((cA, .int) :: tr) (zm_w cA mo th k (zk_n k) (zk_t k) F fa fb fc fd ++ wr) x1 hbad) zu_X1_46 rfl rfl ⟨Nat.le_of_ble_eq_true rfl, Nat.le_of_ble_eq_true rfl⟩ (zr_preS hP hK) rfl hl.1 rfl (Nat.le_of_ble_eq_true rfl) dX1_order_2 ⟨Nat.zero_le _, Nat.zero_le _⟩) ?_
  refine zr_ifeq (tgt := 12) hx hb dX1_order_5 (by decide) (by omega) (fun hno9 => absurd hno9 (by omega)) (fun _ => ?_)
  refine lv_iconst (v := nI 1) hx hb dX1_order_8 (by decide) ?_
  refine lv_goto (tgt := 13) hx hb dX1_order_9 (by decide) ?_
  refine zx_put1 (ws' := (zm_w cA mo 1 k (zk_n k) (zk_t k) F fa fb fc fd ++ wr)) hx hb hts hown hK hP hD hS 0 rfl 0 (by decide) zf_X1_32 rfl (by decide +kernel) (Nat.le_of_ble_eq_true rfl) dX1_order_13 rfl (fun H locs hP hD hS => ?_)
  refine lv_aload_n hx hb dX1_order_16 rfl (lv_at hl 0 rfl) ?_
  refine zx_get1 (v := .int (nI (1))) hx hb hts hown hK hP 0 rfl 0 (by decide) zf_X1_32 rfl dX1_order_17 ?_
  refine zr_ifle (tgt := 25) hx hb dX1_order_20 (by decide) (by omega) (fun hno9 => absurd hno9 (by omega)) (fun _ => ?_)
  refine lv_iconst (v := nI 0) hx hb dX1_order_23 (by decide) ?_
  exact W.iret (v := nI 0) hx hb hr (fun t9 h9 hW9 => ⟨⟨nI 0, (F, fa, fb, fc, fd), rfl, ⟨rfl, rfl⟩, by rw [h9]; exact hP, va_K.moved hW9.alike hK, hD⟩, hS.F h9⟩) hS.2.2 dX1_order_24
set_option maxHeartbeats 4000000 in
set_option maxRecDepth 100000 in
/-- X1_order -/
theorem cm_order0 (l : Launch) (dC : Nat → ClassId) (dI : Nat → Nat → Nat) (cA : ClassId) (tr : List (ClassId × FieldType)) (wr : va_W) (mo : Nat → Nat) (th k : Nat) (F fa fb fc fd : Nat → Nat) (hk : k < 4) (sz : Nat) (x1 : Nat) (hx1 : x1 < 16) (hF : ∀ r j, r < 16 → j < zk_n k → F (32 * r + j) < zk_t k) (hz : zq_zc (zq_av k (zq_rw F x1)) (zk_n k) ≠ 0) : Met l yX1_order wzX1_order (k2_rm 4 93) (zw_pre (dC, dI) zz_cl ((cA, .int) :: tr) (zm_w cA mo th k (zk_n k) (zk_t k) F fa fb fc fd ++ wr) sz [.ref (mo 0), .int (nI (x1))]) (va_Qi (fun r (u : zq_U) => r = nI 0 ∧ u.1 = F) (zw_at (dC, dI) zz_cl ((cA, .int) :: tr) (va_A (zm_w cA mo th k (zk_n k) (zk_t k) F fa fb fc fd ++ wr) sz) (fun u : zq_U => zm_w cA mo 0 k (zk_n k) (zk_t k) u.1 u.2.1 u.2.2.1 u.2.2.2.1 u.2.2.2.2 ++ wr)) (va_A (zm_w cA mo th k (zk_n k) (zk_t k) F fa fb fc fd ++ wr) sz)) 0 0 (va_A (zm_w cA mo th k (zk_n k) (zk_t k) F fa fb fc fd ++ wr) sz) := by
  refine Met.ofW (cc := cX1_order) (maxL := 4) (ret := (some .int)) (by decide) rfl ?_
  intro p e s m args below meth c s₁ B hml hv
  obtain ⟨rfl, hsz, hP, hK, hD0⟩ := hv
  have hx := B.exec
  have hb := B.bytes
  have hr := B.returns
  have hts := atoms_spec (ws := wzX1_order) B.pre
  have hown : s.vm.findClass RX1 = some m.cls := findClass_of_methodNamed B.named
  have hlocks := B.notSynchronized
  subst hsz
  have hD := hD0.self (sz := s.heap.size)
  generalize hAe : va_A (zm_w cA mo th k (zk_n k) (zk_t k) F fa fb fc fd ++ wr) s.heap.size = A at hD ⊢
  have hA : ∀ q : Nat, s.heap.size ≤ q → A q := fun q h => by rw [← hAe]; exact Or.inr h
  have hS : va_S A s.heap s.heap [] := va_S.rf
  have hl := lv_entry ([.ref (mo 0), .int (nI (x1))]) (n := 4) (Nat.le_of_ble_eq_true rfl)
  rw [lg_entry_eq]
  generalize (lg_sl ([.ref (mo 0), .int (nI (x1))]) ++ List.replicate (4 - (lg_sl ([.ref (mo 0), .int (nI (x1))])).length) Slot.unset).toArray = ls at hl ⊢
  have hl : lv_has ls 4 [(0, .ref (mo 0)), (1, .int (nI (x1)))] := hl
  obtain ⟨hb1, hb2, hb3, hb4, hb5, hb6, hb7, hb8⟩ := zk_b k hk
  refine lv_aload_n hx hb dX1_order_0 rfl (lv_at hl 0 rfl) ?_
  refine lv_iload_n hx hb dX1_order_1 rfl (lv_at hl 1 rfl) ?_
  refine zr_callq (zx_runS (As := [.int (nI (x1))]) (rest := [.ref (mo 0)]) hx hb hml hts hown (cm_none0 l (dC, dI) zz_cl ((cA, .int) :: tr) (zm_w cA mo th k (zk_n k) (zk_t k) F fa fb fc fd ++ wr) x1 (by omega)) zu_X1_46 rfl rfl ⟨Nat.le_of_ble_eq_true rfl, Nat.le_of_ble_eq_true rfl⟩ (zr_preS hP hK) rfl hl.1 rfl (Nat.le_of_ble_eq_true rfl) dX1_order_2 ⟨Nat.zero_le _, Nat.zero_le _⟩) ?_
  refine zr_ifeq (tgt := 12) hx hb dX1_order_5 (by decide) (by omega) (fun _ => ?_) (fun hno9 => absurd hno9 (by omega))
  refine lv_iconst (v := nI 0) hx hb dX1_order_12 (by decide) ?_
  refine zx_put1 (ws' := (zm_w cA mo 0 k (zk_n k) (zk_t k) F fa fb fc fd ++ wr)) hx hb hts hown hK hP hD hS 0 rfl 0 (by decide) zf_X1_32 rfl (by decide +kernel) (Nat.le_of_ble_eq_true rfl) dX1_order_13 rfl (fun H locs hP hD hS => ?_)
  refine lv_aload_n hx hb dX1_order_16 rfl (lv_at hl 0 rfl) ?_
  refine zx_get1 (v := .int (nI (0))) hx hb hts hown hK hP 0 rfl 0 (by decide) zf_X1_32 rfl dX1_order_17 ?_
  refine zr_ifle (tgt := 25) hx hb dX1_order_20 (by decide) (by omega) (fun _ => ?_) (fun hno9 => absurd hno9 (by omega))
  refine lv_aload_n hx hb dX1_order_25 rfl (lv_at hl 0 rfl) ?_
  refine lv_iload_n hx hb dX1_order_26 rfl (lv_at hl 1 rfl) ?_
  refine lv_aload_n hx hb dX1_order_27 rfl (lv_at hl 0 rfl) ?_
  refine zx_get1 (v := .ref (mo 2)) hx hb hts hown hK hP 0 rfl 5 (by decide) zf_X1_20 rfl dX1_order_28 ?_
  refine zw_callv (w' := fun u : Nat → Nat => zm_w cA mo 0 k (zk_n k) (zk_t k) F u fb fc fd ++ wr) hD hS hA (zx_runV (As := [.int (nI (x1)), .ref (mo 2)]) (rest := []) hx hb hml hts hown (cm_take2 l dC dI cA tr wr mo 0 k F fa fb fc fd hk H.size x1 (by omega)) zv_X1_62 rfl rfl ⟨Nat.le_of_ble_eq_true rfl, Nat.le_of_ble_eq_true rfl⟩ (zw_preV (q := (RX1, TM1, 9)) (ci := 1) (q0 := 0) hP hK hD rfl rfl) rfl hl.1 rfl (Nat.le_of_ble_eq_true rfl) dX1_order_31 ⟨Nat.zero_le _, Nat.zero_le _⟩) (fun ua H locs hua hP hD hS => ?_)
  have hlua : ∀ j, j < zk_n k → ua j < zk_t k := fun j hj => by rw [hua j hj]; exact hF x1 j (by omega) hj
  refine lv_aload_n hx hb dX1_order_34 rfl (lv_at hl 0 rfl) ?_
  refine lv_aload_n hx hb dX1_order_35 rfl (lv_at hl 0 rfl) ?_
  refine zx_get1 (v := .ref (mo 2)) hx hb hts hown hK hP 0 rfl 5 (by decide) zf_X1_20 rfl dX1_order_36 ?_
  refine zr_callq (zx_runV (As := [.ref (mo 2)]) (rest := []) hx hb hml hts hown (cm_zeros l dC dI cA tr wr mo 0 k F ua fb fc fd hk 2 (mo 2) ua rfl hlua) zv_X1_77 rfl rfl ⟨Nat.le_of_ble_eq_true rfl, Nat.le_of_ble_eq_true rfl⟩ (zr_preV (q := (RX1, TM1, 9)) (ci := 1) (q0 := 0) hP hK rfl rfl) rfl hl.1 rfl (Nat.le_of_ble_eq_true rfl) dX1_order_39 ⟨Nat.zero_le _, Nat.zero_le _⟩) ?_
  have hzc9 := zq_zc_le (zq_av k ua) (zk_n k)
  have hza : zq_zc (zq_av k ua) (zk_n k) = zq_zc (zq_av k (zq_rw F x1)) (zk_n k) := zq_zc_congr (fun i hi => zq_av_congr hua i)
  refine zr_ifle (tgt := 47) hx hb dX1_order_42 (by decide) (by omega) (fun hno9 => absurd hno9 (by omega)) (fun _ => ?_)
  refine lv_iconst (v := nI 0) hx hb dX1_order_45 (by decide) ?_
  exact W.iret (v := nI 0) hx hb hr (fun t9 h9 hW9 => ⟨⟨nI 0, (F, ua, fb, fc, fd), rfl, ⟨rfl, rfl⟩, by rw [h9]; exact hP, va_K.moved hW9.alike hK, hD⟩, hS.F h9⟩) hS.2.2 dX1_order_46
set_option maxHeartbeats 4000000 in
set_option maxRecDepth 100000 in
/-- X1_order -/
theorem cm_order (l : Launch) (dC : Nat → ClassId) (dI : Nat → Nat → Nat) (cA : ClassId) (tr : List (ClassId × FieldType)) (wr : va_W) (mo : Nat → Nat) (th k : Nat) (F fa fb fc fd : Nat → Nat) (hk : k < 4) (sz : Nat) (x1 : Nat) (hx1 : x1 < 16) (hF : ∀ r j, r < 16 → j < zk_n k → F (32 * r + j) < zk_t k) (hz : zq_zc (zq_av k (zq_rw F x1)) (zk_n k) = 0) (m0 : Nat) (hm1 : 1 ≤ m0) (hmt : m0 < 1000000) (hlt : ∀ j, 1 ≤ j → j < m0 → ¬ (∀ i, i < zk_n k → zq_av k (zq_rw F x1) i ^ j % zk_t k = 1)) (hend : ∀ i, i < zk_n k → zq_av k (zq_rw F x1) i ^ m0 % zk_t k = 1) : Met l yX1_order wzX1_order (k2_rm 4 93) (zw_pre (dC, dI) zz_cl ((cA, .int) :: tr) (zm_w cA mo th k (zk_n k) (zk_t k) F fa fb fc fd ++ wr) sz [.ref (mo 0), .int (nI (x1))]) (va_Qi (fun r (u : zq_U) => r = nI m0 ∧ u.1 = F) (zw_at (dC, dI) zz_cl ((cA, .int) :: tr) (va_A (zm_w cA mo th k (zk_n k) (zk_t k) F fa fb fc fd ++ wr) sz) (fun u : zq_U => zm_w cA mo 0 k (zk_n k) (zk_t k) u.1 u.2.1 u.2.2.1 u.2.2.2.1 u.2.2.2.2 ++ wr)) (va_A (zm_w cA mo th k (zk_n k) (zk_t k) F fa fb fc fd ++ wr) sz)) 0 0 (va_A (zm_w cA mo th k (zk_n k) (zk_t k) F fa fb fc fd ++ wr) sz) := by
  refine Met.ofW (cc := cX1_order) (maxL := 4) (ret := (some .int)) (by decide) rfl ?_
  intro p e s m args below meth c s₁ B hml hv
  obtain ⟨rfl, hsz, hP, hK, hD0⟩ := hv
  have hx := B.exec
  have hb := B.bytes
  have hr := B.returns
  have hts := atoms_spec (ws := wzX1_order) B.pre
  have hown : s.vm.findClass RX1 = some m.cls := findClass_of_methodNamed B.named
  have hlocks := B.notSynchronized
  subst hsz
  have hD := hD0.self (sz := s.heap.size)
  generalize hAe : va_A (zm_w cA mo th k (zk_n k) (zk_t k) F fa fb fc fd ++ wr) s.heap.size = A at hD ⊢
  have hA : ∀ q : Nat, s.heap.size ≤ q → A q := fun q h => by rw [← hAe]; exact Or.inr h
  have hS : va_S A s.heap s.heap [] := va_S.rf
  have hl := lv_entry ([.ref (mo 0), .int (nI (x1))]) (n := 4) (Nat.le_of_ble_eq_true rfl)
  rw [lg_entry_eq]
  generalize (lg_sl ([.ref (mo 0), .int (nI (x1))]) ++ List.replicate (4 - (lg_sl ([.ref (mo 0), .int (nI (x1))])).length) Slot.unset).toArray = ls at hl ⊢
  have hl : lv_has ls 4 [(0, .ref (mo 0)), (1, .int (nI (x1)))] := hl
  obtain ⟨hb1, hb2, hb3, hb4, hb5, hb6, hb7, hb8⟩ := zk_b k hk
  refine lv_aload_n hx hb dX1_order_0 rfl (lv_at hl 0 rfl) ?_
  refine lv_iload_n hx hb dX1_order_1 rfl (lv_at hl 1 rfl) ?_
  refine zr_callq (zx_runS (As := [.int (nI (x1))]) (rest := [.ref (mo 0)]) hx hb hml hts hown (cm_none0 l (dC, dI) zz_cl ((cA, .int) :: tr) (zm_w cA mo th k (zk_n k) (zk_t k) F fa fb fc fd ++ wr) x1 (by omega)) zu_X1_46 rfl rfl ⟨Nat.le_of_ble_eq_true rfl, Nat.le_of_ble_eq_true rfl⟩ (zr_preS hP hK) rfl hl.1 rfl (Nat.le_of_ble_eq_true rfl) dX1_order_2 ⟨Nat.zero_le _, Nat.zero_le _⟩) ?_
  refine zr_ifeq (tgt := 12) hx hb dX1_order_5 (by decide) (by omega) (fun _ => ?_) (fun hno9 => absurd hno9 (by omega))
  refine lv_iconst (v := nI 0) hx hb dX1_order_12 (by decide) ?_
  refine zx_put1 (ws' := (zm_w cA mo 0 k (zk_n k) (zk_t k) F fa fb fc fd ++ wr)) hx hb hts hown hK hP hD hS 0 rfl 0 (by decide) zf_X1_32 rfl (by decide +kernel) (Nat.le_of_ble_eq_true rfl) dX1_order_13 rfl (fun H locs hP hD hS => ?_)
  refine lv_aload_n hx hb dX1_order_16 rfl (lv_at hl 0 rfl) ?_
  refine zx_get1 (v := .int (nI (0))) hx hb hts hown hK hP 0 rfl 0 (by decide) zf_X1_32 rfl dX1_order_17 ?_
  refine zr_ifle (tgt := 25) hx hb dX1_order_20 (by decide) (by omega) (fun _ => ?_) (fun hno9 => absurd hno9 (by omega))
  refine lv_aload_n hx hb dX1_order_25 rfl (lv_at hl 0 rfl) ?_
  refine lv_iload_n hx hb dX1_order_26 rfl (lv_at hl 1 rfl) ?_
  refine lv_aload_n hx hb dX1_order_27 rfl (lv_at hl 0 rfl) ?_
  refine zx_get1 (v := .ref (mo 2)) hx hb hts hown hK hP 0 rfl 5 (by decide) zf_X1_20 rfl dX1_order_28 ?_
  refine zw_callv (w' := fun u : Nat → Nat => zm_w cA mo 0 k (zk_n k) (zk_t k) F u fb fc fd ++ wr) hD hS hA (zx_runV (As := [.int (nI (x1)), .ref (mo 2)]) (rest := []) hx hb hml hts hown (cm_take2 l dC dI cA tr wr mo 0 k F fa fb fc fd hk H.size x1 (by omega)) zv_X1_62 rfl rfl ⟨Nat.le_of_ble_eq_true rfl, Nat.le_of_ble_eq_true rfl⟩ (zw_preV (q := (RX1, TM1, 9)) (ci := 1) (q0 := 0) hP hK hD rfl rfl) rfl hl.1 rfl (Nat.le_of_ble_eq_true rfl) dX1_order_31 ⟨Nat.zero_le _, Nat.zero_le _⟩) (fun ua H locs hua hP hD hS => ?_)
  have hlua : ∀ j, j < zk_n k → ua j < zk_t k := fun j hj => by rw [hua j hj]; exact hF x1 j (by omega) hj
  refine lv_aload_n hx hb dX1_order_34 rfl (lv_at hl 0 rfl) ?_
  refine lv_aload_n hx hb dX1_order_35 rfl (lv_at hl 0 rfl) ?_
  refine zx_get1 (v := .ref (mo 2)) hx hb hts hown hK hP 0 rfl 5 (by decide) zf_X1_20 rfl dX1_order_36 ?_
  refine zr_callq (zx_runV (As := [.ref (mo 2)]) (rest := []) hx hb hml hts hown (cm_zeros l dC dI cA tr wr mo 0 k F ua fb fc fd hk 2 (mo 2) ua rfl hlua) zv_X1_77 rfl rfl ⟨Nat.le_of_ble_eq_true rfl, Nat.le_of_ble_eq_true rfl⟩ (zr_preV (q := (RX1, TM1, 9)) (ci := 1) (q0 := 0) hP hK rfl rfl) rfl hl.1 rfl (Nat.le_of_ble_eq_true rfl) dX1_order_39 ⟨Nat.zero_le _, Nat.zero_le _⟩) ?_
  have hzc9 := zq_zc_le (zq_av k ua) (zk_n k)
  have hAv : ∀ i, zq_av k ua i = zq_av k (zq_rw F x1) i := fun i => zq_av_congr hua i
  have hza : zq_zc (zq_av k ua) (zk_n k) = zq_zc (zq_av k (zq_rw F x1)) (zk_n k) := zq_zc_congr (fun i hi => hAv i)
  refine zr_ifle (tgt := 47) hx hb dX1_order_42 (by decide) (by omega) (fun _ => ?_) (fun hno9 => absurd hno9 (by omega))
  refine lv_aload_n hx hb dX1_order_47 rfl (lv_at hl 0 rfl) ?_
  refine lv_iload_n hx hb dX1_order_48 rfl (lv_at hl 1 rfl) ?_
  refine lv_aload_n hx hb dX1_order_49 rfl (lv_at hl 0 rfl) ?_
  refine zx_get1 (v := .ref (mo 3)) hx hb hts hown hK hP 0 rfl 6 (by decide) zf_X1_23 rfl dX1_order_50 ?_
  refine zw_callv (w' := fun u : Nat → Nat => zm_w cA mo 0 k (zk_n k) (zk_t k) F ua u fc fd ++ wr) hD hS hA (zx_runV (As := [.int (nI (x1)), .ref (mo 3)]) (rest := []) hx hb hml hts hown (cm_take3 l dC dI cA tr wr mo 0 k F ua fb fc fd hk H.size x1 (by omega)) zv_X1_62 rfl rfl ⟨Nat.le_of_ble_eq_true rfl, Nat.le_of_ble_eq_true rfl⟩ (zw_preV (q := (RX1, TM1, 9)) (ci := 1) (q0 := 0) hP hK hD rfl rfl) rfl hl.1 rfl (Nat.le_of_ble_eq_true rfl) dX1_order_53 ⟨Nat.zero_le _, Nat.zero_le _⟩) (fun ub H locs hub hP hD hS => ?_)
  have hlub : ∀ j, j < zk_n k → ub j < zk_t k := fun j hj => by rw [hub j hj]; exact hF x1 j (by omega) hj
  refine lv_iconst (v := nI 1) hx hb dX1_order_56 (by decide) ?_
  refine lv_istore_n (lv' := [(2, .int (nI (1))), (0, .ref (mo 0)), (1, .int (nI (x1)))]) hx hb dX1_order_57 rfl hl (by decide) rfl (fun ls hl => ?_)
  have main : ∀ (d m9 : Nat), m9 + d = m0 → 1 ≤ m9 → ∀ (Gb Gc : Nat → Nat), (∀ j, j < zk_n k → Gb j < zk_t k) → (∀ i, i < zk_n k → zq_av k Gb i = zq_av k (zq_rw F x1) i ^ m9 % zk_t k) → ∀ (H : Heap) (locs : List Loc), va_P (dC, dI) zz_cl (zm_w cA mo 0 k (zk_n k) (zk_t k) F ua Gb Gc fd ++ wr) H → va_D A (zm_w cA mo 0 k (zk_n k) (zk_t k) F ua Gb Gc fd ++ wr) → va_S A s.heap H locs → ∀ ls, lv_has ls 4 [(0, .ref (mo 0)), (1, .int (nI (x1))), (2, .int (nI (m9)))] → W p l e (headSpec wzX1_order (k2_rm 4 93)).room s m ([.ref (mo 0), .int (nI (x1))] : List Value).toArray below meth c H locs 0 0 (MQ below (va_Qi (fun r (u : zq_U) => r = nI m0 ∧ u.1 = F) (zw_at (dC, dI) zz_cl ((cA, .int) :: tr) A (fun u : zq_U => zm_w cA mo 0 k (zk_n k) (zk_t k) u.1 u.2.1 u.2.2.1 u.2.2.2.1 u.2.2.2.2 ++ wr)) A) ([.ref (mo 0), .int (nI (x1))] : List Value).toArray s 0 0 A) (F0 m 58 ls []) := by
    intro d
    induction d with
    | zero =>
      intro m9 hm9 h19 Gb Gc hlGb hvGb H locs hP hD hS ls hl
      have hm8 : m9 = m0 := by omega
      subst hm8
      refine lv_aload_n hx hb dX1_order_58 rfl (lv_at hl 0 rfl) ?_
      refine zr_callq (zx_runV (As := []) (rest := []) hx hb hml hts hown (cm_one l dC dI cA tr wr mo 0 k F ua Gb Gc fd hk hlGb) zv_X1_100 rfl rfl ⟨Nat.le_of_ble_eq_true rfl, Nat.le_of_ble_eq_true rfl⟩ (zr_preV (q := (RX1, TM1, 9)) (ci := 1) (q0 := 0) hP hK rfl rfl) rfl hl.1 rfl (Nat.le_of_ble_eq_true rfl) dX1_order_59 ⟨Nat.zero_le _, Nat.zero_le _⟩) ?_
      have hon := zq_on_lt Gb (zk_n k - 1)
      have h11 : zq_on Gb (zk_n k - 1) = 1 := (zq_on_av hk hlGb).mpr (fun i hi => by rw [hvGb i hi]; exact hend i hi)
      refine zr_ifne (tgt := 111) hx hb dX1_order_62 (by decide) (by omega) (fun _ => ?_) (fun hno9 => absurd hno9 (by omega))
      refine lv_iload_n hx hb dX1_order_111 rfl (lv_at hl 2 rfl) ?_
      exact W.iret (v := nI m9) hx hb hr (fun t9 h9 hW9 => ⟨⟨nI m9, (F, ua, Gb, Gc, fd), rfl, ⟨rfl, rfl⟩, by rw [h9]; exact hP, va_K.moved hW9.alike hK, hD⟩, hS.F h9⟩) hS.2.2 dX1_order_112
    | succ d ih =>
      intro m9 hm9 h19 Gb Gc hlGb hvGb H locs hP hD hS ls hl
      refine lv_aload_n hx hb dX1_order_58 rfl (lv_at hl 0 rfl) ?_
      refine zr_callq (zx_runV (As := []) (rest := []) hx hb hml hts hown (cm_one l dC dI cA tr wr mo 0 k F ua Gb Gc fd hk hlGb) zv_X1_100 rfl rfl ⟨Nat.le_of_ble_eq_true rfl, Nat.le_of_ble_eq_true rfl⟩ (zr_preV (q := (RX1, TM1, 9)) (ci := 1) (q0 := 0) hP hK rfl rfl) rfl hl.1 rfl (Nat.le_of_ble_eq_true rfl) dX1_order_59 ⟨Nat.zero_le _, Nat.zero_le _⟩) ?_
      have hon := zq_on_lt Gb (zk_n k - 1)
      have h11 : ¬ zq_on Gb (zk_n k - 1) = 1 := fun hh => hlt m9 h19 (by omega) (fun i hi => by rw [← hvGb i hi]; exact (zq_on_av hk hlGb).mp hh i hi)
      refine zr_ifne (tgt := 111) hx hb dX1_order_62 (by decide) (by omega) (fun hno9 => absurd hno9 (by omega)) (fun _ => ?_)
      refine lv_aload_n hx hb dX1_order_65 rfl (lv_at hl 0 rfl) ?_
      refine lv_aload_n hx hb dX1_order_66 rfl (lv_at hl 0 rfl) ?_
      refine zx_get1 (v := .ref (mo 3)) hx hb hts hown hK hP 0 rfl 6 (by decide) zf_X1_23 rfl dX1_order_67 ?_
      refine lv_aload_n hx hb dX1_order_70 rfl (lv_at hl 0 rfl) ?_
      refine zx_get1 (v := .ref (mo 2)) hx hb hts hown hK hP 0 rfl 5 (by decide) zf_X1_20 rfl dX1_order_71 ?_
      refine zw_callv (w' := fun u : Nat → Nat => zm_w cA mo 0 k (zk_n k) (zk_t k) F ua Gb u fd ++ wr) hD hS hA (zx_runV (As := [.ref (mo 3), .ref (mo 2)]) (rest := []) hx hb hml hts hown (cm_times32 l dC dI cA tr wr mo 0 k F ua Gb Gc fd hk H.size hlGb hlua) zv_X1_73 rfl rfl ⟨Nat.le_of_ble_eq_true rfl, Nat.le_of_ble_eq_true rfl⟩ (zw_preV (q := (RX1, TM1, 9)) (ci := 1) (q0 := 0) hP hK hD rfl rfl) rfl hl.1 rfl (Nat.le_of_ble_eq_true rfl) dX1_order_74 ⟨Nat.zero_le _, Nat.zero_le _⟩) (fun uc H locs huc hP hD hS => ?_)
      refine lv_iconst (v := nI 0) hx hb dX1_order_77 (by decide) ?_
      refine lv_istore_n (lv' := [(3, .int (nI (0))), (0, .ref (mo 0)), (1, .int (nI (x1))), (2, .int (nI (m9)))]) hx hb dX1_order_78 rfl hl (by decide) rfl (fun ls hl => ?_)
      have loop : ∀ (d2 i : Nat), i + d2 = zk_n k → ∀ (G2 : Nat → Nat), (∀ j, j < i → G2 j = uc j) → ∀ (H : Heap) (locs : List Loc), va_P (dC, dI) zz_cl (zm_w cA mo 0 k (zk_n k) (zk_t k) F ua G2 uc fd ++ wr) H → va_D A (zm_w cA mo 0 k (zk_n k) (zk_t k) F ua G2 uc fd ++ wr) → va_S A s.heap H locs → ∀ ls, lv_has ls 4 [(0, .ref (mo 0)), (1, .int (nI (x1))), (2, .int (nI (m9))), (3, .int (nI (i)))] → W p l e (headSpec wzX1_order (k2_rm 4 93)).room s m ([.ref (mo 0), .int (nI (x1))] : List Value).toArray below meth c H locs 0 0 (MQ below (va_Qi (fun r (u : zq_U) => r = nI m0 ∧ u.1 = F) (zw_at (dC, dI) zz_cl ((cA, .int) :: tr) A (fun u : zq_U => zm_w cA mo 0 k (zk_n k) (zk_t k) u.1 u.2.1 u.2.2.1 u.2.2.2.1 u.2.2.2.2 ++ wr)) A) ([.ref (mo 0), .int (nI (x1))] : List Value).toArray s 0 0 A) (F0 m 79 ls []) := by
        intro d2
        induction d2 with
        | zero =>
          intro i hi G2 hinv H locs hP hD hS ls hl
          have hi : i = zk_n k := by omega
          rw [hi] at hinv
          refine lv_iload_n hx hb dX1_order_79 rfl (lv_at hl 3 rfl) ?_
          refine lv_aload_n hx hb dX1_order_80 rfl (lv_at hl 0 rfl) ?_
          refine zx_get1 (v := .int (nI (zk_n k))) hx hb hts hown hK hP 0 rfl 2 (by decide) zf_X1_7 rfl dX1_order_81 ?_
          refine zr_ige (tgt := 105) hx hb dX1_order_84 (by decide) (by omega) (by omega) (fun _ => ?_) (fun hno9 => absurd hno9 (by omega))
          refine zr_iinc (k := 2) (lv' := [(2, .int (nI (m9 + 1))), (0, .ref (mo 0)), (1, .int (nI (x1))), (3, .int (nI (i)))]) hx hb dX1_order_105 hl rfl (by decide) rfl (fun ls hl => ?_)
          refine lv_goto (tgt := 58) hx hb dX1_order_108 (by decide) ?_
          have hG2 : ∀ j, j < zk_n k → G2 j = zq_tm k Gb ua j := fun j hj => (hinv j hj).trans (huc j hj)
          refine ih (m9 + 1) (by omega) (by omega) G2 uc (fun j hj => by rw [hG2 j hj]; exact zq_tm_lt hk _ _ _) (fun i9 hi9 => ?_) H locs hP hD hS ls (lv_sub hl [1, 2, 0] rfl)
          rw [zq_av_congr hG2, zq_av_tm hk _ _ hi9, hvGb i9 hi9, hAv, zq_rs]
        | succ d2 ih9 =>
          intro i hi G2 hinv H locs hP hD hS ls hl
          refine lv_iload_n hx hb dX1_order_79 rfl (lv_at hl 3 rfl) ?_
          refine lv_aload_n hx hb dX1_order_80 rfl (lv_at hl 0 rfl) ?_
          refine zx_get1 (v := .int (nI (zk_n k))) hx hb hts hown hK hP 0 rfl 2 (by decide) zf_X1_7 rfl dX1_order_81 ?_
          refine zr_ige (tgt := 105) hx hb dX1_order_84 (by decide) (by omega) (by omega) (fun hno9 => absurd hno9 (by omega)) (fun _ => ?_)
          refine lv_aload_n hx hb dX1_order_87 rfl (lv_at hl 0 rfl) ?_
          refine zx_get1 (v := .ref (mo 3)) hx hb hts hown hK hP 0 rfl 6 (by decide) zf_X1_23 rfl dX1_order_88 ?_
          refine lv_iload_n hx hb dX1_order_91 rfl (lv_at hl 3 rfl) ?_
          refine lv_aload_n hx hb dX1_order_92 rfl (lv_at hl 0 rfl) ?_
          refine zx_get1 (v := .ref (mo 4)) hx hb hts hown hK hP 0 rfl 7 (by decide) zf_X1_26 rfl dX1_order_93 ?_
          refine lv_iload_n hx hb dX1_order_96 rfl (lv_at hl 3 rfl) ?_
          refine zr_iald (y := uc i) hx hb hK hP 4 0 rfl rfl (by omega) (by decide) rfl dX1_order_97 ?_
          refine zr_iast (ws' := (zm_w cA mo 0 k (zk_n k) (zk_t k) F ua (zq_up G2 i (uc i)) uc fd ++ wr)) hx hb hK hP hD hS 3 0 rfl rfl (by omega) (by decide) dX1_order_98 rfl (fun H locs hP hD hS => ?_)
          refine zr_iinc (k := 3) (lv' := [(3, .int (nI (i + 1))), (0, .ref (mo 0)), (1, .int (nI (x1))), (2, .int (nI (m9)))]) hx hb dX1_order_99 hl rfl (by decide) rfl (fun ls hl => ?_)
          refine lv_goto (tgt := 79) hx hb dX1_order_102 (by decide) ?_
          refine ih9 (i + 1) (by omega) _ (fun j hj => ?_) H locs hP hD hS ls (lv_sub hl [1, 2, 3, 0] rfl)
          by_cases e9 : j = i
          · rw [e9, zq_up_s]
          · rw [zq_up_n _ _ e9]; exact hinv j (by omega)
      exact loop (zk_n k) 0 (by omega) Gb (fun j hj => absurd hj (Nat.not_lt_zero _)) H locs hP hD hS ls (lv_sub hl [1, 2, 3, 0] rfl)
  exact main (m0 - 1) 1 (by omega) (by omega) ub fc hlub (fun i hi => by rw [zq_av_congr hub, Nat.pow_one, Nat.mod_eq_of_lt (zq_av_lt hk _ _)]; rfl) H locs hP hD hS ls (lv_sub hl [1, 2, 0] rfl)
set_option maxHeartbeats 4000000 in
set_option maxRecDepth 100000 in
/-- X1_same -/
theorem cm_same_r1 (l : Launch) (dC : Nat → ClassId) (dI : Nat → Nat → Nat) (cA : ClassId) (tr : List (ClassId × FieldType)) (wr : va_W) (mo : Nat → Nat) (th k : Nat) (F fa fb fc fd : Nat → Nat) (hk : k < 4) (sz : Nat) (x1 : Int32) (x2 : Int32) (hbad : x1 < 0 ∨ nI 16 ≤ x1) : Met l yX1_same wzX1_same (k2_rm 1 20) (zw_pre (dC, dI) zz_cl ((cA, .int) :: tr) (zm_w cA mo th k (zk_n k) (zk_t k) F fa fb fc fd ++ wr) sz [.ref (mo 0), .int (x1), .int (x2)]) (va_Qi (fun r (u : zq_U) => r = nI 0 ∧ u.1 = F) (zw_at (dC, dI) zz_cl ((cA, .int) :: tr) (va_A (zm_w cA mo th k (zk_n k) (zk_t k) F fa fb fc fd ++ wr) sz) (fun u : zq_U => zm_w cA mo 1 k (zk_n k) (zk_t k) u.1 u.2.1 u.2.2.1 u.2.2.2.1 u.2.2.2.2 ++ wr)) (va_A (zm_w cA mo th k (zk_n k) (zk_t k) F fa fb fc fd ++ wr) sz)) 0 0 (va_A (zm_w cA mo th k (zk_n k) (zk_t k) F fa fb fc fd ++ wr) sz) := by
  refine Met.ofW (cc := cX1_same) (maxL := 4) (ret := (some .boolean)) (by decide) rfl ?_
  intro p e s m args below meth c s₁ B hml hv
  obtain ⟨rfl, hsz, hP, hK, hD0⟩ := hv
  have hx := B.exec
  have hb := B.bytes
  have hr := B.returns
  have hts := atoms_spec (ws := wzX1_same) B.pre
  have hown : s.vm.findClass RX1 = some m.cls := findClass_of_methodNamed B.named
  have hlocks := B.notSynchronized
  subst hsz
  have hD := hD0.self (sz := s.heap.size)
  generalize hAe : va_A (zm_w cA mo th k (zk_n k) (zk_t k) F fa fb fc fd ++ wr) s.heap.size = A at hD ⊢
  have hA : ∀ q : Nat, s.heap.size ≤ q → A q := fun q h => by rw [← hAe]; exact Or.inr h
  have hS : va_S A s.heap s.heap [] := va_S.rf
  have hl := lv_entry ([.ref (mo 0), .int (x1), .int (x2)]) (n := 4) (Nat.le_of_ble_eq_true rfl)
  rw [lg_entry_eq]
  generalize (lg_sl ([.ref (mo 0), .int (x1), .int (x2)]) ++ List.replicate (4 - (lg_sl ([.ref (mo 0), .int (x1), .int (x2)])).length) Slot.unset).toArray = ls at hl ⊢
  have hl : lv_has ls 4 [(0, .ref (mo 0)), (1, .int (x1)), (2, .int (x2))] := hl
  obtain ⟨hb1, hb2, hb3, hb4, hb5, hb6, hb7, hb8⟩ := zk_b k hk
  refine lv_aload_n hx hb dX1_same_0 rfl (lv_at hl 0 rfl) ?_
  refine lv_iload_n hx hb dX1_same_1 rfl (lv_at hl 1 rfl) ?_
  refine zr_callq (zx_runS (As := [.int (x1)]) (rest := [.ref (mo 0)]) hx hb hml hts hown (cm_none1 l (dC, dI) zz_cl ((cA, .int) :: tr) (zm_w cA mo th k (zk_n k) (zk_t k) F fa fb fc fd ++ wr) x1 hbad) zu_X1_46 rfl rfl ⟨Nat.le_of_ble_eq_true rfl, Nat.le_of_ble_eq_true rfl⟩ (zr_preS hP hK) rfl hl.1 rfl (Nat.le_of_ble_eq_true rfl) dX1_same_2 ⟨Nat.zero_le _, Nat.zero_le _⟩) ?_
  refine zr_ifne (tgt := 15) hx hb dX1_same_5 (by decide) (by omega) (fun _ => ?_) (fun hno9 => absurd hno9 (by omega))
  refine lv_iconst (v := nI 1) hx hb dX1_same_15 (by decide) ?_
  refine lv_goto (tgt := 20) hx hb dX1_same_16 (by decide) ?_
  refine zx_put1 (ws' := (zm_w cA mo 1 k (zk_n k) (zk_t k) F fa fb fc fd ++ wr)) hx hb hts hown hK hP hD hS 0 rfl 0 (by decide) zf_X1_32 rfl (by decide +kernel) (Nat.le_of_ble_eq_true rfl) dX1_same_20 rfl (fun H locs hP hD hS => ?_)
  refine lv_aload_n hx hb dX1_same_23 rfl (lv_at hl 0 rfl) ?_
  refine zx_get1 (v := .int (nI (1))) hx hb hts hown hK hP 0 rfl 0 (by decide) zf_X1_32 rfl dX1_same_24 ?_
  refine zr_ifle (tgt := 32) hx hb dX1_same_27 (by decide) (by omega) (fun hno9 => absurd hno9 (by omega)) (fun _ => ?_)
  refine lv_iconst (v := nI 0) hx hb dX1_same_30 (by decide) ?_
  exact W.zret (v := nI 0) hx hb hr (rfl) (fun t9 h9 hW9 => ⟨⟨nI 0, (F, fa, fb, fc, fd), rfl, ⟨rfl, rfl⟩, by rw [h9]; exact hP, va_K.moved hW9.alike hK, hD⟩, hS.F h9⟩) hS.2.2 dX1_same_31
set_option maxHeartbeats 4000000 in
set_option maxRecDepth 100000 in
/-- X1_same -/
theorem cm_same_r2 (l : Launch) (dC : Nat → ClassId) (dI : Nat → Nat → Nat) (cA : ClassId) (tr : List (ClassId × FieldType)) (wr : va_W) (mo : Nat → Nat) (th k : Nat) (F fa fb fc fd : Nat → Nat) (hk : k < 4) (sz : Nat) (x1 : Nat) (hx1 : x1 < 16) (x2 : Int32) (hbad : x2 < 0 ∨ nI 16 ≤ x2) : Met l yX1_same wzX1_same (k2_rm 1 20) (zw_pre (dC, dI) zz_cl ((cA, .int) :: tr) (zm_w cA mo th k (zk_n k) (zk_t k) F fa fb fc fd ++ wr) sz [.ref (mo 0), .int (nI (x1)), .int (x2)]) (va_Qi (fun r (u : zq_U) => r = nI 0 ∧ u.1 = F) (zw_at (dC, dI) zz_cl ((cA, .int) :: tr) (va_A (zm_w cA mo th k (zk_n k) (zk_t k) F fa fb fc fd ++ wr) sz) (fun u : zq_U => zm_w cA mo 1 k (zk_n k) (zk_t k) u.1 u.2.1 u.2.2.1 u.2.2.2.1 u.2.2.2.2 ++ wr)) (va_A (zm_w cA mo th k (zk_n k) (zk_t k) F fa fb fc fd ++ wr) sz)) 0 0 (va_A (zm_w cA mo th k (zk_n k) (zk_t k) F fa fb fc fd ++ wr) sz) := by
  refine Met.ofW (cc := cX1_same) (maxL := 4) (ret := (some .boolean)) (by decide) rfl ?_
  intro p e s m args below meth c s₁ B hml hv
  obtain ⟨rfl, hsz, hP, hK, hD0⟩ := hv
  have hx := B.exec
  have hb := B.bytes
  have hr := B.returns
  have hts := atoms_spec (ws := wzX1_same) B.pre
  have hown : s.vm.findClass RX1 = some m.cls := findClass_of_methodNamed B.named
  have hlocks := B.notSynchronized
  subst hsz
  have hD := hD0.self (sz := s.heap.size)
  generalize hAe : va_A (zm_w cA mo th k (zk_n k) (zk_t k) F fa fb fc fd ++ wr) s.heap.size = A at hD ⊢
  have hA : ∀ q : Nat, s.heap.size ≤ q → A q := fun q h => by rw [← hAe]; exact Or.inr h
  have hS : va_S A s.heap s.heap [] := va_S.rf
  have hl := lv_entry ([.ref (mo 0), .int (nI (x1)), .int (x2)]) (n := 4) (Nat.le_of_ble_eq_true rfl)
  rw [lg_entry_eq]
  generalize (lg_sl ([.ref (mo 0), .int (nI (x1)), .int (x2)]) ++ List.replicate (4 - (lg_sl ([.ref (mo 0), .int (nI (x1)), .int (x2)])).length) Slot.unset).toArray = ls at hl ⊢
  have hl : lv_has ls 4 [(0, .ref (mo 0)), (1, .int (nI (x1))), (2, .int (x2))] := hl
  obtain ⟨hb1, hb2, hb3, hb4, hb5, hb6, hb7, hb8⟩ := zk_b k hk
  refine lv_aload_n hx hb dX1_same_0 rfl (lv_at hl 0 rfl) ?_
  refine lv_iload_n hx hb dX1_same_1 rfl (lv_at hl 1 rfl) ?_
  refine zr_callq (zx_runS (As := [.int (nI (x1))]) (rest := [.ref (mo 0)]) hx hb hml hts hown (cm_none0 l (dC, dI) zz_cl ((cA, .int) :: tr) (zm_w cA mo th k (zk_n k) (zk_t k) F fa fb fc fd ++ wr) x1 (by omega)) zu_X1_46 rfl rfl ⟨Nat.le_of_ble_eq_true rfl, Nat.le_of_ble_eq_true rfl⟩ (zr_preS hP hK) rfl hl.1 rfl (Nat.le_of_ble_eq_true rfl) dX1_same_2 ⟨Nat.zero_le _, Nat.zero_le _⟩) ?_
  refine zr_ifne (tgt := 15) hx hb dX1_same_5 (by decide) (by omega) (fun hno9 => absurd hno9 (by omega)) (fun _ => ?_)
  refine lv_iload_n hx hb dX1_same_8 rfl (lv_at hl 2 rfl) ?_
  refine zr_callq (zx_runS (As := [.int (x2)]) (rest := [.ref (mo 0)]) hx hb hml hts hown (cm_none1 l (dC, dI) zz_cl ((cA, .int) :: tr) (zm_w cA mo th k (zk_n k) (zk_t k) F fa fb fc fd ++ wr) x2 hbad) zu_X1_46 rfl rfl ⟨Nat.le_of_ble_eq_true rfl, Nat.le_of_ble_eq_true rfl⟩ (zr_preS hP hK) rfl hl.1 rfl (Nat.le_of_ble_eq_true rfl) dX1_same_9 ⟨Nat.zero_le _, Nat.zero_le _⟩) ?_
  refine zr_ifeq (tgt := 19) hx hb dX1_same_12 (by decide) (by omega) (fun hno9 => absurd hno9 (by omega)) (fun _ => ?_)
  refine lv_iconst (v := nI 1) hx hb dX1_same_15 (by decide) ?_
  refine lv_goto (tgt := 20) hx hb dX1_same_16 (by decide) ?_
  refine zx_put1 (ws' := (zm_w cA mo 1 k (zk_n k) (zk_t k) F fa fb fc fd ++ wr)) hx hb hts hown hK hP hD hS 0 rfl 0 (by decide) zf_X1_32 rfl (by decide +kernel) (Nat.le_of_ble_eq_true rfl) dX1_same_20 rfl (fun H locs hP hD hS => ?_)
  refine lv_aload_n hx hb dX1_same_23 rfl (lv_at hl 0 rfl) ?_
  refine zx_get1 (v := .int (nI (1))) hx hb hts hown hK hP 0 rfl 0 (by decide) zf_X1_32 rfl dX1_same_24 ?_
  refine zr_ifle (tgt := 32) hx hb dX1_same_27 (by decide) (by omega) (fun hno9 => absurd hno9 (by omega)) (fun _ => ?_)
  refine lv_iconst (v := nI 0) hx hb dX1_same_30 (by decide) ?_
  exact W.zret (v := nI 0) hx hb hr (rfl) (fun t9 h9 hW9 => ⟨⟨nI 0, (F, fa, fb, fc, fd), rfl, ⟨rfl, rfl⟩, by rw [h9]; exact hP, va_K.moved hW9.alike hK, hD⟩, hS.F h9⟩) hS.2.2 dX1_same_31
set_option maxHeartbeats 4000000 in
set_option maxRecDepth 100000 in
/-- X1_divides -/
theorem cm_divides_r1 (l : Launch) (dC : Nat → ClassId) (dI : Nat → Nat → Nat) (cA : ClassId) (tr : List (ClassId × FieldType)) (wr : va_W) (mo : Nat → Nat) (th k : Nat) (F fa fb fc fd : Nat → Nat) (hk : k < 4) (sz : Nat) (x1 : Int32) (x2 : Int32) (hbad : x1 < 0 ∨ nI 16 ≤ x1) : Met l yX1_divides wzX1_divides (k2_rm 1 20) (zw_pre (dC, dI) zz_cl ((cA, .int) :: tr) (zm_w cA mo th k (zk_n k) (zk_t k) F fa fb fc fd ++ wr) sz [.ref (mo 0), .int (x1), .int (x2)]) (va_Qi (fun r (u : zq_U) => r = nI 0 ∧ u.1 = F) (zw_at (dC, dI) zz_cl ((cA, .int) :: tr) (va_A (zm_w cA mo th k (zk_n k) (zk_t k) F fa fb fc fd ++ wr) sz) (fun u : zq_U => zm_w cA mo 1 k (zk_n k) (zk_t k) u.1 u.2.1 u.2.2.1 u.2.2.2.1 u.2.2.2.2 ++ wr)) (va_A (zm_w cA mo th k (zk_n k) (zk_t k) F fa fb fc fd ++ wr) sz)) 0 0 (va_A (zm_w cA mo th k (zk_n k) (zk_t k) F fa fb fc fd ++ wr) sz) := by
  refine Met.ofW (cc := cX1_divides) (maxL := 4) (ret := (some .boolean)) (by decide) rfl ?_
  intro p e s m args below meth c s₁ B hml hv
  obtain ⟨rfl, hsz, hP, hK, hD0⟩ := hv
  have hx := B.exec
  have hb := B.bytes
  have hr := B.returns
  have hts := atoms_spec (ws := wzX1_divides) B.pre
  have hown : s.vm.findClass RX1 = some m.cls := findClass_of_methodNamed B.named
  have hlocks := B.notSynchronized
  subst hsz
  have hD := hD0.self (sz := s.heap.size)
  generalize hAe : va_A (zm_w cA mo th k (zk_n k) (zk_t k) F fa fb fc fd ++ wr) s.heap.size = A at hD ⊢
  have hA : ∀ q : Nat, s.heap.size ≤ q → A q := fun q h => by rw [← hAe]; exact Or.inr h
  have hS : va_S A s.heap s.heap [] := va_S.rf
  have hl := lv_entry ([.ref (mo 0), .int (x1), .int (x2)]) (n := 4) (Nat.le_of_ble_eq_true rfl)
  rw [lg_entry_eq]
  generalize (lg_sl ([.ref (mo 0), .int (x1), .int (x2)]) ++ List.replicate (4 - (lg_sl ([.ref (mo 0), .int (x1), .int (x2)])).length) Slot.unset).toArray = ls at hl ⊢
  have hl : lv_has ls 4 [(0, .ref (mo 0)), (1, .int (x1)), (2, .int (x2))] := hl
  obtain ⟨hb1, hb2, hb3, hb4, hb5, hb6, hb7, hb8⟩ := zk_b k hk
  refine lv_aload_n hx hb dX1_divides_0 rfl (lv_at hl 0 rfl) ?_
  refine lv_iload_n hx hb dX1_divides_1 rfl (lv_at hl 1 rfl) ?_
  refine zr_callq (zx_runS (As := [.int (x1)]) (rest := [.ref (mo 0)]) hx hb hml hts hown (cm_none1 l (dC, dI) zz_cl ((cA, .int) :: tr) (zm_w cA mo th k (zk_n k) (zk_t k) F fa fb fc fd ++ wr) x1 hbad) zu_X1_46 rfl rfl ⟨Nat.le_of_ble_eq_true rfl, Nat.le_of_ble_eq_true rfl⟩ (zr_preS hP hK) rfl hl.1 rfl (Nat.le_of_ble_eq_true rfl) dX1_divides_2 ⟨Nat.zero_le _, Nat.zero_le _⟩) ?_
  refine zr_ifne (tgt := 15) hx hb dX1_divides_5 (by decide) (by omega) (fun _ => ?_) (fun hno9 => absurd hno9 (by omega))
  refine lv_iconst (v := nI 1) hx hb dX1_divides_15 (by decide) ?_
  refine lv_goto (tgt := 20) hx hb dX1_divides_16 (by decide) ?_
  refine zx_put1 (ws' := (zm_w cA mo 1 k (zk_n k) (zk_t k) F fa fb fc fd ++ wr)) hx hb hts hown hK hP hD hS 0 rfl 0 (by decide) zf_X1_32 rfl (by decide +kernel) (Nat.le_of_ble_eq_true rfl) dX1_divides_20 rfl (fun H locs hP hD hS => ?_)
  refine lv_aload_n hx hb dX1_divides_23 rfl (lv_at hl 0 rfl) ?_
  refine zx_get1 (v := .int (nI (1))) hx hb hts hown hK hP 0 rfl 0 (by decide) zf_X1_32 rfl dX1_divides_24 ?_
  refine zr_ifle (tgt := 32) hx hb dX1_divides_27 (by decide) (by omega) (fun hno9 => absurd hno9 (by omega)) (fun _ => ?_)
  refine lv_iconst (v := nI 0) hx hb dX1_divides_30 (by decide) ?_
  exact W.zret (v := nI 0) hx hb hr (rfl) (fun t9 h9 hW9 => ⟨⟨nI 0, (F, fa, fb, fc, fd), rfl, ⟨rfl, rfl⟩, by rw [h9]; exact hP, va_K.moved hW9.alike hK, hD⟩, hS.F h9⟩) hS.2.2 dX1_divides_31
set_option maxHeartbeats 4000000 in
set_option maxRecDepth 100000 in
/-- X1_divides -/
theorem cm_divides_r2 (l : Launch) (dC : Nat → ClassId) (dI : Nat → Nat → Nat) (cA : ClassId) (tr : List (ClassId × FieldType)) (wr : va_W) (mo : Nat → Nat) (th k : Nat) (F fa fb fc fd : Nat → Nat) (hk : k < 4) (sz : Nat) (x1 : Nat) (hx1 : x1 < 16) (x2 : Int32) (hbad : x2 < 0 ∨ nI 16 ≤ x2) : Met l yX1_divides wzX1_divides (k2_rm 1 20) (zw_pre (dC, dI) zz_cl ((cA, .int) :: tr) (zm_w cA mo th k (zk_n k) (zk_t k) F fa fb fc fd ++ wr) sz [.ref (mo 0), .int (nI (x1)), .int (x2)]) (va_Qi (fun r (u : zq_U) => r = nI 0 ∧ u.1 = F) (zw_at (dC, dI) zz_cl ((cA, .int) :: tr) (va_A (zm_w cA mo th k (zk_n k) (zk_t k) F fa fb fc fd ++ wr) sz) (fun u : zq_U => zm_w cA mo 1 k (zk_n k) (zk_t k) u.1 u.2.1 u.2.2.1 u.2.2.2.1 u.2.2.2.2 ++ wr)) (va_A (zm_w cA mo th k (zk_n k) (zk_t k) F fa fb fc fd ++ wr) sz)) 0 0 (va_A (zm_w cA mo th k (zk_n k) (zk_t k) F fa fb fc fd ++ wr) sz) := by
  refine Met.ofW (cc := cX1_divides) (maxL := 4) (ret := (some .boolean)) (by decide) rfl ?_
  intro p e s m args below meth c s₁ B hml hv
  obtain ⟨rfl, hsz, hP, hK, hD0⟩ := hv
  have hx := B.exec
  have hb := B.bytes
  have hr := B.returns
  have hts := atoms_spec (ws := wzX1_divides) B.pre
  have hown : s.vm.findClass RX1 = some m.cls := findClass_of_methodNamed B.named
  have hlocks := B.notSynchronized
  subst hsz
  have hD := hD0.self (sz := s.heap.size)
  generalize hAe : va_A (zm_w cA mo th k (zk_n k) (zk_t k) F fa fb fc fd ++ wr) s.heap.size = A at hD ⊢
  have hA : ∀ q : Nat, s.heap.size ≤ q → A q := fun q h => by rw [← hAe]; exact Or.inr h
  have hS : va_S A s.heap s.heap [] := va_S.rf
  have hl := lv_entry ([.ref (mo 0), .int (nI (x1)), .int (x2)]) (n := 4) (Nat.le_of_ble_eq_true rfl)
  rw [lg_entry_eq]
  generalize (lg_sl ([.ref (mo 0), .int (nI (x1)), .int (x2)]) ++ List.replicate (4 - (lg_sl ([.ref (mo 0), .int (nI (x1)), .int (x2)])).length) Slot.unset).toArray = ls at hl ⊢
  have hl : lv_has ls 4 [(0, .ref (mo 0)), (1, .int (nI (x1))), (2, .int (x2))] := hl
  obtain ⟨hb1, hb2, hb3, hb4, hb5, hb6, hb7, hb8⟩ := zk_b k hk
  refine lv_aload_n hx hb dX1_divides_0 rfl (lv_at hl 0 rfl) ?_
  refine lv_iload_n hx hb dX1_divides_1 rfl (lv_at hl 1 rfl) ?_
  refine zr_callq (zx_runS (As := [.int (nI (x1))]) (rest := [.ref (mo 0)]) hx hb hml hts hown (cm_none0 l (dC, dI) zz_cl ((cA, .int) :: tr) (zm_w cA mo th k (zk_n k) (zk_t k) F fa fb fc fd ++ wr) x1 (by omega)) zu_X1_46 rfl rfl ⟨Nat.le_of_ble_eq_true rfl, Nat.le_of_ble_eq_true rfl⟩ (zr_preS hP hK) rfl hl.1 rfl (Nat.le_of_ble_eq_true rfl) dX1_divides_2 ⟨Nat.zero_le _, Nat.zero_le _⟩) ?_
  refine zr_ifne (tgt := 15) hx hb dX1_divides_5 (by decide) (by omega) (fun hno9 => absurd hno9 (by omega)) (fun _ => ?_)
  refine lv_iload_n hx hb dX1_divides_8 rfl (lv_at hl 2 rfl) ?_
  refine zr_callq (zx_runS (As := [.int (x2)]) (rest := [.ref (mo 0)]) hx hb hml hts hown (cm_none1 l (dC, dI) zz_cl ((cA, .int) :: tr) (zm_w cA mo th k (zk_n k) (zk_t k) F fa fb fc fd ++ wr) x2 hbad) zu_X1_46 rfl rfl ⟨Nat.le_of_ble_eq_true rfl, Nat.le_of_ble_eq_true rfl⟩ (zr_preS hP hK) rfl hl.1 rfl (Nat.le_of_ble_eq_true rfl) dX1_divides_9 ⟨Nat.zero_le _, Nat.zero_le _⟩) ?_
  refine zr_ifeq (tgt := 19) hx hb dX1_divides_12 (by decide) (by omega) (fun hno9 => absurd hno9 (by omega)) (fun _ => ?_)
  refine lv_iconst (v := nI 1) hx hb dX1_divides_15 (by decide) ?_
  refine lv_goto (tgt := 20) hx hb dX1_divides_16 (by decide) ?_
  refine zx_put1 (ws' := (zm_w cA mo 1 k (zk_n k) (zk_t k) F fa fb fc fd ++ wr)) hx hb hts hown hK hP hD hS 0 rfl 0 (by decide) zf_X1_32 rfl (by decide +kernel) (Nat.le_of_ble_eq_true rfl) dX1_divides_20 rfl (fun H locs hP hD hS => ?_)
  refine lv_aload_n hx hb dX1_divides_23 rfl (lv_at hl 0 rfl) ?_
  refine zx_get1 (v := .int (nI (1))) hx hb hts hown hK hP 0 rfl 0 (by decide) zf_X1_32 rfl dX1_divides_24 ?_
  refine zr_ifle (tgt := 32) hx hb dX1_divides_27 (by decide) (by omega) (fun hno9 => absurd hno9 (by omega)) (fun _ => ?_)
  refine lv_iconst (v := nI 0) hx hb dX1_divides_30 (by decide) ?_
  exact W.zret (v := nI 0) hx hb hr (rfl) (fun t9 h9 hW9 => ⟨⟨nI 0, (F, fa, fb, fc, fd), rfl, ⟨rfl, rfl⟩, by rw [h9]; exact hP, va_K.moved hW9.alike hK, hD⟩, hS.F h9⟩) hS.2.2 dX1_divides_31
set_option maxHeartbeats 4000000 in
set_option maxRecDepth 100000 in
/-- X1_same -/
theorem cm_same (l : Launch) (dC : Nat → ClassId) (dI : Nat → Nat → Nat) (cA : ClassId) (tr : List (ClassId × FieldType)) (wr : va_W) (mo : Nat → Nat) (th k : Nat) (F fa fb fc fd : Nat → Nat) (hk : k < 4) (sz : Nat) (x1 : Nat) (hx1 : x1 < 16) (x2 : Nat) (hx2 : x2 < 16) (hF : ∀ r j, r < 16 → j < zk_n k → F (32 * r + j) < zk_t k) : Met l yX1_same wzX1_same (k2_rm 1 20) (zw_pre (dC, dI) zz_cl ((cA, .int) :: tr) (zm_w cA mo th k (zk_n k) (zk_t k) F fa fb fc fd ++ wr) sz [.ref (mo 0), .int (nI (x1)), .int (nI (x2))]) (va_Qi (fun r (u : zq_U) => r = nI (zq_yn (∀ i, i < zk_n k → F (32 * x1 + i) = F (32 * x2 + i))) ∧ u.1 = F) (zw_at (dC, dI) zz_cl ((cA, .int) :: tr) (va_A (zm_w cA mo th k (zk_n k) (zk_t k) F fa fb fc fd ++ wr) sz) (fun u : zq_U => zm_w cA mo 0 k (zk_n k) (zk_t k) u.1 u.2.1 u.2.2.1 u.2.2.2.1 u.2.2.2.2 ++ wr)) (va_A (zm_w cA mo th k (zk_n k) (zk_t k) F fa fb fc fd ++ wr) sz)) 0 0 (va_A (zm_w cA mo th k (zk_n k) (zk_t k) F fa fb fc fd ++ wr) sz) := by
  refine Met.ofW (cc := cX1_same) (maxL := 4) (ret := (some .boolean)) (by decide) rfl ?_
  intro p e s m args below meth c s₁ B hml hv
  obtain ⟨rfl, hsz, hP, hK, hD0⟩ := hv
  have hx := B.exec
  have hb := B.bytes
  have hr := B.returns
  have hts := atoms_spec (ws := wzX1_same) B.pre
  have hown : s.vm.findClass RX1 = some m.cls := findClass_of_methodNamed B.named
  have hlocks := B.notSynchronized
  subst hsz
  have hD := hD0.self (sz := s.heap.size)
  generalize hAe : va_A (zm_w cA mo th k (zk_n k) (zk_t k) F fa fb fc fd ++ wr) s.heap.size = A at hD ⊢
  have hA : ∀ q : Nat, s.heap.size ≤ q → A q := fun q h => by rw [← hAe]; exact Or.inr h
  have hS : va_S A s.heap s.heap [] := va_S.rf
  have hl := lv_entry ([.ref (mo 0), .int (nI (x1)), .int (nI (x2))]) (n := 4) (Nat.le_of_ble_eq_true rfl)
  rw [lg_entry_eq]
  generalize (lg_sl ([.ref (mo 0), .int (nI (x1)), .int (nI (x2))]) ++ List.replicate (4 - (lg_sl ([.ref (mo 0), .int (nI (x1)), .int (nI (x2))])).length) Slot.unset).toArray = ls at hl ⊢
  have hl : lv_has ls 4 [(0, .ref (mo 0)), (1, .int (nI (x1))), (2, .int (nI (x2)))] := hl
  obtain ⟨hb1, hb2, hb3, hb4, hb5, hb6, hb7, hb8⟩ := zk_b k hk
  refine lv_aload_n hx hb dX1_same_0 rfl (lv_at hl 0 rfl) ?_
  refine lv_iload_n hx hb dX1_same_1 rfl (lv_at hl 1 rfl) ?_
  refine zr_callq (zx_runS (As := [.int (nI (x1))]) (rest := [.ref (mo 0)]) hx hb hml hts hown (cm_none0 l (dC, dI) zz_cl ((cA, .int) :: tr) (zm_w cA mo th k (zk_n k) (zk_t k) F fa fb fc fd ++ wr) x1 (by omega)) zu_X1_46 rfl rfl ⟨Nat.le_of_ble_eq_true rfl, Nat.le_of_ble_eq_true rfl⟩ (zr_preS hP hK) rfl hl.1 rfl (Nat.le_of_ble_eq_true rfl) dX1_same_2 ⟨Nat.zero_le _, Nat.zero_le _⟩) ?_
  refine zr_ifne (tgt := 15) hx hb dX1_same_5 (by decide) (by omega) (fun hno9 => absurd hno9 (by omega)) (fun _ => ?_)
  refine lv_iload_n hx hb dX1_same_8 rfl (lv_at hl 2 rfl) ?_
  refine zr_callq (zx_runS (As := [.int (nI (x2))]) (rest := [.ref (mo 0)]) hx hb hml hts hown (cm_none0 l (dC, dI) zz_cl ((cA, .int) :: tr) (zm_w cA mo th k (zk_n k) (zk_t k) F fa fb fc fd ++ wr) x2 (by omega)) zu_X1_46 rfl rfl ⟨Nat.le_of_ble_eq_true rfl, Nat.le_of_ble_eq_true rfl⟩ (zr_preS hP hK) rfl hl.1 rfl (Nat.le_of_ble_eq_true rfl) dX1_same_9 ⟨Nat.zero_le _, Nat.zero_le _⟩) ?_
  refine zr_ifeq (tgt := 19) hx hb dX1_same_12 (by decide) (by omega) (fun _ => ?_) (fun hno9 => absurd hno9 (by omega))
  refine lv_iconst (v := nI 0) hx hb dX1_same_19 (by decide) ?_
  refine zx_put1 (ws' := (zm_w cA mo 0 k (zk_n k) (zk_t k) F fa fb fc fd ++ wr)) hx hb hts hown hK hP hD hS 0 rfl 0 (by decide) zf_X1_32 rfl (by decide +kernel) (Nat.le_of_ble_eq_true rfl) dX1_same_20 rfl (fun H locs hP hD hS => ?_)
  refine lv_aload_n hx hb dX1_same_23 rfl (lv_at hl 0 rfl) ?_
  refine zx_get1 (v := .int (nI (0))) hx hb hts hown hK hP 0 rfl 0 (by decide) zf_X1_32 rfl dX1_same_24 ?_
  refine zr_ifle (tgt := 32) hx hb dX1_same_27 (by decide) (by omega) (fun _ => ?_) (fun hno9 => absurd hno9 (by omega))
  refine lv_iconst (v := nI 0) hx hb dX1_same_32 (by decide) ?_
  refine lv_istore_n (lv' := [(3, .int (nI (0))), (0, .ref (mo 0)), (1, .int (nI (x1))), (2, .int (nI (x2)))]) hx hb dX1_same_33 rfl hl (by decide) rfl (fun ls hl => ?_)
  have loop : ∀ (d i : Nat), i + d = zk_n k → (∀ j, j < i → F (32 * x1 + j) = F (32 * x2 + j)) → ∀ ls, lv_has ls 4 [(0, .ref (mo 0)), (1, .int (nI (x1))), (2, .int (nI (x2))), (3, .int (nI (i)))] → W p l e (headSpec wzX1_same (k2_rm 1 20)).room s m ([.ref (mo 0), .int (nI (x1)), .int (nI (x2))] : List Value).toArray below meth c H locs 0 0 (MQ below (va_Qi (fun r (u : zq_U) => r = nI (zq_yn (∀ i, i < zk_n k → F (32 * x1 + i) = F (32 * x2 + i))) ∧ u.1 = F) (zw_at (dC, dI) zz_cl ((cA, .int) :: tr) A (fun u : zq_U => zm_w cA mo 0 k (zk_n k) (zk_t k) u.1 u.2.1 u.2.2.1 u.2.2.2.1 u.2.2.2.2 ++ wr)) A) ([.ref (mo 0), .int (nI (x1)), .int (nI (x2))] : List Value).toArray s 0 0 A) (F0 m 34 ls []) := by
    intro d
    induction d with
    | zero =>
      intro i hi hinv ls hl
      have hi : i = zk_n k := by omega
      rw [hi] at hinv
      refine lv_iload_n hx hb dX1_same_34 rfl (lv_at hl 3 rfl) ?_
      refine lv_aload_n hx hb dX1_same_35 rfl (lv_at hl 0 rfl) ?_
      refine zx_get1 (v := .int (nI (zk_n k))) hx hb hts hown hK hP 0 rfl 2 (by decide) zf_X1_7 rfl dX1_same_36 ?_
      refine zr_ige (tgt := 75) hx hb dX1_same_39 (by decide) (by omega) (by omega) (fun _ => ?_) (fun hno9 => absurd hno9 (by omega))
      refine lv_iconst (v := nI 1) hx hb dX1_same_75 (by decide) ?_
      exact W.zret (v := nI 1) hx hb hr (rfl) (fun t9 h9 hW9 => ⟨⟨nI 1, (F, fa, fb, fc, fd), rfl, ⟨congrArg nI (zq_yn_1 hinv).symm, rfl⟩, by rw [h9]; exact hP, va_K.moved hW9.alike hK, hD⟩, hS.F h9⟩) hS.2.2 dX1_same_76
    | succ d ih =>
      intro i hi hinv ls hl
      have hf1 := hF x1 i hx1 (by omega)
      have hf2 := hF x2 i hx2 (by omega)
      refine lv_iload_n hx hb dX1_same_34 rfl (lv_at hl 3 rfl) ?_
      refine lv_aload_n hx hb dX1_same_35 rfl (lv_at hl 0 rfl) ?_
      refine zx_get1 (v := .int (nI (zk_n k))) hx hb hts hown hK hP 0 rfl 2 (by decide) zf_X1_7 rfl dX1_same_36 ?_
      refine zr_ige (tgt := 75) hx hb dX1_same_39 (by decide) (by omega) (by omega) (fun hno9 => absurd hno9 (by omega)) (fun _ => ?_)
      refine lv_aload_n hx hb dX1_same_42 rfl (lv_at hl 0 rfl) ?_
      refine zx_get1 (v := .ref (mo 1)) hx hb hts hown hK hP 0 rfl 4 (by decide) zf_X1_16 rfl dX1_same_43 ?_
      refine lv_bipush (v := nI 32) hx hb dX1_same_46 (by decide) ?_
      refine lv_iload_n hx hb dX1_same_48 rfl (lv_at hl 1 rfl) ?_
      refine zr_imul hx hb dX1_same_49 ?_
      refine lv_iload_n hx hb dX1_same_50 rfl (lv_at hl 3 rfl) ?_
      refine zr_iadd hx hb dX1_same_51 ?_
      refine zr_iald (y := F ((32 * x1) + i)) hx hb hK hP 1 0 rfl rfl (by omega) (by decide) rfl dX1_same_52 ?_
      refine lv_aload_n hx hb dX1_same_53 rfl (lv_at hl 0 rfl) ?_
      refine zx_get1 (v := .ref (mo 1)) hx hb hts hown hK hP 0 rfl 4 (by decide) zf_X1_16 rfl dX1_same_54 ?_
      refine lv_bipush (v := nI 32) hx hb dX1_same_57 (by decide) ?_
      refine lv_iload_n hx hb dX1_same_59 rfl (lv_at hl 2 rfl) ?_
      refine zr_imul hx hb dX1_same_60 ?_
      refine lv_iload_n hx hb dX1_same_61 rfl (lv_at hl 3 rfl) ?_
      refine zr_iadd hx hb dX1_same_62 ?_
      refine zr_iald (y := F ((32 * x2) + i)) hx hb hK hP 1 0 rfl rfl (by omega) (by decide) rfl dX1_same_63 ?_
      refine zr_ieq (tgt := 69) hx hb dX1_same_64 (by decide) (by omega) (by omega) (fun hc => ?_) (fun hc => ?_)
      · refine zr_iinc (k := 3) (lv' := [(3, .int (nI (i + 1))), (0, .ref (mo 0)), (1, .int (nI (x1))), (2, .int (nI (x2)))]) hx hb dX1_same_69 hl rfl (by decide) rfl (fun ls hl => ?_)
        refine lv_goto (tgt := 34) hx hb dX1_same_72 (by decide) ?_
        refine ih (i + 1) (by omega) (fun j hj => ?_) ls (lv_sub hl [1, 2, 3, 0] rfl)
        by_cases e9 : j = i
        · rw [e9]; exact hc
        · exact hinv j (by omega)
      · refine lv_iconst (v := nI 0) hx hb dX1_same_67 (by decide) ?_
        exact W.zret (v := nI 0) hx hb hr (rfl) (fun t9 h9 hW9 => ⟨⟨nI 0, (F, fa, fb, fc, fd), rfl, ⟨congrArg nI (zq_yn_0 (fun hh => hc (hh i (by omega)))).symm, rfl⟩, by rw [h9]; exact hP, va_K.moved hW9.alike hK, hD⟩, hS.F h9⟩) hS.2.2 dX1_same_68
  exact loop (zk_n k) 0 (by omega) (fun j hj => absurd hj (Nat.not_lt_zero _)) ls (lv_sub hl [1, 2, 3, 0] rfl)
set_option maxHeartbeats 4000000 in
set_option maxRecDepth 100000 in
/-- X1_divides -/
theorem cm_divides (l : Launch) (dC : Nat → ClassId) (dI : Nat → Nat → Nat) (cA : ClassId) (tr : List (ClassId × FieldType)) (wr : va_W) (mo : Nat → Nat) (th k : Nat) (F fa fb fc fd : Nat → Nat) (hk : k < 4) (sz : Nat) (x1 : Nat) (hx1 : x1 < 16) (x2 : Nat) (hx2 : x2 < 16) (hF : ∀ r j, r < 16 → j < zk_n k → F (32 * r + j) < zk_t k) : Met l yX1_divides wzX1_divides (k2_rm 3 70) (zw_pre (dC, dI) zz_cl ((cA, .int) :: tr) (zm_w cA mo th k (zk_n k) (zk_t k) F fa fb fc fd ++ wr) sz [.ref (mo 0), .int (nI (x1)), .int (nI (x2))]) (va_Qi (fun r (u : zq_U) => r = nI (zq_yn (∀ i, i < zk_n k → (zq_av k (zq_rw F x2) i = 0 → zq_av k (zq_rw F x1) i = 0))) ∧ u.1 = F) (zw_at (dC, dI) zz_cl ((cA, .int) :: tr) (va_A (zm_w cA mo th k (zk_n k) (zk_t k) F fa fb fc fd ++ wr) sz) (fun u : zq_U => zm_w cA mo 0 k (zk_n k) (zk_t k) u.1 u.2.1 u.2.2.1 u.2.2.2.1 u.2.2.2.2 ++ wr)) (va_A (zm_w cA mo th k (zk_n k) (zk_t k) F fa fb fc fd ++ wr) sz)) 0 0 (va_A (zm_w cA mo th k (zk_n k) (zk_t k) F fa fb fc fd ++ wr) sz) := by
  refine Met.ofW (cc := cX1_divides) (maxL := 4) (ret := (some .boolean)) (by decide) rfl ?_
  intro p e s m args below meth c s₁ B hml hv
  obtain ⟨rfl, hsz, hP, hK, hD0⟩ := hv
  have hx := B.exec
  have hb := B.bytes
  have hr := B.returns
  have hts := atoms_spec (ws := wzX1_divides) B.pre
  have hown : s.vm.findClass RX1 = some m.cls := findClass_of_methodNamed B.named
  have hlocks := B.notSynchronized
  subst hsz
  have hD := hD0.self (sz := s.heap.size)
  generalize hAe : va_A (zm_w cA mo th k (zk_n k) (zk_t k) F fa fb fc fd ++ wr) s.heap.size = A at hD ⊢
  have hA : ∀ q : Nat, s.heap.size ≤ q → A q := fun q h => by rw [← hAe]; exact Or.inr h
  have hS : va_S A s.heap s.heap [] := va_S.rf
  have hl := lv_entry ([.ref (mo 0), .int (nI (x1)), .int (nI (x2))]) (n := 4) (Nat.le_of_ble_eq_true rfl)
  rw [lg_entry_eq]
  generalize (lg_sl ([.ref (mo 0), .int (nI (x1)), .int (nI (x2))]) ++ List.replicate (4 - (lg_sl ([.ref (mo 0), .int (nI (x1)), .int (nI (x2))])).length) Slot.unset).toArray = ls at hl ⊢
  have hl : lv_has ls 4 [(0, .ref (mo 0)), (1, .int (nI (x1))), (2, .int (nI (x2)))] := hl
  obtain ⟨hb1, hb2, hb3, hb4, hb5, hb6, hb7, hb8⟩ := zk_b k hk
  refine lv_aload_n hx hb dX1_divides_0 rfl (lv_at hl 0 rfl) ?_
  refine lv_iload_n hx hb dX1_divides_1 rfl (lv_at hl 1 rfl) ?_
  refine zr_callq (zx_runS (As := [.int (nI (x1))]) (rest := [.ref (mo 0)]) hx hb hml hts hown (cm_none0 l (dC, dI) zz_cl ((cA, .int) :: tr) (zm_w cA mo th k (zk_n k) (zk_t k) F fa fb fc fd ++ wr) x1 (by omega)) zu_X1_46 rfl rfl ⟨Nat.le_of_ble_eq_true rfl, Nat.le_of_ble_eq_true rfl⟩ (zr_preS hP hK) rfl hl.1 rfl (Nat.le_of_ble_eq_true rfl) dX1_divides_2 ⟨Nat.zero_le _, Nat.zero_le _⟩) ?_
  refine zr_ifne (tgt := 15) hx hb dX1_divides_5 (by decide) (by omega) (fun hno9 => absurd hno9 (by omega)) (fun _ => ?_)
  refine lv_iload_n hx hb dX1_divides_8 rfl (lv_at hl 2 rfl) ?_
  refine zr_callq (zx_runS (As := [.int (nI (x2))]) (rest := [.ref (mo 0)]) hx hb hml hts hown (cm_none0 l (dC, dI) zz_cl ((cA, .int) :: tr) (zm_w cA mo th k (zk_n k) (zk_t k) F fa fb fc fd ++ wr) x2 (by omega)) zu_X1_46 rfl rfl ⟨Nat.le_of_ble_eq_true rfl, Nat.le_of_ble_eq_true rfl⟩ (zr_preS hP hK) rfl hl.1 rfl (Nat.le_of_ble_eq_true rfl) dX1_divides_9 ⟨Nat.zero_le _, Nat.zero_le _⟩) ?_
  refine zr_ifeq (tgt := 19) hx hb dX1_divides_12 (by decide) (by omega) (fun _ => ?_) (fun hno9 => absurd hno9 (by omega))
  refine lv_iconst (v := nI 0) hx hb dX1_divides_19 (by decide) ?_
  refine zx_put1 (ws' := (zm_w cA mo 0 k (zk_n k) (zk_t k) F fa fb fc fd ++ wr)) hx hb hts hown hK hP hD hS 0 rfl 0 (by decide) zf_X1_32 rfl (by decide +kernel) (Nat.le_of_ble_eq_true rfl) dX1_divides_20 rfl (fun H locs hP hD hS => ?_)
  refine lv_aload_n hx hb dX1_divides_23 rfl (lv_at hl 0 rfl) ?_
  refine zx_get1 (v := .int (nI (0))) hx hb hts hown hK hP 0 rfl 0 (by decide) zf_X1_32 rfl dX1_divides_24 ?_
  refine zr_ifle (tgt := 32) hx hb dX1_divides_27 (by decide) (by omega) (fun _ => ?_) (fun hno9 => absurd hno9 (by omega))
  refine lv_aload_n hx hb dX1_divides_32 rfl (lv_at hl 0 rfl) ?_
  refine lv_iload_n hx hb dX1_divides_33 rfl (lv_at hl 1 rfl) ?_
  refine lv_aload_n hx hb dX1_divides_34 rfl (lv_at hl 0 rfl) ?_
  refine zx_get1 (v := .ref (mo 2)) hx hb hts hown hK hP 0 rfl 5 (by decide) zf_X1_20 rfl dX1_divides_35 ?_
  refine zw_callv (w' := fun u : Nat → Nat => zm_w cA mo 0 k (zk_n k) (zk_t k) F u fb fc fd ++ wr) hD hS hA (zx_runV (As := [.int (nI (x1)), .ref (mo 2)]) (rest := []) hx hb hml hts hown (cm_take2 l dC dI cA tr wr mo 0 k F fa fb fc fd hk H.size x1 (by omega)) zv_X1_62 rfl rfl ⟨Nat.le_of_ble_eq_true rfl, Nat.le_of_ble_eq_true rfl⟩ (zw_preV (q := (RX1, TM1, 9)) (ci := 1) (q0 := 0) hP hK hD rfl rfl) rfl hl.1 rfl (Nat.le_of_ble_eq_true rfl) dX1_divides_38 ⟨Nat.zero_le _, Nat.zero_le _⟩) (fun ua H locs hua hP hD hS => ?_)
  have hlua : ∀ j, j < zk_n k → ua j < zk_t k := fun j hj => by rw [hua j hj]; exact hF x1 j (by omega) hj
  refine lv_aload_n hx hb dX1_divides_41 rfl (lv_at hl 0 rfl) ?_
  refine lv_iload_n hx hb dX1_divides_42 rfl (lv_at hl 2 rfl) ?_
  refine lv_aload_n hx hb dX1_divides_43 rfl (lv_at hl 0 rfl) ?_
  refine zx_get1 (v := .ref (mo 3)) hx hb hts hown hK hP 0 rfl 6 (by decide) zf_X1_23 rfl dX1_divides_44 ?_
  refine zw_callv (w' := fun u : Nat → Nat => zm_w cA mo 0 k (zk_n k) (zk_t k) F ua u fc fd ++ wr) hD hS hA (zx_runV (As := [.int (nI (x2)), .ref (mo 3)]) (rest := []) hx hb hml hts hown (cm_take3 l dC dI cA tr wr mo 0 k F ua fb fc fd hk H.size x2 (by omega)) zv_X1_62 rfl rfl ⟨Nat.le_of_ble_eq_true rfl, Nat.le_of_ble_eq_true rfl⟩ (zw_preV (q := (RX1, TM1, 9)) (ci := 1) (q0 := 0) hP hK hD rfl rfl) rfl hl.1 rfl (Nat.le_of_ble_eq_true rfl) dX1_divides_47 ⟨Nat.zero_le _, Nat.zero_le _⟩) (fun ub H locs hub hP hD hS => ?_)
  have hlub : ∀ j, j < zk_n k → ub j < zk_t k := fun j hj => by rw [hub j hj]; exact hF x2 j (by omega) hj
  refine lv_iconst (v := nI 0) hx hb dX1_divides_50 (by decide) ?_
  refine lv_istore_n (lv' := [(3, .int (nI (0))), (0, .ref (mo 0)), (1, .int (nI (x1))), (2, .int (nI (x2)))]) hx hb dX1_divides_51 rfl hl (by decide) rfl (fun ls hl => ?_)
  have hAv : ∀ i, zq_av k ua i = zq_av k (zq_rw F x1) i := fun i => zq_av_congr hua i
  have hB : ∀ i, zq_av k ub i = zq_av k (zq_rw F x2) i := fun i => zq_av_congr hub i
  have loop : ∀ (d i : Nat), i + d = zk_n k → (∀ j, j < i → (zq_av k (zq_rw F x2) j = 0 → zq_av k (zq_rw F x1) j = 0)) → ∀ ls, lv_has ls 4 [(0, .ref (mo 0)), (1, .int (nI (x1))), (2, .int (nI (x2))), (3, .int (nI (i)))] → W p l e (headSpec wzX1_divides (k2_rm 3 70)).room s m ([.ref (mo 0), .int (nI (x1)), .int (nI (x2))] : List Value).toArray below meth c H locs 0 0 (MQ below (va_Qi (fun r (u : zq_U) => r = nI (zq_yn (∀ i, i < zk_n k → (zq_av k (zq_rw F x2) i = 0 → zq_av k (zq_rw F x1) i = 0))) ∧ u.1 = F) (zw_at (dC, dI) zz_cl ((cA, .int) :: tr) A (fun u : zq_U => zm_w cA mo 0 k (zk_n k) (zk_t k) u.1 u.2.1 u.2.2.1 u.2.2.2.1 u.2.2.2.2 ++ wr)) A) ([.ref (mo 0), .int (nI (x1)), .int (nI (x2))] : List Value).toArray s 0 0 A) (F0 m 52 ls []) := by
    intro d
    induction d with
    | zero =>
      intro i hi hinv ls hl
      have hi : i = zk_n k := by omega
      rw [hi] at hinv
      refine lv_iload_n hx hb dX1_divides_52 rfl (lv_at hl 3 rfl) ?_
      refine lv_aload_n hx hb dX1_divides_53 rfl (lv_at hl 0 rfl) ?_
      refine zx_get1 (v := .int (nI (zk_n k))) hx hb hts hown hK hP 0 rfl 2 (by decide) zf_X1_7 rfl dX1_divides_54 ?_
      refine zr_ige (tgt := 92) hx hb dX1_divides_57 (by decide) (by omega) (by omega) (fun _ => ?_) (fun hno9 => absurd hno9 (by omega))
      refine lv_iconst (v := nI 1) hx hb dX1_divides_92 (by decide) ?_
      exact W.zret (v := nI 1) hx hb hr (rfl) (fun t9 h9 hW9 => ⟨⟨nI 1, (F, ua, ub, fc, fd), rfl, ⟨congrArg nI (zq_yn_1 hinv).symm, rfl⟩, by rw [h9]; exact hP, va_K.moved hW9.alike hK, hD⟩, hS.F h9⟩) hS.2.2 dX1_divides_93
    | succ d ih =>
      intro i hi hinv ls hl
      have hf1 := zq_av_lt hk ua i
      have hf2 := zq_av_lt hk ub i
      refine lv_iload_n hx hb dX1_divides_52 rfl (lv_at hl 3 rfl) ?_
      refine lv_aload_n hx hb dX1_divides_53 rfl (lv_at hl 0 rfl) ?_
      refine zx_get1 (v := .int (nI (zk_n k))) hx hb hts hown hK hP 0 rfl 2 (by decide) zf_X1_7 rfl dX1_divides_54 ?_
      refine zr_ige (tgt := 92) hx hb dX1_divides_57 (by decide) (by omega) (by omega) (fun hno9 => absurd hno9 (by omega)) (fun _ => ?_)
      refine lv_aload_n hx hb dX1_divides_60 rfl (lv_at hl 0 rfl) ?_
      refine lv_aload_n hx hb dX1_divides_61 rfl (lv_at hl 0 rfl) ?_
      refine zx_get1 (v := .ref (mo 3)) hx hb hts hown hK hP 0 rfl 6 (by decide) zf_X1_23 rfl dX1_divides_62 ?_
      refine lv_iload_n hx hb dX1_divides_65 rfl (lv_at hl 3 rfl) ?_
      refine zr_callq (zx_runV (As := [.ref (mo 3), .int (nI (i))]) (rest := []) hx hb hml hts hown (cm_at l dC dI cA tr wr mo 0 k F ua ub fc fd hk 3 (mo 3) ub rfl hlub i (by omega)) zv_X1_58 rfl rfl ⟨Nat.le_of_ble_eq_true rfl, Nat.le_of_ble_eq_true rfl⟩ (zr_preV (q := (RX1, TM1, 9)) (ci := 1) (q0 := 0) hP hK rfl rfl) rfl hl.1 rfl (Nat.le_of_ble_eq_true rfl) dX1_divides_66 ⟨Nat.zero_le _, Nat.zero_le _⟩) ?_
      refine zr_ifne (tgt := 86) hx hb dX1_divides_69 (by decide) (by omega) (fun hc => ?_) (fun hc => ?_)
      · refine zr_iinc (k := 3) (lv' := [(3, .int (nI (i + 1))), (0, .ref (mo 0)), (1, .int (nI (x1))), (2, .int (nI (x2)))]) hx hb dX1_divides_86 hl rfl (by decide) rfl (fun ls hl => ?_)
        refine lv_goto (tgt := 52) hx hb dX1_divides_89 (by decide) ?_
        refine ih (i + 1) (by omega) (fun j hj => ?_) ls (lv_sub hl [1, 2, 3, 0] rfl)
        by_cases e9 : j = i
        · rw [e9]; exact fun h9 => absurd ((hB i).trans h9) hc
        · exact hinv j (by omega)
      · refine lv_aload_n hx hb dX1_divides_72 rfl (lv_at hl 0 rfl) ?_
        refine lv_aload_n hx hb dX1_divides_73 rfl (lv_at hl 0 rfl) ?_
        refine zx_get1 (v := .ref (mo 2)) hx hb hts hown hK hP 0 rfl 5 (by decide) zf_X1_20 rfl dX1_divides_74 ?_
        refine lv_iload_n hx hb dX1_divides_77 rfl (lv_at hl 3 rfl) ?_
        refine zr_callq (zx_runV (As := [.ref (mo 2), .int (nI (i))]) (rest := []) hx hb hml hts hown (cm_at l dC dI cA tr wr mo 0 k F ua ub fc fd hk 2 (mo 2) ua rfl hlua i (by omega)) zv_X1_58 rfl rfl ⟨Nat.le_of_ble_eq_true rfl, Nat.le_of_ble_eq_true rfl⟩ (zr_preV (q := (RX1, TM1, 9)) (ci := 1) (q0 := 0) hP hK rfl rfl) rfl hl.1 rfl (Nat.le_of_ble_eq_true rfl) dX1_divides_78 ⟨Nat.zero_le _, Nat.zero_le _⟩) ?_
        refine zr_ifeq (tgt := 86) hx hb dX1_divides_81 (by decide) (by omega) (fun hc2 => ?_) (fun hc2 => ?_)
        · refine zr_iinc (k := 3) (lv' := [(3, .int (nI (i + 1))), (0, .ref (mo 0)), (1, .int (nI (x1))), (2, .int (nI (x2)))]) hx hb dX1_divides_86 hl rfl (by decide) rfl (fun ls hl => ?_)
          refine lv_goto (tgt := 52) hx hb dX1_divides_89 (by decide) ?_
          refine ih (i + 1) (by omega) (fun j hj => ?_) ls (lv_sub hl [1, 2, 3, 0] rfl)
          by_cases e9 : j = i
          · rw [e9]; exact fun _ => (hAv i).symm.trans hc2
          · exact hinv j (by omega)
        · refine lv_iconst (v := nI 0) hx hb dX1_divides_84 (by decide) ?_
          exact W.zret (v := nI 0) hx hb hr (rfl) (fun t9 h9 hW9 => ⟨⟨nI 0, (F, ua, ub, fc, fd), rfl, ⟨congrArg nI (zq_yn_0 (fun hh => hc2 ((hAv i).trans (hh i (by omega) ((hB i).symm.trans hc))))).symm, rfl⟩, by rw [h9]; exact hP, va_K.moved hW9.alike hK, hD⟩, hS.F h9⟩) hS.2.2 dX1_divides_85
  exact loop (zk_n k) 0 (by omega) (fun j hj => absurd hj (Nat.not_lt_zero _)) ls (lv_sub hl [1, 2, 3, 0] rfl)
