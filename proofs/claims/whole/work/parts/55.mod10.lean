set_option maxHeartbeats 4000000 in
set_option maxRecDepth 100000 in
/-- X1_about -/
theorem cm_about_r1 (l : Launch) (dC : Nat → ClassId) (dI : Nat → Nat → Nat) (cA : ClassId) (tr : List (ClassId × FieldType)) (wr : va_W) (mo : Nat → Nat) (th k : Nat) (F fa fb fc fd : Nat → Nat) (hk : k < 4) (sz : Nat) (x1 : Int32) (x2 : Int32) (hbad : x1 < 0 ∨ nI 16 ≤ x1) : Met l yX1_about wzX1_about (k2_rm 1 20) (zw_pre (dC, dI) zz_cl ((cA, .int) :: tr) (zm_w cA mo th k (zk_n k) (zk_t k) F fa fb fc fd ++ wr) sz [.ref (mo 0), .int (x1), .int (x2)]) (va_Qi (fun r (u : zq_U) => r = nI 0 ∧ u.1 = F) (zw_at (dC, dI) zz_cl ((cA, .int) :: tr) (va_A (zm_w cA mo th k (zk_n k) (zk_t k) F fa fb fc fd ++ wr) sz) (fun u : zq_U => zm_w cA mo 1 k (zk_n k) (zk_t k) u.1 u.2.1 u.2.2.1 u.2.2.2.1 u.2.2.2.2 ++ wr)) (va_A (zm_w cA mo th k (zk_n k) (zk_t k) F fa fb fc fd ++ wr) sz)) 0 0 (va_A (zm_w cA mo th k (zk_n k) (zk_t k) F fa fb fc fd ++ wr) sz) := by
  refine Met.ofW (cc := cX1_about) (maxL := 7) (ret := (some .int)) (by decide) rfl ?_
  intro p e s m args below meth c s₁ B hml hv
  obtain ⟨rfl, hsz, hP, hK, hD0⟩ := hv
  have hx := B.exec
  have hb := B.bytes
  have hr := B.returns
  have hts := atoms_spec (ws := wzX1_about) B.pre
  have hown : s.vm.findClass RX1 = some m.cls := findClass_of_methodNamed B.named
  have hlocks := B.notSynchronized
  subst hsz
  have hD := hD0.self (sz := s.heap.size)
  generalize hAe : va_A (zm_w cA mo th k (zk_n k) (zk_t k) F fa fb fc fd ++ wr) s.heap.size = A at hD ⊢
  have hA : ∀ q : Nat, s.heap.size ≤ q → A q := fun q h => by rw [← hAe]; exact Or.inr h
  have hS : va_S A s.heap s.heap [] := va_S.rf
  have hl := lv_entry ([.ref (mo 0), .int (x1), .int (x2)]) (n := 7) (Nat.le_of_ble_eq_true rfl)
  rw [lg_entry_eq]
  generalize (lg_sl ([.ref (mo 0), .int (x1), .int (x2)]) ++ List.replicate (7 - (lg_sl ([.ref (mo 0), .int (x1), .int (x2)])).length) Slot.unset).toArray = ls at hl ⊢
  have hl : lv_has ls 7 [(0, .ref (mo 0)), (1, .int (x1)), (2, .int (x2))] := hl
  obtain ⟨hb1, hb2, hb3, hb4, hb5, hb6, hb7, hb8⟩ := zk_b k hk
  refine lv_aload_n hx hb dX1_about_0 rfl (lv_at hl 0 rfl) ?_
  refine lv_iload_n hx hb dX1_about_1 rfl (lv_at hl 1 rfl) ?_
  refine zr_callq (zx_runS (As := [.int (x1)]) (rest := [.ref (mo 0)]) hx hb hml hts hown (cm_none1 l (dC, dI) zz_cl ((cA, .int) :: tr) (zm_w cA mo th k (zk_n k) (zk_t k) F fa fb fc fd ++ wr) x1 hbad) zu_X1_46 rfl rfl ⟨Nat.le_of_ble_eq_true rfl, Nat.le_of_ble_eq_true rfl⟩ (zr_preS hP hK) rfl hl.1 rfl (Nat.le_of_ble_eq_true rfl) dX1_about_2 ⟨Nat.zero_le _, Nat.zero_le _⟩) ?_
  refine zr_ifeq (tgt := 12) hx hb dX1_about_5 (by decide) (by omega) (fun hno9 => absurd hno9 (by omega)) (fun _ => ?_)
  refine lv_iconst (v := nI 1) hx hb dX1_about_8 (by decide) ?_
  refine lv_goto (tgt := 26) hx hb dX1_about_9 (by decide) ?_
  refine zx_put1 (ws' := (zm_w cA mo 1 k (zk_n k) (zk_t k) F fa fb fc fd ++ wr)) hx hb hts hown hK hP hD hS 0 rfl 0 (by decide) zf_X1_32 rfl (by decide +kernel) (Nat.le_of_ble_eq_true rfl) dX1_about_26 rfl (fun H locs hP hD hS => ?_)
  refine lv_aload_n hx hb dX1_about_29 rfl (lv_at hl 0 rfl) ?_
  refine zx_get1 (v := .int (nI (1))) hx hb hts hown hK hP 0 rfl 0 (by decide) zf_X1_32 rfl dX1_about_30 ?_
  refine zr_ifle (tgt := 38) hx hb dX1_about_33 (by decide) (by omega) (fun hno9 => absurd hno9 (by omega)) (fun _ => ?_)
  refine lv_iconst (v := nI 0) hx hb dX1_about_36 (by decide) ?_
  exact W.iret (v := nI 0) hx hb hr (fun t9 h9 hW9 => ⟨⟨nI 0, (F, fa, fb, fc, fd), rfl, ⟨rfl, rfl⟩, by rw [h9]; exact hP, va_K.moved hW9.alike hK, hD⟩, hS.F h9⟩) hS.2.2 dX1_about_37
set_option maxHeartbeats 4000000 in
set_option maxRecDepth 100000 in
/-- X1_about -/
theorem cm_about_w (l : Launch) (dC : Nat → ClassId) (dI : Nat → Nat → Nat) (cA : ClassId) (tr : List (ClassId × FieldType)) (wr : va_W) (mo : Nat → Nat) (th k : Nat) (F fa fb fc fd : Nat → Nat) (hk : k < 4) (sz : Nat) (x1 : Nat) (hx1 : x1 < 16) (x2 : Int32) (hbad : x2 < 0 ∨ nI 5 < x2) : Met l yX1_about wzX1_about (k2_rm 1 20) (zw_pre (dC, dI) zz_cl ((cA, .int) :: tr) (zm_w cA mo th k (zk_n k) (zk_t k) F fa fb fc fd ++ wr) sz [.ref (mo 0), .int (nI (x1)), .int (x2)]) (va_Qi (fun r (u : zq_U) => r = nI 0 ∧ u.1 = F) (zw_at (dC, dI) zz_cl ((cA, .int) :: tr) (va_A (zm_w cA mo th k (zk_n k) (zk_t k) F fa fb fc fd ++ wr) sz) (fun u : zq_U => zm_w cA mo 2 k (zk_n k) (zk_t k) u.1 u.2.1 u.2.2.1 u.2.2.2.1 u.2.2.2.2 ++ wr)) (va_A (zm_w cA mo th k (zk_n k) (zk_t k) F fa fb fc fd ++ wr) sz)) 0 0 (va_A (zm_w cA mo th k (zk_n k) (zk_t k) F fa fb fc fd ++ wr) sz) := by
  refine Met.ofW (cc := cX1_about) (maxL := 7) (ret := (some .int)) (by decide) rfl ?_
  intro p e s m args below meth c s₁ B hml hv
  obtain ⟨rfl, hsz, hP, hK, hD0⟩ := hv
  have hx := B.exec
  have hb := B.bytes
  have hr := B.returns
  have hts := atoms_spec (ws := wzX1_about) B.pre
  have hown : s.vm.findClass RX1 = some m.cls := findClass_of_methodNamed B.named
  have hlocks := B.notSynchronized
  subst hsz
  have hD := hD0.self (sz := s.heap.size)
  generalize hAe : va_A (zm_w cA mo th k (zk_n k) (zk_t k) F fa fb fc fd ++ wr) s.heap.size = A at hD ⊢
  have hA : ∀ q : Nat, s.heap.size ≤ q → A q := fun q h => by rw [← hAe]; exact Or.inr h
  have hS : va_S A s.heap s.heap [] := va_S.rf
  have hl := lv_entry ([.ref (mo 0), .int (nI (x1)), .int (x2)]) (n := 7) (Nat.le_of_ble_eq_true rfl)
  rw [lg_entry_eq]
  generalize (lg_sl ([.ref (mo 0), .int (nI (x1)), .int (x2)]) ++ List.replicate (7 - (lg_sl ([.ref (mo 0), .int (nI (x1)), .int (x2)])).length) Slot.unset).toArray = ls at hl ⊢
  have hl : lv_has ls 7 [(0, .ref (mo 0)), (1, .int (nI (x1))), (2, .int (x2))] := hl
  obtain ⟨hb1, hb2, hb3, hb4, hb5, hb6, hb7, hb8⟩ := zk_b k hk
  have h21 : ∀ ls, lv_has ls 7 [(0, .ref (mo 0)), (1, .int (nI (x1))), (2, .int (x2))] → W p l e (headSpec wzX1_about (k2_rm 1 20)).room s m ([.ref (mo 0), .int (nI (x1)), .int (x2)] : List Value).toArray below meth c s.heap [] 0 0 (MQ below (va_Qi (fun r (u : zq_U) => r = nI 0 ∧ u.1 = F) (zw_at (dC, dI) zz_cl ((cA, .int) :: tr) A (fun u : zq_U => zm_w cA mo 2 k (zk_n k) (zk_t k) u.1 u.2.1 u.2.2.1 u.2.2.2.1 u.2.2.2.2 ++ wr)) A) ([.ref (mo 0), .int (nI (x1)), .int (x2)] : List Value).toArray s 0 0 A) (F0 m 21 ls [.ref (mo 0)]) := by
    intro ls hl
    refine lv_iconst (v := nI 2) hx hb dX1_about_21 (by decide) ?_
    refine lv_goto (tgt := 26) hx hb dX1_about_22 (by decide) ?_
    refine zx_put1 (ws' := (zm_w cA mo 2 k (zk_n k) (zk_t k) F fa fb fc fd ++ wr)) hx hb hts hown hK hP hD hS 0 rfl 0 (by decide) zf_X1_32 rfl (by decide +kernel) (Nat.le_of_ble_eq_true rfl) dX1_about_26 rfl (fun H locs hP hD hS => ?_)
    refine lv_aload_n hx hb dX1_about_29 rfl (lv_at hl 0 rfl) ?_
    refine zx_get1 (v := .int (nI (2))) hx hb hts hown hK hP 0 rfl 0 (by decide) zf_X1_32 rfl dX1_about_30 ?_
    refine zr_ifle (tgt := 38) hx hb dX1_about_33 (by decide) (by omega) (fun hno9 => absurd hno9 (by omega)) (fun _ => ?_)
    refine lv_iconst (v := nI 0) hx hb dX1_about_36 (by decide) ?_
    exact W.iret (v := nI 0) hx hb hr (fun t9 h9 hW9 => ⟨⟨nI 0, (F, fa, fb, fc, fd), rfl, ⟨rfl, rfl⟩, by rw [h9]; exact hP, va_K.moved hW9.alike hK, hD⟩, hS.F h9⟩) hS.2.2 dX1_about_37
  refine lv_aload_n hx hb dX1_about_0 rfl (lv_at hl 0 rfl) ?_
  refine lv_iload_n hx hb dX1_about_1 rfl (lv_at hl 1 rfl) ?_
  refine zr_callq (zx_runS (As := [.int (nI (x1))]) (rest := [.ref (mo 0)]) hx hb hml hts hown (cm_none0 l (dC, dI) zz_cl ((cA, .int) :: tr) (zm_w cA mo th k (zk_n k) (zk_t k) F fa fb fc fd ++ wr) x1 (by omega)) zu_X1_46 rfl rfl ⟨Nat.le_of_ble_eq_true rfl, Nat.le_of_ble_eq_true rfl⟩ (zr_preS hP hK) rfl hl.1 rfl (Nat.le_of_ble_eq_true rfl) dX1_about_2 ⟨Nat.zero_le _, Nat.zero_le _⟩) ?_
  refine zr_ifeq (tgt := 12) hx hb dX1_about_5 (by decide) (by omega) (fun _ => ?_) (fun hno9 => absurd hno9 (by omega))
  refine lv_iload_n hx hb dX1_about_12 rfl (lv_at hl 2 rfl) ?_
  refine lv_if_lt (tgt := 21) hx hb dX1_about_13 (by decide) (fun _ => h21 ls hl) (fun hn0 => ?_)
  refine lv_iload_n hx hb dX1_about_16 rfl (lv_at hl 2 rfl) ?_
  refine lv_iconst (v := nI 5) hx hb dX1_about_17 (by decide) ?_
  refine lv_icmp_le (tgt := 25) hx hb dX1_about_18 (by decide) (fun hh => absurd hh (hbad.elim (fun h9 => absurd h9 hn0) (fun h9 => Int32.not_le.mpr h9))) (fun _ => h21 ls hl)
set_option maxHeartbeats 4000000 in
set_option maxRecDepth 100000 in
/-- X1_about -/
theorem cm_about0 (l : Launch) (dC : Nat → ClassId) (dI : Nat → Nat → Nat) (cA : ClassId) (tr : List (ClassId × FieldType)) (wr : va_W) (mo : Nat → Nat) (th k : Nat) (F fa fb fc fd : Nat → Nat) (hk : k < 4) (sz : Nat) (x1 : Nat) (hx1 : x1 < 16) (hF : ∀ r j, r < 16 → j < zk_n k → F (32 * r + j) < zk_t k)  : Met l yX1_about wzX1_about (k2_rm 4 93) (zw_pre (dC, dI) zz_cl ((cA, .int) :: tr) (zm_w cA mo th k (zk_n k) (zk_t k) F fa fb fc fd ++ wr) sz [.ref (mo 0), .int (nI (x1)), .int (nI (0))]) (va_Qi (fun r (u : zq_U) => r = nI (zq_pr (zk_t k) (zq_av k (zq_rw F x1)) (zk_n k)) ∧ u.1 = F) (zw_at (dC, dI) zz_cl ((cA, .int) :: tr) (va_A (zm_w cA mo th k (zk_n k) (zk_t k) F fa fb fc fd ++ wr) sz) (fun u : zq_U => zm_w cA mo 0 k (zk_n k) (zk_t k) u.1 u.2.1 u.2.2.1 u.2.2.2.1 u.2.2.2.2 ++ wr)) (va_A (zm_w cA mo th k (zk_n k) (zk_t k) F fa fb fc fd ++ wr) sz)) 0 0 (va_A (zm_w cA mo th k (zk_n k) (zk_t k) F fa fb fc fd ++ wr) sz) := by
  refine Met.ofW (cc := cX1_about) (maxL := 7) (ret := (some .int)) (by decide) rfl ?_
  intro p e s m args below meth c s₁ B hml hv
  obtain ⟨rfl, hsz, hP, hK, hD0⟩ := hv
  have hx := B.exec
  have hb := B.bytes
  have hr := B.returns
  have hts := atoms_spec (ws := wzX1_about) B.pre
  have hown : s.vm.findClass RX1 = some m.cls := findClass_of_methodNamed B.named
  have hlocks := B.notSynchronized
  subst hsz
  have hD := hD0.self (sz := s.heap.size)
  generalize hAe : va_A (zm_w cA mo th k (zk_n k) (zk_t k) F fa fb fc fd ++ wr) s.heap.size = A at hD ⊢
  have hA : ∀ q : Nat, s.heap.size ≤ q → A q := fun q h => by rw [← hAe]; exact Or.inr h
  have hS : va_S A s.heap s.heap [] := va_S.rf
  have hl := lv_entry ([.ref (mo 0), .int (nI (x1)), .int (nI (0))]) (n := 7) (Nat.le_of_ble_eq_true rfl)
  rw [lg_entry_eq]
  generalize (lg_sl ([.ref (mo 0), .int (nI (x1)), .int (nI (0))]) ++ List.replicate (7 - (lg_sl ([.ref (mo 0), .int (nI (x1)), .int (nI (0))])).length) Slot.unset).toArray = ls at hl ⊢
  have hl : lv_has ls 7 [(0, .ref (mo 0)), (1, .int (nI (x1))), (2, .int (nI (0)))] := hl
  obtain ⟨hb1, hb2, hb3, hb4, hb5, hb6, hb7, hb8⟩ := zk_b k hk
  refine lv_aload_n hx hb dX1_about_0 rfl (lv_at hl 0 rfl) ?_
  refine lv_iload_n hx hb dX1_about_1 rfl (lv_at hl 1 rfl) ?_
  refine zr_callq (zx_runS (As := [.int (nI (x1))]) (rest := [.ref (mo 0)]) hx hb hml hts hown (cm_none0 l (dC, dI) zz_cl ((cA, .int) :: tr) (zm_w cA mo th k (zk_n k) (zk_t k) F fa fb fc fd ++ wr) x1 (by omega)) zu_X1_46 rfl rfl ⟨Nat.le_of_ble_eq_true rfl, Nat.le_of_ble_eq_true rfl⟩ (zr_preS hP hK) rfl hl.1 rfl (Nat.le_of_ble_eq_true rfl) dX1_about_2 ⟨Nat.zero_le _, Nat.zero_le _⟩) ?_
  refine zr_ifeq (tgt := 12) hx hb dX1_about_5 (by decide) (by omega) (fun _ => ?_) (fun hno9 => absurd hno9 (by omega))
  refine lv_iload_n hx hb dX1_about_12 rfl (lv_at hl 2 rfl) ?_
  refine zr_iflt (tgt := 21) hx hb dX1_about_13 (by decide) (by omega) ?_
  refine lv_iload_n hx hb dX1_about_16 rfl (lv_at hl 2 rfl) ?_
  refine lv_iconst (v := nI 5) hx hb dX1_about_17 (by decide) ?_
  refine zr_ile (tgt := 25) hx hb dX1_about_18 (by decide) (by omega) (by omega) (fun _ => ?_) (fun hno9 => absurd hno9 (by omega))
  refine lv_iconst (v := nI 0) hx hb dX1_about_25 (by decide) ?_
  refine zx_put1 (ws' := (zm_w cA mo 0 k (zk_n k) (zk_t k) F fa fb fc fd ++ wr)) hx hb hts hown hK hP hD hS 0 rfl 0 (by decide) zf_X1_32 rfl (by decide +kernel) (Nat.le_of_ble_eq_true rfl) dX1_about_26 rfl (fun H locs hP hD hS => ?_)
  refine lv_aload_n hx hb dX1_about_29 rfl (lv_at hl 0 rfl) ?_
  refine zx_get1 (v := .int (nI (0))) hx hb hts hown hK hP 0 rfl 0 (by decide) zf_X1_32 rfl dX1_about_30 ?_
  refine zr_ifle (tgt := 38) hx hb dX1_about_33 (by decide) (by omega) (fun _ => ?_) (fun hno9 => absurd hno9 (by omega))
  refine lv_aload_n hx hb dX1_about_38 rfl (lv_at hl 0 rfl) ?_
  refine lv_iload_n hx hb dX1_about_39 rfl (lv_at hl 1 rfl) ?_
  refine lv_aload_n hx hb dX1_about_40 rfl (lv_at hl 0 rfl) ?_
  refine zx_get1 (v := .ref (mo 2)) hx hb hts hown hK hP 0 rfl 5 (by decide) zf_X1_20 rfl dX1_about_41 ?_
  refine zw_callv (w' := fun u : Nat → Nat => zm_w cA mo 0 k (zk_n k) (zk_t k) F u fb fc fd ++ wr) hD hS hA (zx_runV (As := [.int (nI (x1)), .ref (mo 2)]) (rest := []) hx hb hml hts hown (cm_take2 l dC dI cA tr wr mo 0 k F fa fb fc fd hk H.size x1 (by omega)) zv_X1_62 rfl rfl ⟨Nat.le_of_ble_eq_true rfl, Nat.le_of_ble_eq_true rfl⟩ (zw_preV (q := (RX1, TM1, 9)) (ci := 1) (q0 := 0) hP hK hD rfl rfl) rfl hl.1 rfl (Nat.le_of_ble_eq_true rfl) dX1_about_44 ⟨Nat.zero_le _, Nat.zero_le _⟩) (fun ua H locs hua hP hD hS => ?_)
  have hlua : ∀ j, j < zk_n k → ua j < zk_t k := fun j hj => by rw [hua j hj]; exact hF x1 j (by omega) hj
  refine lv_iload_n hx hb dX1_about_47 rfl (lv_at hl 2 rfl) ?_
  refine zr_ifne (tgt := 55) hx hb dX1_about_48 (by decide) (by omega) (fun hno9 => absurd hno9 (by omega)) (fun _ => ?_)
  refine lv_iconst (v := nI 1) hx hb dX1_about_51 (by decide) ?_
  refine lv_goto (tgt := 56) hx hb dX1_about_52 (by decide) ?_
  refine lv_istore_n (lv' := [(3, .int (nI (1))), (0, .ref (mo 0)), (1, .int (nI (x1))), (2, .int (nI (0)))]) hx hb dX1_about_56 rfl hl (by decide) rfl (fun ls hl => ?_)
  refine lv_iload_n hx hb dX1_about_57 rfl (lv_at hl 3 rfl) ?_
  have hAf : zq_av k ua = zq_av k (zq_rw F x1) := funext (fun i => zq_av_congr hua i)
  refine lv_tableIn (tgt := 92) (off := 34) hx hb dX1_about_58 (by decide) (by decide) (by decide) (by decide) ?_
  refine lv_iconst (v := nI 0) hx hb dX1_about_92 (by decide) ?_
  refine lv_istore (lv' := [(4, .int (nI (0))), (3, .int (nI (1))), (0, .ref (mo 0)), (1, .int (nI (x1))), (2, .int (nI (0)))]) hx hb dX1_about_93 hl (by decide) rfl (fun ls hl => ?_)
  have loop : ∀ (d i : Nat), i + d = zk_n k → ∀ ls, lv_has ls 7 [(0, .ref (mo 0)), (1, .int (nI (x1))), (2, .int (nI (0))), (3, .int (nI (zq_pr (zk_t k) (zq_av k ua) i))), (4, .int (nI (i)))] → W p l e (headSpec wzX1_about (k2_rm 4 93)).room s m ([.ref (mo 0), .int (nI (x1)), .int (nI (0))] : List Value).toArray below meth c H locs 0 0 (MQ below (va_Qi (fun r (u : zq_U) => r = nI (zq_pr (zk_t k) (zq_av k (zq_rw F x1)) (zk_n k)) ∧ u.1 = F) (zw_at (dC, dI) zz_cl ((cA, .int) :: tr) A (fun u : zq_U => zm_w cA mo 0 k (zk_n k) (zk_t k) u.1 u.2.1 u.2.2.1 u.2.2.2.1 u.2.2.2.2 ++ wr)) A) ([.ref (mo 0), .int (nI (x1)), .int (nI (0))] : List Value).toArray s 0 0 A) (F0 m 95 ls []) := by
    intro d
    induction d with
    | zero =>
      intro i hi9 ls hl
      have hi8 : i = zk_n k := by omega
      refine lv_iload hx hb dX1_about_95 (lv_at hl 4 rfl) ?_
      refine lv_aload_n hx hb dX1_about_97 rfl (lv_at hl 0 rfl) ?_
      refine zx_get1 (v := .int (nI (zk_n k))) hx hb hts hown hK hP 0 rfl 2 (by decide) zf_X1_7 rfl dX1_about_98 ?_
      refine zr_ige (tgt := 128) hx hb dX1_about_101 (by decide) (by omega) (by omega) (fun _ => ?_) (fun hno9 => absurd hno9 (by omega))
      refine lv_iload_n hx hb dX1_about_128 rfl (lv_at hl 3 rfl) ?_
      rw [hi8]
      exact W.iret (v := nI (zq_pr (zk_t k) (zq_av k ua) (zk_n k))) hx hb hr (fun t9 h9 hW9 => ⟨⟨nI (zq_pr (zk_t k) (zq_av k ua) (zk_n k)), (F, ua, fb, fc, fd), rfl, ⟨by rw [hAf], rfl⟩, by rw [h9]; exact hP, va_K.moved hW9.alike hK, hD⟩, hS.F h9⟩) hS.2.2 dX1_about_129
    | succ d ih =>
      intro i hi9 ls hl
      refine lv_iload hx hb dX1_about_95 (lv_at hl 4 rfl) ?_
      refine lv_aload_n hx hb dX1_about_97 rfl (lv_at hl 0 rfl) ?_
      refine zx_get1 (v := .int (nI (zk_n k))) hx hb hts hown hK hP 0 rfl 2 (by decide) zf_X1_7 rfl dX1_about_98 ?_
      refine zr_ige (tgt := 128) hx hb dX1_about_101 (by decide) (by omega) (by omega) (fun hno9 => absurd hno9 (by omega)) (fun _ => ?_)
      refine lv_iload_n hx hb dX1_about_104 rfl (lv_at hl 3 rfl) ?_
      refine lv_aload_n hx hb dX1_about_105 rfl (lv_at hl 0 rfl) ?_
      refine lv_aload_n hx hb dX1_about_106 rfl (lv_at hl 0 rfl) ?_
      refine zx_get1 (v := .ref (mo 2)) hx hb hts hown hK hP 0 rfl 5 (by decide) zf_X1_20 rfl dX1_about_107 ?_
      refine lv_iload hx hb dX1_about_110 (lv_at hl 4 rfl) ?_
      refine zr_callq (zx_runV (As := [.ref (mo 2), .int (nI (i))]) (rest := [.int (nI (zq_pr (zk_t k) (zq_av k ua) i))]) hx hb hml hts hown (cm_at l dC dI cA tr wr mo 0 k F ua fb fc fd hk 2 (mo 2) ua rfl hlua i (by omega)) zv_X1_58 rfl rfl ⟨Nat.le_of_ble_eq_true rfl, Nat.le_of_ble_eq_true rfl⟩ (zr_preV (q := (RX1, TM1, 9)) (ci := 1) (q0 := 0) hP hK rfl rfl) rfl hl.1 rfl (Nat.le_of_ble_eq_true rfl) dX1_about_112 ⟨Nat.zero_le _, Nat.zero_le _⟩) ?_
      refine zr_imul hx hb dX1_about_115 ?_
      refine lv_aload_n hx hb dX1_about_116 rfl (lv_at hl 0 rfl) ?_
      refine zx_get1 (v := .int (nI (zk_t k))) hx hb hts hown hK hP 0 rfl 3 (by decide) zf_X1_13 rfl dX1_about_117 ?_
      refine zr_irem hx hb dX1_about_120 (zq_b2 (zq_pr_lt (by omega) _ _) (zq_av_lt hk _ _) hb4) (by omega) (by omega) ?_
      refine lv_istore_n (lv' := [(3, .int (nI (((zq_pr (zk_t k) (zq_av k ua) i) * (zq_av k ua i)) % (zk_t k)))), (0, .ref (mo 0)), (1, .int (nI (x1))), (2, .int (nI (0))), (4, .int (nI (i)))]) hx hb dX1_about_121 rfl hl (by decide) rfl (fun ls hl => ?_)
      refine zr_iinc (k := 4) (lv' := [(4, .int (nI (i + 1))), (3, .int (nI (((zq_pr (zk_t k) (zq_av k ua) i) * (zq_av k ua i)) % (zk_t k)))), (0, .ref (mo 0)), (1, .int (nI (x1))), (2, .int (nI (0)))]) hx hb dX1_about_122 hl rfl (by decide) rfl (fun ls hl => ?_)
      refine lv_goto (tgt := 95) hx hb dX1_about_125 (by decide) ?_
      exact ih (i + 1) (by omega) ls (lv_sub hl [2, 3, 4, 1, 0] rfl)
  exact loop (zk_n k) 0 (by omega) ls (lv_sub hl [2, 3, 4, 1, 0] rfl)
set_option maxHeartbeats 4000000 in
set_option maxRecDepth 100000 in
/-- X1_about -/
theorem cm_about1 (l : Launch) (dC : Nat → ClassId) (dI : Nat → Nat → Nat) (cA : ClassId) (tr : List (ClassId × FieldType)) (wr : va_W) (mo : Nat → Nat) (th k : Nat) (F fa fb fc fd : Nat → Nat) (hk : k < 4) (sz : Nat) (x1 : Nat) (hx1 : x1 < 16) (hF : ∀ r j, r < 16 → j < zk_n k → F (32 * r + j) < zk_t k)  : Met l yX1_about wzX1_about (k2_rm 4 93) (zw_pre (dC, dI) zz_cl ((cA, .int) :: tr) (zm_w cA mo th k (zk_n k) (zk_t k) F fa fb fc fd ++ wr) sz [.ref (mo 0), .int (nI (x1)), .int (nI (1))]) (va_Qi (fun r (u : zq_U) => r = nI (zq_ns (zk_n k) (zq_av k (zq_rw F x1)) % zk_t k) ∧ u.1 = F) (zw_at (dC, dI) zz_cl ((cA, .int) :: tr) (va_A (zm_w cA mo th k (zk_n k) (zk_t k) F fa fb fc fd ++ wr) sz) (fun u : zq_U => zm_w cA mo 0 k (zk_n k) (zk_t k) u.1 u.2.1 u.2.2.1 u.2.2.2.1 u.2.2.2.2 ++ wr)) (va_A (zm_w cA mo th k (zk_n k) (zk_t k) F fa fb fc fd ++ wr) sz)) 0 0 (va_A (zm_w cA mo th k (zk_n k) (zk_t k) F fa fb fc fd ++ wr) sz) := by
  refine Met.ofW (cc := cX1_about) (maxL := 7) (ret := (some .int)) (by decide) rfl ?_
  intro p e s m args below meth c s₁ B hml hv
  obtain ⟨rfl, hsz, hP, hK, hD0⟩ := hv
  have hx := B.exec
  have hb := B.bytes
  have hr := B.returns
  have hts := atoms_spec (ws := wzX1_about) B.pre
  have hown : s.vm.findClass RX1 = some m.cls := findClass_of_methodNamed B.named
  have hlocks := B.notSynchronized
  subst hsz
  have hD := hD0.self (sz := s.heap.size)
  generalize hAe : va_A (zm_w cA mo th k (zk_n k) (zk_t k) F fa fb fc fd ++ wr) s.heap.size = A at hD ⊢
  have hA : ∀ q : Nat, s.heap.size ≤ q → A q := fun q h => by rw [← hAe]; exact Or.inr h
  have hS : va_S A s.heap s.heap [] := va_S.rf
  have hl := lv_entry ([.ref (mo 0), .int (nI (x1)), .int (nI (1))]) (n := 7) (Nat.le_of_ble_eq_true rfl)
  rw [lg_entry_eq]
  generalize (lg_sl ([.ref (mo 0), .int (nI (x1)), .int (nI (1))]) ++ List.replicate (7 - (lg_sl ([.ref (mo 0), .int (nI (x1)), .int (nI (1))])).length) Slot.unset).toArray = ls at hl ⊢
  have hl : lv_has ls 7 [(0, .ref (mo 0)), (1, .int (nI (x1))), (2, .int (nI (1)))] := hl
  obtain ⟨hb1, hb2, hb3, hb4, hb5, hb6, hb7, hb8⟩ := zk_b k hk
  refine lv_aload_n hx hb dX1_about_0 rfl (lv_at hl 0 rfl) ?_
  refine lv_iload_n hx hb dX1_about_1 rfl (lv_at hl 1 rfl) ?_
  refine zr_callq (zx_runS (As := [.int (nI (x1))]) (rest := [.ref (mo 0)]) hx hb hml hts hown (cm_none0 l (dC, dI) zz_cl ((cA, .int) :: tr) (zm_w cA mo th k (zk_n k) (zk_t k) F fa fb fc fd ++ wr) x1 (by omega)) zu_X1_46 rfl rfl ⟨Nat.le_of_ble_eq_true rfl, Nat.le_of_ble_eq_true rfl⟩ (zr_preS hP hK) rfl hl.1 rfl (Nat.le_of_ble_eq_true rfl) dX1_about_2 ⟨Nat.zero_le _, Nat.zero_le _⟩) ?_
  refine zr_ifeq (tgt := 12) hx hb dX1_about_5 (by decide) (by omega) (fun _ => ?_) (fun hno9 => absurd hno9 (by omega))
  refine lv_iload_n hx hb dX1_about_12 rfl (lv_at hl 2 rfl) ?_
  refine zr_iflt (tgt := 21) hx hb dX1_about_13 (by decide) (by omega) ?_
  refine lv_iload_n hx hb dX1_about_16 rfl (lv_at hl 2 rfl) ?_
  refine lv_iconst (v := nI 5) hx hb dX1_about_17 (by decide) ?_
  refine zr_ile (tgt := 25) hx hb dX1_about_18 (by decide) (by omega) (by omega) (fun _ => ?_) (fun hno9 => absurd hno9 (by omega))
  refine lv_iconst (v := nI 0) hx hb dX1_about_25 (by decide) ?_
  refine zx_put1 (ws' := (zm_w cA mo 0 k (zk_n k) (zk_t k) F fa fb fc fd ++ wr)) hx hb hts hown hK hP hD hS 0 rfl 0 (by decide) zf_X1_32 rfl (by decide +kernel) (Nat.le_of_ble_eq_true rfl) dX1_about_26 rfl (fun H locs hP hD hS => ?_)
  refine lv_aload_n hx hb dX1_about_29 rfl (lv_at hl 0 rfl) ?_
  refine zx_get1 (v := .int (nI (0))) hx hb hts hown hK hP 0 rfl 0 (by decide) zf_X1_32 rfl dX1_about_30 ?_
  refine zr_ifle (tgt := 38) hx hb dX1_about_33 (by decide) (by omega) (fun _ => ?_) (fun hno9 => absurd hno9 (by omega))
  refine lv_aload_n hx hb dX1_about_38 rfl (lv_at hl 0 rfl) ?_
  refine lv_iload_n hx hb dX1_about_39 rfl (lv_at hl 1 rfl) ?_
  refine lv_aload_n hx hb dX1_about_40 rfl (lv_at hl 0 rfl) ?_
  refine zx_get1 (v := .ref (mo 2)) hx hb hts hown hK hP 0 rfl 5 (by decide) zf_X1_20 rfl dX1_about_41 ?_
  refine zw_callv (w' := fun u : Nat → Nat => zm_w cA mo 0 k (zk_n k) (zk_t k) F u fb fc fd ++ wr) hD hS hA (zx_runV (As := [.int (nI (x1)), .ref (mo 2)]) (rest := []) hx hb hml hts hown (cm_take2 l dC dI cA tr wr mo 0 k F fa fb fc fd hk H.size x1 (by omega)) zv_X1_62 rfl rfl ⟨Nat.le_of_ble_eq_true rfl, Nat.le_of_ble_eq_true rfl⟩ (zw_preV (q := (RX1, TM1, 9)) (ci := 1) (q0 := 0) hP hK hD rfl rfl) rfl hl.1 rfl (Nat.le_of_ble_eq_true rfl) dX1_about_44 ⟨Nat.zero_le _, Nat.zero_le _⟩) (fun ua H locs hua hP hD hS => ?_)
  have hlua : ∀ j, j < zk_n k → ua j < zk_t k := fun j hj => by rw [hua j hj]; exact hF x1 j (by omega) hj
  refine lv_iload_n hx hb dX1_about_47 rfl (lv_at hl 2 rfl) ?_
  refine zr_ifne (tgt := 55) hx hb dX1_about_48 (by decide) (by omega) (fun _ => ?_) (fun hno9 => absurd hno9 (by omega))
  refine lv_iconst (v := nI 0) hx hb dX1_about_55 (by decide) ?_
  refine lv_istore_n (lv' := [(3, .int (nI (0))), (0, .ref (mo 0)), (1, .int (nI (x1))), (2, .int (nI (1)))]) hx hb dX1_about_56 rfl hl (by decide) rfl (fun ls hl => ?_)
  refine lv_iload_n hx hb dX1_about_57 rfl (lv_at hl 3 rfl) ?_
  have hAf : zq_av k ua = zq_av k (zq_rw F x1) := funext (fun i => zq_av_congr hua i)
  refine lv_tableIn (tgt := 130) (off := 72) hx hb dX1_about_58 (by decide) (by decide) (by decide) (by decide) ?_
  refine lv_iconst (v := nI 0) hx hb dX1_about_130 (by decide) ?_
  refine lv_istore (lv' := [(4, .int (nI (0))), (3, .int (nI (0))), (0, .ref (mo 0)), (1, .int (nI (x1))), (2, .int (nI (1)))]) hx hb dX1_about_131 hl (by decide) rfl (fun ls hl => ?_)
  have loop : ∀ (d i : Nat), i + d = zk_n k → ∀ ls, lv_has ls 7 [(0, .ref (mo 0)), (1, .int (nI (x1))), (2, .int (nI (1))), (3, .int (nI (zq_ns i (zq_av k ua) % zk_t k))), (4, .int (nI (i)))] → W p l e (headSpec wzX1_about (k2_rm 4 93)).room s m ([.ref (mo 0), .int (nI (x1)), .int (nI (1))] : List Value).toArray below meth c H locs 0 0 (MQ below (va_Qi (fun r (u : zq_U) => r = nI (zq_ns (zk_n k) (zq_av k (zq_rw F x1)) % zk_t k) ∧ u.1 = F) (zw_at (dC, dI) zz_cl ((cA, .int) :: tr) A (fun u : zq_U => zm_w cA mo 0 k (zk_n k) (zk_t k) u.1 u.2.1 u.2.2.1 u.2.2.2.1 u.2.2.2.2 ++ wr)) A) ([.ref (mo 0), .int (nI (x1)), .int (nI (1))] : List Value).toArray s 0 0 A) (F0 m 133 ls []) := by
    intro d
    induction d with
    | zero =>
      intro i hi9 ls hl
      have hi8 : i = zk_n k := by omega
      refine lv_iload hx hb dX1_about_133 (lv_at hl 4 rfl) ?_
      refine lv_aload_n hx hb dX1_about_135 rfl (lv_at hl 0 rfl) ?_
      refine zx_get1 (v := .int (nI (zk_n k))) hx hb hts hown hK hP 0 rfl 2 (by decide) zf_X1_7 rfl dX1_about_136 ?_
      refine zr_ige (tgt := 166) hx hb dX1_about_139 (by decide) (by omega) (by omega) (fun _ => ?_) (fun hno9 => absurd hno9 (by omega))
      refine lv_iload_n hx hb dX1_about_166 rfl (lv_at hl 3 rfl) ?_
      rw [hi8]
      exact W.iret (v := nI (zq_ns (zk_n k) (zq_av k ua) % zk_t k)) hx hb hr (fun t9 h9 hW9 => ⟨⟨nI (zq_ns (zk_n k) (zq_av k ua) % zk_t k), (F, ua, fb, fc, fd), rfl, ⟨by rw [hAf], rfl⟩, by rw [h9]; exact hP, va_K.moved hW9.alike hK, hD⟩, hS.F h9⟩) hS.2.2 dX1_about_167
    | succ d ih =>
      intro i hi9 ls hl
      have hm9 : zq_ns i (zq_av k ua) % zk_t k < zk_t k := Nat.mod_lt _ (by omega)
      have ha9 := zq_av_lt hk ua i
      refine lv_iload hx hb dX1_about_133 (lv_at hl 4 rfl) ?_
      refine lv_aload_n hx hb dX1_about_135 rfl (lv_at hl 0 rfl) ?_
      refine zx_get1 (v := .int (nI (zk_n k))) hx hb hts hown hK hP 0 rfl 2 (by decide) zf_X1_7 rfl dX1_about_136 ?_
      refine zr_ige (tgt := 166) hx hb dX1_about_139 (by decide) (by omega) (by omega) (fun hno9 => absurd hno9 (by omega)) (fun _ => ?_)
      refine lv_iload_n hx hb dX1_about_142 rfl (lv_at hl 3 rfl) ?_
      refine lv_aload_n hx hb dX1_about_143 rfl (lv_at hl 0 rfl) ?_
      refine lv_aload_n hx hb dX1_about_144 rfl (lv_at hl 0 rfl) ?_
      refine zx_get1 (v := .ref (mo 2)) hx hb hts hown hK hP 0 rfl 5 (by decide) zf_X1_20 rfl dX1_about_145 ?_
      refine lv_iload hx hb dX1_about_148 (lv_at hl 4 rfl) ?_
      refine zr_callq (zx_runV (As := [.ref (mo 2), .int (nI (i))]) (rest := [.int (nI (zq_ns i (zq_av k ua) % zk_t k))]) hx hb hml hts hown (cm_at l dC dI cA tr wr mo 0 k F ua fb fc fd hk 2 (mo 2) ua rfl hlua i (by omega)) zv_X1_58 rfl rfl ⟨Nat.le_of_ble_eq_true rfl, Nat.le_of_ble_eq_true rfl⟩ (zr_preV (q := (RX1, TM1, 9)) (ci := 1) (q0 := 0) hP hK rfl rfl) rfl hl.1 rfl (Nat.le_of_ble_eq_true rfl) dX1_about_150 ⟨Nat.zero_le _, Nat.zero_le _⟩) ?_
      refine zr_iadd hx hb dX1_about_153 ?_
      refine lv_aload_n hx hb dX1_about_154 rfl (lv_at hl 0 rfl) ?_
      refine zx_get1 (v := .int (nI (zk_t k))) hx hb hts hown hK hP 0 rfl 3 (by decide) zf_X1_13 rfl dX1_about_155 ?_
      refine zr_irem hx hb dX1_about_158 (by omega) (by omega) (by omega) ?_
      refine lv_istore_n (lv' := [(3, .int (nI (((zq_ns i (zq_av k ua) % zk_t k) + (zq_av k ua i)) % (zk_t k)))), (0, .ref (mo 0)), (1, .int (nI (x1))), (2, .int (nI (1))), (4, .int (nI (i)))]) hx hb dX1_about_159 rfl hl (by decide) rfl (fun ls hl => ?_)
      refine zr_iinc (k := 4) (lv' := [(4, .int (nI (i + 1))), (3, .int (nI (((zq_ns i (zq_av k ua) % zk_t k) + (zq_av k ua i)) % (zk_t k)))), (0, .ref (mo 0)), (1, .int (nI (x1))), (2, .int (nI (1)))]) hx hb dX1_about_160 hl rfl (by decide) rfl (fun ls hl => ?_)
      refine lv_goto (tgt := 133) hx hb dX1_about_163 (by decide) ?_
      exact ih (i + 1) (by omega) ls (by rw [← zq_su_s]; exact (lv_sub hl [2, 3, 4, 1, 0] rfl))
  exact loop (zk_n k) 0 (by omega) ls (by rw [show zq_ns 0 (zq_av k ua) % zk_t k = 0 from Nat.zero_mod _]; exact (lv_sub hl [2, 3, 4, 1, 0] rfl))
set_option maxHeartbeats 4000000 in
set_option maxRecDepth 100000 in
/-- X1_about -/
theorem cm_about2 (l : Launch) (dC : Nat → ClassId) (dI : Nat → Nat → Nat) (cA : ClassId) (tr : List (ClassId × FieldType)) (wr : va_W) (mo : Nat → Nat) (th k : Nat) (F fa fb fc fd : Nat → Nat) (hk : k < 4) (sz : Nat) (x1 : Nat) (hx1 : x1 < 16) (hF : ∀ r j, r < 16 → j < zk_n k → F (32 * r + j) < zk_t k)  : Met l yX1_about wzX1_about (k2_rm 4 93) (zw_pre (dC, dI) zz_cl ((cA, .int) :: tr) (zm_w cA mo th k (zk_n k) (zk_t k) F fa fb fc fd ++ wr) sz [.ref (mo 0), .int (nI (x1)), .int (nI (2))]) (va_Qi (fun r (u : zq_U) => r = nI (zq_zc (zq_av k (zq_rw F x1)) (zk_n k)) ∧ u.1 = F) (zw_at (dC, dI) zz_cl ((cA, .int) :: tr) (va_A (zm_w cA mo th k (zk_n k) (zk_t k) F fa fb fc fd ++ wr) sz) (fun u : zq_U => zm_w cA mo 0 k (zk_n k) (zk_t k) u.1 u.2.1 u.2.2.1 u.2.2.2.1 u.2.2.2.2 ++ wr)) (va_A (zm_w cA mo th k (zk_n k) (zk_t k) F fa fb fc fd ++ wr) sz)) 0 0 (va_A (zm_w cA mo th k (zk_n k) (zk_t k) F fa fb fc fd ++ wr) sz) := by
  refine Met.ofW (cc := cX1_about) (maxL := 7) (ret := (some .int)) (by decide) rfl ?_
  intro p e s m args below meth c s₁ B hml hv
  obtain ⟨rfl, hsz, hP, hK, hD0⟩ := hv
  have hx := B.exec
  have hb := B.bytes
  have hr := B.returns
  have hts := atoms_spec (ws := wzX1_about) B.pre
  have hown : s.vm.findClass RX1 = some m.cls := findClass_of_methodNamed B.named
  have hlocks := B.notSynchronized
  subst hsz
  have hD := hD0.self (sz := s.heap.size)
  generalize hAe : va_A (zm_w cA mo th k (zk_n k) (zk_t k) F fa fb fc fd ++ wr) s.heap.size = A at hD ⊢
  have hA : ∀ q : Nat, s.heap.size ≤ q → A q := fun q h => by rw [← hAe]; exact Or.inr h
  have hS : va_S A s.heap s.heap [] := va_S.rf
  have hl := lv_entry ([.ref (mo 0), .int (nI (x1)), .int (nI (2))]) (n := 7) (Nat.le_of_ble_eq_true rfl)
  rw [lg_entry_eq]
  generalize (lg_sl ([.ref (mo 0), .int (nI (x1)), .int (nI (2))]) ++ List.replicate (7 - (lg_sl ([.ref (mo 0), .int (nI (x1)), .int (nI (2))])).length) Slot.unset).toArray = ls at hl ⊢
  have hl : lv_has ls 7 [(0, .ref (mo 0)), (1, .int (nI (x1))), (2, .int (nI (2)))] := hl
  obtain ⟨hb1, hb2, hb3, hb4, hb5, hb6, hb7, hb8⟩ := zk_b k hk
  refine lv_aload_n hx hb dX1_about_0 rfl (lv_at hl 0 rfl) ?_
  refine lv_iload_n hx hb dX1_about_1 rfl (lv_at hl 1 rfl) ?_
  refine zr_callq (zx_runS (As := [.int (nI (x1))]) (rest := [.ref (mo 0)]) hx hb hml hts hown (cm_none0 l (dC, dI) zz_cl ((cA, .int) :: tr) (zm_w cA mo th k (zk_n k) (zk_t k) F fa fb fc fd ++ wr) x1 (by omega)) zu_X1_46 rfl rfl ⟨Nat.le_of_ble_eq_true rfl, Nat.le_of_ble_eq_true rfl⟩ (zr_preS hP hK) rfl hl.1 rfl (Nat.le_of_ble_eq_true rfl) dX1_about_2 ⟨Nat.zero_le _, Nat.zero_le _⟩) ?_
  refine zr_ifeq (tgt := 12) hx hb dX1_about_5 (by decide) (by omega) (fun _ => ?_) (fun hno9 => absurd hno9 (by omega))
  refine lv_iload_n hx hb dX1_about_12 rfl (lv_at hl 2 rfl) ?_
  refine zr_iflt (tgt := 21) hx hb dX1_about_13 (by decide) (by omega) ?_
  refine lv_iload_n hx hb dX1_about_16 rfl (lv_at hl 2 rfl) ?_
  refine lv_iconst (v := nI 5) hx hb dX1_about_17 (by decide) ?_
  refine zr_ile (tgt := 25) hx hb dX1_about_18 (by decide) (by omega) (by omega) (fun _ => ?_) (fun hno9 => absurd hno9 (by omega))
  refine lv_iconst (v := nI 0) hx hb dX1_about_25 (by decide) ?_
  refine zx_put1 (ws' := (zm_w cA mo 0 k (zk_n k) (zk_t k) F fa fb fc fd ++ wr)) hx hb hts hown hK hP hD hS 0 rfl 0 (by decide) zf_X1_32 rfl (by decide +kernel) (Nat.le_of_ble_eq_true rfl) dX1_about_26 rfl (fun H locs hP hD hS => ?_)
  refine lv_aload_n hx hb dX1_about_29 rfl (lv_at hl 0 rfl) ?_
  refine zx_get1 (v := .int (nI (0))) hx hb hts hown hK hP 0 rfl 0 (by decide) zf_X1_32 rfl dX1_about_30 ?_
  refine zr_ifle (tgt := 38) hx hb dX1_about_33 (by decide) (by omega) (fun _ => ?_) (fun hno9 => absurd hno9 (by omega))
  refine lv_aload_n hx hb dX1_about_38 rfl (lv_at hl 0 rfl) ?_
  refine lv_iload_n hx hb dX1_about_39 rfl (lv_at hl 1 rfl) ?_
  refine lv_aload_n hx hb dX1_about_40 rfl (lv_at hl 0 rfl) ?_
  refine zx_get1 (v := .ref (mo 2)) hx hb hts hown hK hP 0 rfl 5 (by decide) zf_X1_20 rfl dX1_about_41 ?_
  refine zw_callv (w' := fun u : Nat → Nat => zm_w cA mo 0 k (zk_n k) (zk_t k) F u fb fc fd ++ wr) hD hS hA (zx_runV (As := [.int (nI (x1)), .ref (mo 2)]) (rest := []) hx hb hml hts hown (cm_take2 l dC dI cA tr wr mo 0 k F fa fb fc fd hk H.size x1 (by omega)) zv_X1_62 rfl rfl ⟨Nat.le_of_ble_eq_true rfl, Nat.le_of_ble_eq_true rfl⟩ (zw_preV (q := (RX1, TM1, 9)) (ci := 1) (q0 := 0) hP hK hD rfl rfl) rfl hl.1 rfl (Nat.le_of_ble_eq_true rfl) dX1_about_44 ⟨Nat.zero_le _, Nat.zero_le _⟩) (fun ua H locs hua hP hD hS => ?_)
  have hlua : ∀ j, j < zk_n k → ua j < zk_t k := fun j hj => by rw [hua j hj]; exact hF x1 j (by omega) hj
  refine lv_iload_n hx hb dX1_about_47 rfl (lv_at hl 2 rfl) ?_
  refine zr_ifne (tgt := 55) hx hb dX1_about_48 (by decide) (by omega) (fun _ => ?_) (fun hno9 => absurd hno9 (by omega))
  refine lv_iconst (v := nI 0) hx hb dX1_about_55 (by decide) ?_
  refine lv_istore_n (lv' := [(3, .int (nI (0))), (0, .ref (mo 0)), (1, .int (nI (x1))), (2, .int (nI (2)))]) hx hb dX1_about_56 rfl hl (by decide) rfl (fun ls hl => ?_)
  refine lv_iload_n hx hb dX1_about_57 rfl (lv_at hl 3 rfl) ?_
  have hAf : zq_av k ua = zq_av k (zq_rw F x1) := funext (fun i => zq_av_congr hua i)
  refine lv_tableIn (tgt := 168) (off := 110) hx hb dX1_about_58 (by decide) (by decide) (by decide) (by decide) ?_
  refine lv_aload_n hx hb dX1_about_168 rfl (lv_at hl 1 rfl) ?_
  refine lv_aload_n hx hb dX1_about_169 rfl (lv_at hl 1 rfl) ?_
  refine zx_get1 (v := .ref (mo 2)) hx hb hts hown hK hP 0 rfl 5 (by decide) zf_X1_20 rfl dX1_about_170 ?_
  refine zr_callq (zx_runV (As := [.ref (mo 2)]) (rest := []) hx hb hml hts hown (cm_zeros l dC dI cA tr wr mo 0 k F ua fb fc fd hk 2 (mo 2) ua rfl hlua) zv_X1_77 rfl rfl ⟨Nat.le_of_ble_eq_true rfl, Nat.le_of_ble_eq_true rfl⟩ (zr_preV (q := (RX1, TM1, 9)) (ci := 1) (q0 := 0) hP hK rfl rfl) rfl hl.1 rfl (Nat.le_of_ble_eq_true rfl) dX1_about_173 ⟨Nat.zero_le _, Nat.zero_le _⟩) ?_
  have hzc9 := zq_zc_le (zq_av k ua) (zk_n k)
  exact W.iret (v := nI (zq_zc (zq_av k ua) (zk_n k))) hx hb hr (fun t9 h9 hW9 => ⟨⟨nI (zq_zc (zq_av k ua) (zk_n k)), (F, ua, fb, fc, fd), rfl, ⟨by rw [hAf], rfl⟩, by rw [h9]; exact hP, va_K.moved hW9.alike hK, hD⟩, hS.F h9⟩) hS.2.2 dX1_about_176
set_option maxHeartbeats 4000000 in
set_option maxRecDepth 100000 in
/-- X1_about -/
theorem cm_about3 (l : Launch) (dC : Nat → ClassId) (dI : Nat → Nat → Nat) (cA : ClassId) (tr : List (ClassId × FieldType)) (wr : va_W) (mo : Nat → Nat) (th k : Nat) (F fa fb fc fd : Nat → Nat) (hk : k < 4) (sz : Nat) (x1 : Nat) (hx1 : x1 < 16) (hF : ∀ r j, r < 16 → j < zk_n k → F (32 * r + j) < zk_t k)  : Met l yX1_about wzX1_about (k2_rm 4 93) (zw_pre (dC, dI) zz_cl ((cA, .int) :: tr) (zm_w cA mo th k (zk_n k) (zk_t k) F fa fb fc fd ++ wr) sz [.ref (mo 0), .int (nI (x1)), .int (nI (3))]) (va_Qi (fun r (u : zq_U) => r = nI (zq_dv (zq_av k (zq_rw F x1)) (zk_n k)) ∧ u.1 = F) (zw_at (dC, dI) zz_cl ((cA, .int) :: tr) (va_A (zm_w cA mo th k (zk_n k) (zk_t k) F fa fb fc fd ++ wr) sz) (fun u : zq_U => zm_w cA mo 0 k (zk_n k) (zk_t k) u.1 u.2.1 u.2.2.1 u.2.2.2.1 u.2.2.2.2 ++ wr)) (va_A (zm_w cA mo th k (zk_n k) (zk_t k) F fa fb fc fd ++ wr) sz)) 0 0 (va_A (zm_w cA mo th k (zk_n k) (zk_t k) F fa fb fc fd ++ wr) sz) := by
  refine Met.ofW (cc := cX1_about) (maxL := 7) (ret := (some .int)) (by decide) rfl ?_
  intro p e s m args below meth c s₁ B hml hv
  obtain ⟨rfl, hsz, hP, hK, hD0⟩ := hv
  have hx := B.exec
  have hb := B.bytes
  have hr := B.returns
  have hts := atoms_spec (ws := wzX1_about) B.pre
  have hown : s.vm.findClass RX1 = some m.cls := findClass_of_methodNamed B.named
  have hlocks := B.notSynchronized
  subst hsz
  have hD := hD0.self (sz := s.heap.size)
  generalize hAe : va_A (zm_w cA mo th k (zk_n k) (zk_t k) F fa fb fc fd ++ wr) s.heap.size = A at hD ⊢
  have hA : ∀ q : Nat, s.heap.size ≤ q → A q := fun q h => by rw [← hAe]; exact Or.inr h
  have hS : va_S A s.heap s.heap [] := va_S.rf
  have hl := lv_entry ([.ref (mo 0), .int (nI (x1)), .int (nI (3))]) (n := 7) (Nat.le_of_ble_eq_true rfl)
  rw [lg_entry_eq]
  generalize (lg_sl ([.ref (mo 0), .int (nI (x1)), .int (nI (3))]) ++ List.replicate (7 - (lg_sl ([.ref (mo 0), .int (nI (x1)), .int (nI (3))])).length) Slot.unset).toArray = ls at hl ⊢
  have hl : lv_has ls 7 [(0, .ref (mo 0)), (1, .int (nI (x1))), (2, .int (nI (3)))] := hl
  obtain ⟨hb1, hb2, hb3, hb4, hb5, hb6, hb7, hb8⟩ := zk_b k hk
  refine lv_aload_n hx hb dX1_about_0 rfl (lv_at hl 0 rfl) ?_
  refine lv_iload_n hx hb dX1_about_1 rfl (lv_at hl 1 rfl) ?_
  refine zr_callq (zx_runS (As := [.int (nI (x1))]) (rest := [.ref (mo 0)]) hx hb hml hts hown (cm_none0 l (dC, dI) zz_cl ((cA, .int) :: tr) (zm_w cA mo th k (zk_n k) (zk_t k) F fa fb fc fd ++ wr) x1 (by omega)) zu_X1_46 rfl rfl ⟨Nat.le_of_ble_eq_true rfl, Nat.le_of_ble_eq_true rfl⟩ (zr_preS hP hK) rfl hl.1 rfl (Nat.le_of_ble_eq_true rfl) dX1_about_2 ⟨Nat.zero_le _, Nat.zero_le _⟩) ?_
  refine zr_ifeq (tgt := 12) hx hb dX1_about_5 (by decide) (by omega) (fun _ => ?_) (fun hno9 => absurd hno9 (by omega))
  refine lv_iload_n hx hb dX1_about_12 rfl (lv_at hl 2 rfl) ?_
  refine zr_iflt (tgt := 21) hx hb dX1_about_13 (by decide) (by omega) ?_
  refine lv_iload_n hx hb dX1_about_16 rfl (lv_at hl 2 rfl) ?_
  refine lv_iconst (v := nI 5) hx hb dX1_about_17 (by decide) ?_
  refine zr_ile (tgt := 25) hx hb dX1_about_18 (by decide) (by omega) (by omega) (fun _ => ?_) (fun hno9 => absurd hno9 (by omega))
  refine lv_iconst (v := nI 0) hx hb dX1_about_25 (by decide) ?_
  refine zx_put1 (ws' := (zm_w cA mo 0 k (zk_n k) (zk_t k) F fa fb fc fd ++ wr)) hx hb hts hown hK hP hD hS 0 rfl 0 (by decide) zf_X1_32 rfl (by decide +kernel) (Nat.le_of_ble_eq_true rfl) dX1_about_26 rfl (fun H locs hP hD hS => ?_)
  refine lv_aload_n hx hb dX1_about_29 rfl (lv_at hl 0 rfl) ?_
  refine zx_get1 (v := .int (nI (0))) hx hb hts hown hK hP 0 rfl 0 (by decide) zf_X1_32 rfl dX1_about_30 ?_
  refine zr_ifle (tgt := 38) hx hb dX1_about_33 (by decide) (by omega) (fun _ => ?_) (fun hno9 => absurd hno9 (by omega))
  refine lv_aload_n hx hb dX1_about_38 rfl (lv_at hl 0 rfl) ?_
  refine lv_iload_n hx hb dX1_about_39 rfl (lv_at hl 1 rfl) ?_
  refine lv_aload_n hx hb dX1_about_40 rfl (lv_at hl 0 rfl) ?_
  refine zx_get1 (v := .ref (mo 2)) hx hb hts hown hK hP 0 rfl 5 (by decide) zf_X1_20 rfl dX1_about_41 ?_
  refine zw_callv (w' := fun u : Nat → Nat => zm_w cA mo 0 k (zk_n k) (zk_t k) F u fb fc fd ++ wr) hD hS hA (zx_runV (As := [.int (nI (x1)), .ref (mo 2)]) (rest := []) hx hb hml hts hown (cm_take2 l dC dI cA tr wr mo 0 k F fa fb fc fd hk H.size x1 (by omega)) zv_X1_62 rfl rfl ⟨Nat.le_of_ble_eq_true rfl, Nat.le_of_ble_eq_true rfl⟩ (zw_preV (q := (RX1, TM1, 9)) (ci := 1) (q0 := 0) hP hK hD rfl rfl) rfl hl.1 rfl (Nat.le_of_ble_eq_true rfl) dX1_about_44 ⟨Nat.zero_le _, Nat.zero_le _⟩) (fun ua H locs hua hP hD hS => ?_)
  have hlua : ∀ j, j < zk_n k → ua j < zk_t k := fun j hj => by rw [hua j hj]; exact hF x1 j (by omega) hj
  refine lv_iload_n hx hb dX1_about_47 rfl (lv_at hl 2 rfl) ?_
  refine zr_ifne (tgt := 55) hx hb dX1_about_48 (by decide) (by omega) (fun _ => ?_) (fun hno9 => absurd hno9 (by omega))
  refine lv_iconst (v := nI 0) hx hb dX1_about_55 (by decide) ?_
  refine lv_istore_n (lv' := [(3, .int (nI (0))), (0, .ref (mo 0)), (1, .int (nI (x1))), (2, .int (nI (3)))]) hx hb dX1_about_56 rfl hl (by decide) rfl (fun ls hl => ?_)
  refine lv_iload_n hx hb dX1_about_57 rfl (lv_at hl 3 rfl) ?_
  have hAf : zq_av k ua = zq_av k (zq_rw F x1) := funext (fun i => zq_av_congr hua i)
  refine lv_tableIn (tgt := 177) (off := 119) hx hb dX1_about_58 (by decide) (by decide) (by decide) (by decide) ?_
  refine lv_iconst (v := nI 0) hx hb dX1_about_177 (by decide) ?_
  refine lv_istore (lv' := [(4, .int (nI (0))), (3, .int (nI (0))), (0, .ref (mo 0)), (1, .int (nI (x1))), (2, .int (nI (3)))]) hx hb dX1_about_178 hl (by decide) rfl (fun ls hl => ?_)
  have loop : ∀ (d m9 : Nat), m9 + d = zk_t k → ∀ ls, lv_has ls 7 [(0, .ref (mo 0)), (1, .int (nI (x1))), (2, .int (nI (3))), (3, .int (nI (zq_dw (zq_av k ua) (zk_n k) m9))), (4, .int (nI (m9)))] → W p l e (headSpec wzX1_about (k2_rm 4 93)).room s m ([.ref (mo 0), .int (nI (x1)), .int (nI (3))] : List Value).toArray below meth c H locs 0 0 (MQ below (va_Qi (fun r (u : zq_U) => r = nI (zq_dv (zq_av k (zq_rw F x1)) (zk_n k)) ∧ u.1 = F) (zw_at (dC, dI) zz_cl ((cA, .int) :: tr) A (fun u : zq_U => zm_w cA mo 0 k (zk_n k) (zk_t k) u.1 u.2.1 u.2.2.1 u.2.2.2.1 u.2.2.2.2 ++ wr)) A) ([.ref (mo 0), .int (nI (x1)), .int (nI (3))] : List Value).toArray s 0 0 A) (F0 m 180 ls []) := by
    intro d
    induction d with
    | zero =>
      intro m9 hi9 ls hl
      have hi8 : m9 = zk_t k := by omega
      subst hi8
      refine lv_iload hx hb dX1_about_180 (lv_at hl 4 rfl) ?_
      refine lv_aload_n hx hb dX1_about_182 rfl (lv_at hl 0 rfl) ?_
      refine zx_get1 (v := .int (nI (zk_t k))) hx hb hts hown hK hP 0 rfl 3 (by decide) zf_X1_13 rfl dX1_about_183 ?_
      refine zr_ige (tgt := 249) hx hb dX1_about_186 (by decide) (by omega) (by omega) (fun _ => ?_) (fun hno9 => absurd hno9 (by omega))
      refine lv_iload_n hx hb dX1_about_249 rfl (lv_at hl 3 rfl) ?_
      exact W.iret (v := nI (zq_dw (zq_av k ua) (zk_n k) (zk_t k))) hx hb hr (fun t9 h9 hW9 => ⟨⟨nI (zq_dw (zq_av k ua) (zk_n k) (zk_t k)), (F, ua, fb, fc, fd), rfl, ⟨by rw [zq_dw_dv (zk_n k) (fun i _ => zq_av_lt hk ua i), hAf], rfl⟩, by rw [h9]; exact hP, va_K.moved hW9.alike hK, hD⟩, hS.F h9⟩) hS.2.2 dX1_about_250
    | succ d ih =>
      intro m9 hi9 ls hl
      have hdl := zq_dw_le (zq_av k ua) (zk_n k) m9
      refine lv_iload hx hb dX1_about_180 (lv_at hl 4 rfl) ?_
      refine lv_aload_n hx hb dX1_about_182 rfl (lv_at hl 0 rfl) ?_
      refine zx_get1 (v := .int (nI (zk_t k))) hx hb hts hown hK hP 0 rfl 3 (by decide) zf_X1_13 rfl dX1_about_183 ?_
      refine zr_ige (tgt := 249) hx hb dX1_about_186 (by decide) (by omega) (by omega) (fun hno9 => absurd hno9 (by omega)) (fun _ => ?_)
      refine lv_iconst (v := nI 0) hx hb dX1_about_189 (by decide) ?_
      refine lv_istore (lv' := [(5, .int (nI (0))), (0, .ref (mo 0)), (1, .int (nI (x1))), (2, .int (nI (3))), (3, .int (nI (zq_dw (zq_av k ua) (zk_n k) m9))), (4, .int (nI (m9)))]) hx hb dX1_about_190 hl (by decide) rfl (fun ls hl => ?_)
      refine lv_iconst (v := nI 0) hx hb dX1_about_192 (by decide) ?_
      refine lv_istore (lv' := [(6, .int (nI (0))), (5, .int (nI (0))), (0, .ref (mo 0)), (1, .int (nI (x1))), (2, .int (nI (3))), (3, .int (nI (zq_dw (zq_av k ua) (zk_n k) m9))), (4, .int (nI (m9)))]) hx hb dX1_about_193 hl (by decide) rfl (fun ls hl => ?_)
      have inner : ∀ (d2 i : Nat), i + d2 = zk_n k → ∀ ls, lv_has ls 7 [(0, .ref (mo 0)), (1, .int (nI (x1))), (2, .int (nI (3))), (3, .int (nI (zq_dw (zq_av k ua) (zk_n k) m9))), (4, .int (nI (m9))), (5, .int (nI (zq_is (zq_av k ua) m9 i))), (6, .int (nI (i)))] → W p l e (headSpec wzX1_about (k2_rm 4 93)).room s m ([.ref (mo 0), .int (nI (x1)), .int (nI (3))] : List Value).toArray below meth c H locs 0 0 (MQ below (va_Qi (fun r (u : zq_U) => r = nI (zq_dv (zq_av k (zq_rw F x1)) (zk_n k)) ∧ u.1 = F) (zw_at (dC, dI) zz_cl ((cA, .int) :: tr) A (fun u : zq_U => zm_w cA mo 0 k (zk_n k) (zk_t k) u.1 u.2.1 u.2.2.1 u.2.2.2.1 u.2.2.2.2 ++ wr)) A) ([.ref (mo 0), .int (nI (x1)), .int (nI (3))] : List Value).toArray s 0 0 A) (F0 m 195 ls []) := by
        intro d2
        induction d2 with
        | zero =>
          intro i hi9 ls hl
          have hi8 : i = zk_n k := by omega
          subst hi8
          have hil := zq_is_lt (zq_av k ua) m9 (zk_n k)
          refine lv_iload hx hb dX1_about_195 (lv_at hl 6 rfl) ?_
          refine lv_aload_n hx hb dX1_about_197 rfl (lv_at hl 0 rfl) ?_
          refine zx_get1 (v := .int (nI (zk_n k))) hx hb hts hown hK hP 0 rfl 2 (by decide) zf_X1_7 rfl dX1_about_198 ?_
          refine zr_ige (tgt := 235) hx hb dX1_about_201 (by decide) (by omega) (by omega) (fun _ => ?_) (fun hno9 => absurd hno9 (by omega))
          refine lv_iload hx hb dX1_about_235 (lv_at hl 5 rfl) ?_
          refine zr_ifeq (tgt := 243) hx hb dX1_about_237 (by decide) (by omega) (fun hc => ?_) (fun hc => ?_)
          · refine zr_iinc (k := 4) (lv' := [(4, .int (nI (m9 + 1))), (0, .ref (mo 0)), (1, .int (nI (x1))), (2, .int (nI (3))), (3, .int (nI (zq_dw (zq_av k ua) (zk_n k) m9))), (5, .int (nI (zq_is (zq_av k ua) m9 (zk_n k)))), (6, .int (nI (zk_n k)))]) hx hb dX1_about_243 hl rfl (by decide) rfl (fun ls hl => ?_)
            refine lv_goto (tgt := 180) hx hb dX1_about_246 (by decide) ?_
            exact ih (m9 + 1) (by omega) ls (by rw [show zq_dw (zq_av k ua) (zk_n k) (m9 + 1) = zq_dw (zq_av k ua) (zk_n k) m9 by show _ + zq_is _ _ _ = _; rw [hc]; rfl]; exact (lv_sub hl [1, 2, 3, 4, 0] rfl))
          · refine zr_iinc (k := 3) (lv' := [(3, .int (nI ((zq_dw (zq_av k ua) (zk_n k) m9) + 1))), (0, .ref (mo 0)), (1, .int (nI (x1))), (2, .int (nI (3))), (4, .int (nI (m9))), (5, .int (nI (zq_is (zq_av k ua) m9 (zk_n k)))), (6, .int (nI (zk_n k)))]) hx hb dX1_about_240 hl rfl (by decide) rfl (fun ls hl => ?_)
            refine zr_iinc (k := 4) (lv' := [(4, .int (nI (m9 + 1))), (3, .int (nI ((zq_dw (zq_av k ua) (zk_n k) m9) + 1))), (0, .ref (mo 0)), (1, .int (nI (x1))), (2, .int (nI (3))), (5, .int (nI (zq_is (zq_av k ua) m9 (zk_n k)))), (6, .int (nI (zk_n k)))]) hx hb dX1_about_243 hl rfl (by decide) rfl (fun ls hl => ?_)
            refine lv_goto (tgt := 180) hx hb dX1_about_246 (by decide) ?_
            exact ih (m9 + 1) (by omega) ls (by rw [show zq_dw (zq_av k ua) (zk_n k) (m9 + 1) = zq_dw (zq_av k ua) (zk_n k) m9 + 1 by show _ + zq_is _ _ _ = _; rw [show zq_is (zq_av k ua) m9 (zk_n k) = 1 by omega]]; exact (lv_sub hl [2, 3, 4, 1, 0] rfl))
        | succ d2 ih2 =>
          intro i hi9 ls hl
          have hil := zq_is_lt (zq_av k ua) m9 i
          have ha9 := zq_av_lt hk ua i
          refine lv_iload hx hb dX1_about_195 (lv_at hl 6 rfl) ?_
          refine lv_aload_n hx hb dX1_about_197 rfl (lv_at hl 0 rfl) ?_
          refine zx_get1 (v := .int (nI (zk_n k))) hx hb hts hown hK hP 0 rfl 2 (by decide) zf_X1_7 rfl dX1_about_198 ?_
          refine zr_ige (tgt := 235) hx hb dX1_about_201 (by decide) (by omega) (by omega) (fun hno9 => absurd hno9 (by omega)) (fun _ => ?_)
          refine lv_iload hx hb dX1_about_204 (lv_at hl 5 rfl) ?_
          refine lv_aload_n hx hb dX1_about_206 rfl (lv_at hl 0 rfl) ?_
          refine lv_aload_n hx hb dX1_about_207 rfl (lv_at hl 0 rfl) ?_
          refine zx_get1 (v := .ref (mo 2)) hx hb hts hown hK hP 0 rfl 5 (by decide) zf_X1_20 rfl dX1_about_208 ?_
          refine lv_iload hx hb dX1_about_211 (lv_at hl 6 rfl) ?_
          refine zr_callq (zx_runV (As := [.ref (mo 2), .int (nI (i))]) (rest := [.int (nI (zq_is (zq_av k ua) m9 i))]) hx hb hml hts hown (cm_at l dC dI cA tr wr mo 0 k F ua fb fc fd hk 2 (mo 2) ua rfl hlua i (by omega)) zv_X1_58 rfl rfl ⟨Nat.le_of_ble_eq_true rfl, Nat.le_of_ble_eq_true rfl⟩ (zr_preV (q := (RX1, TM1, 9)) (ci := 1) (q0 := 0) hP hK rfl rfl) rfl hl.1 rfl (Nat.le_of_ble_eq_true rfl) dX1_about_213 ⟨Nat.zero_le _, Nat.zero_le _⟩) ?_
          refine lv_iload hx hb dX1_about_216 (lv_at hl 4 rfl) ?_
          refine zr_ine (tgt := 225) hx hb dX1_about_218 (by decide) (by omega) (by omega) (fun hc => ?_) (fun hc => ?_)
          · refine lv_iconst (v := nI 0) hx hb dX1_about_225 (by decide) ?_
            refine zr_ior01 hx hb dX1_about_226 (by omega) (by omega) ?_
            refine lv_istore (lv' := [(5, .int (nI ((zq_is (zq_av k ua) m9 i) + 0 - (zq_is (zq_av k ua) m9 i) * 0))), (0, .ref (mo 0)), (1, .int (nI (x1))), (2, .int (nI (3))), (3, .int (nI (zq_dw (zq_av k ua) (zk_n k) m9))), (4, .int (nI (m9))), (6, .int (nI (i)))]) hx hb dX1_about_227 hl (by decide) rfl (fun ls hl => ?_)
            refine zr_iinc (k := 6) (lv' := [(6, .int (nI (i + 1))), (5, .int (nI ((zq_is (zq_av k ua) m9 i) + 0 - (zq_is (zq_av k ua) m9 i) * 0))), (0, .ref (mo 0)), (1, .int (nI (x1))), (2, .int (nI (3))), (3, .int (nI (zq_dw (zq_av k ua) (zk_n k) m9))), (4, .int (nI (m9)))]) hx hb dX1_about_229 hl rfl (by decide) rfl (fun ls hl => ?_)
            refine lv_goto (tgt := 195) hx hb dX1_about_232 (by decide) ?_
            exact ih2 (i + 1) (by omega) ls (by rw [zq_is_0 hc]; exact (lv_sub hl [2, 3, 4, 5, 6, 1, 0] rfl))
          · refine lv_iconst (v := nI 1) hx hb dX1_about_221 (by decide) ?_
            refine lv_goto (tgt := 226) hx hb dX1_about_222 (by decide) ?_
            refine zr_ior01 hx hb dX1_about_226 (by omega) (by omega) ?_
            refine lv_istore (lv' := [(5, .int (nI ((zq_is (zq_av k ua) m9 i) + 1 - (zq_is (zq_av k ua) m9 i) * 1))), (0, .ref (mo 0)), (1, .int (nI (x1))), (2, .int (nI (3))), (3, .int (nI (zq_dw (zq_av k ua) (zk_n k) m9))), (4, .int (nI (m9))), (6, .int (nI (i)))]) hx hb dX1_about_227 hl (by decide) rfl (fun ls hl => ?_)
            refine zr_iinc (k := 6) (lv' := [(6, .int (nI (i + 1))), (5, .int (nI ((zq_is (zq_av k ua) m9 i) + 1 - (zq_is (zq_av k ua) m9 i) * 1))), (0, .ref (mo 0)), (1, .int (nI (x1))), (2, .int (nI (3))), (3, .int (nI (zq_dw (zq_av k ua) (zk_n k) m9))), (4, .int (nI (m9)))]) hx hb dX1_about_229 hl rfl (by decide) rfl (fun ls hl => ?_)
            refine lv_goto (tgt := 195) hx hb dX1_about_232 (by decide) ?_
            exact ih2 (i + 1) (by omega) ls (by rw [zq_is_1 hc]; exact (lv_sub hl [2, 3, 4, 5, 6, 1, 0] rfl))
      exact inner (zk_n k) 0 (by omega) ls (lv_sub hl [2, 3, 4, 5, 6, 1, 0] rfl)
  exact loop (zk_t k) 0 (by omega) ls (lv_sub hl [2, 3, 4, 1, 0] rfl)
set_option maxHeartbeats 4000000 in
set_option maxRecDepth 100000 in
/-- X1_about -/
theorem cm_about4 (l : Launch) (dC : Nat → ClassId) (dI : Nat → Nat → Nat) (cA : ClassId) (tr : List (ClassId × FieldType)) (wr : va_W) (mo : Nat → Nat) (th k : Nat) (F fa fb fc fd : Nat → Nat) (hk : k < 4) (sz : Nat) (x1 : Nat) (hx1 : x1 < 16) (hF : ∀ r j, r < 16 → j < zk_n k → F (32 * r + j) < zk_t k) (d0 : Nat) (hd0 : d0 ≤ zk_n k) (hz : ∀ j, d0 ≤ j → j < zk_n k → F (32 * x1 + j) = 0) (hnz : d0 = 0 ∨ F (32 * x1 + (d0 - 1)) ≠ 0) : Met l yX1_about wzX1_about (k2_rm 4 93) (zw_pre (dC, dI) zz_cl ((cA, .int) :: tr) (zm_w cA mo th k (zk_n k) (zk_t k) F fa fb fc fd ++ wr) sz [.ref (mo 0), .int (nI (x1)), .int (nI (4))]) (va_Qi (fun r (u : zq_U) => r = nI d0 + (-1) ∧ u.1 = F) (zw_at (dC, dI) zz_cl ((cA, .int) :: tr) (va_A (zm_w cA mo th k (zk_n k) (zk_t k) F fa fb fc fd ++ wr) sz) (fun u : zq_U => zm_w cA mo 0 k (zk_n k) (zk_t k) u.1 u.2.1 u.2.2.1 u.2.2.2.1 u.2.2.2.2 ++ wr)) (va_A (zm_w cA mo th k (zk_n k) (zk_t k) F fa fb fc fd ++ wr) sz)) 0 0 (va_A (zm_w cA mo th k (zk_n k) (zk_t k) F fa fb fc fd ++ wr) sz) := by
  refine Met.ofW (cc := cX1_about) (maxL := 7) (ret := (some .int)) (by decide) rfl ?_
  intro p e s m args below meth c s₁ B hml hv
  obtain ⟨rfl, hsz, hP, hK, hD0⟩ := hv
  have hx := B.exec
  have hb := B.bytes
  have hr := B.returns
  have hts := atoms_spec (ws := wzX1_about) B.pre
  have hown : s.vm.findClass RX1 = some m.cls := findClass_of_methodNamed B.named
  have hlocks := B.notSynchronized
  subst hsz
  have hD := hD0.self (sz := s.heap.size)
  generalize hAe : va_A (zm_w cA mo th k (zk_n k) (zk_t k) F fa fb fc fd ++ wr) s.heap.size = A at hD ⊢
  have hA : ∀ q : Nat, s.heap.size ≤ q → A q := fun q h => by rw [← hAe]; exact Or.inr h
  have hS : va_S A s.heap s.heap [] := va_S.rf
  have hl := lv_entry ([.ref (mo 0), .int (nI (x1)), .int (nI (4))]) (n := 7) (Nat.le_of_ble_eq_true rfl)
  rw [lg_entry_eq]
  generalize (lg_sl ([.ref (mo 0), .int (nI (x1)), .int (nI (4))]) ++ List.replicate (7 - (lg_sl ([.ref (mo 0), .int (nI (x1)), .int (nI (4))])).length) Slot.unset).toArray = ls at hl ⊢
  have hl : lv_has ls 7 [(0, .ref (mo 0)), (1, .int (nI (x1))), (2, .int (nI (4)))] := hl
  obtain ⟨hb1, hb2, hb3, hb4, hb5, hb6, hb7, hb8⟩ := zk_b k hk
  refine lv_aload_n hx hb dX1_about_0 rfl (lv_at hl 0 rfl) ?_
  refine lv_iload_n hx hb dX1_about_1 rfl (lv_at hl 1 rfl) ?_
  refine zr_callq (zx_runS (As := [.int (nI (x1))]) (rest := [.ref (mo 0)]) hx hb hml hts hown (cm_none0 l (dC, dI) zz_cl ((cA, .int) :: tr) (zm_w cA mo th k (zk_n k) (zk_t k) F fa fb fc fd ++ wr) x1 (by omega)) zu_X1_46 rfl rfl ⟨Nat.le_of_ble_eq_true rfl, Nat.le_of_ble_eq_true rfl⟩ (zr_preS hP hK) rfl hl.1 rfl (Nat.le_of_ble_eq_true rfl) dX1_about_2 ⟨Nat.zero_le _, Nat.zero_le _⟩) ?_
  refine zr_ifeq (tgt := 12) hx hb dX1_about_5 (by decide) (by omega) (fun _ => ?_) (fun hno9 => absurd hno9 (by omega))
  refine lv_iload_n hx hb dX1_about_12 rfl (lv_at hl 2 rfl) ?_
  refine zr_iflt (tgt := 21) hx hb dX1_about_13 (by decide) (by omega) ?_
  refine lv_iload_n hx hb dX1_about_16 rfl (lv_at hl 2 rfl) ?_
  refine lv_iconst (v := nI 5) hx hb dX1_about_17 (by decide) ?_
  refine zr_ile (tgt := 25) hx hb dX1_about_18 (by decide) (by omega) (by omega) (fun _ => ?_) (fun hno9 => absurd hno9 (by omega))
  refine lv_iconst (v := nI 0) hx hb dX1_about_25 (by decide) ?_
  refine zx_put1 (ws' := (zm_w cA mo 0 k (zk_n k) (zk_t k) F fa fb fc fd ++ wr)) hx hb hts hown hK hP hD hS 0 rfl 0 (by decide) zf_X1_32 rfl (by decide +kernel) (Nat.le_of_ble_eq_true rfl) dX1_about_26 rfl (fun H locs hP hD hS => ?_)
  refine lv_aload_n hx hb dX1_about_29 rfl (lv_at hl 0 rfl) ?_
  refine zx_get1 (v := .int (nI (0))) hx hb hts hown hK hP 0 rfl 0 (by decide) zf_X1_32 rfl dX1_about_30 ?_
  refine zr_ifle (tgt := 38) hx hb dX1_about_33 (by decide) (by omega) (fun _ => ?_) (fun hno9 => absurd hno9 (by omega))
  refine lv_aload_n hx hb dX1_about_38 rfl (lv_at hl 0 rfl) ?_
  refine lv_iload_n hx hb dX1_about_39 rfl (lv_at hl 1 rfl) ?_
  refine lv_aload_n hx hb dX1_about_40 rfl (lv_at hl 0 rfl) ?_
  refine zx_get1 (v := .ref (mo 2)) hx hb hts hown hK hP 0 rfl 5 (by decide) zf_X1_20 rfl dX1_about_41 ?_
  refine zw_callv (w' := fun u : Nat → Nat => zm_w cA mo 0 k (zk_n k) (zk_t k) F u fb fc fd ++ wr) hD hS hA (zx_runV (As := [.int (nI (x1)), .ref (mo 2)]) (rest := []) hx hb hml hts hown (cm_take2 l dC dI cA tr wr mo 0 k F fa fb fc fd hk H.size x1 (by omega)) zv_X1_62 rfl rfl ⟨Nat.le_of_ble_eq_true rfl, Nat.le_of_ble_eq_true rfl⟩ (zw_preV (q := (RX1, TM1, 9)) (ci := 1) (q0 := 0) hP hK hD rfl rfl) rfl hl.1 rfl (Nat.le_of_ble_eq_true rfl) dX1_about_44 ⟨Nat.zero_le _, Nat.zero_le _⟩) (fun ua H locs hua hP hD hS => ?_)
  have hlua : ∀ j, j < zk_n k → ua j < zk_t k := fun j hj => by rw [hua j hj]; exact hF x1 j (by omega) hj
  refine lv_iload_n hx hb dX1_about_47 rfl (lv_at hl 2 rfl) ?_
  refine zr_ifne (tgt := 55) hx hb dX1_about_48 (by decide) (by omega) (fun _ => ?_) (fun hno9 => absurd hno9 (by omega))
  refine lv_iconst (v := nI 0) hx hb dX1_about_55 (by decide) ?_
  refine lv_istore_n (lv' := [(3, .int (nI (0))), (0, .ref (mo 0)), (1, .int (nI (x1))), (2, .int (nI (4)))]) hx hb dX1_about_56 rfl hl (by decide) rfl (fun ls hl => ?_)
  refine lv_iload_n hx hb dX1_about_57 rfl (lv_at hl 3 rfl) ?_
  have hAf : zq_av k ua = zq_av k (zq_rw F x1) := funext (fun i => zq_av_congr hua i)
  refine lv_tableIn (tgt := 251) (off := 193) hx hb dX1_about_58 (by decide) (by decide) (by decide) (by decide) ?_
  refine lv_aload_n hx hb dX1_about_251 rfl (lv_at hl 1 rfl) ?_
  refine zx_get1 (v := .int (nI (zk_n k))) hx hb hts hown hK hP 0 rfl 2 (by decide) zf_X1_7 rfl dX1_about_252 ?_
  refine lv_iconst (v := nI 1) hx hb dX1_about_255 (by decide) ?_
  refine zr_isub hx hb dX1_about_256 (by omega) ?_
  refine lv_istore_n (lv' := [(3, .int (nI ((zk_n k) - 1))), (0, .ref (mo 0)), (1, .int (nI (x1))), (2, .int (nI (4)))]) hx hb dX1_about_257 rfl hl (by decide) rfl (fun ls hl => ?_)
  have loop : ∀ (u r : Nat), r + 1 = d0 + u → r < zk_n k → ∀ ls, lv_has ls 7 [(0, .ref (mo 0)), (1, .int (nI (x1))), (3, .int (nI (r)))] → W p l e (headSpec wzX1_about (k2_rm 4 93)).room s m ([.ref (mo 0), .int (nI (x1)), .int (nI (4))] : List Value).toArray below meth c H locs 0 0 (MQ below (va_Qi (fun r (u : zq_U) => r = nI d0 + (-1) ∧ u.1 = F) (zw_at (dC, dI) zz_cl ((cA, .int) :: tr) A (fun u : zq_U => zm_w cA mo 0 k (zk_n k) (zk_t k) u.1 u.2.1 u.2.2.1 u.2.2.2.1 u.2.2.2.2 ++ wr)) A) ([.ref (mo 0), .int (nI (x1)), .int (nI (4))] : List Value).toArray s 0 0 A) (F0 m 258 ls []) := by
    intro u
    induction u with
    | zero =>
      intro r hr1 hrn ls hl
      have hlr := hlua r (by omega)
      refine lv_iload_n hx hb dX1_about_258 rfl (lv_at hl 2 rfl) ?_
      refine zr_iflt (tgt := 277) hx hb dX1_about_259 (by decide) (by omega) ?_
      refine lv_aload_n hx hb dX1_about_262 rfl (lv_at hl 0 rfl) ?_
      refine zx_get1 (v := .ref (mo 2)) hx hb hts hown hK hP 0 rfl 5 (by decide) zf_X1_20 rfl dX1_about_263 ?_
      refine lv_iload_n hx hb dX1_about_266 rfl (lv_at hl 2 rfl) ?_
      refine zr_iald (y := ua r) hx hb hK hP 2 0 rfl rfl (by omega) (by decide) rfl dX1_about_267 ?_
      refine zr_ifne (tgt := 277) hx hb dX1_about_268 (by decide) (by omega) (fun _ => ?_) (fun hno9 => absurd hno9 (fun hh => hnz.elim (fun hh2 => by omega) (fun hh2 => hh2 (by rw [show d0 - 1 = r by omega, ← hua r hrn]; exact hh))))
      refine lv_iload_n hx hb dX1_about_277 rfl (lv_at hl 2 rfl) ?_
      exact W.iret (v := nI r) hx hb hr (fun t9 h9 hW9 => ⟨⟨nI r, (F, ua, fb, fc, fd), rfl, ⟨by rw [show d0 = r + 1 by omega, pk_m1], rfl⟩, by rw [h9]; exact hP, va_K.moved hW9.alike hK, hD⟩, hS.F h9⟩) hS.2.2 dX1_about_278
    | succ u ih =>
      intro r hr1 hrn ls hl
      have hlr := hlua r (by omega)
      refine lv_iload_n hx hb dX1_about_258 rfl (lv_at hl 2 rfl) ?_
      refine zr_iflt (tgt := 277) hx hb dX1_about_259 (by decide) (by omega) ?_
      refine lv_aload_n hx hb dX1_about_262 rfl (lv_at hl 0 rfl) ?_
      refine zx_get1 (v := .ref (mo 2)) hx hb hts hown hK hP 0 rfl 5 (by decide) zf_X1_20 rfl dX1_about_263 ?_
      refine lv_iload_n hx hb dX1_about_266 rfl (lv_at hl 2 rfl) ?_
      refine zr_iald (y := ua r) hx hb hK hP 2 0 rfl rfl (by omega) (by decide) rfl dX1_about_267 ?_
      refine zr_ifne (tgt := 277) hx hb dX1_about_268 (by decide) (by omega) (fun hno9 => absurd hno9 (fun hh => hh (by rw [hua r hrn]; exact hz r (by omega) hrn))) (fun _ => ?_)
      rcases Nat.eq_zero_or_pos r with h0 | h0
      · subst h0
        refine lv_iinc (k := 2) (v := -1) (lv' := [(3, .int (-1)), (0, .ref (mo 0)), (1, .int (nI (x1)))]) hx hb dX1_about_271 hl rfl (by decide) (by decide) rfl (fun ls hl => ?_)
        refine lv_goto (tgt := 258) hx hb dX1_about_274 (by decide) ?_
        refine lv_iload_n hx hb dX1_about_258 rfl (lv_at hl 0 rfl) ?_
        refine lv_if_lt (tgt := 277) hx hb dX1_about_259 (by decide) (fun _ => ?_) (fun hh => absurd (show (-1 : Int32) < 0 by decide) hh)
        refine lv_iload_n hx hb dX1_about_277 rfl (lv_at hl 0 rfl) ?_
        exact W.iret (v := (-1)) hx hb hr (fun t9 h9 hW9 => ⟨⟨(-1), (F, ua, fb, fc, fd), rfl, ⟨by rw [show d0 = 0 by omega]; decide, rfl⟩, by rw [h9]; exact hP, va_K.moved hW9.alike hK, hD⟩, hS.F h9⟩) hS.2.2 dX1_about_278
      · obtain ⟨r2, rfl⟩ : ∃ r2, r = r2 + 1 := ⟨r - 1, by omega⟩
        refine zr_idec (k := 2) (lv' := [(3, .int (nI (r2))), (0, .ref (mo 0)), (1, .int (nI (x1)))]) hx hb dX1_about_271 hl rfl (by decide) rfl (fun ls hl => ?_)
        refine lv_goto (tgt := 258) hx hb dX1_about_274 (by decide) ?_
        exact ih r2 (by omega) (by omega) ls (lv_sub hl [1, 2, 0] rfl)
  exact loop (zk_n k - d0) (zk_n k - 1) (by omega) (by omega) ls (lv_sub hl [1, 2, 0] rfl)
set_option maxHeartbeats 4000000 in
set_option maxRecDepth 100000 in
/-- X1_about -/
theorem cm_about5 (l : Launch) (dC : Nat → ClassId) (dI : Nat → Nat → Nat) (cA : ClassId) (tr : List (ClassId × FieldType)) (wr : va_W) (mo : Nat → Nat) (th k : Nat) (F fa fb fc fd : Nat → Nat) (hk : k < 4) (sz : Nat) (x1 : Nat) (hx1 : x1 < 16) (hF : ∀ r j, r < 16 → j < zk_n k → F (32 * r + j) < zk_t k) (m0 : Nat) (hm1 : 1 ≤ m0) (hmn : m0 ≤ 1000) (hlt : ∀ j, 1 ≤ j → j < m0 → ¬ (∀ i, i < zk_n k → zq_av k (zq_rw F x1) (zk_d k (3 ^ j % (2 * zk_n k)) i) = zq_av k (zq_rw F x1) i)) (hend : ∀ i, i < zk_n k → zq_av k (zq_rw F x1) (zk_d k (3 ^ m0 % (2 * zk_n k)) i) = zq_av k (zq_rw F x1) i) : Met l yX1_about wzX1_about (k2_rm 4 93) (zw_pre (dC, dI) zz_cl ((cA, .int) :: tr) (zm_w cA mo th k (zk_n k) (zk_t k) F fa fb fc fd ++ wr) sz [.ref (mo 0), .int (nI (x1)), .int (nI (5))]) (va_Qi (fun r (u : zq_U) => r = nI m0 ∧ u.1 = F) (zw_at (dC, dI) zz_cl ((cA, .int) :: tr) (va_A (zm_w cA mo th k (zk_n k) (zk_t k) F fa fb fc fd ++ wr) sz) (fun u : zq_U => zm_w cA mo 0 k (zk_n k) (zk_t k) u.1 u.2.1 u.2.2.1 u.2.2.2.1 u.2.2.2.2 ++ wr)) (va_A (zm_w cA mo th k (zk_n k) (zk_t k) F fa fb fc fd ++ wr) sz)) 0 0 (va_A (zm_w cA mo th k (zk_n k) (zk_t k) F fa fb fc fd ++ wr) sz) := by
  refine Met.ofW (cc := cX1_about) (maxL := 7) (ret := (some .int)) (by decide) rfl ?_
  intro p e s m args below meth c s₁ B hml hv
  obtain ⟨rfl, hsz, hP, hK, hD0⟩ := hv
  have hx := B.exec
  have hb := B.bytes
  have hr := B.returns
  have hts := atoms_spec (ws := wzX1_about) B.pre
  have hown : s.vm.findClass RX1 = some m.cls := findClass_of_methodNamed B.named
  have hlocks := B.notSynchronized
  subst hsz
  have hD := hD0.self (sz := s.heap.size)
  generalize hAe : va_A (zm_w cA mo th k (zk_n k) (zk_t k) F fa fb fc fd ++ wr) s.heap.size = A at hD ⊢
  have hA : ∀ q : Nat, s.heap.size ≤ q → A q := fun q h => by rw [← hAe]; exact Or.inr h
  have hS : va_S A s.heap s.heap [] := va_S.rf
  have hl := lv_entry ([.ref (mo 0), .int (nI (x1)), .int (nI (5))]) (n := 7) (Nat.le_of_ble_eq_true rfl)
  rw [lg_entry_eq]
  generalize (lg_sl ([.ref (mo 0), .int (nI (x1)), .int (nI (5))]) ++ List.replicate (7 - (lg_sl ([.ref (mo 0), .int (nI (x1)), .int (nI (5))])).length) Slot.unset).toArray = ls at hl ⊢
  have hl : lv_has ls 7 [(0, .ref (mo 0)), (1, .int (nI (x1))), (2, .int (nI (5)))] := hl
  obtain ⟨hb1, hb2, hb3, hb4, hb5, hb6, hb7, hb8⟩ := zk_b k hk
  refine lv_aload_n hx hb dX1_about_0 rfl (lv_at hl 0 rfl) ?_
  refine lv_iload_n hx hb dX1_about_1 rfl (lv_at hl 1 rfl) ?_
  refine zr_callq (zx_runS (As := [.int (nI (x1))]) (rest := [.ref (mo 0)]) hx hb hml hts hown (cm_none0 l (dC, dI) zz_cl ((cA, .int) :: tr) (zm_w cA mo th k (zk_n k) (zk_t k) F fa fb fc fd ++ wr) x1 (by omega)) zu_X1_46 rfl rfl ⟨Nat.le_of_ble_eq_true rfl, Nat.le_of_ble_eq_true rfl⟩ (zr_preS hP hK) rfl hl.1 rfl (Nat.le_of_ble_eq_true rfl) dX1_about_2 ⟨Nat.zero_le _, Nat.zero_le _⟩) ?_
  refine zr_ifeq (tgt := 12) hx hb dX1_about_5 (by decide) (by omega) (fun _ => ?_) (fun hno9 => absurd hno9 (by omega))
  refine lv_iload_n hx hb dX1_about_12 rfl (lv_at hl 2 rfl) ?_
  refine zr_iflt (tgt := 21) hx hb dX1_about_13 (by decide) (by omega) ?_
  refine lv_iload_n hx hb dX1_about_16 rfl (lv_at hl 2 rfl) ?_
  refine lv_iconst (v := nI 5) hx hb dX1_about_17 (by decide) ?_
  refine zr_ile (tgt := 25) hx hb dX1_about_18 (by decide) (by omega) (by omega) (fun _ => ?_) (fun hno9 => absurd hno9 (by omega))
  refine lv_iconst (v := nI 0) hx hb dX1_about_25 (by decide) ?_
  refine zx_put1 (ws' := (zm_w cA mo 0 k (zk_n k) (zk_t k) F fa fb fc fd ++ wr)) hx hb hts hown hK hP hD hS 0 rfl 0 (by decide) zf_X1_32 rfl (by decide +kernel) (Nat.le_of_ble_eq_true rfl) dX1_about_26 rfl (fun H locs hP hD hS => ?_)
  refine lv_aload_n hx hb dX1_about_29 rfl (lv_at hl 0 rfl) ?_
  refine zx_get1 (v := .int (nI (0))) hx hb hts hown hK hP 0 rfl 0 (by decide) zf_X1_32 rfl dX1_about_30 ?_
  refine zr_ifle (tgt := 38) hx hb dX1_about_33 (by decide) (by omega) (fun _ => ?_) (fun hno9 => absurd hno9 (by omega))
  refine lv_aload_n hx hb dX1_about_38 rfl (lv_at hl 0 rfl) ?_
  refine lv_iload_n hx hb dX1_about_39 rfl (lv_at hl 1 rfl) ?_
  refine lv_aload_n hx hb dX1_about_40 rfl (lv_at hl 0 rfl) ?_
  refine zx_get1 (v := .ref (mo 2)) hx hb hts hown hK hP 0 rfl 5 (by decide) zf_X1_20 rfl dX1_about_41 ?_
  refine zw_callv (w' := fun u : Nat → Nat => zm_w cA mo 0 k (zk_n k) (zk_t k) F u fb fc fd ++ wr) hD hS hA (zx_runV (As := [.int (nI (x1)), .ref (mo 2)]) (rest := []) hx hb hml hts hown (cm_take2 l dC dI cA tr wr mo 0 k F fa fb fc fd hk H.size x1 (by omega)) zv_X1_62 rfl rfl ⟨Nat.le_of_ble_eq_true rfl, Nat.le_of_ble_eq_true rfl⟩ (zw_preV (q := (RX1, TM1, 9)) (ci := 1) (q0 := 0) hP hK hD rfl rfl) rfl hl.1 rfl (Nat.le_of_ble_eq_true rfl) dX1_about_44 ⟨Nat.zero_le _, Nat.zero_le _⟩) (fun ua H locs hua hP hD hS => ?_)
  have hlua : ∀ j, j < zk_n k → ua j < zk_t k := fun j hj => by rw [hua j hj]; exact hF x1 j (by omega) hj
  refine lv_iload_n hx hb dX1_about_47 rfl (lv_at hl 2 rfl) ?_
  refine zr_ifne (tgt := 55) hx hb dX1_about_48 (by decide) (by omega) (fun _ => ?_) (fun hno9 => absurd hno9 (by omega))
  refine lv_iconst (v := nI 0) hx hb dX1_about_55 (by decide) ?_
  refine lv_istore_n (lv' := [(3, .int (nI (0))), (0, .ref (mo 0)), (1, .int (nI (x1))), (2, .int (nI (5)))]) hx hb dX1_about_56 rfl hl (by decide) rfl (fun ls hl => ?_)
  refine lv_iload_n hx hb dX1_about_57 rfl (lv_at hl 3 rfl) ?_
  have hAf : zq_av k ua = zq_av k (zq_rw F x1) := funext (fun i => zq_av_congr hua i)
  refine lv_tableOut (tgt := 279) hx hb dX1_about_58 (by decide) (by decide) ?_
  refine lv_iconst (v := nI 1) hx hb dX1_about_279 (by decide) ?_
  refine lv_istore (lv' := [(4, .int (nI (1))), (3, .int (nI (0))), (0, .ref (mo 0)), (1, .int (nI (x1))), (2, .int (nI (5)))]) hx hb dX1_about_280 hl (by decide) rfl (fun ls hl => ?_)
  refine lv_iconst (v := nI 0) hx hb dX1_about_282 (by decide) ?_
  refine lv_istore (lv' := [(5, .int (nI (0))), (4, .int (nI (1))), (3, .int (nI (0))), (0, .ref (mo 0)), (1, .int (nI (x1))), (2, .int (nI (5)))]) hx hb dX1_about_283 hl (by decide) rfl (fun ls hl => ?_)
  have main : ∀ (d m9 : Nat), m9 + (d + 1) = m0 → ∀ (Gb : Nat → Nat) (H : Heap) (locs : List Loc), va_P (dC, dI) zz_cl (zm_w cA mo 0 k (zk_n k) (zk_t k) F ua Gb fc fd ++ wr) H → va_D A (zm_w cA mo 0 k (zk_n k) (zk_t k) F ua Gb fc fd ++ wr) → va_S A s.heap H locs → ∀ ls, lv_has ls 7 [(0, .ref (mo 0)), (1, .int (nI (x1))), (3, .int (nI (m9))), (4, .int (nI (3 ^ m9 % (2 * zk_n k)))), (5, .int (nI (0)))] → W p l e (headSpec wzX1_about (k2_rm 4 93)).room s m ([.ref (mo 0), .int (nI (x1)), .int (nI (5))] : List Value).toArray below meth c H locs 0 0 (MQ below (va_Qi (fun r (u : zq_U) => r = nI m0 ∧ u.1 = F) (zw_at (dC, dI) zz_cl ((cA, .int) :: tr) A (fun u : zq_U => zm_w cA mo 0 k (zk_n k) (zk_t k) u.1 u.2.1 u.2.2.1 u.2.2.2.1 u.2.2.2.2 ++ wr)) A) ([.ref (mo 0), .int (nI (x1)), .int (nI (5))] : List Value).toArray s 0 0 A) (F0 m 285 ls []) := by
    intro d
    induction d with
    | zero =>
      intro m9 hm9 Gb H locs hP hD hS ls hl
      have hg9 : 3 ^ m9 % (2 * zk_n k) < 2 * zk_n k := Nat.mod_lt _ (by omega)
      have hg8 : 3 ^ (m9 + 1) % (2 * zk_n k) < 2 * zk_n k := Nat.mod_lt _ (by omega)
      have hod := zk_3o (zk_n k) (m9 + 1)
      refine lv_iload hx hb dX1_about_285 (lv_at hl 4 rfl) ?_
      refine zr_ifne (tgt := 363) hx hb dX1_about_287 (by decide) (by omega) (fun hno9 => absurd hno9 (by omega)) (fun _ => ?_)
      refine zr_iinc (k := 2) (lv' := [(3, .int (nI (m9 + 1))), (0, .ref (mo 0)), (1, .int (nI (x1))), (4, .int (nI (3 ^ m9 % (2 * zk_n k)))), (5, .int (nI (0)))]) hx hb dX1_about_290 hl rfl (by decide) rfl (fun ls hl => ?_)
      refine lv_iconst (v := nI 3) hx hb dX1_about_293 (by decide) ?_
      refine lv_iload hx hb dX1_about_294 (lv_at hl 3 rfl) ?_
      refine zr_imul hx hb dX1_about_296 ?_
      refine lv_iconst (v := nI 2) hx hb dX1_about_297 (by decide) ?_
      refine lv_aload_n hx hb dX1_about_298 rfl (lv_at hl 1 rfl) ?_
      refine zx_get1 (v := .int (nI (zk_n k))) hx hb hts hown hK hP 0 rfl 2 (by decide) zf_X1_7 rfl dX1_about_299 ?_
      refine zr_imul hx hb dX1_about_302 ?_
      refine zr_irem hx hb dX1_about_303 (by omega) (by omega) (by omega) ?_
      rw [zk_3s]
      refine lv_istore (lv' := [(4, .int (nI (3 ^ (m9 + 1) % (2 * zk_n k)))), (3, .int (nI (m9 + 1))), (0, .ref (mo 0)), (1, .int (nI (x1))), (5, .int (nI (0)))]) hx hb dX1_about_304 hl (by decide) rfl (fun ls hl => ?_)
      refine lv_aload_n hx hb dX1_about_306 rfl (lv_at hl 2 rfl) ?_
      refine lv_iload hx hb dX1_about_307 (lv_at hl 0 rfl) ?_
      refine zw_callv (w' := fun u : Nat → Nat => zm_w cA mo 0 k (zk_n k) (zk_t k) F ua u fc fd ++ wr) hD hS hA (zx_runV (As := [.int (nI (3 ^ (m9 + 1) % (2 * zk_n k)))]) (rest := []) hx hb hml hts hown (cm_turn1 l dC dI cA tr wr mo 0 k F ua Gb fc fd hk H.size (3 ^ (m9 + 1) % (2 * zk_n k)) hg8 hod hlua) zv_X1_96 rfl rfl ⟨Nat.le_of_ble_eq_true rfl, Nat.le_of_ble_eq_true rfl⟩ (zw_preV (q := (RX1, TM1, 9)) (ci := 1) (q0 := 0) hP hK hD rfl rfl) rfl hl.1 rfl (Nat.le_of_ble_eq_true rfl) dX1_about_309 ⟨Nat.zero_le _, Nat.zero_le _⟩) (fun ub H locs hub hP hD hS => ?_)
      have hlub : ∀ j, j < zk_n k → ub j < zk_t k := fun j hj => zq_tn_lt hk hg8 hod hlua hub hj
      refine lv_iconst (v := nI 1) hx hb dX1_about_312 (by decide) ?_
      refine lv_istore (lv' := [(5, .int (nI (1))), (4, .int (nI (3 ^ (m9 + 1) % (2 * zk_n k)))), (3, .int (nI (m9 + 1))), (0, .ref (mo 0)), (1, .int (nI (x1)))]) hx hb dX1_about_313 hl (by decide) rfl (fun ls hl => ?_)
      refine lv_iconst (v := nI 0) hx hb dX1_about_315 (by decide) ?_
      refine lv_istore (lv' := [(6, .int (nI (0))), (5, .int (nI (1))), (4, .int (nI (3 ^ (m9 + 1) % (2 * zk_n k)))), (3, .int (nI (m9 + 1))), (0, .ref (mo 0)), (1, .int (nI (x1)))]) hx hb dX1_about_316 hl (by decide) rfl (fun ls hl => ?_)
      have inner : ∀ (d2 i : Nat), i + d2 = zk_n k → ∀ ls, lv_has ls 7 [(0, .ref (mo 0)), (1, .int (nI (x1))), (3, .int (nI (m9 + 1))), (4, .int (nI (3 ^ (m9 + 1) % (2 * zk_n k)))), (5, .int (nI (zq_sm ua ub i))), (6, .int (nI (i)))] → W p l e (headSpec wzX1_about (k2_rm 4 93)).room s m ([.ref (mo 0), .int (nI (x1)), .int (nI (5))] : List Value).toArray below meth c H locs 0 0 (MQ below (va_Qi (fun r (u : zq_U) => r = nI m0 ∧ u.1 = F) (zw_at (dC, dI) zz_cl ((cA, .int) :: tr) A (fun u : zq_U => zm_w cA mo 0 k (zk_n k) (zk_t k) u.1 u.2.1 u.2.2.1 u.2.2.2.1 u.2.2.2.2 ++ wr)) A) ([.ref (mo 0), .int (nI (x1)), .int (nI (5))] : List Value).toArray s 0 0 A) (F0 m 318 ls []) := by
        intro d2
        induction d2 with
        | zero =>
          intro i hi9 ls hl
          have hi8 : i = zk_n k := by omega
          subst hi8
          refine lv_iload hx hb dX1_about_318 (lv_at hl 5 rfl) ?_
          refine lv_aload_n hx hb dX1_about_320 rfl (lv_at hl 0 rfl) ?_
          refine zx_get1 (v := .int (nI (zk_n k))) hx hb hts hown hK hP 0 rfl 2 (by decide) zf_X1_7 rfl dX1_about_321 ?_
          refine zr_ige (tgt := 360) hx hb dX1_about_324 (by decide) (by omega) (by omega) (fun _ => ?_) (fun hno9 => absurd hno9 (by omega))
          refine lv_goto (tgt := 285) hx hb dX1_about_360 (by decide) ?_
          have hsl := zq_sm_lt ua ub (zk_n k)
          have hm8 : m9 + 1 = m0 := by omega
          have hs1 : zq_sm ua ub (zk_n k) = 1 := (zq_sm_av hk hg8 hod hlua hub).mpr (fun i hi => by rw [hm8, hAf]; exact hend i hi)
          refine lv_iload hx hb dX1_about_285 (lv_at hl 4 rfl) ?_
          refine zr_ifne (tgt := 363) hx hb dX1_about_287 (by decide) (by omega) (fun _ => ?_) (fun hno9 => absurd hno9 (by omega))
          refine lv_iload_n hx hb dX1_about_363 rfl (lv_at hl 2 rfl) ?_
          exact W.iret (v := nI (m9 + 1)) hx hb hr (fun t9 h9 hW9 => ⟨⟨nI (m9 + 1), (F, ua, ub, fc, fd), rfl, ⟨congrArg nI hm8, rfl⟩, by rw [h9]; exact hP, va_K.moved hW9.alike hK, hD⟩, hS.F h9⟩) hS.2.2 dX1_about_364
        | succ d2 ih2 =>
          intro i hi9 ls hl
          have hsl := zq_sm_lt ua ub i
          have ha9 := hlua i (by omega)
          have hb9 := hlub i (by omega)
          refine lv_iload hx hb dX1_about_318 (lv_at hl 5 rfl) ?_
          refine lv_aload_n hx hb dX1_about_320 rfl (lv_at hl 0 rfl) ?_
          refine zx_get1 (v := .int (nI (zk_n k))) hx hb hts hown hK hP 0 rfl 2 (by decide) zf_X1_7 rfl dX1_about_321 ?_
          refine zr_ige (tgt := 360) hx hb dX1_about_324 (by decide) (by omega) (by omega) (fun hno9 => absurd hno9 (by omega)) (fun _ => ?_)
          refine lv_iload hx hb dX1_about_327 (lv_at hl 4 rfl) ?_
          refine lv_aload_n hx hb dX1_about_329 rfl (lv_at hl 0 rfl) ?_
          refine zx_get1 (v := .ref (mo 2)) hx hb hts hown hK hP 0 rfl 5 (by decide) zf_X1_20 rfl dX1_about_330 ?_
          refine lv_iload hx hb dX1_about_333 (lv_at hl 5 rfl) ?_
          refine zr_iald (y := ua i) hx hb hK hP 2 0 rfl rfl (by omega) (by decide) rfl dX1_about_335 ?_
          refine lv_aload_n hx hb dX1_about_336 rfl (lv_at hl 0 rfl) ?_
          refine zx_get1 (v := .ref (mo 3)) hx hb hts hown hK hP 0 rfl 6 (by decide) zf_X1_23 rfl dX1_about_337 ?_
          refine lv_iload hx hb dX1_about_340 (lv_at hl 5 rfl) ?_
          refine zr_iald (y := ub i) hx hb hK hP 3 0 rfl rfl (by omega) (by decide) rfl dX1_about_342 ?_
          refine zr_ine (tgt := 350) hx hb dX1_about_343 (by decide) (by omega) (by omega) (fun hc => ?_) (fun hc => ?_)
          · refine lv_iconst (v := nI 0) hx hb dX1_about_350 (by decide) ?_
            refine zr_iand01 hx hb dX1_about_351 (by omega) (by omega) ?_
            refine lv_istore (lv' := [(5, .int (nI ((zq_sm ua ub i) * 0))), (0, .ref (mo 0)), (1, .int (nI (x1))), (3, .int (nI (m9 + 1))), (4, .int (nI (3 ^ (m9 + 1) % (2 * zk_n k)))), (6, .int (nI (i)))]) hx hb dX1_about_352 hl (by decide) rfl (fun ls hl => ?_)
            refine zr_iinc (k := 5) (lv' := [(6, .int (nI (i + 1))), (5, .int (nI ((zq_sm ua ub i) * 0))), (0, .ref (mo 0)), (1, .int (nI (x1))), (3, .int (nI (m9 + 1))), (4, .int (nI (3 ^ (m9 + 1) % (2 * zk_n k))))]) hx hb dX1_about_354 hl rfl (by decide) rfl (fun ls hl => ?_)
            refine lv_goto (tgt := 318) hx hb dX1_about_357 (by decide) ?_
            exact ih2 (i + 1) (by omega) ls (by rw [zq_sm_0 hc]; exact (lv_sub hl [2, 3, 4, 5, 1, 0] rfl))
          · refine lv_iconst (v := nI 1) hx hb dX1_about_346 (by decide) ?_
            refine lv_goto (tgt := 351) hx hb dX1_about_347 (by decide) ?_
            refine zr_iand01 hx hb dX1_about_351 (by omega) (by omega) ?_
            refine lv_istore (lv' := [(5, .int (nI ((zq_sm ua ub i) * 1))), (0, .ref (mo 0)), (1, .int (nI (x1))), (3, .int (nI (m9 + 1))), (4, .int (nI (3 ^ (m9 + 1) % (2 * zk_n k)))), (6, .int (nI (i)))]) hx hb dX1_about_352 hl (by decide) rfl (fun ls hl => ?_)
            refine zr_iinc (k := 5) (lv' := [(6, .int (nI (i + 1))), (5, .int (nI ((zq_sm ua ub i) * 1))), (0, .ref (mo 0)), (1, .int (nI (x1))), (3, .int (nI (m9 + 1))), (4, .int (nI (3 ^ (m9 + 1) % (2 * zk_n k))))]) hx hb dX1_about_354 hl rfl (by decide) rfl (fun ls hl => ?_)
            refine lv_goto (tgt := 318) hx hb dX1_about_357 (by decide) ?_
            exact ih2 (i + 1) (by omega) ls (by rw [zq_sm_1 hc]; exact (lv_sub hl [2, 3, 4, 5, 1, 0] rfl))
      exact inner (zk_n k) 0 (by omega) ls (lv_sub hl [4, 5, 3, 2, 1, 0] rfl)
    | succ d ih =>
      intro m9 hm9 Gb H locs hP hD hS ls hl
      have hg9 : 3 ^ m9 % (2 * zk_n k) < 2 * zk_n k := Nat.mod_lt _ (by omega)
      have hg8 : 3 ^ (m9 + 1) % (2 * zk_n k) < 2 * zk_n k := Nat.mod_lt _ (by omega)
      have hod := zk_3o (zk_n k) (m9 + 1)
      refine lv_iload hx hb dX1_about_285 (lv_at hl 4 rfl) ?_
      refine zr_ifne (tgt := 363) hx hb dX1_about_287 (by decide) (by omega) (fun hno9 => absurd hno9 (by omega)) (fun _ => ?_)
      refine zr_iinc (k := 2) (lv' := [(3, .int (nI (m9 + 1))), (0, .ref (mo 0)), (1, .int (nI (x1))), (4, .int (nI (3 ^ m9 % (2 * zk_n k)))), (5, .int (nI (0)))]) hx hb dX1_about_290 hl rfl (by decide) rfl (fun ls hl => ?_)
      refine lv_iconst (v := nI 3) hx hb dX1_about_293 (by decide) ?_
      refine lv_iload hx hb dX1_about_294 (lv_at hl 3 rfl) ?_
      refine zr_imul hx hb dX1_about_296 ?_
      refine lv_iconst (v := nI 2) hx hb dX1_about_297 (by decide) ?_
      refine lv_aload_n hx hb dX1_about_298 rfl (lv_at hl 1 rfl) ?_
      refine zx_get1 (v := .int (nI (zk_n k))) hx hb hts hown hK hP 0 rfl 2 (by decide) zf_X1_7 rfl dX1_about_299 ?_
      refine zr_imul hx hb dX1_about_302 ?_
      refine zr_irem hx hb dX1_about_303 (by omega) (by omega) (by omega) ?_
      rw [zk_3s]
      refine lv_istore (lv' := [(4, .int (nI (3 ^ (m9 + 1) % (2 * zk_n k)))), (3, .int (nI (m9 + 1))), (0, .ref (mo 0)), (1, .int (nI (x1))), (5, .int (nI (0)))]) hx hb dX1_about_304 hl (by decide) rfl (fun ls hl => ?_)
      refine lv_aload_n hx hb dX1_about_306 rfl (lv_at hl 2 rfl) ?_
      refine lv_iload hx hb dX1_about_307 (lv_at hl 0 rfl) ?_
      refine zw_callv (w' := fun u : Nat → Nat => zm_w cA mo 0 k (zk_n k) (zk_t k) F ua u fc fd ++ wr) hD hS hA (zx_runV (As := [.int (nI (3 ^ (m9 + 1) % (2 * zk_n k)))]) (rest := []) hx hb hml hts hown (cm_turn1 l dC dI cA tr wr mo 0 k F ua Gb fc fd hk H.size (3 ^ (m9 + 1) % (2 * zk_n k)) hg8 hod hlua) zv_X1_96 rfl rfl ⟨Nat.le_of_ble_eq_true rfl, Nat.le_of_ble_eq_true rfl⟩ (zw_preV (q := (RX1, TM1, 9)) (ci := 1) (q0 := 0) hP hK hD rfl rfl) rfl hl.1 rfl (Nat.le_of_ble_eq_true rfl) dX1_about_309 ⟨Nat.zero_le _, Nat.zero_le _⟩) (fun ub H locs hub hP hD hS => ?_)
      have hlub : ∀ j, j < zk_n k → ub j < zk_t k := fun j hj => zq_tn_lt hk hg8 hod hlua hub hj
      refine lv_iconst (v := nI 1) hx hb dX1_about_312 (by decide) ?_
      refine lv_istore (lv' := [(5, .int (nI (1))), (4, .int (nI (3 ^ (m9 + 1) % (2 * zk_n k)))), (3, .int (nI (m9 + 1))), (0, .ref (mo 0)), (1, .int (nI (x1)))]) hx hb dX1_about_313 hl (by decide) rfl (fun ls hl => ?_)
      refine lv_iconst (v := nI 0) hx hb dX1_about_315 (by decide) ?_
      refine lv_istore (lv' := [(6, .int (nI (0))), (5, .int (nI (1))), (4, .int (nI (3 ^ (m9 + 1) % (2 * zk_n k)))), (3, .int (nI (m9 + 1))), (0, .ref (mo 0)), (1, .int (nI (x1)))]) hx hb dX1_about_316 hl (by decide) rfl (fun ls hl => ?_)
      have inner : ∀ (d2 i : Nat), i + d2 = zk_n k → ∀ ls, lv_has ls 7 [(0, .ref (mo 0)), (1, .int (nI (x1))), (3, .int (nI (m9 + 1))), (4, .int (nI (3 ^ (m9 + 1) % (2 * zk_n k)))), (5, .int (nI (zq_sm ua ub i))), (6, .int (nI (i)))] → W p l e (headSpec wzX1_about (k2_rm 4 93)).room s m ([.ref (mo 0), .int (nI (x1)), .int (nI (5))] : List Value).toArray below meth c H locs 0 0 (MQ below (va_Qi (fun r (u : zq_U) => r = nI m0 ∧ u.1 = F) (zw_at (dC, dI) zz_cl ((cA, .int) :: tr) A (fun u : zq_U => zm_w cA mo 0 k (zk_n k) (zk_t k) u.1 u.2.1 u.2.2.1 u.2.2.2.1 u.2.2.2.2 ++ wr)) A) ([.ref (mo 0), .int (nI (x1)), .int (nI (5))] : List Value).toArray s 0 0 A) (F0 m 318 ls []) := by
        intro d2
        induction d2 with
        | zero =>
          intro i hi9 ls hl
          have hi8 : i = zk_n k := by omega
          subst hi8
          refine lv_iload hx hb dX1_about_318 (lv_at hl 5 rfl) ?_
          refine lv_aload_n hx hb dX1_about_320 rfl (lv_at hl 0 rfl) ?_
          refine zx_get1 (v := .int (nI (zk_n k))) hx hb hts hown hK hP 0 rfl 2 (by decide) zf_X1_7 rfl dX1_about_321 ?_
          refine zr_ige (tgt := 360) hx hb dX1_about_324 (by decide) (by omega) (by omega) (fun _ => ?_) (fun hno9 => absurd hno9 (by omega))
          refine lv_goto (tgt := 285) hx hb dX1_about_360 (by decide) ?_
          have hsl := zq_sm_lt ua ub (zk_n k)
          have hs1 : zq_sm ua ub (zk_n k) = 0 := by
            have hs2 : ¬ zq_sm ua ub (zk_n k) = 1 := fun hh => hlt (m9 + 1) (by omega) (by omega) (fun i hi => by rw [← hAf]; exact (zq_sm_av hk hg8 hod hlua hub).mp hh i hi)
            omega
          rw [hs1] at hl
          exact ih (m9 + 1) (by omega) ub H locs hP hD hS ls (lv_sub hl [0, 1, 2, 3, 4] rfl)
        | succ d2 ih2 =>
          intro i hi9 ls hl
          have hsl := zq_sm_lt ua ub i
          have ha9 := hlua i (by omega)
          have hb9 := hlub i (by omega)
          refine lv_iload hx hb dX1_about_318 (lv_at hl 5 rfl) ?_
          refine lv_aload_n hx hb dX1_about_320 rfl (lv_at hl 0 rfl) ?_
          refine zx_get1 (v := .int (nI (zk_n k))) hx hb hts hown hK hP 0 rfl 2 (by decide) zf_X1_7 rfl dX1_about_321 ?_
          refine zr_ige (tgt := 360) hx hb dX1_about_324 (by decide) (by omega) (by omega) (fun hno9 => absurd hno9 (by omega)) (fun _ => ?_)
          refine lv_iload hx hb dX1_about_327 (lv_at hl 4 rfl) ?_
          refine lv_aload_n hx hb dX1_about_329 rfl (lv_at hl 0 rfl) ?_
          refine zx_get1 (v := .ref (mo 2)) hx hb hts hown hK hP 0 rfl 5 (by decide) zf_X1_20 rfl dX1_about_330 ?_
          refine lv_iload hx hb dX1_about_333 (lv_at hl 5 rfl) ?_
          refine zr_iald (y := ua i) hx hb hK hP 2 0 rfl rfl (by omega) (by decide) rfl dX1_about_335 ?_
          refine lv_aload_n hx hb dX1_about_336 rfl (lv_at hl 0 rfl) ?_
          refine zx_get1 (v := .ref (mo 3)) hx hb hts hown hK hP 0 rfl 6 (by decide) zf_X1_23 rfl dX1_about_337 ?_
          refine lv_iload hx hb dX1_about_340 (lv_at hl 5 rfl) ?_
          refine zr_iald (y := ub i) hx hb hK hP 3 0 rfl rfl (by omega) (by decide) rfl dX1_about_342 ?_
          refine zr_ine (tgt := 350) hx hb dX1_about_343 (by decide) (by omega) (by omega) (fun hc => ?_) (fun hc => ?_)
          · refine lv_iconst (v := nI 0) hx hb dX1_about_350 (by decide) ?_
            refine zr_iand01 hx hb dX1_about_351 (by omega) (by omega) ?_
            refine lv_istore (lv' := [(5, .int (nI ((zq_sm ua ub i) * 0))), (0, .ref (mo 0)), (1, .int (nI (x1))), (3, .int (nI (m9 + 1))), (4, .int (nI (3 ^ (m9 + 1) % (2 * zk_n k)))), (6, .int (nI (i)))]) hx hb dX1_about_352 hl (by decide) rfl (fun ls hl => ?_)
            refine zr_iinc (k := 5) (lv' := [(6, .int (nI (i + 1))), (5, .int (nI ((zq_sm ua ub i) * 0))), (0, .ref (mo 0)), (1, .int (nI (x1))), (3, .int (nI (m9 + 1))), (4, .int (nI (3 ^ (m9 + 1) % (2 * zk_n k))))]) hx hb dX1_about_354 hl rfl (by decide) rfl (fun ls hl => ?_)
            refine lv_goto (tgt := 318) hx hb dX1_about_357 (by decide) ?_
            exact ih2 (i + 1) (by omega) ls (by rw [zq_sm_0 hc]; exact (lv_sub hl [2, 3, 4, 5, 1, 0] rfl))
          · refine lv_iconst (v := nI 1) hx hb dX1_about_346 (by decide) ?_
            refine lv_goto (tgt := 351) hx hb dX1_about_347 (by decide) ?_
            refine zr_iand01 hx hb dX1_about_351 (by omega) (by omega) ?_
            refine lv_istore (lv' := [(5, .int (nI ((zq_sm ua ub i) * 1))), (0, .ref (mo 0)), (1, .int (nI (x1))), (3, .int (nI (m9 + 1))), (4, .int (nI (3 ^ (m9 + 1) % (2 * zk_n k)))), (6, .int (nI (i)))]) hx hb dX1_about_352 hl (by decide) rfl (fun ls hl => ?_)
            refine zr_iinc (k := 5) (lv' := [(6, .int (nI (i + 1))), (5, .int (nI ((zq_sm ua ub i) * 1))), (0, .ref (mo 0)), (1, .int (nI (x1))), (3, .int (nI (m9 + 1))), (4, .int (nI (3 ^ (m9 + 1) % (2 * zk_n k))))]) hx hb dX1_about_354 hl rfl (by decide) rfl (fun ls hl => ?_)
            refine lv_goto (tgt := 318) hx hb dX1_about_357 (by decide) ?_
            exact ih2 (i + 1) (by omega) ls (by rw [zq_sm_1 hc]; exact (lv_sub hl [2, 3, 4, 5, 1, 0] rfl))
      exact inner (zk_n k) 0 (by omega) ls (lv_sub hl [4, 5, 3, 2, 1, 0] rfl)
  exact main (m0 - 1) 0 (by omega) fb H locs hP hD hS ls (by rw [Nat.pow_zero, Nat.mod_eq_of_lt (show 1 < 2 * zk_n k by omega)]; exact (lv_sub hl [3, 4, 2, 1, 0] rfl))
set_option maxHeartbeats 4000000 in
set_option maxRecDepth 100000 in
/-- X1_count -/
theorem cm_count0 (l : Launch) (dC : Nat → ClassId) (dI : Nat → Nat → Nat) (cA : ClassId) (tr : List (ClassId × FieldType)) (wr : va_W) (mo : Nat → Nat) (th k : Nat) (F fa fb fc fd : Nat → Nat) (hk : k < 4) (sz : Nat)  : Met l yX1_count wzX1_count (k2_rm 4 93) (zw_pre (dC, dI) zz_cl ((cA, .int) :: tr) (zm_w cA mo th k (zk_n k) (zk_t k) F fa fb fc fd ++ wr) sz [.ref (mo 0), .int (nI (0))]) (va_Qi (fun r (u : zq_U) => r = nI (k) ∧ u.1 = F) (zw_at (dC, dI) zz_cl ((cA, .int) :: tr) (va_A (zm_w cA mo th k (zk_n k) (zk_t k) F fa fb fc fd ++ wr) sz) (fun u : zq_U => zm_w cA mo 0 k (zk_n k) (zk_t k) u.1 u.2.1 u.2.2.1 u.2.2.2.1 u.2.2.2.2 ++ wr)) (va_A (zm_w cA mo th k (zk_n k) (zk_t k) F fa fb fc fd ++ wr) sz)) 0 0 (va_A (zm_w cA mo th k (zk_n k) (zk_t k) F fa fb fc fd ++ wr) sz) := by
  refine Met.ofW (cc := cX1_count) (maxL := 4) (ret := (some .int)) (by decide) rfl ?_
  intro p e s m args below meth c s₁ B hml hv
  obtain ⟨rfl, hsz, hP, hK, hD0⟩ := hv
  have hx := B.exec
  have hb := B.bytes
  have hr := B.returns
  have hts := atoms_spec (ws := wzX1_count) B.pre
  have hown : s.vm.findClass RX1 = some m.cls := findClass_of_methodNamed B.named
  have hlocks := B.notSynchronized
  subst hsz
  have hD := hD0.self (sz := s.heap.size)
  generalize hAe : va_A (zm_w cA mo th k (zk_n k) (zk_t k) F fa fb fc fd ++ wr) s.heap.size = A at hD ⊢
  have hA : ∀ q : Nat, s.heap.size ≤ q → A q := fun q h => by rw [← hAe]; exact Or.inr h
  have hS : va_S A s.heap s.heap [] := va_S.rf
  have hl := lv_entry ([.ref (mo 0), .int (nI (0))]) (n := 4) (Nat.le_of_ble_eq_true rfl)
  rw [lg_entry_eq]
  generalize (lg_sl ([.ref (mo 0), .int (nI (0))]) ++ List.replicate (4 - (lg_sl ([.ref (mo 0), .int (nI (0))])).length) Slot.unset).toArray = ls at hl ⊢
  have hl : lv_has ls 4 [(0, .ref (mo 0)), (1, .int (nI (0)))] := hl
  obtain ⟨hb1, hb2, hb3, hb4, hb5, hb6, hb7, hb8⟩ := zk_b k hk
  refine lv_aload_n hx hb dX1_count_0 rfl (lv_at hl 0 rfl) ?_
  refine lv_iconst (v := nI 0) hx hb dX1_count_1 (by decide) ?_
  refine zx_put1 (ws' := (zm_w cA mo 0 k (zk_n k) (zk_t k) F fa fb fc fd ++ wr)) hx hb hts hown hK hP hD hS 0 rfl 0 (by decide) zf_X1_32 rfl (by decide +kernel) (Nat.le_of_ble_eq_true rfl) dX1_count_2 rfl (fun H locs hP hD hS => ?_)
  refine lv_iload_n hx hb dX1_count_5 rfl (lv_at hl 1 rfl) ?_
  refine lv_tableIn (tgt := 40) (off := 34) hx hb dX1_count_6 (by decide) (by decide) (by decide) (by decide) ?_
  refine lv_aload_n hx hb dX1_count_40 rfl (lv_at hl 0 rfl) ?_
  refine zx_get1 (v := .int (nI (k))) hx hb hts hown hK hP 0 rfl 1 (by decide) zf_X1_39 rfl dX1_count_41 ?_
  exact W.iret (v := nI (k)) hx hb hr (fun t9 h9 hW9 => ⟨⟨nI (k), (F, fa, fb, fc, fd), rfl, ⟨rfl, rfl⟩, by rw [h9]; exact hP, va_K.moved hW9.alike hK, hD⟩, hS.F h9⟩) hS.2.2 dX1_count_44
set_option maxHeartbeats 4000000 in
set_option maxRecDepth 100000 in
/-- X1_count -/
theorem cm_count1 (l : Launch) (dC : Nat → ClassId) (dI : Nat → Nat → Nat) (cA : ClassId) (tr : List (ClassId × FieldType)) (wr : va_W) (mo : Nat → Nat) (th k : Nat) (F fa fb fc fd : Nat → Nat) (hk : k < 4) (sz : Nat)  : Met l yX1_count wzX1_count (k2_rm 4 93) (zw_pre (dC, dI) zz_cl ((cA, .int) :: tr) (zm_w cA mo th k (zk_n k) (zk_t k) F fa fb fc fd ++ wr) sz [.ref (mo 0), .int (nI (1))]) (va_Qi (fun r (u : zq_U) => r = nI (zk_n k) ∧ u.1 = F) (zw_at (dC, dI) zz_cl ((cA, .int) :: tr) (va_A (zm_w cA mo th k (zk_n k) (zk_t k) F fa fb fc fd ++ wr) sz) (fun u : zq_U => zm_w cA mo 0 k (zk_n k) (zk_t k) u.1 u.2.1 u.2.2.1 u.2.2.2.1 u.2.2.2.2 ++ wr)) (va_A (zm_w cA mo th k (zk_n k) (zk_t k) F fa fb fc fd ++ wr) sz)) 0 0 (va_A (zm_w cA mo th k (zk_n k) (zk_t k) F fa fb fc fd ++ wr) sz) := by
  refine Met.ofW (cc := cX1_count) (maxL := 4) (ret := (some .int)) (by decide) rfl ?_
  intro p e s m args below meth c s₁ B hml hv
  obtain ⟨rfl, hsz, hP, hK, hD0⟩ := hv
  have hx := B.exec
  have hb := B.bytes
  have hr := B.returns
  have hts := atoms_spec (ws := wzX1_count) B.pre
  have hown : s.vm.findClass RX1 = some m.cls := findClass_of_methodNamed B.named
  have hlocks := B.notSynchronized
  subst hsz
  have hD := hD0.self (sz := s.heap.size)
  generalize hAe : va_A (zm_w cA mo th k (zk_n k) (zk_t k) F fa fb fc fd ++ wr) s.heap.size = A at hD ⊢
  have hA : ∀ q : Nat, s.heap.size ≤ q → A q := fun q h => by rw [← hAe]; exact Or.inr h
  have hS : va_S A s.heap s.heap [] := va_S.rf
  have hl := lv_entry ([.ref (mo 0), .int (nI (1))]) (n := 4) (Nat.le_of_ble_eq_true rfl)
  rw [lg_entry_eq]
  generalize (lg_sl ([.ref (mo 0), .int (nI (1))]) ++ List.replicate (4 - (lg_sl ([.ref (mo 0), .int (nI (1))])).length) Slot.unset).toArray = ls at hl ⊢
  have hl : lv_has ls 4 [(0, .ref (mo 0)), (1, .int (nI (1)))] := hl
  obtain ⟨hb1, hb2, hb3, hb4, hb5, hb6, hb7, hb8⟩ := zk_b k hk
  refine lv_aload_n hx hb dX1_count_0 rfl (lv_at hl 0 rfl) ?_
  refine lv_iconst (v := nI 0) hx hb dX1_count_1 (by decide) ?_
  refine zx_put1 (ws' := (zm_w cA mo 0 k (zk_n k) (zk_t k) F fa fb fc fd ++ wr)) hx hb hts hown hK hP hD hS 0 rfl 0 (by decide) zf_X1_32 rfl (by decide +kernel) (Nat.le_of_ble_eq_true rfl) dX1_count_2 rfl (fun H locs hP hD hS => ?_)
  refine lv_iload_n hx hb dX1_count_5 rfl (lv_at hl 1 rfl) ?_
  refine lv_tableIn (tgt := 45) (off := 39) hx hb dX1_count_6 (by decide) (by decide) (by decide) (by decide) ?_
  refine lv_aload_n hx hb dX1_count_45 rfl (lv_at hl 0 rfl) ?_
  refine zx_get1 (v := .int (nI (zk_n k))) hx hb hts hown hK hP 0 rfl 2 (by decide) zf_X1_7 rfl dX1_count_46 ?_
  exact W.iret (v := nI (zk_n k)) hx hb hr (fun t9 h9 hW9 => ⟨⟨nI (zk_n k), (F, fa, fb, fc, fd), rfl, ⟨rfl, rfl⟩, by rw [h9]; exact hP, va_K.moved hW9.alike hK, hD⟩, hS.F h9⟩) hS.2.2 dX1_count_49
set_option maxHeartbeats 4000000 in
set_option maxRecDepth 100000 in
/-- X1_count -/
theorem cm_count2 (l : Launch) (dC : Nat → ClassId) (dI : Nat → Nat → Nat) (cA : ClassId) (tr : List (ClassId × FieldType)) (wr : va_W) (mo : Nat → Nat) (th k : Nat) (F fa fb fc fd : Nat → Nat) (hk : k < 4) (sz : Nat)  : Met l yX1_count wzX1_count (k2_rm 4 93) (zw_pre (dC, dI) zz_cl ((cA, .int) :: tr) (zm_w cA mo th k (zk_n k) (zk_t k) F fa fb fc fd ++ wr) sz [.ref (mo 0), .int (nI (2))]) (va_Qi (fun r (u : zq_U) => r = nI (zk_t k) ∧ u.1 = F) (zw_at (dC, dI) zz_cl ((cA, .int) :: tr) (va_A (zm_w cA mo th k (zk_n k) (zk_t k) F fa fb fc fd ++ wr) sz) (fun u : zq_U => zm_w cA mo 0 k (zk_n k) (zk_t k) u.1 u.2.1 u.2.2.1 u.2.2.2.1 u.2.2.2.2 ++ wr)) (va_A (zm_w cA mo th k (zk_n k) (zk_t k) F fa fb fc fd ++ wr) sz)) 0 0 (va_A (zm_w cA mo th k (zk_n k) (zk_t k) F fa fb fc fd ++ wr) sz) := by
  refine Met.ofW (cc := cX1_count) (maxL := 4) (ret := (some .int)) (by decide) rfl ?_
  intro p e s m args below meth c s₁ B hml hv
  obtain ⟨rfl, hsz, hP, hK, hD0⟩ := hv
  have hx := B.exec
  have hb := B.bytes
  have hr := B.returns
  have hts := atoms_spec (ws := wzX1_count) B.pre
  have hown : s.vm.findClass RX1 = some m.cls := findClass_of_methodNamed B.named
  have hlocks := B.notSynchronized
  subst hsz
  have hD := hD0.self (sz := s.heap.size)
  generalize hAe : va_A (zm_w cA mo th k (zk_n k) (zk_t k) F fa fb fc fd ++ wr) s.heap.size = A at hD ⊢
  have hA : ∀ q : Nat, s.heap.size ≤ q → A q := fun q h => by rw [← hAe]; exact Or.inr h
  have hS : va_S A s.heap s.heap [] := va_S.rf
  have hl := lv_entry ([.ref (mo 0), .int (nI (2))]) (n := 4) (Nat.le_of_ble_eq_true rfl)
  rw [lg_entry_eq]
  generalize (lg_sl ([.ref (mo 0), .int (nI (2))]) ++ List.replicate (4 - (lg_sl ([.ref (mo 0), .int (nI (2))])).length) Slot.unset).toArray = ls at hl ⊢
  have hl : lv_has ls 4 [(0, .ref (mo 0)), (1, .int (nI (2)))] := hl
  obtain ⟨hb1, hb2, hb3, hb4, hb5, hb6, hb7, hb8⟩ := zk_b k hk
  refine lv_aload_n hx hb dX1_count_0 rfl (lv_at hl 0 rfl) ?_
  refine lv_iconst (v := nI 0) hx hb dX1_count_1 (by decide) ?_
  refine zx_put1 (ws' := (zm_w cA mo 0 k (zk_n k) (zk_t k) F fa fb fc fd ++ wr)) hx hb hts hown hK hP hD hS 0 rfl 0 (by decide) zf_X1_32 rfl (by decide +kernel) (Nat.le_of_ble_eq_true rfl) dX1_count_2 rfl (fun H locs hP hD hS => ?_)
  refine lv_iload_n hx hb dX1_count_5 rfl (lv_at hl 1 rfl) ?_
  refine lv_tableIn (tgt := 50) (off := 44) hx hb dX1_count_6 (by decide) (by decide) (by decide) (by decide) ?_
  refine lv_aload_n hx hb dX1_count_50 rfl (lv_at hl 0 rfl) ?_
  refine zx_get1 (v := .int (nI (zk_t k))) hx hb hts hown hK hP 0 rfl 3 (by decide) zf_X1_13 rfl dX1_count_51 ?_
  exact W.iret (v := nI (zk_t k)) hx hb hr (fun t9 h9 hW9 => ⟨⟨nI (zk_t k), (F, fa, fb, fc, fd), rfl, ⟨rfl, rfl⟩, by rw [h9]; exact hP, va_K.moved hW9.alike hK, hD⟩, hS.F h9⟩) hS.2.2 dX1_count_54
set_option maxHeartbeats 4000000 in
set_option maxRecDepth 100000 in
/-- X1_count -/
theorem cm_count3 (l : Launch) (dC : Nat → ClassId) (dI : Nat → Nat → Nat) (cA : ClassId) (tr : List (ClassId × FieldType)) (wr : va_W) (mo : Nat → Nat) (th k : Nat) (F fa fb fc fd : Nat → Nat) (hk : k < 4) (sz : Nat)  : Met l yX1_count wzX1_count (k2_rm 4 93) (zw_pre (dC, dI) zz_cl ((cA, .int) :: tr) (zm_w cA mo th k (zk_n k) (zk_t k) F fa fb fc fd ++ wr) sz [.ref (mo 0), .int (nI (3))]) (va_Qi (fun r (u : zq_U) => r = nI (zk_z k) ∧ u.1 = F) (zw_at (dC, dI) zz_cl ((cA, .int) :: tr) (va_A (zm_w cA mo th k (zk_n k) (zk_t k) F fa fb fc fd ++ wr) sz) (fun u : zq_U => zm_w cA mo 0 k (zk_n k) (zk_t k) u.1 u.2.1 u.2.2.1 u.2.2.2.1 u.2.2.2.2 ++ wr)) (va_A (zm_w cA mo th k (zk_n k) (zk_t k) F fa fb fc fd ++ wr) sz)) 0 0 (va_A (zm_w cA mo th k (zk_n k) (zk_t k) F fa fb fc fd ++ wr) sz) := by
  refine Met.ofW (cc := cX1_count) (maxL := 4) (ret := (some .int)) (by decide) rfl ?_
  intro p e s m args below meth c s₁ B hml hv
  obtain ⟨rfl, hsz, hP, hK, hD0⟩ := hv
  have hx := B.exec
  have hb := B.bytes
  have hr := B.returns
  have hts := atoms_spec (ws := wzX1_count) B.pre
  have hown : s.vm.findClass RX1 = some m.cls := findClass_of_methodNamed B.named
  have hlocks := B.notSynchronized
  subst hsz
  have hD := hD0.self (sz := s.heap.size)
  generalize hAe : va_A (zm_w cA mo th k (zk_n k) (zk_t k) F fa fb fc fd ++ wr) s.heap.size = A at hD ⊢
  have hA : ∀ q : Nat, s.heap.size ≤ q → A q := fun q h => by rw [← hAe]; exact Or.inr h
  have hS : va_S A s.heap s.heap [] := va_S.rf
  have hl := lv_entry ([.ref (mo 0), .int (nI (3))]) (n := 4) (Nat.le_of_ble_eq_true rfl)
  rw [lg_entry_eq]
  generalize (lg_sl ([.ref (mo 0), .int (nI (3))]) ++ List.replicate (4 - (lg_sl ([.ref (mo 0), .int (nI (3))])).length) Slot.unset).toArray = ls at hl ⊢
  have hl : lv_has ls 4 [(0, .ref (mo 0)), (1, .int (nI (3)))] := hl
  obtain ⟨hb1, hb2, hb3, hb4, hb5, hb6, hb7, hb8⟩ := zk_b k hk
  refine lv_aload_n hx hb dX1_count_0 rfl (lv_at hl 0 rfl) ?_
  refine lv_iconst (v := nI 0) hx hb dX1_count_1 (by decide) ?_
  refine zx_put1 (ws' := (zm_w cA mo 0 k (zk_n k) (zk_t k) F fa fb fc fd ++ wr)) hx hb hts hown hK hP hD hS 0 rfl 0 (by decide) zf_X1_32 rfl (by decide +kernel) (Nat.le_of_ble_eq_true rfl) dX1_count_2 rfl (fun H locs hP hD hS => ?_)
  refine lv_iload_n hx hb dX1_count_5 rfl (lv_at hl 1 rfl) ?_
  refine lv_tableIn (tgt := 55) (off := 49) hx hb dX1_count_6 (by decide) (by decide) (by decide) (by decide) ?_
  refine lv_aload_n hx hb dX1_count_55 rfl (lv_at hl 0 rfl) ?_
  refine zr_callq (zx_runV (As := []) (rest := []) hx hb hml hts hown (cm_least l dC dI cA tr wr mo 0 k F fa fb fc fd hk) zv_X1_42 rfl rfl ⟨Nat.le_of_ble_eq_true rfl, Nat.le_of_ble_eq_true rfl⟩ (zr_preV (q := (RX1, TM1, 9)) (ci := 1) (q0 := 0) hP hK rfl rfl) rfl hl.1 rfl (Nat.le_of_ble_eq_true rfl) dX1_count_56 ⟨Nat.zero_le _, Nat.zero_le _⟩) ?_
  exact W.iret (v := nI (zk_z k)) hx hb hr (fun t9 h9 hW9 => ⟨⟨nI (zk_z k), (F, fa, fb, fc, fd), rfl, ⟨rfl, rfl⟩, by rw [h9]; exact hP, va_K.moved hW9.alike hK, hD⟩, hS.F h9⟩) hS.2.2 dX1_count_59
set_option maxHeartbeats 4000000 in
set_option maxRecDepth 100000 in
/-- X1_count -/
theorem cm_count4 (l : Launch) (dC : Nat → ClassId) (dI : Nat → Nat → Nat) (cA : ClassId) (tr : List (ClassId × FieldType)) (wr : va_W) (mo : Nat → Nat) (th k : Nat) (F fa fb fc fd : Nat → Nat) (hk : k < 4) (sz : Nat) (hF : ∀ r j, r < 16 → j < zk_n k → F (32 * r + j) < zk_t k) : Met l yX1_count wzX1_count (k2_rm 4 93) (zw_pre (dC, dI) zz_cl ((cA, .int) :: tr) (zm_w cA mo th k (zk_n k) (zk_t k) F fa fb fc fd ++ wr) sz [.ref (mo 0), .int (nI (4))]) (va_Qi (fun r (u : zq_U) => r = nI (zq_un (fun r => zq_av k (zq_rw F r)) (zk_n k) 16) ∧ u.1 = F) (zw_at (dC, dI) zz_cl ((cA, .int) :: tr) (va_A (zm_w cA mo th k (zk_n k) (zk_t k) F fa fb fc fd ++ wr) sz) (fun u : zq_U => zm_w cA mo 0 k (zk_n k) (zk_t k) u.1 u.2.1 u.2.2.1 u.2.2.2.1 u.2.2.2.2 ++ wr)) (va_A (zm_w cA mo th k (zk_n k) (zk_t k) F fa fb fc fd ++ wr) sz)) 0 0 (va_A (zm_w cA mo th k (zk_n k) (zk_t k) F fa fb fc fd ++ wr) sz) := by
  refine Met.ofW (cc := cX1_count) (maxL := 4) (ret := (some .int)) (by decide) rfl ?_
  intro p e s m args below meth c s₁ B hml hv
  obtain ⟨rfl, hsz, hP, hK, hD0⟩ := hv
  have hx := B.exec
  have hb := B.bytes
  have hr := B.returns
  have hts := atoms_spec (ws := wzX1_count) B.pre
  have hown : s.vm.findClass RX1 = some m.cls := findClass_of_methodNamed B.named
  have hlocks := B.notSynchronized
  subst hsz
  have hD := hD0.self (sz := s.heap.size)
  generalize hAe : va_A (zm_w cA mo th k (zk_n k) (zk_t k) F fa fb fc fd ++ wr) s.heap.size = A at hD ⊢
  have hA : ∀ q : Nat, s.heap.size ≤ q → A q := fun q h => by rw [← hAe]; exact Or.inr h
  have hS : va_S A s.heap s.heap [] := va_S.rf
  have hl := lv_entry ([.ref (mo 0), .int (nI (4))]) (n := 4) (Nat.le_of_ble_eq_true rfl)
  rw [lg_entry_eq]
  generalize (lg_sl ([.ref (mo 0), .int (nI (4))]) ++ List.replicate (4 - (lg_sl ([.ref (mo 0), .int (nI (4))])).length) Slot.unset).toArray = ls at hl ⊢
  have hl : lv_has ls 4 [(0, .ref (mo 0)), (1, .int (nI (4)))] := hl
  obtain ⟨hb1, hb2, hb3, hb4, hb5, hb6, hb7, hb8⟩ := zk_b k hk
  refine lv_aload_n hx hb dX1_count_0 rfl (lv_at hl 0 rfl) ?_
  refine lv_iconst (v := nI 0) hx hb dX1_count_1 (by decide) ?_
  refine zx_put1 (ws' := (zm_w cA mo 0 k (zk_n k) (zk_t k) F fa fb fc fd ++ wr)) hx hb hts hown hK hP hD hS 0 rfl 0 (by decide) zf_X1_32 rfl (by decide +kernel) (Nat.le_of_ble_eq_true rfl) dX1_count_2 rfl (fun H locs hP hD hS => ?_)
  refine lv_iload_n hx hb dX1_count_5 rfl (lv_at hl 1 rfl) ?_
  refine lv_tableIn (tgt := 60) (off := 54) hx hb dX1_count_6 (by decide) (by decide) (by decide) (by decide) ?_
  refine lv_iconst (v := nI 0) hx hb dX1_count_60 (by decide) ?_
  refine lv_istore_n (lv' := [(2, .int (nI (0))), (0, .ref (mo 0)), (1, .int (nI (4)))]) hx hb dX1_count_61 rfl hl (by decide) rfl (fun ls hl => ?_)
  refine lv_iconst (v := nI 0) hx hb dX1_count_62 (by decide) ?_
  refine lv_istore_n (lv' := [(3, .int (nI (0))), (2, .int (nI (0))), (0, .ref (mo 0)), (1, .int (nI (4)))]) hx hb dX1_count_63 rfl hl (by decide) rfl (fun ls hl => ?_)
  have loop : ∀ (d i : Nat), i + d = 16 → ∀ (G1 : Nat → Nat), (i = i) → ∀ (H : Heap) (locs : List Loc), va_P (dC, dI) zz_cl (zm_w cA mo 0 k (zk_n k) (zk_t k) F G1 fb fc fd ++ wr) H → va_D A (zm_w cA mo 0 k (zk_n k) (zk_t k) F G1 fb fc fd ++ wr) → va_S A s.heap H locs → ∀ ls, lv_has ls 4 [(0, .ref (mo 0)), (2, .int (nI (zq_un (fun r => zq_av k (zq_rw F r)) (zk_n k) i))), (3, .int (nI (i)))] → W p l e (headSpec wzX1_count (k2_rm 4 93)).room s m ([.ref (mo 0), .int (nI (4))] : List Value).toArray below meth c H locs 0 0 (MQ below (va_Qi (fun r (u : zq_U) => r = nI (zq_un (fun r => zq_av k (zq_rw F r)) (zk_n k) 16) ∧ u.1 = F) (zw_at (dC, dI) zz_cl ((cA, .int) :: tr) A (fun u : zq_U => zm_w cA mo 0 k (zk_n k) (zk_t k) u.1 u.2.1 u.2.2.1 u.2.2.2.1 u.2.2.2.2 ++ wr)) A) ([.ref (mo 0), .int (nI (4))] : List Value).toArray s 0 0 A) (F0 m 64 ls []) := by
    intro d
    induction d with
    | zero =>
      intro i hi G1 hinv H locs hP hD hS ls hl
      have hi : i = 16 := by omega
      rw [hi] at hinv
      refine lv_iload_n hx hb dX1_count_64 rfl (lv_at hl 2 rfl) ?_
      refine lv_bipush (v := nI 16) hx hb dX1_count_65 (by decide) ?_
      refine zr_ige (tgt := 99) hx hb dX1_count_67 (by decide) (by omega) (by omega) (fun _ => ?_) (fun hno9 => absurd hno9 (by omega))
      refine lv_iload_n hx hb dX1_count_99 rfl (lv_at hl 1 rfl) ?_
      rw [hi]
      exact W.iret (v := nI (zq_un (fun r => zq_av k (zq_rw F r)) (zk_n k) 16)) hx hb hr (fun t9 h9 hW9 => ⟨⟨nI (zq_un (fun r => zq_av k (zq_rw F r)) (zk_n k) 16), (F, G1, fb, fc, fd), rfl, ⟨rfl, rfl⟩, by rw [h9]; exact hP, va_K.moved hW9.alike hK, hD⟩, hS.F h9⟩) hS.2.2 dX1_count_100
    | succ d ih =>
      intro i hi G1 hinv H locs hP hD hS ls hl
      refine lv_iload_n hx hb dX1_count_64 rfl (lv_at hl 2 rfl) ?_
      refine lv_bipush (v := nI 16) hx hb dX1_count_65 (by decide) ?_
      refine zr_ige (tgt := 99) hx hb dX1_count_67 (by decide) (by omega) (by omega) (fun hno9 => absurd hno9 (by omega)) (fun _ => ?_)
      have hul := zq_un_le (fun r => zq_av k (zq_rw F r)) (zk_n k) i
      refine lv_aload_n hx hb dX1_count_70 rfl (lv_at hl 0 rfl) ?_
      refine lv_iload_n hx hb dX1_count_71 rfl (lv_at hl 2 rfl) ?_
      refine lv_aload_n hx hb dX1_count_72 rfl (lv_at hl 0 rfl) ?_
      refine zx_get1 (v := .ref (mo 2)) hx hb hts hown hK hP 0 rfl 5 (by decide) zf_X1_20 rfl dX1_count_73 ?_
      refine zw_callv (w' := fun u : Nat → Nat => zm_w cA mo 0 k (zk_n k) (zk_t k) F u fb fc fd ++ wr) hD hS hA (zx_runV (As := [.int (nI (i)), .ref (mo 2)]) (rest := []) hx hb hml hts hown (cm_take2 l dC dI cA tr wr mo 0 k F G1 fb fc fd hk H.size i (by omega)) zv_X1_62 rfl rfl ⟨Nat.le_of_ble_eq_true rfl, Nat.le_of_ble_eq_true rfl⟩ (zw_preV (q := (RX1, TM1, 9)) (ci := 1) (q0 := 0) hP hK hD rfl rfl) rfl hl.1 rfl (Nat.le_of_ble_eq_true rfl) dX1_count_76 ⟨Nat.zero_le _, Nat.zero_le _⟩) (fun ua H locs hua hP hD hS => ?_)
      have hlua : ∀ j, j < zk_n k → ua j < zk_t k := fun j hj => by rw [hua j hj]; exact hF i j (by omega) hj
      refine lv_aload_n hx hb dX1_count_79 rfl (lv_at hl 0 rfl) ?_
      refine lv_aload_n hx hb dX1_count_80 rfl (lv_at hl 0 rfl) ?_
      refine zx_get1 (v := .ref (mo 2)) hx hb hts hown hK hP 0 rfl 5 (by decide) zf_X1_20 rfl dX1_count_81 ?_
      refine zr_callq (zx_runV (As := [.ref (mo 2)]) (rest := []) hx hb hml hts hown (cm_zeros l dC dI cA tr wr mo 0 k F ua fb fc fd hk 2 (mo 2) ua rfl hlua) zv_X1_77 rfl rfl ⟨Nat.le_of_ble_eq_true rfl, Nat.le_of_ble_eq_true rfl⟩ (zr_preV (q := (RX1, TM1, 9)) (ci := 1) (q0 := 0) hP hK rfl rfl) rfl hl.1 rfl (Nat.le_of_ble_eq_true rfl) dX1_count_84 ⟨Nat.zero_le _, Nat.zero_le _⟩) ?_
      have hzc9 := zq_zc_le (zq_av k ua) (zk_n k)
      have hza : zq_zc (zq_av k ua) (zk_n k) = zq_zc (zq_av k (zq_rw F i)) (zk_n k) := zq_zc_congr (fun j hj => zq_av_congr hua j)
      refine zr_ifne (tgt := 93) hx hb dX1_count_87 (by decide) (by omega) (fun hz => ?_) (fun hz => ?_)
      · refine zr_iinc (k := 2) (lv' := [(3, .int (nI (i + 1))), (0, .ref (mo 0)), (2, .int (nI (zq_un (fun r => zq_av k (zq_rw F r)) (zk_n k) i)))]) hx hb dX1_count_93 hl rfl (by decide) rfl (fun ls hl => ?_)
        refine lv_goto (tgt := 64) hx hb dX1_count_96 (by decide) ?_
        exact ih (i + 1) (by omega) ua rfl H locs hP hD hS ls (by rw [show zq_un (fun r => zq_av k (zq_rw F r)) (zk_n k) (i + 1) = zq_un (fun r => zq_av k (zq_rw F r)) (zk_n k) i by show _ + (if zq_zc (zq_av k (zq_rw F i)) (zk_n k) = 0 then 1 else 0) = _; rw [if_neg (by rw [← hza]; exact hz)]; rfl]; exact (lv_sub hl [1, 2, 0] rfl))
      · refine zr_iinc (k := 1) (lv' := [(2, .int (nI ((zq_un (fun r => zq_av k (zq_rw F r)) (zk_n k) i) + 1))), (0, .ref (mo 0)), (3, .int (nI (i)))]) hx hb dX1_count_90 hl rfl (by decide) rfl (fun ls hl => ?_)
        refine zr_iinc (k := 2) (lv' := [(3, .int (nI (i + 1))), (2, .int (nI ((zq_un (fun r => zq_av k (zq_rw F r)) (zk_n k) i) + 1))), (0, .ref (mo 0))]) hx hb dX1_count_93 hl rfl (by decide) rfl (fun ls hl => ?_)
        refine lv_goto (tgt := 64) hx hb dX1_count_96 (by decide) ?_
        exact ih (i + 1) (by omega) ua rfl H locs hP hD hS ls (by rw [show zq_un (fun r => zq_av k (zq_rw F r)) (zk_n k) (i + 1) = zq_un (fun r => zq_av k (zq_rw F r)) (zk_n k) i + 1 by show _ + (if zq_zc (zq_av k (zq_rw F i)) (zk_n k) = 0 then 1 else 0) = _; rw [if_pos (by rw [← hza]; exact hz)]]; exact (lv_sub hl [2, 1, 0] rfl))
  exact loop 16 0 (by omega) fa rfl H locs hP hD hS ls (lv_sub hl [2, 1, 0] rfl)
set_option maxHeartbeats 4000000 in
set_option maxRecDepth 100000 in
/-- X1_count -/
theorem cm_countN (l : Launch) (dC : Nat → ClassId) (dI : Nat → Nat → Nat) (cA : ClassId) (tr : List (ClassId × FieldType)) (wr : va_W) (mo : Nat → Nat) (th k : Nat) (F fa fb fc fd : Nat → Nat) (hk : k < 4) (sz : Nat) (x : Int32) (hx9 : x.toInt < 0 ∨ 4 < x.toInt) : Met l yX1_count wzX1_count (k2_rm 4 93) (zw_pre (dC, dI) zz_cl ((cA, .int) :: tr) (zm_w cA mo th k (zk_n k) (zk_t k) F fa fb fc fd ++ wr) sz [.ref (mo 0), .int (x)]) (va_Qi (fun r (u : zq_U) => r = -1 ∧ u.1 = F) (zw_at (dC, dI) zz_cl ((cA, .int) :: tr) (va_A (zm_w cA mo th k (zk_n k) (zk_t k) F fa fb fc fd ++ wr) sz) (fun u : zq_U => zm_w cA mo 0 k (zk_n k) (zk_t k) u.1 u.2.1 u.2.2.1 u.2.2.2.1 u.2.2.2.2 ++ wr)) (va_A (zm_w cA mo th k (zk_n k) (zk_t k) F fa fb fc fd ++ wr) sz)) 0 0 (va_A (zm_w cA mo th k (zk_n k) (zk_t k) F fa fb fc fd ++ wr) sz) := by
  refine Met.ofW (cc := cX1_count) (maxL := 4) (ret := (some .int)) (by decide) rfl ?_
  intro p e s m args below meth c s₁ B hml hv
  obtain ⟨rfl, hsz, hP, hK, hD0⟩ := hv
  have hx := B.exec
  have hb := B.bytes
  have hr := B.returns
  have hts := atoms_spec (ws := wzX1_count) B.pre
  have hown : s.vm.findClass RX1 = some m.cls := findClass_of_methodNamed B.named
  have hlocks := B.notSynchronized
  subst hsz
  have hD := hD0.self (sz := s.heap.size)
  generalize hAe : va_A (zm_w cA mo th k (zk_n k) (zk_t k) F fa fb fc fd ++ wr) s.heap.size = A at hD ⊢
  have hA : ∀ q : Nat, s.heap.size ≤ q → A q := fun q h => by rw [← hAe]; exact Or.inr h
  have hS : va_S A s.heap s.heap [] := va_S.rf
  have hl := lv_entry ([.ref (mo 0), .int (x)]) (n := 4) (Nat.le_of_ble_eq_true rfl)
  rw [lg_entry_eq]
  generalize (lg_sl ([.ref (mo 0), .int (x)]) ++ List.replicate (4 - (lg_sl ([.ref (mo 0), .int (x)])).length) Slot.unset).toArray = ls at hl ⊢
  have hl : lv_has ls 4 [(0, .ref (mo 0)), (1, .int (x))] := hl
  obtain ⟨hb1, hb2, hb3, hb4, hb5, hb6, hb7, hb8⟩ := zk_b k hk
  refine lv_aload_n hx hb dX1_count_0 rfl (lv_at hl 0 rfl) ?_
  refine lv_iconst (v := nI 0) hx hb dX1_count_1 (by decide) ?_
  refine zx_put1 (ws' := (zm_w cA mo 0 k (zk_n k) (zk_t k) F fa fb fc fd ++ wr)) hx hb hts hown hK hP hD hS 0 rfl 0 (by decide) zf_X1_32 rfl (by decide +kernel) (Nat.le_of_ble_eq_true rfl) dX1_count_2 rfl (fun H locs hP hD hS => ?_)
  refine lv_iload_n hx hb dX1_count_5 rfl (lv_at hl 1 rfl) ?_
  refine lv_tableOut (tgt := 101) hx hb dX1_count_6 hx9 (by decide) ?_
  refine lv_iconst (v := -1) hx hb dX1_count_101 (by decide) ?_
  exact W.iret (v := (-1)) hx hb hr (fun t9 h9 hW9 => ⟨⟨(-1), (F, fa, fb, fc, fd), rfl, ⟨rfl, rfl⟩, by rw [h9]; exact hP, va_K.moved hW9.alike hK, hD⟩, hS.F h9⟩) hS.2.2 dX1_count_102
