set_option maxHeartbeats 4000000 in
set_option maxRecDepth 100000 in
/-- X1_thrown -/
theorem cm_thrown (l : Launch) (dC : Nat → ClassId) (dI : Nat → Nat → Nat) (cA : ClassId) (tr : List (ClassId × FieldType)) (wr : va_W) (mo : Nat → Nat) (th k : Nat) (F fa fb fc fd : Nat → Nat) (hk : k < 4)  : Met l yX1_thrown wzX1_thrown (k2_rm 0 0) (zr_pre (dC, dI) zz_cl ((cA, .int) :: tr) (zm_w cA mo th k (zk_n k) (zk_t k) F fa fb fc fd ++ wr) [.ref (mo 0)]) (k2_QcV (.int (nI th))) 0 0 (fun _ => False) := by
  refine Met.ofW (cc := cX1_thrown) (maxL := 1) (ret := (some .int)) (by decide) rfl ?_
  intro p e s m args below meth c s₁ B hml hv
  obtain ⟨rfl, hP, hK⟩ := hv
  have hx := B.exec
  have hb := B.bytes
  have hr := B.returns
  have hts := atoms_spec (ws := wzX1_thrown) B.pre
  have hown : s.vm.findClass RX1 = some m.cls := findClass_of_methodNamed B.named
  have hlocks := B.notSynchronized
  have hl := lv_entry ([.ref (mo 0)]) (n := 1) (Nat.le_of_ble_eq_true rfl)
  rw [lg_entry_eq]
  generalize (lg_sl ([.ref (mo 0)]) ++ List.replicate (1 - (lg_sl ([.ref (mo 0)])).length) Slot.unset).toArray = ls at hl ⊢
  have hl : lv_has ls 1 [(0, .ref (mo 0))] := hl
  obtain ⟨hb1, hb2, hb3, hb4, hb5, hb6, hb7, hb8⟩ := zk_b k hk
  refine lv_aload_n hx hb dX1_thrown_0 rfl (lv_at hl 0 rfl) ?_
  refine zx_get1 (v := .int (nI (th))) hx hb hts hown hK hP 0 rfl 0 (by decide) zf_X1_32 rfl dX1_thrown_1 ?_
  exact W.iret (v := nI th) hx hb hr (fun t9 h9 _ => ⟨rfl, h9⟩) (fun q h => by cases h) dX1_thrown_4
set_option maxHeartbeats 4000000 in
set_option maxRecDepth 100000 in
theorem cm_none0 (l : Launch) (D : va_G) (cl : List vw_C) (tys : List (ClassId × FieldType)) (ws : va_W) (r0 : Nat) (hr0 : r0 < 16) : Met l yX1_none wzX1_none (k2_rm 0 0) (zr_pre D cl tys ws [.int (nI r0)]) (k2_QcV (.int (nI 0))) 0 0 (fun _ => False) := by
  refine Met.ofW (cc := cX1_none) (maxL := 1) (ret := (some .boolean)) (by decide) rfl ?_
  intro p e s m args below meth c s₁ B hml hv
  obtain ⟨rfl, hP, hK⟩ := hv
  have hx := B.exec
  have hb := B.bytes
  have hr := B.returns
  have hlocks := B.notSynchronized
  have hl := lv_entry ([.int (nI r0)]) (n := 1) (Nat.le_of_ble_eq_true rfl)
  rw [lg_entry_eq]
  generalize (lg_sl ([.int (nI r0)]) ++ List.replicate (1 - (lg_sl ([.int (nI r0)])).length) Slot.unset).toArray = ls at hl ⊢
  have hl : lv_has ls 1 [(0, .int (nI r0))] := hl
  refine lv_iload_n hx hb dX1_none_0 rfl (lv_at hl 0 rfl) ?_
  refine zr_iflt (tgt := 10) hx hb dX1_none_1 (by decide) (by omega) ?_
  refine lv_iload_n hx hb dX1_none_4 rfl (lv_at hl 0 rfl) ?_
  refine lv_bipush (v := nI 15) hx hb dX1_none_5 (by decide) ?_
  refine zr_ile (tgt := 14) hx hb dX1_none_7 (by decide) (by omega) (by omega) (fun _ => ?_) (fun hh => absurd hh (by omega))
  refine lv_iconst (v := nI 0) hx hb dX1_none_14 (by decide) ?_
  exact W.zret (v := nI 0) hx hb hr rfl (fun t9 h9 _ => ⟨rfl, h9⟩) (fun q h => by cases h) dX1_none_15
set_option maxHeartbeats 4000000 in
set_option maxRecDepth 100000 in
theorem cm_none1 (l : Launch) (D : va_G) (cl : List vw_C) (tys : List (ClassId × FieldType)) (ws : va_W) (r : Int32) (hbad : r < 0 ∨ nI 16 ≤ r) : Met l yX1_none wzX1_none (k2_rm 0 0) (zr_pre D cl tys ws [.int r]) (k2_QcV (.int (nI 1))) 0 0 (fun _ => False) := by
  refine Met.ofW (cc := cX1_none) (maxL := 1) (ret := (some .boolean)) (by decide) rfl ?_
  intro p e s m args below meth c s₁ B hml hv
  obtain ⟨rfl, hP, hK⟩ := hv
  have hx := B.exec
  have hb := B.bytes
  have hr := B.returns
  have hlocks := B.notSynchronized
  have hl := lv_entry ([.int r]) (n := 1) (Nat.le_of_ble_eq_true rfl)
  rw [lg_entry_eq]
  generalize (lg_sl ([.int r]) ++ List.replicate (1 - (lg_sl ([.int r])).length) Slot.unset).toArray = ls at hl ⊢
  have hl : lv_has ls 1 [(0, .int r)] := hl
  have h10 : W p l e (headSpec wzX1_none (k2_rm 0 0)).room s m ([.int r] : List Value).toArray below meth c s.heap [] 0 0 (MQ below (k2_QcV (.int (nI 1))) ([.int r] : List Value).toArray s 0 0 (fun _ => False)) (F0 m 10 ls []) := by
    refine lv_iconst (v := nI 1) hx hb dX1_none_10 (by decide) ?_
    refine lv_goto (tgt := 15) hx hb dX1_none_11 (by decide) ?_
    exact W.zret (v := nI 1) hx hb hr rfl (fun t9 h9 _ => ⟨rfl, h9⟩) (fun q h => by cases h) dX1_none_15
  refine lv_iload_n hx hb dX1_none_0 rfl (lv_at hl 0 rfl) ?_
  refine lv_if_lt (tgt := 10) hx hb dX1_none_1 (by decide) (fun _ => h10) (fun hn0 => ?_)
  refine lv_iload_n hx hb dX1_none_4 rfl (lv_at hl 0 rfl) ?_
  refine lv_bipush (v := nI 15) hx hb dX1_none_5 (by decide) ?_
  refine lv_icmp_le (tgt := 14) hx hb dX1_none_7 (by decide) (fun hh => absurd hh (hbad.elim (fun h9 => absurd h9 hn0) (fun h9 => Int32.not_le.mpr (Int32.lt_of_lt_of_le (show nI 15 < nI 16 by decide) h9)))) (fun _ => h10)
set_option maxHeartbeats 4000000 in
set_option maxRecDepth 100000 in
/-- of(v) -/
theorem cm_of (l : Launch) (dC : Nat → ClassId) (dI : Nat → Nat → Nat) (cA : ClassId) (tr : List (ClassId × FieldType)) (wr : va_W) (mo : Nat → Nat) (th k : Nat) (F fa fb fc fd : Nat → Nat) (hk : k < 4) (x : Int) (r : Nat) (h1 : -4611686018427387904 ≤ x) (h2 : x < 4611686018427387904) (hr0 : x % (zk_t k : Int) = (r : Int)) : Met l yX1_of wzX1_of (k2_rm 0 0) (zr_pre (dC, dI) zz_cl ((cA, .int) :: tr) (zm_w cA mo th k (zk_n k) (zk_t k) F fa fb fc fd ++ wr) [.ref (mo 0), .long (zi_L x)]) (k2_QcV (.int (nI r))) 0 0 (fun _ => False) := by
  refine Met.ofW (cc := cX1_of) (maxL := 4) (ret := (some .int)) (by decide) rfl ?_
  intro p e s m args below meth c s₁ B hml hv
  obtain ⟨rfl, hP, hK⟩ := hv
  have hx := B.exec
  have hb := B.bytes
  have hr := B.returns
  have hts := atoms_spec (ws := wzX1_of) B.pre
  have hown : s.vm.findClass RX1 = some m.cls := findClass_of_methodNamed B.named
  have hlocks := B.notSynchronized
  have hl := lv_entry ([.ref (mo 0), .long (zi_L x)]) (n := 4) (Nat.le_of_ble_eq_true rfl)
  rw [lg_entry_eq]
  generalize (lg_sl ([.ref (mo 0), .long (zi_L x)]) ++ List.replicate (4 - (lg_sl ([.ref (mo 0), .long (zi_L x)])).length) Slot.unset).toArray = ls at hl ⊢
  have hl : lv_has ls 4 [(0, .ref (mo 0)), (1, .long (zi_L x))] := hl
  obtain ⟨hb1, hb2, hb3, hb4, hb5, hb6, hb7, hb8⟩ := zk_b k hk
  have ht0 : (0 : Int) < (zk_t k : Int) := by omega
  obtain ⟨m1, m2⟩ := zi_tm (a := x) ht0
  refine lv_lload_n hx hb dX1_of_0 rfl (lv_at hl 1 rfl) ?_
  refine lv_aload_n hx hb dX1_of_1 rfl (lv_at hl 0 rfl) ?_
  refine zx_get1 (v := .int (nI (zk_t k))) hx hb hts hown hK hP 0 rfl 3 (by decide) zf_X1_13 rfl dX1_of_2 ?_
  refine zr_i2l hx hb dX1_of_5 (by omega) ?_
  refine lv_lrem hx hb dX1_of_6 (fun hh => ?_) ?_
  · have h9 : lN (zk_t k) = lN 0 := hh.trans (by decide)
    rw [lN_eq (by omega) (by decide)] at h9
    omega
  rw [show zi_L x - zi_L x / lN (zk_t k) * lN (zk_t k) = zi_L (x.tmod (zk_t k)) by rw [zi_lN]; exact zi_Lrem h1 h2 ht0 (by omega)]
  refine lv_l2i (v := zi_I (x.tmod (zk_t k))) hx hb dX1_of_7 (zi_l2i _) ?_
  refine lv_istore_n (lv' := [(3, .int (zi_I (x.tmod (zk_t k)))), (0, .ref (mo 0)), (1, .long (zi_L x))]) hx hb dX1_of_8 rfl hl (by decide) rfl (fun ls hl => ?_)
  refine lv_iload_n hx hb dX1_of_9 rfl (lv_at hl 0 rfl) ?_
  refine lv_if_ge (tgt := 22) hx hb dX1_of_10 (by decide) (fun hh => ?_) (fun hh => ?_)
  · rw [zi_0, zi_le (by omega) (by omega) (by omega) (by omega)] at hh
    refine lv_iload_n hx hb dX1_of_22 rfl (lv_at hl 0 rfl) ?_
    rw [show zi_I (x.tmod (zk_t k)) = nI r by rw [zi_fp ht0 hh, hr0, ← zi_nI]]
    exact W.iret (v := nI r) hx hb hr (fun t9 h9 _ => ⟨rfl, h9⟩) (fun q h => by cases h) dX1_of_23
  · rw [zi_0, zi_le (by omega) (by omega) (by omega) (by omega)] at hh
    refine lv_iload_n hx hb dX1_of_13 rfl (lv_at hl 0 rfl) ?_
    refine lv_aload_n hx hb dX1_of_14 rfl (lv_at hl 1 rfl) ?_
    refine zx_get1 (v := .int (nI (zk_t k))) hx hb hts hown hK hP 0 rfl 3 (by decide) zf_X1_13 rfl dX1_of_15 ?_
    refine zr_iaddZN hx hb dX1_of_18 ?_
    refine lv_goto (tgt := 23) hx hb dX1_of_19 (by decide) ?_
    rw [show zi_I (x.tmod (zk_t k) + ((zk_t k : Nat) : Int)) = nI r by rw [zi_fm ht0 (by omega), hr0, ← zi_nI]]
    exact W.iret (v := nI r) hx hb hr (fun t9 h9 _ => ⟨rfl, h9⟩) (fun q h => by cases h) dX1_of_23
set_option maxHeartbeats 4000000 in
set_option maxRecDepth 100000 in
/-- raised(v, e) -/
theorem cm_raised (l : Launch) (dC : Nat → ClassId) (dI : Nat → Nat → Nat) (cA : ClassId) (tr : List (ClassId × FieldType)) (wr : va_W) (mo : Nat → Nat) (th k : Nat) (F fa fb fc fd : Nat → Nat) (hk : k < 4) (x e0 : Nat) (hx0 : x < zk_t k) (he : e0 < 2147483648) : Met l yX1_raised wzX1_raised (k2_rm 0 0) (zr_pre (dC, dI) zz_cl ((cA, .int) :: tr) (zm_w cA mo th k (zk_n k) (zk_t k) F fa fb fc fd ++ wr) [.ref (mo 0), .int (nI (x)), .int (nI (e0))]) (k2_QcV (.int (nI (x ^ e0 % zk_t k)))) 0 0 (fun _ => False) := by
  refine Met.ofW (cc := cX1_raised) (maxL := 5) (ret := (some .int)) (by decide) rfl ?_
  intro p e s m args below meth c s₁ B hml hv
  obtain ⟨rfl, hP, hK⟩ := hv
  have hx := B.exec
  have hb := B.bytes
  have hr := B.returns
  have hts := atoms_spec (ws := wzX1_raised) B.pre
  have hown : s.vm.findClass RX1 = some m.cls := findClass_of_methodNamed B.named
  have hlocks := B.notSynchronized
  have hl := lv_entry ([.ref (mo 0), .int (nI (x)), .int (nI (e0))]) (n := 5) (Nat.le_of_ble_eq_true rfl)
  rw [lg_entry_eq]
  generalize (lg_sl ([.ref (mo 0), .int (nI (x)), .int (nI (e0))]) ++ List.replicate (5 - (lg_sl ([.ref (mo 0), .int (nI (x)), .int (nI (e0))])).length) Slot.unset).toArray = ls at hl ⊢
  have hl : lv_has ls 5 [(0, .ref (mo 0)), (1, .int (nI (x))), (2, .int (nI (e0)))] := hl
  obtain ⟨hb1, hb2, hb3, hb4, hb5, hb6, hb7, hb8⟩ := zk_b k hk
  refine lv_iconst (v := nI 1) hx hb dX1_raised_0 (by decide) ?_
  refine lv_istore_n (lv' := [(3, .int (nI (1))), (0, .ref (mo 0)), (1, .int (nI (x))), (2, .int (nI (e0)))]) hx hb dX1_raised_1 rfl hl (by decide) rfl (fun ls hl => ?_)
  refine lv_iconst (v := nI 0) hx hb dX1_raised_2 (by decide) ?_
  refine lv_istore (lv' := [(4, .int (nI (0))), (3, .int (nI (1))), (0, .ref (mo 0)), (1, .int (nI (x))), (2, .int (nI (e0)))]) hx hb dX1_raised_3 hl (by decide) rfl (fun ls hl => ?_)
  have loop : ∀ (d i : Nat), i + d = e0 → ∀ ls, lv_has ls 5 [(0, .ref (mo 0)), (1, .int (nI (x))), (2, .int (nI (e0))), (3, .int (nI (x ^ i % zk_t k))), (4, .int (nI (i)))] → W p l e (headSpec wzX1_raised (k2_rm 0 0)).room s m ([.ref (mo 0), .int (nI (x)), .int (nI (e0))] : List Value).toArray below meth c s.heap [] 0 0 (MQ below (k2_QcV (.int (nI (x ^ e0 % zk_t k)))) ([.ref (mo 0), .int (nI (x)), .int (nI (e0))] : List Value).toArray s 0 0 (fun _ => False)) (F0 m 5 ls []) := by
    intro d
    induction d with
    | zero =>
      intro i hi ls hl
      have hi : i = e0 := by omega
      subst hi
      refine lv_iload hx hb dX1_raised_5 (lv_at hl 4 rfl) ?_
      refine lv_iload_n hx hb dX1_raised_7 rfl (lv_at hl 2 rfl) ?_
      refine zr_ige (tgt := 26) hx hb dX1_raised_8 (by decide) (by omega) (by omega) (fun _ => ?_) (fun hno9 => absurd hno9 (by omega))
      refine lv_iload_n hx hb dX1_raised_26 rfl (lv_at hl 3 rfl) ?_
      exact W.iret (v := nI (x ^ i % zk_t k)) hx hb hr (fun t9 h9 _ => ⟨rfl, h9⟩) (fun q h => by cases h) dX1_raised_27
    | succ d ih =>
      intro i hi ls hl
      refine lv_iload hx hb dX1_raised_5 (lv_at hl 4 rfl) ?_
      refine lv_iload_n hx hb dX1_raised_7 rfl (lv_at hl 2 rfl) ?_
      refine zr_ige (tgt := 26) hx hb dX1_raised_8 (by decide) (by omega) (by omega) (fun hno9 => absurd hno9 (by omega)) (fun _ => ?_)
      refine lv_iload_n hx hb dX1_raised_11 rfl (lv_at hl 3 rfl) ?_
      refine lv_iload_n hx hb dX1_raised_12 rfl (lv_at hl 1 rfl) ?_
      refine zr_imul hx hb dX1_raised_13 ?_
      refine lv_aload_n hx hb dX1_raised_14 rfl (lv_at hl 0 rfl) ?_
      refine zx_get1 (v := .int (nI (zk_t k))) hx hb hts hown hK hP 0 rfl 3 (by decide) zf_X1_13 rfl dX1_raised_15 ?_
      refine zr_irem hx hb dX1_raised_18 (zq_b2 (Nat.mod_lt _ (by omega)) hx0 hb4) (by omega) (by omega) ?_
      refine lv_istore_n (lv' := [(3, .int (nI (((x ^ i % zk_t k) * x) % (zk_t k)))), (0, .ref (mo 0)), (1, .int (nI (x))), (2, .int (nI (e0))), (4, .int (nI (i)))]) hx hb dX1_raised_19 rfl hl (by decide) rfl (fun ls hl => ?_)
      refine zr_iinc (k := 4) (lv' := [(4, .int (nI (i + 1))), (3, .int (nI (((x ^ i % zk_t k) * x) % (zk_t k)))), (0, .ref (mo 0)), (1, .int (nI (x))), (2, .int (nI (e0)))]) hx hb dX1_raised_20 hl rfl (by decide) rfl (fun ls hl => ?_)
      refine lv_goto (tgt := 5) hx hb dX1_raised_23 (by decide) ?_
      exact ih (i + 1) (by omega) ls (by rw [← zq_rs]; exact (lv_sub hl [2, 3, 4, 1, 0] rfl))
  exact loop e0 0 (by omega) ls (by rw [Nat.pow_zero, Nat.mod_eq_of_lt (show 1 < zk_t k by omega)]; exact (lv_sub hl [2, 3, 4, 1, 0] rfl))
set_option maxHeartbeats 4000000 in
set_option maxRecDepth 100000 in
/-- least() -/
theorem cm_least (l : Launch) (dC : Nat → ClassId) (dI : Nat → Nat → Nat) (cA : ClassId) (tr : List (ClassId × FieldType)) (wr : va_W) (mo : Nat → Nat) (th k : Nat) (F fa fb fc fd : Nat → Nat) (hk : k < 4)  : Met l yX1_least wzX1_least (k2_rm 1 24) (zr_pre (dC, dI) zz_cl ((cA, .int) :: tr) (zm_w cA mo th k (zk_n k) (zk_t k) F fa fb fc fd ++ wr) [.ref (mo 0)]) (k2_QcV (.int (nI (zk_z k)))) 0 0 (fun _ => False) := by
  refine Met.ofW (cc := cX1_least) (maxL := 2) (ret := (some .int)) (by decide) rfl ?_
  intro p e s m args below meth c s₁ B hml hv
  obtain ⟨rfl, hP, hK⟩ := hv
  have hx := B.exec
  have hb := B.bytes
  have hr := B.returns
  have hts := atoms_spec (ws := wzX1_least) B.pre
  have hown : s.vm.findClass RX1 = some m.cls := findClass_of_methodNamed B.named
  have hlocks := B.notSynchronized
  have hl := lv_entry ([.ref (mo 0)]) (n := 2) (Nat.le_of_ble_eq_true rfl)
  rw [lg_entry_eq]
  generalize (lg_sl ([.ref (mo 0)]) ++ List.replicate (2 - (lg_sl ([.ref (mo 0)])).length) Slot.unset).toArray = ls at hl ⊢
  have hl : lv_has ls 2 [(0, .ref (mo 0))] := hl
  obtain ⟨hb1, hb2, hb3, hb4, hb5, hb6, hb7, hb8⟩ := zk_b k hk
  have hzt := zk_zt k hk
  obtain ⟨hl1, hl2⟩ := zk_least k hk
  refine lv_iconst (v := nI 2) hx hb dX1_least_0 (by decide) ?_
  refine lv_istore_n (lv' := [(1, .int (nI (2))), (0, .ref (mo 0))]) hx hb dX1_least_1 rfl hl (by decide) rfl (fun ls hl => ?_)
  have loop : ∀ (d i : Nat), i + d = zk_z k → 2 ≤ i → ∀ ls, lv_has ls 2 [(0, .ref (mo 0)), (1, .int (nI (i)))] → W p l e (headSpec wzX1_least (k2_rm 1 24)).room s m ([.ref (mo 0)] : List Value).toArray below meth c s.heap [] 0 0 (MQ below (k2_QcV (.int (nI (zk_z k)))) ([.ref (mo 0)] : List Value).toArray s 0 0 (fun _ => False)) (F0 m 2 ls []) := by
    intro d
    induction d with
    | zero =>
      intro i hi hv0 ls hl
      have hi : i = zk_z k := by omega
      refine lv_aload_n hx hb dX1_least_2 rfl (lv_at hl 0 rfl) ?_
      refine lv_iload_n hx hb dX1_least_3 rfl (lv_at hl 1 rfl) ?_
      refine lv_aload_n hx hb dX1_least_4 rfl (lv_at hl 0 rfl) ?_
      refine zx_get1 (v := .int (nI (zk_n k))) hx hb hts hown hK hP 0 rfl 2 (by decide) zf_X1_7 rfl dX1_least_5 ?_
      refine zr_callq (zx_runV (As := [.int (nI (i)), .int (nI (zk_n k))]) (rest := []) hx hb hml hts hown (cm_raised l dC dI cA tr wr mo th k F fa fb fc fd hk i (zk_n k) (by omega) (by omega)) zv_X1_35 rfl rfl ⟨Nat.le_of_ble_eq_true rfl, Nat.le_of_ble_eq_true rfl⟩ (zr_preV (q := (RX1, TM1, 9)) (ci := 1) (q0 := 0) hP hK rfl rfl) rfl hl.1 rfl (Nat.le_of_ble_eq_true rfl) dX1_least_8 ⟨Nat.zero_le _, Nat.zero_le _⟩) ?_
      refine lv_aload_n hx hb dX1_least_11 rfl (lv_at hl 0 rfl) ?_
      refine zx_get1 (v := .int (nI (zk_t k))) hx hb hts hown hK hP 0 rfl 3 (by decide) zf_X1_13 rfl dX1_least_12 ?_
      refine lv_iconst (v := nI 1) hx hb dX1_least_15 (by decide) ?_
      refine zr_isub hx hb dX1_least_16 (by omega) ?_
      refine zr_ieq (tgt := 26) hx hb dX1_least_17 (by decide) (zq_ml (by omega) hb4) (by omega) (fun _ => ?_) (fun hno9 => absurd hno9 (fun hh => hh (by rw [hi]; exact hl1)))
      refine lv_iload_n hx hb dX1_least_26 rfl (lv_at hl 1 rfl) ?_
      rw [hi]
      exact W.iret (v := nI (zk_z k)) hx hb hr (fun t9 h9 _ => ⟨rfl, h9⟩) (fun q h => by cases h) dX1_least_27
    | succ d ih =>
      intro i hi hv0 ls hl
      refine lv_aload_n hx hb dX1_least_2 rfl (lv_at hl 0 rfl) ?_
      refine lv_iload_n hx hb dX1_least_3 rfl (lv_at hl 1 rfl) ?_
      refine lv_aload_n hx hb dX1_least_4 rfl (lv_at hl 0 rfl) ?_
      refine zx_get1 (v := .int (nI (zk_n k))) hx hb hts hown hK hP 0 rfl 2 (by decide) zf_X1_7 rfl dX1_least_5 ?_
      refine zr_callq (zx_runV (As := [.int (nI (i)), .int (nI (zk_n k))]) (rest := []) hx hb hml hts hown (cm_raised l dC dI cA tr wr mo th k F fa fb fc fd hk i (zk_n k) (by omega) (by omega)) zv_X1_35 rfl rfl ⟨Nat.le_of_ble_eq_true rfl, Nat.le_of_ble_eq_true rfl⟩ (zr_preV (q := (RX1, TM1, 9)) (ci := 1) (q0 := 0) hP hK rfl rfl) rfl hl.1 rfl (Nat.le_of_ble_eq_true rfl) dX1_least_8 ⟨Nat.zero_le _, Nat.zero_le _⟩) ?_
      refine lv_aload_n hx hb dX1_least_11 rfl (lv_at hl 0 rfl) ?_
      refine zx_get1 (v := .int (nI (zk_t k))) hx hb hts hown hK hP 0 rfl 3 (by decide) zf_X1_13 rfl dX1_least_12 ?_
      refine lv_iconst (v := nI 1) hx hb dX1_least_15 (by decide) ?_
      refine zr_isub hx hb dX1_least_16 (by omega) ?_
      refine zr_ieq (tgt := 26) hx hb dX1_least_17 (by decide) (zq_ml (by omega) hb4) (by omega) (fun hno9 => absurd hno9 (hl2 i (by omega) (by omega))) (fun _ => ?_)
      refine zr_iinc (k := 1) (lv' := [(1, .int (nI (i + 1))), (0, .ref (mo 0))]) hx hb dX1_least_20 hl rfl (by decide) rfl (fun ls hl => ?_)
      refine lv_goto (tgt := 2) hx hb dX1_least_23 (by decide) ?_
      exact ih (i + 1) (by omega) (by omega) ls (lv_sub hl [1, 0] rfl)
  exact loop (zk_z k - 2) 2 (by omega) (Nat.le_refl _) ls (lv_sub hl [1, 0] rfl)
set_option maxHeartbeats 4000000 in
set_option maxRecDepth 100000 in
/-- at(f, i): the value -/
theorem cm_at (l : Launch) (dC : Nat → ClassId) (dI : Nat → Nat → Nat) (cA : ClassId) (tr : List (ClassId × FieldType)) (wr : va_W) (mo : Nat → Nat) (th k : Nat) (F fa fb fc fd : Nat → Nat) (hk : k < 4) (q b : Nat) (G : Nat → Nat) (hq : (zm_w cA mo th k (zk_n k) (zk_t k) F fa fb fc fd ++ wr)[q]? = some (b, .inl (cA, 32, .inl (zq_I G)))) (hG : ∀ j, j < zk_n k → G j < zk_t k) (i0 : Nat) (hi0 : i0 < zk_n k) : Met l yX1_at wzX1_at (k2_rm 2 45) (zr_pre (dC, dI) zz_cl ((cA, .int) :: tr) (zm_w cA mo th k (zk_n k) (zk_t k) F fa fb fc fd ++ wr) [.ref (mo 0), .ref (b), .int (nI (i0))]) (k2_QcV (.int (nI (zq_av k G i0)))) 0 0 (fun _ => False) := by
  refine Met.ofW (cc := cX1_at) (maxL := 6) (ret := (some .int)) (by decide) rfl ?_
  intro p e s m args below meth c s₁ B hml hv
  obtain ⟨rfl, hP, hK⟩ := hv
  have hx := B.exec
  have hb := B.bytes
  have hr := B.returns
  have hts := atoms_spec (ws := wzX1_at) B.pre
  have hown : s.vm.findClass RX1 = some m.cls := findClass_of_methodNamed B.named
  have hlocks := B.notSynchronized
  have hl := lv_entry ([.ref (mo 0), .ref (b), .int (nI (i0))]) (n := 6) (Nat.le_of_ble_eq_true rfl)
  rw [lg_entry_eq]
  generalize (lg_sl ([.ref (mo 0), .ref (b), .int (nI (i0))]) ++ List.replicate (6 - (lg_sl ([.ref (mo 0), .ref (b), .int (nI (i0))])).length) Slot.unset).toArray = ls at hl ⊢
  have hl : lv_has ls 6 [(0, .ref (mo 0)), (1, .ref (b)), (2, .int (nI (i0)))] := hl
  obtain ⟨hb1, hb2, hb3, hb4, hb5, hb6, hb7, hb8⟩ := zk_b k hk
  refine lv_aload_n hx hb dX1_at_0 rfl (lv_at hl 0 rfl) ?_
  refine lv_aload_n hx hb dX1_at_1 rfl (lv_at hl 0 rfl) ?_
  refine zr_callq (zx_runV (As := []) (rest := [.ref (mo 0)]) hx hb hml hts hown (cm_least l dC dI cA tr wr mo th k F fa fb fc fd hk) zv_X1_42 rfl rfl ⟨Nat.le_of_ble_eq_true rfl, Nat.le_of_ble_eq_true rfl⟩ (zr_preV (q := (RX1, TM1, 9)) (ci := 1) (q0 := 0) hP hK rfl rfl) rfl hl.1 rfl (Nat.le_of_ble_eq_true rfl) dX1_at_2 ⟨Nat.zero_le _, Nat.zero_le _⟩) ?_
  refine lv_iconst (v := nI 2) hx hb dX1_at_5 (by decide) ?_
  refine lv_iload_n hx hb dX1_at_6 rfl (lv_at hl 2 rfl) ?_
  refine zr_imul hx hb dX1_at_7 ?_
  refine lv_iconst (v := nI 1) hx hb dX1_at_8 (by decide) ?_
  refine zr_iadd hx hb dX1_at_9 ?_
  refine zr_callq (zx_runV (As := [.int (nI (zk_z k)), .int (nI ((2 * i0) + 1))]) (rest := []) hx hb hml hts hown (cm_raised l dC dI cA tr wr mo th k F fa fb fc fd hk (zk_z k) (2 * i0 + 1) hb6 (by omega)) zv_X1_35 rfl rfl ⟨Nat.le_of_ble_eq_true rfl, Nat.le_of_ble_eq_true rfl⟩ (zr_preV (q := (RX1, TM1, 9)) (ci := 1) (q0 := 0) hP hK rfl rfl) rfl hl.1 rfl (Nat.le_of_ble_eq_true rfl) dX1_at_10 ⟨Nat.zero_le _, Nat.zero_le _⟩) ?_
  refine lv_istore_n (lv' := [(3, .int (nI (zk_z k ^ (2 * i0 + 1) % zk_t k))), (0, .ref (mo 0)), (1, .ref (b)), (2, .int (nI (i0)))]) hx hb dX1_at_13 rfl hl (by decide) rfl (fun ls hl => ?_)
  refine lv_iconst (v := nI 0) hx hb dX1_at_14 (by decide) ?_
  refine lv_istore (lv' := [(4, .int (nI (0))), (3, .int (nI (zk_z k ^ (2 * i0 + 1) % zk_t k))), (0, .ref (mo 0)), (1, .ref (b)), (2, .int (nI (i0)))]) hx hb dX1_at_15 hl (by decide) rfl (fun ls hl => ?_)
  refine lv_aload_n hx hb dX1_at_17 rfl (lv_at hl 2 rfl) ?_
  refine zx_get1 (v := .int (nI (zk_n k))) hx hb hts hown hK hP 0 rfl 2 (by decide) zf_X1_7 rfl dX1_at_18 ?_
  refine lv_iconst (v := nI 1) hx hb dX1_at_21 (by decide) ?_
  refine zr_isub hx hb dX1_at_22 (by omega) ?_
  refine lv_istore (lv' := [(5, .int (nI ((zk_n k) - 1))), (4, .int (nI (0))), (3, .int (nI (zk_z k ^ (2 * i0 + 1) % zk_t k))), (0, .ref (mo 0)), (1, .ref (b)), (2, .int (nI (i0)))]) hx hb dX1_at_23 hl (by decide) rfl (fun ls hl => ?_)
  have loop : ∀ (u r : Nat), r = u → r < zk_n k → ∀ ls, lv_has ls 6 [(0, .ref (mo 0)), (1, .ref b), (3, .int (nI (zk_z k ^ (2 * i0 + 1) % zk_t k))), (4, .int (nI (zq_hr (zk_t k) (zk_z k ^ (2 * i0 + 1) % zk_t k) (zk_n k) G (zk_n k - 1 - r)))), (5, .int (nI r))] → W p l e (headSpec wzX1_at (k2_rm 2 45)).room s m ([.ref (mo 0), .ref (b), .int (nI (i0))] : List Value).toArray below meth c s.heap [] 0 0 (MQ below (k2_QcV (.int (nI (zq_av k G i0)))) ([.ref (mo 0), .ref (b), .int (nI (i0))] : List Value).toArray s 0 0 (fun _ => False)) (F0 m 25 ls []) := by
    intro u
    induction u with
    | zero =>
      intro r hr1 hrn ls hl
      subst hr1
      have hh1 := zq_hr_lt (show 0 < zk_t k by omega) (zk_z k ^ (2 * i0 + 1) % zk_t k) (zk_n k) G (zk_n k - 1 - 0)
      have hx2 : zk_z k ^ (2 * i0 + 1) % zk_t k < zk_t k := Nat.mod_lt _ (by omega)
      have hgr := hG 0 (by omega)
      have hb9 := zq_b4 hh1 hx2 hb4
      have hst : (zq_hr (zk_t k) (zk_z k ^ (2 * i0 + 1) % zk_t k) (zk_n k) G (zk_n k - 1 - 0) * (zk_z k ^ (2 * i0 + 1) % zk_t k) + G 0) % zk_t k = zq_hr (zk_t k) (zk_z k ^ (2 * i0 + 1) % zk_t k) (zk_n k) G (zk_n k - 1 - 0 + 1) := by show _ = (_ * _ + G (zk_n k - 1 - (zk_n k - 1 - 0))) % _; rw [show zk_n k - 1 - (zk_n k - 1 - 0) = 0 by omega]
      refine lv_iload hx hb dX1_at_25 (lv_at hl 4 rfl) ?_
      refine zr_iflt (tgt := 52) hx hb dX1_at_27 (by decide) (by omega) ?_
      refine lv_iload hx hb dX1_at_30 (lv_at hl 3 rfl) ?_
      refine lv_iload_n hx hb dX1_at_32 rfl (lv_at hl 2 rfl) ?_
      refine zr_imul hx hb dX1_at_33 ?_
      refine lv_aload_n hx hb dX1_at_34 rfl (lv_at hl 1 rfl) ?_
      refine lv_iload hx hb dX1_at_35 (lv_at hl 4 rfl) ?_
      refine zr_iald (y := G 0) hx hb hK hP q 0 hq rfl (by omega) (by decide) rfl dX1_at_37 ?_
      refine zr_iadd hx hb dX1_at_38 ?_
      refine lv_aload_n hx hb dX1_at_39 rfl (lv_at hl 0 rfl) ?_
      refine zx_get1 (v := .int (nI (zk_t k))) hx hb hts hown hK hP 0 rfl 3 (by decide) zf_X1_13 rfl dX1_at_40 ?_
      refine zr_irem hx hb dX1_at_43 (by omega) (by omega) (by omega) ?_
      rw [hst]
      refine lv_istore (lv' := [(4, .int (nI (zq_hr (zk_t k) (zk_z k ^ (2 * i0 + 1) % zk_t k) (zk_n k) G (zk_n k - 1 - 0 + 1)))), (0, .ref (mo 0)), (1, .ref (b)), (3, .int (nI (zk_z k ^ (2 * i0 + 1) % zk_t k))), (5, .int (nI (0)))]) hx hb dX1_at_44 hl (by decide) rfl (fun ls hl => ?_)
      refine lv_iinc (k := 4) (v := -1) (lv' := [(5, .int (-1)), (4, .int (nI (zq_hr (zk_t k) (zk_z k ^ (2 * i0 + 1) % zk_t k) (zk_n k) G (zk_n k - 1 - 0 + 1)))), (0, .ref (mo 0)), (1, .ref (b)), (3, .int (nI (zk_z k ^ (2 * i0 + 1) % zk_t k)))]) hx hb dX1_at_46 hl rfl (by decide) (by decide) rfl (fun ls hl => ?_)
      refine lv_goto (tgt := 25) hx hb dX1_at_49 (by decide) ?_
      refine lv_iload hx hb dX1_at_25 (lv_at hl 0 rfl) ?_
      refine lv_if_lt (tgt := 52) hx hb dX1_at_27 (by decide) (fun _ => ?_) (fun hh => absurd (show (-1 : Int32) < 0 by decide) hh)
      refine lv_iload hx hb dX1_at_52 (lv_at hl 1 rfl) ?_
      rw [show zk_n k - 1 - 0 + 1 = zk_n k by omega, zq_hr_av hk]
      exact W.iret (v := nI (zq_av k G i0)) hx hb hr (fun t9 h9 _ => ⟨rfl, h9⟩) (fun q h => by cases h) dX1_at_54
    | succ u ih =>
      intro r hr1 hrn ls hl
      subst hr1
      have hh1 := zq_hr_lt (show 0 < zk_t k by omega) (zk_z k ^ (2 * i0 + 1) % zk_t k) (zk_n k) G (zk_n k - 1 - (u + 1))
      have hx2 : zk_z k ^ (2 * i0 + 1) % zk_t k < zk_t k := Nat.mod_lt _ (by omega)
      have hgr := hG (u + 1) (by omega)
      have hb9 := zq_b4 hh1 hx2 hb4
      have hst : (zq_hr (zk_t k) (zk_z k ^ (2 * i0 + 1) % zk_t k) (zk_n k) G (zk_n k - 1 - (u + 1)) * (zk_z k ^ (2 * i0 + 1) % zk_t k) + G (u + 1)) % zk_t k = zq_hr (zk_t k) (zk_z k ^ (2 * i0 + 1) % zk_t k) (zk_n k) G (zk_n k - 1 - (u + 1) + 1) := by show _ = (_ * _ + G (zk_n k - 1 - (zk_n k - 1 - (u + 1)))) % _; rw [show zk_n k - 1 - (zk_n k - 1 - (u + 1)) = (u + 1) by omega]
      refine lv_iload hx hb dX1_at_25 (lv_at hl 4 rfl) ?_
      refine zr_iflt (tgt := 52) hx hb dX1_at_27 (by decide) (by omega) ?_
      refine lv_iload hx hb dX1_at_30 (lv_at hl 3 rfl) ?_
      refine lv_iload_n hx hb dX1_at_32 rfl (lv_at hl 2 rfl) ?_
      refine zr_imul hx hb dX1_at_33 ?_
      refine lv_aload_n hx hb dX1_at_34 rfl (lv_at hl 1 rfl) ?_
      refine lv_iload hx hb dX1_at_35 (lv_at hl 4 rfl) ?_
      refine zr_iald (y := G (u + 1)) hx hb hK hP q 0 hq rfl (by omega) (by decide) rfl dX1_at_37 ?_
      refine zr_iadd hx hb dX1_at_38 ?_
      refine lv_aload_n hx hb dX1_at_39 rfl (lv_at hl 0 rfl) ?_
      refine zx_get1 (v := .int (nI (zk_t k))) hx hb hts hown hK hP 0 rfl 3 (by decide) zf_X1_13 rfl dX1_at_40 ?_
      refine zr_irem hx hb dX1_at_43 (by omega) (by omega) (by omega) ?_
      rw [hst]
      refine lv_istore (lv' := [(4, .int (nI (zq_hr (zk_t k) (zk_z k ^ (2 * i0 + 1) % zk_t k) (zk_n k) G (zk_n k - 1 - (u + 1) + 1)))), (0, .ref (mo 0)), (1, .ref (b)), (3, .int (nI (zk_z k ^ (2 * i0 + 1) % zk_t k))), (5, .int (nI (u + 1)))]) hx hb dX1_at_44 hl (by decide) rfl (fun ls hl => ?_)
      refine zr_idec (k := 4) (lv' := [(5, .int (nI (u))), (4, .int (nI (zq_hr (zk_t k) (zk_z k ^ (2 * i0 + 1) % zk_t k) (zk_n k) G (zk_n k - 1 - (u + 1) + 1)))), (0, .ref (mo 0)), (1, .ref (b)), (3, .int (nI (zk_z k ^ (2 * i0 + 1) % zk_t k)))]) hx hb dX1_at_46 hl rfl (by decide) rfl (fun ls hl => ?_)
      refine lv_goto (tgt := 25) hx hb dX1_at_49 (by decide) ?_
      exact ih u rfl (by omega) ls (by rw [show zk_n k - 1 - u = zk_n k - 1 - (u + 1) + 1 by omega]; exact (lv_sub hl [2, 3, 4, 1, 0] rfl))
  exact loop (zk_n k - 1) (zk_n k - 1) rfl (by omega) ls (by rw [Nat.sub_self]; exact (lv_sub hl [3, 4, 2, 1, 0] rfl))
set_option maxHeartbeats 4000000 in
set_option maxRecDepth 100000 in
/-- zeros(f) -/
theorem cm_zeros (l : Launch) (dC : Nat → ClassId) (dI : Nat → Nat → Nat) (cA : ClassId) (tr : List (ClassId × FieldType)) (wr : va_W) (mo : Nat → Nat) (th k : Nat) (F fa fb fc fd : Nat → Nat) (hk : k < 4) (q b : Nat) (G : Nat → Nat) (hq : (zm_w cA mo th k (zk_n k) (zk_t k) F fa fb fc fd ++ wr)[q]? = some (b, .inl (cA, 32, .inl (zq_I G)))) (hG : ∀ j, j < zk_n k → G j < zk_t k) : Met l yX1_zeros wzX1_zeros (k2_rm 3 70) (zr_pre (dC, dI) zz_cl ((cA, .int) :: tr) (zm_w cA mo th k (zk_n k) (zk_t k) F fa fb fc fd ++ wr) [.ref (mo 0), .ref (b)]) (k2_QcV (.int (nI (zq_zc (zq_av k G) (zk_n k))))) 0 0 (fun _ => False) := by
  refine Met.ofW (cc := cX1_zeros) (maxL := 4) (ret := (some .int)) (by decide) rfl ?_
  intro p e s m args below meth c s₁ B hml hv
  obtain ⟨rfl, hP, hK⟩ := hv
  have hx := B.exec
  have hb := B.bytes
  have hr := B.returns
  have hts := atoms_spec (ws := wzX1_zeros) B.pre
  have hown : s.vm.findClass RX1 = some m.cls := findClass_of_methodNamed B.named
  have hlocks := B.notSynchronized
  have hl := lv_entry ([.ref (mo 0), .ref (b)]) (n := 4) (Nat.le_of_ble_eq_true rfl)
  rw [lg_entry_eq]
  generalize (lg_sl ([.ref (mo 0), .ref (b)]) ++ List.replicate (4 - (lg_sl ([.ref (mo 0), .ref (b)])).length) Slot.unset).toArray = ls at hl ⊢
  have hl : lv_has ls 4 [(0, .ref (mo 0)), (1, .ref (b))] := hl
  obtain ⟨hb1, hb2, hb3, hb4, hb5, hb6, hb7, hb8⟩ := zk_b k hk
  refine lv_iconst (v := nI 0) hx hb dX1_zeros_0 (by decide) ?_
  refine lv_istore_n (lv' := [(2, .int (nI (0))), (0, .ref (mo 0)), (1, .ref (b))]) hx hb dX1_zeros_1 rfl hl (by decide) rfl (fun ls hl => ?_)
  refine lv_iconst (v := nI 0) hx hb dX1_zeros_2 (by decide) ?_
  refine lv_istore_n (lv' := [(3, .int (nI (0))), (2, .int (nI (0))), (0, .ref (mo 0)), (1, .ref (b))]) hx hb dX1_zeros_3 rfl hl (by decide) rfl (fun ls hl => ?_)
  have loop : ∀ (d i : Nat), i + d = zk_n k → ∀ ls, lv_has ls 4 [(0, .ref (mo 0)), (1, .ref (b)), (2, .int (nI (zq_zc (zq_av k G) i))), (3, .int (nI (i)))] → W p l e (headSpec wzX1_zeros (k2_rm 3 70)).room s m ([.ref (mo 0), .ref (b)] : List Value).toArray below meth c s.heap [] 0 0 (MQ below (k2_QcV (.int (nI (zq_zc (zq_av k G) (zk_n k))))) ([.ref (mo 0), .ref (b)] : List Value).toArray s 0 0 (fun _ => False)) (F0 m 4 ls []) := by
    intro d
    induction d with
    | zero =>
      intro i hi ls hl
      have hi : i = zk_n k := by omega
      refine lv_iload_n hx hb dX1_zeros_4 rfl (lv_at hl 3 rfl) ?_
      refine lv_aload_n hx hb dX1_zeros_5 rfl (lv_at hl 0 rfl) ?_
      refine zx_get1 (v := .int (nI (zk_n k))) hx hb hts hown hK hP 0 rfl 2 (by decide) zf_X1_7 rfl dX1_zeros_6 ?_
      refine zr_ige (tgt := 30) hx hb dX1_zeros_9 (by decide) (by omega) (by omega) (fun _ => ?_) (fun hno9 => absurd hno9 (by omega))
      refine lv_iload_n hx hb dX1_zeros_30 rfl (lv_at hl 2 rfl) ?_
      rw [hi]
      exact W.iret (v := nI (zq_zc (zq_av k G) (zk_n k))) hx hb hr (fun t9 h9 _ => ⟨rfl, h9⟩) (fun q h => by cases h) dX1_zeros_31
    | succ d ih =>
      intro i hi ls hl
      have hal := zq_av_lt hk G i
      refine lv_iload_n hx hb dX1_zeros_4 rfl (lv_at hl 3 rfl) ?_
      refine lv_aload_n hx hb dX1_zeros_5 rfl (lv_at hl 0 rfl) ?_
      refine zx_get1 (v := .int (nI (zk_n k))) hx hb hts hown hK hP 0 rfl 2 (by decide) zf_X1_7 rfl dX1_zeros_6 ?_
      refine zr_ige (tgt := 30) hx hb dX1_zeros_9 (by decide) (by omega) (by omega) (fun hno9 => absurd hno9 (by omega)) (fun _ => ?_)
      refine lv_aload_n hx hb dX1_zeros_12 rfl (lv_at hl 0 rfl) ?_
      refine lv_aload_n hx hb dX1_zeros_13 rfl (lv_at hl 1 rfl) ?_
      refine lv_iload_n hx hb dX1_zeros_14 rfl (lv_at hl 3 rfl) ?_
      refine zr_callq (zx_runV (As := [.ref (b), .int (nI (i))]) (rest := []) hx hb hml hts hown (cm_at l dC dI cA tr wr mo th k F fa fb fc fd hk q b G hq hG i (by omega)) zv_X1_58 rfl rfl ⟨Nat.le_of_ble_eq_true rfl, Nat.le_of_ble_eq_true rfl⟩ (zr_preV (q := (RX1, TM1, 9)) (ci := 1) (q0 := 0) hP hK rfl rfl) rfl hl.1 rfl (Nat.le_of_ble_eq_true rfl) dX1_zeros_15 ⟨Nat.zero_le _, Nat.zero_le _⟩) ?_
      refine zr_ifne (tgt := 24) hx hb dX1_zeros_18 (by decide) (by omega) (fun hz => ?_) (fun hz => ?_)
      · refine zr_iinc (k := 3) (lv' := [(3, .int (nI (i + 1))), (0, .ref (mo 0)), (1, .ref (b)), (2, .int (nI (zq_zc (zq_av k G) i)))]) hx hb dX1_zeros_24 hl rfl (by decide) rfl (fun ls hl => ?_)
        refine lv_goto (tgt := 4) hx hb dX1_zeros_27 (by decide) ?_
        exact ih (i + 1) (by omega) ls (by rw [zq_zc_1 hz]; exact (lv_sub hl [1, 2, 3, 0] rfl))
      · refine zr_iinc (k := 2) (lv' := [(2, .int (nI ((zq_zc (zq_av k G) i) + 1))), (0, .ref (mo 0)), (1, .ref (b)), (3, .int (nI (i)))]) hx hb dX1_zeros_21 hl rfl (by decide) rfl (fun ls hl => ?_)
        refine zr_iinc (k := 3) (lv' := [(3, .int (nI (i + 1))), (2, .int (nI ((zq_zc (zq_av k G) i) + 1))), (0, .ref (mo 0)), (1, .ref (b))]) hx hb dX1_zeros_24 hl rfl (by decide) rfl (fun ls hl => ?_)
        refine lv_goto (tgt := 4) hx hb dX1_zeros_27 (by decide) ?_
        exact ih (i + 1) (by omega) ls (by rw [zq_zc_0 hz]; exact (lv_sub hl [2, 3, 1, 0] rfl))
  exact loop (zk_n k) 0 (by omega) ls (lv_sub hl [2, 3, 1, 0] rfl)
