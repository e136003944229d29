set_option maxHeartbeats 4000000 in
set_option maxRecDepth 100000 in
/-- leastZ(): the first from 2 on whose n-th power is t - 1 -/
theorem cx_leastZ (l : Launch) (dC : Nat → ClassId) (dI : Nat → Nat → Nat) (cA cR : ClassId) (tr : List (ClassId × FieldType)) (wr : va_W) (ad : Nat → Nat) (kd n t z v : Nat) (S : Nat → Int32) (P : Nat → Nat) (V : Nat → Nat → Nat) (y0 : Nat) (hy2 : 2 ≤ y0) (hyt : y0 < t - 1) (ht : 1 < t) (ht2 : t ≤ 193) (hn : n ≤ 32) (hy : y0 ^ n % t = t - 1) (hlt : ∀ y, 2 ≤ y → y < y0 → y ^ n % t ≠ t - 1) : Met l yX0_leastZ wzX0_leastZ (k2_rm 1 25) (zr_pre (dC, dI) zz_cl ((cA, .int) :: (cR, .array .int) :: tr) (zc_w cA cR ad kd n t z v S P V ++ wr) [.ref (ad 0)]) (k2_QcV (.int (nI y0))) 0 0 (fun _ => False) := by
  refine Met.ofW (cc := cX0_leastZ) (maxL := 2) (ret := (some .int)) (by decide) rfl ?_
  intro p e s m args below meth c s₁ B hml hv
  obtain ⟨rfl, hP, hK⟩ := hv
  have hx := B.exec
  have hb := B.bytes
  have hr := B.returns
  have hts := atoms_spec (ws := wzX0_leastZ) B.pre
  have hown : s.vm.findClass RX0 = some m.cls := findClass_of_methodNamed B.named
  have hlocks := B.notSynchronized
  have hl := lv_entry ([.ref (ad 0)]) (n := 2) (Nat.le_of_ble_eq_true rfl)
  rw [lg_entry_eq]
  generalize (lg_sl ([.ref (ad 0)]) ++ List.replicate (2 - (lg_sl ([.ref (ad 0)])).length) Slot.unset).toArray = ls at hl ⊢
  have hl : lv_has ls 2 [(0, .ref (ad 0))] := hl
  refine lv_iconst (v := nI 2) hx hb dX0_leastZ_0 (by decide) ?_
  refine lv_istore_n (lv' := [(1, .int (nI (2))), (0, .ref (ad 0))]) hx hb dX0_leastZ_1 rfl hl (by decide) rfl (fun ls hl => ?_)
  have loop : ∀ (d i : Nat), i + d = y0 → 2 ≤ i → ∀ ls, lv_has ls 2 [(0, .ref (ad 0)), (1, .int (nI (i)))] → W p l e (headSpec wzX0_leastZ (k2_rm 1 25)).room s m ([.ref (ad 0)] : List Value).toArray below meth c s.heap [] 0 0 (MQ below (k2_QcV (.int (nI y0))) ([.ref (ad 0)] : List Value).toArray s 0 0 (fun _ => False)) (F0 m 2 ls []) := by
    intro d
    induction d with
    | zero =>
      intro i hi hv0 ls hl
      have hi : i = y0 := by omega
      refine lv_iload_n hx hb dX0_leastZ_2 rfl (lv_at hl 1 rfl) ?_
      refine lv_aload_n hx hb dX0_leastZ_3 rfl (lv_at hl 0 rfl) ?_
      refine zx_get0 (v := .int (nI (t))) hx hb hts hown hK hP 0 rfl 5 (by decide) zf_X0_49 rfl dX0_leastZ_4 ?_
      refine lv_iconst (v := nI 1) hx hb dX0_leastZ_7 (by decide) ?_
      refine zr_isub hx hb dX0_leastZ_8 (by omega) ?_
      refine zr_ige (tgt := 36) hx hb dX0_leastZ_9 (by decide) (by omega) (by omega) (fun hno9 => absurd hno9 (by omega)) (fun _ => ?_)
      refine lv_aload_n hx hb dX0_leastZ_12 rfl (lv_at hl 0 rfl) ?_
      refine lv_iload_n hx hb dX0_leastZ_13 rfl (lv_at hl 1 rfl) ?_
      refine lv_aload_n hx hb dX0_leastZ_14 rfl (lv_at hl 0 rfl) ?_
      refine zx_get0 (v := .int (nI (n))) hx hb hts hown hK hP 0 rfl 4 (by decide) zf_X0_58 rfl dX0_leastZ_15 ?_
      refine zr_callq (zx_runV (As := [.int (nI (i)), .int (nI (n))]) (rest := []) hx hb hml hts hown (cx_raised l dC dI cA cR tr wr ad kd n t z v S P V i n (by omega) ht ht2 (by omega)) zv_X0_88 rfl rfl ⟨Nat.le_of_ble_eq_true rfl, Nat.le_of_ble_eq_true rfl⟩ (zr_preV (q := (RX0, TX0, 8)) (ci := 0) (q0 := 0) hP hK rfl rfl) rfl hl.1 rfl (Nat.le_of_ble_eq_true rfl) dX0_leastZ_18 ⟨Nat.zero_le _, Nat.zero_le _⟩) ?_
      refine lv_aload_n hx hb dX0_leastZ_21 rfl (lv_at hl 0 rfl) ?_
      refine zx_get0 (v := .int (nI (t))) hx hb hts hown hK hP 0 rfl 5 (by decide) zf_X0_49 rfl dX0_leastZ_22 ?_
      refine lv_iconst (v := nI 1) hx hb dX0_leastZ_25 (by decide) ?_
      refine zr_isub hx hb dX0_leastZ_26 (by omega) ?_
      refine zr_ieq (tgt := 36) hx hb dX0_leastZ_27 (by decide) (zq_ml (by omega) ht2) (by omega) (fun _ => ?_) (fun hno9 => absurd hno9 (fun hh => hh (by rw [hi]; exact hy)))
      refine lv_iload_n hx hb dX0_leastZ_36 rfl (lv_at hl 1 rfl) ?_
      rw [hi]
      exact W.iret (v := nI y0) hx hb hr (fun t9 h9 _ => ⟨rfl, h9⟩) (fun q h => by cases h) dX0_leastZ_37
    | succ d ih =>
      intro i hi hv0 ls hl
      refine lv_iload_n hx hb dX0_leastZ_2 rfl (lv_at hl 1 rfl) ?_
      refine lv_aload_n hx hb dX0_leastZ_3 rfl (lv_at hl 0 rfl) ?_
      refine zx_get0 (v := .int (nI (t))) hx hb hts hown hK hP 0 rfl 5 (by decide) zf_X0_49 rfl dX0_leastZ_4 ?_
      refine lv_iconst (v := nI 1) hx hb dX0_leastZ_7 (by decide) ?_
      refine zr_isub hx hb dX0_leastZ_8 (by omega) ?_
      refine zr_ige (tgt := 36) hx hb dX0_leastZ_9 (by decide) (by omega) (by omega) (fun hno9 => absurd hno9 (by omega)) (fun _ => ?_)
      refine lv_aload_n hx hb dX0_leastZ_12 rfl (lv_at hl 0 rfl) ?_
      refine lv_iload_n hx hb dX0_leastZ_13 rfl (lv_at hl 1 rfl) ?_
      refine lv_aload_n hx hb dX0_leastZ_14 rfl (lv_at hl 0 rfl) ?_
      refine zx_get0 (v := .int (nI (n))) hx hb hts hown hK hP 0 rfl 4 (by decide) zf_X0_58 rfl dX0_leastZ_15 ?_
      refine zr_callq (zx_runV (As := [.int (nI (i)), .int (nI (n))]) (rest := []) hx hb hml hts hown (cx_raised l dC dI cA cR tr wr ad kd n t z v S P V i n (by omega) ht ht2 (by omega)) zv_X0_88 rfl rfl ⟨Nat.le_of_ble_eq_true rfl, Nat.le_of_ble_eq_true rfl⟩ (zr_preV (q := (RX0, TX0, 8)) (ci := 0) (q0 := 0) hP hK rfl rfl) rfl hl.1 rfl (Nat.le_of_ble_eq_true rfl) dX0_leastZ_18 ⟨Nat.zero_le _, Nat.zero_le _⟩) ?_
      refine lv_aload_n hx hb dX0_leastZ_21 rfl (lv_at hl 0 rfl) ?_
      refine zx_get0 (v := .int (nI (t))) hx hb hts hown hK hP 0 rfl 5 (by decide) zf_X0_49 rfl dX0_leastZ_22 ?_
      refine lv_iconst (v := nI 1) hx hb dX0_leastZ_25 (by decide) ?_
      refine zr_isub hx hb dX0_leastZ_26 (by omega) ?_
      refine zr_ieq (tgt := 36) hx hb dX0_leastZ_27 (by decide) (zq_ml (by omega) ht2) (by omega) (fun hno9 => absurd hno9 (hlt i (by omega) (by omega))) (fun _ => ?_)
      refine zr_iinc (k := 1) (lv' := [(1, .int (nI (i + 1))), (0, .ref (ad 0))]) hx hb dX0_leastZ_30 hl rfl (by decide) rfl (fun ls hl => ?_)
      refine lv_goto (tgt := 2) hx hb dX0_leastZ_33 (by decide) ?_
      exact ih (i + 1) (by omega) (by omega) ls (lv_sub hl [1, 0] rfl)
  exact loop (y0 - 2) 2 (by omega) (Nat.le_refl _) ls (lv_sub hl [1, 0] rfl)
set_option maxHeartbeats 4000000 in
set_option maxRecDepth 100000 in
/-- isFirstSuchValue(row, i) -/
theorem cx_isFirst (l : Launch) (dC : Nat → ClassId) (dI : Nat → Nat → Nat) (cA cR : ClassId) (tr : List (ClassId × FieldType)) (wr : va_W) (ad : Nat → Nat) (kd n t z v : Nat) (S : Nat → Int32) (P : Nat → Nat) (V : Nat → Nat → Nat) (q b : Nat) (g : Nat → Int32) (G : Nat → Nat) (hq : (zc_w cA cR ad kd n t z v S P V ++ wr)[q]? = some (b, .inl (cA, 32, .inl g))) (hg : ∀ i, i < n → g i = nI (G i)) (hn : n ≤ 32) (i0 : Nat) (hi0 : i0 < n) (hG : ∀ i, i < n → G i < 2147483648) : Met l yX0_isFirstSuchValue wzX0_isFirstSuchValue (k2_rm 0 0) (zr_pre (dC, dI) zz_cl ((cA, .int) :: (cR, .array .int) :: tr) (zc_w cA cR ad kd n t z v S P V ++ wr) [.ref (ad 0), .ref (b), .int (nI (i0))]) (k2_QcV (.int (nI (zq_yn (∀ k, k < i0 → G k ≠ G i0))))) 0 0 (fun _ => False) := by
  refine Met.ofW (cc := cX0_isFirstSuchValue) (maxL := 4) (ret := (some .boolean)) (by decide) rfl ?_
  intro p e s m args below meth c s₁ B hml hv
  obtain ⟨rfl, hP, hK⟩ := hv
  have hx := B.exec
  have hb := B.bytes
  have hr := B.returns
  have hts := atoms_spec (ws := wzX0_isFirstSuchValue) B.pre
  have hown : s.vm.findClass RX0 = some m.cls := findClass_of_methodNamed B.named
  have hlocks := B.notSynchronized
  have hl := lv_entry ([.ref (ad 0), .ref (b), .int (nI (i0))]) (n := 4) (Nat.le_of_ble_eq_true rfl)
  rw [lg_entry_eq]
  generalize (lg_sl ([.ref (ad 0), .ref (b), .int (nI (i0))]) ++ List.replicate (4 - (lg_sl ([.ref (ad 0), .ref (b), .int (nI (i0))])).length) Slot.unset).toArray = ls at hl ⊢
  have hl : lv_has ls 4 [(0, .ref (ad 0)), (1, .ref (b)), (2, .int (nI (i0)))] := hl
  refine lv_iconst (v := nI 0) hx hb dX0_isFirstSuchValue_0 (by decide) ?_
  refine lv_istore_n (lv' := [(3, .int (nI (0))), (0, .ref (ad 0)), (1, .ref (b)), (2, .int (nI (i0)))]) hx hb dX0_isFirstSuchValue_1 rfl hl (by decide) rfl (fun ls hl => ?_)
  have loop : ∀ (d i : Nat), i + d = i0 → (∀ k, k < i → G k ≠ G i0) → ∀ ls, lv_has ls 4 [(0, .ref (ad 0)), (1, .ref (b)), (2, .int (nI (i0))), (3, .int (nI (i)))] → W p l e (headSpec wzX0_isFirstSuchValue (k2_rm 0 0)).room s m ([.ref (ad 0), .ref (b), .int (nI (i0))] : List Value).toArray below meth c s.heap [] 0 0 (MQ below (k2_QcV (.int (nI (zq_yn (∀ k, k < i0 → G k ≠ G i0))))) ([.ref (ad 0), .ref (b), .int (nI (i0))] : List Value).toArray s 0 0 (fun _ => False)) (F0 m 2 ls []) := by
    intro d
    induction d with
    | zero =>
      intro i hi hv0 ls hl
      have hi : i = i0 := by omega
      subst hi
      refine lv_iload_n hx hb dX0_isFirstSuchValue_2 rfl (lv_at hl 3 rfl) ?_
      refine lv_iload_n hx hb dX0_isFirstSuchValue_3 rfl (lv_at hl 2 rfl) ?_
      refine zr_ige (tgt := 24) hx hb dX0_isFirstSuchValue_4 (by decide) (by omega) (by omega) (fun _ => ?_) (fun hno9 => absurd hno9 (by omega))
      refine lv_iconst (v := nI 1) hx hb dX0_isFirstSuchValue_24 (by decide) ?_
      rw [zq_yn_1 hv0]
      exact W.zret (v := nI 1) hx hb hr rfl (fun t9 h9 _ => ⟨rfl, h9⟩) (fun q h => by cases h) dX0_isFirstSuchValue_25
    | succ d ih =>
      intro i hi hv0 ls hl
      refine lv_iload_n hx hb dX0_isFirstSuchValue_2 rfl (lv_at hl 3 rfl) ?_
      refine lv_iload_n hx hb dX0_isFirstSuchValue_3 rfl (lv_at hl 2 rfl) ?_
      refine zr_ige (tgt := 24) hx hb dX0_isFirstSuchValue_4 (by decide) (by omega) (by omega) (fun hno9 => absurd hno9 (by omega)) (fun _ => ?_)
      refine lv_aload_n hx hb dX0_isFirstSuchValue_7 rfl (lv_at hl 1 rfl) ?_
      refine lv_iload_n hx hb dX0_isFirstSuchValue_8 rfl (lv_at hl 3 rfl) ?_
      refine zr_iald (y := G i) hx hb hK hP q 0 hq rfl (by omega) (by decide) (hg _ (by omega)) dX0_isFirstSuchValue_9 ?_
      refine lv_aload_n hx hb dX0_isFirstSuchValue_10 rfl (lv_at hl 1 rfl) ?_
      refine lv_iload_n hx hb dX0_isFirstSuchValue_11 rfl (lv_at hl 2 rfl) ?_
      refine zr_iald (y := G i0) hx hb hK hP q 0 hq rfl (by omega) (by decide) (hg _ (by omega)) dX0_isFirstSuchValue_12 ?_
      refine zr_ine (tgt := 18) hx hb dX0_isFirstSuchValue_13 (by decide) (hG i (by omega)) (hG i0 (by omega)) (fun hne => ?_) (fun hne => ?_)
      · refine zr_iinc (k := 3) (lv' := [(3, .int (nI (i + 1))), (0, .ref (ad 0)), (1, .ref (b)), (2, .int (nI (i0)))]) hx hb dX0_isFirstSuchValue_18 hl rfl (by decide) rfl (fun ls hl => ?_)
        refine lv_goto (tgt := 2) hx hb dX0_isFirstSuchValue_21 (by decide) ?_
        exact ih (i + 1) (by omega) (lt_s hv0 hne) ls (lv_sub hl [1, 2, 3, 0] rfl)
      · refine lv_iconst (v := nI 0) hx hb dX0_isFirstSuchValue_16 (by decide) ?_
        rw [zq_yn_0 (fun hh => hh i (by omega) hne)]
        exact W.zret (v := nI 0) hx hb hr rfl (fun t9 h9 _ => ⟨rfl, h9⟩) (fun q h => by cases h) dX0_isFirstSuchValue_17
  exact loop i0 0 (by omega) lt_0 ls (lv_sub hl [1, 2, 3, 0] rfl)
set_option maxHeartbeats 4000000 in
set_option maxRecDepth 100000 in
/-- differentValues(row) -/
theorem cx_differentValues (l : Launch) (dC : Nat → ClassId) (dI : Nat → Nat → Nat) (cA cR : ClassId) (tr : List (ClassId × FieldType)) (wr : va_W) (ad : Nat → Nat) (kd n t z v : Nat) (S : Nat → Int32) (P : Nat → Nat) (V : Nat → Nat → Nat) (q b : Nat) (g : Nat → Int32) (G : Nat → Nat) (hq : (zc_w cA cR ad kd n t z v S P V ++ wr)[q]? = some (b, .inl (cA, 32, .inl g))) (hg : ∀ i, i < n → g i = nI (G i)) (hn : n ≤ 32) (hG : ∀ i, i < n → G i < 2147483648) : Met l yX0_differentValues wzX0_differentValues (k2_rm 1 23) (zr_pre (dC, dI) zz_cl ((cA, .int) :: (cR, .array .int) :: tr) (zc_w cA cR ad kd n t z v S P V ++ wr) [.ref (ad 0), .ref (b)]) (k2_QcV (.int (nI (zq_dv G n)))) 0 0 (fun _ => False) := by
  refine Met.ofW (cc := cX0_differentValues) (maxL := 4) (ret := (some .int)) (by decide) rfl ?_
  intro p e s m args below meth c s₁ B hml hv
  obtain ⟨rfl, hP, hK⟩ := hv
  have hx := B.exec
  have hb := B.bytes
  have hr := B.returns
  have hts := atoms_spec (ws := wzX0_differentValues) B.pre
  have hown : s.vm.findClass RX0 = some m.cls := findClass_of_methodNamed B.named
  have hlocks := B.notSynchronized
  have hl := lv_entry ([.ref (ad 0), .ref (b)]) (n := 4) (Nat.le_of_ble_eq_true rfl)
  rw [lg_entry_eq]
  generalize (lg_sl ([.ref (ad 0), .ref (b)]) ++ List.replicate (4 - (lg_sl ([.ref (ad 0), .ref (b)])).length) Slot.unset).toArray = ls at hl ⊢
  have hl : lv_has ls 4 [(0, .ref (ad 0)), (1, .ref (b))] := hl
  refine lv_iconst (v := nI 0) hx hb dX0_differentValues_0 (by decide) ?_
  refine lv_istore_n (lv' := [(2, .int (nI (0))), (0, .ref (ad 0)), (1, .ref (b))]) hx hb dX0_differentValues_1 rfl hl (by decide) rfl (fun ls hl => ?_)
  refine lv_iconst (v := nI 0) hx hb dX0_differentValues_2 (by decide) ?_
  refine lv_istore_n (lv' := [(3, .int (nI (0))), (2, .int (nI (0))), (0, .ref (ad 0)), (1, .ref (b))]) hx hb dX0_differentValues_3 rfl hl (by decide) rfl (fun ls hl => ?_)
  have loop : ∀ (d i : Nat), i + d = n → ∀ ls, lv_has ls 4 [(0, .ref (ad 0)), (1, .ref b), (2, .int (nI (zq_dv G i))), (3, .int (nI i))] → W p l e (headSpec wzX0_differentValues (k2_rm 1 23)).room s m ([.ref (ad 0), .ref (b)] : List Value).toArray below meth c s.heap [] 0 0 (MQ below (k2_QcV (.int (nI (zq_dv G n)))) ([.ref (ad 0), .ref (b)] : List Value).toArray s 0 0 (fun _ => False)) (F0 m 4 ls []) := by
    intro d
    induction d with
    | zero =>
      intro i hi ls hl
      have hi : i = n := by omega
      subst hi
      refine lv_iload_n hx hb dX0_differentValues_4 rfl (lv_at hl 3 rfl) ?_
      refine lv_aload_n hx hb dX0_differentValues_5 rfl (lv_at hl 0 rfl) ?_
      refine zx_get0 (v := .int (nI (i))) hx hb hts hown hK hP 0 rfl 4 (by decide) zf_X0_58 rfl dX0_differentValues_6 ?_
      refine zr_ige (tgt := 30) hx hb dX0_differentValues_9 (by decide) (by omega) (by omega) (fun _ => ?_) (fun hno9 => absurd hno9 (by omega))
      refine lv_iload_n hx hb dX0_differentValues_30 rfl (lv_at hl 2 rfl) ?_
      exact W.iret (v := nI (zq_dv G i)) hx hb hr (fun t9 h9 _ => ⟨rfl, h9⟩) (fun q h => by cases h) dX0_differentValues_31
    | succ d ih =>
      intro i hi ls hl
      refine lv_iload_n hx hb dX0_differentValues_4 rfl (lv_at hl 3 rfl) ?_
      refine lv_aload_n hx hb dX0_differentValues_5 rfl (lv_at hl 0 rfl) ?_
      refine zx_get0 (v := .int (nI (n))) hx hb hts hown hK hP 0 rfl 4 (by decide) zf_X0_58 rfl dX0_differentValues_6 ?_
      refine zr_ige (tgt := 30) hx hb dX0_differentValues_9 (by decide) (by omega) (by omega) (fun hno9 => absurd hno9 (by omega)) (fun _ => ?_)
      refine lv_aload_n hx hb dX0_differentValues_12 rfl (lv_at hl 0 rfl) ?_
      refine lv_aload_n hx hb dX0_differentValues_13 rfl (lv_at hl 1 rfl) ?_
      refine lv_iload_n hx hb dX0_differentValues_14 rfl (lv_at hl 3 rfl) ?_
      refine zr_callq (zx_runV (As := [.ref (b), .int (nI (i))]) (rest := []) hx hb hml hts hown (cx_isFirst l dC dI cA cR tr wr ad kd n t z v S P V q b g G hq hg hn i (by omega) hG) zv_X0_155 rfl rfl ⟨Nat.le_of_ble_eq_true rfl, Nat.le_of_ble_eq_true rfl⟩ (zr_preV (q := (RX0, TX0, 8)) (ci := 0) (q0 := 0) hP hK rfl rfl) rfl hl.1 rfl (Nat.le_of_ble_eq_true rfl) dX0_differentValues_15 ⟨Nat.zero_le _, Nat.zero_le _⟩) ?_
      refine zr_ifeq (tgt := 24) hx hb dX0_differentValues_18 (by decide) zq_yn_b (fun hz => ?_) (fun hz => ?_)
      · refine zr_iinc (k := 3) (lv' := [(3, .int (nI (i + 1))), (0, .ref (ad 0)), (1, .ref (b)), (2, .int (nI (zq_dv G i)))]) hx hb dX0_differentValues_24 hl rfl (by decide) rfl (fun ls hl => ?_)
        refine lv_goto (tgt := 4) hx hb dX0_differentValues_27 (by decide) ?_
        exact ih (i + 1) (by omega) ls (by rw [zq_dv_0 (zq_yn_z hz)]; exact (lv_sub hl [1, 2, 3, 0] rfl))
      · refine zr_iinc (k := 2) (lv' := [(2, .int (nI ((zq_dv G i) + 1))), (0, .ref (ad 0)), (1, .ref (b)), (3, .int (nI (i)))]) hx hb dX0_differentValues_21 hl rfl (by decide) rfl (fun ls hl => ?_)
        refine zr_iinc (k := 3) (lv' := [(3, .int (nI (i + 1))), (2, .int (nI ((zq_dv G i) + 1))), (0, .ref (ad 0)), (1, .ref (b))]) hx hb dX0_differentValues_24 hl rfl (by decide) rfl (fun ls hl => ?_)
        refine lv_goto (tgt := 4) hx hb dX0_differentValues_27 (by decide) ?_
        exact ih (i + 1) (by omega) ls (by rw [zq_dv_1 (zq_yn_o hz)]; exact (lv_sub hl [2, 3, 1, 0] rfl))
  exact loop n 0 (by omega) ls (lv_sub hl [2, 3, 1, 0] rfl)
set_option maxHeartbeats 4000000 in
set_option maxRecDepth 100000 in
/-- turnedPlace(i, g) -/
theorem cx_turnedPlace (l : Launch) (dC : Nat → ClassId) (dI : Nat → Nat → Nat) (cA cR : ClassId) (tr : List (ClassId × FieldType)) (wr : va_W) (ad : Nat → Nat) (kd n t z v : Nat) (S : Nat → Int32) (P : Nat → Nat) (V : Nat → Nat → Nat) (i g : Nat) (hi : i < 32) (hg : g < 64) (hn0 : 0 < n) (hn : n ≤ 32) : Met l yX0_turnedPlace wzX0_turnedPlace (k2_rm 0 0) (zr_pre (dC, dI) zz_cl ((cA, .int) :: (cR, .array .int) :: tr) (zc_w cA cR ad kd n t z v S P V ++ wr) [.ref (ad 0), .int (nI (i)), .int (nI (g))]) (k2_QcV (.int (nI (zq_td n g i)))) 0 0 (fun _ => False) := by
  refine Met.ofW (cc := cX0_turnedPlace) (maxL := 3) (ret := (some .int)) (by decide) rfl ?_
  intro p e s m args below meth c s₁ B hml hv
  obtain ⟨rfl, hP, hK⟩ := hv
  have hx := B.exec
  have hb := B.bytes
  have hr := B.returns
  have hts := atoms_spec (ws := wzX0_turnedPlace) B.pre
  have hown : s.vm.findClass RX0 = some m.cls := findClass_of_methodNamed B.named
  have hlocks := B.notSynchronized
  have hl := lv_entry ([.ref (ad 0), .int (nI (i)), .int (nI (g))]) (n := 3) (Nat.le_of_ble_eq_true rfl)
  rw [lg_entry_eq]
  generalize (lg_sl ([.ref (ad 0), .int (nI (i)), .int (nI (g))]) ++ List.replicate (3 - (lg_sl ([.ref (ad 0), .int (nI (i)), .int (nI (g))])).length) Slot.unset).toArray = ls at hl ⊢
  have hl : lv_has ls 3 [(0, .ref (ad 0)), (1, .int (nI (i))), (2, .int (nI (g)))] := hl
  refine lv_iconst (v := nI 2) hx hb dX0_turnedPlace_0 (by decide) ?_
  refine lv_iload_n hx hb dX0_turnedPlace_1 rfl (lv_at hl 1 rfl) ?_
  refine zr_imul hx hb dX0_turnedPlace_2 ?_
  refine lv_iconst (v := nI 1) hx hb dX0_turnedPlace_3 (by decide) ?_
  refine zr_iadd hx hb dX0_turnedPlace_4 ?_
  refine lv_iload_n hx hb dX0_turnedPlace_5 rfl (lv_at hl 2 rfl) ?_
  refine zr_imul hx hb dX0_turnedPlace_6 ?_
  refine lv_iconst (v := nI 2) hx hb dX0_turnedPlace_7 (by decide) ?_
  refine lv_aload_n hx hb dX0_turnedPlace_8 rfl (lv_at hl 0 rfl) ?_
  refine zx_get0 (v := .int (nI (n))) hx hb hts hown hK hP 0 rfl 4 (by decide) zf_X0_58 rfl dX0_turnedPlace_9 ?_
  refine zr_imul hx hb dX0_turnedPlace_12 ?_
  refine zr_irem hx hb dX0_turnedPlace_13 (zq_bb (by omega) (by omega)) (by omega) (by omega) ?_
  refine lv_iconst (v := nI 2) hx hb dX0_turnedPlace_14 (by decide) ?_
  refine zr_idiv hx hb dX0_turnedPlace_15 (Nat.lt_of_lt_of_le (Nat.mod_lt _ (by omega)) (by omega)) (by omega) (by omega) ?_
  exact W.iret (v := nI (zq_td n g i)) hx hb hr (fun t9 h9 _ => ⟨rfl, h9⟩) (fun q h => by cases h) dX0_turnedPlace_16
set_option maxHeartbeats 4000000 in
set_option maxRecDepth 100000 in
/-- powerOfPoint(i, e): the power of z in the table -/
theorem cx_powerOfPoint (l : Launch) (dC : Nat → ClassId) (dI : Nat → Nat → Nat) (cA cR : ClassId) (tr : List (ClassId × FieldType)) (wr : va_W) (ad : Nat → Nat) (kd n t z v : Nat) (S : Nat → Int32) (P : Nat → Nat) (V : Nat → Nat → Nat) (i : Nat) (e0 : Int) (r : Nat) (hi : i < 32) (h1 : -64 ≤ e0) (h2 : e0 ≤ 64) (hn0 : 0 < n) (hn : n ≤ 32) (hr0 : ((2 * i + 1 : Nat) : Int) * e0 % ((2 * n : Nat) : Int) = (r : Int)) : Met l yX0_powerOfPoint wzX0_powerOfPoint (k2_rm 1 22) (zr_pre (dC, dI) zz_cl ((cA, .int) :: (cR, .array .int) :: tr) (zc_w cA cR ad kd n t z v S P V ++ wr) [.ref (ad 0), .int (nI (i)), .int (zi_I (e0))]) (k2_QcV (.int (nI (P r)))) 0 0 (fun _ => False) := by
  refine Met.ofW (cc := cX0_powerOfPoint) (maxL := 3) (ret := (some .int)) (by decide) rfl ?_
  intro p e s m args below meth c s₁ B hml hv
  obtain ⟨rfl, hP, hK⟩ := hv
  have hx := B.exec
  have hb := B.bytes
  have hr := B.returns
  have hts := atoms_spec (ws := wzX0_powerOfPoint) B.pre
  have hown : s.vm.findClass RX0 = some m.cls := findClass_of_methodNamed B.named
  have hlocks := B.notSynchronized
  have hl := lv_entry ([.ref (ad 0), .int (nI (i)), .int (zi_I (e0))]) (n := 3) (Nat.le_of_ble_eq_true rfl)
  rw [lg_entry_eq]
  generalize (lg_sl ([.ref (ad 0), .int (nI (i)), .int (zi_I (e0))]) ++ List.replicate (3 - (lg_sl ([.ref (ad 0), .int (nI (i)), .int (zi_I (e0))])).length) Slot.unset).toArray = ls at hl ⊢
  have hl : lv_has ls 3 [(0, .ref (ad 0)), (1, .int (nI (i))), (2, .int (zi_I (e0)))] := hl
  have hr1 : r < 2 * n := by have h9 := Int.emod_lt_of_pos (((2 * i + 1 : Nat) : Int) * e0) (show (0 : Int) < ((2 * n : Nat) : Int) by omega); omega
  have hbd := zi_bd (x := 2 * i + 1) (e := e0) (by omega) (by omega) (by omega)
  refine lv_aload_n hx hb dX0_powerOfPoint_0 rfl (lv_at hl 0 rfl) ?_
  refine zx_get0 (v := .ref (ad 3)) hx hb hts hown hK hP 0 rfl 2 (by decide) zf_X0_18 rfl dX0_powerOfPoint_1 ?_
  refine lv_iconst (v := nI 2) hx hb dX0_powerOfPoint_4 (by decide) ?_
  refine lv_iload_n hx hb dX0_powerOfPoint_5 rfl (lv_at hl 1 rfl) ?_
  refine zr_imul hx hb dX0_powerOfPoint_6 ?_
  refine lv_iconst (v := nI 1) hx hb dX0_powerOfPoint_7 (by decide) ?_
  refine zr_iadd hx hb dX0_powerOfPoint_8 ?_
  refine lv_iload_n hx hb dX0_powerOfPoint_9 rfl (lv_at hl 2 rfl) ?_
  refine zr_imulNZ hx hb dX0_powerOfPoint_10 ?_
  refine lv_iconst (v := nI 2) hx hb dX0_powerOfPoint_11 (by decide) ?_
  refine lv_aload_n hx hb dX0_powerOfPoint_12 rfl (lv_at hl 0 rfl) ?_
  refine zx_get0 (v := .int (nI (n))) hx hb hts hown hK hP 0 rfl 4 (by decide) zf_X0_58 rfl dX0_powerOfPoint_13 ?_
  refine zr_imul hx hb dX0_powerOfPoint_16 ?_
  refine zr_callq (zx_runS (As := [.int (zi_I ((((2 * i) + 1 : Nat) : Int) * e0)), .int (nI (2 * n))]) (rest := [.ref (ad 3)]) hx hb hml hts hown (cJ_floorMod l (dC, dI) zz_cl ((cA, .int) :: (cR, .array .int) :: tr) (zc_w cA cR ad kd n t z v S P V ++ wr) (((2 * i + 1 : Nat) : Int) * e0) (2 * n) r hbd.1 hbd.2 (by omega) (by omega) hr0) zu_X0_52 rfl rfl ⟨Nat.le_of_ble_eq_true rfl, Nat.le_of_ble_eq_true rfl⟩ (zr_preS hP hK) rfl hl.1 rfl (Nat.le_of_ble_eq_true rfl) dX0_powerOfPoint_17 ⟨Nat.zero_le _, Nat.zero_le _⟩) ?_
  refine zr_iald (y := P r) hx hb hK hP 3 0 rfl rfl (by omega) (by decide) rfl dX0_powerOfPoint_20 ?_
  exact W.iret (v := nI (P r)) hx hb hr (fun t9 h9 _ => ⟨rfl, h9⟩) (fun q h => by cases h) dX0_powerOfPoint_21
set_option maxHeartbeats 4000000 in
set_option maxRecDepth 100000 in
/-- coefficient(row, k) -/
theorem cx_coefficient (l : Launch) (dC : Nat → ClassId) (dI : Nat → Nat → Nat) (cA cR : ClassId) (tr : List (ClassId × FieldType)) (wr : va_W) (ad : Nat → Nat) (kd n t z v : Nat) (S : Nat → Int32) (P : Nat → Nat) (V : Nat → Nat → Nat) (q b : Nat) (g : Nat → Int32) (G : Nat → Nat) (hq : (zc_w cA cR ad kd n t z v S P V ++ wr)[q]? = some (b, .inl (cA, 32, .inl g))) (hg : ∀ i, i < n → g i = nI (G i)) (hn : n ≤ 32) (hn0 : 0 < n) (ht : 1 < t) (ht2 : t ≤ 193) (hG : ∀ i, i < n → G i < t) (hPt : ∀ j, j < 2 * n → P j < t) (hvt : v < t) (k0 : Nat) (hk0 : k0 < n) : Met l yX0_coefficient wzX0_coefficient (k2_rm 2 44) (zr_pre (dC, dI) zz_cl ((cA, .int) :: (cR, .array .int) :: tr) (zc_w cA cR ad kd n t z v S P V ++ wr) [.ref (ad 0), .ref (b), .int (nI (k0))]) (k2_QcV (.int (nI (zq_cc n t v P G k0)))) 0 0 (fun _ => False) := by
  refine Met.ofW (cc := cX0_coefficient) (maxL := 5) (ret := (some .int)) (by decide) rfl ?_
  intro p e s m args below meth c s₁ B hml hv
  obtain ⟨rfl, hP, hK⟩ := hv
  have hx := B.exec
  have hb := B.bytes
  have hr := B.returns
  have hts := atoms_spec (ws := wzX0_coefficient) B.pre
  have hown : s.vm.findClass RX0 = some m.cls := findClass_of_methodNamed B.named
  have hlocks := B.notSynchronized
  have hl := lv_entry ([.ref (ad 0), .ref (b), .int (nI (k0))]) (n := 5) (Nat.le_of_ble_eq_true rfl)
  rw [lg_entry_eq]
  generalize (lg_sl ([.ref (ad 0), .ref (b), .int (nI (k0))]) ++ List.replicate (5 - (lg_sl ([.ref (ad 0), .ref (b), .int (nI (k0))])).length) Slot.unset).toArray = ls at hl ⊢
  have hl : lv_has ls 5 [(0, .ref (ad 0)), (1, .ref (b)), (2, .int (nI (k0)))] := hl
  refine lv_iconst (v := nI 0) hx hb dX0_coefficient_0 (by decide) ?_
  refine lv_istore_n (lv' := [(3, .int (nI (0))), (0, .ref (ad 0)), (1, .ref (b)), (2, .int (nI (k0)))]) hx hb dX0_coefficient_1 rfl hl (by decide) rfl (fun ls hl => ?_)
  refine lv_iconst (v := nI 0) hx hb dX0_coefficient_2 (by decide) ?_
  refine lv_istore (lv' := [(4, .int (nI (0))), (3, .int (nI (0))), (0, .ref (ad 0)), (1, .ref (b)), (2, .int (nI (k0)))]) hx hb dX0_coefficient_3 hl (by decide) rfl (fun ls hl => ?_)
  have loop : ∀ (d i : Nat), i + d = n → ∀ ls, lv_has ls 5 [(0, .ref (ad 0)), (1, .ref (b)), (2, .int (nI (k0))), (3, .int (nI (zq_ns i (fun i => G i * P (zq_ci n i k0)) % t))), (4, .int (nI (i)))] → W p l e (headSpec wzX0_coefficient (k2_rm 2 44)).room s m ([.ref (ad 0), .ref (b), .int (nI (k0))] : List Value).toArray below meth c s.heap [] 0 0 (MQ below (k2_QcV (.int (nI (zq_cc n t v P G k0)))) ([.ref (ad 0), .ref (b), .int (nI (k0))] : List Value).toArray s 0 0 (fun _ => False)) (F0 m 5 ls []) := by
    intro d
    induction d with
    | zero =>
      intro i hi ls hl
      have hi : i = n := by omega
      subst hi
      have hm : zq_ns i (fun m => G m * P (zq_ci i m k0)) % t < t := Nat.mod_lt _ (by omega)
      refine lv_iload hx hb dX0_coefficient_5 (lv_at hl 4 rfl) ?_
      refine lv_aload_n hx hb dX0_coefficient_7 rfl (lv_at hl 0 rfl) ?_
      refine zx_get0 (v := .int (nI (i))) hx hb hts hown hK hP 0 rfl 4 (by decide) zf_X0_58 rfl dX0_coefficient_8 ?_
      refine zr_ige (tgt := 41) hx hb dX0_coefficient_11 (by decide) (by omega) (by omega) (fun _ => ?_) (fun hno9 => absurd hno9 (by omega))
      refine lv_iload_n hx hb dX0_coefficient_41 rfl (lv_at hl 3 rfl) ?_
      refine lv_aload_n hx hb dX0_coefficient_42 rfl (lv_at hl 0 rfl) ?_
      refine zx_get0 (v := .int (nI (v))) hx hb hts hown hK hP 0 rfl 7 (by decide) zf_X0_137 rfl dX0_coefficient_43 ?_
      refine zr_imul hx hb dX0_coefficient_46 ?_
      refine lv_aload_n hx hb dX0_coefficient_47 rfl (lv_at hl 0 rfl) ?_
      refine zx_get0 (v := .int (nI (t))) hx hb hts hown hK hP 0 rfl 5 (by decide) zf_X0_49 rfl dX0_coefficient_48 ?_
      refine zr_irem hx hb dX0_coefficient_51 (zq_b2 hm hvt ht2) (by omega) (by omega) ?_
      exact W.iret (v := nI (zq_cc i t v P G k0)) hx hb hr (fun t9 h9 _ => ⟨rfl, h9⟩) (fun q h => by cases h) dX0_coefficient_52
    | succ d ih =>
      intro i hi ls hl
      have hm : zq_ns i (fun i => G i * P (zq_ci n i k0)) % t < t := Nat.mod_lt _ (by omega)
      have hci := zq_ci_eq hn0 i k0
      have hgp := zq_b4 (hG i (by omega)) (hPt _ hci.2) ht2
      refine lv_iload hx hb dX0_coefficient_5 (lv_at hl 4 rfl) ?_
      refine lv_aload_n hx hb dX0_coefficient_7 rfl (lv_at hl 0 rfl) ?_
      refine zx_get0 (v := .int (nI (n))) hx hb hts hown hK hP 0 rfl 4 (by decide) zf_X0_58 rfl dX0_coefficient_8 ?_
      refine zr_ige (tgt := 41) hx hb dX0_coefficient_11 (by decide) (by omega) (by omega) (fun hno9 => absurd hno9 (by omega)) (fun _ => ?_)
      refine lv_iload_n hx hb dX0_coefficient_14 rfl (lv_at hl 3 rfl) ?_
      refine lv_aload_n hx hb dX0_coefficient_15 rfl (lv_at hl 1 rfl) ?_
      refine lv_iload hx hb dX0_coefficient_16 (lv_at hl 4 rfl) ?_
      refine zr_iald (y := G i) hx hb hK hP q 0 hq rfl (by omega) (by decide) (hg _ (by omega)) dX0_coefficient_18 ?_
      refine lv_aload_n hx hb dX0_coefficient_19 rfl (lv_at hl 0 rfl) ?_
      refine lv_iload hx hb dX0_coefficient_20 (lv_at hl 4 rfl) ?_
      refine lv_iload_n hx hb dX0_coefficient_22 rfl (lv_at hl 2 rfl) ?_
      refine zr_inegN hx hb dX0_coefficient_23 ?_
      refine zr_callq (zx_runV (As := [.int (nI (i)), .int (zi_I (-((k0 : Nat) : Int)))]) (rest := [.int (nI (G i)), .int (nI (zq_ns i (fun i => G i * P (zq_ci n i k0)) % t))]) hx hb hml hts hown (cx_powerOfPoint l dC dI cA cR tr wr ad kd n t z v S P V i (-((k0 : Nat) : Int)) (zq_ci n i k0) (by omega) (by omega) (by omega) hn0 hn hci.1) zv_X0_61 rfl rfl ⟨Nat.le_of_ble_eq_true rfl, Nat.le_of_ble_eq_true rfl⟩ (zr_preV (q := (RX0, TX0, 8)) (ci := 0) (q0 := 0) hP hK rfl rfl) rfl hl.1 rfl (Nat.le_of_ble_eq_true rfl) dX0_coefficient_24 ⟨Nat.zero_le _, Nat.zero_le _⟩) ?_
      refine zr_imul hx hb dX0_coefficient_27 ?_
      refine zr_iadd hx hb dX0_coefficient_28 ?_
      refine lv_aload_n hx hb dX0_coefficient_29 rfl (lv_at hl 0 rfl) ?_
      refine zx_get0 (v := .int (nI (t))) hx hb hts hown hK hP 0 rfl 5 (by decide) zf_X0_49 rfl dX0_coefficient_30 ?_
      refine zr_irem hx hb dX0_coefficient_33 (by omega) (by omega) (by omega) ?_
      refine lv_istore_n (lv' := [(3, .int (nI (((zq_ns i (fun i => G i * P (zq_ci n i k0)) % t) + ((G i) * (P (zq_ci n i k0)))) % t))), (0, .ref (ad 0)), (1, .ref (b)), (2, .int (nI (k0))), (4, .int (nI (i)))]) hx hb dX0_coefficient_34 rfl hl (by decide) rfl (fun ls hl => ?_)
      refine zr_iinc (k := 4) (lv' := [(4, .int (nI (i + 1))), (3, .int (nI (((zq_ns i (fun i => G i * P (zq_ci n i k0)) % t) + ((G i) * (P (zq_ci n i k0)))) % t))), (0, .ref (ad 0)), (1, .ref (b)), (2, .int (nI (k0)))]) hx hb dX0_coefficient_35 hl rfl (by decide) rfl (fun ls hl => ?_)
      refine lv_goto (tgt := 5) hx hb dX0_coefficient_38 (by decide) ?_
      exact ih (i + 1) (by omega) ls (by rw [← zq_su_s]; exact (lv_sub hl [2, 3, 4, 1, 0] rfl))
  exact loop n 0 (by omega) ls (lv_sub hl [2, 3, 4, 1, 0] rfl)
set_option maxHeartbeats 4000000 in
set_option maxRecDepth 100000 in
/-- joined(op, a, b) -/
theorem cx_joined (l : Launch) (dC : Nat → ClassId) (dI : Nat → Nat → Nat) (cA cR : ClassId) (tr : List (ClassId × FieldType)) (wr : va_W) (ad : Nat → Nat) (kd n t z v : Nat) (S : Nat → Int32) (P : Nat → Nat) (V : Nat → Nat → Nat) (op x y : Nat) (hop : op ≤ 3) (hx0 : x < t) (hy0 : y < t) (ht : 1 < t) (ht2 : t ≤ 193) : Met l yX0_joined wzX0_joined (k2_rm 2 46) (zr_pre (dC, dI) zz_cl ((cA, .int) :: (cR, .array .int) :: tr) (zc_w cA cR ad kd n t z v S P V ++ wr) [.ref (ad 0), .int (nI (op)), .int (nI (x)), .int (nI (y))]) (k2_QcV (.int (nI (zq_j t op x y)))) 0 0 (fun _ => False) := by
  refine Met.ofW (cc := cX0_joined) (maxL := 4) (ret := (some .int)) (by decide) rfl ?_
  intro p e s m args below meth c s₁ B hml hv
  obtain ⟨rfl, hP, hK⟩ := hv
  have hx := B.exec
  have hb := B.bytes
  have hr := B.returns
  have hts := atoms_spec (ws := wzX0_joined) B.pre
  have hown : s.vm.findClass RX0 = some m.cls := findClass_of_methodNamed B.named
  have hlocks := B.notSynchronized
  have hl := lv_entry ([.ref (ad 0), .int (nI (op)), .int (nI (x)), .int (nI (y))]) (n := 4) (Nat.le_of_ble_eq_true rfl)
  rw [lg_entry_eq]
  generalize (lg_sl ([.ref (ad 0), .int (nI (op)), .int (nI (x)), .int (nI (y))]) ++ List.replicate (4 - (lg_sl ([.ref (ad 0), .int (nI (op)), .int (nI (x)), .int (nI (y))])).length) Slot.unset).toArray = ls at hl ⊢
  have hl : lv_has ls 4 [(0, .ref (ad 0)), (1, .int (nI (op))), (2, .int (nI (x))), (3, .int (nI (y)))] := hl
  refine lv_iload_n hx hb dX0_joined_0 rfl (lv_at hl 1 rfl) ?_
  have e : op = 0 ∨ op = 1 ∨ op = 2 ∨ op = 3 := by omega
  rcases e with rfl | rfl | rfl | rfl
  · refine lv_tableIn (tgt := 28) (off := 27) hx hb dX0_joined_1 (by decide) (by decide) (by decide) (by decide) ?_
    refine lv_iload_n hx hb dX0_joined_28 rfl (lv_at hl 2 rfl) ?_
    refine lv_iload_n hx hb dX0_joined_29 rfl (lv_at hl 3 rfl) ?_
    refine zr_iadd hx hb dX0_joined_30 ?_
    refine lv_aload_n hx hb dX0_joined_31 rfl (lv_at hl 0 rfl) ?_
    refine zx_get0 (v := .int (nI (t))) hx hb hts hown hK hP 0 rfl 5 (by decide) zf_X0_49 rfl dX0_joined_32 ?_
    refine zr_irem hx hb dX0_joined_35 (by omega) (by omega) (by omega) ?_
    exact W.iret (v := nI (zq_j t 0 x y)) hx hb hr (fun t9 h9 _ => ⟨rfl, h9⟩) (fun q h => by cases h) dX0_joined_36
  · refine lv_tableIn (tgt := 37) (off := 36) hx hb dX0_joined_1 (by decide) (by decide) (by decide) (by decide) ?_
    refine lv_iload_n hx hb dX0_joined_37 rfl (lv_at hl 2 rfl) ?_
    refine lv_aload_n hx hb dX0_joined_38 rfl (lv_at hl 0 rfl) ?_
    refine zx_get0 (v := .int (nI (t))) hx hb hts hown hK hP 0 rfl 5 (by decide) zf_X0_49 rfl dX0_joined_39 ?_
    refine zr_iadd hx hb dX0_joined_42 ?_
    refine lv_iload_n hx hb dX0_joined_43 rfl (lv_at hl 3 rfl) ?_
    refine zr_isub hx hb dX0_joined_44 (by omega) ?_
    refine lv_aload_n hx hb dX0_joined_45 rfl (lv_at hl 0 rfl) ?_
    refine zx_get0 (v := .int (nI (t))) hx hb hts hown hK hP 0 rfl 5 (by decide) zf_X0_49 rfl dX0_joined_46 ?_
    refine zr_irem hx hb dX0_joined_49 (by omega) (by omega) (by omega) ?_
    exact W.iret (v := nI (zq_j t 1 x y)) hx hb hr (fun t9 h9 _ => ⟨rfl, h9⟩) (fun q h => by cases h) dX0_joined_50
  · refine lv_tableIn (tgt := 51) (off := 50) hx hb dX0_joined_1 (by decide) (by decide) (by decide) (by decide) ?_
    refine lv_iload_n hx hb dX0_joined_51 rfl (lv_at hl 2 rfl) ?_
    refine lv_iload_n hx hb dX0_joined_52 rfl (lv_at hl 3 rfl) ?_
    refine zr_imul hx hb dX0_joined_53 ?_
    refine lv_aload_n hx hb dX0_joined_54 rfl (lv_at hl 0 rfl) ?_
    refine zx_get0 (v := .int (nI (t))) hx hb hts hown hK hP 0 rfl 5 (by decide) zf_X0_49 rfl dX0_joined_55 ?_
    refine zr_irem hx hb dX0_joined_58 (zq_b2 hx0 hy0 ht2) (by omega) (by omega) ?_
    exact W.iret (v := nI (zq_j t 2 x y)) hx hb hr (fun t9 h9 _ => ⟨rfl, h9⟩) (fun q h => by cases h) dX0_joined_59
  · refine lv_tableOut (tgt := 60) hx hb dX0_joined_1 (by decide) (by decide) ?_
    refine lv_iload_n hx hb dX0_joined_60 rfl (lv_at hl 2 rfl) ?_
    refine lv_aload_n hx hb dX0_joined_61 rfl (lv_at hl 0 rfl) ?_
    refine lv_iload_n hx hb dX0_joined_62 rfl (lv_at hl 3 rfl) ?_
    refine zr_callq (zx_runV (As := [.int (nI (y))]) (rest := [.int (nI (x))]) hx hb hml hts hown (cx_inverse l dC dI cA cR tr wr ad kd n t z v S P V y hy0 ht ht2) zv_X0_134 rfl rfl ⟨Nat.le_of_ble_eq_true rfl, Nat.le_of_ble_eq_true rfl⟩ (zr_preV (q := (RX0, TX0, 8)) (ci := 0) (q0 := 0) hP hK rfl rfl) rfl hl.1 rfl (Nat.le_of_ble_eq_true rfl) dX0_joined_63 ⟨Nat.zero_le _, Nat.zero_le _⟩) ?_
    refine zr_imul hx hb dX0_joined_66 ?_
    refine lv_aload_n hx hb dX0_joined_67 rfl (lv_at hl 0 rfl) ?_
    refine zx_get0 (v := .int (nI (t))) hx hb hts hown hK hP 0 rfl 5 (by decide) zf_X0_49 rfl dX0_joined_68 ?_
    refine zr_irem hx hb dX0_joined_71 (zq_b2 hx0 (Nat.mod_lt _ (by omega)) ht2) (by omega) (by omega) ?_
    exact W.iret (v := nI (zq_j t 3 x y)) hx hb hr (fun t9 h9 _ => ⟨rfl, h9⟩) (fun q h => by cases h) dX0_joined_72
set_option maxHeartbeats 4000000 in
set_option maxRecDepth 100000 in
/-- leastRoot(x), where there is one -/
theorem cx_leastRoot (l : Launch) (dC : Nat → ClassId) (dI : Nat → Nat → Nat) (cA cR : ClassId) (tr : List (ClassId × FieldType)) (wr : va_W) (ad : Nat → Nat) (kd n t z v : Nat) (S : Nat → Int32) (P : Nat → Nat) (V : Nat → Nat → Nat) (x c0 : Nat) (hx0 : x < t) (ht : 1 < t) (ht2 : t ≤ 193) (hc : c0 ≤ t / 2) (hsq : c0 * c0 % t = x) (hlt : ∀ y, y < c0 → y * y % t ≠ x) : Met l yX0_leastRoot wzX0_leastRoot (k2_rm 0 0) (zr_pre (dC, dI) zz_cl ((cA, .int) :: (cR, .array .int) :: tr) (zc_w cA cR ad kd n t z v S P V ++ wr) [.ref (ad 0), .int (nI (x))]) (k2_QcV (.int (nI c0))) 0 0 (fun _ => False) := by
  refine Met.ofW (cc := cX0_leastRoot) (maxL := 3) (ret := (some .int)) (by decide) rfl ?_
  intro p e s m args below meth c s₁ B hml hv
  obtain ⟨rfl, hP, hK⟩ := hv
  have hx := B.exec
  have hb := B.bytes
  have hr := B.returns
  have hts := atoms_spec (ws := wzX0_leastRoot) B.pre
  have hown : s.vm.findClass RX0 = some m.cls := findClass_of_methodNamed B.named
  have hlocks := B.notSynchronized
  have hl := lv_entry ([.ref (ad 0), .int (nI (x))]) (n := 3) (Nat.le_of_ble_eq_true rfl)
  rw [lg_entry_eq]
  generalize (lg_sl ([.ref (ad 0), .int (nI (x))]) ++ List.replicate (3 - (lg_sl ([.ref (ad 0), .int (nI (x))])).length) Slot.unset).toArray = ls at hl ⊢
  have hl : lv_has ls 3 [(0, .ref (ad 0)), (1, .int (nI (x)))] := hl
  refine lv_iconst (v := nI 0) hx hb dX0_leastRoot_0 (by decide) ?_
  refine lv_istore_n (lv' := [(2, .int (nI (0))), (0, .ref (ad 0)), (1, .int (nI (x)))]) hx hb dX0_leastRoot_1 rfl hl (by decide) rfl (fun ls hl => ?_)
  have loop : ∀ (d i : Nat), i + d = c0 → ∀ ls, lv_has ls 3 [(0, .ref (ad 0)), (1, .int (nI (x))), (2, .int (nI (i)))] → W p l e (headSpec wzX0_leastRoot (k2_rm 0 0)).room s m ([.ref (ad 0), .int (nI (x))] : List Value).toArray below meth c s.heap [] 0 0 (MQ below (k2_QcV (.int (nI c0))) ([.ref (ad 0), .int (nI (x))] : List Value).toArray s 0 0 (fun _ => False)) (F0 m 2 ls []) := by
    intro d
    induction d with
    | zero =>
      intro i hi ls hl
      have hi : i = c0 := by omega
      refine lv_iload_n hx hb dX0_leastRoot_2 rfl (lv_at hl 2 rfl) ?_
      refine lv_aload_n hx hb dX0_leastRoot_3 rfl (lv_at hl 0 rfl) ?_
      refine zx_get0 (v := .int (nI (t))) hx hb hts hown hK hP 0 rfl 5 (by decide) zf_X0_49 rfl dX0_leastRoot_4 ?_
      refine lv_iconst (v := nI 2) hx hb dX0_leastRoot_7 (by decide) ?_
      refine zr_idiv hx hb dX0_leastRoot_8 (by omega) (by omega) (by omega) ?_
      refine zr_igt (tgt := 32) hx hb dX0_leastRoot_9 (by decide) (by omega) (by omega) (fun hno9 => absurd hno9 (by omega)) (fun _ => ?_)
      refine lv_iload_n hx hb dX0_leastRoot_12 rfl (lv_at hl 2 rfl) ?_
      refine lv_iload_n hx hb dX0_leastRoot_13 rfl (lv_at hl 2 rfl) ?_
      refine zr_imul hx hb dX0_leastRoot_14 ?_
      refine lv_aload_n hx hb dX0_leastRoot_15 rfl (lv_at hl 0 rfl) ?_
      refine zx_get0 (v := .int (nI (t))) hx hb hts hown hK hP 0 rfl 5 (by decide) zf_X0_49 rfl dX0_leastRoot_16 ?_
      refine zr_irem hx hb dX0_leastRoot_19 (zq_bb (by omega) (by omega)) (by omega) (by omega) ?_
      refine lv_iload_n hx hb dX0_leastRoot_20 rfl (lv_at hl 1 rfl) ?_
      refine zr_ine (tgt := 26) hx hb dX0_leastRoot_21 (by decide) (zq_ml (by omega) ht2) (by omega) (fun hno9 => absurd hno9 (fun hh => hh (by rw [hi]; exact hsq))) (fun _ => ?_)
      refine lv_iload_n hx hb dX0_leastRoot_24 rfl (lv_at hl 2 rfl) ?_
      rw [hi]
      exact W.iret (v := nI c0) hx hb hr (fun t9 h9 _ => ⟨rfl, h9⟩) (fun q h => by cases h) dX0_leastRoot_25
    | succ d ih =>
      intro i hi ls hl
      refine lv_iload_n hx hb dX0_leastRoot_2 rfl (lv_at hl 2 rfl) ?_
      refine lv_aload_n hx hb dX0_leastRoot_3 rfl (lv_at hl 0 rfl) ?_
      refine zx_get0 (v := .int (nI (t))) hx hb hts hown hK hP 0 rfl 5 (by decide) zf_X0_49 rfl dX0_leastRoot_4 ?_
      refine lv_iconst (v := nI 2) hx hb dX0_leastRoot_7 (by decide) ?_
      refine zr_idiv hx hb dX0_leastRoot_8 (by omega) (by omega) (by omega) ?_
      refine zr_igt (tgt := 32) hx hb dX0_leastRoot_9 (by decide) (by omega) (by omega) (fun hno9 => absurd hno9 (by omega)) (fun _ => ?_)
      refine lv_iload_n hx hb dX0_leastRoot_12 rfl (lv_at hl 2 rfl) ?_
      refine lv_iload_n hx hb dX0_leastRoot_13 rfl (lv_at hl 2 rfl) ?_
      refine zr_imul hx hb dX0_leastRoot_14 ?_
      refine lv_aload_n hx hb dX0_leastRoot_15 rfl (lv_at hl 0 rfl) ?_
      refine zx_get0 (v := .int (nI (t))) hx hb hts hown hK hP 0 rfl 5 (by decide) zf_X0_49 rfl dX0_leastRoot_16 ?_
      refine zr_irem hx hb dX0_leastRoot_19 (zq_bb (by omega) (by omega)) (by omega) (by omega) ?_
      refine lv_iload_n hx hb dX0_leastRoot_20 rfl (lv_at hl 1 rfl) ?_
      refine zr_ine (tgt := 26) hx hb dX0_leastRoot_21 (by decide) (zq_ml (by omega) ht2) (by omega) (fun _ => ?_) (fun hno9 => absurd hno9 (hlt i (by omega)))
      refine zr_iinc (k := 2) (lv' := [(2, .int (nI (i + 1))), (0, .ref (ad 0)), (1, .int (nI (x)))]) hx hb dX0_leastRoot_26 hl rfl (by decide) rfl (fun ls hl => ?_)
      refine lv_goto (tgt := 2) hx hb dX0_leastRoot_29 (by decide) ?_
      exact ih (i + 1) (by omega) ls (lv_sub hl [1, 2, 0] rfl)
  exact loop c0 0 (by omega) ls (lv_sub hl [1, 2, 0] rfl)
set_option maxHeartbeats 4000000 in
set_option maxRecDepth 100000 in
/-- leastRoot(x), where there is none -/
theorem cx_leastRootN (l : Launch) (dC : Nat → ClassId) (dI : Nat → Nat → Nat) (cA cR : ClassId) (tr : List (ClassId × FieldType)) (wr : va_W) (ad : Nat → Nat) (kd n t z v : Nat) (S : Nat → Int32) (P : Nat → Nat) (V : Nat → Nat → Nat) (x : Nat) (hx0 : x < t) (ht : 1 < t) (ht2 : t ≤ 193) (hno : ∀ y, y ≤ t / 2 → y * y % t ≠ x) : Met l yX0_leastRoot wzX0_leastRoot (k2_rm 0 0) (zr_pre (dC, dI) zz_cl ((cA, .int) :: (cR, .array .int) :: tr) (zc_w cA cR ad kd n t z v S P V ++ wr) [.ref (ad 0), .int (nI (x))]) (k2_QcV (.int (-1))) 0 0 (fun _ => False) := by
  refine Met.ofW (cc := cX0_leastRoot) (maxL := 3) (ret := (some .int)) (by decide) rfl ?_
  intro p e s m args below meth c s₁ B hml hv
  obtain ⟨rfl, hP, hK⟩ := hv
  have hx := B.exec
  have hb := B.bytes
  have hr := B.returns
  have hts := atoms_spec (ws := wzX0_leastRoot) B.pre
  have hown : s.vm.findClass RX0 = some m.cls := findClass_of_methodNamed B.named
  have hlocks := B.notSynchronized
  have hl := lv_entry ([.ref (ad 0), .int (nI (x))]) (n := 3) (Nat.le_of_ble_eq_true rfl)
  rw [lg_entry_eq]
  generalize (lg_sl ([.ref (ad 0), .int (nI (x))]) ++ List.replicate (3 - (lg_sl ([.ref (ad 0), .int (nI (x))])).length) Slot.unset).toArray = ls at hl ⊢
  have hl : lv_has ls 3 [(0, .ref (ad 0)), (1, .int (nI (x)))] := hl
  refine lv_iconst (v := nI 0) hx hb dX0_leastRoot_0 (by decide) ?_
  refine lv_istore_n (lv' := [(2, .int (nI (0))), (0, .ref (ad 0)), (1, .int (nI (x)))]) hx hb dX0_leastRoot_1 rfl hl (by decide) rfl (fun ls hl => ?_)
  have loop : ∀ (d i : Nat), i + d = t / 2 + 1 → ∀ ls, lv_has ls 3 [(0, .ref (ad 0)), (1, .int (nI (x))), (2, .int (nI (i)))] → W p l e (headSpec wzX0_leastRoot (k2_rm 0 0)).room s m ([.ref (ad 0), .int (nI (x))] : List Value).toArray below meth c s.heap [] 0 0 (MQ below (k2_QcV (.int (-1))) ([.ref (ad 0), .int (nI (x))] : List Value).toArray s 0 0 (fun _ => False)) (F0 m 2 ls []) := by
    intro d
    induction d with
    | zero =>
      intro i hi ls hl
      have hi : i = t / 2 + 1 := by omega
      refine lv_iload_n hx hb dX0_leastRoot_2 rfl (lv_at hl 2 rfl) ?_
      refine lv_aload_n hx hb dX0_leastRoot_3 rfl (lv_at hl 0 rfl) ?_
      refine zx_get0 (v := .int (nI (t))) hx hb hts hown hK hP 0 rfl 5 (by decide) zf_X0_49 rfl dX0_leastRoot_4 ?_
      refine lv_iconst (v := nI 2) hx hb dX0_leastRoot_7 (by decide) ?_
      refine zr_idiv hx hb dX0_leastRoot_8 (by omega) (by omega) (by omega) ?_
      refine zr_igt (tgt := 32) hx hb dX0_leastRoot_9 (by decide) (by omega) (by omega) (fun _ => ?_) (fun hno9 => absurd hno9 (by omega))
      refine lv_iconst (v := -1) hx hb dX0_leastRoot_32 (by decide) ?_
      exact W.iret (v := (-1)) hx hb hr (fun t9 h9 _ => ⟨rfl, h9⟩) (fun q h => by cases h) dX0_leastRoot_33
    | succ d ih =>
      intro i hi ls hl
      refine lv_iload_n hx hb dX0_leastRoot_2 rfl (lv_at hl 2 rfl) ?_
      refine lv_aload_n hx hb dX0_leastRoot_3 rfl (lv_at hl 0 rfl) ?_
      refine zx_get0 (v := .int (nI (t))) hx hb hts hown hK hP 0 rfl 5 (by decide) zf_X0_49 rfl dX0_leastRoot_4 ?_
      refine lv_iconst (v := nI 2) hx hb dX0_leastRoot_7 (by decide) ?_
      refine zr_idiv hx hb dX0_leastRoot_8 (by omega) (by omega) (by omega) ?_
      refine zr_igt (tgt := 32) hx hb dX0_leastRoot_9 (by decide) (by omega) (by omega) (fun hno9 => absurd hno9 (by omega)) (fun _ => ?_)
      refine lv_iload_n hx hb dX0_leastRoot_12 rfl (lv_at hl 2 rfl) ?_
      refine lv_iload_n hx hb dX0_leastRoot_13 rfl (lv_at hl 2 rfl) ?_
      refine zr_imul hx hb dX0_leastRoot_14 ?_
      refine lv_aload_n hx hb dX0_leastRoot_15 rfl (lv_at hl 0 rfl) ?_
      refine zx_get0 (v := .int (nI (t))) hx hb hts hown hK hP 0 rfl 5 (by decide) zf_X0_49 rfl dX0_leastRoot_16 ?_
      refine zr_irem hx hb dX0_leastRoot_19 (zq_bb (by omega) (by omega)) (by omega) (by omega) ?_
      refine lv_iload_n hx hb dX0_leastRoot_20 rfl (lv_at hl 1 rfl) ?_
      refine zr_ine (tgt := 26) hx hb dX0_leastRoot_21 (by decide) (zq_ml (by omega) ht2) (by omega) (fun _ => ?_) (fun hno9 => absurd hno9 (hno i (by omega)))
      refine zr_iinc (k := 2) (lv' := [(2, .int (nI (i + 1))), (0, .ref (ad 0)), (1, .int (nI (x)))]) hx hb dX0_leastRoot_26 hl rfl (by decide) rfl (fun ls hl => ?_)
      refine lv_goto (tgt := 2) hx hb dX0_leastRoot_29 (by decide) ?_
      exact ih (i + 1) (by omega) ls (lv_sub hl [1, 2, 0] rfl)
  exact loop (t / 2 + 1) 0 (by omega) ls (lv_sub hl [1, 2, 0] rfl)
