set_option maxHeartbeats 4000000 in
set_option maxRecDepth 100000 in
/-- raised(x, e): x to the power e, modulo t -/
theorem cx_raised (l : Launch) (dC : Nat → ClassId) (dI : Nat → Nat → Nat) (cA cR : ClassId) (tr : List (ClassId × FieldType)) (wr : va_W) (ad : Nat → Nat) (kd n t z v : Nat) (S : Nat → Int32) (P : Nat → Nat) (V : Nat → Nat → Nat) (x e0 : Nat) (hx0 : x < t) (ht : 1 < t) (ht2 : t ≤ 193) (he : e0 < 2147483648) : Met l yX0_raised wzX0_raised (k2_rm 0 0) (zr_pre (dC, dI) zz_cl ((cA, .int) :: (cR, .array .int) :: tr) (zc_w cA cR ad kd n t z v S P V ++ wr) [.ref (ad 0), .int (nI (x)), .int (nI (e0))]) (k2_QcV (.int (nI (x ^ e0 % t)))) 0 0 (fun _ => False) := by
  refine Met.ofW (cc := cX0_raised) (maxL := 6) (ret := (some .int)) (by decide) rfl ?_
  intro p e s m args below meth c s₁ B hml hv
  obtain ⟨rfl, hP, hK⟩ := hv
  have hx := B.exec
  have hb := B.bytes
  have hr := B.returns
  have hts := atoms_spec (ws := wzX0_raised) B.pre
  have hown : s.vm.findClass RX0 = some m.cls := findClass_of_methodNamed B.named
  have hlocks := B.notSynchronized
  have hl := lv_entry ([.ref (ad 0), .int (nI (x)), .int (nI (e0))]) (n := 6) (Nat.le_of_ble_eq_true rfl)
  rw [lg_entry_eq]
  generalize (lg_sl ([.ref (ad 0), .int (nI (x)), .int (nI (e0))]) ++ List.replicate (6 - (lg_sl ([.ref (ad 0), .int (nI (x)), .int (nI (e0))])).length) Slot.unset).toArray = ls at hl ⊢
  have hl : lv_has ls 6 [(0, .ref (ad 0)), (1, .int (nI (x))), (2, .int (nI (e0)))] := hl
  refine lv_iconst (v := nI 1) hx hb dX0_raised_0 (by decide) ?_
  refine lv_istore_n (lv' := [(3, .int (nI (1))), (0, .ref (ad 0)), (1, .int (nI (x))), (2, .int (nI (e0)))]) hx hb dX0_raised_1 rfl hl (by decide) rfl (fun ls hl => ?_)
  refine lv_iload_n hx hb dX0_raised_2 rfl (lv_at hl 2 rfl) ?_
  refine lv_istore (lv' := [(4, .int (nI (x))), (3, .int (nI (1))), (0, .ref (ad 0)), (1, .int (nI (x))), (2, .int (nI (e0)))]) hx hb dX0_raised_3 hl (by decide) rfl (fun ls hl => ?_)
  refine lv_iload_n hx hb dX0_raised_5 rfl (lv_at hl 4 rfl) ?_
  refine lv_istore (lv' := [(5, .int (nI (e0))), (4, .int (nI (x))), (3, .int (nI (1))), (0, .ref (ad 0)), (1, .int (nI (x))), (2, .int (nI (e0)))]) hx hb dX0_raised_6 hl (by decide) rfl (fun ls hl => ?_)
  have loop : ∀ (q r u : Nat), q < 2147483648 → r < t → u < t → r * u ^ q % t = x ^ e0 % t → ∀ ls, lv_has ls 6 [(0, .ref (ad 0)), (3, .int (nI r)), (4, .int (nI u)), (5, .int (nI q))] → W p l e (headSpec wzX0_raised (k2_rm 0 0)).room s m ([.ref (ad 0), .int (nI (x)), .int (nI (e0))] : List Value).toArray below meth c s.heap [] 0 0 (MQ below (k2_QcV (.int (nI (x ^ e0 % t)))) ([.ref (ad 0), .int (nI (x)), .int (nI (e0))] : List Value).toArray s 0 0 (fun _ => False)) (F0 m 8 ls []) := by
    intro q
    induction q using Nat.strongRecOn with
    | _ q ih =>
      intro r u hq hr0 hu heq ls hl
      refine lv_iload hx hb dX0_raised_8 (lv_at hl 3 rfl) ?_
      refine zr_ifle (tgt := 52) hx hb dX0_raised_10 (by decide) (by omega) (fun hz => ?_) (fun hz => ?_)
      · subst hz
        refine lv_iload_n hx hb dX0_raised_52 rfl (lv_at hl 1 rfl) ?_
        rw [show nI (r) = nI (x ^ e0 % t) from congrArg nI (by rw [← heq, Nat.pow_zero, Nat.mul_one, Nat.mod_eq_of_lt hr0])]
        exact W.iret (v := nI (x ^ e0 % t)) hx hb hr (fun t9 h9 _ => ⟨rfl, h9⟩) (fun q h => by cases h) dX0_raised_53
      · refine lv_iload hx hb dX0_raised_13 (lv_at hl 3 rfl) ?_
        refine lv_iconst (v := nI 2) hx hb dX0_raised_15 (by decide) ?_
        refine zr_irem hx hb dX0_raised_16 (by omega) (by omega) (by omega) ?_
        refine lv_iconst (v := nI 1) hx hb dX0_raised_17 (by decide) ?_
        refine zr_ine (tgt := 31) hx hb dX0_raised_18 (by decide) (by omega) (by omega) (fun hodd => ?_) (fun hodd => ?_)
        · refine lv_iload hx hb dX0_raised_31 (lv_at hl 2 rfl) ?_
          refine lv_iload hx hb dX0_raised_33 (lv_at hl 2 rfl) ?_
          refine zr_imul hx hb dX0_raised_35 ?_
          refine lv_aload_n hx hb dX0_raised_36 rfl (lv_at hl 0 rfl) ?_
          refine zx_get0 (v := .int (nI (t))) hx hb hts hown hK hP 0 rfl 5 (by decide) zf_X0_49 rfl dX0_raised_37 ?_
          refine zr_irem hx hb dX0_raised_40 (zq_b2 hu hu ht2) (by omega) (by omega) ?_
          refine lv_istore (lv' := [(4, .int (nI ((u * u) % t))), (0, .ref (ad 0)), (3, .int (nI (r))), (5, .int (nI (q)))]) hx hb dX0_raised_41 hl (by decide) rfl (fun ls hl => ?_)
          refine lv_iload hx hb dX0_raised_43 (lv_at hl 3 rfl) ?_
          refine lv_iconst (v := nI 2) hx hb dX0_raised_45 (by decide) ?_
          refine zr_idiv hx hb dX0_raised_46 (by omega) (by omega) (by omega) ?_
          refine lv_istore (lv' := [(5, .int (nI (q / 2))), (4, .int (nI ((u * u) % t))), (0, .ref (ad 0)), (3, .int (nI (r)))]) hx hb dX0_raised_47 hl (by decide) rfl (fun ls hl => ?_)
          refine lv_goto (tgt := 8) hx hb dX0_raised_49 (by decide) ?_
          exact ih (q / 2) (by omega) r (u * u % t) (by omega) hr0 (Nat.mod_lt _ (by omega)) (by rw [zq_sq0, show 2 * (q / 2) = q by omega]; exact heq) ls (lv_sub hl [2, 3, 1, 0] rfl)
        · refine lv_iload_n hx hb dX0_raised_21 rfl (lv_at hl 1 rfl) ?_
          refine lv_iload hx hb dX0_raised_22 (lv_at hl 2 rfl) ?_
          refine zr_imul hx hb dX0_raised_24 ?_
          refine lv_aload_n hx hb dX0_raised_25 rfl (lv_at hl 0 rfl) ?_
          refine zx_get0 (v := .int (nI (t))) hx hb hts hown hK hP 0 rfl 5 (by decide) zf_X0_49 rfl dX0_raised_26 ?_
          refine zr_irem hx hb dX0_raised_29 (zq_b2 hr0 hu ht2) (by omega) (by omega) ?_
          refine lv_istore_n (lv' := [(3, .int (nI ((r * u) % t))), (0, .ref (ad 0)), (4, .int (nI (u))), (5, .int (nI (q)))]) hx hb dX0_raised_30 rfl hl (by decide) rfl (fun ls hl => ?_)
          refine lv_iload hx hb dX0_raised_31 (lv_at hl 2 rfl) ?_
          refine lv_iload hx hb dX0_raised_33 (lv_at hl 2 rfl) ?_
          refine zr_imul hx hb dX0_raised_35 ?_
          refine lv_aload_n hx hb dX0_raised_36 rfl (lv_at hl 1 rfl) ?_
          refine zx_get0 (v := .int (nI (t))) hx hb hts hown hK hP 0 rfl 5 (by decide) zf_X0_49 rfl dX0_raised_37 ?_
          refine zr_irem hx hb dX0_raised_40 (zq_b2 hu hu ht2) (by omega) (by omega) ?_
          refine lv_istore (lv' := [(4, .int (nI ((u * u) % t))), (3, .int (nI ((r * u) % t))), (0, .ref (ad 0)), (5, .int (nI (q)))]) hx hb dX0_raised_41 hl (by decide) rfl (fun ls hl => ?_)
          refine lv_iload hx hb dX0_raised_43 (lv_at hl 3 rfl) ?_
          refine lv_iconst (v := nI 2) hx hb dX0_raised_45 (by decide) ?_
          refine zr_idiv hx hb dX0_raised_46 (by omega) (by omega) (by omega) ?_
          refine lv_istore (lv' := [(5, .int (nI (q / 2))), (4, .int (nI ((u * u) % t))), (3, .int (nI ((r * u) % t))), (0, .ref (ad 0))]) hx hb dX0_raised_47 hl (by decide) rfl (fun ls hl => ?_)
          refine lv_goto (tgt := 8) hx hb dX0_raised_49 (by decide) ?_
          exact ih (q / 2) (by omega) (r * u % t) (u * u % t) (by omega) (Nat.mod_lt _ (by omega)) (Nat.mod_lt _ (by omega)) (by rw [zq_sq1, show 2 * (q / 2) + 1 = q by omega]; exact heq) ls (lv_sub hl [3, 2, 1, 0] rfl)
  exact loop e0 1 x he (by omega) hx0 (by rw [Nat.one_mul]) ls (lv_sub hl [3, 2, 1, 0] rfl)
set_option maxHeartbeats 4000000 in
set_option maxRecDepth 100000 in
/-- inverse(x): x to the power t - 2 -/
theorem cx_inverse (l : Launch) (dC : Nat → ClassId) (dI : Nat → Nat → Nat) (cA cR : ClassId) (tr : List (ClassId × FieldType)) (wr : va_W) (ad : Nat → Nat) (kd n t z v : Nat) (S : Nat → Int32) (P : Nat → Nat) (V : Nat → Nat → Nat) (x : Nat) (hx0 : x < t) (ht : 1 < t) (ht2 : t ≤ 193) : Met l yX0_inverse wzX0_inverse (k2_rm 1 25) (zr_pre (dC, dI) zz_cl ((cA, .int) :: (cR, .array .int) :: tr) (zc_w cA cR ad kd n t z v S P V ++ wr) [.ref (ad 0), .int (nI (x))]) (k2_QcV (.int (nI (x ^ (t - 2) % t)))) 0 0 (fun _ => False) := by
  refine Met.ofW (cc := cX0_inverse) (maxL := 2) (ret := (some .int)) (by decide) rfl ?_
  intro p e s m args below meth c s₁ B hml hv
  obtain ⟨rfl, hP, hK⟩ := hv
  have hx := B.exec
  have hb := B.bytes
  have hr := B.returns
  have hts := atoms_spec (ws := wzX0_inverse) B.pre
  have hown : s.vm.findClass RX0 = some m.cls := findClass_of_methodNamed B.named
  have hlocks := B.notSynchronized
  have hl := lv_entry ([.ref (ad 0), .int (nI (x))]) (n := 2) (Nat.le_of_ble_eq_true rfl)
  rw [lg_entry_eq]
  generalize (lg_sl ([.ref (ad 0), .int (nI (x))]) ++ List.replicate (2 - (lg_sl ([.ref (ad 0), .int (nI (x))])).length) Slot.unset).toArray = ls at hl ⊢
  have hl : lv_has ls 2 [(0, .ref (ad 0)), (1, .int (nI (x)))] := hl
  refine lv_aload_n hx hb dX0_inverse_0 rfl (lv_at hl 0 rfl) ?_
  refine lv_iload_n hx hb dX0_inverse_1 rfl (lv_at hl 1 rfl) ?_
  refine lv_aload_n hx hb dX0_inverse_2 rfl (lv_at hl 0 rfl) ?_
  refine zx_get0 (v := .int (nI (t))) hx hb hts hown hK hP 0 rfl 5 (by decide) zf_X0_49 rfl dX0_inverse_3 ?_
  refine lv_iconst (v := nI 2) hx hb dX0_inverse_6 (by decide) ?_
  refine zr_isub hx hb dX0_inverse_7 (by omega) ?_
  refine zr_callq (zx_runV (As := [.int (nI (x)), .int (nI (t - 2))]) (rest := []) hx hb hml hts hown (cx_raised l dC dI cA cR tr wr ad kd n t z v S P V x (t - 2) hx0 ht ht2 (by omega)) zv_X0_88 rfl rfl ⟨Nat.le_of_ble_eq_true rfl, Nat.le_of_ble_eq_true rfl⟩ (zr_preV (q := (RX0, TX0, 8)) (ci := 0) (q0 := 0) hP hK rfl rfl) rfl hl.1 rfl (Nat.le_of_ble_eq_true rfl) dX0_inverse_8 ⟨Nat.zero_le _, Nat.zero_le _⟩) ?_
  exact W.iret (v := nI (x ^ (t - 2) % t)) hx hb hr (fun t9 h9 _ => ⟨rfl, h9⟩) (fun q h => by cases h) dX0_inverse_11
set_option maxHeartbeats 4000000 in
set_option maxRecDepth 100000 in
/-- zeros(row): how many of the first n are 0 -/
theorem cx_zeros (l : Launch) (dC : Nat → ClassId) (dI : Nat → Nat → Nat) (cA cR : ClassId) (tr : List (ClassId × FieldType)) (wr : va_W) (ad : Nat → Nat) (kd n t z v : Nat) (S : Nat → Int32) (P : Nat → Nat) (V : Nat → Nat → Nat) (q b : Nat) (g : Nat → Int32) (G : Nat → Nat) (hq : (zc_w cA cR ad kd n t z v S P V ++ wr)[q]? = some (b, .inl (cA, 32, .inl g))) (hg : ∀ i, i < n → g i = nI (G i)) (hn : n ≤ 32) (hG : ∀ i, i < n → G i < 2147483648) : Met l yX0_zeros wzX0_zeros (k2_rm 0 0) (zr_pre (dC, dI) zz_cl ((cA, .int) :: (cR, .array .int) :: tr) (zc_w cA cR ad kd n t z v S P V ++ wr) [.ref (ad 0), .ref (b)]) (k2_QcV (.int (nI (zq_zc G n)))) 0 0 (fun _ => False) := by
  refine Met.ofW (cc := cX0_zeros) (maxL := 4) (ret := (some .int)) (by decide) rfl ?_
  intro p e s m args below meth c s₁ B hml hv
  obtain ⟨rfl, hP, hK⟩ := hv
  have hx := B.exec
  have hb := B.bytes
  have hr := B.returns
  have hts := atoms_spec (ws := wzX0_zeros) B.pre
  have hown : s.vm.findClass RX0 = some m.cls := findClass_of_methodNamed B.named
  have hlocks := B.notSynchronized
  have hl := lv_entry ([.ref (ad 0), .ref (b)]) (n := 4) (Nat.le_of_ble_eq_true rfl)
  rw [lg_entry_eq]
  generalize (lg_sl ([.ref (ad 0), .ref (b)]) ++ List.replicate (4 - (lg_sl ([.ref (ad 0), .ref (b)])).length) Slot.unset).toArray = ls at hl ⊢
  have hl : lv_has ls 4 [(0, .ref (ad 0)), (1, .ref (b))] := hl
  refine lv_iconst (v := nI 0) hx hb dX0_zeros_0 (by decide) ?_
  refine lv_istore_n (lv' := [(2, .int (nI (0))), (0, .ref (ad 0)), (1, .ref (b))]) hx hb dX0_zeros_1 rfl hl (by decide) rfl (fun ls hl => ?_)
  refine lv_iconst (v := nI 0) hx hb dX0_zeros_2 (by decide) ?_
  refine lv_istore_n (lv' := [(3, .int (nI (0))), (2, .int (nI (0))), (0, .ref (ad 0)), (1, .ref (b))]) hx hb dX0_zeros_3 rfl hl (by decide) rfl (fun ls hl => ?_)
  have loop : ∀ (d i : Nat), i + d = n → ∀ ls, lv_has ls 4 [(0, .ref (ad 0)), (1, .ref b), (2, .int (nI (zq_zc G i))), (3, .int (nI i))] → W p l e (headSpec wzX0_zeros (k2_rm 0 0)).room s m ([.ref (ad 0), .ref (b)] : List Value).toArray below meth c s.heap [] 0 0 (MQ below (k2_QcV (.int (nI (zq_zc G n)))) ([.ref (ad 0), .ref (b)] : List Value).toArray s 0 0 (fun _ => False)) (F0 m 4 ls []) := by
    intro d
    induction d with
    | zero =>
      intro i hi ls hl
      have hi : i = n := by omega
      subst hi
      refine lv_iload_n hx hb dX0_zeros_4 rfl (lv_at hl 3 rfl) ?_
      refine lv_aload_n hx hb dX0_zeros_5 rfl (lv_at hl 0 rfl) ?_
      refine zx_get0 (v := .int (nI (i))) hx hb hts hown hK hP 0 rfl 4 (by decide) zf_X0_58 rfl dX0_zeros_6 ?_
      refine zr_ige (tgt := 27) hx hb dX0_zeros_9 (by decide) (by omega) (by omega) (fun _ => ?_) (fun hno9 => absurd hno9 (by omega))
      refine lv_iload_n hx hb dX0_zeros_27 rfl (lv_at hl 2 rfl) ?_
      exact W.iret (v := nI (zq_zc G i)) hx hb hr (fun t9 h9 _ => ⟨rfl, h9⟩) (fun q h => by cases h) dX0_zeros_28
    | succ d ih =>
      intro i hi ls hl
      refine lv_iload_n hx hb dX0_zeros_4 rfl (lv_at hl 3 rfl) ?_
      refine lv_aload_n hx hb dX0_zeros_5 rfl (lv_at hl 0 rfl) ?_
      refine zx_get0 (v := .int (nI (n))) hx hb hts hown hK hP 0 rfl 4 (by decide) zf_X0_58 rfl dX0_zeros_6 ?_
      refine zr_ige (tgt := 27) hx hb dX0_zeros_9 (by decide) (by omega) (by omega) (fun hno9 => absurd hno9 (by omega)) (fun _ => ?_)
      refine lv_aload_n hx hb dX0_zeros_12 rfl (lv_at hl 1 rfl) ?_
      refine lv_iload_n hx hb dX0_zeros_13 rfl (lv_at hl 3 rfl) ?_
      refine zr_iald (y := G i) hx hb hK hP q 0 hq rfl (by omega) (by decide) (hg _ (by omega)) dX0_zeros_14 ?_
      refine zr_ifne (tgt := 21) hx hb dX0_zeros_15 (by decide) (hG i (by omega)) (fun hz => ?_) (fun hz => ?_)
      · refine zr_iinc (k := 3) (lv' := [(3, .int (nI (i + 1))), (0, .ref (ad 0)), (1, .ref (b)), (2, .int (nI (zq_zc G i)))]) hx hb dX0_zeros_21 hl rfl (by decide) rfl (fun ls hl => ?_)
        refine lv_goto (tgt := 4) hx hb dX0_zeros_24 (by decide) ?_
        exact ih (i + 1) (by omega) ls (by rw [zq_zc_1 hz]; exact (lv_sub hl [1, 2, 3, 0] rfl))
      · refine zr_iinc (k := 2) (lv' := [(2, .int (nI ((zq_zc G i) + 1))), (0, .ref (ad 0)), (1, .ref (b)), (3, .int (nI (i)))]) hx hb dX0_zeros_18 hl rfl (by decide) rfl (fun ls hl => ?_)
        refine zr_iinc (k := 3) (lv' := [(3, .int (nI (i + 1))), (2, .int (nI ((zq_zc G i) + 1))), (0, .ref (ad 0)), (1, .ref (b))]) hx hb dX0_zeros_21 hl rfl (by decide) rfl (fun ls hl => ?_)
        refine lv_goto (tgt := 4) hx hb dX0_zeros_24 (by decide) ?_
        exact ih (i + 1) (by omega) ls (by rw [zq_zc_0 hz]; exact (lv_sub hl [2, 3, 1, 0] rfl))
  exact loop n 0 (by omega) ls (lv_sub hl [2, 3, 1, 0] rfl)
set_option maxHeartbeats 4000000 in
set_option maxRecDepth 100000 in
/-- product(row) -/
theorem cx_product (l : Launch) (dC : Nat → ClassId) (dI : Nat → Nat → Nat) (cA cR : ClassId) (tr : List (ClassId × FieldType)) (wr : va_W) (ad : Nat → Nat) (kd n t z v : Nat) (S : Nat → Int32) (P : Nat → Nat) (V : Nat → Nat → Nat) (q b : Nat) (g : Nat → Int32) (G : Nat → Nat) (hq : (zc_w cA cR ad kd n t z v S P V ++ wr)[q]? = some (b, .inl (cA, 32, .inl g))) (hg : ∀ i, i < n → g i = nI (G i)) (hn : n ≤ 32) (ht : 1 < t) (ht2 : t ≤ 193) (hG : ∀ i, i < n → G i < t) : Met l yX0_product wzX0_product (k2_rm 0 0) (zr_pre (dC, dI) zz_cl ((cA, .int) :: (cR, .array .int) :: tr) (zc_w cA cR ad kd n t z v S P V ++ wr) [.ref (ad 0), .ref (b)]) (k2_QcV (.int (nI (zq_pr t G n)))) 0 0 (fun _ => False) := by
  refine Met.ofW (cc := cX0_product) (maxL := 4) (ret := (some .int)) (by decide) rfl ?_
  intro p e s m args below meth c s₁ B hml hv
  obtain ⟨rfl, hP, hK⟩ := hv
  have hx := B.exec
  have hb := B.bytes
  have hr := B.returns
  have hts := atoms_spec (ws := wzX0_product) B.pre
  have hown : s.vm.findClass RX0 = some m.cls := findClass_of_methodNamed B.named
  have hlocks := B.notSynchronized
  have hl := lv_entry ([.ref (ad 0), .ref (b)]) (n := 4) (Nat.le_of_ble_eq_true rfl)
  rw [lg_entry_eq]
  generalize (lg_sl ([.ref (ad 0), .ref (b)]) ++ List.replicate (4 - (lg_sl ([.ref (ad 0), .ref (b)])).length) Slot.unset).toArray = ls at hl ⊢
  have hl : lv_has ls 4 [(0, .ref (ad 0)), (1, .ref (b))] := hl
  refine lv_iconst (v := nI 1) hx hb dX0_product_0 (by decide) ?_
  refine lv_istore_n (lv' := [(2, .int (nI (1))), (0, .ref (ad 0)), (1, .ref (b))]) hx hb dX0_product_1 rfl hl (by decide) rfl (fun ls hl => ?_)
  refine lv_iconst (v := nI 0) hx hb dX0_product_2 (by decide) ?_
  refine lv_istore_n (lv' := [(3, .int (nI (0))), (2, .int (nI (1))), (0, .ref (ad 0)), (1, .ref (b))]) hx hb dX0_product_3 rfl hl (by decide) rfl (fun ls hl => ?_)
  have loop : ∀ (d i : Nat), i + d = n → ∀ ls, lv_has ls 4 [(0, .ref (ad 0)), (1, .ref b), (2, .int (nI (zq_pr t G i))), (3, .int (nI i))] → W p l e (headSpec wzX0_product (k2_rm 0 0)).room s m ([.ref (ad 0), .ref (b)] : List Value).toArray below meth c s.heap [] 0 0 (MQ below (k2_QcV (.int (nI (zq_pr t G n)))) ([.ref (ad 0), .ref (b)] : List Value).toArray s 0 0 (fun _ => False)) (F0 m 4 ls []) := by
    intro d
    induction d with
    | zero =>
      intro i hi ls hl
      have hi : i = n := by omega
      subst hi
      refine lv_iload_n hx hb dX0_product_4 rfl (lv_at hl 3 rfl) ?_
      refine lv_aload_n hx hb dX0_product_5 rfl (lv_at hl 0 rfl) ?_
      refine zx_get0 (v := .int (nI (i))) hx hb hts hown hK hP 0 rfl 4 (by decide) zf_X0_58 rfl dX0_product_6 ?_
      refine zr_ige (tgt := 29) hx hb dX0_product_9 (by decide) (by omega) (by omega) (fun _ => ?_) (fun hno9 => absurd hno9 (by omega))
      refine lv_iload_n hx hb dX0_product_29 rfl (lv_at hl 2 rfl) ?_
      exact W.iret (v := nI (zq_pr t G i)) hx hb hr (fun t9 h9 _ => ⟨rfl, h9⟩) (fun q h => by cases h) dX0_product_30
    | succ d ih =>
      intro i hi ls hl
      refine lv_iload_n hx hb dX0_product_4 rfl (lv_at hl 3 rfl) ?_
      refine lv_aload_n hx hb dX0_product_5 rfl (lv_at hl 0 rfl) ?_
      refine zx_get0 (v := .int (nI (n))) hx hb hts hown hK hP 0 rfl 4 (by decide) zf_X0_58 rfl dX0_product_6 ?_
      refine zr_ige (tgt := 29) hx hb dX0_product_9 (by decide) (by omega) (by omega) (fun hno9 => absurd hno9 (by omega)) (fun _ => ?_)
      refine lv_iload_n hx hb dX0_product_12 rfl (lv_at hl 2 rfl) ?_
      refine lv_aload_n hx hb dX0_product_13 rfl (lv_at hl 1 rfl) ?_
      refine lv_iload_n hx hb dX0_product_14 rfl (lv_at hl 3 rfl) ?_
      refine zr_iald (y := G i) hx hb hK hP q 0 hq rfl (by omega) (by decide) (hg _ (by omega)) dX0_product_15 ?_
      refine zr_imul hx hb dX0_product_16 ?_
      refine lv_aload_n hx hb dX0_product_17 rfl (lv_at hl 0 rfl) ?_
      refine zx_get0 (v := .int (nI (t))) hx hb hts hown hK hP 0 rfl 5 (by decide) zf_X0_49 rfl dX0_product_18 ?_
      refine zr_irem hx hb dX0_product_21 (zq_b2 (zq_pr_lt ht G i) (hG i (by omega)) ht2) (by omega) (by omega) ?_
      refine lv_istore_n (lv' := [(2, .int (nI (((zq_pr t G i) * (G i)) % t))), (0, .ref (ad 0)), (1, .ref (b)), (3, .int (nI (i)))]) hx hb dX0_product_22 rfl hl (by decide) rfl (fun ls hl => ?_)
      refine zr_iinc (k := 3) (lv' := [(3, .int (nI (i + 1))), (2, .int (nI (((zq_pr t G i) * (G i)) % t))), (0, .ref (ad 0)), (1, .ref (b))]) hx hb dX0_product_23 hl rfl (by decide) rfl (fun ls hl => ?_)
      refine lv_goto (tgt := 4) hx hb dX0_product_26 (by decide) ?_
      exact ih (i + 1) (by omega) ls (lv_sub hl [2, 3, 1, 0] rfl)
  exact loop n 0 (by omega) ls (lv_sub hl [2, 3, 1, 0] rfl)
set_option maxHeartbeats 4000000 in
set_option maxRecDepth 100000 in
/-- sum(row) -/
theorem cx_sum (l : Launch) (dC : Nat → ClassId) (dI : Nat → Nat → Nat) (cA cR : ClassId) (tr : List (ClassId × FieldType)) (wr : va_W) (ad : Nat → Nat) (kd n t z v : Nat) (S : Nat → Int32) (P : Nat → Nat) (V : Nat → Nat → Nat) (q b : Nat) (g : Nat → Int32) (G : Nat → Nat) (hq : (zc_w cA cR ad kd n t z v S P V ++ wr)[q]? = some (b, .inl (cA, 32, .inl g))) (hg : ∀ i, i < n → g i = nI (G i)) (hn : n ≤ 32) (ht : 1 < t) (ht2 : t ≤ 193) (hG : ∀ i, i < n → G i < t) : Met l yX0_sum wzX0_sum (k2_rm 0 0) (zr_pre (dC, dI) zz_cl ((cA, .int) :: (cR, .array .int) :: tr) (zc_w cA cR ad kd n t z v S P V ++ wr) [.ref (ad 0), .ref (b)]) (k2_QcV (.int (nI (zq_ns n G % t)))) 0 0 (fun _ => False) := by
  refine Met.ofW (cc := cX0_sum) (maxL := 4) (ret := (some .int)) (by decide) rfl ?_
  intro p e s m args below meth c s₁ B hml hv
  obtain ⟨rfl, hP, hK⟩ := hv
  have hx := B.exec
  have hb := B.bytes
  have hr := B.returns
  have hts := atoms_spec (ws := wzX0_sum) B.pre
  have hown : s.vm.findClass RX0 = some m.cls := findClass_of_methodNamed B.named
  have hlocks := B.notSynchronized
  have hl := lv_entry ([.ref (ad 0), .ref (b)]) (n := 4) (Nat.le_of_ble_eq_true rfl)
  rw [lg_entry_eq]
  generalize (lg_sl ([.ref (ad 0), .ref (b)]) ++ List.replicate (4 - (lg_sl ([.ref (ad 0), .ref (b)])).length) Slot.unset).toArray = ls at hl ⊢
  have hl : lv_has ls 4 [(0, .ref (ad 0)), (1, .ref (b))] := hl
  refine lv_iconst (v := nI 0) hx hb dX0_sum_0 (by decide) ?_
  refine lv_istore_n (lv' := [(2, .int (nI (0))), (0, .ref (ad 0)), (1, .ref (b))]) hx hb dX0_sum_1 rfl hl (by decide) rfl (fun ls hl => ?_)
  refine lv_iconst (v := nI 0) hx hb dX0_sum_2 (by decide) ?_
  refine lv_istore_n (lv' := [(3, .int (nI (0))), (2, .int (nI (0))), (0, .ref (ad 0)), (1, .ref (b))]) hx hb dX0_sum_3 rfl hl (by decide) rfl (fun ls hl => ?_)
  have loop : ∀ (d i : Nat), i + d = n → ∀ ls, lv_has ls 4 [(0, .ref (ad 0)), (1, .ref b), (2, .int (nI (zq_ns i G % t))), (3, .int (nI i))] → W p l e (headSpec wzX0_sum (k2_rm 0 0)).room s m ([.ref (ad 0), .ref (b)] : List Value).toArray below meth c s.heap [] 0 0 (MQ below (k2_QcV (.int (nI (zq_ns n G % t)))) ([.ref (ad 0), .ref (b)] : List Value).toArray s 0 0 (fun _ => False)) (F0 m 4 ls []) := by
    intro d
    induction d with
    | zero =>
      intro i hi ls hl
      have hi : i = n := by omega
      subst hi
      refine lv_iload_n hx hb dX0_sum_4 rfl (lv_at hl 3 rfl) ?_
      refine lv_aload_n hx hb dX0_sum_5 rfl (lv_at hl 0 rfl) ?_
      refine zx_get0 (v := .int (nI (i))) hx hb hts hown hK hP 0 rfl 4 (by decide) zf_X0_58 rfl dX0_sum_6 ?_
      refine zr_ige (tgt := 29) hx hb dX0_sum_9 (by decide) (by omega) (by omega) (fun _ => ?_) (fun hno9 => absurd hno9 (by omega))
      refine lv_iload_n hx hb dX0_sum_29 rfl (lv_at hl 2 rfl) ?_
      exact W.iret (v := nI (zq_ns i G % t)) hx hb hr (fun t9 h9 _ => ⟨rfl, h9⟩) (fun q h => by cases h) dX0_sum_30
    | succ d ih =>
      intro i hi ls hl
      have hm : zq_ns i G % t < t := Nat.mod_lt _ (by omega)
      have hgi := hG i (by omega)
      refine lv_iload_n hx hb dX0_sum_4 rfl (lv_at hl 3 rfl) ?_
      refine lv_aload_n hx hb dX0_sum_5 rfl (lv_at hl 0 rfl) ?_
      refine zx_get0 (v := .int (nI (n))) hx hb hts hown hK hP 0 rfl 4 (by decide) zf_X0_58 rfl dX0_sum_6 ?_
      refine zr_ige (tgt := 29) hx hb dX0_sum_9 (by decide) (by omega) (by omega) (fun hno9 => absurd hno9 (by omega)) (fun _ => ?_)
      refine lv_iload_n hx hb dX0_sum_12 rfl (lv_at hl 2 rfl) ?_
      refine lv_aload_n hx hb dX0_sum_13 rfl (lv_at hl 1 rfl) ?_
      refine lv_iload_n hx hb dX0_sum_14 rfl (lv_at hl 3 rfl) ?_
      refine zr_iald (y := G i) hx hb hK hP q 0 hq rfl (by omega) (by decide) (hg _ (by omega)) dX0_sum_15 ?_
      refine zr_iadd hx hb dX0_sum_16 ?_
      refine lv_aload_n hx hb dX0_sum_17 rfl (lv_at hl 0 rfl) ?_
      refine zx_get0 (v := .int (nI (t))) hx hb hts hown hK hP 0 rfl 5 (by decide) zf_X0_49 rfl dX0_sum_18 ?_
      refine zr_irem hx hb dX0_sum_21 (by omega) (by omega) (by omega) ?_
      refine lv_istore_n (lv' := [(2, .int (nI (((zq_ns i G % t) + (G i)) % t))), (0, .ref (ad 0)), (1, .ref (b)), (3, .int (nI (i)))]) hx hb dX0_sum_22 rfl hl (by decide) rfl (fun ls hl => ?_)
      refine zr_iinc (k := 3) (lv' := [(3, .int (nI (i + 1))), (2, .int (nI (((zq_ns i G % t) + (G i)) % t))), (0, .ref (ad 0)), (1, .ref (b))]) hx hb dX0_sum_23 hl rfl (by decide) rfl (fun ls hl => ?_)
      refine lv_goto (tgt := 4) hx hb dX0_sum_26 (by decide) ?_
      exact ih (i + 1) (by omega) ls (by rw [← zq_su_s]; exact (lv_sub hl [2, 3, 1, 0] rfl))
  exact loop n 0 (by omega) ls (lv_sub hl [2, 3, 1, 0] rfl)
