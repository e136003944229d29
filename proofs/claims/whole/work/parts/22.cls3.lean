set_option maxHeartbeats 4000000 in
set_option maxRecDepth 100000 in
/-- isOneAtPower(row, e) -/
theorem cx_isOne (l : Launch) (dC : Nat → ClassId) (dI : Nat → Nat → Nat) (cA cR : ClassId) (tr : List (ClassId × FieldType)) (wr : va_W) (ad : Nat → Nat) (kd n t z v : Nat) (S : Nat → Int32) (P : Nat → Nat) (V : Nat → Nat → Nat) (q b : Nat) (g : Nat → Int32) (G : Nat → Nat) (hq : (zc_w cA cR ad kd n t z v S P V ++ wr)[q]? = some (b, .inl (cA, 32, .inl g))) (hg : ∀ i, i < n → g i = nI (G i)) (hn : n ≤ 32) (e0 : Nat) (he : e0 < 2147483648) (ht : 1 < t) (ht2 : t ≤ 193) (hG : ∀ i, i < n → G i < t) : Met l yX0_isOneAtPower wzX0_isOneAtPower (k2_rm 1 25) (zr_pre (dC, dI) zz_cl ((cA, .int) :: (cR, .array .int) :: tr) (zc_w cA cR ad kd n t z v S P V ++ wr) [.ref (ad 0), .ref (b), .int (nI (e0))]) (k2_QcV (.int (nI (zq_yn (∀ i, i < n → G i ^ e0 % t = 1))))) 0 0 (fun _ => False) := by
  refine Met.ofW (cc := cX0_isOneAtPower) (maxL := 4) (ret := (some .boolean)) (by decide) rfl ?_
  intro p e s m args below meth c s₁ B hml hv
  obtain ⟨rfl, hP, hK⟩ := hv
  have hx := B.exec
  have hb := B.bytes
  have hr := B.returns
  have hts := atoms_spec (ws := wzX0_isOneAtPower) B.pre
  have hown : s.vm.findClass RX0 = some m.cls := findClass_of_methodNamed B.named
  have hlocks := B.notSynchronized
  have hl := lv_entry ([.ref (ad 0), .ref (b), .int (nI (e0))]) (n := 4) (Nat.le_of_ble_eq_true rfl)
  rw [lg_entry_eq]
  generalize (lg_sl ([.ref (ad 0), .ref (b), .int (nI (e0))]) ++ List.replicate (4 - (lg_sl ([.ref (ad 0), .ref (b), .int (nI (e0))])).length) Slot.unset).toArray = ls at hl ⊢
  have hl : lv_has ls 4 [(0, .ref (ad 0)), (1, .ref (b)), (2, .int (nI (e0)))] := hl
  refine lv_iconst (v := nI 0) hx hb dX0_isOneAtPower_0 (by decide) ?_
  refine lv_istore_n (lv' := [(3, .int (nI (0))), (0, .ref (ad 0)), (1, .ref (b)), (2, .int (nI (e0)))]) hx hb dX0_isOneAtPower_1 rfl hl (by decide) rfl (fun ls hl => ?_)
  have loop : ∀ (d i : Nat), i + d = n → (∀ k, k < i → G k ^ e0 % t = 1) → ∀ ls, lv_has ls 4 [(0, .ref (ad 0)), (1, .ref (b)), (2, .int (nI (e0))), (3, .int (nI (i)))] → W p l e (headSpec wzX0_isOneAtPower (k2_rm 1 25)).room s m ([.ref (ad 0), .ref (b), .int (nI (e0))] : List Value).toArray below meth c s.heap [] 0 0 (MQ below (k2_QcV (.int (nI (zq_yn (∀ i, i < n → G i ^ e0 % t = 1))))) ([.ref (ad 0), .ref (b), .int (nI (e0))] : List Value).toArray s 0 0 (fun _ => False)) (F0 m 2 ls []) := by
    intro d
    induction d with
    | zero =>
      intro i hi hv0 ls hl
      have hi : i = n := by omega
      refine lv_iload_n hx hb dX0_isOneAtPower_2 rfl (lv_at hl 3 rfl) ?_
      refine lv_aload_n hx hb dX0_isOneAtPower_3 rfl (lv_at hl 0 rfl) ?_
      refine zx_get0 (v := .int (nI (n))) hx hb hts hown hK hP 0 rfl 4 (by decide) zf_X0_58 rfl dX0_isOneAtPower_4 ?_
      refine zr_ige (tgt := 30) hx hb dX0_isOneAtPower_7 (by decide) (by omega) (by omega) (fun _ => ?_) (fun hno9 => absurd hno9 (by omega))
      refine lv_iconst (v := nI 1) hx hb dX0_isOneAtPower_30 (by decide) ?_
      rw [zq_yn_1 (fun k hk => hv0 k (by omega))]
      exact W.zret (v := nI 1) hx hb hr rfl (fun t9 h9 _ => ⟨rfl, h9⟩) (fun q h => by cases h) dX0_isOneAtPower_31
    | succ d ih =>
      intro i hi hv0 ls hl
      refine lv_iload_n hx hb dX0_isOneAtPower_2 rfl (lv_at hl 3 rfl) ?_
      refine lv_aload_n hx hb dX0_isOneAtPower_3 rfl (lv_at hl 0 rfl) ?_
      refine zx_get0 (v := .int (nI (n))) hx hb hts hown hK hP 0 rfl 4 (by decide) zf_X0_58 rfl dX0_isOneAtPower_4 ?_
      refine zr_ige (tgt := 30) hx hb dX0_isOneAtPower_7 (by decide) (by omega) (by omega) (fun hno9 => absurd hno9 (by omega)) (fun _ => ?_)
      refine lv_aload_n hx hb dX0_isOneAtPower_10 rfl (lv_at hl 0 rfl) ?_
      refine lv_aload_n hx hb dX0_isOneAtPower_11 rfl (lv_at hl 1 rfl) ?_
      refine lv_iload_n hx hb dX0_isOneAtPower_12 rfl (lv_at hl 3 rfl) ?_
      refine zr_iald (y := G i) hx hb hK hP q 0 hq rfl (by omega) (by decide) (hg _ (by omega)) dX0_isOneAtPower_13 ?_
      refine lv_iload_n hx hb dX0_isOneAtPower_14 rfl (lv_at hl 2 rfl) ?_
      refine zr_callq (zx_runV (As := [.int (nI (G i)), .int (nI (e0))]) (rest := []) hx hb hml hts hown (cx_raised l dC dI cA cR tr wr ad kd n t z v S P V (G i) e0 (hG i (by omega)) ht ht2 he) zv_X0_88 rfl rfl ⟨Nat.le_of_ble_eq_true rfl, Nat.le_of_ble_eq_true rfl⟩ (zr_preV (q := (RX0, TX0, 8)) (ci := 0) (q0 := 0) hP hK rfl rfl) rfl hl.1 rfl (Nat.le_of_ble_eq_true rfl) dX0_isOneAtPower_15 ⟨Nat.zero_le _, Nat.zero_le _⟩) ?_
      refine lv_iconst (v := nI 1) hx hb dX0_isOneAtPower_18 (by decide) ?_
      refine zr_ieq (tgt := 24) hx hb dX0_isOneAtPower_19 (by decide) (zq_ml (by omega) ht2) (by omega) (fun heq => ?_) (fun hne => ?_)
      · refine zr_iinc (k := 3) (lv' := [(3, .int (nI (i + 1))), (0, .ref (ad 0)), (1, .ref (b)), (2, .int (nI (e0)))]) hx hb dX0_isOneAtPower_24 hl rfl (by decide) rfl (fun ls hl => ?_)
        refine lv_goto (tgt := 2) hx hb dX0_isOneAtPower_27 (by decide) ?_
        exact ih (i + 1) (by omega) (lt_s hv0 heq) ls (lv_sub hl [1, 2, 3, 0] rfl)
      · refine lv_iconst (v := nI 0) hx hb dX0_isOneAtPower_22 (by decide) ?_
        rw [zq_yn_0 (fun hh => hne (hh i (by omega)))]
        exact W.zret (v := nI 0) hx hb hr rfl (fun t9 h9 _ => ⟨rfl, h9⟩) (fun q h => by cases h) dX0_isOneAtPower_23
  exact loop n 0 (by omega) lt_0 ls (lv_sub hl [1, 2, 3, 0] rfl)
set_option maxHeartbeats 4000000 in
set_option maxRecDepth 100000 in
/-- isSameTurned(row, g) -/
theorem cx_isSame (l : Launch) (dC : Nat → ClassId) (dI : Nat → Nat → Nat) (cA cR : ClassId) (tr : List (ClassId × FieldType)) (wr : va_W) (ad : Nat → Nat) (kd n t z v : Nat) (S : Nat → Int32) (P : Nat → Nat) (V : Nat → Nat → Nat) (q b : Nat) (g : Nat → Int32) (G : Nat → Nat) (hq : (zc_w cA cR ad kd n t z v S P V ++ wr)[q]? = some (b, .inl (cA, 32, .inl g))) (hg : ∀ i, i < n → g i = nI (G i)) (hn : n ≤ 32) (g0 : Nat) (hg0 : g0 < 64) (hn0 : 0 < n) (hG : ∀ i, i < n → G i < 2147483648) : Met l yX0_isSameTurned wzX0_isSameTurned (k2_rm 1 22) (zr_pre (dC, dI) zz_cl ((cA, .int) :: (cR, .array .int) :: tr) (zc_w cA cR ad kd n t z v S P V ++ wr) [.ref (ad 0), .ref (b), .int (nI (g0))]) (k2_QcV (.int (nI (zq_yn (∀ i, i < n → G (zq_td n g0 i) = G i))))) 0 0 (fun _ => False) := by
  refine Met.ofW (cc := cX0_isSameTurned) (maxL := 4) (ret := (some .boolean)) (by decide) rfl ?_
  intro p e s m args below meth c s₁ B hml hv
  obtain ⟨rfl, hP, hK⟩ := hv
  have hx := B.exec
  have hb := B.bytes
  have hr := B.returns
  have hts := atoms_spec (ws := wzX0_isSameTurned) B.pre
  have hown : s.vm.findClass RX0 = some m.cls := findClass_of_methodNamed B.named
  have hlocks := B.notSynchronized
  have hl := lv_entry ([.ref (ad 0), .ref (b), .int (nI (g0))]) (n := 4) (Nat.le_of_ble_eq_true rfl)
  rw [lg_entry_eq]
  generalize (lg_sl ([.ref (ad 0), .ref (b), .int (nI (g0))]) ++ List.replicate (4 - (lg_sl ([.ref (ad 0), .ref (b), .int (nI (g0))])).length) Slot.unset).toArray = ls at hl ⊢
  have hl : lv_has ls 4 [(0, .ref (ad 0)), (1, .ref (b)), (2, .int (nI (g0)))] := hl
  refine lv_iconst (v := nI 0) hx hb dX0_isSameTurned_0 (by decide) ?_
  refine lv_istore_n (lv' := [(3, .int (nI (0))), (0, .ref (ad 0)), (1, .ref (b)), (2, .int (nI (g0)))]) hx hb dX0_isSameTurned_1 rfl hl (by decide) rfl (fun ls hl => ?_)
  have loop : ∀ (d i : Nat), i + d = n → (∀ k, k < i → G (zq_td n g0 k) = G k) → ∀ ls, lv_has ls 4 [(0, .ref (ad 0)), (1, .ref (b)), (2, .int (nI (g0))), (3, .int (nI (i)))] → W p l e (headSpec wzX0_isSameTurned (k2_rm 1 22)).room s m ([.ref (ad 0), .ref (b), .int (nI (g0))] : List Value).toArray below meth c s.heap [] 0 0 (MQ below (k2_QcV (.int (nI (zq_yn (∀ i, i < n → G (zq_td n g0 i) = G i))))) ([.ref (ad 0), .ref (b), .int (nI (g0))] : List Value).toArray s 0 0 (fun _ => False)) (F0 m 2 ls []) := by
    intro d
    induction d with
    | zero =>
      intro i hi hv0 ls hl
      have hi : i = n := by omega
      refine lv_iload_n hx hb dX0_isSameTurned_2 rfl (lv_at hl 3 rfl) ?_
      refine lv_aload_n hx hb dX0_isSameTurned_3 rfl (lv_at hl 0 rfl) ?_
      refine zx_get0 (v := .int (nI (n))) hx hb hts hown hK hP 0 rfl 4 (by decide) zf_X0_58 rfl dX0_isSameTurned_4 ?_
      refine zr_ige (tgt := 32) hx hb dX0_isSameTurned_7 (by decide) (by omega) (by omega) (fun _ => ?_) (fun hno9 => absurd hno9 (by omega))
      refine lv_iconst (v := nI 1) hx hb dX0_isSameTurned_32 (by decide) ?_
      rw [zq_yn_1 (fun k hk => hv0 k (by omega))]
      exact W.zret (v := nI 1) hx hb hr rfl (fun t9 h9 _ => ⟨rfl, h9⟩) (fun q h => by cases h) dX0_isSameTurned_33
    | succ d ih =>
      intro i hi hv0 ls hl
      have htd := zq_td_lt hn0 g0 i
      refine lv_iload_n hx hb dX0_isSameTurned_2 rfl (lv_at hl 3 rfl) ?_
      refine lv_aload_n hx hb dX0_isSameTurned_3 rfl (lv_at hl 0 rfl) ?_
      refine zx_get0 (v := .int (nI (n))) hx hb hts hown hK hP 0 rfl 4 (by decide) zf_X0_58 rfl dX0_isSameTurned_4 ?_
      refine zr_ige (tgt := 32) hx hb dX0_isSameTurned_7 (by decide) (by omega) (by omega) (fun hno9 => absurd hno9 (by omega)) (fun _ => ?_)
      refine lv_aload_n hx hb dX0_isSameTurned_10 rfl (lv_at hl 1 rfl) ?_
      refine lv_aload_n hx hb dX0_isSameTurned_11 rfl (lv_at hl 0 rfl) ?_
      refine lv_iload_n hx hb dX0_isSameTurned_12 rfl (lv_at hl 3 rfl) ?_
      refine lv_iload_n hx hb dX0_isSameTurned_13 rfl (lv_at hl 2 rfl) ?_
      refine zr_callq (zx_runV (As := [.int (nI (i)), .int (nI (g0))]) (rest := [.ref (b)]) hx hb hml hts hown (cx_turnedPlace l dC dI cA cR tr wr ad kd n t z v S P V i g0 (by omega) hg0 hn0 hn) zv_X0_79 rfl rfl ⟨Nat.le_of_ble_eq_true rfl, Nat.le_of_ble_eq_true rfl⟩ (zr_preV (q := (RX0, TX0, 8)) (ci := 0) (q0 := 0) hP hK rfl rfl) rfl hl.1 rfl (Nat.le_of_ble_eq_true rfl) dX0_isSameTurned_14 ⟨Nat.zero_le _, Nat.zero_le _⟩) ?_
      refine zr_iald (y := G (zq_td n g0 i)) hx hb hK hP q 0 hq rfl (by omega) (by decide) (hg _ (by omega)) dX0_isSameTurned_17 ?_
      refine lv_aload_n hx hb dX0_isSameTurned_18 rfl (lv_at hl 1 rfl) ?_
      refine lv_iload_n hx hb dX0_isSameTurned_19 rfl (lv_at hl 3 rfl) ?_
      refine zr_iald (y := G i) hx hb hK hP q 0 hq rfl (by omega) (by decide) (hg _ (by omega)) dX0_isSameTurned_20 ?_
      refine zr_ieq (tgt := 26) hx hb dX0_isSameTurned_21 (by decide) (hG _ htd) (hG i (by omega)) (fun heq => ?_) (fun hne => ?_)
      · refine zr_iinc (k := 3) (lv' := [(3, .int (nI (i + 1))), (0, .ref (ad 0)), (1, .ref (b)), (2, .int (nI (g0)))]) hx hb dX0_isSameTurned_26 hl rfl (by decide) rfl (fun ls hl => ?_)
        refine lv_goto (tgt := 2) hx hb dX0_isSameTurned_29 (by decide) ?_
        exact ih (i + 1) (by omega) (lt_s hv0 heq) ls (lv_sub hl [1, 2, 3, 0] rfl)
      · refine lv_iconst (v := nI 0) hx hb dX0_isSameTurned_24 (by decide) ?_
        rw [zq_yn_0 (fun hh => hne (hh i (by omega)))]
        exact W.zret (v := nI 0) hx hb hr rfl (fun t9 h9 _ => ⟨rfl, h9⟩) (fun q h => by cases h) dX0_isSameTurned_25
  exact loop n 0 (by omega) lt_0 ls (lv_sub hl [1, 2, 3, 0] rfl)
set_option maxHeartbeats 4000000 in
set_option maxRecDepth 100000 in
/-- turnsByThree(row) -/
theorem cx_turnsByThree (l : Launch) (dC : Nat → ClassId) (dI : Nat → Nat → Nat) (cA cR : ClassId) (tr : List (ClassId × FieldType)) (wr : va_W) (ad : Nat → Nat) (kd n t z v : Nat) (S : Nat → Int32) (P : Nat → Nat) (V : Nat → Nat → Nat) (q b : Nat) (g : Nat → Int32) (G : Nat → Nat) (hq : (zc_w cA cR ad kd n t z v S P V ++ wr)[q]? = some (b, .inl (cA, 32, .inl g))) (hg : ∀ i, i < n → g i = nI (G i)) (hn : n ≤ 32) (hn4 : 4 ≤ n) (hG : ∀ i, i < n → G i < 2147483648) (m0 : Nat) (hm1 : 1 ≤ m0) (hmn : m0 ≤ n) (hlt : ∀ j, 1 ≤ j → j < m0 → ¬ (∀ i, i < n → G (zq_td n (3 ^ j % (2 * n)) i) = G i)) (hend : m0 = n ∨ (∀ i, i < n → G (zq_td n (3 ^ m0 % (2 * n)) i) = G i)) : Met l yX0_turnsByThree wzX0_turnsByThree (k2_rm 2 45) (zr_pre (dC, dI) zz_cl ((cA, .int) :: (cR, .array .int) :: tr) (zc_w cA cR ad kd n t z v S P V ++ wr) [.ref (ad 0), .ref (b)]) (k2_QcV (.int (nI m0))) 0 0 (fun _ => False) := by
  refine Met.ofW (cc := cX0_turnsByThree) (maxL := 4) (ret := (some .int)) (by decide) rfl ?_
  intro p e s m args below meth c s₁ B hml hv
  obtain ⟨rfl, hP, hK⟩ := hv
  have hx := B.exec
  have hb := B.bytes
  have hr := B.returns
  have hts := atoms_spec (ws := wzX0_turnsByThree) B.pre
  have hown : s.vm.findClass RX0 = some m.cls := findClass_of_methodNamed B.named
  have hlocks := B.notSynchronized
  have hl := lv_entry ([.ref (ad 0), .ref (b)]) (n := 4) (Nat.le_of_ble_eq_true rfl)
  rw [lg_entry_eq]
  generalize (lg_sl ([.ref (ad 0), .ref (b)]) ++ List.replicate (4 - (lg_sl ([.ref (ad 0), .ref (b)])).length) Slot.unset).toArray = ls at hl ⊢
  have hl : lv_has ls 4 [(0, .ref (ad 0)), (1, .ref (b))] := hl
  refine lv_iconst (v := nI 1) hx hb dX0_turnsByThree_0 (by decide) ?_
  refine lv_istore_n (lv' := [(2, .int (nI (1))), (0, .ref (ad 0)), (1, .ref (b))]) hx hb dX0_turnsByThree_1 rfl hl (by decide) rfl (fun ls hl => ?_)
  refine lv_iconst (v := nI 3) hx hb dX0_turnsByThree_2 (by decide) ?_
  refine lv_istore_n (lv' := [(3, .int (nI (3))), (2, .int (nI (1))), (0, .ref (ad 0)), (1, .ref (b))]) hx hb dX0_turnsByThree_3 rfl hl (by decide) rfl (fun ls hl => ?_)
  have loop : ∀ (d i : Nat), i + d = m0 → 1 ≤ i → ∀ ls, lv_has ls 4 [(0, .ref (ad 0)), (1, .ref (b)), (2, .int (nI (i))), (3, .int (nI (3 ^ i % (2 * n))))] → W p l e (headSpec wzX0_turnsByThree (k2_rm 2 45)).room s m ([.ref (ad 0), .ref (b)] : List Value).toArray below meth c s.heap [] 0 0 (MQ below (k2_QcV (.int (nI m0))) ([.ref (ad 0), .ref (b)] : List Value).toArray s 0 0 (fun _ => False)) (F0 m 4 ls []) := by
    intro d
    induction d with
    | zero =>
      intro i hi hv0 ls hl
      have hi : i = m0 := by omega
      subst hi
      have hm3 : 3 ^ i % (2 * n) < 2 * n := Nat.mod_lt _ (by omega)
      refine lv_iload_n hx hb dX0_turnsByThree_4 rfl (lv_at hl 2 rfl) ?_
      refine lv_aload_n hx hb dX0_turnsByThree_5 rfl (lv_at hl 0 rfl) ?_
      refine zx_get0 (v := .int (nI (n))) hx hb hts hown hK hP 0 rfl 4 (by decide) zf_X0_58 rfl dX0_turnsByThree_6 ?_
      refine zr_ige (tgt := 38) hx hb dX0_turnsByThree_9 (by decide) (by omega) (by omega) (fun hge => ?_) (fun hlt2 => ?_)
      · refine lv_iload_n hx hb dX0_turnsByThree_38 rfl (lv_at hl 2 rfl) ?_
        exact W.iret (v := nI i) hx hb hr (fun t9 h9 _ => ⟨rfl, h9⟩) (fun q h => by cases h) dX0_turnsByThree_39
      · refine lv_aload_n hx hb dX0_turnsByThree_12 rfl (lv_at hl 0 rfl) ?_
        refine lv_aload_n hx hb dX0_turnsByThree_13 rfl (lv_at hl 1 rfl) ?_
        refine lv_iload_n hx hb dX0_turnsByThree_14 rfl (lv_at hl 3 rfl) ?_
        refine zr_callq (zx_runV (As := [.ref (b), .int (nI (3 ^ i % (2 * n)))]) (rest := []) hx hb hml hts hown (cx_isSame l dC dI cA cR tr wr ad kd n t z v S P V q b g G hq hg hn (3 ^ i % (2 * n)) (by omega) (by omega) hG) zv_X0_158 rfl rfl ⟨Nat.le_of_ble_eq_true rfl, Nat.le_of_ble_eq_true rfl⟩ (zr_preV (q := (RX0, TX0, 8)) (ci := 0) (q0 := 0) hP hK rfl rfl) rfl hl.1 rfl (Nat.le_of_ble_eq_true rfl) dX0_turnsByThree_15 ⟨Nat.zero_le _, Nat.zero_le _⟩) ?_
        refine zr_ifne (tgt := 38) hx hb dX0_turnsByThree_18 (by decide) zq_yn_b (fun _ => ?_) (fun hno9 => absurd hno9 (fun hh => hend.elim (fun hh2 => by omega) (fun hh2 => by rw [zq_yn_1 hh2] at hh; cases hh)))
        refine lv_iload_n hx hb dX0_turnsByThree_38 rfl (lv_at hl 2 rfl) ?_
        exact W.iret (v := nI i) hx hb hr (fun t9 h9 _ => ⟨rfl, h9⟩) (fun q h => by cases h) dX0_turnsByThree_39
    | succ d ih =>
      intro i hi hv0 ls hl
      have hm3 : 3 ^ i % (2 * n) < 2 * n := Nat.mod_lt _ (by omega)
      refine lv_iload_n hx hb dX0_turnsByThree_4 rfl (lv_at hl 2 rfl) ?_
      refine lv_aload_n hx hb dX0_turnsByThree_5 rfl (lv_at hl 0 rfl) ?_
      refine zx_get0 (v := .int (nI (n))) hx hb hts hown hK hP 0 rfl 4 (by decide) zf_X0_58 rfl dX0_turnsByThree_6 ?_
      refine zr_ige (tgt := 38) hx hb dX0_turnsByThree_9 (by decide) (by omega) (by omega) (fun hno9 => absurd hno9 (by omega)) (fun _ => ?_)
      refine lv_aload_n hx hb dX0_turnsByThree_12 rfl (lv_at hl 0 rfl) ?_
      refine lv_aload_n hx hb dX0_turnsByThree_13 rfl (lv_at hl 1 rfl) ?_
      refine lv_iload_n hx hb dX0_turnsByThree_14 rfl (lv_at hl 3 rfl) ?_
      refine zr_callq (zx_runV (As := [.ref (b), .int (nI (3 ^ i % (2 * n)))]) (rest := []) hx hb hml hts hown (cx_isSame l dC dI cA cR tr wr ad kd n t z v S P V q b g G hq hg hn (3 ^ i % (2 * n)) (by omega) (by omega) hG) zv_X0_158 rfl rfl ⟨Nat.le_of_ble_eq_true rfl, Nat.le_of_ble_eq_true rfl⟩ (zr_preV (q := (RX0, TX0, 8)) (ci := 0) (q0 := 0) hP hK rfl rfl) rfl hl.1 rfl (Nat.le_of_ble_eq_true rfl) dX0_turnsByThree_15 ⟨Nat.zero_le _, Nat.zero_le _⟩) ?_
      refine zr_ifne (tgt := 38) hx hb dX0_turnsByThree_18 (by decide) zq_yn_b (fun hno9 => absurd hno9 (fun hh => hh (zq_yn_0 (hlt i (by omega) (by omega))))) (fun _ => ?_)
      refine zr_iinc (k := 2) (lv' := [(2, .int (nI (i + 1))), (0, .ref (ad 0)), (1, .ref (b)), (3, .int (nI (3 ^ i % (2 * n))))]) hx hb dX0_turnsByThree_21 hl rfl (by decide) rfl (fun ls hl => ?_)
      refine lv_iload_n hx hb dX0_turnsByThree_24 rfl (lv_at hl 3 rfl) ?_
      refine lv_iconst (v := nI 3) hx hb dX0_turnsByThree_25 (by decide) ?_
      refine zr_imul hx hb dX0_turnsByThree_26 ?_
      refine lv_iconst (v := nI 2) hx hb dX0_turnsByThree_27 (by decide) ?_
      refine lv_aload_n hx hb dX0_turnsByThree_28 rfl (lv_at hl 1 rfl) ?_
      refine zx_get0 (v := .int (nI (n))) hx hb hts hown hK hP 0 rfl 4 (by decide) zf_X0_58 rfl dX0_turnsByThree_29 ?_
      refine zr_imul hx hb dX0_turnsByThree_32 ?_
      refine zr_irem hx hb dX0_turnsByThree_33 (zq_bb (by omega) (by omega)) (by omega) (by omega) ?_
      refine lv_istore_n (lv' := [(3, .int (nI (((3 ^ i % (2 * n)) * 3) % (2 * n)))), (2, .int (nI (i + 1))), (0, .ref (ad 0)), (1, .ref (b))]) hx hb dX0_turnsByThree_34 rfl hl (by decide) rfl (fun ls hl => ?_)
      refine lv_goto (tgt := 4) hx hb dX0_turnsByThree_35 (by decide) ?_
      exact ih (i + 1) (by omega) (by omega) ls (by rw [Nat.pow_succ, ← zq_mm]; exact (lv_sub hl [2, 3, 1, 0] rfl))
  exact loop (m0 - 1) 1 (by omega) (Nat.le_refl _) ls (by rw [Nat.pow_one, Nat.mod_eq_of_lt (show 3 < 2 * n by omega)]; exact (lv_sub hl [2, 3, 1, 0] rfl))
set_option maxHeartbeats 4000000 in
set_option maxRecDepth 100000 in
/-- degree(row): one below the number of coefficients up to the last that is not 0 -/
theorem cx_degree (l : Launch) (dC : Nat → ClassId) (dI : Nat → Nat → Nat) (cA cR : ClassId) (tr : List (ClassId × FieldType)) (wr : va_W) (ad : Nat → Nat) (kd n t z v : Nat) (S : Nat → Int32) (P : Nat → Nat) (V : Nat → Nat → Nat) (q b : Nat) (g : Nat → Int32) (G : Nat → Nat) (hq : (zc_w cA cR ad kd n t z v S P V ++ wr)[q]? = some (b, .inl (cA, 32, .inl g))) (hg : ∀ i, i < n → g i = nI (G i)) (hn : n ≤ 32) (hn0 : 0 < n) (ht : 1 < t) (ht2 : t ≤ 193) (hG : ∀ i, i < n → G i < t) (hPt : ∀ j, j < 2 * n → P j < t) (hvt : v < t) (d0 : Nat) (hd0 : d0 ≤ n) (hz : ∀ j, d0 ≤ j → j < n → zq_cc n t v P G j = 0) (hnz : d0 = 0 ∨ zq_cc n t v P G (d0 - 1) ≠ 0) : Met l yX0_degree wzX0_degree (k2_rm 3 68) (zr_pre (dC, dI) zz_cl ((cA, .int) :: (cR, .array .int) :: tr) (zc_w cA cR ad kd n t z v S P V ++ wr) [.ref (ad 0), .ref (b)]) (k2_QcV (.int (nI d0 + (-1)))) 0 0 (fun _ => False) := by
  refine Met.ofW (cc := cX0_degree) (maxL := 3) (ret := (some .int)) (by decide) rfl ?_
  intro p e s m args below meth c s₁ B hml hv
  obtain ⟨rfl, hP, hK⟩ := hv
  have hx := B.exec
  have hb := B.bytes
  have hr := B.returns
  have hts := atoms_spec (ws := wzX0_degree) B.pre
  have hown : s.vm.findClass RX0 = some m.cls := findClass_of_methodNamed B.named
  have hlocks := B.notSynchronized
  have hl := lv_entry ([.ref (ad 0), .ref (b)]) (n := 3) (Nat.le_of_ble_eq_true rfl)
  rw [lg_entry_eq]
  generalize (lg_sl ([.ref (ad 0), .ref (b)]) ++ List.replicate (3 - (lg_sl ([.ref (ad 0), .ref (b)])).length) Slot.unset).toArray = ls at hl ⊢
  have hl : lv_has ls 3 [(0, .ref (ad 0)), (1, .ref (b))] := hl
  refine lv_aload_n hx hb dX0_degree_0 rfl (lv_at hl 0 rfl) ?_
  refine zx_get0 (v := .int (nI (n))) hx hb hts hown hK hP 0 rfl 4 (by decide) zf_X0_58 rfl dX0_degree_1 ?_
  refine lv_iconst (v := nI 1) hx hb dX0_degree_4 (by decide) ?_
  refine zr_isub hx hb dX0_degree_5 (by omega) ?_
  refine lv_istore_n (lv' := [(2, .int (nI (n - 1))), (0, .ref (ad 0)), (1, .ref (b))]) hx hb dX0_degree_6 rfl hl (by decide) rfl (fun ls hl => ?_)
  have loop : ∀ (u r : Nat), r + 1 = d0 + u → r < n → ∀ ls, lv_has ls 3 [(0, .ref (ad 0)), (1, .ref b), (2, .int (nI r))] → W p l e (headSpec wzX0_degree (k2_rm 3 68)).room s m ([.ref (ad 0), .ref (b)] : List Value).toArray below meth c s.heap [] 0 0 (MQ below (k2_QcV (.int (nI d0 + (-1)))) ([.ref (ad 0), .ref (b)] : List Value).toArray s 0 0 (fun _ => False)) (F0 m 7 ls []) := by
    intro u
    induction u with
    | zero =>
      intro r hr1 hrn ls hl
      have hcl : zq_cc n t v P G r < t := Nat.mod_lt _ (by omega)
      refine lv_iload_n hx hb dX0_degree_7 rfl (lv_at hl 2 rfl) ?_
      refine zr_iflt (tgt := 26) hx hb dX0_degree_8 (by decide) (by omega) ?_
      refine lv_aload_n hx hb dX0_degree_11 rfl (lv_at hl 0 rfl) ?_
      refine lv_aload_n hx hb dX0_degree_12 rfl (lv_at hl 1 rfl) ?_
      refine lv_iload_n hx hb dX0_degree_13 rfl (lv_at hl 2 rfl) ?_
      refine zr_callq (zx_runV (As := [.ref (b), .int (nI (r))]) (rest := []) hx hb hml hts hown (cx_coefficient l dC dI cA cR tr wr ad kd n t z v S P V q b g G hq hg hn hn0 ht ht2 hG hPt hvt r (by omega)) zv_X0_45 rfl rfl ⟨Nat.le_of_ble_eq_true rfl, Nat.le_of_ble_eq_true rfl⟩ (zr_preV (q := (RX0, TX0, 8)) (ci := 0) (q0 := 0) hP hK rfl rfl) rfl hl.1 rfl (Nat.le_of_ble_eq_true rfl) dX0_degree_14 ⟨Nat.zero_le _, Nat.zero_le _⟩) ?_
      refine zr_ifne (tgt := 26) hx hb dX0_degree_17 (by decide) (by omega) (fun _ => ?_) (fun hno9 => absurd hno9 (fun hh => hnz.elim (fun hh2 => by omega) (fun hh2 => hh2 (by rw [show d0 - 1 = r by omega]; exact hh))))
      refine lv_iload_n hx hb dX0_degree_26 rfl (lv_at hl 2 rfl) ?_
      rw [show d0 = r + 1 by omega, pk_m1]
      exact W.iret (v := nI r) hx hb hr (fun t9 h9 _ => ⟨rfl, h9⟩) (fun q h => by cases h) dX0_degree_27
    | succ u ih =>
      intro r hr1 hrn ls hl
      have hcl : zq_cc n t v P G r < t := Nat.mod_lt _ (by omega)
      refine lv_iload_n hx hb dX0_degree_7 rfl (lv_at hl 2 rfl) ?_
      refine zr_iflt (tgt := 26) hx hb dX0_degree_8 (by decide) (by omega) ?_
      refine lv_aload_n hx hb dX0_degree_11 rfl (lv_at hl 0 rfl) ?_
      refine lv_aload_n hx hb dX0_degree_12 rfl (lv_at hl 1 rfl) ?_
      refine lv_iload_n hx hb dX0_degree_13 rfl (lv_at hl 2 rfl) ?_
      refine zr_callq (zx_runV (As := [.ref (b), .int (nI (r))]) (rest := []) hx hb hml hts hown (cx_coefficient l dC dI cA cR tr wr ad kd n t z v S P V q b g G hq hg hn hn0 ht ht2 hG hPt hvt r (by omega)) zv_X0_45 rfl rfl ⟨Nat.le_of_ble_eq_true rfl, Nat.le_of_ble_eq_true rfl⟩ (zr_preV (q := (RX0, TX0, 8)) (ci := 0) (q0 := 0) hP hK rfl rfl) rfl hl.1 rfl (Nat.le_of_ble_eq_true rfl) dX0_degree_14 ⟨Nat.zero_le _, Nat.zero_le _⟩) ?_
      refine zr_ifne (tgt := 26) hx hb dX0_degree_17 (by decide) (by omega) (fun hno9 => absurd hno9 (fun hh => hh (hz r (by omega) (by omega)))) (fun _ => ?_)
      rcases Nat.eq_zero_or_pos r with h0 | h0
      · subst h0
        refine lv_iinc (k := 2) (v := -1) (lv' := [(2, .int (-1)), (0, .ref (ad 0)), (1, .ref b)]) hx hb dX0_degree_20 hl rfl (by decide) (by decide) rfl (fun ls hl => ?_)
        refine lv_goto (tgt := 7) hx hb dX0_degree_23 (by decide) ?_
        refine lv_iload_n hx hb dX0_degree_7 rfl (lv_at hl 0 rfl) ?_
        refine lv_if_lt (tgt := 26) hx hb dX0_degree_8 (by decide) (fun _ => ?_) (fun hh => absurd (show (-1 : Int32) < 0 by decide) hh)
        refine lv_iload_n hx hb dX0_degree_26 rfl (lv_at hl 0 rfl) ?_
        rw [show d0 = 0 by omega, show nI 0 + (-1) = (-1 : Int32) by decide]
        exact W.iret (v := (-1)) hx hb hr (fun t9 h9 _ => ⟨rfl, h9⟩) (fun q h => by cases h) dX0_degree_27
      · obtain ⟨r2, rfl⟩ : ∃ r2, r = r2 + 1 := ⟨r - 1, by omega⟩
        refine zr_idec (k := 2) (lv' := [(2, .int (nI (r2))), (0, .ref (ad 0)), (1, .ref (b))]) hx hb dX0_degree_20 hl rfl (by decide) rfl (fun ls hl => ?_)
        refine lv_goto (tgt := 7) hx hb dX0_degree_23 (by decide) ?_
        exact ih r2 (by omega) (by omega) ls (lv_sub hl [1, 2, 0] rfl)
  exact loop (n - d0) (n - 1) (by omega) (by omega) ls (lv_sub hl [1, 2, 0] rfl)
set_option maxHeartbeats 4000000 in
set_option maxRecDepth 100000 in
/-- units() -/
theorem cx_units (l : Launch) (dC : Nat → ClassId) (dI : Nat → Nat → Nat) (cA cR : ClassId) (tr : List (ClassId × FieldType)) (wr : va_W) (ad : Nat → Nat) (kd n t z v : Nat) (S : Nat → Int32) (P : Nat → Nat) (V : Nat → Nat → Nat) (hn : n ≤ 32) (hV : ∀ r i, r < 16 → i < n → V r i < 2147483648) : Met l yX0_units wzX0_units (k2_rm 1 23) (zr_pre (dC, dI) zz_cl ((cA, .int) :: (cR, .array .int) :: tr) (zc_w cA cR ad kd n t z v S P V ++ wr) [.ref (ad 0)]) (k2_QcV (.int (nI (zq_un V n 16)))) 0 0 (fun _ => False) := by
  refine Met.ofW (cc := cX0_units) (maxL := 3) (ret := (some .int)) (by decide) rfl ?_
  intro p e s m args below meth c s₁ B hml hv
  obtain ⟨rfl, hP, hK⟩ := hv
  have hx := B.exec
  have hb := B.bytes
  have hr := B.returns
  have hts := atoms_spec (ws := wzX0_units) B.pre
  have hown : s.vm.findClass RX0 = some m.cls := findClass_of_methodNamed B.named
  have hlocks := B.notSynchronized
  have hl := lv_entry ([.ref (ad 0)]) (n := 3) (Nat.le_of_ble_eq_true rfl)
  rw [lg_entry_eq]
  generalize (lg_sl ([.ref (ad 0)]) ++ List.replicate (3 - (lg_sl ([.ref (ad 0)])).length) Slot.unset).toArray = ls at hl ⊢
  have hl : lv_has ls 3 [(0, .ref (ad 0))] := hl
  refine lv_iconst (v := nI 0) hx hb dX0_units_0 (by decide) ?_
  refine lv_istore_n (lv' := [(1, .int (nI (0))), (0, .ref (ad 0))]) hx hb dX0_units_1 rfl hl (by decide) rfl (fun ls hl => ?_)
  refine lv_iconst (v := nI 0) hx hb dX0_units_2 (by decide) ?_
  refine lv_istore_n (lv' := [(2, .int (nI (0))), (1, .int (nI (0))), (0, .ref (ad 0))]) hx hb dX0_units_3 rfl hl (by decide) rfl (fun ls hl => ?_)
  have loop : ∀ (d i : Nat), i + d = 16 → ∀ ls, lv_has ls 3 [(0, .ref (ad 0)), (1, .int (nI (zq_un V n i))), (2, .int (nI (i)))] → W p l e (headSpec wzX0_units (k2_rm 1 23)).room s m ([.ref (ad 0)] : List Value).toArray below meth c s.heap [] 0 0 (MQ below (k2_QcV (.int (nI (zq_un V n 16)))) ([.ref (ad 0)] : List Value).toArray s 0 0 (fun _ => False)) (F0 m 4 ls []) := by
    intro d
    induction d with
    | zero =>
      intro i hi ls hl
      have hi : i = 16 := by omega
      subst hi
      refine lv_iload_n hx hb dX0_units_4 rfl (lv_at hl 2 rfl) ?_
      refine lv_bipush (v := nI 16) hx hb dX0_units_5 (by decide) ?_
      refine zr_ige (tgt := 32) hx hb dX0_units_7 (by decide) (by omega) (by omega) (fun _ => ?_) (fun hno9 => absurd hno9 (by omega))
      refine lv_iload_n hx hb dX0_units_32 rfl (lv_at hl 1 rfl) ?_
      exact W.iret (v := nI (zq_un V n 16)) hx hb hr (fun t9 h9 _ => ⟨rfl, h9⟩) (fun q h => by cases h) dX0_units_33
    | succ d ih =>
      intro i hi ls hl
      have hzl := zq_zc_le (V i) n
      refine lv_iload_n hx hb dX0_units_4 rfl (lv_at hl 2 rfl) ?_
      refine lv_bipush (v := nI 16) hx hb dX0_units_5 (by decide) ?_
      refine zr_ige (tgt := 32) hx hb dX0_units_7 (by decide) (by omega) (by omega) (fun hno9 => absurd hno9 (by omega)) (fun _ => ?_)
      refine lv_aload_n hx hb dX0_units_10 rfl (lv_at hl 0 rfl) ?_
      refine lv_aload_n hx hb dX0_units_11 rfl (lv_at hl 0 rfl) ?_
      refine zx_get0 (v := .ref (ad 1)) hx hb hts hown hK hP 0 rfl 0 (by decide) zf_X0_11 rfl dX0_units_12 ?_
      refine lv_iload_n hx hb dX0_units_15 rfl (lv_at hl 2 rfl) ?_
      refine zr_aald (y := ad (4 + i)) hx hb hK hP 1 1 rfl rfl (by omega) (by decide) rfl dX0_units_16 ?_
      refine zr_callq (zx_runV (As := [.ref (ad (4 + i))]) (rest := []) hx hb hml hts hown (cx_zeros l dC dI cA cR tr wr ad kd n t z v S P V (4 + i) (ad (4 + i)) (zq_I (V i)) (V i) (zc_row (by omega)) (fun _ _ => rfl) hn (fun j hj => hV i j (by omega) hj)) zv_X0_73 rfl rfl ⟨Nat.le_of_ble_eq_true rfl, Nat.le_of_ble_eq_true rfl⟩ (zr_preV (q := (RX0, TX0, 8)) (ci := 0) (q0 := 0) hP hK rfl rfl) rfl hl.1 rfl (Nat.le_of_ble_eq_true rfl) dX0_units_17 ⟨Nat.zero_le _, Nat.zero_le _⟩) ?_
      refine zr_ifne (tgt := 26) hx hb dX0_units_20 (by decide) (by omega) (fun hz => ?_) (fun hz => ?_)
      · refine zr_iinc (k := 2) (lv' := [(2, .int (nI (i + 1))), (0, .ref (ad 0)), (1, .int (nI (zq_un V n i)))]) hx hb dX0_units_26 hl rfl (by decide) rfl (fun ls hl => ?_)
        refine lv_goto (tgt := 4) hx hb dX0_units_29 (by decide) ?_
        exact ih (i + 1) (by omega) ls (by rw [show zq_un V n (i + 1) = zq_un V n i by show zq_un V n i + (if zq_zc (V i) n = 0 then 1 else 0) = _; rw [if_neg hz]; rfl]; exact (lv_sub hl [1, 2, 0] rfl))
      · refine zr_iinc (k := 1) (lv' := [(1, .int (nI ((zq_un V n i) + 1))), (0, .ref (ad 0)), (2, .int (nI (i)))]) hx hb dX0_units_23 hl rfl (by decide) rfl (fun ls hl => ?_)
        refine zr_iinc (k := 2) (lv' := [(2, .int (nI (i + 1))), (1, .int (nI ((zq_un V n i) + 1))), (0, .ref (ad 0))]) hx hb dX0_units_26 hl rfl (by decide) rfl (fun ls hl => ?_)
        refine lv_goto (tgt := 4) hx hb dX0_units_29 (by decide) ?_
        exact ih (i + 1) (by omega) ls (by rw [show zq_un V n (i + 1) = zq_un V n i + 1 by show zq_un V n i + (if zq_zc (V i) n = 0 then 1 else 0) = _; rw [if_pos hz]]; exact (lv_sub hl [2, 1, 0] rfl))
  exact loop 16 0 (by omega) ls (lv_sub hl [2, 1, 0] rfl)
