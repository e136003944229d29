theorem zq_bool {x : Nat} (h : x < 2) : narrow .boolean (.int (nI x)) = .int (nI x) := by
  rcases (show x = 0 ∨ x = 1 by omega) with rfl | rfl <;> rfl
set_option maxHeartbeats 4000000 in
set_option maxRecDepth 100000 in
/-- one(): b is the polynomial 1 -/
theorem cm_one (l : Launch) (dC : Nat → ClassId) (dI : Nat → Nat → Nat) (cA : ClassId) (tr : List (ClassId × FieldType)) (wr : va_W) (mo : Nat → Nat) (th k : Nat) (F fa fb fc fd : Nat → Nat) (hk : k < 4) (hG : ∀ j, j < zk_n k → fb j < zk_t k) : Met l yX1_one wzX1_one (k2_rm 0 0) (zr_pre (dC, dI) zz_cl ((cA, .int) :: tr) (zm_w cA mo th k (zk_n k) (zk_t k) F fa fb fc fd ++ wr) [.ref (mo 0)]) (k2_QcV (.int (nI (zq_on fb (zk_n k - 1))))) 0 0 (fun _ => False) := by
  refine Met.ofW (cc := cX1_one) (maxL := 3) (ret := (some .boolean)) (by decide) rfl ?_
  intro p e s m args below meth c s₁ B hml hv
  obtain ⟨rfl, hP, hK⟩ := hv
  have hx := B.exec
  have hb := B.bytes
  have hr := B.returns
  have hts := atoms_spec (ws := wzX1_one) B.pre
  have hown : s.vm.findClass RX1 = some m.cls := findClass_of_methodNamed B.named
  have hlocks := B.notSynchronized
  have hl := lv_entry ([.ref (mo 0)]) (n := 3) (Nat.le_of_ble_eq_true rfl)
  rw [lg_entry_eq]
  generalize (lg_sl ([.ref (mo 0)]) ++ List.replicate (3 - (lg_sl ([.ref (mo 0)])).length) Slot.unset).toArray = ls at hl ⊢
  have hl : lv_has ls 3 [(0, .ref (mo 0))] := hl
  obtain ⟨hb1, hb2, hb3, hb4, hb5, hb6, hb7, hb8⟩ := zk_b k hk
  have hG0 := hG 0 (by omega)
  have loop : ∀ (d i : Nat), i + d = zk_n k → 1 ≤ i → ∀ ls, lv_has ls 3 [(0, .ref (mo 0)), (1, .int (nI (zq_on fb (i - 1)))), (2, .int (nI (i)))] → W p l e (headSpec wzX1_one (k2_rm 0 0)).room s m ([.ref (mo 0)] : List Value).toArray below meth c s.heap [] 0 0 (MQ below (k2_QcV (.int (nI (zq_on fb (zk_n k - 1))))) ([.ref (mo 0)] : List Value).toArray s 0 0 (fun _ => False)) (F0 m 18 ls []) := by
    intro d
    induction d with
    | zero =>
      intro i hi h1 ls hl
      have hi : i = zk_n k := by omega
      refine lv_iload_n hx hb dX1_one_18 rfl (lv_at hl 2 rfl) ?_
      refine lv_aload_n hx hb dX1_one_19 rfl (lv_at hl 0 rfl) ?_
      refine zx_get1 (v := .int (nI (zk_n k))) hx hb hts hown hK hP 0 rfl 2 (by decide) zf_X1_7 rfl dX1_one_20 ?_
      refine zr_ige (tgt := 49) hx hb dX1_one_23 (by decide) (by omega) (by omega) (fun _ => ?_) (fun hno9 => absurd hno9 (by omega))
      refine lv_iload_n hx hb dX1_one_49 rfl (lv_at hl 1 rfl) ?_
      rw [hi]
      exact W.zret (v := nI (zq_on fb (zk_n k - 1))) hx hb hr (zq_bool (zq_on_lt _ _)) (fun t9 h9 _ => ⟨rfl, h9⟩) (fun q h => by cases h) dX1_one_50
    | succ d ih =>
      intro i hi h1 ls hl
      have hon := zq_on_lt fb (i - 1)
      have hGi := hG i (by omega)
      have ei : i - 1 + 1 = i := by omega
      refine lv_iload_n hx hb dX1_one_18 rfl (lv_at hl 2 rfl) ?_
      refine lv_aload_n hx hb dX1_one_19 rfl (lv_at hl 0 rfl) ?_
      refine zx_get1 (v := .int (nI (zk_n k))) hx hb hts hown hK hP 0 rfl 2 (by decide) zf_X1_7 rfl dX1_one_20 ?_
      refine zr_ige (tgt := 49) hx hb dX1_one_23 (by decide) (by omega) (by omega) (fun hno9 => absurd hno9 (by omega)) (fun _ => ?_)
      refine lv_iload_n hx hb dX1_one_26 rfl (lv_at hl 1 rfl) ?_
      refine lv_aload_n hx hb dX1_one_27 rfl (lv_at hl 0 rfl) ?_
      refine zx_get1 (v := .ref (mo 3)) hx hb hts hown hK hP 0 rfl 6 (by decide) zf_X1_23 rfl dX1_one_28 ?_
      refine lv_iload_n hx hb dX1_one_31 rfl (lv_at hl 2 rfl) ?_
      refine zr_iald (y := fb i) hx hb hK hP 3 0 rfl rfl (by omega) (by decide) rfl dX1_one_32 ?_
      refine zr_ifne (tgt := 40) hx hb dX1_one_33 (by decide) (by omega) (fun hz => ?_) (fun hz => ?_)
      · refine lv_iconst (v := nI 0) hx hb dX1_one_40 (by decide) ?_
        refine zr_iand01 hx hb dX1_one_41 (by omega) (by omega) ?_
        refine lv_istore_n (lv' := [(1, .int (nI ((zq_on fb (i - 1)) * 0))), (0, .ref (mo 0)), (2, .int (nI (i)))]) hx hb dX1_one_42 rfl hl (by decide) rfl (fun ls hl => ?_)
        refine zr_iinc (k := 2) (lv' := [(2, .int (nI (i + 1))), (1, .int (nI ((zq_on fb (i - 1)) * 0))), (0, .ref (mo 0))]) hx hb dX1_one_43 hl rfl (by decide) rfl (fun ls hl => ?_)
        refine lv_goto (tgt := 18) hx hb dX1_one_46 (by decide) ?_
        exact ih (i + 1) (by omega) (by omega) ls (by rw [Nat.add_sub_cancel, show zq_on fb i = zq_on fb (i - 1 + 1) by rw [ei], ← zq_on_s0 (by rw [ei]; exact hz)]; exact (lv_sub hl [2, 1, 0] rfl))
      · refine lv_iconst (v := nI 1) hx hb dX1_one_36 (by decide) ?_
        refine lv_goto (tgt := 41) hx hb dX1_one_37 (by decide) ?_
        refine zr_iand01 hx hb dX1_one_41 (by omega) (by omega) ?_
        refine lv_istore_n (lv' := [(1, .int (nI ((zq_on fb (i - 1)) * 1))), (0, .ref (mo 0)), (2, .int (nI (i)))]) hx hb dX1_one_42 rfl hl (by decide) rfl (fun ls hl => ?_)
        refine zr_iinc (k := 2) (lv' := [(2, .int (nI (i + 1))), (1, .int (nI ((zq_on fb (i - 1)) * 1))), (0, .ref (mo 0))]) hx hb dX1_one_43 hl rfl (by decide) rfl (fun ls hl => ?_)
        refine lv_goto (tgt := 18) hx hb dX1_one_46 (by decide) ?_
        exact ih (i + 1) (by omega) (by omega) ls (by rw [Nat.add_sub_cancel, show zq_on fb i = zq_on fb (i - 1 + 1) by rw [ei], ← zq_on_s1 (by rw [ei]; exact hz)]; exact (lv_sub hl [2, 1, 0] rfl))
  refine lv_aload_n hx hb dX1_one_0 rfl (lv_at hl 0 rfl) ?_
  refine zx_get1 (v := .ref (mo 3)) hx hb hts hown hK hP 0 rfl 6 (by decide) zf_X1_23 rfl dX1_one_1 ?_
  refine lv_iconst (v := nI 0) hx hb dX1_one_4 (by decide) ?_
  refine zr_iald (y := fb 0) hx hb hK hP 3 0 rfl rfl (by omega) (by decide) rfl dX1_one_5 ?_
  refine lv_iconst (v := nI 1) hx hb dX1_one_6 (by decide) ?_
  refine zr_ine (tgt := 14) hx hb dX1_one_7 (by decide) (by omega) (by omega) (fun hz => ?_) (fun hz => ?_)
  · refine lv_iconst (v := nI 0) hx hb dX1_one_14 (by decide) ?_
    refine lv_istore_n (lv' := [(1, .int (nI (0))), (0, .ref (mo 0))]) hx hb dX1_one_15 rfl hl (by decide) rfl (fun ls hl => ?_)
    refine lv_iconst (v := nI 1) hx hb dX1_one_16 (by decide) ?_
    refine lv_istore_n (lv' := [(2, .int (nI (1))), (1, .int (nI (0))), (0, .ref (mo 0))]) hx hb dX1_one_17 rfl hl (by decide) rfl (fun ls hl => ?_)
    exact loop (zk_n k - 1) 1 (by omega) (by omega) ls (by rw [show zq_on fb (1 - 1) = 0 from if_neg hz]; exact (lv_sub hl [2, 1, 0] rfl))
  · refine lv_iconst (v := nI 1) hx hb dX1_one_10 (by decide) ?_
    refine lv_goto (tgt := 15) hx hb dX1_one_11 (by decide) ?_
    refine lv_istore_n (lv' := [(1, .int (nI (1))), (0, .ref (mo 0))]) hx hb dX1_one_15 rfl hl (by decide) rfl (fun ls hl => ?_)
    refine lv_iconst (v := nI 1) hx hb dX1_one_16 (by decide) ?_
    refine lv_istore_n (lv' := [(2, .int (nI (1))), (1, .int (nI (1))), (0, .ref (mo 0))]) hx hb dX1_one_17 rfl hl (by decide) rfl (fun ls hl => ?_)
    exact loop (zk_n k - 1) 1 (by omega) (by omega) ls (by rw [show zq_on fb (1 - 1) = 1 from if_pos hz]; exact (lv_sub hl [2, 1, 0] rfl))
set_option maxHeartbeats 4000000 in
set_option maxRecDepth 100000 in
/-- turn(g) -/
theorem cm_turn1 (l : Launch) (dC : Nat → ClassId) (dI : Nat → Nat → Nat) (cA : ClassId) (tr : List (ClassId × FieldType)) (wr : va_W) (mo : Nat → Nat) (th k : Nat) (F fa fb fc fd : Nat → Nat) (hk : k < 4) (sz : Nat) (g0 : Nat) (hg0 : g0 < 2 * zk_n k) (ho : g0 % 2 = 1) (hG : ∀ j, j < zk_n k → fa j < zk_t k) : Met l yX1_turn1 wzX1_turn1 (k2_rm 1 23) (zw_pre (dC, dI) zz_cl ((cA, .int) :: tr) (zm_w cA mo th k (zk_n k) (zk_t k) F fa fb fc fd ++ wr) sz [.ref (mo 0), .int (nI (g0))]) (va_Qv (fun u : Nat → Nat => ∀ m, m < zk_n k → u (zk_q k g0 m) = zq_tn k g0 fa m) (zw_at (dC, dI) zz_cl ((cA, .int) :: tr) (va_A (zm_w cA mo th k (zk_n k) (zk_t k) F fa fb fc fd ++ wr) sz) (fun u : Nat → Nat => zm_w cA mo th k (zk_n k) (zk_t k) F fa u fc fd ++ wr)) (va_A (zm_w cA mo th k (zk_n k) (zk_t k) F fa fb fc fd ++ wr) sz)) 0 0 (va_A (zm_w cA mo th k (zk_n k) (zk_t k) F fa fb fc fd ++ wr) sz) := by
  refine Met.ofW (cc := cX1_turn1) (maxL := 4) (ret := none) (by decide) rfl ?_
  intro p e s m args below meth c s₁ B hml hv
  obtain ⟨rfl, hsz, hP, hK, hD0⟩ := hv
  have hx := B.exec
  have hb := B.bytes
  have hr := B.returns
  have hts := atoms_spec (ws := wzX1_turn1) B.pre
  have hown : s.vm.findClass RX1 = some m.cls := findClass_of_methodNamed B.named
  have hlocks := B.notSynchronized
  subst hsz
  have hD := hD0.self (sz := s.heap.size)
  generalize hAe : va_A (zm_w cA mo th k (zk_n k) (zk_t k) F fa fb fc fd ++ wr) s.heap.size = A at hD ⊢
  have hA : ∀ q : Nat, s.heap.size ≤ q → A q := fun q h => by rw [← hAe]; exact Or.inr h
  have hS : va_S A s.heap s.heap [] := va_S.rf
  have hl := lv_entry ([.ref (mo 0), .int (nI (g0))]) (n := 4) (Nat.le_of_ble_eq_true rfl)
  rw [lg_entry_eq]
  generalize (lg_sl ([.ref (mo 0), .int (nI (g0))]) ++ List.replicate (4 - (lg_sl ([.ref (mo 0), .int (nI (g0))])).length) Slot.unset).toArray = ls at hl ⊢
  have hl : lv_has ls 4 [(0, .ref (mo 0)), (1, .int (nI (g0)))] := hl
  obtain ⟨hb1, hb2, hb3, hb4, hb5, hb6, hb7, hb8⟩ := zk_b k hk
  refine lv_iconst (v := nI 0) hx hb dX1_turn1_0 (by decide) ?_
  refine lv_istore_n (lv' := [(2, .int (nI (0))), (0, .ref (mo 0)), (1, .int (nI (g0)))]) hx hb dX1_turn1_1 rfl hl (by decide) rfl (fun ls hl => ?_)
  have loop : ∀ (d i : Nat), i + d = zk_n k → ∀ (G1 : Nat → Nat), (∀ m, m < i → G1 (zk_q k g0 m) = zq_tn k g0 fa m) → ∀ (H : Heap) (locs : List Loc), va_P (dC, dI) zz_cl (zm_w cA mo th k (zk_n k) (zk_t k) F fa G1 fc fd ++ wr) H → va_D A (zm_w cA mo th k (zk_n k) (zk_t k) F fa G1 fc fd ++ wr) → va_S A s.heap H locs → ∀ ls, lv_has ls 4 [(0, .ref (mo 0)), (1, .int (nI (g0))), (2, .int (nI (i)))] → W p l e (headSpec wzX1_turn1 (k2_rm 1 23)).room s m ([.ref (mo 0), .int (nI (g0))] : List Value).toArray below meth c H locs 0 0 (MQ below (va_Qv (fun u : Nat → Nat => ∀ m, m < zk_n k → u (zk_q k g0 m) = zq_tn k g0 fa m) (zw_at (dC, dI) zz_cl ((cA, .int) :: tr) A (fun u : Nat → Nat => zm_w cA mo th k (zk_n k) (zk_t k) F fa u fc fd ++ wr)) A) ([.ref (mo 0), .int (nI (g0))] : List Value).toArray s 0 0 A) (F0 m 2 ls []) := by
    intro d
    induction d with
    | zero =>
      intro i hi G1 hinv H locs hP hD hS ls hl
      have hi : i = zk_n k := by omega
      rw [hi] at hinv
      refine lv_iload_n hx hb dX1_turn1_2 rfl (lv_at hl 2 rfl) ?_
      refine lv_aload_n hx hb dX1_turn1_3 rfl (lv_at hl 0 rfl) ?_
      refine zx_get1 (v := .int (nI (zk_n k))) hx hb hts hown hK hP 0 rfl 2 (by decide) zf_X1_7 rfl dX1_turn1_4 ?_
      refine zr_ige (tgt := 70) hx hb dX1_turn1_7 (by decide) (by omega) (by omega) (fun _ => ?_) (fun hno9 => absurd hno9 (by omega))
      exact W.vret hx hb hr (fun t9 h9 hW9 => ⟨⟨G1, rfl, hinv, by rw [h9]; exact hP, va_K.moved hW9.alike hK, hD⟩, hS.F h9⟩) hS.2.2 dX1_turn1_70
    | succ d ih =>
      intro i hi G1 hinv H locs hP hD hS ls hl
      refine lv_iload_n hx hb dX1_turn1_2 rfl (lv_at hl 2 rfl) ?_
      refine lv_aload_n hx hb dX1_turn1_3 rfl (lv_at hl 0 rfl) ?_
      refine zx_get1 (v := .int (nI (zk_n k))) hx hb hts hown hK hP 0 rfl 2 (by decide) zf_X1_7 rfl dX1_turn1_4 ?_
      refine zr_ige (tgt := 70) hx hb dX1_turn1_7 (by decide) (by omega) (by omega) (fun hno9 => absurd hno9 (by omega)) (fun _ => ?_)
      have hgi := hG i (by omega)
      have hml9 : i * g0 < 2 ^ 31 := zq_bb (by omega) (by omega)
      have hmm : i * g0 % (2 * zk_n k) < 2 * zk_n k := Nat.mod_lt _ (by omega)
      have hmn : i * g0 % (2 * zk_n k) % zk_n k < zk_n k := Nat.mod_lt _ (by omega)
      refine lv_iload_n hx hb dX1_turn1_10 rfl (lv_at hl 2 rfl) ?_
      refine lv_iload_n hx hb dX1_turn1_11 rfl (lv_at hl 1 rfl) ?_
      refine zr_imul hx hb dX1_turn1_12 ?_
      refine lv_iconst (v := nI 2) hx hb dX1_turn1_13 (by decide) ?_
      refine lv_aload_n hx hb dX1_turn1_14 rfl (lv_at hl 0 rfl) ?_
      refine zx_get1 (v := .int (nI (zk_n k))) hx hb hts hown hK hP 0 rfl 2 (by decide) zf_X1_7 rfl dX1_turn1_15 ?_
      refine zr_imul hx hb dX1_turn1_18 ?_
      rw [zi_nI (i * g0)]
      refine zr_callq (zx_runS (As := [.int (zi_I (((i * g0 : Nat) : Int))), .int (nI (2 * (zk_n k)))]) (rest := []) hx hb hml hts hown (cJ_floorMod l (dC, dI) zz_cl ((cA, .int) :: tr) (zm_w cA mo th k (zk_n k) (zk_t k) F fa G1 fc fd ++ wr) ((i * g0 : Nat) : Int) (2 * zk_n k) (i * g0 % (2 * zk_n k)) (by omega) (by omega) (by omega) (by omega) (by rw [← Int.natCast_emod])) zu_X1_91 rfl rfl ⟨Nat.le_of_ble_eq_true rfl, Nat.le_of_ble_eq_true rfl⟩ (zr_preS hP hK) rfl hl.1 rfl (Nat.le_of_ble_eq_true rfl) dX1_turn1_19 ⟨Nat.zero_le _, Nat.zero_le _⟩) ?_
      refine lv_istore_n (lv' := [(3, .int (nI (i * g0 % (2 * zk_n k)))), (0, .ref (mo 0)), (1, .int (nI (g0))), (2, .int (nI (i)))]) hx hb dX1_turn1_22 rfl hl (by decide) rfl (fun ls hl => ?_)
      refine lv_aload_n hx hb dX1_turn1_23 rfl (lv_at hl 1 rfl) ?_
      refine zx_get1 (v := .ref (mo 3)) hx hb hts hown hK hP 0 rfl 6 (by decide) zf_X1_23 rfl dX1_turn1_24 ?_
      refine lv_iload_n hx hb dX1_turn1_27 rfl (lv_at hl 0 rfl) ?_
      refine lv_aload_n hx hb dX1_turn1_28 rfl (lv_at hl 1 rfl) ?_
      refine zx_get1 (v := .int (nI (zk_n k))) hx hb hts hown hK hP 0 rfl 2 (by decide) zf_X1_7 rfl dX1_turn1_29 ?_
      refine zr_irem hx hb dX1_turn1_32 (by omega) (by omega) (by omega) ?_
      refine lv_aload_n hx hb dX1_turn1_33 rfl (lv_at hl 1 rfl) ?_
      refine lv_iload_n hx hb dX1_turn1_34 rfl (lv_at hl 0 rfl) ?_
      refine lv_aload_n hx hb dX1_turn1_35 rfl (lv_at hl 1 rfl) ?_
      refine zx_get1 (v := .int (nI (zk_n k))) hx hb hts hown hK hP 0 rfl 2 (by decide) zf_X1_7 rfl dX1_turn1_36 ?_
      refine zr_ige (tgt := 52) hx hb dX1_turn1_39 (by decide) (by omega) (by omega) (fun hc => ?_) (fun hc => ?_)
      · refine lv_aload_n hx hb dX1_turn1_52 rfl (lv_at hl 1 rfl) ?_
        refine zx_get1 (v := .ref (mo 2)) hx hb hts hown hK hP 0 rfl 5 (by decide) zf_X1_20 rfl dX1_turn1_53 ?_
        refine lv_iload_n hx hb dX1_turn1_56 rfl (lv_at hl 3 rfl) ?_
        refine zr_iald (y := fa i) hx hb hK hP 2 0 rfl rfl (by omega) (by decide) rfl dX1_turn1_57 ?_
        refine zr_inegN hx hb dX1_turn1_58 ?_
        refine zr_i2lZ hx hb dX1_turn1_59 (by omega) (by omega) ?_
        refine zr_callq (zx_runV (As := [.long (zi_L (-((fa i : Nat) : Int)))]) (rest := [.int (nI ((i * g0 % (2 * zk_n k)) % (zk_n k))), .ref (mo 3)]) hx hb hml hts hown (cm_of l dC dI cA tr wr mo th k F fa G1 fc fd hk (-((fa i : Nat) : Int)) ((zk_t k - fa i) % zk_t k) (by omega) (by omega) (zi_ng hgi)) zv_X1_54 rfl rfl ⟨Nat.le_of_ble_eq_true rfl, Nat.le_of_ble_eq_true rfl⟩ (zr_preV (q := (RX1, TM1, 9)) (ci := 1) (q0 := 0) hP hK rfl rfl) rfl hl.1 rfl (Nat.le_of_ble_eq_true rfl) dX1_turn1_60 ⟨Nat.zero_le _, Nat.zero_le _⟩) ?_
        refine zr_iast (ws' := (zm_w cA mo th k (zk_n k) (zk_t k) F fa (zq_up G1 ((i * g0 % (2 * zk_n k)) % (zk_n k)) ((zk_t k - fa i) % zk_t k)) fc fd ++ wr)) hx hb hK hP hD hS 3 0 rfl rfl (by omega) (by decide) dX1_turn1_63 rfl (fun H locs hP hD hS => ?_)
        refine zr_iinc (k := 3) (lv' := [(2, .int (nI (i + 1))), (3, .int (nI (i * g0 % (2 * zk_n k)))), (0, .ref (mo 0)), (1, .int (nI (g0)))]) hx hb dX1_turn1_64 hl rfl (by decide) rfl (fun ls hl => ?_)
        refine lv_goto (tgt := 2) hx hb dX1_turn1_67 (by decide) ?_
        refine ih (i + 1) (by omega) _ (fun m9 hm9 => ?_) H locs hP hD hS ls (lv_sub hl [2, 3, 0] rfl)
        by_cases e9 : m9 = i
        · rw [e9]; show zq_up _ (i * g0 % (2 * zk_n k) % zk_n k) _ _ = if _ then _ else _; rw [if_neg (by omega)]; exact zq_up_s _ _ _
        · have h8 : zk_q k g0 m9 ≠ i * g0 % (2 * zk_n k) % zk_n k := fun q9 => e9 (zk_q_inj k hk g0 hg0 ho m9 (by omega) i (by omega) q9)
          rw [zq_up_n _ _ h8]; exact hinv m9 (by omega)
      · refine lv_aload_n hx hb dX1_turn1_42 rfl (lv_at hl 1 rfl) ?_
        refine zx_get1 (v := .ref (mo 2)) hx hb hts hown hK hP 0 rfl 5 (by decide) zf_X1_20 rfl dX1_turn1_43 ?_
        refine lv_iload_n hx hb dX1_turn1_46 rfl (lv_at hl 3 rfl) ?_
        refine zr_iald (y := fa i) hx hb hK hP 2 0 rfl rfl (by omega) (by decide) rfl dX1_turn1_47 ?_
        refine zr_i2l hx hb dX1_turn1_48 (by omega) ?_
        refine lv_goto (tgt := 60) hx hb dX1_turn1_49 (by decide) ?_
        rw [zi_lN (fa i)]
        refine zr_callq (zx_runV (As := [.long (lN (fa i))]) (rest := [.int (nI ((i * g0 % (2 * zk_n k)) % (zk_n k))), .ref (mo 3)]) hx hb hml hts hown (cm_of l dC dI cA tr wr mo th k F fa G1 fc fd hk (((fa i : Nat) : Int)) (fa i) (by omega) (by omega) (by rw [← Int.natCast_emod, Nat.mod_eq_of_lt hgi])) zv_X1_54 rfl rfl ⟨Nat.le_of_ble_eq_true rfl, Nat.le_of_ble_eq_true rfl⟩ (zr_preV (q := (RX1, TM1, 9)) (ci := 1) (q0 := 0) hP hK rfl rfl) rfl hl.1 rfl (Nat.le_of_ble_eq_true rfl) dX1_turn1_60 ⟨Nat.zero_le _, Nat.zero_le _⟩) ?_
        refine zr_iast (ws' := (zm_w cA mo th k (zk_n k) (zk_t k) F fa (zq_up G1 ((i * g0 % (2 * zk_n k)) % (zk_n k)) (fa i)) fc fd ++ wr)) hx hb hK hP hD hS 3 0 rfl rfl (by omega) (by decide) dX1_turn1_63 rfl (fun H locs hP hD hS => ?_)
        refine zr_iinc (k := 3) (lv' := [(2, .int (nI (i + 1))), (3, .int (nI (i * g0 % (2 * zk_n k)))), (0, .ref (mo 0)), (1, .int (nI (g0)))]) hx hb dX1_turn1_64 hl rfl (by decide) rfl (fun ls hl => ?_)
        refine lv_goto (tgt := 2) hx hb dX1_turn1_67 (by decide) ?_
        refine ih (i + 1) (by omega) _ (fun m9 hm9 => ?_) H locs hP hD hS ls (lv_sub hl [2, 3, 0] rfl)
        by_cases e9 : m9 = i
        · rw [e9]; show zq_up _ (i * g0 % (2 * zk_n k) % zk_n k) _ _ = if _ then _ else _; rw [if_pos hc]; exact zq_up_s _ _ _
        · have h8 : zk_q k g0 m9 ≠ i * g0 % (2 * zk_n k) % zk_n k := fun q9 => e9 (zk_q_inj k hk g0 hg0 ho m9 (by omega) i (by omega) q9)
          rw [zq_up_n _ _ h8]; exact hinv m9 (by omega)
  exact loop (zk_n k) 0 (by omega) fb (fun j hj => absurd hj (Nat.not_lt_zero _)) s.heap [] hP hD hS ls (lv_sub hl [1, 2, 0] rfl)
