set_option maxHeartbeats 4000000 in
set_option maxRecDepth 100000 in
/-- startKind(kind) -/
theorem cx_startKind (l : Launch) (dC : Nat → ClassId) (dI : Nat → Nat → Nat) (cA cR : ClassId) (tr : List (ClassId × FieldType)) (wr : va_W) (ad : Nat → Nat) (kd n t z v : Nat) (S : Nat → Int32) (P : Nat → Nat) (V : Nat → Nat → Nat) (sz : Nat) (k : Nat) (hk : k < 4) : Met l yX0_startKind wzX0_startKind (k2_rm 2 46) (zs_pre (dC, dI) zz_cl ((cA, .int) :: (cR, .array .int) :: tr) (zc_w cA cR ad kd n t z v S P V ++ wr) sz [.ref (ad 0), .int (nI (k))]) (va_Qv (fun u : (Nat → Nat) × (Nat → Nat → Nat) => (∀ j, j < 2 * zk_n k → u.1 j = zk_z k ^ j % zk_t k) ∧ ∀ r j, r < 16 → j < 32 → u.2 r j = 0) (zw_at (dC, dI) zz_cl ((cA, .int) :: (cR, .array .int) :: tr) (va_A (zc_w cA cR ad kd n t z v S P V ++ wr) sz) (fun u : (Nat → Nat) × (Nat → Nat → Nat) => zc_w cA cR ad k (zk_n k) (zk_t k) (zk_z k) (zk_i k) S u.1 u.2 ++ wr)) (va_A (zc_w cA cR ad kd n t z v S P V ++ wr) sz)) 0 0 (va_A (zc_w cA cR ad kd n t z v S P V ++ wr) sz) := by
  refine Met.ofW (cc := cX0_startKind) (maxL := 3) (ret := none) (by decide) rfl ?_
  intro p e s m args below meth c s₁ B hml hv
  obtain ⟨rfl, hsz, hP, hK, hD0, hZs⟩ := hv
  have hx := B.exec
  have hb := B.bytes
  have hr := B.returns
  have hts := atoms_spec (ws := wzX0_startKind) B.pre
  have hown : s.vm.findClass RX0 = some m.cls := findClass_of_methodNamed B.named
  have hlocks := B.notSynchronized
  subst hsz
  have hD := hD0.self (sz := s.heap.size)
  generalize hAe : va_A (zc_w cA cR ad kd n t z v S P V ++ wr) s.heap.size = A at hD hZs ⊢
  have hA : ∀ q : Nat, s.heap.size ≤ q → A q := fun q h => by rw [← hAe]; exact Or.inr h
  have hS : va_S A s.heap s.heap [] := va_S.rf
  have hl := lv_entry ([.ref (ad 0), .int (nI (k))]) (n := 3) (Nat.le_of_ble_eq_true rfl)
  rw [lg_entry_eq]
  generalize (lg_sl ([.ref (ad 0), .int (nI (k))]) ++ List.replicate (3 - (lg_sl ([.ref (ad 0), .int (nI (k))])).length) Slot.unset).toArray = ls at hl ⊢
  have hl : lv_has ls 3 [(0, .ref (ad 0)), (1, .int (nI (k)))] := hl
  obtain ⟨tS, tM, zS, zT, zM, zN⟩ := hZs
  obtain ⟨hb1, hb2, hb3, hb4, hb5, hb6, hb7, hb8⟩ := zk_b k hk
  have hzt := zk_zt k hk
  obtain ⟨hl1, hl2⟩ := zk_least k hk
  refine lv_aload_n hx hb dX0_startKind_0 rfl (lv_at hl 0 rfl) ?_
  refine lv_iload_n hx hb dX0_startKind_1 rfl (lv_at hl 1 rfl) ?_
  refine zx_put0 (ws' := (zc_w cA cR ad k n t z v S P V ++ wr)) hx hb hts hown hK hP hD hS 0 rfl 3 (by decide) zf_X0_121 rfl (by decide +kernel) (Nat.le_of_ble_eq_true rfl) dX0_startKind_2 rfl (fun H locs hP hD hS => ?_)
  refine lv_aload_n hx hb dX0_startKind_5 rfl (lv_at hl 0 rfl) ?_
  refine va_gets hx hb zS hS hown (hts _ (List.mem_cons_of_mem _ zf_X0_25)) (fun _ h9 => h9) dX0_startKind_6 ?_
  refine lv_iload_n hx hb dX0_startKind_9 rfl (lv_at hl 1 rfl) ?_
  refine va_ti (v := .int (nI (zk_n k))) hx hb zT hS (vp_in_nI hk (by decide)) (by rw [nI_clamp (by omega)]) dX0_startKind_10 ?_
  refine zx_put0 (ws' := (zc_w cA cR ad k (zk_n k) t z v S P V ++ wr)) hx hb hts hown hK hP hD hS 0 rfl 4 (by decide) zf_X0_58 rfl (by decide +kernel) (Nat.le_of_ble_eq_true rfl) dX0_startKind_11 rfl (fun H locs hP hD hS => ?_)
  refine lv_aload_n hx hb dX0_startKind_14 rfl (lv_at hl 0 rfl) ?_
  refine va_gets hx hb zM hS hown (hts _ (List.mem_cons_of_mem _ zf_X0_128)) (fun _ h9 => h9) dX0_startKind_15 ?_
  refine lv_iload_n hx hb dX0_startKind_18 rfl (lv_at hl 1 rfl) ?_
  refine va_ti (v := .int (nI (zk_t k))) hx hb zN hS (vp_in_nI hk (by decide)) (by rw [nI_clamp (by omega)]) dX0_startKind_19 ?_
  refine zx_put0 (ws' := (zc_w cA cR ad k (zk_n k) (zk_t k) z v S P V ++ wr)) hx hb hts hown hK hP hD hS 0 rfl 5 (by decide) zf_X0_49 rfl (by decide +kernel) (Nat.le_of_ble_eq_true rfl) dX0_startKind_20 rfl (fun H locs hP hD hS => ?_)
  refine lv_aload_n hx hb dX0_startKind_23 rfl (lv_at hl 0 rfl) ?_
  refine lv_aload_n hx hb dX0_startKind_24 rfl (lv_at hl 0 rfl) ?_
  refine zr_callq (zx_runV (As := []) (rest := [.ref (ad 0)]) hx hb hml hts hown (cx_leastZ l dC dI cA cR tr wr ad k (zk_n k) (zk_t k) z v S P V (zk_z k) hb5 hzt (by omega) hb4 hb2 hl1 (fun y h8 h9 => hl2 y h9 h8)) zv_X0_131 rfl rfl ⟨Nat.le_of_ble_eq_true rfl, Nat.le_of_ble_eq_true rfl⟩ (zr_preV (q := (RX0, TX0, 8)) (ci := 0) (q0 := 0) hP hK rfl rfl) rfl hl.1 rfl (Nat.le_of_ble_eq_true rfl) dX0_startKind_25 ⟨Nat.zero_le _, Nat.zero_le _⟩) ?_
  refine zx_put0 (ws' := (zc_w cA cR ad k (zk_n k) (zk_t k) (zk_z k) v S P V ++ wr)) hx hb hts hown hK hP hD hS 0 rfl 6 (by decide) zf_X0_35 rfl (by decide +kernel) (Nat.le_of_ble_eq_true rfl) dX0_startKind_28 rfl (fun H locs hP hD hS => ?_)
  refine lv_aload_n hx hb dX0_startKind_31 rfl (lv_at hl 0 rfl) ?_
  refine lv_aload_n hx hb dX0_startKind_32 rfl (lv_at hl 0 rfl) ?_
  refine lv_aload_n hx hb dX0_startKind_33 rfl (lv_at hl 0 rfl) ?_
  refine zx_get0 (v := .int (nI (zk_n k))) hx hb hts hown hK hP 0 rfl 4 (by decide) zf_X0_58 rfl dX0_startKind_34 ?_
  refine zr_callq (zx_runV (As := [.int (nI (zk_n k))]) (rest := [.ref (ad 0)]) hx hb hml hts hown (cx_inverse l dC dI cA cR tr wr ad k (zk_n k) (zk_t k) (zk_z k) v S P V (zk_n k) hb8 (by omega) hb4) zv_X0_134 rfl rfl ⟨Nat.le_of_ble_eq_true rfl, Nat.le_of_ble_eq_true rfl⟩ (zr_preV (q := (RX0, TX0, 8)) (ci := 0) (q0 := 0) hP hK rfl rfl) rfl hl.1 rfl (Nat.le_of_ble_eq_true rfl) dX0_startKind_37 ⟨Nat.zero_le _, Nat.zero_le _⟩) ?_
  rw [zk_inv k hk]
  refine zx_put0 (ws' := (zc_w cA cR ad k (zk_n k) (zk_t k) (zk_z k) (zk_i k) S P V ++ wr)) hx hb hts hown hK hP hD hS 0 rfl 7 (by decide) zf_X0_137 rfl (by decide +kernel) (Nat.le_of_ble_eq_true rfl) dX0_startKind_40 rfl (fun H locs hP hD hS => ?_)
  refine lv_aload_n hx hb dX0_startKind_43 rfl (lv_at hl 0 rfl) ?_
  refine zx_get0 (v := .ref (ad 3)) hx hb hts hown hK hP 0 rfl 2 (by decide) zf_X0_18 rfl dX0_startKind_44 ?_
  refine lv_iconst (v := nI 0) hx hb dX0_startKind_47 (by decide) ?_
  refine lv_iconst (v := nI 1) hx hb dX0_startKind_48 (by decide) ?_
  refine zr_iast (ws' := (zc_w cA cR ad k (zk_n k) (zk_t k) (zk_z k) (zk_i k) S (zq_up P 0 1) V ++ wr)) hx hb hK hP hD hS 3 0 rfl rfl (by omega) (by decide) dX0_startKind_49 rfl (fun H locs hP hD hS => ?_)
  refine lv_iconst (v := nI 1) hx hb dX0_startKind_50 (by decide) ?_
  refine lv_istore_n (lv' := [(2, .int (nI (1))), (0, .ref (ad 0)), (1, .int (nI (k)))]) hx hb dX0_startKind_51 rfl hl (by decide) rfl (fun ls hl => ?_)
  have loop2 : ∀ (P1 : Nat → Nat), (∀ j, j < 2 * zk_n k → P1 j = zk_z k ^ j % zk_t k) → ∀ (d i : Nat), i + d = 16 → ∀ (V1 : Nat → Nat → Nat), (∀ r j, r < i → j < 32 → V1 r j = 0) → ∀ (H : Heap) (locs : List Loc), va_P (dC, dI) zz_cl (zc_w cA cR ad k (zk_n k) (zk_t k) (zk_z k) (zk_i k) S P1 V1 ++ wr) H → va_D A (zc_w cA cR ad k (zk_n k) (zk_t k) (zk_z k) (zk_i k) S P1 V1 ++ wr) → va_S A s.heap H locs → ∀ ls, lv_has ls 3 [(0, .ref (ad 0)), (2, .int (nI (i)))] → W p l e (headSpec wzX0_startKind (k2_rm 2 46)).room s m ([.ref (ad 0), .int (nI (k))] : List Value).toArray below meth c H locs 0 0 (MQ below (va_Qv (fun u : (Nat → Nat) × (Nat → Nat → Nat) => (∀ j, j < 2 * zk_n k → u.1 j = zk_z k ^ j % zk_t k) ∧ ∀ r j, r < 16 → j < 32 → u.2 r j = 0) (zw_at (dC, dI) zz_cl ((cA, .int) :: (cR, .array .int) :: tr) A (fun u : (Nat → Nat) × (Nat → Nat → Nat) => zc_w cA cR ad k (zk_n k) (zk_t k) (zk_z k) (zk_i k) S u.1 u.2 ++ wr)) A) ([.ref (ad 0), .int (nI (k))] : List Value).toArray s 0 0 A) (F0 m 94 ls []) := by
    intro P1 hP1 d
    induction d with
    | zero =>
      intro i hi V1 hV1 H locs hP hD hS ls hl
      have hi : i = 16 := by omega
      rw [hi] at hV1
      refine lv_iload_n hx hb dX0_startKind_94 rfl (lv_at hl 1 rfl) ?_
      refine lv_bipush (v := nI 16) hx hb dX0_startKind_95 (by decide) ?_
      refine zr_ige (tgt := 116) hx hb dX0_startKind_97 (by decide) (by omega) (by omega) (fun _ => ?_) (fun hno9 => absurd hno9 (by omega))
      exact W.vret hx hb hr (fun t9 h9 hW9 => ⟨⟨(P1, V1), rfl, ⟨hP1, hV1⟩, by rw [h9]; exact hP, va_K.moved hW9.alike hK, hD⟩, hS.F h9⟩) hS.2.2 dX0_startKind_116
    | succ d ih =>
      intro i hi V1 hV1 H locs hP hD hS ls hl
      refine lv_iload_n hx hb dX0_startKind_94 rfl (lv_at hl 1 rfl) ?_
      refine lv_bipush (v := nI 16) hx hb dX0_startKind_95 (by decide) ?_
      refine zr_ige (tgt := 116) hx hb dX0_startKind_97 (by decide) (by omega) (by omega) (fun hno9 => absurd hno9 (by omega)) (fun _ => ?_)
      refine lv_aload_n hx hb dX0_startKind_100 rfl (lv_at hl 0 rfl) ?_
      refine zx_get0 (v := .ref (ad 1)) hx hb hts hown hK hP 0 rfl 0 (by decide) zf_X0_11 rfl dX0_startKind_101 ?_
      refine lv_iload_n hx hb dX0_startKind_104 rfl (lv_at hl 1 rfl) ?_
      refine zr_aald (y := ad (4 + i)) hx hb hK hP 1 1 rfl rfl (by omega) (by decide) rfl dX0_startKind_105 ?_
      refine lv_iconst (v := nI 0) hx hb dX0_startKind_106 (by decide) ?_
      refine zw_callv (w' := fun F1 : Nat → Nat => (zc_w cA cR ad k (zk_n k) (zk_t k) (zk_z k) (zk_i k) S P1 V1 ++ wr).set (4 + i) (ad (4 + i), .inl (cA, 32, .inl (zq_I F1)))) hD hS hA (zx_runS (As := [.ref (ad (4 + i)), .int (nI 0)]) (rest := []) hx hb hml hts hown (cJ_fill l (dC, dI) zz_cl cA ((cR, .array .int) :: tr) (zc_w cA cR ad k (zk_n k) (zk_t k) (zk_z k) (zk_i k) S P1 V1 ++ wr) (4 + i) (ad (4 + i)) 32 0 (V1 i) H.size (zc_row (by omega)) (by decide)) zu_X0_140 rfl rfl ⟨Nat.le_of_ble_eq_true rfl, Nat.le_of_ble_eq_true rfl⟩ (zw_preS hP hK hD) rfl hl.1 rfl (Nat.le_of_ble_eq_true rfl) dX0_startKind_107 ⟨Nat.zero_le _, Nat.zero_le _⟩) (fun F1 H locs hF1 hP hD hS => ?_)
      rw [zc_set (by omega)] at hP hD
      refine zr_iinc (k := 1) (lv' := [(2, .int (nI (i + 1))), (0, .ref (ad 0))]) hx hb dX0_startKind_110 hl rfl (by decide) rfl (fun ls hl => ?_)
      refine lv_goto (tgt := 94) hx hb dX0_startKind_113 (by decide) ?_
      refine ih (i + 1) (by omega) _ (fun r j hr9 hj => ?_) H locs hP hD hS ls (lv_sub hl [1, 0] rfl)
      by_cases e9 : r = i
      · subst e9; rw [zq_vp_s]; exact hF1 j hj
      · rw [zq_vp_n _ _ e9]; exact hV1 r j (by omega) hj
  have loop1 : ∀ (d i : Nat), i + d = 2 * zk_n k → 1 ≤ i → ∀ (P1 : Nat → Nat), (∀ j, j < i → P1 j = zk_z k ^ j % zk_t k) → ∀ (H : Heap) (locs : List Loc), va_P (dC, dI) zz_cl (zc_w cA cR ad k (zk_n k) (zk_t k) (zk_z k) (zk_i k) S P1 V ++ wr) H → va_D A (zc_w cA cR ad k (zk_n k) (zk_t k) (zk_z k) (zk_i k) S P1 V ++ wr) → va_S A s.heap H locs → ∀ ls, lv_has ls 3 [(0, .ref (ad 0)), (2, .int (nI (i)))] → W p l e (headSpec wzX0_startKind (k2_rm 2 46)).room s m ([.ref (ad 0), .int (nI (k))] : List Value).toArray below meth c H locs 0 0 (MQ below (va_Qv (fun u : (Nat → Nat) × (Nat → Nat → Nat) => (∀ j, j < 2 * zk_n k → u.1 j = zk_z k ^ j % zk_t k) ∧ ∀ r j, r < 16 → j < 32 → u.2 r j = 0) (zw_at (dC, dI) zz_cl ((cA, .int) :: (cR, .array .int) :: tr) A (fun u : (Nat → Nat) × (Nat → Nat → Nat) => zc_w cA cR ad k (zk_n k) (zk_t k) (zk_z k) (zk_i k) S u.1 u.2 ++ wr)) A) ([.ref (ad 0), .int (nI (k))] : List Value).toArray s 0 0 A) (F0 m 52 ls []) := by
    intro d
    induction d with
    | zero =>
      intro i hi h1i P1 hP1 H locs hP hD hS ls hl
      have hi : i = 2 * zk_n k := by omega
      rw [hi] at hP1
      refine lv_iload_n hx hb dX0_startKind_52 rfl (lv_at hl 1 rfl) ?_
      refine lv_iconst (v := nI 2) hx hb dX0_startKind_53 (by decide) ?_
      refine lv_aload_n hx hb dX0_startKind_54 rfl (lv_at hl 0 rfl) ?_
      refine zx_get0 (v := .int (nI (zk_n k))) hx hb hts hown hK hP 0 rfl 4 (by decide) zf_X0_58 rfl dX0_startKind_55 ?_
      refine zr_imul hx hb dX0_startKind_58 ?_
      refine zr_ige (tgt := 92) hx hb dX0_startKind_59 (by decide) (by omega) (by omega) (fun _ => ?_) (fun hno9 => absurd hno9 (by omega))
      refine lv_iconst (v := nI 0) hx hb dX0_startKind_92 (by decide) ?_
      refine lv_istore_n (lv' := [(2, .int (nI (0))), (0, .ref (ad 0))]) hx hb dX0_startKind_93 rfl hl (by decide) rfl (fun ls hl => ?_)
      exact loop2 P1 hP1 16 0 (by omega) V (fun r j hr9 _ => absurd hr9 (Nat.not_lt_zero _)) H locs hP hD hS ls (lv_sub hl [1, 0] rfl)
    | succ d ih =>
      intro i hi h1i P1 hP1 H locs hP hD hS ls hl
      have hpi : P1 (i - 1) = zk_z k ^ (i - 1) % zk_t k := hP1 (i - 1) (by omega)
      have hpl : P1 (i - 1) < zk_t k := by rw [hpi]; exact Nat.mod_lt _ (by omega)
      refine lv_iload_n hx hb dX0_startKind_52 rfl (lv_at hl 1 rfl) ?_
      refine lv_iconst (v := nI 2) hx hb dX0_startKind_53 (by decide) ?_
      refine lv_aload_n hx hb dX0_startKind_54 rfl (lv_at hl 0 rfl) ?_
      refine zx_get0 (v := .int (nI (zk_n k))) hx hb hts hown hK hP 0 rfl 4 (by decide) zf_X0_58 rfl dX0_startKind_55 ?_
      refine zr_imul hx hb dX0_startKind_58 ?_
      refine zr_ige (tgt := 92) hx hb dX0_startKind_59 (by decide) (by omega) (by omega) (fun hno9 => absurd hno9 (by omega)) (fun _ => ?_)
      refine lv_aload_n hx hb dX0_startKind_62 rfl (lv_at hl 0 rfl) ?_
      refine zx_get0 (v := .ref (ad 3)) hx hb hts hown hK hP 0 rfl 2 (by decide) zf_X0_18 rfl dX0_startKind_63 ?_
      refine lv_iload_n hx hb dX0_startKind_66 rfl (lv_at hl 1 rfl) ?_
      refine lv_aload_n hx hb dX0_startKind_67 rfl (lv_at hl 0 rfl) ?_
      refine zx_get0 (v := .ref (ad 3)) hx hb hts hown hK hP 0 rfl 2 (by decide) zf_X0_18 rfl dX0_startKind_68 ?_
      refine lv_iload_n hx hb dX0_startKind_71 rfl (lv_at hl 1 rfl) ?_
      refine lv_iconst (v := nI 1) hx hb dX0_startKind_72 (by decide) ?_
      refine zr_isub hx hb dX0_startKind_73 (by omega) ?_
      refine zr_iald (y := P1 (i - 1)) hx hb hK hP 3 0 rfl rfl (by omega) (by decide) rfl dX0_startKind_74 ?_
      refine lv_aload_n hx hb dX0_startKind_75 rfl (lv_at hl 0 rfl) ?_
      refine zx_get0 (v := .int (nI (zk_z k))) hx hb hts hown hK hP 0 rfl 6 (by decide) zf_X0_35 rfl dX0_startKind_76 ?_
      refine zr_imul hx hb dX0_startKind_79 ?_
      refine lv_aload_n hx hb dX0_startKind_80 rfl (lv_at hl 0 rfl) ?_
      refine zx_get0 (v := .int (nI (zk_t k))) hx hb hts hown hK hP 0 rfl 5 (by decide) zf_X0_49 rfl dX0_startKind_81 ?_
      refine zr_irem hx hb dX0_startKind_84 (zq_b2 hpl hb6 hb4) (by omega) (by omega) ?_
      refine zr_iast (ws' := (zc_w cA cR ad k (zk_n k) (zk_t k) (zk_z k) (zk_i k) S (zq_up P1 i (((P1 (i - 1)) * (zk_z k)) % (zk_t k))) V ++ wr)) hx hb hK hP hD hS 3 0 rfl rfl (by omega) (by decide) dX0_startKind_85 rfl (fun H locs hP hD hS => ?_)
      refine zr_iinc (k := 1) (lv' := [(2, .int (nI (i + 1))), (0, .ref (ad 0))]) hx hb dX0_startKind_86 hl rfl (by decide) rfl (fun ls hl => ?_)
      refine lv_goto (tgt := 52) hx hb dX0_startKind_89 (by decide) ?_
      refine ih (i + 1) (by omega) (by omega) _ (fun j hj => ?_) H locs hP hD hS ls (lv_sub hl [1, 0] rfl)
      by_cases e9 : j = i
      · subst e9; rw [zq_up_s, hpi, zq_mm, ← Nat.pow_succ]; congr 2; omega
      · rw [zq_up_n _ _ e9]; exact hP1 j (by omega)
  exact loop1 (2 * zk_n k - 1) 1 (by omega) (Nat.le_refl _) _ (fun j hj => by rw [show j = 0 by omega, zq_up_s, Nat.pow_zero, Nat.mod_eq_of_lt (by omega)]) H locs hP hD hS ls (lv_sub hl [1, 0] rfl)
set_option maxHeartbeats 4000000 in
set_option maxRecDepth 100000 in
/-- begin(kind) -/
theorem cx_begin (l : Launch) (dC : Nat → ClassId) (dI : Nat → Nat → Nat) (cA cR : ClassId) (tr : List (ClassId × FieldType)) (wr : va_W) (ad : Nat → Nat) (kd n t z v : Nat) (S : Nat → Int32) (P : Nat → Nat) (V : Nat → Nat → Nat) (sz : Nat) (k : Nat) (hk : k < 4) : Met l yX0_begin wzX0_begin (k2_rm 3 68) (zs_pre (dC, dI) zz_cl ((cA, .int) :: (cR, .array .int) :: tr) (zc_w cA cR ad kd n t z v S P V ++ wr) sz [.ref (ad 0), .int (nI (k))]) (va_Qi (fun r (u : (Nat → Nat) × (Nat → Nat → Nat)) => r = nI (zk_z k) ∧ (∀ j, j < 2 * zk_n k → u.1 j = zk_z k ^ j % zk_t k) ∧ ∀ r j, r < 16 → j < 32 → u.2 r j = 0) (zw_at (dC, dI) zz_cl ((cA, .int) :: (cR, .array .int) :: tr) (va_A (zc_w cA cR ad kd n t z v S P V ++ wr) sz) (fun u : (Nat → Nat) × (Nat → Nat → Nat) => zc_w cA cR ad k (zk_n k) (zk_t k) (zk_z k) (zk_i k) S u.1 u.2 ++ wr)) (va_A (zc_w cA cR ad kd n t z v S P V ++ wr) sz)) 0 0 (va_A (zc_w cA cR ad kd n t z v S P V ++ wr) sz) := by
  refine Met.ofW (cc := cX0_begin) (maxL := 2) (ret := (some .int)) (by decide) rfl ?_
  intro p e s m args below meth c s₁ B hml hv
  obtain ⟨rfl, hsz, hP, hK, hD0, hZs⟩ := hv
  have hx := B.exec
  have hb := B.bytes
  have hr := B.returns
  have hts := atoms_spec (ws := wzX0_begin) B.pre
  have hown : s.vm.findClass RX0 = some m.cls := findClass_of_methodNamed B.named
  have hlocks := B.notSynchronized
  subst hsz
  have hD := hD0.self (sz := s.heap.size)
  generalize hAe : va_A (zc_w cA cR ad kd n t z v S P V ++ wr) s.heap.size = A at hD hZs ⊢
  have hA : ∀ q : Nat, s.heap.size ≤ q → A q := fun q h => by rw [← hAe]; exact Or.inr h
  have hS : va_S A s.heap s.heap [] := va_S.rf
  have hl := lv_entry ([.ref (ad 0), .int (nI (k))]) (n := 2) (Nat.le_of_ble_eq_true rfl)
  rw [lg_entry_eq]
  generalize (lg_sl ([.ref (ad 0), .int (nI (k))]) ++ List.replicate (2 - (lg_sl ([.ref (ad 0), .int (nI (k))])).length) Slot.unset).toArray = ls at hl ⊢
  have hl : lv_has ls 2 [(0, .ref (ad 0)), (1, .int (nI (k)))] := hl
  have hZs0 := hZs
  obtain ⟨tS, tM, zS, zT, zM, zN⟩ := hZs
  refine lv_iload_n hx hb dX0_begin_0 rfl (lv_at hl 1 rfl) ?_
  refine zr_iflt (tgt := 12) hx hb dX0_begin_1 (by decide) (by omega) ?_
  refine lv_iload_n hx hb dX0_begin_4 rfl (lv_at hl 1 rfl) ?_
  refine va_gets hx hb zS hS hown (hts _ (List.mem_cons_of_mem _ zf_X0_25)) (fun _ h9 => h9) dX0_begin_5 ?_
  refine va_tlen (v := nI 4) hx hb zT hS rfl dX0_begin_8 ?_
  refine zr_ilt (tgt := 22) hx hb dX0_begin_9 (by decide) (by omega) (by omega) (fun _ => ?_) (fun hno9 => absurd hno9 (by omega))
  refine lv_aload_n hx hb dX0_begin_22 rfl (lv_at hl 0 rfl) ?_
  refine lv_iload_n hx hb dX0_begin_23 rfl (lv_at hl 1 rfl) ?_
  refine zw_callv (w' := fun u : (Nat → Nat) × (Nat → Nat → Nat) => zc_w cA cR ad k (zk_n k) (zk_t k) (zk_z k) (zk_i k) S u.1 u.2 ++ wr) hD hS hA (zx_runV (As := [.int (nI k)]) (rest := []) hx hb hml hts hown (cx_startKind l dC dI cA cR tr wr ad kd n t z v S P V s.heap.size k hk) zv_X0_21 rfl rfl ⟨Nat.le_of_ble_eq_true rfl, Nat.le_of_ble_eq_true rfl⟩ (zs_preV (q := (RX0, TX0, 8)) (ci := 0) (q0 := 0) hP hK hD hZs0 hS hA rfl rfl) rfl hl.1 rfl (Nat.le_of_ble_eq_true rfl) dX0_begin_24 ⟨Nat.zero_le _, Nat.zero_le _⟩) (fun u H locs hu hP hD hS => ?_)
  refine lv_aload_n hx hb dX0_begin_27 rfl (lv_at hl 0 rfl) ?_
  refine zx_get0 (v := .int (nI (zk_z k))) hx hb hts hown hK hP 0 rfl 6 (by decide) zf_X0_35 rfl dX0_begin_28 ?_
  exact W.iret (v := nI (zk_z k)) hx hb hr (fun t9 h9 hW9 => ⟨⟨nI (zk_z k), u, rfl, ⟨rfl, hu⟩, by rw [h9]; exact hP, va_K.moved hW9.alike hK, hD⟩, hS.F h9⟩) hS.2.2 dX0_begin_31
set_option maxHeartbeats 4000000 in
set_option maxRecDepth 100000 in
/-- begin, no such kind throws -/
theorem cb_begin (l : Launch) (dC : Nat → ClassId) (dI : Nat → Nat → Nat) (cA cR : ClassId) (tr : List (ClassId × FieldType)) (wr : va_W) (ad : Nat → Nat) (kd n t z v : Nat) (S : Nat → Int32) (P : Nat → Nat) (V : Nat → Nat → Nat) (A : Nat → Prop) (hlt9 : l.stackTraces = false) (k : Int32) (hbad : k < 0 ∨ nI 4 ≤ k) : vx_Met l yX0_begin wzX0_begin (zx_rm 6 84) (zb_pre (dC, dI) zz_cl ((cA, .int) :: (cR, .array .int) :: tr) (zc_w cA cR ad kd n t z v S P V ++ wr) A [.ref (ad 0), .int (k)]) zx_no (zx_K zx_IA) 1 6 (fun _ => False) := by
  refine vx_ofW (cc := cX0_begin) (maxL := 2) (ret := (some .int)) (by decide) rfl ?_
  intro p e s m args below meth c s₁ B hml hxt hv
  obtain ⟨rfl, hP, hK, henv, hZs⟩ := hv
  obtain ⟨tS, tM, zS, zT, zM, zN⟩ := hZs
  have hx := B.exec
  have hb := B.bytes
  have hr := B.returns
  have hts := atoms_spec (ws := wzX0_begin) B.pre
  have hown : s.vm.findClass RX0 = some m.cls := findClass_of_methodNamed B.named
  have hlocks := B.notSynchronized
  have hl := lv_entry ([.ref (ad 0), .int (k)]) (n := 2) (Nat.le_of_ble_eq_true rfl)
  rw [lg_entry_eq]
  generalize (lg_sl ([.ref (ad 0), .int (k)]) ++ List.replicate (2 - (lg_sl ([.ref (ad 0), .int (k)])).length) Slot.unset).toArray = ls at hl ⊢
  have hl : lv_has ls 2 [(0, .ref (ad 0)), (1, .int (k))] := hl
  refine lv_iload_n hx hb dX0_begin_0 rfl (lv_at hl 1 rfl) ?_
  refine lv_if_lt (tgt := 12) hx hb dX0_begin_1 (by decide) (fun _ => ?_) (fun hn0 => ?_)
  · exact zx_throw (text := "no such kind") hx hb hlt9 hts hown henv va_S.rf zx_okIA (by decide) (hl.1.trans hml.symm) dX0_begin_12 dX0_begin_15 dX0_begin_16 dX0_begin_18 dX0_begin_21 (fun x h => (hxt x h).elim) (Nat.le_of_ble_eq_true rfl) (Nat.le_of_ble_eq_true rfl) (Nat.le_of_ble_eq_true rfl) (Nat.le_of_ble_eq_true rfl) hlocks (fun t9 _ hz hk => ⟨rfl, hz, hk⟩) (fun z h => nomatch h) (Nat.le_refl _) (Nat.le_refl _)
  · refine lv_iload_n hx hb dX0_begin_4 rfl (lv_at hl 1 rfl) ?_
    refine va_gets hx hb zS va_S.rf hown (hts _ (List.mem_cons_of_mem _ zf_X0_25)) (fun _ h9 => h9) dX0_begin_5 ?_
    refine va_tlen (v := nI 4) hx hb zT va_S.rf rfl dX0_begin_8 ?_
    refine lv_icmp_lt (tgt := 22) hx hb dX0_begin_9 (by decide) (fun hh => absurd hh (hbad.elim (fun h9 => absurd h9 hn0) (fun h9 => Int32.not_lt.mpr h9))) (fun _ => ?_)
    exact zx_throw (text := "no such kind") hx hb hlt9 hts hown henv va_S.rf zx_okIA (by decide) (hl.1.trans hml.symm) dX0_begin_12 dX0_begin_15 dX0_begin_16 dX0_begin_18 dX0_begin_21 (fun x h => (hxt x h).elim) (Nat.le_of_ble_eq_true rfl) (Nat.le_of_ble_eq_true rfl) (Nat.le_of_ble_eq_true rfl) (Nat.le_of_ble_eq_true rfl) hlocks (fun t9 _ hz hk => ⟨rfl, hz, hk⟩) (fun z h => nomatch h) (Nat.le_refl _) (Nat.le_refl _)
