set_option maxHeartbeats 4000000 in
set_option maxRecDepth 100000 in
/-- times(f, g) -/
theorem cm_times52 (l : Launch) (dC : Nat → ClassId) (dI : Nat → Nat → Nat) (cA : ClassId) (tr : List (ClassId × FieldType)) (wr : va_W) (mo : Nat → Nat) (th k : Nat) (F fa fb fc fd : Nat → Nat) (hk : k < 4) (sz : Nat) (hf : ∀ j, j < zk_n k → fd j < zk_t k) (hg : ∀ j, j < zk_n k → fa j < zk_t k) : Met l yX1_times wzX1_times (k2_rm 1 23) (zw_pre (dC, dI) zz_cl ((cA, .int) :: tr) (zm_w cA mo th k (zk_n k) (zk_t k) F fa fb fc fd ++ wr) sz [.ref (mo 0), .ref (mo 5), .ref (mo 2)]) (va_Qv (fun u : Nat → Nat => ∀ j, j < zk_n k → u j = zq_tm k fd fa j) (zw_at (dC, dI) zz_cl ((cA, .int) :: tr) (va_A (zm_w cA mo th k (zk_n k) (zk_t k) F fa fb fc fd ++ wr) sz) (fun u : Nat → Nat => zm_w cA mo th k (zk_n k) (zk_t k) F fa fb u fd ++ wr)) (va_A (zm_w cA mo th k (zk_n k) (zk_t k) F fa fb fc fd ++ wr) sz)) 0 0 (va_A (zm_w cA mo th k (zk_n k) (zk_t k) F fa fb fc fd ++ wr) sz) := by
  refine Met.ofW (cc := cX1_times) (maxL := 6) (ret := none) (by decide) rfl ?_
  intro p e s m args below meth c s₁ B hml hv
  obtain ⟨rfl, hsz, hP, hK, hD0⟩ := hv
  have hx := B.exec
  have hb := B.bytes
  have hr := B.returns
  have hts := atoms_spec (ws := wzX1_times) B.pre
  have hown : s.vm.findClass RX1 = some m.cls := findClass_of_methodNamed B.named
  have hlocks := B.notSynchronized
  subst hsz
  have hD := hD0.self (sz := s.heap.size)
  generalize hAe : va_A (zm_w cA mo th k (zk_n k) (zk_t k) F fa fb fc fd ++ wr) s.heap.size = A at hD ⊢
  have hA : ∀ q : Nat, s.heap.size ≤ q → A q := fun q h => by rw [← hAe]; exact Or.inr h
  have hS : va_S A s.heap s.heap [] := va_S.rf
  have hl := lv_entry ([.ref (mo 0), .ref (mo 5), .ref (mo 2)]) (n := 6) (Nat.le_of_ble_eq_true rfl)
  rw [lg_entry_eq]
  generalize (lg_sl ([.ref (mo 0), .ref (mo 5), .ref (mo 2)]) ++ List.replicate (6 - (lg_sl ([.ref (mo 0), .ref (mo 5), .ref (mo 2)])).length) Slot.unset).toArray = ls at hl ⊢
  have hl : lv_has ls 6 [(0, .ref (mo 0)), (1, .ref (mo 5)), (2, .ref (mo 2))] := hl
  obtain ⟨hb1, hb2, hb3, hb4, hb5, hb6, hb7, hb8⟩ := zk_b k hk
  refine lv_iconst (v := nI 0) hx hb dX1_times_0 (by decide) ?_
  refine lv_istore_n (lv' := [(3, .int (nI (0))), (0, .ref (mo 0)), (1, .ref (mo 5)), (2, .ref (mo 2))]) hx hb dX1_times_1 rfl hl (by decide) rfl (fun ls hl => ?_)
  have loop : ∀ (d i : Nat), i + d = zk_n k → ∀ (G1 : Nat → Nat), (∀ j, j < i → G1 j = zq_tm k fd fa j) → ∀ (H : Heap) (locs : List Loc), va_P (dC, dI) zz_cl (zm_w cA mo th k (zk_n k) (zk_t k) F fa fb G1 fd ++ wr) H → va_D A (zm_w cA mo th k (zk_n k) (zk_t k) F fa fb G1 fd ++ wr) → va_S A s.heap H locs → ∀ ls, lv_has ls 6 [(0, .ref (mo 0)), (1, .ref (mo 5)), (2, .ref (mo 2)), (3, .int (nI (i)))] → W p l e (headSpec wzX1_times (k2_rm 1 23)).room s m ([.ref (mo 0), .ref (mo 5), .ref (mo 2)] : List Value).toArray below meth c H locs 0 0 (MQ below (va_Qv (fun u : Nat → Nat => ∀ j, j < zk_n k → u j = zq_tm k fd fa j) (zw_at (dC, dI) zz_cl ((cA, .int) :: tr) A (fun u : Nat → Nat => zm_w cA mo th k (zk_n k) (zk_t k) F fa fb u fd ++ wr)) A) ([.ref (mo 0), .ref (mo 5), .ref (mo 2)] : List Value).toArray s 0 0 A) (F0 m 2 ls []) := by
    intro d
    induction d with
    | zero =>
      intro i hi G1 hinv H locs hP hD hS ls hl
      have hi : i = zk_n k := by omega
      rw [hi] at hinv
      refine lv_iload_n hx hb dX1_times_2 rfl (lv_at hl 3 rfl) ?_
      refine lv_aload_n hx hb dX1_times_3 rfl (lv_at hl 0 rfl) ?_
      refine zx_get1 (v := .int (nI (zk_n k))) hx hb hts hown hK hP 0 rfl 2 (by decide) zf_X1_7 rfl dX1_times_4 ?_
      refine zr_ige (tgt := 92) hx hb dX1_times_7 (by decide) (by omega) (by omega) (fun _ => ?_) (fun hno9 => absurd hno9 (by omega))
      exact W.vret hx hb hr (fun t9 h9 hW9 => ⟨⟨G1, rfl, hinv, by rw [h9]; exact hP, va_K.moved hW9.alike hK, hD⟩, hS.F h9⟩) hS.2.2 dX1_times_92
    | succ d ih =>
      intro i hi G1 hinv H locs hP hD hS ls hl
      refine lv_iload_n hx hb dX1_times_2 rfl (lv_at hl 3 rfl) ?_
      refine lv_aload_n hx hb dX1_times_3 rfl (lv_at hl 0 rfl) ?_
      refine zx_get1 (v := .int (nI (zk_n k))) hx hb hts hown hK hP 0 rfl 2 (by decide) zf_X1_7 rfl dX1_times_4 ?_
      refine zr_ige (tgt := 92) hx hb dX1_times_7 (by decide) (by omega) (by omega) (fun hno9 => absurd hno9 (by omega)) (fun _ => ?_)
      refine lv_iconst (v := nI 0) hx hb dX1_times_10 (by decide) ?_
      refine lv_istore (lv' := [(4, .int (nI (0))), (0, .ref (mo 0)), (1, .ref (mo 5)), (2, .ref (mo 2)), (3, .int (nI (i)))]) hx hb dX1_times_11 hl (by decide) rfl (fun ls hl => ?_)
      refine lv_iconst (v := nI 0) hx hb dX1_times_13 (by decide) ?_
      refine lv_istore (lv' := [(5, .int (nI (0))), (4, .int (nI (0))), (0, .ref (mo 0)), (1, .ref (mo 5)), (2, .ref (mo 2)), (3, .int (nI (i)))]) hx hb dX1_times_14 hl (by decide) rfl (fun ls hl => ?_)
      have inner : ∀ (d2 m2 : Nat), m2 + d2 = zk_n k → ∀ ls, lv_has ls 6 [(0, .ref (mo 0)), (1, .ref (mo 5)), (2, .ref (mo 2)), (3, .int (nI (i))), (4, .int (zi_I (zq_si k fd fa i m2))), (5, .int (nI (m2)))] → W p l e (headSpec wzX1_times (k2_rm 1 23)).room s m ([.ref (mo 0), .ref (mo 5), .ref (mo 2)] : List Value).toArray below meth c H locs 0 0 (MQ below (va_Qv (fun u : Nat → Nat => ∀ j, j < zk_n k → u j = zq_tm k fd fa j) (zw_at (dC, dI) zz_cl ((cA, .int) :: tr) A (fun u : Nat → Nat => zm_w cA mo th k (zk_n k) (zk_t k) F fa fb u fd ++ wr)) A) ([.ref (mo 0), .ref (mo 5), .ref (mo 2)] : List Value).toArray s 0 0 A) (F0 m 16 ls []) := by
        intro d2
        induction d2 with
        | zero =>
          intro m2 hm2 ls hl
          have hm : m2 = zk_n k := by omega
          subst hm
          have hsb := zq_si_b hk hf hg (show i < zk_n k by omega) (zk_n k) (Nat.le_refl _)
          refine lv_iload hx hb dX1_times_16 (lv_at hl 5 rfl) ?_
          refine lv_aload_n hx hb dX1_times_18 rfl (lv_at hl 0 rfl) ?_
          refine zx_get1 (v := .int (nI (zk_n k))) hx hb hts hown hK hP 0 rfl 2 (by decide) zf_X1_7 rfl dX1_times_19 ?_
          refine zr_ige (tgt := 73) hx hb dX1_times_22 (by decide) (by omega) (by omega) (fun _ => ?_) (fun hno9 => absurd hno9 (by omega))
          refine lv_aload_n hx hb dX1_times_73 rfl (lv_at hl 0 rfl) ?_
          refine zx_get1 (v := .ref (mo 4)) hx hb hts hown hK hP 0 rfl 7 (by decide) zf_X1_26 rfl dX1_times_74 ?_
          refine lv_iload_n hx hb dX1_times_77 rfl (lv_at hl 3 rfl) ?_
          refine lv_aload_n hx hb dX1_times_78 rfl (lv_at hl 0 rfl) ?_
          refine lv_iload hx hb dX1_times_79 (lv_at hl 4 rfl) ?_
          refine zr_i2lZ hx hb dX1_times_81 (by omega) (by omega) ?_
          refine zr_callq (zx_runV (As := [.long (zi_L (zq_si k fd fa i (zk_n k)))]) (rest := [.int (nI (i)), .ref (mo 4)]) hx hb hml hts hown (cm_of l dC dI cA tr wr mo th k F fa fb G1 fd hk (zq_si k fd fa i (zk_n k)) (zq_tm k fd fa i) (by omega) (by omega) (zq_si_tm hk _ _ _)) zv_X1_54 rfl rfl ⟨Nat.le_of_ble_eq_true rfl, Nat.le_of_ble_eq_true rfl⟩ (zr_preV (q := (RX1, TM1, 9)) (ci := 1) (q0 := 0) hP hK rfl rfl) rfl hl.1 rfl (Nat.le_of_ble_eq_true rfl) dX1_times_82 ⟨Nat.zero_le _, Nat.zero_le _⟩) ?_
          refine zr_iast (ws' := (zm_w cA mo th k (zk_n k) (zk_t k) F fa fb (zq_up G1 i (zq_tm k fd fa i)) fd ++ wr)) hx hb hK hP hD hS 4 0 rfl rfl (by omega) (by decide) dX1_times_85 rfl (fun H locs hP hD hS => ?_)
          refine zr_iinc (k := 3) (lv' := [(3, .int (nI (i + 1))), (0, .ref (mo 0)), (1, .ref (mo 5)), (2, .ref (mo 2)), (4, .int (zi_I (zq_si k fd fa i (zk_n k)))), (5, .int (nI (zk_n k)))]) hx hb dX1_times_86 hl rfl (by decide) rfl (fun ls hl => ?_)
          refine lv_goto (tgt := 2) hx hb dX1_times_89 (by decide) ?_
          refine ih (i + 1) (by omega) _ (fun j hj => ?_) H locs hP hD hS ls (lv_sub hl [1, 2, 3, 0] rfl)
          by_cases e9 : j = i
          · rw [e9, zq_up_s]
          · rw [zq_up_n _ _ e9]; exact hinv j (by omega)
        | succ d2 ih2 =>
          intro m2 hm2 ls hl
          refine lv_iload hx hb dX1_times_16 (lv_at hl 5 rfl) ?_
          refine lv_aload_n hx hb dX1_times_18 rfl (lv_at hl 0 rfl) ?_
          refine zx_get1 (v := .int (nI (zk_n k))) hx hb hts hown hK hP 0 rfl 2 (by decide) zf_X1_7 rfl dX1_times_19 ?_
          refine zr_ige (tgt := 73) hx hb dX1_times_22 (by decide) (by omega) (by omega) (fun hno9 => absurd hno9 (by omega)) (fun _ => ?_)
          refine lv_iload hx hb dX1_times_25 (lv_at hl 4 rfl) ?_
          refine lv_iload hx hb dX1_times_27 (lv_at hl 5 rfl) ?_
          refine lv_iload_n hx hb dX1_times_29 rfl (lv_at hl 3 rfl) ?_
          refine zr_igt (tgt := 47) hx hb dX1_times_30 (by decide) (by omega) (by omega) (fun hc => ?_) (fun hc => ?_)
          · refine lv_aload_n hx hb dX1_times_47 rfl (lv_at hl 1 rfl) ?_
            refine lv_iload hx hb dX1_times_48 (lv_at hl 5 rfl) ?_
            refine zr_iald (y := fd m2) hx hb hK hP 5 0 rfl rfl (by omega) (by decide) rfl dX1_times_50 ?_
            refine zr_inegN hx hb dX1_times_51 ?_
            refine lv_aload_n hx hb dX1_times_52 rfl (lv_at hl 2 rfl) ?_
            refine lv_aload_n hx hb dX1_times_53 rfl (lv_at hl 0 rfl) ?_
            refine zx_get1 (v := .int (nI (zk_n k))) hx hb hts hown hK hP 0 rfl 2 (by decide) zf_X1_7 rfl dX1_times_54 ?_
            refine lv_iload_n hx hb dX1_times_57 rfl (lv_at hl 3 rfl) ?_
            refine zr_iadd hx hb dX1_times_58 ?_
            refine lv_iload hx hb dX1_times_59 (lv_at hl 5 rfl) ?_
            refine zr_isub hx hb dX1_times_61 (by omega) ?_
            refine zr_iald (y := fa (((zk_n k) + i) - m2)) hx hb hK hP 2 0 rfl rfl (by omega) (by decide) rfl dX1_times_62 ?_
            refine zr_imulZN hx hb dX1_times_63 ?_
            refine zr_iaddZZ hx hb dX1_times_64 ?_
            refine lv_istore (lv' := [(4, .int (zi_I ((zq_si k fd fa i m2) + ((-((fd m2 : Nat) : Int)) * ((fa (((zk_n k) + i) - m2) : Nat) : Int))))), (0, .ref (mo 0)), (1, .ref (mo 5)), (2, .ref (mo 2)), (3, .int (nI (i))), (5, .int (nI (m2)))]) hx hb dX1_times_65 hl (by decide) rfl (fun ls hl => ?_)
            refine zr_iinc (k := 5) (lv' := [(5, .int (nI (m2 + 1))), (4, .int (zi_I ((zq_si k fd fa i m2) + ((-((fd m2 : Nat) : Int)) * ((fa (((zk_n k) + i) - m2) : Nat) : Int))))), (0, .ref (mo 0)), (1, .ref (mo 5)), (2, .ref (mo 2)), (3, .int (nI (i)))]) hx hb dX1_times_67 hl rfl (by decide) rfl (fun ls hl => ?_)
            refine lv_goto (tgt := 16) hx hb dX1_times_70 (by decide) ?_
            exact ih2 (m2 + 1) (by omega) ls (by rw [zq_si_2 (by omega)]; exact (lv_sub hl [2, 3, 4, 5, 1, 0] rfl))
          · refine lv_aload_n hx hb dX1_times_33 rfl (lv_at hl 1 rfl) ?_
            refine lv_iload hx hb dX1_times_34 (lv_at hl 5 rfl) ?_
            refine zr_iald (y := fd m2) hx hb hK hP 5 0 rfl rfl (by omega) (by decide) rfl dX1_times_36 ?_
            refine lv_aload_n hx hb dX1_times_37 rfl (lv_at hl 2 rfl) ?_
            refine lv_iload_n hx hb dX1_times_38 rfl (lv_at hl 3 rfl) ?_
            refine lv_iload hx hb dX1_times_39 (lv_at hl 5 rfl) ?_
            refine zr_isub hx hb dX1_times_41 (by omega) ?_
            refine zr_iald (y := fa (i - m2)) hx hb hK hP 2 0 rfl rfl (by omega) (by decide) rfl dX1_times_42 ?_
            refine zr_imul hx hb dX1_times_43 ?_
            refine lv_goto (tgt := 64) hx hb dX1_times_44 (by decide) ?_
            refine zr_iaddZN hx hb dX1_times_64 ?_
            refine lv_istore (lv' := [(4, .int (zi_I ((zq_si k fd fa i m2) + (((fd m2) * (fa (i - m2)) : Nat) : Int)))), (0, .ref (mo 0)), (1, .ref (mo 5)), (2, .ref (mo 2)), (3, .int (nI (i))), (5, .int (nI (m2)))]) hx hb dX1_times_65 hl (by decide) rfl (fun ls hl => ?_)
            refine zr_iinc (k := 5) (lv' := [(5, .int (nI (m2 + 1))), (4, .int (zi_I ((zq_si k fd fa i m2) + (((fd m2) * (fa (i - m2)) : Nat) : Int)))), (0, .ref (mo 0)), (1, .ref (mo 5)), (2, .ref (mo 2)), (3, .int (nI (i)))]) hx hb dX1_times_67 hl rfl (by decide) rfl (fun ls hl => ?_)
            refine lv_goto (tgt := 16) hx hb dX1_times_70 (by decide) ?_
            exact ih2 (m2 + 1) (by omega) ls (by rw [zq_si_1 (by omega)]; exact (lv_sub hl [2, 3, 4, 5, 1, 0] rfl))
      exact inner (zk_n k) 0 (by omega) ls (by rw [show zi_I (zq_si k fd fa i 0) = nI 0 from (zi_nI 0).symm]; exact (lv_sub hl [2, 3, 4, 5, 1, 0] rfl))
  exact loop (zk_n k) 0 (by omega) fc (fun j hj => absurd hj (Nat.not_lt_zero _)) s.heap [] hP hD hS ls (lv_sub hl [1, 2, 3, 0] rfl)
set_option maxHeartbeats 4000000 in
set_option maxRecDepth 100000 in
/-- times(f, g) -/
theorem cm_times53 (l : Launch) (dC : Nat → ClassId) (dI : Nat → Nat → Nat) (cA : ClassId) (tr : List (ClassId × FieldType)) (wr : va_W) (mo : Nat → Nat) (th k : Nat) (F fa fb fc fd : Nat → Nat) (hk : k < 4) (sz : Nat) (hf : ∀ j, j < zk_n k → fd j < zk_t k) (hg : ∀ j, j < zk_n k → fb j < zk_t k) : Met l yX1_times wzX1_times (k2_rm 1 23) (zw_pre (dC, dI) zz_cl ((cA, .int) :: tr) (zm_w cA mo th k (zk_n k) (zk_t k) F fa fb fc fd ++ wr) sz [.ref (mo 0), .ref (mo 5), .ref (mo 3)]) (va_Qv (fun u : Nat → Nat => ∀ j, j < zk_n k → u j = zq_tm k fd fb j) (zw_at (dC, dI) zz_cl ((cA, .int) :: tr) (va_A (zm_w cA mo th k (zk_n k) (zk_t k) F fa fb fc fd ++ wr) sz) (fun u : Nat → Nat => zm_w cA mo th k (zk_n k) (zk_t k) F fa fb u fd ++ wr)) (va_A (zm_w cA mo th k (zk_n k) (zk_t k) F fa fb fc fd ++ wr) sz)) 0 0 (va_A (zm_w cA mo th k (zk_n k) (zk_t k) F fa fb fc fd ++ wr) sz) := by
  refine Met.ofW (cc := cX1_times) (maxL := 6) (ret := none) (by decide) rfl ?_
  intro p e s m args below meth c s₁ B hml hv
  obtain ⟨rfl, hsz, hP, hK, hD0⟩ := hv
  have hx := B.exec
  have hb := B.bytes
  have hr := B.returns
  have hts := atoms_spec (ws := wzX1_times) B.pre
  have hown : s.vm.findClass RX1 = some m.cls := findClass_of_methodNamed B.named
  have hlocks := B.notSynchronized
  subst hsz
  have hD := hD0.self (sz := s.heap.size)
  generalize hAe : va_A (zm_w cA mo th k (zk_n k) (zk_t k) F fa fb fc fd ++ wr) s.heap.size = A at hD ⊢
  have hA : ∀ q : Nat, s.heap.size ≤ q → A q := fun q h => by rw [← hAe]; exact Or.inr h
  have hS : va_S A s.heap s.heap [] := va_S.rf
  have hl := lv_entry ([.ref (mo 0), .ref (mo 5), .ref (mo 3)]) (n := 6) (Nat.le_of_ble_eq_true rfl)
  rw [lg_entry_eq]
  generalize (lg_sl ([.ref (mo 0), .ref (mo 5), .ref (mo 3)]) ++ List.replicate (6 - (lg_sl ([.ref (mo 0), .ref (mo 5), .ref (mo 3)])).length) Slot.unset).toArray = ls at hl ⊢
  have hl : lv_has ls 6 [(0, .ref (mo 0)), (1, .ref (mo 5)), (2, .ref (mo 3))] := hl
  obtain ⟨hb1, hb2, hb3, hb4, hb5, hb6, hb7, hb8⟩ := zk_b k hk
  refine lv_iconst (v := nI 0) hx hb dX1_times_0 (by decide) ?_
  refine lv_istore_n (lv' := [(3, .int (nI (0))), (0, .ref (mo 0)), (1, .ref (mo 5)), (2, .ref (mo 3))]) hx hb dX1_times_1 rfl hl (by decide) rfl (fun ls hl => ?_)
  have loop : ∀ (d i : Nat), i + d = zk_n k → ∀ (G1 : Nat → Nat), (∀ j, j < i → G1 j = zq_tm k fd fb j) → ∀ (H : Heap) (locs : List Loc), va_P (dC, dI) zz_cl (zm_w cA mo th k (zk_n k) (zk_t k) F fa fb G1 fd ++ wr) H → va_D A (zm_w cA mo th k (zk_n k) (zk_t k) F fa fb G1 fd ++ wr) → va_S A s.heap H locs → ∀ ls, lv_has ls 6 [(0, .ref (mo 0)), (1, .ref (mo 5)), (2, .ref (mo 3)), (3, .int (nI (i)))] → W p l e (headSpec wzX1_times (k2_rm 1 23)).room s m ([.ref (mo 0), .ref (mo 5), .ref (mo 3)] : List Value).toArray below meth c H locs 0 0 (MQ below (va_Qv (fun u : Nat → Nat => ∀ j, j < zk_n k → u j = zq_tm k fd fb j) (zw_at (dC, dI) zz_cl ((cA, .int) :: tr) A (fun u : Nat → Nat => zm_w cA mo th k (zk_n k) (zk_t k) F fa fb u fd ++ wr)) A) ([.ref (mo 0), .ref (mo 5), .ref (mo 3)] : List Value).toArray s 0 0 A) (F0 m 2 ls []) := by
    intro d
    induction d with
    | zero =>
      intro i hi G1 hinv H locs hP hD hS ls hl
      have hi : i = zk_n k := by omega
      rw [hi] at hinv
      refine lv_iload_n hx hb dX1_times_2 rfl (lv_at hl 3 rfl) ?_
      refine lv_aload_n hx hb dX1_times_3 rfl (lv_at hl 0 rfl) ?_
      refine zx_get1 (v := .int (nI (zk_n k))) hx hb hts hown hK hP 0 rfl 2 (by decide) zf_X1_7 rfl dX1_times_4 ?_
      refine zr_ige (tgt := 92) hx hb dX1_times_7 (by decide) (by omega) (by omega) (fun _ => ?_) (fun hno9 => absurd hno9 (by omega))
      exact W.vret hx hb hr (fun t9 h9 hW9 => ⟨⟨G1, rfl, hinv, by rw [h9]; exact hP, va_K.moved hW9.alike hK, hD⟩, hS.F h9⟩) hS.2.2 dX1_times_92
    | succ d ih =>
      intro i hi G1 hinv H locs hP hD hS ls hl
      refine lv_iload_n hx hb dX1_times_2 rfl (lv_at hl 3 rfl) ?_
      refine lv_aload_n hx hb dX1_times_3 rfl (lv_at hl 0 rfl) ?_
      refine zx_get1 (v := .int (nI (zk_n k))) hx hb hts hown hK hP 0 rfl 2 (by decide) zf_X1_7 rfl dX1_times_4 ?_
      refine zr_ige (tgt := 92) hx hb dX1_times_7 (by decide) (by omega) (by omega) (fun hno9 => absurd hno9 (by omega)) (fun _ => ?_)
      refine lv_iconst (v := nI 0) hx hb dX1_times_10 (by decide) ?_
      refine lv_istore (lv' := [(4, .int (nI (0))), (0, .ref (mo 0)), (1, .ref (mo 5)), (2, .ref (mo 3)), (3, .int (nI (i)))]) hx hb dX1_times_11 hl (by decide) rfl (fun ls hl => ?_)
      refine lv_iconst (v := nI 0) hx hb dX1_times_13 (by decide) ?_
      refine lv_istore (lv' := [(5, .int (nI (0))), (4, .int (nI (0))), (0, .ref (mo 0)), (1, .ref (mo 5)), (2, .ref (mo 3)), (3, .int (nI (i)))]) hx hb dX1_times_14 hl (by decide) rfl (fun ls hl => ?_)
      have inner : ∀ (d2 m2 : Nat), m2 + d2 = zk_n k → ∀ ls, lv_has ls 6 [(0, .ref (mo 0)), (1, .ref (mo 5)), (2, .ref (mo 3)), (3, .int (nI (i))), (4, .int (zi_I (zq_si k fd fb i m2))), (5, .int (nI (m2)))] → W p l e (headSpec wzX1_times (k2_rm 1 23)).room s m ([.ref (mo 0), .ref (mo 5), .ref (mo 3)] : List Value).toArray below meth c H locs 0 0 (MQ below (va_Qv (fun u : Nat → Nat => ∀ j, j < zk_n k → u j = zq_tm k fd fb j) (zw_at (dC, dI) zz_cl ((cA, .int) :: tr) A (fun u : Nat → Nat => zm_w cA mo th k (zk_n k) (zk_t k) F fa fb u fd ++ wr)) A) ([.ref (mo 0), .ref (mo 5), .ref (mo 3)] : List Value).toArray s 0 0 A) (F0 m 16 ls []) := by
        intro d2
        induction d2 with
        | zero =>
          intro m2 hm2 ls hl
          have hm : m2 = zk_n k := by omega
          subst hm
          have hsb := zq_si_b hk hf hg (show i < zk_n k by omega) (zk_n k) (Nat.le_refl _)
          refine lv_iload hx hb dX1_times_16 (lv_at hl 5 rfl) ?_
          refine lv_aload_n hx hb dX1_times_18 rfl (lv_at hl 0 rfl) ?_
          refine zx_get1 (v := .int (nI (zk_n k))) hx hb hts hown hK hP 0 rfl 2 (by decide) zf_X1_7 rfl dX1_times_19 ?_
          refine zr_ige (tgt := 73) hx hb dX1_times_22 (by decide) (by omega) (by omega) (fun _ => ?_) (fun hno9 => absurd hno9 (by omega))
          refine lv_aload_n hx hb dX1_times_73 rfl (lv_at hl 0 rfl) ?_
          refine zx_get1 (v := .ref (mo 4)) hx hb hts hown hK hP 0 rfl 7 (by decide) zf_X1_26 rfl dX1_times_74 ?_
          refine lv_iload_n hx hb dX1_times_77 rfl (lv_at hl 3 rfl) ?_
          refine lv_aload_n hx hb dX1_times_78 rfl (lv_at hl 0 rfl) ?_
          refine lv_iload hx hb dX1_times_79 (lv_at hl 4 rfl) ?_
          refine zr_i2lZ hx hb dX1_times_81 (by omega) (by omega) ?_
          refine zr_callq (zx_runV (As := [.long (zi_L (zq_si k fd fb i (zk_n k)))]) (rest := [.int (nI (i)), .ref (mo 4)]) hx hb hml hts hown (cm_of l dC dI cA tr wr mo th k F fa fb G1 fd hk (zq_si k fd fb i (zk_n k)) (zq_tm k fd fb i) (by omega) (by omega) (zq_si_tm hk _ _ _)) zv_X1_54 rfl rfl ⟨Nat.le_of_ble_eq_true rfl, Nat.le_of_ble_eq_true rfl⟩ (zr_preV (q := (RX1, TM1, 9)) (ci := 1) (q0 := 0) hP hK rfl rfl) rfl hl.1 rfl (Nat.le_of_ble_eq_true rfl) dX1_times_82 ⟨Nat.zero_le _, Nat.zero_le _⟩) ?_
          refine zr_iast (ws' := (zm_w cA mo th k (zk_n k) (zk_t k) F fa fb (zq_up G1 i (zq_tm k fd fb i)) fd ++ wr)) hx hb hK hP hD hS 4 0 rfl rfl (by omega) (by decide) dX1_times_85 rfl (fun H locs hP hD hS => ?_)
          refine zr_iinc (k := 3) (lv' := [(3, .int (nI (i + 1))), (0, .ref (mo 0)), (1, .ref (mo 5)), (2, .ref (mo 3)), (4, .int (zi_I (zq_si k fd fb i (zk_n k)))), (5, .int (nI (zk_n k)))]) hx hb dX1_times_86 hl rfl (by decide) rfl (fun ls hl => ?_)
          refine lv_goto (tgt := 2) hx hb dX1_times_89 (by decide) ?_
          refine ih (i + 1) (by omega) _ (fun j hj => ?_) H locs hP hD hS ls (lv_sub hl [1, 2, 3, 0] rfl)
          by_cases e9 : j = i
          · rw [e9, zq_up_s]
          · rw [zq_up_n _ _ e9]; exact hinv j (by omega)
        | succ d2 ih2 =>
          intro m2 hm2 ls hl
          refine lv_iload hx hb dX1_times_16 (lv_at hl 5 rfl) ?_
          refine lv_aload_n hx hb dX1_times_18 rfl (lv_at hl 0 rfl) ?_
          refine zx_get1 (v := .int (nI (zk_n k))) hx hb hts hown hK hP 0 rfl 2 (by decide) zf_X1_7 rfl dX1_times_19 ?_
          refine zr_ige (tgt := 73) hx hb dX1_times_22 (by decide) (by omega) (by omega) (fun hno9 => absurd hno9 (by omega)) (fun _ => ?_)
          refine lv_iload hx hb dX1_times_25 (lv_at hl 4 rfl) ?_
          refine lv_iload hx hb dX1_times_27 (lv_at hl 5 rfl) ?_
          refine lv_iload_n hx hb dX1_times_29 rfl (lv_at hl 3 rfl) ?_
          refine zr_igt (tgt := 47) hx hb dX1_times_30 (by decide) (by omega) (by omega) (fun hc => ?_) (fun hc => ?_)
          · refine lv_aload_n hx hb dX1_times_47 rfl (lv_at hl 1 rfl) ?_
            refine lv_iload hx hb dX1_times_48 (lv_at hl 5 rfl) ?_
            refine zr_iald (y := fd m2) hx hb hK hP 5 0 rfl rfl (by omega) (by decide) rfl dX1_times_50 ?_
            refine zr_inegN hx hb dX1_times_51 ?_
            refine lv_aload_n hx hb dX1_times_52 rfl (lv_at hl 2 rfl) ?_
            refine lv_aload_n hx hb dX1_times_53 rfl (lv_at hl 0 rfl) ?_
            refine zx_get1 (v := .int (nI (zk_n k))) hx hb hts hown hK hP 0 rfl 2 (by decide) zf_X1_7 rfl dX1_times_54 ?_
            refine lv_iload_n hx hb dX1_times_57 rfl (lv_at hl 3 rfl) ?_
            refine zr_iadd hx hb dX1_times_58 ?_
            refine lv_iload hx hb dX1_times_59 (lv_at hl 5 rfl) ?_
            refine zr_isub hx hb dX1_times_61 (by omega) ?_
            refine zr_iald (y := fb (((zk_n k) + i) - m2)) hx hb hK hP 3 0 rfl rfl (by omega) (by decide) rfl dX1_times_62 ?_
            refine zr_imulZN hx hb dX1_times_63 ?_
            refine zr_iaddZZ hx hb dX1_times_64 ?_
            refine lv_istore (lv' := [(4, .int (zi_I ((zq_si k fd fb i m2) + ((-((fd m2 : Nat) : Int)) * ((fb (((zk_n k) + i) - m2) : Nat) : Int))))), (0, .ref (mo 0)), (1, .ref (mo 5)), (2, .ref (mo 3)), (3, .int (nI (i))), (5, .int (nI (m2)))]) hx hb dX1_times_65 hl (by decide) rfl (fun ls hl => ?_)
            refine zr_iinc (k := 5) (lv' := [(5, .int (nI (m2 + 1))), (4, .int (zi_I ((zq_si k fd fb i m2) + ((-((fd m2 : Nat) : Int)) * ((fb (((zk_n k) + i) - m2) : Nat) : Int))))), (0, .ref (mo 0)), (1, .ref (mo 5)), (2, .ref (mo 3)), (3, .int (nI (i)))]) hx hb dX1_times_67 hl rfl (by decide) rfl (fun ls hl => ?_)
            refine lv_goto (tgt := 16) hx hb dX1_times_70 (by decide) ?_
            exact ih2 (m2 + 1) (by omega) ls (by rw [zq_si_2 (by omega)]; exact (lv_sub hl [2, 3, 4, 5, 1, 0] rfl))
          · refine lv_aload_n hx hb dX1_times_33 rfl (lv_at hl 1 rfl) ?_
            refine lv_iload hx hb dX1_times_34 (lv_at hl 5 rfl) ?_
            refine zr_iald (y := fd m2) hx hb hK hP 5 0 rfl rfl (by omega) (by decide) rfl dX1_times_36 ?_
            refine lv_aload_n hx hb dX1_times_37 rfl (lv_at hl 2 rfl) ?_
            refine lv_iload_n hx hb dX1_times_38 rfl (lv_at hl 3 rfl) ?_
            refine lv_iload hx hb dX1_times_39 (lv_at hl 5 rfl) ?_
            refine zr_isub hx hb dX1_times_41 (by omega) ?_
            refine zr_iald (y := fb (i - m2)) hx hb hK hP 3 0 rfl rfl (by omega) (by decide) rfl dX1_times_42 ?_
            refine zr_imul hx hb dX1_times_43 ?_
            refine lv_goto (tgt := 64) hx hb dX1_times_44 (by decide) ?_
            refine zr_iaddZN hx hb dX1_times_64 ?_
            refine lv_istore (lv' := [(4, .int (zi_I ((zq_si k fd fb i m2) + (((fd m2) * (fb (i - m2)) : Nat) : Int)))), (0, .ref (mo 0)), (1, .ref (mo 5)), (2, .ref (mo 3)), (3, .int (nI (i))), (5, .int (nI (m2)))]) hx hb dX1_times_65 hl (by decide) rfl (fun ls hl => ?_)
            refine zr_iinc (k := 5) (lv' := [(5, .int (nI (m2 + 1))), (4, .int (zi_I ((zq_si k fd fb i m2) + (((fd m2) * (fb (i - m2)) : Nat) : Int)))), (0, .ref (mo 0)), (1, .ref (mo 5)), (2, .ref (mo 3)), (3, .int (nI (i)))]) hx hb dX1_times_67 hl rfl (by decide) rfl (fun ls hl => ?_)
            refine lv_goto (tgt := 16) hx hb dX1_times_70 (by decide) ?_
            exact ih2 (m2 + 1) (by omega) ls (by rw [zq_si_1 (by omega)]; exact (lv_sub hl [2, 3, 4, 5, 1, 0] rfl))
      exact inner (zk_n k) 0 (by omega) ls (by rw [show zi_I (zq_si k fd fb i 0) = nI 0 from (zi_nI 0).symm]; exact (lv_sub hl [2, 3, 4, 5, 1, 0] rfl))
  exact loop (zk_n k) 0 (by omega) fc (fun j hj => absurd hj (Nat.not_lt_zero _)) s.heap [] hP hD hS ls (lv_sub hl [1, 2, 3, 0] rfl)
set_option maxHeartbeats 4000000 in
set_option maxRecDepth 100000 in
/-- times(f, g) -/
theorem cm_times22 (l : Launch) (dC : Nat → ClassId) (dI : Nat → Nat → Nat) (cA : ClassId) (tr : List (ClassId × FieldType)) (wr : va_W) (mo : Nat → Nat) (th k : Nat) (F fa fb fc fd : Nat → Nat) (hk : k < 4) (sz : Nat) (hf : ∀ j, j < zk_n k → fa j < zk_t k) (hg : ∀ j, j < zk_n k → fa j < zk_t k) : Met l yX1_times wzX1_times (k2_rm 1 23) (zw_pre (dC, dI) zz_cl ((cA, .int) :: tr) (zm_w cA mo th k (zk_n k) (zk_t k) F fa fb fc fd ++ wr) sz [.ref (mo 0), .ref (mo 2), .ref (mo 2)]) (va_Qv (fun u : Nat → Nat => ∀ j, j < zk_n k → u j = zq_tm k fa fa j) (zw_at (dC, dI) zz_cl ((cA, .int) :: tr) (va_A (zm_w cA mo th k (zk_n k) (zk_t k) F fa fb fc fd ++ wr) sz) (fun u : Nat → Nat => zm_w cA mo th k (zk_n k) (zk_t k) F fa fb u fd ++ wr)) (va_A (zm_w cA mo th k (zk_n k) (zk_t k) F fa fb fc fd ++ wr) sz)) 0 0 (va_A (zm_w cA mo th k (zk_n k) (zk_t k) F fa fb fc fd ++ wr) sz) := by
  refine Met.ofW (cc := cX1_times) (maxL := 6) (ret := none) (by decide) rfl ?_
  intro p e s m args below meth c s₁ B hml hv
  obtain ⟨rfl, hsz, hP, hK, hD0⟩ := hv
  have hx := B.exec
  have hb := B.bytes
  have hr := B.returns
  have hts := atoms_spec (ws := wzX1_times) B.pre
  have hown : s.vm.findClass RX1 = some m.cls := findClass_of_methodNamed B.named
  have hlocks := B.notSynchronized
  subst hsz
  have hD := hD0.self (sz := s.heap.size)
  generalize hAe : va_A (zm_w cA mo th k (zk_n k) (zk_t k) F fa fb fc fd ++ wr) s.heap.size = A at hD ⊢
  have hA : ∀ q : Nat, s.heap.size ≤ q → A q := fun q h => by rw [← hAe]; exact Or.inr h
  have hS : va_S A s.heap s.heap [] := va_S.rf
  have hl := lv_entry ([.ref (mo 0), .ref (mo 2), .ref (mo 2)]) (n := 6) (Nat.le_of_ble_eq_true rfl)
  rw [lg_entry_eq]
  generalize (lg_sl ([.ref (mo 0), .ref (mo 2), .ref (mo 2)]) ++ List.replicate (6 - (lg_sl ([.ref (mo 0), .ref (mo 2), .ref (mo 2)])).length) Slot.unset).toArray = ls at hl ⊢
  have hl : lv_has ls 6 [(0, .ref (mo 0)), (1, .ref (mo 2)), (2, .ref (mo 2))] := hl
  obtain ⟨hb1, hb2, hb3, hb4, hb5, hb6, hb7, hb8⟩ := zk_b k hk
  refine lv_iconst (v := nI 0) hx hb dX1_times_0 (by decide) ?_
  refine lv_istore_n (lv' := [(3, .int (nI (0))), (0, .ref (mo 0)), (1, .ref (mo 2)), (2, .ref (mo 2))]) hx hb dX1_times_1 rfl hl (by decide) rfl (fun ls hl => ?_)
  have loop : ∀ (d i : Nat), i + d = zk_n k → ∀ (G1 : Nat → Nat), (∀ j, j < i → G1 j = zq_tm k fa fa j) → ∀ (H : Heap) (locs : List Loc), va_P (dC, dI) zz_cl (zm_w cA mo th k (zk_n k) (zk_t k) F fa fb G1 fd ++ wr) H → va_D A (zm_w cA mo th k (zk_n k) (zk_t k) F fa fb G1 fd ++ wr) → va_S A s.heap H locs → ∀ ls, lv_has ls 6 [(0, .ref (mo 0)), (1, .ref (mo 2)), (2, .ref (mo 2)), (3, .int (nI (i)))] → W p l e (headSpec wzX1_times (k2_rm 1 23)).room s m ([.ref (mo 0), .ref (mo 2), .ref (mo 2)] : List Value).toArray below meth c H locs 0 0 (MQ below (va_Qv (fun u : Nat → Nat => ∀ j, j < zk_n k → u j = zq_tm k fa fa j) (zw_at (dC, dI) zz_cl ((cA, .int) :: tr) A (fun u : Nat → Nat => zm_w cA mo th k (zk_n k) (zk_t k) F fa fb u fd ++ wr)) A) ([.ref (mo 0), .ref (mo 2), .ref (mo 2)] : List Value).toArray s 0 0 A) (F0 m 2 ls []) := by
    intro d
    induction d with
    | zero =>
      intro i hi G1 hinv H locs hP hD hS ls hl
      have hi : i = zk_n k := by omega
      rw [hi] at hinv
      refine lv_iload_n hx hb dX1_times_2 rfl (lv_at hl 3 rfl) ?_
      refine lv_aload_n hx hb dX1_times_3 rfl (lv_at hl 0 rfl) ?_
      refine zx_get1 (v := .int (nI (zk_n k))) hx hb hts hown hK hP 0 rfl 2 (by decide) zf_X1_7 rfl dX1_times_4 ?_
      refine zr_ige (tgt := 92) hx hb dX1_times_7 (by decide) (by omega) (by omega) (fun _ => ?_) (fun hno9 => absurd hno9 (by omega))
      exact W.vret hx hb hr (fun t9 h9 hW9 => ⟨⟨G1, rfl, hinv, by rw [h9]; exact hP, va_K.moved hW9.alike hK, hD⟩, hS.F h9⟩) hS.2.2 dX1_times_92
    | succ d ih =>
      intro i hi G1 hinv H locs hP hD hS ls hl
      refine lv_iload_n hx hb dX1_times_2 rfl (lv_at hl 3 rfl) ?_
      refine lv_aload_n hx hb dX1_times_3 rfl (lv_at hl 0 rfl) ?_
      refine zx_get1 (v := .int (nI (zk_n k))) hx hb hts hown hK hP 0 rfl 2 (by decide) zf_X1_7 rfl dX1_times_4 ?_
      refine zr_ige (tgt := 92) hx hb dX1_times_7 (by decide) (by omega) (by omega) (fun hno9 => absurd hno9 (by omega)) (fun _ => ?_)
      refine lv_iconst (v := nI 0) hx hb dX1_times_10 (by decide) ?_
      refine lv_istore (lv' := [(4, .int (nI (0))), (0, .ref (mo 0)), (1, .ref (mo 2)), (2, .ref (mo 2)), (3, .int (nI (i)))]) hx hb dX1_times_11 hl (by decide) rfl (fun ls hl => ?_)
      refine lv_iconst (v := nI 0) hx hb dX1_times_13 (by decide) ?_
      refine lv_istore (lv' := [(5, .int (nI (0))), (4, .int (nI (0))), (0, .ref (mo 0)), (1, .ref (mo 2)), (2, .ref (mo 2)), (3, .int (nI (i)))]) hx hb dX1_times_14 hl (by decide) rfl (fun ls hl => ?_)
      have inner : ∀ (d2 m2 : Nat), m2 + d2 = zk_n k → ∀ ls, lv_has ls 6 [(0, .ref (mo 0)), (1, .ref (mo 2)), (2, .ref (mo 2)), (3, .int (nI (i))), (4, .int (zi_I (zq_si k fa fa i m2))), (5, .int (nI (m2)))] → W p l e (headSpec wzX1_times (k2_rm 1 23)).room s m ([.ref (mo 0), .ref (mo 2), .ref (mo 2)] : List Value).toArray below meth c H locs 0 0 (MQ below (va_Qv (fun u : Nat → Nat => ∀ j, j < zk_n k → u j = zq_tm k fa fa j) (zw_at (dC, dI) zz_cl ((cA, .int) :: tr) A (fun u : Nat → Nat => zm_w cA mo th k (zk_n k) (zk_t k) F fa fb u fd ++ wr)) A) ([.ref (mo 0), .ref (mo 2), .ref (mo 2)] : List Value).toArray s 0 0 A) (F0 m 16 ls []) := by
        intro d2
        induction d2 with
        | zero =>
          intro m2 hm2 ls hl
          have hm : m2 = zk_n k := by omega
          subst hm
          have hsb := zq_si_b hk hf hg (show i < zk_n k by omega) (zk_n k) (Nat.le_refl _)
          refine lv_iload hx hb dX1_times_16 (lv_at hl 5 rfl) ?_
          refine lv_aload_n hx hb dX1_times_18 rfl (lv_at hl 0 rfl) ?_
          refine zx_get1 (v := .int (nI (zk_n k))) hx hb hts hown hK hP 0 rfl 2 (by decide) zf_X1_7 rfl dX1_times_19 ?_
          refine zr_ige (tgt := 73) hx hb dX1_times_22 (by decide) (by omega) (by omega) (fun _ => ?_) (fun hno9 => absurd hno9 (by omega))
          refine lv_aload_n hx hb dX1_times_73 rfl (lv_at hl 0 rfl) ?_
          refine zx_get1 (v := .ref (mo 4)) hx hb hts hown hK hP 0 rfl 7 (by decide) zf_X1_26 rfl dX1_times_74 ?_
          refine lv_iload_n hx hb dX1_times_77 rfl (lv_at hl 3 rfl) ?_
          refine lv_aload_n hx hb dX1_times_78 rfl (lv_at hl 0 rfl) ?_
          refine lv_iload hx hb dX1_times_79 (lv_at hl 4 rfl) ?_
          refine zr_i2lZ hx hb dX1_times_81 (by omega) (by omega) ?_
          refine zr_callq (zx_runV (As := [.long (zi_L (zq_si k fa fa i (zk_n k)))]) (rest := [.int (nI (i)), .ref (mo 4)]) hx hb hml hts hown (cm_of l dC dI cA tr wr mo th k F fa fb G1 fd hk (zq_si k fa fa i (zk_n k)) (zq_tm k fa fa i) (by omega) (by omega) (zq_si_tm hk _ _ _)) zv_X1_54 rfl rfl ⟨Nat.le_of_ble_eq_true rfl, Nat.le_of_ble_eq_true rfl⟩ (zr_preV (q := (RX1, TM1, 9)) (ci := 1) (q0 := 0) hP hK rfl rfl) rfl hl.1 rfl (Nat.le_of_ble_eq_true rfl) dX1_times_82 ⟨Nat.zero_le _, Nat.zero_le _⟩) ?_
          refine zr_iast (ws' := (zm_w cA mo th k (zk_n k) (zk_t k) F fa fb (zq_up G1 i (zq_tm k fa fa i)) fd ++ wr)) hx hb hK hP hD hS 4 0 rfl rfl (by omega) (by decide) dX1_times_85 rfl (fun H locs hP hD hS => ?_)
          refine zr_iinc (k := 3) (lv' := [(3, .int (nI (i + 1))), (0, .ref (mo 0)), (1, .ref (mo 2)), (2, .ref (mo 2)), (4, .int (zi_I (zq_si k fa fa i (zk_n k)))), (5, .int (nI (zk_n k)))]) hx hb dX1_times_86 hl rfl (by decide) rfl (fun ls hl => ?_)
          refine lv_goto (tgt := 2) hx hb dX1_times_89 (by decide) ?_
          refine ih (i + 1) (by omega) _ (fun j hj => ?_) H locs hP hD hS ls (lv_sub hl [1, 2, 3, 0] rfl)
          by_cases e9 : j = i
          · rw [e9, zq_up_s]
          · rw [zq_up_n _ _ e9]; exact hinv j (by omega)
        | succ d2 ih2 =>
          intro m2 hm2 ls hl
          refine lv_iload hx hb dX1_times_16 (lv_at hl 5 rfl) ?_
          refine lv_aload_n hx hb dX1_times_18 rfl (lv_at hl 0 rfl) ?_
          refine zx_get1 (v := .int (nI (zk_n k))) hx hb hts hown hK hP 0 rfl 2 (by decide) zf_X1_7 rfl dX1_times_19 ?_
          refine zr_ige (tgt := 73) hx hb dX1_times_22 (by decide) (by omega) (by omega) (fun hno9 => absurd hno9 (by omega)) (fun _ => ?_)
          refine lv_iload hx hb dX1_times_25 (lv_at hl 4 rfl) ?_
          refine lv_iload hx hb dX1_times_27 (lv_at hl 5 rfl) ?_
          refine lv_iload_n hx hb dX1_times_29 rfl (lv_at hl 3 rfl) ?_
          refine zr_igt (tgt := 47) hx hb dX1_times_30 (by decide) (by omega) (by omega) (fun hc => ?_) (fun hc => ?_)
          · refine lv_aload_n hx hb dX1_times_47 rfl (lv_at hl 1 rfl) ?_
            refine lv_iload hx hb dX1_times_48 (lv_at hl 5 rfl) ?_
            refine zr_iald (y := fa m2) hx hb hK hP 2 0 rfl rfl (by omega) (by decide) rfl dX1_times_50 ?_
            refine zr_inegN hx hb dX1_times_51 ?_
            refine lv_aload_n hx hb dX1_times_52 rfl (lv_at hl 2 rfl) ?_
            refine lv_aload_n hx hb dX1_times_53 rfl (lv_at hl 0 rfl) ?_
            refine zx_get1 (v := .int (nI (zk_n k))) hx hb hts hown hK hP 0 rfl 2 (by decide) zf_X1_7 rfl dX1_times_54 ?_
            refine lv_iload_n hx hb dX1_times_57 rfl (lv_at hl 3 rfl) ?_
            refine zr_iadd hx hb dX1_times_58 ?_
            refine lv_iload hx hb dX1_times_59 (lv_at hl 5 rfl) ?_
            refine zr_isub hx hb dX1_times_61 (by omega) ?_
            refine zr_iald (y := fa (((zk_n k) + i) - m2)) hx hb hK hP 2 0 rfl rfl (by omega) (by decide) rfl dX1_times_62 ?_
            refine zr_imulZN hx hb dX1_times_63 ?_
            refine zr_iaddZZ hx hb dX1_times_64 ?_
            refine lv_istore (lv' := [(4, .int (zi_I ((zq_si k fa fa i m2) + ((-((fa m2 : Nat) : Int)) * ((fa (((zk_n k) + i) - m2) : Nat) : Int))))), (0, .ref (mo 0)), (1, .ref (mo 2)), (2, .ref (mo 2)), (3, .int (nI (i))), (5, .int (nI (m2)))]) hx hb dX1_times_65 hl (by decide) rfl (fun ls hl => ?_)
            refine zr_iinc (k := 5) (lv' := [(5, .int (nI (m2 + 1))), (4, .int (zi_I ((zq_si k fa fa i m2) + ((-((fa m2 : Nat) : Int)) * ((fa (((zk_n k) + i) - m2) : Nat) : Int))))), (0, .ref (mo 0)), (1, .ref (mo 2)), (2, .ref (mo 2)), (3, .int (nI (i)))]) hx hb dX1_times_67 hl rfl (by decide) rfl (fun ls hl => ?_)
            refine lv_goto (tgt := 16) hx hb dX1_times_70 (by decide) ?_
            exact ih2 (m2 + 1) (by omega) ls (by rw [zq_si_2 (by omega)]; exact (lv_sub hl [2, 3, 4, 5, 1, 0] rfl))
          · refine lv_aload_n hx hb dX1_times_33 rfl (lv_at hl 1 rfl) ?_
            refine lv_iload hx hb dX1_times_34 (lv_at hl 5 rfl) ?_
            refine zr_iald (y := fa m2) hx hb hK hP 2 0 rfl rfl (by omega) (by decide) rfl dX1_times_36 ?_
            refine lv_aload_n hx hb dX1_times_37 rfl (lv_at hl 2 rfl) ?_
            refine lv_iload_n hx hb dX1_times_38 rfl (lv_at hl 3 rfl) ?_
            refine lv_iload hx hb dX1_times_39 (lv_at hl 5 rfl) ?_
            refine zr_isub hx hb dX1_times_41 (by omega) ?_
            refine zr_iald (y := fa (i - m2)) hx hb hK hP 2 0 rfl rfl (by omega) (by decide) rfl dX1_times_42 ?_
            refine zr_imul hx hb dX1_times_43 ?_
            refine lv_goto (tgt := 64) hx hb dX1_times_44 (by decide) ?_
            refine zr_iaddZN hx hb dX1_times_64 ?_
            refine lv_istore (lv' := [(4, .int (zi_I ((zq_si k fa fa i m2) + (((fa m2) * (fa (i - m2)) : Nat) : Int)))), (0, .ref (mo 0)), (1, .ref (mo 2)), (2, .ref (mo 2)), (3, .int (nI (i))), (5, .int (nI (m2)))]) hx hb dX1_times_65 hl (by decide) rfl (fun ls hl => ?_)
            refine zr_iinc (k := 5) (lv' := [(5, .int (nI (m2 + 1))), (4, .int (zi_I ((zq_si k fa fa i m2) + (((fa m2) * (fa (i - m2)) : Nat) : Int)))), (0, .ref (mo 0)), (1, .ref (mo 2)), (2, .ref (mo 2)), (3, .int (nI (i)))]) hx hb dX1_times_67 hl rfl (by decide) rfl (fun ls hl => ?_)
            refine lv_goto (tgt := 16) hx hb dX1_times_70 (by decide) ?_
            exact ih2 (m2 + 1) (by omega) ls (by rw [zq_si_1 (by omega)]; exact (lv_sub hl [2, 3, 4, 5, 1, 0] rfl))
      exact inner (zk_n k) 0 (by omega) ls (by rw [show zi_I (zq_si k fa fa i 0) = nI 0 from (zi_nI 0).symm]; exact (lv_sub hl [2, 3, 4, 5, 1, 0] rfl))
  exact loop (zk_n k) 0 (by omega) fc (fun j hj => absurd hj (Nat.not_lt_zero _)) s.heap [] hP hD hS ls (lv_sub hl [1, 2, 3, 0] rfl)
set_option maxHeartbeats 4000000 in
set_option maxRecDepth 100000 in
/-- times(f, g) -/
theorem cm_times33 (l : Launch) (dC : Nat → ClassId) (dI : Nat → Nat → Nat) (cA : ClassId) (tr : List (ClassId × FieldType)) (wr : va_W) (mo : Nat → Nat) (th k : Nat) (F fa fb fc fd : Nat → Nat) (hk : k < 4) (sz : Nat) (hf : ∀ j, j < zk_n k → fb j < zk_t k) (hg : ∀ j, j < zk_n k → fb j < zk_t k) : Met l yX1_times wzX1_times (k2_rm 1 23) (zw_pre (dC, dI) zz_cl ((cA, .int) :: tr) (zm_w cA mo th k (zk_n k) (zk_t k) F fa fb fc fd ++ wr) sz [.ref (mo 0), .ref (mo 3), .ref (mo 3)]) (va_Qv (fun u : Nat → Nat => ∀ j, j < zk_n k → u j = zq_tm k fb fb j) (zw_at (dC, dI) zz_cl ((cA, .int) :: tr) (va_A (zm_w cA mo th k (zk_n k) (zk_t k) F fa fb fc fd ++ wr) sz) (fun u : Nat → Nat => zm_w cA mo th k (zk_n k) (zk_t k) F fa fb u fd ++ wr)) (va_A (zm_w cA mo th k (zk_n k) (zk_t k) F fa fb fc fd ++ wr) sz)) 0 0 (va_A (zm_w cA mo th k (zk_n k) (zk_t k) F fa fb fc fd ++ wr) sz) := by
  refine Met.ofW (cc := cX1_times) (maxL := 6) (ret := none) (by decide) rfl ?_
  intro p e s m args below meth c s₁ B hml hv
  obtain ⟨rfl, hsz, hP, hK, hD0⟩ := hv
  have hx := B.exec
  have hb := B.bytes
  have hr := B.returns
  have hts := atoms_spec (ws := wzX1_times) B.pre
  have hown : s.vm.findClass RX1 = some m.cls := findClass_of_methodNamed B.named
  have hlocks := B.notSynchronized
  subst hsz
  have hD := hD0.self (sz := s.heap.size)
  generalize hAe : va_A (zm_w cA mo th k (zk_n k) (zk_t k) F fa fb fc fd ++ wr) s.heap.size = A at hD ⊢
  have hA : ∀ q : Nat, s.heap.size ≤ q → A q := fun q h => by rw [← hAe]; exact Or.inr h
  have hS : va_S A s.heap s.heap [] := va_S.rf
  have hl := lv_entry ([.ref (mo 0), .ref (mo 3), .ref (mo 3)]) (n := 6) (Nat.le_of_ble_eq_true rfl)
  rw [lg_entry_eq]
  generalize (lg_sl ([.ref (mo 0), .ref (mo 3), .ref (mo 3)]) ++ List.replicate (6 - (lg_sl ([.ref (mo 0), .ref (mo 3), .ref (mo 3)])).length) Slot.unset).toArray = ls at hl ⊢
  have hl : lv_has ls 6 [(0, .ref (mo 0)), (1, .ref (mo 3)), (2, .ref (mo 3))] := hl
  obtain ⟨hb1, hb2, hb3, hb4, hb5, hb6, hb7, hb8⟩ := zk_b k hk
  refine lv_iconst (v := nI 0) hx hb dX1_times_0 (by decide) ?_
  refine lv_istore_n (lv' := [(3, .int (nI (0))), (0, .ref (mo 0)), (1, .ref (mo 3)), (2, .ref (mo 3))]) hx hb dX1_times_1 rfl hl (by decide) rfl (fun ls hl => ?_)
  have loop : ∀ (d i : Nat), i + d = zk_n k → ∀ (G1 : Nat → Nat), (∀ j, j < i → G1 j = zq_tm k fb fb j) → ∀ (H : Heap) (locs : List Loc), va_P (dC, dI) zz_cl (zm_w cA mo th k (zk_n k) (zk_t k) F fa fb G1 fd ++ wr) H → va_D A (zm_w cA mo th k (zk_n k) (zk_t k) F fa fb G1 fd ++ wr) → va_S A s.heap H locs → ∀ ls, lv_has ls 6 [(0, .ref (mo 0)), (1, .ref (mo 3)), (2, .ref (mo 3)), (3, .int (nI (i)))] → W p l e (headSpec wzX1_times (k2_rm 1 23)).room s m ([.ref (mo 0), .ref (mo 3), .ref (mo 3)] : List Value).toArray below meth c H locs 0 0 (MQ below (va_Qv (fun u : Nat → Nat => ∀ j, j < zk_n k → u j = zq_tm k fb fb j) (zw_at (dC, dI) zz_cl ((cA, .int) :: tr) A (fun u : Nat → Nat => zm_w cA mo th k (zk_n k) (zk_t k) F fa fb u fd ++ wr)) A) ([.ref (mo 0), .ref (mo 3), .ref (mo 3)] : List Value).toArray s 0 0 A) (F0 m 2 ls []) := by
    intro d
    induction d with
    | zero =>
      intro i hi G1 hinv H locs hP hD hS ls hl
      have hi : i = zk_n k := by omega
      rw [hi] at hinv
      refine lv_iload_n hx hb dX1_times_2 rfl (lv_at hl 3 rfl) ?_
      refine lv_aload_n hx hb dX1_times_3 rfl (lv_at hl 0 rfl) ?_
      refine zx_get1 (v := .int (nI (zk_n k))) hx hb hts hown hK hP 0 rfl 2 (by decide) zf_X1_7 rfl dX1_times_4 ?_
      refine zr_ige (tgt := 92) hx hb dX1_times_7 (by decide) (by omega) (by omega) (fun _ => ?_) (fun hno9 => absurd hno9 (by omega))
      exact W.vret hx hb hr (fun t9 h9 hW9 => ⟨⟨G1, rfl, hinv, by rw [h9]; exact hP, va_K.moved hW9.alike hK, hD⟩, hS.F h9⟩) hS.2.2 dX1_times_92
    | succ d ih =>
      intro i hi G1 hinv H locs hP hD hS ls hl
      refine lv_iload_n hx hb dX1_times_2 rfl (lv_at hl 3 rfl) ?_
      refine lv_aload_n hx hb dX1_times_3 rfl (lv_at hl 0 rfl) ?_
      refine zx_get1 (v := .int (nI (zk_n k))) hx hb hts hown hK hP 0 rfl 2 (by decide) zf_X1_7 rfl dX1_times_4 ?_
      refine zr_ige (tgt := 92) hx hb dX1_times_7 (by decide) (by omega) (by omega) (fun hno9 => absurd hno9 (by omega)) (fun _ => ?_)
      refine lv_iconst (v := nI 0) hx hb dX1_times_10 (by decide) ?_
      refine lv_istore (lv' := [(4, .int (nI (0))), (0, .ref (mo 0)), (1, .ref (mo 3)), (2, .ref (mo 3)), (3, .int (nI (i)))]) hx hb dX1_times_11 hl (by decide) rfl (fun ls hl => ?_)
      refine lv_iconst (v := nI 0) hx hb dX1_times_13 (by decide) ?_
      refine lv_istore (lv' := [(5, .int (nI (0))), (4, .int (nI (0))), (0, .ref (mo 0)), (1, .ref (mo 3)), (2, .ref (mo 3)), (3, .int (nI (i)))]) hx hb dX1_times_14 hl (by decide) rfl (fun ls hl => ?_)
      have inner : ∀ (d2 m2 : Nat), m2 + d2 = zk_n k → ∀ ls, lv_has ls 6 [(0, .ref (mo 0)), (1, .ref (mo 3)), (2, .ref (mo 3)), (3, .int (nI (i))), (4, .int (zi_I (zq_si k fb fb i m2))), (5, .int (nI (m2)))] → W p l e (headSpec wzX1_times (k2_rm 1 23)).room s m ([.ref (mo 0), .ref (mo 3), .ref (mo 3)] : List Value).toArray below meth c H locs 0 0 (MQ below (va_Qv (fun u : Nat → Nat => ∀ j, j < zk_n k → u j = zq_tm k fb fb j) (zw_at (dC, dI) zz_cl ((cA, .int) :: tr) A (fun u : Nat → Nat => zm_w cA mo th k (zk_n k) (zk_t k) F fa fb u fd ++ wr)) A) ([.ref (mo 0), .ref (mo 3), .ref (mo 3)] : List Value).toArray s 0 0 A) (F0 m 16 ls []) := by
        intro d2
        induction d2 with
        | zero =>
          intro m2 hm2 ls hl
          have hm : m2 = zk_n k := by omega
          subst hm
          have hsb := zq_si_b hk hf hg (show i < zk_n k by omega) (zk_n k) (Nat.le_refl _)
          refine lv_iload hx hb dX1_times_16 (lv_at hl 5 rfl) ?_
          refine lv_aload_n hx hb dX1_times_18 rfl (lv_at hl 0 rfl) ?_
          refine zx_get1 (v := .int (nI (zk_n k))) hx hb hts hown hK hP 0 rfl 2 (by decide) zf_X1_7 rfl dX1_times_19 ?_
          refine zr_ige (tgt := 73) hx hb dX1_times_22 (by decide) (by omega) (by omega) (fun _ => ?_) (fun hno9 => absurd hno9 (by omega))
          refine lv_aload_n hx hb dX1_times_73 rfl (lv_at hl 0 rfl) ?_
          refine zx_get1 (v := .ref (mo 4)) hx hb hts hown hK hP 0 rfl 7 (by decide) zf_X1_26 rfl dX1_times_74 ?_
          refine lv_iload_n hx hb dX1_times_77 rfl (lv_at hl 3 rfl) ?_
          refine lv_aload_n hx hb dX1_times_78 rfl (lv_at hl 0 rfl) ?_
          refine lv_iload hx hb dX1_times_79 (lv_at hl 4 rfl) ?_
          refine zr_i2lZ hx hb dX1_times_81 (by omega) (by omega) ?_
          refine zr_callq (zx_runV (As := [.long (zi_L (zq_si k fb fb i (zk_n k)))]) (rest := [.int (nI (i)), .ref (mo 4)]) hx hb hml hts hown (cm_of l dC dI cA tr wr mo th k F fa fb G1 fd hk (zq_si k fb fb i (zk_n k)) (zq_tm k fb fb i) (by omega) (by omega) (zq_si_tm hk _ _ _)) zv_X1_54 rfl rfl ⟨Nat.le_of_ble_eq_true rfl, Nat.le_of_ble_eq_true rfl⟩ (zr_preV (q := (RX1, TM1, 9)) (ci := 1) (q0 := 0) hP hK rfl rfl) rfl hl.1 rfl (Nat.le_of_ble_eq_true rfl) dX1_times_82 ⟨Nat.zero_le _, Nat.zero_le _⟩) ?_
          refine zr_iast (ws' := (zm_w cA mo th k (zk_n k) (zk_t k) F fa fb (zq_up G1 i (zq_tm k fb fb i)) fd ++ wr)) hx hb hK hP hD hS 4 0 rfl rfl (by omega) (by decide) dX1_times_85 rfl (fun H locs hP hD hS => ?_)
          refine zr_iinc (k := 3) (lv' := [(3, .int (nI (i + 1))), (0, .ref (mo 0)), (1, .ref (mo 3)), (2, .ref (mo 3)), (4, .int (zi_I (zq_si k fb fb i (zk_n k)))), (5, .int (nI (zk_n k)))]) hx hb dX1_times_86 hl rfl (by decide) rfl (fun ls hl => ?_)
          refine lv_goto (tgt := 2) hx hb dX1_times_89 (by decide) ?_
          refine ih (i + 1) (by omega) _ (fun j hj => ?_) H locs hP hD hS ls (lv_sub hl [1, 2, 3, 0] rfl)
          by_cases e9 : j = i
          · rw [e9, zq_up_s]
          · rw [zq_up_n _ _ e9]; exact hinv j (by omega)
        | succ d2 ih2 =>
          intro m2 hm2 ls hl
          refine lv_iload hx hb dX1_times_16 (lv_at hl 5 rfl) ?_
          refine lv_aload_n hx hb dX1_times_18 rfl (lv_at hl 0 rfl) ?_
          refine zx_get1 (v := .int (nI (zk_n k))) hx hb hts hown hK hP 0 rfl 2 (by decide) zf_X1_7 rfl dX1_times_19 ?_
          refine zr_ige (tgt := 73) hx hb dX1_times_22 (by decide) (by omega) (by omega) (fun hno9 => absurd hno9 (by omega)) (fun _ => ?_)
          refine lv_iload hx hb dX1_times_25 (lv_at hl 4 rfl) ?_
          refine lv_iload hx hb dX1_times_27 (lv_at hl 5 rfl) ?_
          refine lv_iload_n hx hb dX1_times_29 rfl (lv_at hl 3 rfl) ?_
          refine zr_igt (tgt := 47) hx hb dX1_times_30 (by decide) (by omega) (by omega) (fun hc => ?_) (fun hc => ?_)
          · refine lv_aload_n hx hb dX1_times_47 rfl (lv_at hl 1 rfl) ?_
            refine lv_iload hx hb dX1_times_48 (lv_at hl 5 rfl) ?_
            refine zr_iald (y := fb m2) hx hb hK hP 3 0 rfl rfl (by omega) (by decide) rfl dX1_times_50 ?_
            refine zr_inegN hx hb dX1_times_51 ?_
            refine lv_aload_n hx hb dX1_times_52 rfl (lv_at hl 2 rfl) ?_
            refine lv_aload_n hx hb dX1_times_53 rfl (lv_at hl 0 rfl) ?_
            refine zx_get1 (v := .int (nI (zk_n k))) hx hb hts hown hK hP 0 rfl 2 (by decide) zf_X1_7 rfl dX1_times_54 ?_
            refine lv_iload_n hx hb dX1_times_57 rfl (lv_at hl 3 rfl) ?_
            refine zr_iadd hx hb dX1_times_58 ?_
            refine lv_iload hx hb dX1_times_59 (lv_at hl 5 rfl) ?_
            refine zr_isub hx hb dX1_times_61 (by omega) ?_
            refine zr_iald (y := fb (((zk_n k) + i) - m2)) hx hb hK hP 3 0 rfl rfl (by omega) (by decide) rfl dX1_times_62 ?_
            refine zr_imulZN hx hb dX1_times_63 ?_
            refine zr_iaddZZ hx hb dX1_times_64 ?_
            refine lv_istore (lv' := [(4, .int (zi_I ((zq_si k fb fb i m2) + ((-((fb m2 : Nat) : Int)) * ((fb (((zk_n k) + i) - m2) : Nat) : Int))))), (0, .ref (mo 0)), (1, .ref (mo 3)), (2, .ref (mo 3)), (3, .int (nI (i))), (5, .int (nI (m2)))]) hx hb dX1_times_65 hl (by decide) rfl (fun ls hl => ?_)
            refine zr_iinc (k := 5) (lv' := [(5, .int (nI (m2 + 1))), (4, .int (zi_I ((zq_si k fb fb i m2) + ((-((fb m2 : Nat) : Int)) * ((fb (((zk_n k) + i) - m2) : Nat) : Int))))), (0, .ref (mo 0)), (1, .ref (mo 3)), (2, .ref (mo 3)), (3, .int (nI (i)))]) hx hb dX1_times_67 hl rfl (by decide) rfl (fun ls hl => ?_)
            refine lv_goto (tgt := 16) hx hb dX1_times_70 (by decide) ?_
            exact ih2 (m2 + 1) (by omega) ls (by rw [zq_si_2 (by omega)]; exact (lv_sub hl [2, 3, 4, 5, 1, 0] rfl))
          · refine lv_aload_n hx hb dX1_times_33 rfl (lv_at hl 1 rfl) ?_
            refine lv_iload hx hb dX1_times_34 (lv_at hl 5 rfl) ?_
            refine zr_iald (y := fb m2) hx hb hK hP 3 0 rfl rfl (by omega) (by decide) rfl dX1_times_36 ?_
            refine lv_aload_n hx hb dX1_times_37 rfl (lv_at hl 2 rfl) ?_
            refine lv_iload_n hx hb dX1_times_38 rfl (lv_at hl 3 rfl) ?_
            refine lv_iload hx hb dX1_times_39 (lv_at hl 5 rfl) ?_
            refine zr_isub hx hb dX1_times_41 (by omega) ?_
            refine zr_iald (y := fb (i - m2)) hx hb hK hP 3 0 rfl rfl (by omega) (by decide) rfl dX1_times_42 ?_
            refine zr_imul hx hb dX1_times_43 ?_
            refine lv_goto (tgt := 64) hx hb dX1_times_44 (by decide) ?_
            refine zr_iaddZN hx hb dX1_times_64 ?_
            refine lv_istore (lv' := [(4, .int (zi_I ((zq_si k fb fb i m2) + (((fb m2) * (fb (i - m2)) : Nat) : Int)))), (0, .ref (mo 0)), (1, .ref (mo 3)), (2, .ref (mo 3)), (3, .int (nI (i))), (5, .int (nI (m2)))]) hx hb dX1_times_65 hl (by decide) rfl (fun ls hl => ?_)
            refine zr_iinc (k := 5) (lv' := [(5, .int (nI (m2 + 1))), (4, .int (zi_I ((zq_si k fb fb i m2) + (((fb m2) * (fb (i - m2)) : Nat) : Int)))), (0, .ref (mo 0)), (1, .ref (mo 3)), (2, .ref (mo 3)), (3, .int (nI (i)))]) hx hb dX1_times_67 hl rfl (by decide) rfl (fun ls hl => ?_)
            refine lv_goto (tgt := 16) hx hb dX1_times_70 (by decide) ?_
            exact ih2 (m2 + 1) (by omega) ls (by rw [zq_si_1 (by omega)]; exact (lv_sub hl [2, 3, 4, 5, 1, 0] rfl))
      exact inner (zk_n k) 0 (by omega) ls (by rw [show zi_I (zq_si k fb fb i 0) = nI 0 from (zi_nI 0).symm]; exact (lv_sub hl [2, 3, 4, 5, 1, 0] rfl))
  exact loop (zk_n k) 0 (by omega) fc (fun j hj => absurd hj (Nat.not_lt_zero _)) s.heap [] hP hD hS ls (lv_sub hl [1, 2, 3, 0] rfl)
set_option maxHeartbeats 4000000 in
set_option maxRecDepth 100000 in
/-- times(f, g) -/
theorem cm_times23 (l : Launch) (dC : Nat → ClassId) (dI : Nat → Nat → Nat) (cA : ClassId) (tr : List (ClassId × FieldType)) (wr : va_W) (mo : Nat → Nat) (th k : Nat) (F fa fb fc fd : Nat → Nat) (hk : k < 4) (sz : Nat) (hf : ∀ j, j < zk_n k → fa j < zk_t k) (hg : ∀ j, j < zk_n k → fb j < zk_t k) : Met l yX1_times wzX1_times (k2_rm 1 23) (zw_pre (dC, dI) zz_cl ((cA, .int) :: tr) (zm_w cA mo th k (zk_n k) (zk_t k) F fa fb fc fd ++ wr) sz [.ref (mo 0), .ref (mo 2), .ref (mo 3)]) (va_Qv (fun u : Nat → Nat => ∀ j, j < zk_n k → u j = zq_tm k fa fb j) (zw_at (dC, dI) zz_cl ((cA, .int) :: tr) (va_A (zm_w cA mo th k (zk_n k) (zk_t k) F fa fb fc fd ++ wr) sz) (fun u : Nat → Nat => zm_w cA mo th k (zk_n k) (zk_t k) F fa fb u fd ++ wr)) (va_A (zm_w cA mo th k (zk_n k) (zk_t k) F fa fb fc fd ++ wr) sz)) 0 0 (va_A (zm_w cA mo th k (zk_n k) (zk_t k) F fa fb fc fd ++ wr) sz) := by
  refine Met.ofW (cc := cX1_times) (maxL := 6) (ret := none) (by decide) rfl ?_
  intro p e s m args below meth c s₁ B hml hv
  obtain ⟨rfl, hsz, hP, hK, hD0⟩ := hv
  have hx := B.exec
  have hb := B.bytes
  have hr := B.returns
  have hts := atoms_spec (ws := wzX1_times) B.pre
  have hown : s.vm.findClass RX1 = some m.cls := findClass_of_methodNamed B.named
  have hlocks := B.notSynchronized
  subst hsz
  have hD := hD0.self (sz := s.heap.size)
  generalize hAe : va_A (zm_w cA mo th k (zk_n k) (zk_t k) F fa fb fc fd ++ wr) s.heap.size = A at hD ⊢
  have hA : ∀ q : Nat, s.heap.size ≤ q → A q := fun q h => by rw [← hAe]; exact Or.inr h
  have hS : va_S A s.heap s.heap [] := va_S.rf
  have hl := lv_entry ([.ref (mo 0), .ref (mo 2), .ref (mo 3)]) (n := 6) (Nat.le_of_ble_eq_true rfl)
  rw [lg_entry_eq]
  generalize (lg_sl ([.ref (mo 0), .ref (mo 2), .ref (mo 3)]) ++ List.replicate (6 - (lg_sl ([.ref (mo 0), .ref (mo 2), .ref (mo 3)])).length) Slot.unset).toArray = ls at hl ⊢
  have hl : lv_has ls 6 [(0, .ref (mo 0)), (1, .ref (mo 2)), (2, .ref (mo 3))] := hl
  obtain ⟨hb1, hb2, hb3, hb4, hb5, hb6, hb7, hb8⟩ := zk_b k hk
  refine lv_iconst (v := nI 0) hx hb dX1_times_0 (by decide) ?_
  refine lv_istore_n (lv' := [(3, .int (nI (0))), (0, .ref (mo 0)), (1, .ref (mo 2)), (2, .ref (mo 3))]) hx hb dX1_times_1 rfl hl (by decide) rfl (fun ls hl => ?_)
  have loop : ∀ (d i : Nat), i + d = zk_n k → ∀ (G1 : Nat → Nat), (∀ j, j < i → G1 j = zq_tm k fa fb j) → ∀ (H : Heap) (locs : List Loc), va_P (dC, dI) zz_cl (zm_w cA mo th k (zk_n k) (zk_t k) F fa fb G1 fd ++ wr) H → va_D A (zm_w cA mo th k (zk_n k) (zk_t k) F fa fb G1 fd ++ wr) → va_S A s.heap H locs → ∀ ls, lv_has ls 6 [(0, .ref (mo 0)), (1, .ref (mo 2)), (2, .ref (mo 3)), (3, .int (nI (i)))] → W p l e (headSpec wzX1_times (k2_rm 1 23)).room s m ([.ref (mo 0), .ref (mo 2), .ref (mo 3)] : List Value).toArray below meth c H locs 0 0 (MQ below (va_Qv (fun u : Nat → Nat => ∀ j, j < zk_n k → u j = zq_tm k fa fb j) (zw_at (dC, dI) zz_cl ((cA, .int) :: tr) A (fun u : Nat → Nat => zm_w cA mo th k (zk_n k) (zk_t k) F fa fb u fd ++ wr)) A) ([.ref (mo 0), .ref (mo 2), .ref (mo 3)] : List Value).toArray s 0 0 A) (F0 m 2 ls []) := by
    intro d
    induction d with
    | zero =>
      intro i hi G1 hinv H locs hP hD hS ls hl
      have hi : i = zk_n k := by omega
      rw [hi] at hinv
      refine lv_iload_n hx hb dX1_times_2 rfl (lv_at hl 3 rfl) ?_
      refine lv_aload_n hx hb dX1_times_3 rfl (lv_at hl 0 rfl) ?_
      refine zx_get1 (v := .int (nI (zk_n k))) hx hb hts hown hK hP 0 rfl 2 (by decide) zf_X1_7 rfl dX1_times_4 ?_
      refine zr_ige (tgt := 92) hx hb dX1_times_7 (by decide) (by omega) (by omega) (fun _ => ?_) (fun hno9 => absurd hno9 (by omega))
      exact W.vret hx hb hr (fun t9 h9 hW9 => ⟨⟨G1, rfl, hinv, by rw [h9]; exact hP, va_K.moved hW9.alike hK, hD⟩, hS.F h9⟩) hS.2.2 dX1_times_92
    | succ d ih =>
      intro i hi G1 hinv H locs hP hD hS ls hl
      refine lv_iload_n hx hb dX1_times_2 rfl (lv_at hl 3 rfl) ?_
      refine lv_aload_n hx hb dX1_times_3 rfl (lv_at hl 0 rfl) ?_
      refine zx_get1 (v := .int (nI (zk_n k))) hx hb hts hown hK hP 0 rfl 2 (by decide) zf_X1_7 rfl dX1_times_4 ?_
      refine zr_ige (tgt := 92) hx hb dX1_times_7 (by decide) (by omega) (by omega) (fun hno9 => absurd hno9 (by omega)) (fun _ => ?_)
      refine lv_iconst (v := nI 0) hx hb dX1_times_10 (by decide) ?_
      refine lv_istore (lv' := [(4, .int (nI (0))), (0, .ref (mo 0)), (1, .ref (mo 2)), (2, .ref (mo 3)), (3, .int (nI (i)))]) hx hb dX1_times_11 hl (by decide) rfl (fun ls hl => ?_)
      refine lv_iconst (v := nI 0) hx hb dX1_times_13 (by decide) ?_
      refine lv_istore (lv' := [(5, .int (nI (0))), (4, .int (nI (0))), (0, .ref (mo 0)), (1, .ref (mo 2)), (2, .ref (mo 3)), (3, .int (nI (i)))]) hx hb dX1_times_14 hl (by decide) rfl (fun ls hl => ?_)
      have inner : ∀ (d2 m2 : Nat), m2 + d2 = zk_n k → ∀ ls, lv_has ls 6 [(0, .ref (mo 0)), (1, .ref (mo 2)), (2, .ref (mo 3)), (3, .int (nI (i))), (4, .int (zi_I (zq_si k fa fb i m2))), (5, .int (nI (m2)))] → W p l e (headSpec wzX1_times (k2_rm 1 23)).room s m ([.ref (mo 0), .ref (mo 2), .ref (mo 3)] : List Value).toArray below meth c H locs 0 0 (MQ below (va_Qv (fun u : Nat → Nat => ∀ j, j < zk_n k → u j = zq_tm k fa fb j) (zw_at (dC, dI) zz_cl ((cA, .int) :: tr) A (fun u : Nat → Nat => zm_w cA mo th k (zk_n k) (zk_t k) F fa fb u fd ++ wr)) A) ([.ref (mo 0), .ref (mo 2), .ref (mo 3)] : List Value).toArray s 0 0 A) (F0 m 16 ls []) := by
        intro d2
        induction d2 with
        | zero =>
          intro m2 hm2 ls hl
          have hm : m2 = zk_n k := by omega
          subst hm
          have hsb := zq_si_b hk hf hg (show i < zk_n k by omega) (zk_n k) (Nat.le_refl _)
          refine lv_iload hx hb dX1_times_16 (lv_at hl 5 rfl) ?_
          refine lv_aload_n hx hb dX1_times_18 rfl (lv_at hl 0 rfl) ?_
          refine zx_get1 (v := .int (nI (zk_n k))) hx hb hts hown hK hP 0 rfl 2 (by decide) zf_X1_7 rfl dX1_times_19 ?_
          refine zr_ige (tgt := 73) hx hb dX1_times_22 (by decide) (by omega) (by omega) (fun _ => ?_) (fun hno9 => absurd hno9 (by omega))
          refine lv_aload_n hx hb dX1_times_73 rfl (lv_at hl 0 rfl) ?_
          refine zx_get1 (v := .ref (mo 4)) hx hb hts hown hK hP 0 rfl 7 (by decide) zf_X1_26 rfl dX1_times_74 ?_
          refine lv_iload_n hx hb dX1_times_77 rfl (lv_at hl 3 rfl) ?_
          refine lv_aload_n hx hb dX1_times_78 rfl (lv_at hl 0 rfl) ?_
          refine lv_iload hx hb dX1_times_79 (lv_at hl 4 rfl) ?_
          refine zr_i2lZ hx hb dX1_times_81 (by omega) (by omega) ?_
          refine zr_callq (zx_runV (As := [.long (zi_L (zq_si k fa fb i (zk_n k)))]) (rest := [.int (nI (i)), .ref (mo 4)]) hx hb hml hts hown (cm_of l dC dI cA tr wr mo th k F fa fb G1 fd hk (zq_si k fa fb i (zk_n k)) (zq_tm k fa fb i) (by omega) (by omega) (zq_si_tm hk _ _ _)) zv_X1_54 rfl rfl ⟨Nat.le_of_ble_eq_true rfl, Nat.le_of_ble_eq_true rfl⟩ (zr_preV (q := (RX1, TM1, 9)) (ci := 1) (q0 := 0) hP hK rfl rfl) rfl hl.1 rfl (Nat.le_of_ble_eq_true rfl) dX1_times_82 ⟨Nat.zero_le _, Nat.zero_le _⟩) ?_
          refine zr_iast (ws' := (zm_w cA mo th k (zk_n k) (zk_t k) F fa fb (zq_up G1 i (zq_tm k fa fb i)) fd ++ wr)) hx hb hK hP hD hS 4 0 rfl rfl (by omega) (by decide) dX1_times_85 rfl (fun H locs hP hD hS => ?_)
          refine zr_iinc (k := 3) (lv' := [(3, .int (nI (i + 1))), (0, .ref (mo 0)), (1, .ref (mo 2)), (2, .ref (mo 3)), (4, .int (zi_I (zq_si k fa fb i (zk_n k)))), (5, .int (nI (zk_n k)))]) hx hb dX1_times_86 hl rfl (by decide) rfl (fun ls hl => ?_)
          refine lv_goto (tgt := 2) hx hb dX1_times_89 (by decide) ?_
          refine ih (i + 1) (by omega) _ (fun j hj => ?_) H locs hP hD hS ls (lv_sub hl [1, 2, 3, 0] rfl)
          by_cases e9 : j = i
          · rw [e9, zq_up_s]
          · rw [zq_up_n _ _ e9]; exact hinv j (by omega)
        | succ d2 ih2 =>
          intro m2 hm2 ls hl
          refine lv_iload hx hb dX1_times_16 (lv_at hl 5 rfl) ?_
          refine lv_aload_n hx hb dX1_times_18 rfl (lv_at hl 0 rfl) ?_
          refine zx_get1 (v := .int (nI (zk_n k))) hx hb hts hown hK hP 0 rfl 2 (by decide) zf_X1_7 rfl dX1_times_19 ?_
          refine zr_ige (tgt := 73) hx hb dX1_times_22 (by decide) (by omega) (by omega) (fun hno9 => absurd hno9 (by omega)) (fun _ => ?_)
          refine lv_iload hx hb dX1_times_25 (lv_at hl 4 rfl) ?_
          refine lv_iload hx hb dX1_times_27 (lv_at hl 5 rfl) ?_
          refine lv_iload_n hx hb dX1_times_29 rfl (lv_at hl 3 rfl) ?_
          refine zr_igt (tgt := 47) hx hb dX1_times_30 (by decide) (by omega) (by omega) (fun hc => ?_) (fun hc => ?_)
          · refine lv_aload_n hx hb dX1_times_47 rfl (lv_at hl 1 rfl) ?_
            refine lv_iload hx hb dX1_times_48 (lv_at hl 5 rfl) ?_
            refine zr_iald (y := fa m2) hx hb hK hP 2 0 rfl rfl (by omega) (by decide) rfl dX1_times_50 ?_
            refine zr_inegN hx hb dX1_times_51 ?_
            refine lv_aload_n hx hb dX1_times_52 rfl (lv_at hl 2 rfl) ?_
            refine lv_aload_n hx hb dX1_times_53 rfl (lv_at hl 0 rfl) ?_
            refine zx_get1 (v := .int (nI (zk_n k))) hx hb hts hown hK hP 0 rfl 2 (by decide) zf_X1_7 rfl dX1_times_54 ?_
            refine lv_iload_n hx hb dX1_times_57 rfl (lv_at hl 3 rfl) ?_
            refine zr_iadd hx hb dX1_times_58 ?_
            refine lv_iload hx hb dX1_times_59 (lv_at hl 5 rfl) ?_
            refine zr_isub hx hb dX1_times_61 (by omega) ?_
            refine zr_iald (y := fb (((zk_n k) + i) - m2)) hx hb hK hP 3 0 rfl rfl (by omega) (by decide) rfl dX1_times_62 ?_
            refine zr_imulZN hx hb dX1_times_63 ?_
            refine zr_iaddZZ hx hb dX1_times_64 ?_
            refine lv_istore (lv' := [(4, .int (zi_I ((zq_si k fa fb i m2) + ((-((fa m2 : Nat) : Int)) * ((fb (((zk_n k) + i) - m2) : Nat) : Int))))), (0, .ref (mo 0)), (1, .ref (mo 2)), (2, .ref (mo 3)), (3, .int (nI (i))), (5, .int (nI (m2)))]) hx hb dX1_times_65 hl (by decide) rfl (fun ls hl => ?_)
            refine zr_iinc (k := 5) (lv' := [(5, .int (nI (m2 + 1))), (4, .int (zi_I ((zq_si k fa fb i m2) + ((-((fa m2 : Nat) : Int)) * ((fb (((zk_n k) + i) - m2) : Nat) : Int))))), (0, .ref (mo 0)), (1, .ref (mo 2)), (2, .ref (mo 3)), (3, .int (nI (i)))]) hx hb dX1_times_67 hl rfl (by decide) rfl (fun ls hl => ?_)
            refine lv_goto (tgt := 16) hx hb dX1_times_70 (by decide) ?_
            exact ih2 (m2 + 1) (by omega) ls (by rw [zq_si_2 (by omega)]; exact (lv_sub hl [2, 3, 4, 5, 1, 0] rfl))
          · refine lv_aload_n hx hb dX1_times_33 rfl (lv_at hl 1 rfl) ?_
            refine lv_iload hx hb dX1_times_34 (lv_at hl 5 rfl) ?_
            refine zr_iald (y := fa m2) hx hb hK hP 2 0 rfl rfl (by omega) (by decide) rfl dX1_times_36 ?_
            refine lv_aload_n hx hb dX1_times_37 rfl (lv_at hl 2 rfl) ?_
            refine lv_iload_n hx hb dX1_times_38 rfl (lv_at hl 3 rfl) ?_
            refine lv_iload hx hb dX1_times_39 (lv_at hl 5 rfl) ?_
            refine zr_isub hx hb dX1_times_41 (by omega) ?_
            refine zr_iald (y := fb (i - m2)) hx hb hK hP 3 0 rfl rfl (by omega) (by decide) rfl dX1_times_42 ?_
            refine zr_imul hx hb dX1_times_43 ?_
            refine lv_goto (tgt := 64) hx hb dX1_times_44 (by decide) ?_
            refine zr_iaddZN hx hb dX1_times_64 ?_
            refine lv_istore (lv' := [(4, .int (zi_I ((zq_si k fa fb i m2) + (((fa m2) * (fb (i - m2)) : Nat) : Int)))), (0, .ref (mo 0)), (1, .ref (mo 2)), (2, .ref (mo 3)), (3, .int (nI (i))), (5, .int (nI (m2)))]) hx hb dX1_times_65 hl (by decide) rfl (fun ls hl => ?_)
            refine zr_iinc (k := 5) (lv' := [(5, .int (nI (m2 + 1))), (4, .int (zi_I ((zq_si k fa fb i m2) + (((fa m2) * (fb (i - m2)) : Nat) : Int)))), (0, .ref (mo 0)), (1, .ref (mo 2)), (2, .ref (mo 3)), (3, .int (nI (i)))]) hx hb dX1_times_67 hl rfl (by decide) rfl (fun ls hl => ?_)
            refine lv_goto (tgt := 16) hx hb dX1_times_70 (by decide) ?_
            exact ih2 (m2 + 1) (by omega) ls (by rw [zq_si_1 (by omega)]; exact (lv_sub hl [2, 3, 4, 5, 1, 0] rfl))
      exact inner (zk_n k) 0 (by omega) ls (by rw [show zi_I (zq_si k fa fb i 0) = nI 0 from (zi_nI 0).symm]; exact (lv_sub hl [2, 3, 4, 5, 1, 0] rfl))
  exact loop (zk_n k) 0 (by omega) fc (fun j hj => absurd hj (Nat.not_lt_zero _)) s.heap [] hP hD hS ls (lv_sub hl [1, 2, 3, 0] rfl)
set_option maxHeartbeats 4000000 in
set_option maxRecDepth 100000 in
/-- times(f, g) -/
theorem cm_times32 (l : Launch) (dC : Nat → ClassId) (dI : Nat → Nat → Nat) (cA : ClassId) (tr : List (ClassId × FieldType)) (wr : va_W) (mo : Nat → Nat) (th k : Nat) (F fa fb fc fd : Nat → Nat) (hk : k < 4) (sz : Nat) (hf : ∀ j, j < zk_n k → fb j < zk_t k) (hg : ∀ j, j < zk_n k → fa j < zk_t k) : Met l yX1_times wzX1_times (k2_rm 1 23) (zw_pre (dC, dI) zz_cl ((cA, .int) :: tr) (zm_w cA mo th k (zk_n k) (zk_t k) F fa fb fc fd ++ wr) sz [.ref (mo 0), .ref (mo 3), .ref (mo 2)]) (va_Qv (fun u : Nat → Nat => ∀ j, j < zk_n k → u j = zq_tm k fb fa j) (zw_at (dC, dI) zz_cl ((cA, .int) :: tr) (va_A (zm_w cA mo th k (zk_n k) (zk_t k) F fa fb fc fd ++ wr) sz) (fun u : Nat → Nat => zm_w cA mo th k (zk_n k) (zk_t k) F fa fb u fd ++ wr)) (va_A (zm_w cA mo th k (zk_n k) (zk_t k) F fa fb fc fd ++ wr) sz)) 0 0 (va_A (zm_w cA mo th k (zk_n k) (zk_t k) F fa fb fc fd ++ wr) sz) := by
  refine Met.ofW (cc := cX1_times) (maxL := 6) (ret := none) (by decide) rfl ?_
  intro p e s m args below meth c s₁ B hml hv
  obtain ⟨rfl, hsz, hP, hK, hD0⟩ := hv
  have hx := B.exec
  have hb := B.bytes
  have hr := B.returns
  have hts := atoms_spec (ws := wzX1_times) B.pre
  have hown : s.vm.findClass RX1 = some m.cls := findClass_of_methodNamed B.named
  have hlocks := B.notSynchronized
  subst hsz
  have hD := hD0.self (sz := s.heap.size)
  generalize hAe : va_A (zm_w cA mo th k (zk_n k) (zk_t k) F fa fb fc fd ++ wr) s.heap.size = A at hD ⊢
  have hA : ∀ q : Nat, s.heap.size ≤ q → A q := fun q h => by rw [← hAe]; exact Or.inr h
  have hS : va_S A s.heap s.heap [] := va_S.rf
  have hl := lv_entry ([.ref (mo 0), .ref (mo 3), .ref (mo 2)]) (n := 6) (Nat.le_of_ble_eq_true rfl)
  rw [lg_entry_eq]
  generalize (lg_sl ([.ref (mo 0), .ref (mo 3), .ref (mo 2)]) ++ List.replicate (6 - (lg_sl ([.ref (mo 0), .ref (mo 3), .ref (mo 2)])).length) Slot.unset).toArray = ls at hl ⊢
  have hl : lv_has ls 6 [(0, .ref (mo 0)), (1, .ref (mo 3)), (2, .ref (mo 2))] := hl
  obtain ⟨hb1, hb2, hb3, hb4, hb5, hb6, hb7, hb8⟩ := zk_b k hk
  refine lv_iconst (v := nI 0) hx hb dX1_times_0 (by decide) ?_
  refine lv_istore_n (lv' := [(3, .int (nI (0))), (0, .ref (mo 0)), (1, .ref (mo 3)), (2, .ref (mo 2))]) hx hb dX1_times_1 rfl hl (by decide) rfl (fun ls hl => ?_)
  have loop : ∀ (d i : Nat), i + d = zk_n k → ∀ (G1 : Nat → Nat), (∀ j, j < i → G1 j = zq_tm k fb fa j) → ∀ (H : Heap) (locs : List Loc), va_P (dC, dI) zz_cl (zm_w cA mo th k (zk_n k) (zk_t k) F fa fb G1 fd ++ wr) H → va_D A (zm_w cA mo th k (zk_n k) (zk_t k) F fa fb G1 fd ++ wr) → va_S A s.heap H locs → ∀ ls, lv_has ls 6 [(0, .ref (mo 0)), (1, .ref (mo 3)), (2, .ref (mo 2)), (3, .int (nI (i)))] → W p l e (headSpec wzX1_times (k2_rm 1 23)).room s m ([.ref (mo 0), .ref (mo 3), .ref (mo 2)] : List Value).toArray below meth c H locs 0 0 (MQ below (va_Qv (fun u : Nat → Nat => ∀ j, j < zk_n k → u j = zq_tm k fb fa j) (zw_at (dC, dI) zz_cl ((cA, .int) :: tr) A (fun u : Nat → Nat => zm_w cA mo th k (zk_n k) (zk_t k) F fa fb u fd ++ wr)) A) ([.ref (mo 0), .ref (mo 3), .ref (mo 2)] : List Value).toArray s 0 0 A) (F0 m 2 ls []) := by
    intro d
    induction d with
    | zero =>
      intro i hi G1 hinv H locs hP hD hS ls hl
      have hi : i = zk_n k := by omega
      rw [hi] at hinv
      refine lv_iload_n hx hb dX1_times_2 rfl (lv_at hl 3 rfl) ?_
      refine lv_aload_n hx hb dX1_times_3 rfl (lv_at hl 0 rfl) ?_
      refine zx_get1 (v := .int (nI (zk_n k))) hx hb hts hown hK hP 0 rfl 2 (by decide) zf_X1_7 rfl dX1_times_4 ?_
      refine zr_ige (tgt := 92) hx hb dX1_times_7 (by decide) (by omega) (by omega) (fun _ => ?_) (fun hno9 => absurd hno9 (by omega))
      exact W.vret hx hb hr (fun t9 h9 hW9 => ⟨⟨G1, rfl, hinv, by rw [h9]; exact hP, va_K.moved hW9.alike hK, hD⟩, hS.F h9⟩) hS.2.2 dX1_times_92
    | succ d ih =>
      intro i hi G1 hinv H locs hP hD hS ls hl
      refine lv_iload_n hx hb dX1_times_2 rfl (lv_at hl 3 rfl) ?_
      refine lv_aload_n hx hb dX1_times_3 rfl (lv_at hl 0 rfl) ?_
      refine zx_get1 (v := .int (nI (zk_n k))) hx hb hts hown hK hP 0 rfl 2 (by decide) zf_X1_7 rfl dX1_times_4 ?_
      refine zr_ige (tgt := 92) hx hb dX1_times_7 (by decide) (by omega) (by omega) (fun hno9 => absurd hno9 (by omega)) (fun _ => ?_)
      refine lv_iconst (v := nI 0) hx hb dX1_times_10 (by decide) ?_
      refine lv_istore (lv' := [(4, .int (nI (0))), (0, .ref (mo 0)), (1, .ref (mo 3)), (2, .ref (mo 2)), (3, .int (nI (i)))]) hx hb dX1_times_11 hl (by decide) rfl (fun ls hl => ?_)
      refine lv_iconst (v := nI 0) hx hb dX1_times_13 (by decide) ?_
      refine lv_istore (lv' := [(5, .int (nI (0))), (4, .int (nI (0))), (0, .ref (mo 0)), (1, .ref (mo 3)), (2, .ref (mo 2)), (3, .int (nI (i)))]) hx hb dX1_times_14 hl (by decide) rfl (fun ls hl => ?_)
      have inner : ∀ (d2 m2 : Nat), m2 + d2 = zk_n k → ∀ ls, lv_has ls 6 [(0, .ref (mo 0)), (1, .ref (mo 3)), (2, .ref (mo 2)), (3, .int (nI (i))), (4, .int (zi_I (zq_si k fb fa i m2))), (5, .int (nI (m2)))] → W p l e (headSpec wzX1_times (k2_rm 1 23)).room s m ([.ref (mo 0), .ref (mo 3), .ref (mo 2)] : List Value).toArray below meth c H locs 0 0 (MQ below (va_Qv (fun u : Nat → Nat => ∀ j, j < zk_n k → u j = zq_tm k fb fa j) (zw_at (dC, dI) zz_cl ((cA, .int) :: tr) A (fun u : Nat → Nat => zm_w cA mo th k (zk_n k) (zk_t k) F fa fb u fd ++ wr)) A) ([.ref (mo 0), .ref (mo 3), .ref (mo 2)] : List Value).toArray s 0 0 A) (F0 m 16 ls []) := by
        intro d2
        induction d2 with
        | zero =>
          intro m2 hm2 ls hl
          have hm : m2 = zk_n k := by omega
          subst hm
          have hsb := zq_si_b hk hf hg (show i < zk_n k by omega) (zk_n k) (Nat.le_refl _)
          refine lv_iload hx hb dX1_times_16 (lv_at hl 5 rfl) ?_
          refine lv_aload_n hx hb dX1_times_18 rfl (lv_at hl 0 rfl) ?_
          refine zx_get1 (v := .int (nI (zk_n k))) hx hb hts hown hK hP 0 rfl 2 (by decide) zf_X1_7 rfl dX1_times_19 ?_
          refine zr_ige (tgt := 73) hx hb dX1_times_22 (by decide) (by omega) (by omega) (fun _ => ?_) (fun hno9 => absurd hno9 (by omega))
          refine lv_aload_n hx hb dX1_times_73 rfl (lv_at hl 0 rfl) ?_
          refine zx_get1 (v := .ref (mo 4)) hx hb hts hown hK hP 0 rfl 7 (by decide) zf_X1_26 rfl dX1_times_74 ?_
          refine lv_iload_n hx hb dX1_times_77 rfl (lv_at hl 3 rfl) ?_
          refine lv_aload_n hx hb dX1_times_78 rfl (lv_at hl 0 rfl) ?_
          refine lv_iload hx hb dX1_times_79 (lv_at hl 4 rfl) ?_
          refine zr_i2lZ hx hb dX1_times_81 (by omega) (by omega) ?_
          refine zr_callq (zx_runV (As := [.long (zi_L (zq_si k fb fa i (zk_n k)))]) (rest := [.int (nI (i)), .ref (mo 4)]) hx hb hml hts hown (cm_of l dC dI cA tr wr mo th k F fa fb G1 fd hk (zq_si k fb fa i (zk_n k)) (zq_tm k fb fa i) (by omega) (by omega) (zq_si_tm hk _ _ _)) zv_X1_54 rfl rfl ⟨Nat.le_of_ble_eq_true rfl, Nat.le_of_ble_eq_true rfl⟩ (zr_preV (q := (RX1, TM1, 9)) (ci := 1) (q0 := 0) hP hK rfl rfl) rfl hl.1 rfl (Nat.le_of_ble_eq_true rfl) dX1_times_82 ⟨Nat.zero_le _, Nat.zero_le _⟩) ?_
          refine zr_iast (ws' := (zm_w cA mo th k (zk_n k) (zk_t k) F fa fb (zq_up G1 i (zq_tm k fb fa i)) fd ++ wr)) hx hb hK hP hD hS 4 0 rfl rfl (by omega) (by decide) dX1_times_85 rfl (fun H locs hP hD hS => ?_)
          refine zr_iinc (k := 3) (lv' := [(3, .int (nI (i + 1))), (0, .ref (mo 0)), (1, .ref (mo 3)), (2, .ref (mo 2)), (4, .int (zi_I (zq_si k fb fa i (zk_n k)))), (5, .int (nI (zk_n k)))]) hx hb dX1_times_86 hl rfl (by decide) rfl (fun ls hl => ?_)
          refine lv_goto (tgt := 2) hx hb dX1_times_89 (by decide) ?_
          refine ih (i + 1) (by omega) _ (fun j hj => ?_) H locs hP hD hS ls (lv_sub hl [1, 2, 3, 0] rfl)
          by_cases e9 : j = i
          · rw [e9, zq_up_s]
          · rw [zq_up_n _ _ e9]; exact hinv j (by omega)
        | succ d2 ih2 =>
          intro m2 hm2 ls hl
          refine lv_iload hx hb dX1_times_16 (lv_at hl 5 rfl) ?_
          refine lv_aload_n hx hb dX1_times_18 rfl (lv_at hl 0 rfl) ?_
          refine zx_get1 (v := .int (nI (zk_n k))) hx hb hts hown hK hP 0 rfl 2 (by decide) zf_X1_7 rfl dX1_times_19 ?_
          refine zr_ige (tgt := 73) hx hb dX1_times_22 (by decide) (by omega) (by omega) (fun hno9 => absurd hno9 (by omega)) (fun _ => ?_)
          refine lv_iload hx hb dX1_times_25 (lv_at hl 4 rfl) ?_
          refine lv_iload hx hb dX1_times_27 (lv_at hl 5 rfl) ?_
          refine lv_iload_n hx hb dX1_times_29 rfl (lv_at hl 3 rfl) ?_
          refine zr_igt (tgt := 47) hx hb dX1_times_30 (by decide) (by omega) (by omega) (fun hc => ?_) (fun hc => ?_)
          · refine lv_aload_n hx hb dX1_times_47 rfl (lv_at hl 1 rfl) ?_
            refine lv_iload hx hb dX1_times_48 (lv_at hl 5 rfl) ?_
            refine zr_iald (y := fb m2) hx hb hK hP 3 0 rfl rfl (by omega) (by decide) rfl dX1_times_50 ?_
            refine zr_inegN hx hb dX1_times_51 ?_
            refine lv_aload_n hx hb dX1_times_52 rfl (lv_at hl 2 rfl) ?_
            refine lv_aload_n hx hb dX1_times_53 rfl (lv_at hl 0 rfl) ?_
            refine zx_get1 (v := .int (nI (zk_n k))) hx hb hts hown hK hP 0 rfl 2 (by decide) zf_X1_7 rfl dX1_times_54 ?_
            refine lv_iload_n hx hb dX1_times_57 rfl (lv_at hl 3 rfl) ?_
            refine zr_iadd hx hb dX1_times_58 ?_
            refine lv_iload hx hb dX1_times_59 (lv_at hl 5 rfl) ?_
            refine zr_isub hx hb dX1_times_61 (by omega) ?_
            refine zr_iald (y := fa (((zk_n k) + i) - m2)) hx hb hK hP 2 0 rfl rfl (by omega) (by decide) rfl dX1_times_62 ?_
            refine zr_imulZN hx hb dX1_times_63 ?_
            refine zr_iaddZZ hx hb dX1_times_64 ?_
            refine lv_istore (lv' := [(4, .int (zi_I ((zq_si k fb fa i m2) + ((-((fb m2 : Nat) : Int)) * ((fa (((zk_n k) + i) - m2) : Nat) : Int))))), (0, .ref (mo 0)), (1, .ref (mo 3)), (2, .ref (mo 2)), (3, .int (nI (i))), (5, .int (nI (m2)))]) hx hb dX1_times_65 hl (by decide) rfl (fun ls hl => ?_)
            refine zr_iinc (k := 5) (lv' := [(5, .int (nI (m2 + 1))), (4, .int (zi_I ((zq_si k fb fa i m2) + ((-((fb m2 : Nat) : Int)) * ((fa (((zk_n k) + i) - m2) : Nat) : Int))))), (0, .ref (mo 0)), (1, .ref (mo 3)), (2, .ref (mo 2)), (3, .int (nI (i)))]) hx hb dX1_times_67 hl rfl (by decide) rfl (fun ls hl => ?_)
            refine lv_goto (tgt := 16) hx hb dX1_times_70 (by decide) ?_
            exact ih2 (m2 + 1) (by omega) ls (by rw [zq_si_2 (by omega)]; exact (lv_sub hl [2, 3, 4, 5, 1, 0] rfl))
          · refine lv_aload_n hx hb dX1_times_33 rfl (lv_at hl 1 rfl) ?_
            refine lv_iload hx hb dX1_times_34 (lv_at hl 5 rfl) ?_
            refine zr_iald (y := fb m2) hx hb hK hP 3 0 rfl rfl (by omega) (by decide) rfl dX1_times_36 ?_
            refine lv_aload_n hx hb dX1_times_37 rfl (lv_at hl 2 rfl) ?_
            refine lv_iload_n hx hb dX1_times_38 rfl (lv_at hl 3 rfl) ?_
            refine lv_iload hx hb dX1_times_39 (lv_at hl 5 rfl) ?_
            refine zr_isub hx hb dX1_times_41 (by omega) ?_
            refine zr_iald (y := fa (i - m2)) hx hb hK hP 2 0 rfl rfl (by omega) (by decide) rfl dX1_times_42 ?_
            refine zr_imul hx hb dX1_times_43 ?_
            refine lv_goto (tgt := 64) hx hb dX1_times_44 (by decide) ?_
            refine zr_iaddZN hx hb dX1_times_64 ?_
            refine lv_istore (lv' := [(4, .int (zi_I ((zq_si k fb fa i m2) + (((fb m2) * (fa (i - m2)) : Nat) : Int)))), (0, .ref (mo 0)), (1, .ref (mo 3)), (2, .ref (mo 2)), (3, .int (nI (i))), (5, .int (nI (m2)))]) hx hb dX1_times_65 hl (by decide) rfl (fun ls hl => ?_)
            refine zr_iinc (k := 5) (lv' := [(5, .int (nI (m2 + 1))), (4, .int (zi_I ((zq_si k fb fa i m2) + (((fb m2) * (fa (i - m2)) : Nat) : Int)))), (0, .ref (mo 0)), (1, .ref (mo 3)), (2, .ref (mo 2)), (3, .int (nI (i)))]) hx hb dX1_times_67 hl rfl (by decide) rfl (fun ls hl => ?_)
            refine lv_goto (tgt := 16) hx hb dX1_times_70 (by decide) ?_
            exact ih2 (m2 + 1) (by omega) ls (by rw [zq_si_1 (by omega)]; exact (lv_sub hl [2, 3, 4, 5, 1, 0] rfl))
      exact inner (zk_n k) 0 (by omega) ls (by rw [show zi_I (zq_si k fb fa i 0) = nI 0 from (zi_nI 0).symm]; exact (lv_sub hl [2, 3, 4, 5, 1, 0] rfl))
  exact loop (zk_n k) 0 (by omega) fc (fun j hj => absurd hj (Nat.not_lt_zero _)) s.heap [] hP hD hS ls (lv_sub hl [1, 2, 3, 0] rfl)
