set_option maxHeartbeats 4000000 in
set_option maxRecDepth 100000 in
/-- begin(k) -/
theorem cm_begin (l : Launch) (dC : Nat → ClassId) (dI : Nat → Nat → Nat) (cA : ClassId) (tr : List (ClassId × FieldType)) (wr : va_W) (mo : Nat → Nat) (th k : Nat) (F fa fb fc fd : Nat → Nat) (hk : k < 4) (sz : Nat) (x1 : Nat) (hx1 : x1 < 4) : Met l yX1_begin wzX1_begin (k2_rm 2 45) (zw_pre (dC, dI) zz_cl ((cA, .int) :: tr) (zm_w cA mo th k (zk_n k) (zk_t k) F fa fb fc fd ++ wr) sz [.ref (mo 0), .int (nI (x1))]) (va_Qi (fun r (u : zq_U) => r = nI (zk_z x1) ∧ ∀ j, j < 512 → u.1 j = 0) (zw_at (dC, dI) zz_cl ((cA, .int) :: tr) (va_A (zm_w cA mo th k (zk_n k) (zk_t k) F fa fb fc fd ++ wr) sz) (fun u : zq_U => zm_w cA mo 0 x1 (zk_n x1) (zk_t x1) u.1 u.2.1 u.2.2.1 u.2.2.2.1 u.2.2.2.2 ++ wr)) (va_A (zm_w cA mo th k (zk_n k) (zk_t k) F fa fb fc fd ++ wr) sz)) 0 0 (va_A (zm_w cA mo th k (zk_n k) (zk_t k) F fa fb fc fd ++ wr) sz) := by
  refine Met.ofW (cc := cX1_begin) (maxL := 3) (ret := (some .int)) (by decide) rfl ?_
  intro p e s m args below meth c s₁ B hml hv
  obtain ⟨rfl, hsz, hP, hK, hD0⟩ := hv
  have hx := B.exec
  have hb := B.bytes
  have hr := B.returns
  have hts := atoms_spec (ws := wzX1_begin) B.pre
  have hown : s.vm.findClass RX1 = some m.cls := findClass_of_methodNamed B.named
  have hlocks := B.notSynchronized
  subst hsz
  have hD := hD0.self (sz := s.heap.size)
  generalize hAe : va_A (zm_w cA mo th k (zk_n k) (zk_t k) F fa fb fc fd ++ wr) s.heap.size = A at hD ⊢
  have hA : ∀ q : Nat, s.heap.size ≤ q → A q := fun q h => by rw [← hAe]; exact Or.inr h
  have hS : va_S A s.heap s.heap [] := va_S.rf
  have hl := lv_entry ([.ref (mo 0), .int (nI (x1))]) (n := 3) (Nat.le_of_ble_eq_true rfl)
  rw [lg_entry_eq]
  generalize (lg_sl ([.ref (mo 0), .int (nI (x1))]) ++ List.replicate (3 - (lg_sl ([.ref (mo 0), .int (nI (x1))])).length) Slot.unset).toArray = ls at hl ⊢
  have hl : lv_has ls 3 [(0, .ref (mo 0)), (1, .int (nI (x1)))] := hl
  obtain ⟨hb1, hb2, hb3, hb4, hb5, hb6, hb7, hb8⟩ := zk_b k hk
  refine lv_aload_n hx hb dX1_begin_0 rfl (lv_at hl 0 rfl) ?_
  refine lv_iload_n hx hb dX1_begin_1 rfl (lv_at hl 1 rfl) ?_
  refine zr_iflt (tgt := 10) hx hb dX1_begin_2 (by decide) (by omega) ?_
  refine lv_iload_n hx hb dX1_begin_5 rfl (lv_at hl 1 rfl) ?_
  refine lv_iconst (v := nI 3) hx hb dX1_begin_6 (by decide) ?_
  refine zr_ile (tgt := 14) hx hb dX1_begin_7 (by decide) (by omega) (by omega) (fun _ => ?_) (fun hno9 => absurd hno9 (by omega))
  refine lv_iconst (v := nI 0) hx hb dX1_begin_14 (by decide) ?_
  refine zx_put1 (ws' := (zm_w cA mo 0 k (zk_n k) (zk_t k) F fa fb fc fd ++ wr)) hx hb hts hown hK hP hD hS 0 rfl 0 (by decide) zf_X1_32 rfl (by decide +kernel) (Nat.le_of_ble_eq_true rfl) dX1_begin_15 rfl (fun H locs hP hD hS => ?_)
  refine lv_aload_n hx hb dX1_begin_18 rfl (lv_at hl 0 rfl) ?_
  refine zx_get1 (v := .int (nI (0))) hx hb hts hown hK hP 0 rfl 0 (by decide) zf_X1_32 rfl dX1_begin_19 ?_
  refine zr_ifle (tgt := 27) hx hb dX1_begin_22 (by decide) (by omega) (fun _ => ?_) (fun hno9 => absurd hno9 (by omega))
  refine lv_aload_n hx hb dX1_begin_27 rfl (lv_at hl 0 rfl) ?_
  refine lv_iload_n hx hb dX1_begin_28 rfl (lv_at hl 1 rfl) ?_
  refine zx_put1 (ws' := (zm_w cA mo 0 x1 (zk_n k) (zk_t k) F fa fb fc fd ++ wr)) hx hb hts hown hK hP hD hS 0 rfl 1 (by decide) zf_X1_39 rfl (by decide +kernel) (Nat.le_of_ble_eq_true rfl) dX1_begin_29 rfl (fun H locs hP hD hS => ?_)
  refine lv_aload_n hx hb dX1_begin_32 rfl (lv_at hl 0 rfl) ?_
  refine lv_iconst (v := nI 4) hx hb dX1_begin_33 (by decide) ?_
  refine lv_iload_n hx hb dX1_begin_34 rfl (lv_at hl 1 rfl) ?_
  refine lv_ishl hx hb dX1_begin_35 ?_
  rw [zk_shl x1 hx1]
  refine zx_put1 (ws' := (zm_w cA mo 0 x1 (zk_n x1) (zk_t k) F fa fb fc fd ++ wr)) hx hb hts hown hK hP hD hS 0 rfl 2 (by decide) zf_X1_7 rfl (by decide +kernel) (Nat.le_of_ble_eq_true rfl) dX1_begin_36 rfl (fun H locs hP hD hS => ?_)
  refine lv_aload_n hx hb dX1_begin_39 rfl (lv_at hl 0 rfl) ?_
  refine lv_iload_n hx hb dX1_begin_40 rfl (lv_at hl 1 rfl) ?_
  refine lv_iconst (v := nI 2) hx hb dX1_begin_41 (by decide) ?_
  have h63 : W p l e (headSpec wzX1_begin (k2_rm 2 45)).room s m ([.ref (mo 0), .int (nI (x1))] : List Value).toArray below meth c H locs 0 0 (MQ below (va_Qi (fun r (u : zq_U) => r = nI (zk_z x1) ∧ ∀ j, j < 512 → u.1 j = 0) (zw_at (dC, dI) zz_cl ((cA, .int) :: tr) A (fun u : zq_U => zm_w cA mo 0 x1 (zk_n x1) (zk_t x1) u.1 u.2.1 u.2.2.1 u.2.2.2.1 u.2.2.2.2 ++ wr)) A) ([.ref (mo 0), .int (nI (x1))] : List Value).toArray s 0 0 A) (F0 m 63 ls [.int (nI (zk_t x1)), .ref (mo 0)]) := by
    refine zx_put1 (ws' := (zm_w cA mo 0 x1 (zk_n x1) (zk_t x1) F fa fb fc fd ++ wr)) hx hb hts hown hK hP hD hS 0 rfl 3 (by decide) zf_X1_13 rfl (by decide +kernel) (Nat.le_of_ble_eq_true rfl) dX1_begin_63 rfl (fun H locs hP hD hS => ?_)
    refine lv_iconst (v := nI 0) hx hb dX1_begin_66 (by decide) ?_
    refine lv_istore_n (lv' := [(2, .int (nI (0))), (0, .ref (mo 0)), (1, .int (nI (x1)))]) hx hb dX1_begin_67 rfl hl (by decide) rfl (fun ls hl => ?_)
    have loop : ∀ (d i : Nat), i + d = 512 → ∀ (G1 : Nat → Nat), (∀ j, j < i → G1 j = 0) → ∀ (H : Heap) (locs : List Loc), va_P (dC, dI) zz_cl (zm_w cA mo 0 x1 (zk_n x1) (zk_t x1) G1 fa fb fc fd ++ wr) H → va_D A (zm_w cA mo 0 x1 (zk_n x1) (zk_t x1) G1 fa fb fc fd ++ wr) → va_S A s.heap H locs → ∀ ls, lv_has ls 3 [(0, .ref (mo 0)), (1, .int (nI (x1))), (2, .int (nI (i)))] → W p l e (headSpec wzX1_begin (k2_rm 2 45)).room s m ([.ref (mo 0), .int (nI (x1))] : List Value).toArray below meth c H locs 0 0 (MQ below (va_Qi (fun r (u : zq_U) => r = nI (zk_z x1) ∧ ∀ j, j < 512 → u.1 j = 0) (zw_at (dC, dI) zz_cl ((cA, .int) :: tr) A (fun u : zq_U => zm_w cA mo 0 x1 (zk_n x1) (zk_t x1) u.1 u.2.1 u.2.2.1 u.2.2.2.1 u.2.2.2.2 ++ wr)) A) ([.ref (mo 0), .int (nI (x1))] : List Value).toArray s 0 0 A) (F0 m 68 ls []) := by
      intro d
      induction d with
      | zero =>
        intro i hi G1 hinv H locs hP hD hS ls hl
        have hi : i = 512 := by omega
        subst hi
        refine lv_iload_n hx hb dX1_begin_68 rfl (lv_at hl 2 rfl) ?_
        refine lv_aload_n hx hb dX1_begin_69 rfl (lv_at hl 0 rfl) ?_
        refine zx_get1 (v := .ref (mo 1)) hx hb hts hown hK hP 0 rfl 4 (by decide) zf_X1_16 rfl dX1_begin_70 ?_
        refine va_alen (v := nI 512) hx hb hK hP 1 0 rfl rfl rfl dX1_begin_73 ?_
        refine zr_ige (tgt := 90) hx hb dX1_begin_74 (by decide) (by omega) (by omega) (fun _ => ?_) (fun hno9 => absurd hno9 (by omega))
        refine lv_aload_n hx hb dX1_begin_90 rfl (lv_at hl 0 rfl) ?_
        refine zr_callq (zx_runV (As := []) (rest := []) hx hb hml hts hown (cm_least l dC dI cA tr wr mo 0 x1 G1 fa fb fc fd hx1) zv_X1_42 rfl rfl ⟨Nat.le_of_ble_eq_true rfl, Nat.le_of_ble_eq_true rfl⟩ (zr_preV (q := (RX1, TM1, 9)) (ci := 1) (q0 := 0) hP hK rfl rfl) rfl hl.1 rfl (Nat.le_of_ble_eq_true rfl) dX1_begin_91 ⟨Nat.zero_le _, Nat.zero_le _⟩) ?_
        exact W.iret (v := nI (zk_z x1)) hx hb hr (fun t9 h9 hW9 => ⟨⟨nI (zk_z x1), (G1, fa, fb, fc, fd), rfl, ⟨rfl, hinv⟩, by rw [h9]; exact hP, va_K.moved hW9.alike hK, hD⟩, hS.F h9⟩) hS.2.2 dX1_begin_94
      | succ d ih =>
        intro i hi G1 hinv H locs hP hD hS ls hl
        refine lv_iload_n hx hb dX1_begin_68 rfl (lv_at hl 2 rfl) ?_
        refine lv_aload_n hx hb dX1_begin_69 rfl (lv_at hl 0 rfl) ?_
        refine zx_get1 (v := .ref (mo 1)) hx hb hts hown hK hP 0 rfl 4 (by decide) zf_X1_16 rfl dX1_begin_70 ?_
        refine va_alen (v := nI 512) hx hb hK hP 1 0 rfl rfl rfl dX1_begin_73 ?_
        refine zr_ige (tgt := 90) hx hb dX1_begin_74 (by decide) (by omega) (by omega) (fun hno9 => absurd hno9 (by omega)) (fun _ => ?_)
        refine lv_aload_n hx hb dX1_begin_77 rfl (lv_at hl 0 rfl) ?_
        refine zx_get1 (v := .ref (mo 1)) hx hb hts hown hK hP 0 rfl 4 (by decide) zf_X1_16 rfl dX1_begin_78 ?_
        refine lv_iload_n hx hb dX1_begin_81 rfl (lv_at hl 2 rfl) ?_
        refine lv_iconst (v := nI 0) hx hb dX1_begin_82 (by decide) ?_
        refine zr_iast (ws' := (zm_w cA mo 0 x1 (zk_n x1) (zk_t x1) (zq_up G1 i 0) fa fb fc fd ++ wr)) hx hb hK hP hD hS 1 0 rfl rfl (by omega) (by decide) dX1_begin_83 rfl (fun H locs hP hD hS => ?_)
        refine zr_iinc (k := 2) (lv' := [(2, .int (nI (i + 1))), (0, .ref (mo 0)), (1, .int (nI (x1)))]) hx hb dX1_begin_84 hl rfl (by decide) rfl (fun ls hl => ?_)
        refine lv_goto (tgt := 68) hx hb dX1_begin_87 (by decide) ?_
        refine ih (i + 1) (by omega) _ (fun j hj => ?_) H locs hP hD hS ls (lv_sub hl [1, 2, 0] rfl)
        by_cases e9 : j = i
        · rw [e9, zq_up_s]
        · rw [zq_up_n _ _ e9]; exact hinv j (by omega)
    exact loop 512 0 (by omega) F (fun j hj => absurd hj (Nat.not_lt_zero _)) H locs hP hD hS ls (lv_sub hl [1, 2, 0] rfl)
  refine zr_ige (tgt := 50) hx hb dX1_begin_42 (by decide) (by omega) (by omega) (fun hc => ?_) (fun hc => ?_)
  · refine lv_iload_n hx hb dX1_begin_50 rfl (lv_at hl 1 rfl) ?_
    refine lv_iconst (v := nI 2) hx hb dX1_begin_51 (by decide) ?_
    refine zr_ine (tgt := 60) hx hb dX1_begin_52 (by decide) (by omega) (by omega) (fun hd => ?_) (fun hd => ?_)
    · have ht9 : zk_t x1 = 193 := by rcases (show x1 = 3 by omega) with rfl; rfl
      refine lv_sipush (v := nI 193) hx hb dX1_begin_60 (by decide) ?_
      rw [← ht9]; exact h63
    · have ht9 : zk_t x1 = 97 := by subst hd; rfl
      refine lv_bipush (v := nI 97) hx hb dX1_begin_55 (by decide) ?_
      refine lv_goto (tgt := 63) hx hb dX1_begin_57 (by decide) ?_
      rw [← ht9]; exact h63
  · have ht9 : zk_t x1 = 17 := by rcases (show x1 = 0 ∨ x1 = 1 by omega) with rfl | rfl <;> rfl
    refine lv_bipush (v := nI 17) hx hb dX1_begin_45 (by decide) ?_
    refine lv_goto (tgt := 63) hx hb dX1_begin_47 (by decide) ?_
    rw [← ht9]; exact h63
set_option maxHeartbeats 4000000 in
set_option maxRecDepth 100000 in
/-- begin(k): no such kind -/
theorem cm_begin_r (l : Launch) (dC : Nat → ClassId) (dI : Nat → Nat → Nat) (cA : ClassId) (tr : List (ClassId × FieldType)) (wr : va_W) (mo : Nat → Nat) (th k : Nat) (F fa fb fc fd : Nat → Nat) (hk : k < 4) (sz : Nat) (x1 : Int32) (hbad : x1 < 0 ∨ nI 4 ≤ x1) : Met l yX1_begin wzX1_begin (k2_rm 0 0) (zw_pre (dC, dI) zz_cl ((cA, .int) :: tr) (zm_w cA mo th k (zk_n k) (zk_t k) F fa fb fc fd ++ wr) sz [.ref (mo 0), .int (x1)]) (va_Qi (fun r (u : zq_U) => r = nI 0 ∧ u.1 = F) (zw_at (dC, dI) zz_cl ((cA, .int) :: tr) (va_A (zm_w cA mo th k (zk_n k) (zk_t k) F fa fb fc fd ++ wr) sz) (fun u : zq_U => zm_w cA mo 1 k (zk_n k) (zk_t k) u.1 u.2.1 u.2.2.1 u.2.2.2.1 u.2.2.2.2 ++ wr)) (va_A (zm_w cA mo th k (zk_n k) (zk_t k) F fa fb fc fd ++ wr) sz)) 0 0 (va_A (zm_w cA mo th k (zk_n k) (zk_t k) F fa fb fc fd ++ wr) sz) := by
  refine Met.ofW (cc := cX1_begin) (maxL := 3) (ret := (some .int)) (by decide) rfl ?_
  intro p e s m args below meth c s₁ B hml hv
  obtain ⟨rfl, hsz, hP, hK, hD0⟩ := hv
  have hx := B.exec
  have hb := B.bytes
  have hr := B.returns
  have hts := atoms_spec (ws := wzX1_begin) B.pre
  have hown : s.vm.findClass RX1 = some m.cls := findClass_of_methodNamed B.named
  have hlocks := B.notSynchronized
  subst hsz
  have hD := hD0.self (sz := s.heap.size)
  generalize hAe : va_A (zm_w cA mo th k (zk_n k) (zk_t k) F fa fb fc fd ++ wr) s.heap.size = A at hD ⊢
  have hA : ∀ q : Nat, s.heap.size ≤ q → A q := fun q h => by rw [← hAe]; exact Or.inr h
  have hS : va_S A s.heap s.heap [] := va_S.rf
  have hl := lv_entry ([.ref (mo 0), .int (x1)]) (n := 3) (Nat.le_of_ble_eq_true rfl)
  rw [lg_entry_eq]
  generalize (lg_sl ([.ref (mo 0), .int (x1)]) ++ List.replicate (3 - (lg_sl ([.ref (mo 0), .int (x1)])).length) Slot.unset).toArray = ls at hl ⊢
  have hl : lv_has ls 3 [(0, .ref (mo 0)), (1, .int (x1))] := hl
  obtain ⟨hb1, hb2, hb3, hb4, hb5, hb6, hb7, hb8⟩ := zk_b k hk
  have h10 : ∀ ls, lv_has ls 3 [(0, .ref (mo 0)), (1, .int (x1))] → W p l e (headSpec wzX1_begin (k2_rm 0 0)).room s m ([.ref (mo 0), .int (x1)] : List Value).toArray below meth c s.heap [] 0 0 (MQ below (va_Qi (fun r (u : zq_U) => r = nI 0 ∧ u.1 = F) (zw_at (dC, dI) zz_cl ((cA, .int) :: tr) A (fun u : zq_U => zm_w cA mo 1 k (zk_n k) (zk_t k) u.1 u.2.1 u.2.2.1 u.2.2.2.1 u.2.2.2.2 ++ wr)) A) ([.ref (mo 0), .int (x1)] : List Value).toArray s 0 0 A) (F0 m 10 ls [.ref (mo 0)]) := by
    intro ls hl
    refine lv_iconst (v := nI 1) hx hb dX1_begin_10 (by decide) ?_
    refine lv_goto (tgt := 15) hx hb dX1_begin_11 (by decide) ?_
    refine zx_put1 (ws' := (zm_w cA mo 1 k (zk_n k) (zk_t k) F fa fb fc fd ++ wr)) hx hb hts hown hK hP hD hS 0 rfl 0 (by decide) zf_X1_32 rfl (by decide +kernel) (Nat.le_of_ble_eq_true rfl) dX1_begin_15 rfl (fun H locs hP hD hS => ?_)
    refine lv_aload_n hx hb dX1_begin_18 rfl (lv_at hl 0 rfl) ?_
    refine zx_get1 (v := .int (nI (1))) hx hb hts hown hK hP 0 rfl 0 (by decide) zf_X1_32 rfl dX1_begin_19 ?_
    refine zr_ifle (tgt := 27) hx hb dX1_begin_22 (by decide) (by omega) (fun hno9 => absurd hno9 (by omega)) (fun _ => ?_)
    refine lv_iconst (v := nI 0) hx hb dX1_begin_25 (by decide) ?_
    exact W.iret (v := nI 0) hx hb hr (fun t9 h9 hW9 => ⟨⟨nI 0, (F, fa, fb, fc, fd), rfl, ⟨rfl, rfl⟩, by rw [h9]; exact hP, va_K.moved hW9.alike hK, hD⟩, hS.F h9⟩) hS.2.2 dX1_begin_26
  refine lv_aload_n hx hb dX1_begin_0 rfl (lv_at hl 0 rfl) ?_
  refine lv_iload_n hx hb dX1_begin_1 rfl (lv_at hl 1 rfl) ?_
  refine lv_if_lt (tgt := 10) hx hb dX1_begin_2 (by decide) (fun _ => h10 ls hl) (fun hn0 => ?_)
  refine lv_iload_n hx hb dX1_begin_5 rfl (lv_at hl 1 rfl) ?_
  refine lv_iconst (v := nI 3) hx hb dX1_begin_6 (by decide) ?_
  refine lv_icmp_le (tgt := 14) hx hb dX1_begin_7 (by decide) (fun hh => absurd hh (hbad.elim (fun h9 => absurd h9 hn0) (fun h9 => Int32.not_le.mpr (Int32.lt_of_lt_of_le (show nI 3 < nI 4 by decide) h9)))) (fun _ => h10 ls hl)
set_option maxHeartbeats 4000000 in
set_option maxRecDepth 100000 in
/-- X1_set -/
theorem cm_set (l : Launch) (dC : Nat → ClassId) (dI : Nat → Nat → Nat) (cA : ClassId) (tr : List (ClassId × FieldType)) (wr : va_W) (mo : Nat → Nat) (th k : Nat) (F fa fb fc fd : Nat → Nat) (hk : k < 4) (sz : Nat) (x1 : Nat) (hx1 : x1 < 16) (x2 : Nat) (hx2 : x2 < zk_n k) (v0 : Int) (y : Nat) (h1 : -2147483648 ≤ v0) (h2 : v0 < 2147483648) (hy : v0 % (zk_t k : Int) = (y : Int)) : Met l yX1_set wzX1_set (k2_rm 2 42) (zw_pre (dC, dI) zz_cl ((cA, .int) :: tr) (zm_w cA mo th k (zk_n k) (zk_t k) F fa fb fc fd ++ wr) sz [.ref (mo 0), .int (nI (x1)), .int (nI (x2)), .int (zi_I (v0))]) (va_Qi (fun r (u : zq_U) => r = nI (F (32 * x1 + x2)) ∧ u.1 = zq_up F (32 * x1 + x2) y) (zw_at (dC, dI) zz_cl ((cA, .int) :: tr) (va_A (zm_w cA mo th k (zk_n k) (zk_t k) F fa fb fc fd ++ wr) sz) (fun u : zq_U => zm_w cA mo 0 k (zk_n k) (zk_t k) u.1 u.2.1 u.2.2.1 u.2.2.2.1 u.2.2.2.2 ++ wr)) (va_A (zm_w cA mo th k (zk_n k) (zk_t k) F fa fb fc fd ++ wr) sz)) 0 0 (va_A (zm_w cA mo th k (zk_n k) (zk_t k) F fa fb fc fd ++ wr) sz) := by
  refine Met.ofW (cc := cX1_set) (maxL := 5) (ret := (some .int)) (by decide) rfl ?_
  intro p e s m args below meth c s₁ B hml hv
  obtain ⟨rfl, hsz, hP, hK, hD0⟩ := hv
  have hx := B.exec
  have hb := B.bytes
  have hr := B.returns
  have hts := atoms_spec (ws := wzX1_set) B.pre
  have hown : s.vm.findClass RX1 = some m.cls := findClass_of_methodNamed B.named
  have hlocks := B.notSynchronized
  subst hsz
  have hD := hD0.self (sz := s.heap.size)
  generalize hAe : va_A (zm_w cA mo th k (zk_n k) (zk_t k) F fa fb fc fd ++ wr) s.heap.size = A at hD ⊢
  have hA : ∀ q : Nat, s.heap.size ≤ q → A q := fun q h => by rw [← hAe]; exact Or.inr h
  have hS : va_S A s.heap s.heap [] := va_S.rf
  have hl := lv_entry ([.ref (mo 0), .int (nI (x1)), .int (nI (x2)), .int (zi_I (v0))]) (n := 5) (Nat.le_of_ble_eq_true rfl)
  rw [lg_entry_eq]
  generalize (lg_sl ([.ref (mo 0), .int (nI (x1)), .int (nI (x2)), .int (zi_I (v0))]) ++ List.replicate (5 - (lg_sl ([.ref (mo 0), .int (nI (x1)), .int (nI (x2)), .int (zi_I (v0))])).length) Slot.unset).toArray = ls at hl ⊢
  have hl : lv_has ls 5 [(0, .ref (mo 0)), (1, .int (nI (x1))), (2, .int (nI (x2))), (3, .int (zi_I (v0)))] := hl
  obtain ⟨hb1, hb2, hb3, hb4, hb5, hb6, hb7, hb8⟩ := zk_b k hk
  refine lv_aload_n hx hb dX1_set_0 rfl (lv_at hl 0 rfl) ?_
  refine lv_iload_n hx hb dX1_set_1 rfl (lv_at hl 1 rfl) ?_
  refine lv_iload_n hx hb dX1_set_2 rfl (lv_at hl 2 rfl) ?_
  refine zw_calli (w' := fun u : Unit => zm_w cA mo 0 k (zk_n k) (zk_t k) F fa fb fc fd ++ wr) hD hS hA (zx_runV (As := [.int (nI (x1)), .int (nI (x2))]) (rest := []) hx hb hml hts hown (cm_no0 l dC dI cA tr wr mo th k F fa fb fc fd hk s.heap.size x1 x2 (by omega) (by omega)) zv_X1_50 rfl rfl ⟨Nat.le_of_ble_eq_true rfl, Nat.le_of_ble_eq_true rfl⟩ (zw_preV (q := (RX1, TM1, 9)) (ci := 1) (q0 := 0) hP hK hD rfl rfl) rfl hl.1 rfl (Nat.le_of_ble_eq_true rfl) dX1_set_3 ⟨Nat.zero_le _, Nat.zero_le _⟩) (fun r9 u9 H locs hr9 hP hD hS => ?_)
  subst hr9
  refine zr_ifeq (tgt := 11) hx hb dX1_set_6 (by decide) (by omega) (fun _ => ?_) (fun hno9 => absurd hno9 (by omega))
  refine lv_aload_n hx hb dX1_set_11 rfl (lv_at hl 0 rfl) ?_
  refine zx_get1 (v := .ref (mo 1)) hx hb hts hown hK hP 0 rfl 4 (by decide) zf_X1_16 rfl dX1_set_12 ?_
  refine lv_bipush (v := nI 32) hx hb dX1_set_15 (by decide) ?_
  refine lv_iload_n hx hb dX1_set_17 rfl (lv_at hl 1 rfl) ?_
  refine zr_imul hx hb dX1_set_18 ?_
  refine lv_iload_n hx hb dX1_set_19 rfl (lv_at hl 2 rfl) ?_
  refine zr_iadd hx hb dX1_set_20 ?_
  refine zr_iald (y := F ((32 * x1) + x2)) hx hb hK hP 1 0 rfl rfl (by omega) (by decide) rfl dX1_set_21 ?_
  refine lv_istore (lv' := [(4, .int (nI (F ((32 * x1) + x2)))), (0, .ref (mo 0)), (1, .int (nI (x1))), (2, .int (nI (x2))), (3, .int (zi_I (v0)))]) hx hb dX1_set_22 hl (by decide) rfl (fun ls hl => ?_)
  refine lv_aload_n hx hb dX1_set_24 rfl (lv_at hl 1 rfl) ?_
  refine zx_get1 (v := .ref (mo 1)) hx hb hts hown hK hP 0 rfl 4 (by decide) zf_X1_16 rfl dX1_set_25 ?_
  refine lv_bipush (v := nI 32) hx hb dX1_set_28 (by decide) ?_
  refine lv_iload_n hx hb dX1_set_30 rfl (lv_at hl 2 rfl) ?_
  refine zr_imul hx hb dX1_set_31 ?_
  refine lv_iload_n hx hb dX1_set_32 rfl (lv_at hl 3 rfl) ?_
  refine zr_iadd hx hb dX1_set_33 ?_
  refine lv_aload_n hx hb dX1_set_34 rfl (lv_at hl 1 rfl) ?_
  refine lv_iload_n hx hb dX1_set_35 rfl (lv_at hl 4 rfl) ?_
  refine zr_i2lZ hx hb dX1_set_36 (by omega) (by omega) ?_
  refine zr_callq (zx_runV (As := [.long (zi_L (v0))]) (rest := [.int (nI ((32 * x1) + x2)), .ref (mo 1)]) hx hb hml hts hown (cm_of l dC dI cA tr wr mo 0 k F fa fb fc fd hk v0 y (by omega) (by omega) hy) zv_X1_54 rfl rfl ⟨Nat.le_of_ble_eq_true rfl, Nat.le_of_ble_eq_true rfl⟩ (zr_preV (q := (RX1, TM1, 9)) (ci := 1) (q0 := 0) hP hK rfl rfl) rfl hl.1 rfl (Nat.le_of_ble_eq_true rfl) dX1_set_37 ⟨Nat.zero_le _, Nat.zero_le _⟩) ?_
  refine zr_iast (ws' := (zm_w cA mo 0 k (zk_n k) (zk_t k) (zq_up F ((32 * x1) + x2) y) fa fb fc fd ++ wr)) hx hb hK hP hD hS 1 0 rfl rfl (by omega) (by decide) dX1_set_40 rfl (fun H locs hP hD hS => ?_)
  refine lv_iload hx hb dX1_set_41 (lv_at hl 0 rfl) ?_
  exact W.iret (v := nI (F (32 * x1 + x2))) hx hb hr (fun t9 h9 hW9 => ⟨⟨nI (F (32 * x1 + x2)), (zq_up F ((32 * x1) + x2) y, fa, fb, fc, fd), rfl, ⟨rfl, rfl⟩, by rw [h9]; exact hP, va_K.moved hW9.alike hK, hD⟩, hS.F h9⟩) hS.2.2 dX1_set_43
set_option maxHeartbeats 4000000 in
set_option maxRecDepth 100000 in
/-- X1_get -/
theorem cm_get (l : Launch) (dC : Nat → ClassId) (dI : Nat → Nat → Nat) (cA : ClassId) (tr : List (ClassId × FieldType)) (wr : va_W) (mo : Nat → Nat) (th k : Nat) (F fa fb fc fd : Nat → Nat) (hk : k < 4) (sz : Nat) (x1 : Nat) (hx1 : x1 < 16) (x2 : Nat) (hx2 : x2 < zk_n k) : Met l yX1_get wzX1_get (k2_rm 2 42) (zw_pre (dC, dI) zz_cl ((cA, .int) :: tr) (zm_w cA mo th k (zk_n k) (zk_t k) F fa fb fc fd ++ wr) sz [.ref (mo 0), .int (nI (x1)), .int (nI (x2))]) (va_Qi (fun r (u : zq_U) => r = nI (F (32 * x1 + x2)) ∧ u.1 = F) (zw_at (dC, dI) zz_cl ((cA, .int) :: tr) (va_A (zm_w cA mo th k (zk_n k) (zk_t k) F fa fb fc fd ++ wr) sz) (fun u : zq_U => zm_w cA mo 0 k (zk_n k) (zk_t k) u.1 u.2.1 u.2.2.1 u.2.2.2.1 u.2.2.2.2 ++ wr)) (va_A (zm_w cA mo th k (zk_n k) (zk_t k) F fa fb fc fd ++ wr) sz)) 0 0 (va_A (zm_w cA mo th k (zk_n k) (zk_t k) F fa fb fc fd ++ wr) sz) := by
  refine Met.ofW (cc := cX1_get) (maxL := 3) (ret := (some .int)) (by decide) rfl ?_
  intro p e s m args below meth c s₁ B hml hv
  obtain ⟨rfl, hsz, hP, hK, hD0⟩ := hv
  have hx := B.exec
  have hb := B.bytes
  have hr := B.returns
  have hts := atoms_spec (ws := wzX1_get) B.pre
  have hown : s.vm.findClass RX1 = some m.cls := findClass_of_methodNamed B.named
  have hlocks := B.notSynchronized
  subst hsz
  have hD := hD0.self (sz := s.heap.size)
  generalize hAe : va_A (zm_w cA mo th k (zk_n k) (zk_t k) F fa fb fc fd ++ wr) s.heap.size = A at hD ⊢
  have hA : ∀ q : Nat, s.heap.size ≤ q → A q := fun q h => by rw [← hAe]; exact Or.inr h
  have hS : va_S A s.heap s.heap [] := va_S.rf
  have hl := lv_entry ([.ref (mo 0), .int (nI (x1)), .int (nI (x2))]) (n := 3) (Nat.le_of_ble_eq_true rfl)
  rw [lg_entry_eq]
  generalize (lg_sl ([.ref (mo 0), .int (nI (x1)), .int (nI (x2))]) ++ List.replicate (3 - (lg_sl ([.ref (mo 0), .int (nI (x1)), .int (nI (x2))])).length) Slot.unset).toArray = ls at hl ⊢
  have hl : lv_has ls 3 [(0, .ref (mo 0)), (1, .int (nI (x1))), (2, .int (nI (x2)))] := hl
  obtain ⟨hb1, hb2, hb3, hb4, hb5, hb6, hb7, hb8⟩ := zk_b k hk
  refine lv_aload_n hx hb dX1_get_0 rfl (lv_at hl 0 rfl) ?_
  refine lv_iload_n hx hb dX1_get_1 rfl (lv_at hl 1 rfl) ?_
  refine lv_iload_n hx hb dX1_get_2 rfl (lv_at hl 2 rfl) ?_
  refine zw_calli (w' := fun u : Unit => zm_w cA mo 0 k (zk_n k) (zk_t k) F fa fb fc fd ++ wr) hD hS hA (zx_runV (As := [.int (nI (x1)), .int (nI (x2))]) (rest := []) hx hb hml hts hown (cm_no0 l dC dI cA tr wr mo th k F fa fb fc fd hk s.heap.size x1 x2 (by omega) (by omega)) zv_X1_50 rfl rfl ⟨Nat.le_of_ble_eq_true rfl, Nat.le_of_ble_eq_true rfl⟩ (zw_preV (q := (RX1, TM1, 9)) (ci := 1) (q0 := 0) hP hK hD rfl rfl) rfl hl.1 rfl (Nat.le_of_ble_eq_true rfl) dX1_get_3 ⟨Nat.zero_le _, Nat.zero_le _⟩) (fun r9 u9 H locs hr9 hP hD hS => ?_)
  subst hr9
  refine zr_ifeq (tgt := 13) hx hb dX1_get_6 (by decide) (by omega) (fun _ => ?_) (fun hno9 => absurd hno9 (by omega))
  refine lv_aload_n hx hb dX1_get_13 rfl (lv_at hl 0 rfl) ?_
  refine zx_get1 (v := .ref (mo 1)) hx hb hts hown hK hP 0 rfl 4 (by decide) zf_X1_16 rfl dX1_get_14 ?_
  refine lv_bipush (v := nI 32) hx hb dX1_get_17 (by decide) ?_
  refine lv_iload_n hx hb dX1_get_19 rfl (lv_at hl 1 rfl) ?_
  refine zr_imul hx hb dX1_get_20 ?_
  refine lv_iload_n hx hb dX1_get_21 rfl (lv_at hl 2 rfl) ?_
  refine zr_iadd hx hb dX1_get_22 ?_
  refine zr_iald (y := F ((32 * x1) + x2)) hx hb hK hP 1 0 rfl rfl (by omega) (by decide) rfl dX1_get_23 ?_
  exact W.iret (v := nI (F (32 * x1 + x2))) hx hb hr (fun t9 h9 hW9 => ⟨⟨nI (F (32 * x1 + x2)), (F, fa, fb, fc, fd), rfl, ⟨rfl, rfl⟩, by rw [h9]; exact hP, va_K.moved hW9.alike hK, hD⟩, hS.F h9⟩) hS.2.2 dX1_get_24
set_option maxHeartbeats 4000000 in
set_option maxRecDepth 100000 in
/-- X1_value -/
theorem cm_value (l : Launch) (dC : Nat → ClassId) (dI : Nat → Nat → Nat) (cA : ClassId) (tr : List (ClassId × FieldType)) (wr : va_W) (mo : Nat → Nat) (th k : Nat) (F fa fb fc fd : Nat → Nat) (hk : k < 4) (sz : Nat) (x1 : Nat) (hx1 : x1 < 16) (x2 : Nat) (hx2 : x2 < zk_n k) (hF : ∀ r j, r < 16 → j < zk_n k → F (32 * r + j) < zk_t k) : Met l yX1_value wzX1_value (k2_rm 3 70) (zw_pre (dC, dI) zz_cl ((cA, .int) :: tr) (zm_w cA mo th k (zk_n k) (zk_t k) F fa fb fc fd ++ wr) sz [.ref (mo 0), .int (nI (x1)), .int (nI (x2))]) (va_Qi (fun r (u : zq_U) => r = nI (zq_av k (zq_rw F x1) x2) ∧ u.1 = F) (zw_at (dC, dI) zz_cl ((cA, .int) :: tr) (va_A (zm_w cA mo th k (zk_n k) (zk_t k) F fa fb fc fd ++ wr) sz) (fun u : zq_U => zm_w cA mo 0 k (zk_n k) (zk_t k) u.1 u.2.1 u.2.2.1 u.2.2.2.1 u.2.2.2.2 ++ wr)) (va_A (zm_w cA mo th k (zk_n k) (zk_t k) F fa fb fc fd ++ wr) sz)) 0 0 (va_A (zm_w cA mo th k (zk_n k) (zk_t k) F fa fb fc fd ++ wr) sz) := by
  refine Met.ofW (cc := cX1_value) (maxL := 3) (ret := (some .int)) (by decide) rfl ?_
  intro p e s m args below meth c s₁ B hml hv
  obtain ⟨rfl, hsz, hP, hK, hD0⟩ := hv
  have hx := B.exec
  have hb := B.bytes
  have hr := B.returns
  have hts := atoms_spec (ws := wzX1_value) B.pre
  have hown : s.vm.findClass RX1 = some m.cls := findClass_of_methodNamed B.named
  have hlocks := B.notSynchronized
  subst hsz
  have hD := hD0.self (sz := s.heap.size)
  generalize hAe : va_A (zm_w cA mo th k (zk_n k) (zk_t k) F fa fb fc fd ++ wr) s.heap.size = A at hD ⊢
  have hA : ∀ q : Nat, s.heap.size ≤ q → A q := fun q h => by rw [← hAe]; exact Or.inr h
  have hS : va_S A s.heap s.heap [] := va_S.rf
  have hl := lv_entry ([.ref (mo 0), .int (nI (x1)), .int (nI (x2))]) (n := 3) (Nat.le_of_ble_eq_true rfl)
  rw [lg_entry_eq]
  generalize (lg_sl ([.ref (mo 0), .int (nI (x1)), .int (nI (x2))]) ++ List.replicate (3 - (lg_sl ([.ref (mo 0), .int (nI (x1)), .int (nI (x2))])).length) Slot.unset).toArray = ls at hl ⊢
  have hl : lv_has ls 3 [(0, .ref (mo 0)), (1, .int (nI (x1))), (2, .int (nI (x2)))] := hl
  obtain ⟨hb1, hb2, hb3, hb4, hb5, hb6, hb7, hb8⟩ := zk_b k hk
  refine lv_aload_n hx hb dX1_value_0 rfl (lv_at hl 0 rfl) ?_
  refine lv_iload_n hx hb dX1_value_1 rfl (lv_at hl 1 rfl) ?_
  refine lv_iload_n hx hb dX1_value_2 rfl (lv_at hl 2 rfl) ?_
  refine zw_calli (w' := fun u : Unit => zm_w cA mo 0 k (zk_n k) (zk_t k) F fa fb fc fd ++ wr) hD hS hA (zx_runV (As := [.int (nI (x1)), .int (nI (x2))]) (rest := []) hx hb hml hts hown (cm_no0 l dC dI cA tr wr mo th k F fa fb fc fd hk s.heap.size x1 x2 (by omega) (by omega)) zv_X1_50 rfl rfl ⟨Nat.le_of_ble_eq_true rfl, Nat.le_of_ble_eq_true rfl⟩ (zw_preV (q := (RX1, TM1, 9)) (ci := 1) (q0 := 0) hP hK hD rfl rfl) rfl hl.1 rfl (Nat.le_of_ble_eq_true rfl) dX1_value_3 ⟨Nat.zero_le _, Nat.zero_le _⟩) (fun r9 u9 H locs hr9 hP hD hS => ?_)
  subst hr9
  refine zr_ifeq (tgt := 11) hx hb dX1_value_6 (by decide) (by omega) (fun _ => ?_) (fun hno9 => absurd hno9 (by omega))
  refine lv_aload_n hx hb dX1_value_11 rfl (lv_at hl 0 rfl) ?_
  refine lv_iload_n hx hb dX1_value_12 rfl (lv_at hl 1 rfl) ?_
  refine lv_aload_n hx hb dX1_value_13 rfl (lv_at hl 0 rfl) ?_
  refine zx_get1 (v := .ref (mo 2)) hx hb hts hown hK hP 0 rfl 5 (by decide) zf_X1_20 rfl dX1_value_14 ?_
  refine zw_callv (w' := fun u : Nat → Nat => zm_w cA mo 0 k (zk_n k) (zk_t k) F u fb fc fd ++ wr) hD hS hA (zx_runV (As := [.int (nI (x1)), .ref (mo 2)]) (rest := []) hx hb hml hts hown (cm_take2 l dC dI cA tr wr mo 0 k F fa fb fc fd hk H.size x1 (by omega)) zv_X1_62 rfl rfl ⟨Nat.le_of_ble_eq_true rfl, Nat.le_of_ble_eq_true rfl⟩ (zw_preV (q := (RX1, TM1, 9)) (ci := 1) (q0 := 0) hP hK hD rfl rfl) rfl hl.1 rfl (Nat.le_of_ble_eq_true rfl) dX1_value_17 ⟨Nat.zero_le _, Nat.zero_le _⟩) (fun ua H locs hua hP hD hS => ?_)
  have hlua : ∀ j, j < zk_n k → ua j < zk_t k := fun j hj => by rw [hua j hj]; exact hF x1 j (by omega) hj
  refine lv_aload_n hx hb dX1_value_20 rfl (lv_at hl 0 rfl) ?_
  refine lv_aload_n hx hb dX1_value_21 rfl (lv_at hl 0 rfl) ?_
  refine zx_get1 (v := .ref (mo 2)) hx hb hts hown hK hP 0 rfl 5 (by decide) zf_X1_20 rfl dX1_value_22 ?_
  refine lv_iload_n hx hb dX1_value_25 rfl (lv_at hl 2 rfl) ?_
  refine zr_callq (zx_runV (As := [.ref (mo 2), .int (nI (x2))]) (rest := []) hx hb hml hts hown (cm_at l dC dI cA tr wr mo 0 k F ua fb fc fd hk 2 (mo 2) ua rfl hlua x2 (by omega)) zv_X1_58 rfl rfl ⟨Nat.le_of_ble_eq_true rfl, Nat.le_of_ble_eq_true rfl⟩ (zr_preV (q := (RX1, TM1, 9)) (ci := 1) (q0 := 0) hP hK rfl rfl) rfl hl.1 rfl (Nat.le_of_ble_eq_true rfl) dX1_value_26 ⟨Nat.zero_le _, Nat.zero_le _⟩) ?_
  exact W.iret (v := nI (zq_av k ua x2)) hx hb hr (fun t9 h9 hW9 => ⟨⟨nI (zq_av k ua x2), (F, ua, fb, fc, fd), rfl, ⟨congrArg nI (zq_av_congr hua x2), rfl⟩, by rw [h9]; exact hP, va_K.moved hW9.alike hK, hD⟩, hS.F h9⟩) hS.2.2 dX1_value_29
set_option maxHeartbeats 4000000 in
set_option maxRecDepth 100000 in
/-- X1_setValue -/
theorem cm_setValue (l : Launch) (dC : Nat → ClassId) (dI : Nat → Nat → Nat) (cA : ClassId) (tr : List (ClassId × FieldType)) (wr : va_W) (mo : Nat → Nat) (th k : Nat) (F fa fb fc fd : Nat → Nat) (hk : k < 4) (sz : Nat) (x1 : Nat) (hx1 : x1 < 16) (x2 : Nat) (hx2 : x2 < zk_n k) (v0 : Int) (y : Nat) (h1 : -2147483648 ≤ v0) (h2 : v0 < 2147483648) (hy : v0 % (zk_t k : Int) = (y : Int)) (hF : ∀ r j, r < 16 → j < zk_n k → F (32 * r + j) < zk_t k) : Met l yX1_setValue wzX1_setValue (k2_rm 3 71) (zw_pre (dC, dI) zz_cl ((cA, .int) :: tr) (zm_w cA mo th k (zk_n k) (zk_t k) F fa fb fc fd ++ wr) sz [.ref (mo 0), .int (nI (x1)), .int (nI (x2)), .int (zi_I (v0))]) (va_Qi (fun r (u : zq_U) => r = nI (zq_av k (zq_rw F x1) x2) ∧ zq_fr k F x1 (fun i => if i = x2 then y else zq_av k (zq_rw F x1) i) u.1) (zw_at (dC, dI) zz_cl ((cA, .int) :: tr) (va_A (zm_w cA mo th k (zk_n k) (zk_t k) F fa fb fc fd ++ wr) sz) (fun u : zq_U => zm_w cA mo 0 k (zk_n k) (zk_t k) u.1 u.2.1 u.2.2.1 u.2.2.2.1 u.2.2.2.2 ++ wr)) (va_A (zm_w cA mo th k (zk_n k) (zk_t k) F fa fb fc fd ++ wr) sz)) 0 0 (va_A (zm_w cA mo th k (zk_n k) (zk_t k) F fa fb fc fd ++ wr) sz) := by
  refine Met.ofW (cc := cX1_setValue) (maxL := 5) (ret := (some .int)) (by decide) rfl ?_
  intro p e s m args below meth c s₁ B hml hv
  obtain ⟨rfl, hsz, hP, hK, hD0⟩ := hv
  have hx := B.exec
  have hb := B.bytes
  have hr := B.returns
  have hts := atoms_spec (ws := wzX1_setValue) B.pre
  have hown : s.vm.findClass RX1 = some m.cls := findClass_of_methodNamed B.named
  have hlocks := B.notSynchronized
  subst hsz
  have hD := hD0.self (sz := s.heap.size)
  generalize hAe : va_A (zm_w cA mo th k (zk_n k) (zk_t k) F fa fb fc fd ++ wr) s.heap.size = A at hD ⊢
  have hA : ∀ q : Nat, s.heap.size ≤ q → A q := fun q h => by rw [← hAe]; exact Or.inr h
  have hS : va_S A s.heap s.heap [] := va_S.rf
  have hl := lv_entry ([.ref (mo 0), .int (nI (x1)), .int (nI (x2)), .int (zi_I (v0))]) (n := 5) (Nat.le_of_ble_eq_true rfl)
  rw [lg_entry_eq]
  generalize (lg_sl ([.ref (mo 0), .int (nI (x1)), .int (nI (x2)), .int (zi_I (v0))]) ++ List.replicate (5 - (lg_sl ([.ref (mo 0), .int (nI (x1)), .int (nI (x2)), .int (zi_I (v0))])).length) Slot.unset).toArray = ls at hl ⊢
  have hl : lv_has ls 5 [(0, .ref (mo 0)), (1, .int (nI (x1))), (2, .int (nI (x2))), (3, .int (zi_I (v0)))] := hl
  obtain ⟨hb1, hb2, hb3, hb4, hb5, hb6, hb7, hb8⟩ := zk_b k hk
  have hyt : y < zk_t k := by have h9 := Int.emod_lt_of_pos v0 (show (0 : Int) < (zk_t k : Int) by omega); omega
  refine lv_aload_n hx hb dX1_setValue_0 rfl (lv_at hl 0 rfl) ?_
  refine lv_iload_n hx hb dX1_setValue_1 rfl (lv_at hl 1 rfl) ?_
  refine lv_iload_n hx hb dX1_setValue_2 rfl (lv_at hl 2 rfl) ?_
  refine zw_calli (w' := fun u : Unit => zm_w cA mo 0 k (zk_n k) (zk_t k) F fa fb fc fd ++ wr) hD hS hA (zx_runV (As := [.int (nI (x1)), .int (nI (x2))]) (rest := []) hx hb hml hts hown (cm_no0 l dC dI cA tr wr mo th k F fa fb fc fd hk s.heap.size x1 x2 (by omega) (by omega)) zv_X1_50 rfl rfl ⟨Nat.le_of_ble_eq_true rfl, Nat.le_of_ble_eq_true rfl⟩ (zw_preV (q := (RX1, TM1, 9)) (ci := 1) (q0 := 0) hP hK hD rfl rfl) rfl hl.1 rfl (Nat.le_of_ble_eq_true rfl) dX1_setValue_3 ⟨Nat.zero_le _, Nat.zero_le _⟩) (fun r9 u9 H locs hr9 hP hD hS => ?_)
  subst hr9
  refine zr_ifeq (tgt := 11) hx hb dX1_setValue_6 (by decide) (by omega) (fun _ => ?_) (fun hno9 => absurd hno9 (by omega))
  refine lv_aload_n hx hb dX1_setValue_11 rfl (lv_at hl 0 rfl) ?_
  refine lv_iload_n hx hb dX1_setValue_12 rfl (lv_at hl 1 rfl) ?_
  refine lv_aload_n hx hb dX1_setValue_13 rfl (lv_at hl 0 rfl) ?_
  refine zx_get1 (v := .ref (mo 2)) hx hb hts hown hK hP 0 rfl 5 (by decide) zf_X1_20 rfl dX1_setValue_14 ?_
  refine zw_callv (w' := fun u : Nat → Nat => zm_w cA mo 0 k (zk_n k) (zk_t k) F u fb fc fd ++ wr) hD hS hA (zx_runV (As := [.int (nI (x1)), .ref (mo 2)]) (rest := []) hx hb hml hts hown (cm_take2 l dC dI cA tr wr mo 0 k F fa fb fc fd hk H.size x1 (by omega)) zv_X1_62 rfl rfl ⟨Nat.le_of_ble_eq_true rfl, Nat.le_of_ble_eq_true rfl⟩ (zw_preV (q := (RX1, TM1, 9)) (ci := 1) (q0 := 0) hP hK hD rfl rfl) rfl hl.1 rfl (Nat.le_of_ble_eq_true rfl) dX1_setValue_17 ⟨Nat.zero_le _, Nat.zero_le _⟩) (fun ua H locs hua hP hD hS => ?_)
  have hlua : ∀ j, j < zk_n k → ua j < zk_t k := fun j hj => by rw [hua j hj]; exact hF x1 j (by omega) hj
  refine lv_aload_n hx hb dX1_setValue_20 rfl (lv_at hl 0 rfl) ?_
  refine lv_aload_n hx hb dX1_setValue_21 rfl (lv_at hl 0 rfl) ?_
  refine zx_get1 (v := .ref (mo 2)) hx hb hts hown hK hP 0 rfl 5 (by decide) zf_X1_20 rfl dX1_setValue_22 ?_
  refine lv_iload_n hx hb dX1_setValue_25 rfl (lv_at hl 2 rfl) ?_
  refine zr_callq (zx_runV (As := [.ref (mo 2), .int (nI (x2))]) (rest := []) hx hb hml hts hown (cm_at l dC dI cA tr wr mo 0 k F ua fb fc fd hk 2 (mo 2) ua rfl hlua x2 (by omega)) zv_X1_58 rfl rfl ⟨Nat.le_of_ble_eq_true rfl, Nat.le_of_ble_eq_true rfl⟩ (zr_preV (q := (RX1, TM1, 9)) (ci := 1) (q0 := 0) hP hK rfl rfl) rfl hl.1 rfl (Nat.le_of_ble_eq_true rfl) dX1_setValue_26 ⟨Nat.zero_le _, Nat.zero_le _⟩) ?_
  have hav8 := zq_av_lt hk ua x2
  refine lv_istore (lv' := [(4, .int (nI (zq_av k ua x2))), (0, .ref (mo 0)), (1, .int (nI (x1))), (2, .int (nI (x2))), (3, .int (zi_I (v0)))]) hx hb dX1_setValue_29 hl (by decide) rfl (fun ls hl => ?_)
  refine lv_aload_n hx hb dX1_setValue_31 rfl (lv_at hl 1 rfl) ?_
  refine lv_aload_n hx hb dX1_setValue_32 rfl (lv_at hl 1 rfl) ?_
  refine zx_get1 (v := .ref (mo 2)) hx hb hts hown hK hP 0 rfl 5 (by decide) zf_X1_20 rfl dX1_setValue_33 ?_
  refine lv_iload_n hx hb dX1_setValue_36 rfl (lv_at hl 3 rfl) ?_
  refine lv_aload_n hx hb dX1_setValue_37 rfl (lv_at hl 1 rfl) ?_
  refine lv_aload_n hx hb dX1_setValue_38 rfl (lv_at hl 1 rfl) ?_
  refine lv_iload_n hx hb dX1_setValue_39 rfl (lv_at hl 4 rfl) ?_
  refine zr_i2lZ hx hb dX1_setValue_40 (by omega) (by omega) ?_
  refine zr_callq (zx_runV (As := [.long (zi_L (v0))]) (rest := [.ref (mo 0), .int (nI (x2)), .ref (mo 2), .ref (mo 0)]) hx hb hml hts hown (cm_of l dC dI cA tr wr mo 0 k F ua fb fc fd hk v0 y (by omega) (by omega) hy) zv_X1_54 rfl rfl ⟨Nat.le_of_ble_eq_true rfl, Nat.le_of_ble_eq_true rfl⟩ (zr_preV (q := (RX1, TM1, 9)) (ci := 1) (q0 := 0) hP hK rfl rfl) rfl hl.1 rfl (Nat.le_of_ble_eq_true rfl) dX1_setValue_41 ⟨Nat.zero_le _, Nat.zero_le _⟩) ?_
  refine lv_iload hx hb dX1_setValue_44 (lv_at hl 0 rfl) ?_
  refine zr_isubZ hx hb dX1_setValue_46 ?_
  refine zr_i2lZ hx hb dX1_setValue_47 (by omega) (by omega) ?_
  have hav9 := zq_av_lt hk ua x2
  obtain ⟨r9, hr9, he9⟩ := zi_em (((y : Nat) : Int) - ((zq_av k ua x2 : Nat) : Int)) (show 0 < zk_t k by omega)
  refine zr_callq (zx_runV (As := [.long (zi_L (((y : Nat) : Int) - ((zq_av k ua x2 : Nat) : Int)))]) (rest := [.int (nI (x2)), .ref (mo 2), .ref (mo 0)]) hx hb hml hts hown (cm_of l dC dI cA tr wr mo 0 k F ua fb fc fd hk (((y : Nat) : Int) - ((zq_av k ua x2 : Nat) : Int)) r9 (by omega) (by omega) he9) zv_X1_54 rfl rfl ⟨Nat.le_of_ble_eq_true rfl, Nat.le_of_ble_eq_true rfl⟩ (zr_preV (q := (RX1, TM1, 9)) (ci := 1) (q0 := 0) hP hK rfl rfl) rfl hl.1 rfl (Nat.le_of_ble_eq_true rfl) dX1_setValue_48 ⟨Nat.zero_le _, Nat.zero_le _⟩) ?_
  refine zw_callv (w' := fun u : Nat → Nat => zm_w cA mo 0 k (zk_n k) (zk_t k) F u fb fc fd ++ wr) hD hS hA (zx_runV (As := [.ref (mo 2), .int (nI (x2)), .int (nI (r9))]) (rest := []) hx hb hml hts hown (cm_add2 l dC dI cA tr wr mo 0 k F ua fb fc fd hk H.size x2 r9 (by omega) (by omega) hlua) zv_X1_66 rfl rfl ⟨Nat.le_of_ble_eq_true rfl, Nat.le_of_ble_eq_true rfl⟩ (zw_preV (q := (RX1, TM1, 9)) (ci := 1) (q0 := 0) hP hK hD rfl rfl) rfl hl.1 rfl (Nat.le_of_ble_eq_true rfl) dX1_setValue_51 ⟨Nat.zero_le _, Nat.zero_le _⟩) (fun ub H locs hub hP hD hS => ?_)
  refine lv_aload_n hx hb dX1_setValue_54 rfl (lv_at hl 1 rfl) ?_
  refine lv_iload_n hx hb dX1_setValue_55 rfl (lv_at hl 2 rfl) ?_
  refine lv_aload_n hx hb dX1_setValue_56 rfl (lv_at hl 1 rfl) ?_
  refine zx_get1 (v := .ref (mo 2)) hx hb hts hown hK hP 0 rfl 5 (by decide) zf_X1_20 rfl dX1_setValue_57 ?_
  refine zw_callv (w' := fun u : Nat → Nat => zm_w cA mo 0 k (zk_n k) (zk_t k) u ub fb fc fd ++ wr) hD hS hA (zx_runV (As := [.int (nI (x1)), .ref (mo 2)]) (rest := []) hx hb hml hts hown (cm_put2 l dC dI cA tr wr mo 0 k F ub fb fc fd hk H.size x1 (by omega)) zv_X1_70 rfl rfl ⟨Nat.le_of_ble_eq_true rfl, Nat.le_of_ble_eq_true rfl⟩ (zw_preV (q := (RX1, TM1, 9)) (ci := 1) (q0 := 0) hP hK hD rfl rfl) rfl hl.1 rfl (Nat.le_of_ble_eq_true rfl) dX1_setValue_60 ⟨Nat.zero_le _, Nat.zero_le _⟩) (fun uF H locs huF hP hD hS => ?_)
  refine lv_iload hx hb dX1_setValue_63 (lv_at hl 0 rfl) ?_
  exact W.iret (v := nI (zq_av k ua x2)) hx hb hr (fun t9 h9 hW9 => ⟨⟨nI (zq_av k ua x2), (uF, ub, fb, fc, fd), rfl, ⟨congrArg nI (zq_av_congr hua x2), zq_fr_put hk huF (fun j hj => by rw [hub.1 j hj]; exact Nat.mod_lt _ (by omega)) (fun i hi => by rw [zq_sv hk hx2 hyt he9 hub.1 hi]; show (if i = x2 then y else zq_av k ua i) = if i = x2 then y else _; rw [zq_av_congr hua i]; rfl)⟩, by rw [h9]; exact hP, va_K.moved hW9.alike hK, hD⟩, hS.F h9⟩) hS.2.2 dX1_setValue_65
set_option maxHeartbeats 4000000 in
set_option maxRecDepth 100000 in
/-- X1_set -/
theorem cm_set_r1 (l : Launch) (dC : Nat → ClassId) (dI : Nat → Nat → Nat) (cA : ClassId) (tr : List (ClassId × FieldType)) (wr : va_W) (mo : Nat → Nat) (th k : Nat) (F fa fb fc fd : Nat → Nat) (hk : k < 4) (sz : Nat) (x1 x2 : Int32) (hbad : x1 < 0 ∨ nI 16 ≤ x1) (x3 : Int32) : Met l yX1_set wzX1_set (k2_rm 2 42) (zw_pre (dC, dI) zz_cl ((cA, .int) :: tr) (zm_w cA mo th k (zk_n k) (zk_t k) F fa fb fc fd ++ wr) sz [.ref (mo 0), .int (x1), .int (x2), .int (x3)]) (va_Qi (fun r (u : zq_U) => r = nI 0 ∧ u.1 = F) (zw_at (dC, dI) zz_cl ((cA, .int) :: tr) (va_A (zm_w cA mo th k (zk_n k) (zk_t k) F fa fb fc fd ++ wr) sz) (fun u : zq_U => zm_w cA mo 1 k (zk_n k) (zk_t k) u.1 u.2.1 u.2.2.1 u.2.2.2.1 u.2.2.2.2 ++ wr)) (va_A (zm_w cA mo th k (zk_n k) (zk_t k) F fa fb fc fd ++ wr) sz)) 0 0 (va_A (zm_w cA mo th k (zk_n k) (zk_t k) F fa fb fc fd ++ wr) sz) := by
  refine Met.ofW (cc := cX1_set) (maxL := 5) (ret := (some .int)) (by decide) rfl ?_
  intro p e s m args below meth c s₁ B hml hv
  obtain ⟨rfl, hsz, hP, hK, hD0⟩ := hv
  have hx := B.exec
  have hb := B.bytes
  have hr := B.returns
  have hts := atoms_spec (ws := wzX1_set) B.pre
  have hown : s.vm.findClass RX1 = some m.cls := findClass_of_methodNamed B.named
  have hlocks := B.notSynchronized
  subst hsz
  have hD := hD0.self (sz := s.heap.size)
  generalize hAe : va_A (zm_w cA mo th k (zk_n k) (zk_t k) F fa fb fc fd ++ wr) s.heap.size = A at hD ⊢
  have hA : ∀ q : Nat, s.heap.size ≤ q → A q := fun q h => by rw [← hAe]; exact Or.inr h
  have hS : va_S A s.heap s.heap [] := va_S.rf
  have hl := lv_entry ([.ref (mo 0), .int (x1), .int (x2), .int (x3)]) (n := 5) (Nat.le_of_ble_eq_true rfl)
  rw [lg_entry_eq]
  generalize (lg_sl ([.ref (mo 0), .int (x1), .int (x2), .int (x3)]) ++ List.replicate (5 - (lg_sl ([.ref (mo 0), .int (x1), .int (x2), .int (x3)])).length) Slot.unset).toArray = ls at hl ⊢
  have hl : lv_has ls 5 [(0, .ref (mo 0)), (1, .int (x1)), (2, .int (x2)), (3, .int (x3))] := hl
  obtain ⟨hb1, hb2, hb3, hb4, hb5, hb6, hb7, hb8⟩ := zk_b k hk
  refine lv_aload_n hx hb dX1_set_0 rfl (lv_at hl 0 rfl) ?_
  refine lv_iload_n hx hb dX1_set_1 rfl (lv_at hl 1 rfl) ?_
  refine lv_iload_n hx hb dX1_set_2 rfl (lv_at hl 2 rfl) ?_
  refine zw_calli (w' := fun u : Unit => zm_w cA mo 1 k (zk_n k) (zk_t k) F fa fb fc fd ++ wr) hD hS hA (zx_runV (As := [.int (x1), .int (x2)]) (rest := []) hx hb hml hts hown (cm_no1 l dC dI cA tr wr mo th k F fa fb fc fd hk s.heap.size x1 x2 hbad) zv_X1_50 rfl rfl ⟨Nat.le_of_ble_eq_true rfl, Nat.le_of_ble_eq_true rfl⟩ (zw_preV (q := (RX1, TM1, 9)) (ci := 1) (q0 := 0) hP hK hD rfl rfl) rfl hl.1 rfl (Nat.le_of_ble_eq_true rfl) dX1_set_3 ⟨Nat.zero_le _, Nat.zero_le _⟩) (fun r9 u9 H locs hr9 hP hD hS => ?_)
  subst hr9
  refine zr_ifeq (tgt := 11) hx hb dX1_set_6 (by decide) (by omega) (fun hno9 => absurd hno9 (by omega)) (fun _ => ?_)
  refine lv_iconst (v := nI 0) hx hb dX1_set_9 (by decide) ?_
  exact W.iret (v := nI 0) hx hb hr (fun t9 h9 hW9 => ⟨⟨nI 0, (F, fa, fb, fc, fd), rfl, ⟨rfl, rfl⟩, by rw [h9]; exact hP, va_K.moved hW9.alike hK, hD⟩, hS.F h9⟩) hS.2.2 dX1_set_10
set_option maxHeartbeats 4000000 in
set_option maxRecDepth 100000 in
/-- X1_set -/
theorem cm_set_r2 (l : Launch) (dC : Nat → ClassId) (dI : Nat → Nat → Nat) (cA : ClassId) (tr : List (ClassId × FieldType)) (wr : va_W) (mo : Nat → Nat) (th k : Nat) (F fa fb fc fd : Nat → Nat) (hk : k < 4) (sz : Nat) (x1 : Nat) (hx1 : x1 < 16) (x2 : Int32) (hbad : x2 < 0 ∨ nI (zk_n k) ≤ x2) (x3 : Int32) : Met l yX1_set wzX1_set (k2_rm 2 42) (zw_pre (dC, dI) zz_cl ((cA, .int) :: tr) (zm_w cA mo th k (zk_n k) (zk_t k) F fa fb fc fd ++ wr) sz [.ref (mo 0), .int (nI (x1)), .int (x2), .int (x3)]) (va_Qi (fun r (u : zq_U) => r = nI 0 ∧ u.1 = F) (zw_at (dC, dI) zz_cl ((cA, .int) :: tr) (va_A (zm_w cA mo th k (zk_n k) (zk_t k) F fa fb fc fd ++ wr) sz) (fun u : zq_U => zm_w cA mo 1 k (zk_n k) (zk_t k) u.1 u.2.1 u.2.2.1 u.2.2.2.1 u.2.2.2.2 ++ wr)) (va_A (zm_w cA mo th k (zk_n k) (zk_t k) F fa fb fc fd ++ wr) sz)) 0 0 (va_A (zm_w cA mo th k (zk_n k) (zk_t k) F fa fb fc fd ++ wr) sz) := by
  refine Met.ofW (cc := cX1_set) (maxL := 5) (ret := (some .int)) (by decide) rfl ?_
  intro p e s m args below meth c s₁ B hml hv
  obtain ⟨rfl, hsz, hP, hK, hD0⟩ := hv
  have hx := B.exec
  have hb := B.bytes
  have hr := B.returns
  have hts := atoms_spec (ws := wzX1_set) B.pre
  have hown : s.vm.findClass RX1 = some m.cls := findClass_of_methodNamed B.named
  have hlocks := B.notSynchronized
  subst hsz
  have hD := hD0.self (sz := s.heap.size)
  generalize hAe : va_A (zm_w cA mo th k (zk_n k) (zk_t k) F fa fb fc fd ++ wr) s.heap.size = A at hD ⊢
  have hA : ∀ q : Nat, s.heap.size ≤ q → A q := fun q h => by rw [← hAe]; exact Or.inr h
  have hS : va_S A s.heap s.heap [] := va_S.rf
  have hl := lv_entry ([.ref (mo 0), .int (nI (x1)), .int (x2), .int (x3)]) (n := 5) (Nat.le_of_ble_eq_true rfl)
  rw [lg_entry_eq]
  generalize (lg_sl ([.ref (mo 0), .int (nI (x1)), .int (x2), .int (x3)]) ++ List.replicate (5 - (lg_sl ([.ref (mo 0), .int (nI (x1)), .int (x2), .int (x3)])).length) Slot.unset).toArray = ls at hl ⊢
  have hl : lv_has ls 5 [(0, .ref (mo 0)), (1, .int (nI (x1))), (2, .int (x2)), (3, .int (x3))] := hl
  obtain ⟨hb1, hb2, hb3, hb4, hb5, hb6, hb7, hb8⟩ := zk_b k hk
  refine lv_aload_n hx hb dX1_set_0 rfl (lv_at hl 0 rfl) ?_
  refine lv_iload_n hx hb dX1_set_1 rfl (lv_at hl 1 rfl) ?_
  refine lv_iload_n hx hb dX1_set_2 rfl (lv_at hl 2 rfl) ?_
  refine zw_calli (w' := fun u : Unit => zm_w cA mo 1 k (zk_n k) (zk_t k) F fa fb fc fd ++ wr) hD hS hA (zx_runV (As := [.int (nI (x1)), .int (x2)]) (rest := []) hx hb hml hts hown (cm_no2 l dC dI cA tr wr mo th k F fa fb fc fd hk s.heap.size x1 (by omega) x2 hbad) zv_X1_50 rfl rfl ⟨Nat.le_of_ble_eq_true rfl, Nat.le_of_ble_eq_true rfl⟩ (zw_preV (q := (RX1, TM1, 9)) (ci := 1) (q0 := 0) hP hK hD rfl rfl) rfl hl.1 rfl (Nat.le_of_ble_eq_true rfl) dX1_set_3 ⟨Nat.zero_le _, Nat.zero_le _⟩) (fun r9 u9 H locs hr9 hP hD hS => ?_)
  subst hr9
  refine zr_ifeq (tgt := 11) hx hb dX1_set_6 (by decide) (by omega) (fun hno9 => absurd hno9 (by omega)) (fun _ => ?_)
  refine lv_iconst (v := nI 0) hx hb dX1_set_9 (by decide) ?_
  exact W.iret (v := nI 0) hx hb hr (fun t9 h9 hW9 => ⟨⟨nI 0, (F, fa, fb, fc, fd), rfl, ⟨rfl, rfl⟩, by rw [h9]; exact hP, va_K.moved hW9.alike hK, hD⟩, hS.F h9⟩) hS.2.2 dX1_set_10
set_option maxHeartbeats 4000000 in
set_option maxRecDepth 100000 in
/-- X1_get -/
theorem cm_get_r1 (l : Launch) (dC : Nat → ClassId) (dI : Nat → Nat → Nat) (cA : ClassId) (tr : List (ClassId × FieldType)) (wr : va_W) (mo : Nat → Nat) (th k : Nat) (F fa fb fc fd : Nat → Nat) (hk : k < 4) (sz : Nat) (x1 x2 : Int32) (hbad : x1 < 0 ∨ nI 16 ≤ x1) : Met l yX1_get wzX1_get (k2_rm 2 42) (zw_pre (dC, dI) zz_cl ((cA, .int) :: tr) (zm_w cA mo th k (zk_n k) (zk_t k) F fa fb fc fd ++ wr) sz [.ref (mo 0), .int (x1), .int (x2)]) (va_Qi (fun r (u : zq_U) => r = nI 0 ∧ u.1 = F) (zw_at (dC, dI) zz_cl ((cA, .int) :: tr) (va_A (zm_w cA mo th k (zk_n k) (zk_t k) F fa fb fc fd ++ wr) sz) (fun u : zq_U => zm_w cA mo 1 k (zk_n k) (zk_t k) u.1 u.2.1 u.2.2.1 u.2.2.2.1 u.2.2.2.2 ++ wr)) (va_A (zm_w cA mo th k (zk_n k) (zk_t k) F fa fb fc fd ++ wr) sz)) 0 0 (va_A (zm_w cA mo th k (zk_n k) (zk_t k) F fa fb fc fd ++ wr) sz) := by
  refine Met.ofW (cc := cX1_get) (maxL := 3) (ret := (some .int)) (by decide) rfl ?_
  intro p e s m args below meth c s₁ B hml hv
  obtain ⟨rfl, hsz, hP, hK, hD0⟩ := hv
  have hx := B.exec
  have hb := B.bytes
  have hr := B.returns
  have hts := atoms_spec (ws := wzX1_get) B.pre
  have hown : s.vm.findClass RX1 = some m.cls := findClass_of_methodNamed B.named
  have hlocks := B.notSynchronized
  subst hsz
  have hD := hD0.self (sz := s.heap.size)
  generalize hAe : va_A (zm_w cA mo th k (zk_n k) (zk_t k) F fa fb fc fd ++ wr) s.heap.size = A at hD ⊢
  have hA : ∀ q : Nat, s.heap.size ≤ q → A q := fun q h => by rw [← hAe]; exact Or.inr h
  have hS : va_S A s.heap s.heap [] := va_S.rf
  have hl := lv_entry ([.ref (mo 0), .int (x1), .int (x2)]) (n := 3) (Nat.le_of_ble_eq_true rfl)
  rw [lg_entry_eq]
  generalize (lg_sl ([.ref (mo 0), .int (x1), .int (x2)]) ++ List.replicate (3 - (lg_sl ([.ref (mo 0), .int (x1), .int (x2)])).length) Slot.unset).toArray = ls at hl ⊢
  have hl : lv_has ls 3 [(0, .ref (mo 0)), (1, .int (x1)), (2, .int (x2))] := hl
  obtain ⟨hb1, hb2, hb3, hb4, hb5, hb6, hb7, hb8⟩ := zk_b k hk
  refine lv_aload_n hx hb dX1_get_0 rfl (lv_at hl 0 rfl) ?_
  refine lv_iload_n hx hb dX1_get_1 rfl (lv_at hl 1 rfl) ?_
  refine lv_iload_n hx hb dX1_get_2 rfl (lv_at hl 2 rfl) ?_
  refine zw_calli (w' := fun u : Unit => zm_w cA mo 1 k (zk_n k) (zk_t k) F fa fb fc fd ++ wr) hD hS hA (zx_runV (As := [.int (x1), .int (x2)]) (rest := []) hx hb hml hts hown (cm_no1 l dC dI cA tr wr mo th k F fa fb fc fd hk s.heap.size x1 x2 hbad) zv_X1_50 rfl rfl ⟨Nat.le_of_ble_eq_true rfl, Nat.le_of_ble_eq_true rfl⟩ (zw_preV (q := (RX1, TM1, 9)) (ci := 1) (q0 := 0) hP hK hD rfl rfl) rfl hl.1 rfl (Nat.le_of_ble_eq_true rfl) dX1_get_3 ⟨Nat.zero_le _, Nat.zero_le _⟩) (fun r9 u9 H locs hr9 hP hD hS => ?_)
  subst hr9
  refine zr_ifeq (tgt := 13) hx hb dX1_get_6 (by decide) (by omega) (fun hno9 => absurd hno9 (by omega)) (fun _ => ?_)
  refine lv_iconst (v := nI 0) hx hb dX1_get_9 (by decide) ?_
  refine lv_goto (tgt := 24) hx hb dX1_get_10 (by decide) ?_
  exact W.iret (v := nI 0) hx hb hr (fun t9 h9 hW9 => ⟨⟨nI 0, (F, fa, fb, fc, fd), rfl, ⟨rfl, rfl⟩, by rw [h9]; exact hP, va_K.moved hW9.alike hK, hD⟩, hS.F h9⟩) hS.2.2 dX1_get_24
set_option maxHeartbeats 4000000 in
set_option maxRecDepth 100000 in
/-- X1_get -/
theorem cm_get_r2 (l : Launch) (dC : Nat → ClassId) (dI : Nat → Nat → Nat) (cA : ClassId) (tr : List (ClassId × FieldType)) (wr : va_W) (mo : Nat → Nat) (th k : Nat) (F fa fb fc fd : Nat → Nat) (hk : k < 4) (sz : Nat) (x1 : Nat) (hx1 : x1 < 16) (x2 : Int32) (hbad : x2 < 0 ∨ nI (zk_n k) ≤ x2) : Met l yX1_get wzX1_get (k2_rm 2 42) (zw_pre (dC, dI) zz_cl ((cA, .int) :: tr) (zm_w cA mo th k (zk_n k) (zk_t k) F fa fb fc fd ++ wr) sz [.ref (mo 0), .int (nI (x1)), .int (x2)]) (va_Qi (fun r (u : zq_U) => r = nI 0 ∧ u.1 = F) (zw_at (dC, dI) zz_cl ((cA, .int) :: tr) (va_A (zm_w cA mo th k (zk_n k) (zk_t k) F fa fb fc fd ++ wr) sz) (fun u : zq_U => zm_w cA mo 1 k (zk_n k) (zk_t k) u.1 u.2.1 u.2.2.1 u.2.2.2.1 u.2.2.2.2 ++ wr)) (va_A (zm_w cA mo th k (zk_n k) (zk_t k) F fa fb fc fd ++ wr) sz)) 0 0 (va_A (zm_w cA mo th k (zk_n k) (zk_t k) F fa fb fc fd ++ wr) sz) := by
  refine Met.ofW (cc := cX1_get) (maxL := 3) (ret := (some .int)) (by decide) rfl ?_
  intro p e s m args below meth c s₁ B hml hv
  obtain ⟨rfl, hsz, hP, hK, hD0⟩ := hv
  have hx := B.exec
  have hb := B.bytes
  have hr := B.returns
  have hts := atoms_spec (ws := wzX1_get) B.pre
  have hown : s.vm.findClass RX1 = some m.cls := findClass_of_methodNamed B.named
  have hlocks := B.notSynchronized
  subst hsz
  have hD := hD0.self (sz := s.heap.size)
  generalize hAe : va_A (zm_w cA mo th k (zk_n k) (zk_t k) F fa fb fc fd ++ wr) s.heap.size = A at hD ⊢
  have hA : ∀ q : Nat, s.heap.size ≤ q → A q := fun q h => by rw [← hAe]; exact Or.inr h
  have hS : va_S A s.heap s.heap [] := va_S.rf
  have hl := lv_entry ([.ref (mo 0), .int (nI (x1)), .int (x2)]) (n := 3) (Nat.le_of_ble_eq_true rfl)
  rw [lg_entry_eq]
  generalize (lg_sl ([.ref (mo 0), .int (nI (x1)), .int (x2)]) ++ List.replicate (3 - (lg_sl ([.ref (mo 0), .int (nI (x1)), .int (x2)])).length) Slot.unset).toArray = ls at hl ⊢
  have hl : lv_has ls 3 [(0, .ref (mo 0)), (1, .int (nI (x1))), (2, .int (x2))] := hl
  obtain ⟨hb1, hb2, hb3, hb4, hb5, hb6, hb7, hb8⟩ := zk_b k hk
  refine lv_aload_n hx hb dX1_get_0 rfl (lv_at hl 0 rfl) ?_
  refine lv_iload_n hx hb dX1_get_1 rfl (lv_at hl 1 rfl) ?_
  refine lv_iload_n hx hb dX1_get_2 rfl (lv_at hl 2 rfl) ?_
  refine zw_calli (w' := fun u : Unit => zm_w cA mo 1 k (zk_n k) (zk_t k) F fa fb fc fd ++ wr) hD hS hA (zx_runV (As := [.int (nI (x1)), .int (x2)]) (rest := []) hx hb hml hts hown (cm_no2 l dC dI cA tr wr mo th k F fa fb fc fd hk s.heap.size x1 (by omega) x2 hbad) zv_X1_50 rfl rfl ⟨Nat.le_of_ble_eq_true rfl, Nat.le_of_ble_eq_true rfl⟩ (zw_preV (q := (RX1, TM1, 9)) (ci := 1) (q0 := 0) hP hK hD rfl rfl) rfl hl.1 rfl (Nat.le_of_ble_eq_true rfl) dX1_get_3 ⟨Nat.zero_le _, Nat.zero_le _⟩) (fun r9 u9 H locs hr9 hP hD hS => ?_)
  subst hr9
  refine zr_ifeq (tgt := 13) hx hb dX1_get_6 (by decide) (by omega) (fun hno9 => absurd hno9 (by omega)) (fun _ => ?_)
  refine lv_iconst (v := nI 0) hx hb dX1_get_9 (by decide) ?_
  refine lv_goto (tgt := 24) hx hb dX1_get_10 (by decide) ?_
  exact W.iret (v := nI 0) hx hb hr (fun t9 h9 hW9 => ⟨⟨nI 0, (F, fa, fb, fc, fd), rfl, ⟨rfl, rfl⟩, by rw [h9]; exact hP, va_K.moved hW9.alike hK, hD⟩, hS.F h9⟩) hS.2.2 dX1_get_24
set_option maxHeartbeats 4000000 in
set_option maxRecDepth 100000 in
/-- X1_setValue -/
theorem cm_setValue_r1 (l : Launch) (dC : Nat → ClassId) (dI : Nat → Nat → Nat) (cA : ClassId) (tr : List (ClassId × FieldType)) (wr : va_W) (mo : Nat → Nat) (th k : Nat) (F fa fb fc fd : Nat → Nat) (hk : k < 4) (sz : Nat) (x1 x2 : Int32) (hbad : x1 < 0 ∨ nI 16 ≤ x1) (x3 : Int32) : Met l yX1_setValue wzX1_setValue (k2_rm 2 42) (zw_pre (dC, dI) zz_cl ((cA, .int) :: tr) (zm_w cA mo th k (zk_n k) (zk_t k) F fa fb fc fd ++ wr) sz [.ref (mo 0), .int (x1), .int (x2), .int (x3)]) (va_Qi (fun r (u : zq_U) => r = nI 0 ∧ u.1 = F) (zw_at (dC, dI) zz_cl ((cA, .int) :: tr) (va_A (zm_w cA mo th k (zk_n k) (zk_t k) F fa fb fc fd ++ wr) sz) (fun u : zq_U => zm_w cA mo 1 k (zk_n k) (zk_t k) u.1 u.2.1 u.2.2.1 u.2.2.2.1 u.2.2.2.2 ++ wr)) (va_A (zm_w cA mo th k (zk_n k) (zk_t k) F fa fb fc fd ++ wr) sz)) 0 0 (va_A (zm_w cA mo th k (zk_n k) (zk_t k) F fa fb fc fd ++ wr) sz) := by
  refine Met.ofW (cc := cX1_setValue) (maxL := 5) (ret := (some .int)) (by decide) rfl ?_
  intro p e s m args below meth c s₁ B hml hv
  obtain ⟨rfl, hsz, hP, hK, hD0⟩ := hv
  have hx := B.exec
  have hb := B.bytes
  have hr := B.returns
  have hts := atoms_spec (ws := wzX1_setValue) B.pre
  have hown : s.vm.findClass RX1 = some m.cls := findClass_of_methodNamed B.named
  have hlocks := B.notSynchronized
  subst hsz
  have hD := hD0.self (sz := s.heap.size)
  generalize hAe : va_A (zm_w cA mo th k (zk_n k) (zk_t k) F fa fb fc fd ++ wr) s.heap.size = A at hD ⊢
  have hA : ∀ q : Nat, s.heap.size ≤ q → A q := fun q h => by rw [← hAe]; exact Or.inr h
  have hS : va_S A s.heap s.heap [] := va_S.rf
  have hl := lv_entry ([.ref (mo 0), .int (x1), .int (x2), .int (x3)]) (n := 5) (Nat.le_of_ble_eq_true rfl)
  rw [lg_entry_eq]
  generalize (lg_sl ([.ref (mo 0), .int (x1), .int (x2), .int (x3)]) ++ List.replicate (5 - (lg_sl ([.ref (mo 0), .int (x1), .int (x2), .int (x3)])).length) Slot.unset).toArray = ls at hl ⊢
  have hl : lv_has ls 5 [(0, .ref (mo 0)), (1, .int (x1)), (2, .int (x2)), (3, .int (x3))] := hl
  obtain ⟨hb1, hb2, hb3, hb4, hb5, hb6, hb7, hb8⟩ := zk_b k hk
  refine lv_aload_n hx hb dX1_setValue_0 rfl (lv_at hl 0 rfl) ?_
  refine lv_iload_n hx hb dX1_setValue_1 rfl (lv_at hl 1 rfl) ?_
  refine lv_iload_n hx hb dX1_setValue_2 rfl (lv_at hl 2 rfl) ?_
  refine zw_calli (w' := fun u : Unit => zm_w cA mo 1 k (zk_n k) (zk_t k) F fa fb fc fd ++ wr) hD hS hA (zx_runV (As := [.int (x1), .int (x2)]) (rest := []) hx hb hml hts hown (cm_no1 l dC dI cA tr wr mo th k F fa fb fc fd hk s.heap.size x1 x2 hbad) zv_X1_50 rfl rfl ⟨Nat.le_of_ble_eq_true rfl, Nat.le_of_ble_eq_true rfl⟩ (zw_preV (q := (RX1, TM1, 9)) (ci := 1) (q0 := 0) hP hK hD rfl rfl) rfl hl.1 rfl (Nat.le_of_ble_eq_true rfl) dX1_setValue_3 ⟨Nat.zero_le _, Nat.zero_le _⟩) (fun r9 u9 H locs hr9 hP hD hS => ?_)
  subst hr9
  refine zr_ifeq (tgt := 11) hx hb dX1_setValue_6 (by decide) (by omega) (fun hno9 => absurd hno9 (by omega)) (fun _ => ?_)
  refine lv_iconst (v := nI 0) hx hb dX1_setValue_9 (by decide) ?_
  exact W.iret (v := nI 0) hx hb hr (fun t9 h9 hW9 => ⟨⟨nI 0, (F, fa, fb, fc, fd), rfl, ⟨rfl, rfl⟩, by rw [h9]; exact hP, va_K.moved hW9.alike hK, hD⟩, hS.F h9⟩) hS.2.2 dX1_setValue_10
set_option maxHeartbeats 4000000 in
set_option maxRecDepth 100000 in
/-- X1_setValue -/
theorem cm_setValue_r2 (l : Launch) (dC : Nat → ClassId) (dI : Nat → Nat → Nat) (cA : ClassId) (tr : List (ClassId × FieldType)) (wr : va_W) (mo : Nat → Nat) (th k : Nat) (F fa fb fc fd : Nat → Nat) (hk : k < 4) (sz : Nat) (x1 : Nat) (hx1 : x1 < 16) (x2 : Int32) (hbad : x2 < 0 ∨ nI (zk_n k) ≤ x2) (x3 : Int32) : Met l yX1_setValue wzX1_setValue (k2_rm 2 42) (zw_pre (dC, dI) zz_cl ((cA, .int) :: tr) (zm_w cA mo th k (zk_n k) (zk_t k) F fa fb fc fd ++ wr) sz [.ref (mo 0), .int (nI (x1)), .int (x2), .int (x3)]) (va_Qi (fun r (u : zq_U) => r = nI 0 ∧ u.1 = F) (zw_at (dC, dI) zz_cl ((cA, .int) :: tr) (va_A (zm_w cA mo th k (zk_n k) (zk_t k) F fa fb fc fd ++ wr) sz) (fun u : zq_U => zm_w cA mo 1 k (zk_n k) (zk_t k) u.1 u.2.1 u.2.2.1 u.2.2.2.1 u.2.2.2.2 ++ wr)) (va_A (zm_w cA mo th k (zk_n k) (zk_t k) F fa fb fc fd ++ wr) sz)) 0 0 (va_A (zm_w cA mo th k (zk_n k) (zk_t k) F fa fb fc fd ++ wr) sz) := by
  refine Met.ofW (cc := cX1_setValue) (maxL := 5) (ret := (some .int)) (by decide) rfl ?_
  intro p e s m args below meth c s₁ B hml hv
  obtain ⟨rfl, hsz, hP, hK, hD0⟩ := hv
  have hx := B.exec
  have hb := B.bytes
  have hr := B.returns
  have hts := atoms_spec (ws := wzX1_setValue) B.pre
  have hown : s.vm.findClass RX1 = some m.cls := findClass_of_methodNamed B.named
  have hlocks := B.notSynchronized
  subst hsz
  have hD := hD0.self (sz := s.heap.size)
  generalize hAe : va_A (zm_w cA mo th k (zk_n k) (zk_t k) F fa fb fc fd ++ wr) s.heap.size = A at hD ⊢
  have hA : ∀ q : Nat, s.heap.size ≤ q → A q := fun q h => by rw [← hAe]; exact Or.inr h
  have hS : va_S A s.heap s.heap [] := va_S.rf
  have hl := lv_entry ([.ref (mo 0), .int (nI (x1)), .int (x2), .int (x3)]) (n := 5) (Nat.le_of_ble_eq_true rfl)
  rw [lg_entry_eq]
  generalize (lg_sl ([.ref (mo 0), .int (nI (x1)), .int (x2), .int (x3)]) ++ List.replicate (5 - (lg_sl ([.ref (mo 0), .int (nI (x1)), .int (x2), .int (x3)])).length) Slot.unset).toArray = ls at hl ⊢
  have hl : lv_has ls 5 [(0, .ref (mo 0)), (1, .int (nI (x1))), (2, .int (x2)), (3, .int (x3))] := hl
  obtain ⟨hb1, hb2, hb3, hb4, hb5, hb6, hb7, hb8⟩ := zk_b k hk
  refine lv_aload_n hx hb dX1_setValue_0 rfl (lv_at hl 0 rfl) ?_
  refine lv_iload_n hx hb dX1_setValue_1 rfl (lv_at hl 1 rfl) ?_
  refine lv_iload_n hx hb dX1_setValue_2 rfl (lv_at hl 2 rfl) ?_
  refine zw_calli (w' := fun u : Unit => zm_w cA mo 1 k (zk_n k) (zk_t k) F fa fb fc fd ++ wr) hD hS hA (zx_runV (As := [.int (nI (x1)), .int (x2)]) (rest := []) hx hb hml hts hown (cm_no2 l dC dI cA tr wr mo th k F fa fb fc fd hk s.heap.size x1 (by omega) x2 hbad) zv_X1_50 rfl rfl ⟨Nat.le_of_ble_eq_true rfl, Nat.le_of_ble_eq_true rfl⟩ (zw_preV (q := (RX1, TM1, 9)) (ci := 1) (q0 := 0) hP hK hD rfl rfl) rfl hl.1 rfl (Nat.le_of_ble_eq_true rfl) dX1_setValue_3 ⟨Nat.zero_le _, Nat.zero_le _⟩) (fun r9 u9 H locs hr9 hP hD hS => ?_)
  subst hr9
  refine zr_ifeq (tgt := 11) hx hb dX1_setValue_6 (by decide) (by omega) (fun hno9 => absurd hno9 (by omega)) (fun _ => ?_)
  refine lv_iconst (v := nI 0) hx hb dX1_setValue_9 (by decide) ?_
  exact W.iret (v := nI 0) hx hb hr (fun t9 h9 hW9 => ⟨⟨nI 0, (F, fa, fb, fc, fd), rfl, ⟨rfl, rfl⟩, by rw [h9]; exact hP, va_K.moved hW9.alike hK, hD⟩, hS.F h9⟩) hS.2.2 dX1_setValue_10
set_option maxHeartbeats 4000000 in
set_option maxRecDepth 100000 in
/-- X1_value -/
theorem cm_value_r1 (l : Launch) (dC : Nat → ClassId) (dI : Nat → Nat → Nat) (cA : ClassId) (tr : List (ClassId × FieldType)) (wr : va_W) (mo : Nat → Nat) (th k : Nat) (F fa fb fc fd : Nat → Nat) (hk : k < 4) (sz : Nat) (x1 x2 : Int32) (hbad : x1 < 0 ∨ nI 16 ≤ x1) : Met l yX1_value wzX1_value (k2_rm 2 42) (zw_pre (dC, dI) zz_cl ((cA, .int) :: tr) (zm_w cA mo th k (zk_n k) (zk_t k) F fa fb fc fd ++ wr) sz [.ref (mo 0), .int (x1), .int (x2)]) (va_Qi (fun r (u : zq_U) => r = nI 0 ∧ u.1 = F) (zw_at (dC, dI) zz_cl ((cA, .int) :: tr) (va_A (zm_w cA mo th k (zk_n k) (zk_t k) F fa fb fc fd ++ wr) sz) (fun u : zq_U => zm_w cA mo 1 k (zk_n k) (zk_t k) u.1 u.2.1 u.2.2.1 u.2.2.2.1 u.2.2.2.2 ++ wr)) (va_A (zm_w cA mo th k (zk_n k) (zk_t k) F fa fb fc fd ++ wr) sz)) 0 0 (va_A (zm_w cA mo th k (zk_n k) (zk_t k) F fa fb fc fd ++ wr) sz) := by
  refine Met.ofW (cc := cX1_value) (maxL := 3) (ret := (some .int)) (by decide) rfl ?_
  intro p e s m args below meth c s₁ B hml hv
  obtain ⟨rfl, hsz, hP, hK, hD0⟩ := hv
  have hx := B.exec
  have hb := B.bytes
  have hr := B.returns
  have hts := atoms_spec (ws := wzX1_value) B.pre
  have hown : s.vm.findClass RX1 = some m.cls := findClass_of_methodNamed B.named
  have hlocks := B.notSynchronized
  subst hsz
  have hD := hD0.self (sz := s.heap.size)
  generalize hAe : va_A (zm_w cA mo th k (zk_n k) (zk_t k) F fa fb fc fd ++ wr) s.heap.size = A at hD ⊢
  have hA : ∀ q : Nat, s.heap.size ≤ q → A q := fun q h => by rw [← hAe]; exact Or.inr h
  have hS : va_S A s.heap s.heap [] := va_S.rf
  have hl := lv_entry ([.ref (mo 0), .int (x1), .int (x2)]) (n := 3) (Nat.le_of_ble_eq_true rfl)
  rw [lg_entry_eq]
  generalize (lg_sl ([.ref (mo 0), .int (x1), .int (x2)]) ++ List.replicate (3 - (lg_sl ([.ref (mo 0), .int (x1), .int (x2)])).length) Slot.unset).toArray = ls at hl ⊢
  have hl : lv_has ls 3 [(0, .ref (mo 0)), (1, .int (x1)), (2, .int (x2))] := hl
  obtain ⟨hb1, hb2, hb3, hb4, hb5, hb6, hb7, hb8⟩ := zk_b k hk
  refine lv_aload_n hx hb dX1_value_0 rfl (lv_at hl 0 rfl) ?_
  refine lv_iload_n hx hb dX1_value_1 rfl (lv_at hl 1 rfl) ?_
  refine lv_iload_n hx hb dX1_value_2 rfl (lv_at hl 2 rfl) ?_
  refine zw_calli (w' := fun u : Unit => zm_w cA mo 1 k (zk_n k) (zk_t k) F fa fb fc fd ++ wr) hD hS hA (zx_runV (As := [.int (x1), .int (x2)]) (rest := []) hx hb hml hts hown (cm_no1 l dC dI cA tr wr mo th k F fa fb fc fd hk s.heap.size x1 x2 hbad) zv_X1_50 rfl rfl ⟨Nat.le_of_ble_eq_true rfl, Nat.le_of_ble_eq_true rfl⟩ (zw_preV (q := (RX1, TM1, 9)) (ci := 1) (q0 := 0) hP hK hD rfl rfl) rfl hl.1 rfl (Nat.le_of_ble_eq_true rfl) dX1_value_3 ⟨Nat.zero_le _, Nat.zero_le _⟩) (fun r9 u9 H locs hr9 hP hD hS => ?_)
  subst hr9
  refine zr_ifeq (tgt := 11) hx hb dX1_value_6 (by decide) (by omega) (fun hno9 => absurd hno9 (by omega)) (fun _ => ?_)
  refine lv_iconst (v := nI 0) hx hb dX1_value_9 (by decide) ?_
  exact W.iret (v := nI 0) hx hb hr (fun t9 h9 hW9 => ⟨⟨nI 0, (F, fa, fb, fc, fd), rfl, ⟨rfl, rfl⟩, by rw [h9]; exact hP, va_K.moved hW9.alike hK, hD⟩, hS.F h9⟩) hS.2.2 dX1_value_10
set_option maxHeartbeats 4000000 in
set_option maxRecDepth 100000 in
/-- X1_value -/
theorem cm_value_r2 (l : Launch) (dC : Nat → ClassId) (dI : Nat → Nat → Nat) (cA : ClassId) (tr : List (ClassId × FieldType)) (wr : va_W) (mo : Nat → Nat) (th k : Nat) (F fa fb fc fd : Nat → Nat) (hk : k < 4) (sz : Nat) (x1 : Nat) (hx1 : x1 < 16) (x2 : Int32) (hbad : x2 < 0 ∨ nI (zk_n k) ≤ x2) : Met l yX1_value wzX1_value (k2_rm 2 42) (zw_pre (dC, dI) zz_cl ((cA, .int) :: tr) (zm_w cA mo th k (zk_n k) (zk_t k) F fa fb fc fd ++ wr) sz [.ref (mo 0), .int (nI (x1)), .int (x2)]) (va_Qi (fun r (u : zq_U) => r = nI 0 ∧ u.1 = F) (zw_at (dC, dI) zz_cl ((cA, .int) :: tr) (va_A (zm_w cA mo th k (zk_n k) (zk_t k) F fa fb fc fd ++ wr) sz) (fun u : zq_U => zm_w cA mo 1 k (zk_n k) (zk_t k) u.1 u.2.1 u.2.2.1 u.2.2.2.1 u.2.2.2.2 ++ wr)) (va_A (zm_w cA mo th k (zk_n k) (zk_t k) F fa fb fc fd ++ wr) sz)) 0 0 (va_A (zm_w cA mo th k (zk_n k) (zk_t k) F fa fb fc fd ++ wr) sz) := by
  refine Met.ofW (cc := cX1_value) (maxL := 3) (ret := (some .int)) (by decide) rfl ?_
  intro p e s m args below meth c s₁ B hml hv
  obtain ⟨rfl, hsz, hP, hK, hD0⟩ := hv
  have hx := B.exec
  have hb := B.bytes
  have hr := B.returns
  have hts := atoms_spec (ws := wzX1_value) B.pre
  have hown : s.vm.findClass RX1 = some m.cls := findClass_of_methodNamed B.named
  have hlocks := B.notSynchronized
  subst hsz
  have hD := hD0.self (sz := s.heap.size)
  generalize hAe : va_A (zm_w cA mo th k (zk_n k) (zk_t k) F fa fb fc fd ++ wr) s.heap.size = A at hD ⊢
  have hA : ∀ q : Nat, s.heap.size ≤ q → A q := fun q h => by rw [← hAe]; exact Or.inr h
  have hS : va_S A s.heap s.heap [] := va_S.rf
  have hl := lv_entry ([.ref (mo 0), .int (nI (x1)), .int (x2)]) (n := 3) (Nat.le_of_ble_eq_true rfl)
  rw [lg_entry_eq]
  generalize (lg_sl ([.ref (mo 0), .int (nI (x1)), .int (x2)]) ++ List.replicate (3 - (lg_sl ([.ref (mo 0), .int (nI (x1)), .int (x2)])).length) Slot.unset).toArray = ls at hl ⊢
  have hl : lv_has ls 3 [(0, .ref (mo 0)), (1, .int (nI (x1))), (2, .int (x2))] := hl
  obtain ⟨hb1, hb2, hb3, hb4, hb5, hb6, hb7, hb8⟩ := zk_b k hk
  refine lv_aload_n hx hb dX1_value_0 rfl (lv_at hl 0 rfl) ?_
  refine lv_iload_n hx hb dX1_value_1 rfl (lv_at hl 1 rfl) ?_
  refine lv_iload_n hx hb dX1_value_2 rfl (lv_at hl 2 rfl) ?_
  refine zw_calli (w' := fun u : Unit => zm_w cA mo 1 k (zk_n k) (zk_t k) F fa fb fc fd ++ wr) hD hS hA (zx_runV (As := [.int (nI (x1)), .int (x2)]) (rest := []) hx hb hml hts hown (cm_no2 l dC dI cA tr wr mo th k F fa fb fc fd hk s.heap.size x1 (by omega) x2 hbad) zv_X1_50 rfl rfl ⟨Nat.le_of_ble_eq_true rfl, Nat.le_of_ble_eq_true rfl⟩ (zw_preV (q := (RX1, TM1, 9)) (ci := 1) (q0 := 0) hP hK hD rfl rfl) rfl hl.1 rfl (Nat.le_of_ble_eq_true rfl) dX1_value_3 ⟨Nat.zero_le _, Nat.zero_le _⟩) (fun r9 u9 H locs hr9 hP hD hS => ?_)
  subst hr9
  refine zr_ifeq (tgt := 11) hx hb dX1_value_6 (by decide) (by omega) (fun hno9 => absurd hno9 (by omega)) (fun _ => ?_)
  refine lv_iconst (v := nI 0) hx hb dX1_value_9 (by decide) ?_
  exact W.iret (v := nI 0) hx hb hr (fun t9 h9 hW9 => ⟨⟨nI 0, (F, fa, fb, fc, fd), rfl, ⟨rfl, rfl⟩, by rw [h9]; exact hP, va_K.moved hW9.alike hK, hD⟩, hS.F h9⟩) hS.2.2 dX1_value_10
