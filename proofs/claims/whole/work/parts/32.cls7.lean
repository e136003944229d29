set_option maxHeartbeats 4000000 in
set_option maxRecDepth 100000 in
/-- turn(to, a, g) -/
theorem cx_turn (l : Launch) (dC : Nat → ClassId) (dI : Nat → Nat → Nat) (cA cR : ClassId) (tr : List (ClassId × FieldType)) (wr : va_W) (ad : Nat → Nat) (kd n t z v : Nat) (S : Nat → Int32) (P : Nat → Nat) (V : Nat → Nat → Nat) (sz : Nat) (x1 : Nat) (hx1 : x1 < 16) (x2 : Nat) (hx2 : x2 < 16) (g0 : Int) (g1 : Nat) (h1 : -2147483648 ≤ g0) (h2 : g0 < 2147483648) (hodd : g0 % 2 ≠ 0) (hg : g0 % ((2 * n : Nat) : Int) = (g1 : Int)) (hn0 : 4 ≤ n) (hn : n ≤ 32) (ht : 1 < t) (ht2 : t ≤ 193) (hV : ∀ r i, r < 16 → i < n → V r i < t) : Met l yX0_turn wzX0_turn (k2_rm 1 100) (zw_pre (dC, dI) zz_cl ((cA, .int) :: (cR, .array .int) :: tr) (zc_w cA cR ad kd n t z v S P V ++ wr) sz [.ref (ad 0), .int (nI (x1)), .int (nI (x2)), .int (zi_I (g0))]) (va_Qi (fun r u => r = nI (V x2 (zq_td n g1 0)) ∧ zq_ri V x1 (fun j => V x2 (zq_td n g1 j)) n u.2) (zw_at (dC, dI) zz_cl ((cA, .int) :: (cR, .array .int) :: tr) (va_A (zc_w cA cR ad kd n t z v S P V ++ wr) sz) (fun u : (Nat → Int32) × (Nat → Nat → Nat) => zc_w cA cR ad kd n t z v u.1 P u.2 ++ wr)) (va_A (zc_w cA cR ad kd n t z v S P V ++ wr) sz)) 0 0 (va_A (zc_w cA cR ad kd n t z v S P V ++ wr) sz) := by
  refine Met.ofW (cc := cX0_turn) (maxL := 6) (ret := (some .int)) (by decide) rfl ?_
  intro p e s m args below meth c s₁ B hml hv
  obtain ⟨rfl, hsz, hP, hK, hD0⟩ := hv
  have hx := B.exec
  have hb := B.bytes
  have hr := B.returns
  have hts := atoms_spec (ws := wzX0_turn) B.pre
  have hown : s.vm.findClass RX0 = some m.cls := findClass_of_methodNamed B.named
  have hlocks := B.notSynchronized
  subst hsz
  have hD := hD0.self (sz := s.heap.size)
  generalize hAe : va_A (zc_w cA cR ad kd n t z v S P V ++ wr) s.heap.size = A at hD ⊢
  have hA : ∀ q : Nat, s.heap.size ≤ q → A q := fun q h => by rw [← hAe]; exact Or.inr h
  have hS : va_S A s.heap s.heap [] := va_S.rf
  have hl := lv_entry ([.ref (ad 0), .int (nI (x1)), .int (nI (x2)), .int (zi_I (g0))]) (n := 6) (Nat.le_of_ble_eq_true rfl)
  rw [lg_entry_eq]
  generalize (lg_sl ([.ref (ad 0), .int (nI (x1)), .int (nI (x2)), .int (zi_I (g0))]) ++ List.replicate (6 - (lg_sl ([.ref (ad 0), .int (nI (x1)), .int (nI (x2)), .int (zi_I (g0))])).length) Slot.unset).toArray = ls at hl ⊢
  have hl : lv_has ls 6 [(0, .ref (ad 0)), (1, .int (nI (x1))), (2, .int (nI (x2))), (3, .int (zi_I (g0)))] := hl
  refine lv_aload_n hx hb dX0_turn_0 rfl (lv_at hl 0 rfl) ?_
  refine lv_iload_n hx hb dX0_turn_1 rfl (lv_at hl 1 rfl) ?_
  refine zr_calln (zx_runV (As := [.int (nI (x1))]) (rest := []) hx hb hml hts hown (cx_needRegister l dC dI cA cR tr wr ad kd n t z v S P V x1 (by omega)) zv_X0_39 rfl rfl ⟨Nat.le_of_ble_eq_true rfl, Nat.le_of_ble_eq_true rfl⟩ (zr_preV (q := (RX0, TX0, 8)) (ci := 0) (q0 := 0) hP hK rfl rfl) rfl hl.1 rfl (Nat.le_of_ble_eq_true rfl) dX0_turn_2 ⟨Nat.zero_le _, Nat.zero_le _⟩) ?_
  refine lv_aload_n hx hb dX0_turn_5 rfl (lv_at hl 0 rfl) ?_
  refine lv_iload_n hx hb dX0_turn_6 rfl (lv_at hl 2 rfl) ?_
  refine zr_calln (zx_runV (As := [.int (nI (x2))]) (rest := []) hx hb hml hts hown (cx_needRegister l dC dI cA cR tr wr ad kd n t z v S P V x2 (by omega)) zv_X0_39 rfl rfl ⟨Nat.le_of_ble_eq_true rfl, Nat.le_of_ble_eq_true rfl⟩ (zr_preV (q := (RX0, TX0, 8)) (ci := 0) (q0 := 0) hP hK rfl rfl) rfl hl.1 rfl (Nat.le_of_ble_eq_true rfl) dX0_turn_7 ⟨Nat.zero_le _, Nat.zero_le _⟩) ?_
  refine lv_iload_n hx hb dX0_turn_10 rfl (lv_at hl 3 rfl) ?_
  refine lv_iconst (v := nI 2) hx hb dX0_turn_11 (by decide) ?_
  refine lv_irem hx hb dX0_turn_12 (by decide) ?_
  have hm2 := zi_tm (a := g0) (b := 2) (by omega)
  have hne2 : g0.tmod 2 ≠ 0 := fun hh => hodd ((zi_tmod2 g0).mp hh)
  rw [show zi_I g0 - zi_I g0 / nI 2 * nI 2 = zi_I (g0.tmod 2) by rw [zi_nI 2, zi_rem h1 h2 (by omega) (by omega)]; rfl]
  refine lv_if_ne (tgt := 26) hx hb dX0_turn_13 (by decide) (fun _ => ?_) (fun hh => absurd (show zi_I (g0.tmod 2) = 0 from hh) (by rw [zi_0, zi_eq (by omega) (by omega) (by omega) (by omega)]; exact hne2))
  have hg1 : g1 < 2 * n := by have h9 := Int.emod_lt_of_pos g0 (show (0 : Int) < ((2 * n : Nat) : Int) by omega); omega
  refine lv_iload_n hx hb dX0_turn_26 rfl (lv_at hl 3 rfl) ?_
  refine lv_iconst (v := nI 2) hx hb dX0_turn_27 (by decide) ?_
  refine lv_aload_n hx hb dX0_turn_28 rfl (lv_at hl 0 rfl) ?_
  refine zx_get0 (v := .int (nI (n))) hx hb hts hown hK hP 0 rfl 4 (by decide) zf_X0_58 rfl dX0_turn_29 ?_
  refine zr_imul hx hb dX0_turn_32 ?_
  refine zr_callq (zx_runS (As := [.int (zi_I (g0)), .int (nI (2 * n))]) (rest := []) hx hb hml hts hown (cJ_floorMod l (dC, dI) zz_cl ((cA, .int) :: (cR, .array .int) :: tr) (zc_w cA cR ad kd n t z v S P V ++ wr) g0 (2 * n) g1 h1 h2 (by omega) (by omega) hg) zu_X0_52 rfl rfl ⟨Nat.le_of_ble_eq_true rfl, Nat.le_of_ble_eq_true rfl⟩ (zr_preS hP hK) rfl hl.1 rfl (Nat.le_of_ble_eq_true rfl) dX0_turn_33 ⟨Nat.zero_le _, Nat.zero_le _⟩) ?_
  refine lv_istore (lv' := [(4, .int (nI (g1))), (0, .ref (ad 0)), (1, .int (nI (x1))), (2, .int (nI (x2))), (3, .int (zi_I (g0)))]) hx hb dX0_turn_36 hl (by decide) rfl (fun ls hl => ?_)
  refine lv_iconst (v := nI 0) hx hb dX0_turn_38 (by decide) ?_
  refine lv_istore (lv' := [(5, .int (nI (0))), (4, .int (nI (g1))), (0, .ref (ad 0)), (1, .int (nI (x1))), (2, .int (nI (x2))), (3, .int (zi_I (g0)))]) hx hb dX0_turn_39 hl (by decide) rfl (fun ls hl => ?_)
  have loop : ∀ (d i : Nat), i + d = n → ∀ (S1 : Nat → Int32), (∀ j, j < i → S1 j = nI (V x2 (zq_td n g1 j))) → ∀ (H : Heap) (locs : List Loc), va_P (dC, dI) zz_cl (zc_w cA cR ad kd n t z v S1 P V ++ wr) H → va_D A (zc_w cA cR ad kd n t z v S1 P V ++ wr) → va_S A s.heap H locs → ∀ ls, lv_has ls 6 [(0, .ref (ad 0)), (1, .int (nI (x1))), (2, .int (nI (x2))), (4, .int (nI (g1))), (5, .int (nI (i)))] → W p l e (headSpec wzX0_turn (k2_rm 1 100)).room s m ([.ref (ad 0), .int (nI (x1)), .int (nI (x2)), .int (zi_I (g0))] : List Value).toArray below meth c H locs 0 0 (MQ below (va_Qi (fun r u => r = nI (V x2 (zq_td n g1 0)) ∧ zq_ri V x1 (fun j => V x2 (zq_td n g1 j)) n u.2) (zw_at (dC, dI) zz_cl ((cA, .int) :: (cR, .array .int) :: tr) A (fun u : (Nat → Int32) × (Nat → Nat → Nat) => zc_w cA cR ad kd n t z v u.1 P u.2 ++ wr)) A) ([.ref (ad 0), .int (nI (x1)), .int (nI (x2)), .int (zi_I (g0))] : List Value).toArray s 0 0 A) (F0 m 41 ls []) := by
    intro d
    induction d with
    | zero =>
      intro i hi S1 hsp H locs hP hD hS ls hl
      have hi : i = n := by omega
      rw [hi] at hsp
      refine lv_iload hx hb dX0_turn_41 (lv_at hl 4 rfl) ?_
      refine lv_aload_n hx hb dX0_turn_43 rfl (lv_at hl 0 rfl) ?_
      refine zx_get0 (v := .int (nI (n))) hx hb hts hown hK hP 0 rfl 4 (by decide) zf_X0_58 rfl dX0_turn_44 ?_
      refine zr_ige (tgt := 78) hx hb dX0_turn_47 (by decide) (by omega) (by omega) (fun _ => ?_) (fun hno9 => absurd hno9 (by omega))
      refine lv_aload_n hx hb dX0_turn_78 rfl (lv_at hl 0 rfl) ?_
      refine zx_get0 (v := .ref (ad 2)) hx hb hts hown hK hP 0 rfl 1 (by decide) zf_X0_14 rfl dX0_turn_79 ?_
      refine lv_iconst (v := nI 0) hx hb dX0_turn_82 (by decide) ?_
      refine lv_aload_n hx hb dX0_turn_83 rfl (lv_at hl 0 rfl) ?_
      refine zx_get0 (v := .ref (ad 1)) hx hb hts hown hK hP 0 rfl 0 (by decide) zf_X0_11 rfl dX0_turn_84 ?_
      refine lv_iload_n hx hb dX0_turn_87 rfl (lv_at hl 1 rfl) ?_
      refine zr_aald (y := ad (4 + x1)) hx hb hK hP 1 1 rfl rfl (by omega) (by decide) rfl dX0_turn_88 ?_
      refine lv_iconst (v := nI 0) hx hb dX0_turn_89 (by decide) ?_
      refine lv_aload_n hx hb dX0_turn_90 rfl (lv_at hl 0 rfl) ?_
      refine zx_get0 (v := .int (nI (n))) hx hb hts hown hK hP 0 rfl 4 (by decide) zf_X0_58 rfl dX0_turn_91 ?_
      refine zx_copy (x1 := x1) (f := fun j => V x2 (zq_td n g1 j)) hx hb (hml.trans hl.1.symm) hts hown hK hP hD hS hx1 hn hsp (Nat.le_of_ble_eq_true rfl) (Nat.le_of_ble_eq_true rfl) dX0_turn_94 (fun H locs hP hD hS => ?_)
      have hri := zq_cp_ri V x1 n (fun j => V x2 (zq_td n g1 j))
      refine lv_aload_n hx hb dX0_turn_97 rfl (lv_at hl 0 rfl) ?_
      refine zx_get0 (v := .ref (ad 1)) hx hb hts hown hK hP 0 rfl 0 (by decide) zf_X0_11 rfl dX0_turn_98 ?_
      refine lv_iload_n hx hb dX0_turn_101 rfl (lv_at hl 1 rfl) ?_
      refine zr_aald (y := ad (4 + x1)) hx hb hK hP 1 1 rfl rfl (by omega) (by decide) rfl dX0_turn_102 ?_
      refine lv_iconst (v := nI 0) hx hb dX0_turn_103 (by decide) ?_
      refine zr_iald (y := (zq_cp V x1 n (fun j => V x2 (zq_td n g1 j))) x1 0) hx hb hK hP (4 + x1) 0 (zc_row (by omega)) rfl (by omega) (by decide) rfl dX0_turn_104 ?_
      rw [show zq_cp V x1 n (fun j => V x2 (zq_td n g1 j)) x1 0 = V x2 (zq_td n g1 0) from hri.2 0 (by omega)]
      exact W.iret (v := nI (V x2 (zq_td n g1 0))) hx hb hr (fun t9 h9 hW9 => ⟨⟨nI (V x2 (zq_td n g1 0)), (S1, zq_cp V x1 n (fun j => V x2 (zq_td n g1 j))), rfl, ⟨rfl, hri⟩, by rw [h9]; exact hP, va_K.moved hW9.alike hK, hD⟩, hS.F h9⟩) hS.2.2 dX0_turn_105
    | succ d ih =>
      intro i hi S1 hsp H locs hP hD hS ls hl
      refine lv_iload hx hb dX0_turn_41 (lv_at hl 4 rfl) ?_
      refine lv_aload_n hx hb dX0_turn_43 rfl (lv_at hl 0 rfl) ?_
      refine zx_get0 (v := .int (nI (n))) hx hb hts hown hK hP 0 rfl 4 (by decide) zf_X0_58 rfl dX0_turn_44 ?_
      refine zr_ige (tgt := 78) hx hb dX0_turn_47 (by decide) (by omega) (by omega) (fun hno9 => absurd hno9 (by omega)) (fun _ => ?_)
      have htd := zq_td_lt (show 0 < n by omega) g1 i
      refine lv_aload_n hx hb dX0_turn_50 rfl (lv_at hl 0 rfl) ?_
      refine zx_get0 (v := .ref (ad 2)) hx hb hts hown hK hP 0 rfl 1 (by decide) zf_X0_14 rfl dX0_turn_51 ?_
      refine lv_iload hx hb dX0_turn_54 (lv_at hl 4 rfl) ?_
      refine lv_aload_n hx hb dX0_turn_56 rfl (lv_at hl 0 rfl) ?_
      refine zx_get0 (v := .ref (ad 1)) hx hb hts hown hK hP 0 rfl 0 (by decide) zf_X0_11 rfl dX0_turn_57 ?_
      refine lv_iload_n hx hb dX0_turn_60 rfl (lv_at hl 2 rfl) ?_
      refine zr_aald (y := ad (4 + x2)) hx hb hK hP 1 1 rfl rfl (by omega) (by decide) rfl dX0_turn_61 ?_
      refine lv_aload_n hx hb dX0_turn_62 rfl (lv_at hl 0 rfl) ?_
      refine lv_iload hx hb dX0_turn_63 (lv_at hl 4 rfl) ?_
      refine lv_iload hx hb dX0_turn_65 (lv_at hl 3 rfl) ?_
      refine zr_callq (zx_runV (As := [.int (nI (i)), .int (nI (g1))]) (rest := [.ref (ad (4 + x2)), .int (nI (i)), .ref (ad 2)]) hx hb hml hts hown (cx_turnedPlace l dC dI cA cR tr wr ad kd n t z v S1 P V i g1 (by omega) (by omega) (by omega) hn) zv_X0_79 rfl rfl ⟨Nat.le_of_ble_eq_true rfl, Nat.le_of_ble_eq_true rfl⟩ (zr_preV (q := (RX0, TX0, 8)) (ci := 0) (q0 := 0) hP hK rfl rfl) rfl hl.1 rfl (Nat.le_of_ble_eq_true rfl) dX0_turn_67 ⟨Nat.zero_le _, Nat.zero_le _⟩) ?_
      refine zr_iald (y := V x2 (zq_td n g1 i)) hx hb hK hP (4 + x2) 0 (zc_row (by omega)) rfl (by omega) (by decide) rfl dX0_turn_70 ?_
      refine zr_iastG (ws' := (zc_w cA cR ad kd n t z v (upd S1 i ((nI (V x2 (zq_td n g1 i))))) P V ++ wr)) hx hb hK hP hD hS 2 0 rfl rfl (by omega) (by decide) dX0_turn_71 rfl (fun H locs hP hD hS => ?_)
      refine zr_iinc (k := 4) (lv' := [(5, .int (nI (i + 1))), (0, .ref (ad 0)), (1, .int (nI (x1))), (2, .int (nI (x2))), (4, .int (nI (g1)))]) hx hb dX0_turn_72 hl rfl (by decide) rfl (fun ls hl => ?_)
      refine lv_goto (tgt := 41) hx hb dX0_turn_75 (by decide) ?_
      refine ih (i + 1) (by omega) _ (fun j hj => ?_) H locs hP hD hS ls (lv_sub hl [1, 2, 3, 4, 0] rfl)
      by_cases e9 : j = i
      · subst e9; exact if_pos rfl
      · exact (if_neg e9).trans (hsp j (by omega))
  exact loop n 0 (by omega) S (fun j hj => absurd hj (Nat.not_lt_zero _)) s.heap [] hP hD hS ls (lv_sub hl [2, 3, 4, 1, 0] rfl)
set_option maxHeartbeats 4000000 in
set_option maxRecDepth 100000 in
/-- root(to, a) -/
theorem cx_root (l : Launch) (dC : Nat → ClassId) (dI : Nat → Nat → Nat) (cA cR : ClassId) (tr : List (ClassId × FieldType)) (wr : va_W) (ad : Nat → Nat) (kd n t z v : Nat) (S : Nat → Int32) (P : Nat → Nat) (V : Nat → Nat → Nat) (sz : Nat) (x1 : Nat) (hx1 : x1 < 16) (x2 : Nat) (hx2 : x2 < 16) (hn0 : 4 ≤ n) (hn : n ≤ 32) (ht : 1 < t) (ht2 : t ≤ 193) (hV : ∀ r i, r < 16 → i < n → V r i < t) (f : Nat → Nat) (hf : ∀ i, i < n → f i ≤ t / 2 ∧ f i * f i % t = V x2 i ∧ ∀ y, y < f i → y * y % t ≠ V x2 i) : Met l yX0_root wzX0_root (k2_rm 1 100) (zw_pre (dC, dI) zz_cl ((cA, .int) :: (cR, .array .int) :: tr) (zc_w cA cR ad kd n t z v S P V ++ wr) sz [.ref (ad 0), .int (nI (x1)), .int (nI (x2))]) (va_Ql (fun r u => r = lN (2 ^ (n - zq_zc f n)) ∧ zq_ri V x1 f n u.2) (zw_at (dC, dI) zz_cl ((cA, .int) :: (cR, .array .int) :: tr) (va_A (zc_w cA cR ad kd n t z v S P V ++ wr) sz) (fun u : (Nat → Int32) × (Nat → Nat → Nat) => zc_w cA cR ad kd n t z v u.1 P u.2 ++ wr)) (va_A (zc_w cA cR ad kd n t z v S P V ++ wr) sz)) 0 0 (va_A (zc_w cA cR ad kd n t z v S P V ++ wr) sz) := by
  refine Met.ofW (cc := cX0_root) (maxL := 4) (ret := (some .long)) (by decide) rfl ?_
  intro p e s m args below meth c s₁ B hml hv
  obtain ⟨rfl, hsz, hP, hK, hD0⟩ := hv
  have hx := B.exec
  have hb := B.bytes
  have hr := B.returns
  have hts := atoms_spec (ws := wzX0_root) B.pre
  have hown : s.vm.findClass RX0 = some m.cls := findClass_of_methodNamed B.named
  have hlocks := B.notSynchronized
  subst hsz
  have hD := hD0.self (sz := s.heap.size)
  generalize hAe : va_A (zc_w cA cR ad kd n t z v S P V ++ wr) s.heap.size = A at hD ⊢
  have hA : ∀ q : Nat, s.heap.size ≤ q → A q := fun q h => by rw [← hAe]; exact Or.inr h
  have hS : va_S A s.heap s.heap [] := va_S.rf
  have hl := lv_entry ([.ref (ad 0), .int (nI (x1)), .int (nI (x2))]) (n := 4) (Nat.le_of_ble_eq_true rfl)
  rw [lg_entry_eq]
  generalize (lg_sl ([.ref (ad 0), .int (nI (x1)), .int (nI (x2))]) ++ List.replicate (4 - (lg_sl ([.ref (ad 0), .int (nI (x1)), .int (nI (x2))])).length) Slot.unset).toArray = ls at hl ⊢
  have hl : lv_has ls 4 [(0, .ref (ad 0)), (1, .int (nI (x1))), (2, .int (nI (x2)))] := hl
  refine lv_aload_n hx hb dX0_root_0 rfl (lv_at hl 0 rfl) ?_
  refine lv_iload_n hx hb dX0_root_1 rfl (lv_at hl 1 rfl) ?_
  refine zr_calln (zx_runV (As := [.int (nI (x1))]) (rest := []) hx hb hml hts hown (cx_needRegister l dC dI cA cR tr wr ad kd n t z v S P V x1 (by omega)) zv_X0_39 rfl rfl ⟨Nat.le_of_ble_eq_true rfl, Nat.le_of_ble_eq_true rfl⟩ (zr_preV (q := (RX0, TX0, 8)) (ci := 0) (q0 := 0) hP hK rfl rfl) rfl hl.1 rfl (Nat.le_of_ble_eq_true rfl) dX0_root_2 ⟨Nat.zero_le _, Nat.zero_le _⟩) ?_
  refine lv_aload_n hx hb dX0_root_5 rfl (lv_at hl 0 rfl) ?_
  refine lv_iload_n hx hb dX0_root_6 rfl (lv_at hl 2 rfl) ?_
  refine zr_calln (zx_runV (As := [.int (nI (x2))]) (rest := []) hx hb hml hts hown (cx_needRegister l dC dI cA cR tr wr ad kd n t z v S P V x2 (by omega)) zv_X0_39 rfl rfl ⟨Nat.le_of_ble_eq_true rfl, Nat.le_of_ble_eq_true rfl⟩ (zr_preV (q := (RX0, TX0, 8)) (ci := 0) (q0 := 0) hP hK rfl rfl) rfl hl.1 rfl (Nat.le_of_ble_eq_true rfl) dX0_root_7 ⟨Nat.zero_le _, Nat.zero_le _⟩) ?_
  refine lv_iconst (v := nI 0) hx hb dX0_root_10 (by decide) ?_
  refine lv_istore_n (lv' := [(3, .int (nI (0))), (0, .ref (ad 0)), (1, .int (nI (x1))), (2, .int (nI (x2)))]) hx hb dX0_root_11 rfl hl (by decide) rfl (fun ls hl => ?_)
  have loop : ∀ (d i : Nat), i + d = n → ∀ (S1 : Nat → Int32), (∀ j, j < i → S1 j = nI (f j)) → ∀ (H : Heap) (locs : List Loc), va_P (dC, dI) zz_cl (zc_w cA cR ad kd n t z v S1 P V ++ wr) H → va_D A (zc_w cA cR ad kd n t z v S1 P V ++ wr) → va_S A s.heap H locs → ∀ ls, lv_has ls 4 [(0, .ref (ad 0)), (1, .int (nI (x1))), (2, .int (nI (x2))), (3, .int (nI (i)))] → W p l e (headSpec wzX0_root (k2_rm 1 100)).room s m ([.ref (ad 0), .int (nI (x1)), .int (nI (x2))] : List Value).toArray below meth c H locs 0 0 (MQ below (va_Ql (fun r u => r = lN (2 ^ (n - zq_zc f n)) ∧ zq_ri V x1 f n u.2) (zw_at (dC, dI) zz_cl ((cA, .int) :: (cR, .array .int) :: tr) A (fun u : (Nat → Int32) × (Nat → Nat → Nat) => zc_w cA cR ad kd n t z v u.1 P u.2 ++ wr)) A) ([.ref (ad 0), .int (nI (x1)), .int (nI (x2))] : List Value).toArray s 0 0 A) (F0 m 12 ls []) := by
    intro d
    induction d with
    | zero =>
      intro i hi S1 hsp H locs hP hD hS ls hl
      have hi : i = n := by omega
      rw [hi] at hsp
      refine lv_iload_n hx hb dX0_root_12 rfl (lv_at hl 3 rfl) ?_
      refine lv_aload_n hx hb dX0_root_13 rfl (lv_at hl 0 rfl) ?_
      refine zx_get0 (v := .int (nI (n))) hx hb hts hown hK hP 0 rfl 4 (by decide) zf_X0_58 rfl dX0_root_14 ?_
      refine zr_ige (tgt := 63) hx hb dX0_root_17 (by decide) (by omega) (by omega) (fun _ => ?_) (fun hno9 => absurd hno9 (by omega))
      refine lv_aload_n hx hb dX0_root_63 rfl (lv_at hl 0 rfl) ?_
      refine zx_get0 (v := .ref (ad 2)) hx hb hts hown hK hP 0 rfl 1 (by decide) zf_X0_14 rfl dX0_root_64 ?_
      refine lv_iconst (v := nI 0) hx hb dX0_root_67 (by decide) ?_
      refine lv_aload_n hx hb dX0_root_68 rfl (lv_at hl 0 rfl) ?_
      refine zx_get0 (v := .ref (ad 1)) hx hb hts hown hK hP 0 rfl 0 (by decide) zf_X0_11 rfl dX0_root_69 ?_
      refine lv_iload_n hx hb dX0_root_72 rfl (lv_at hl 1 rfl) ?_
      refine zr_aald (y := ad (4 + x1)) hx hb hK hP 1 1 rfl rfl (by omega) (by decide) rfl dX0_root_73 ?_
      refine lv_iconst (v := nI 0) hx hb dX0_root_74 (by decide) ?_
      refine lv_aload_n hx hb dX0_root_75 rfl (lv_at hl 0 rfl) ?_
      refine zx_get0 (v := .int (nI (n))) hx hb hts hown hK hP 0 rfl 4 (by decide) zf_X0_58 rfl dX0_root_76 ?_
      refine zx_copy (x1 := x1) (f := f) hx hb (hml.trans hl.1.symm) hts hown hK hP hD hS hx1 hn hsp (Nat.le_of_ble_eq_true rfl) (Nat.le_of_ble_eq_true rfl) dX0_root_79 (fun H locs hP hD hS => ?_)
      have hri := zq_cp_ri V x1 n f
      have hzl := zq_zc_le f n
      refine lv_lconst (v := lN 1) hx hb dX0_root_82 (by decide) ?_
      refine lv_aload_n hx hb dX0_root_83 rfl (lv_at hl 0 rfl) ?_
      refine zx_get0 (v := .int (nI (n))) hx hb hts hown hK hP 0 rfl 4 (by decide) zf_X0_58 rfl dX0_root_84 ?_
      refine lv_aload_n hx hb dX0_root_87 rfl (lv_at hl 0 rfl) ?_
      refine lv_aload_n hx hb dX0_root_88 rfl (lv_at hl 0 rfl) ?_
      refine zx_get0 (v := .ref (ad 2)) hx hb hts hown hK hP 0 rfl 1 (by decide) zf_X0_14 rfl dX0_root_89 ?_
      refine zr_callq (zx_runV (As := [.ref (ad 2)]) (rest := [.int (nI (n)), .long (lN (1))]) hx hb hml hts hown (cx_zeros l dC dI cA cR tr wr ad kd n t z v S1 P (zq_cp V x1 n (f)) 2 (ad 2) S1 f rfl hsp hn (fun j hj => by have h9 := (hf j hj).1; omega)) zv_X0_73 rfl rfl ⟨Nat.le_of_ble_eq_true rfl, Nat.le_of_ble_eq_true rfl⟩ (zr_preV (q := (RX0, TX0, 8)) (ci := 0) (q0 := 0) hP hK rfl rfl) rfl hl.1 rfl (Nat.le_of_ble_eq_true rfl) dX0_root_92 ⟨Nat.zero_le _, Nat.zero_le _⟩) ?_
      refine zr_isub hx hb dX0_root_95 (by omega) ?_
      refine lv_lshl (v := lN (2 ^ (n - zq_zc f n))) hx hb dX0_root_96 (zl_shl _ (by omega)) ?_
      exact W.lret (v := lN (2 ^ (n - zq_zc f n))) hx hb hr (fun t9 h9 hW9 => ⟨⟨lN (2 ^ (n - zq_zc f n)), (S1, zq_cp V x1 n f), rfl, ⟨rfl, hri⟩, by rw [h9]; exact hP, va_K.moved hW9.alike hK, hD⟩, hS.F h9⟩) hS.2.2 dX0_root_97
    | succ d ih =>
      intro i hi S1 hsp H locs hP hD hS ls hl
      refine lv_iload_n hx hb dX0_root_12 rfl (lv_at hl 3 rfl) ?_
      refine lv_aload_n hx hb dX0_root_13 rfl (lv_at hl 0 rfl) ?_
      refine zx_get0 (v := .int (nI (n))) hx hb hts hown hK hP 0 rfl 4 (by decide) zf_X0_58 rfl dX0_root_14 ?_
      refine zr_ige (tgt := 63) hx hb dX0_root_17 (by decide) (by omega) (by omega) (fun hno9 => absurd hno9 (by omega)) (fun _ => ?_)
      obtain ⟨hf1, hf2, hf3⟩ := hf i (by omega)
      have hvi := hV x2 i (by omega) (by omega)
      refine lv_aload_n hx hb dX0_root_20 rfl (lv_at hl 0 rfl) ?_
      refine zx_get0 (v := .ref (ad 2)) hx hb hts hown hK hP 0 rfl 1 (by decide) zf_X0_14 rfl dX0_root_21 ?_
      refine lv_iload_n hx hb dX0_root_24 rfl (lv_at hl 3 rfl) ?_
      refine lv_aload_n hx hb dX0_root_25 rfl (lv_at hl 0 rfl) ?_
      refine lv_aload_n hx hb dX0_root_26 rfl (lv_at hl 0 rfl) ?_
      refine zx_get0 (v := .ref (ad 1)) hx hb hts hown hK hP 0 rfl 0 (by decide) zf_X0_11 rfl dX0_root_27 ?_
      refine lv_iload_n hx hb dX0_root_30 rfl (lv_at hl 2 rfl) ?_
      refine zr_aald (y := ad (4 + x2)) hx hb hK hP 1 1 rfl rfl (by omega) (by decide) rfl dX0_root_31 ?_
      refine lv_iload_n hx hb dX0_root_32 rfl (lv_at hl 3 rfl) ?_
      refine zr_iald (y := V x2 i) hx hb hK hP (4 + x2) 0 (zc_row (by omega)) rfl (by omega) (by decide) rfl dX0_root_33 ?_
      refine zr_callq (zx_runV (As := [.int (nI (V x2 i))]) (rest := [.int (nI (i)), .ref (ad 2)]) hx hb hml hts hown (cx_leastRoot l dC dI cA cR tr wr ad kd n t z v S1 P V (V x2 i) (f i) hvi ht ht2 hf1 hf2 hf3) zv_X0_91 rfl rfl ⟨Nat.le_of_ble_eq_true rfl, Nat.le_of_ble_eq_true rfl⟩ (zr_preV (q := (RX0, TX0, 8)) (ci := 0) (q0 := 0) hP hK rfl rfl) rfl hl.1 rfl (Nat.le_of_ble_eq_true rfl) dX0_root_34 ⟨Nat.zero_le _, Nat.zero_le _⟩) ?_
      refine zr_iastG (ws' := (zc_w cA cR ad kd n t z v (upd S1 i ((nI (f i)))) P V ++ wr)) hx hb hK hP hD hS 2 0 rfl rfl (by omega) (by decide) dX0_root_37 rfl (fun H locs hP hD hS => ?_)
      refine lv_aload_n hx hb dX0_root_38 rfl (lv_at hl 0 rfl) ?_
      refine zx_get0 (v := .ref (ad 2)) hx hb hts hown hK hP 0 rfl 1 (by decide) zf_X0_14 rfl dX0_root_39 ?_
      refine lv_iload_n hx hb dX0_root_42 rfl (lv_at hl 3 rfl) ?_
      refine zr_iald (y := f i) hx hb hK hP 2 0 rfl rfl (by omega) (by decide) (if_pos rfl) dX0_root_43 ?_
      refine zr_ifge (tgt := 57) hx hb dX0_root_44 (by decide) (by omega) ?_
      refine zr_iinc (k := 3) (lv' := [(3, .int (nI (i + 1))), (0, .ref (ad 0)), (1, .int (nI (x1))), (2, .int (nI (x2)))]) hx hb dX0_root_57 hl rfl (by decide) rfl (fun ls hl => ?_)
      refine lv_goto (tgt := 12) hx hb dX0_root_60 (by decide) ?_
      refine ih (i + 1) (by omega) _ (fun j hj => ?_) H locs hP hD hS ls (lv_sub hl [1, 2, 3, 0] rfl)
      by_cases e9 : j = i
      · subst e9; exact if_pos rfl
      · exact (if_neg e9).trans (hsp j (by omega))
  exact loop n 0 (by omega) S (fun j hj => absurd hj (Nat.not_lt_zero _)) s.heap [] hP hD hS ls (lv_sub hl [1, 2, 3, 0] rfl)
set_option maxHeartbeats 4000000 in
set_option maxRecDepth 100000 in
/-- root, no square -/
theorem cb_root_s (l : Launch) (dC : Nat → ClassId) (dI : Nat → Nat → Nat) (cA cR : ClassId) (tr : List (ClassId × FieldType)) (wr : va_W) (ad : Nat → Nat) (kd n t z v : Nat) (S : Nat → Int32) (P : Nat → Nat) (V : Nat → Nat → Nat) (sz : Nat) (hlt9 : l.stackTraces = false) (x1 : Nat) (hx1 : x1 < 16) (x2 : Nat) (hx2 : x2 < 16) (hn0 : 4 ≤ n) (hn : n ≤ 32) (ht : 1 < t) (ht2 : t ≤ 193) (hV : ∀ r i, r < 16 → i < n → V r i < t) (i1 : Nat) (hi1 : i1 < n) (f : Nat → Nat) (hf : ∀ i, i < i1 → f i ≤ t / 2 ∧ f i * f i % t = V x2 i ∧ ∀ y, y < f i → y * y % t ≠ V x2 i) (hno : ∀ y, y ≤ t / 2 → y * y % t ≠ V x2 i1) : vx_Met l yX0_root wzX0_root (zx_rm 6 100) (zt_pre (dC, dI) zz_cl ((cA, .int) :: (cR, .array .int) :: tr) (zc_w cA cR ad kd n t z v S P V ++ wr) sz [.ref (ad 0), .int (nI (x1)), .int (nI (x2))]) zx_no (vx_X (fun _ : Nat → Int32 => True) (fun E S1 t8 => E = zx_IS ∧ zw_at (dC, dI) zz_cl ((cA, .int) :: (cR, .array .int) :: tr) (va_A (zc_w cA cR ad kd n t z v S P V ++ wr) sz) (fun S1 : Nat → Int32 => zc_w cA cR ad kd n t z v S1 P V ++ wr) S1 t8) (va_A (zc_w cA cR ad kd n t z v S P V ++ wr) sz)) 1 6 (va_A (zc_w cA cR ad kd n t z v S P V ++ wr) sz) := by
  refine vx_ofW (cc := cX0_root) (maxL := 4) (ret := (some .long)) (by decide) rfl ?_
  intro p e s m args below meth c s₁ B hml hxt hv
  obtain ⟨rfl, hsz, hP, hK, hD0, henv⟩ := hv
  have hx := B.exec
  have hb := B.bytes
  have hr := B.returns
  have hts := atoms_spec (ws := wzX0_root) B.pre
  have hown : s.vm.findClass RX0 = some m.cls := findClass_of_methodNamed B.named
  have hlocks := B.notSynchronized
  subst hsz
  have hD := hD0.self (sz := s.heap.size)
  generalize hAe : va_A (zc_w cA cR ad kd n t z v S P V ++ wr) s.heap.size = A at hD henv ⊢
  have hA : ∀ q : Nat, s.heap.size ≤ q → A q := fun q h => by rw [← hAe]; exact Or.inr h
  have hS : va_S A s.heap s.heap [] := va_S.rf
  have hl := lv_entry ([.ref (ad 0), .int (nI (x1)), .int (nI (x2))]) (n := 4) (Nat.le_of_ble_eq_true rfl)
  rw [lg_entry_eq]
  generalize (lg_sl ([.ref (ad 0), .int (nI (x1)), .int (nI (x2))]) ++ List.replicate (4 - (lg_sl ([.ref (ad 0), .int (nI (x1)), .int (nI (x2))])).length) Slot.unset).toArray = ls at hl ⊢
  have hl : lv_has ls 4 [(0, .ref (ad 0)), (1, .int (nI (x1))), (2, .int (nI (x2)))] := hl
  refine lv_aload_n hx hb dX0_root_0 rfl (lv_at hl 0 rfl) ?_
  refine lv_iload_n hx hb dX0_root_1 rfl (lv_at hl 1 rfl) ?_
  refine zr_calln (zx_runV (As := [.int (nI (x1))]) (rest := []) hx hb hml hts hown (cx_needRegister l dC dI cA cR tr wr ad kd n t z v S P V x1 (by omega)) zv_X0_39 rfl rfl ⟨Nat.le_of_ble_eq_true rfl, Nat.le_of_ble_eq_true rfl⟩ (zr_preV (q := (RX0, TX0, 8)) (ci := 0) (q0 := 0) hP hK rfl rfl) rfl hl.1 rfl (Nat.le_of_ble_eq_true rfl) dX0_root_2 ⟨Nat.zero_le _, Nat.zero_le _⟩) ?_
  refine lv_aload_n hx hb dX0_root_5 rfl (lv_at hl 0 rfl) ?_
  refine lv_iload_n hx hb dX0_root_6 rfl (lv_at hl 2 rfl) ?_
  refine zr_calln (zx_runV (As := [.int (nI (x2))]) (rest := []) hx hb hml hts hown (cx_needRegister l dC dI cA cR tr wr ad kd n t z v S P V x2 (by omega)) zv_X0_39 rfl rfl ⟨Nat.le_of_ble_eq_true rfl, Nat.le_of_ble_eq_true rfl⟩ (zr_preV (q := (RX0, TX0, 8)) (ci := 0) (q0 := 0) hP hK rfl rfl) rfl hl.1 rfl (Nat.le_of_ble_eq_true rfl) dX0_root_7 ⟨Nat.zero_le _, Nat.zero_le _⟩) ?_
  refine lv_iconst (v := nI 0) hx hb dX0_root_10 (by decide) ?_
  refine lv_istore_n (lv' := [(3, .int (nI (0))), (0, .ref (ad 0)), (1, .int (nI (x1))), (2, .int (nI (x2)))]) hx hb dX0_root_11 rfl hl (by decide) rfl (fun ls hl => ?_)
  have loop : ∀ (d i : Nat), i + d = i1 → ∀ (S1 : Nat → Int32), (∀ j, j < i → S1 j = nI (f j)) → ∀ (H : Heap) (locs : List Loc), va_P (dC, dI) zz_cl (zc_w cA cR ad kd n t z v S1 P V ++ wr) H → va_D A (zc_w cA cR ad kd n t z v S1 P V ++ wr) → va_S A s.heap H locs → ∀ ls, lv_has ls 4 [(0, .ref (ad 0)), (1, .int (nI (x1))), (2, .int (nI (x2))), (3, .int (nI (i)))] → W p l e (headSpec wzX0_root (zx_rm 6 100)).room s m ([.ref (ad 0), .int (nI (x1)), .int (nI (x2))] : List Value).toArray below meth c H locs 0 0 (vx_MQ below zx_no (vx_X (fun _ : Nat → Int32 => True) (fun E S1 t8 => E = zx_IS ∧ zw_at (dC, dI) zz_cl ((cA, .int) :: (cR, .array .int) :: tr) A (fun S1 : Nat → Int32 => zc_w cA cR ad kd n t z v S1 P V ++ wr) S1 t8) A) ([.ref (ad 0), .int (nI (x1)), .int (nI (x2))] : List Value).toArray s 1 6 A) (F0 m 12 ls []) := by
    intro d
    induction d with
    | zero =>
      intro i hi S1 hsp H locs hP hD hS ls hl
      have hi : i = i1 := by omega
      subst hi
      refine lv_iload_n hx hb dX0_root_12 rfl (lv_at hl 3 rfl) ?_
      refine lv_aload_n hx hb dX0_root_13 rfl (lv_at hl 0 rfl) ?_
      refine zx_get0 (v := .int (nI (n))) hx hb hts hown hK hP 0 rfl 4 (by decide) zf_X0_58 rfl dX0_root_14 ?_
      refine zr_ige (tgt := 63) hx hb dX0_root_17 (by decide) (by omega) (by omega) (fun hno9 => absurd hno9 (by omega)) (fun _ => ?_)
      have hvi := hV x2 i (by omega) (by omega)
      refine lv_aload_n hx hb dX0_root_20 rfl (lv_at hl 0 rfl) ?_
      refine zx_get0 (v := .ref (ad 2)) hx hb hts hown hK hP 0 rfl 1 (by decide) zf_X0_14 rfl dX0_root_21 ?_
      refine lv_iload_n hx hb dX0_root_24 rfl (lv_at hl 3 rfl) ?_
      refine lv_aload_n hx hb dX0_root_25 rfl (lv_at hl 0 rfl) ?_
      refine lv_aload_n hx hb dX0_root_26 rfl (lv_at hl 0 rfl) ?_
      refine zx_get0 (v := .ref (ad 1)) hx hb hts hown hK hP 0 rfl 0 (by decide) zf_X0_11 rfl dX0_root_27 ?_
      refine lv_iload_n hx hb dX0_root_30 rfl (lv_at hl 2 rfl) ?_
      refine zr_aald (y := ad (4 + x2)) hx hb hK hP 1 1 rfl rfl (by omega) (by decide) rfl dX0_root_31 ?_
      refine lv_iload_n hx hb dX0_root_32 rfl (lv_at hl 3 rfl) ?_
      refine zr_iald (y := V x2 i) hx hb hK hP (4 + x2) 0 (zc_row (by omega)) rfl (by omega) (by decide) rfl dX0_root_33 ?_
      refine zr_callq (zx_runV (As := [.int (nI (V x2 i))]) (rest := [.int (nI (i)), .ref (ad 2)]) hx hb hml hts hown (cx_leastRootN l dC dI cA cR tr wr ad kd n t z v S1 P V (V x2 i) hvi ht ht2 hno) zv_X0_91 rfl rfl ⟨Nat.le_of_ble_eq_true rfl, Nat.le_of_ble_eq_true rfl⟩ (zr_preV (q := (RX0, TX0, 8)) (ci := 0) (q0 := 0) hP hK rfl rfl) rfl hl.1 rfl (Nat.le_of_ble_eq_true rfl) dX0_root_34 ⟨Nat.zero_le _, Nat.zero_le _⟩) ?_
      refine zr_iastG (ws' := (zc_w cA cR ad kd n t z v (upd S1 i (-1)) P V ++ wr)) hx hb hK hP hD hS 2 0 rfl rfl (by omega) (by decide) dX0_root_37 rfl (fun H locs hP hD hS => ?_)
      refine lv_aload_n hx hb dX0_root_38 rfl (lv_at hl 0 rfl) ?_
      refine zx_get0 (v := .ref (ad 2)) hx hb hts hown hK hP 0 rfl 1 (by decide) zf_X0_14 rfl dX0_root_39 ?_
      refine lv_iload_n hx hb dX0_root_42 rfl (lv_at hl 3 rfl) ?_
      refine va_iald hx hb hK hP 2 0 rfl rfl (vp_in_nI (show i < 32 by omega) (by decide)) dX0_root_43 ?_
      rw [show upd S1 i (-1) (nI i).toNatClampNeg = -1 by rw [nI_clamp (by omega)]; exact if_pos rfl]
      refine lv_if_ge (tgt := 57) hx hb dX0_root_44 (by decide) (fun hh => absurd hh (by decide)) (fun _ => ?_)
      exact zx_throw (text := "no square") hx hb hlt9 hts hown henv hS zx_okIS (by decide) (hl.1.trans hml.symm) dX0_root_47 dX0_root_50 dX0_root_51 dX0_root_53 dX0_root_56 (fun x h => (hxt x h).elim) (Nat.le_of_ble_eq_true rfl) (Nat.le_of_ble_eq_true rfl) (Nat.le_of_ble_eq_true rfl) (Nat.le_of_ble_eq_true rfl) hlocks (fun t9 hv9 hz hk => ⟨upd S1 i (-1), trivial, ⟨rfl, hP.kept (fun k q hq => hk q.1 ((hP k q hq).lt)), va_K.moved hv9 hK, hD⟩, ⟨Nat.le_trans hS.1 hz, fun q h1 h2 => (hk q (Nat.lt_of_lt_of_le h1 hS.1)).trans (hS.2.1 q h1 h2)⟩⟩) hS.2.2 (Nat.le_refl _) (Nat.le_refl _)
    | succ d ih =>
      intro i hi S1 hsp H locs hP hD hS ls hl
      refine lv_iload_n hx hb dX0_root_12 rfl (lv_at hl 3 rfl) ?_
      refine lv_aload_n hx hb dX0_root_13 rfl (lv_at hl 0 rfl) ?_
      refine zx_get0 (v := .int (nI (n))) hx hb hts hown hK hP 0 rfl 4 (by decide) zf_X0_58 rfl dX0_root_14 ?_
      refine zr_ige (tgt := 63) hx hb dX0_root_17 (by decide) (by omega) (by omega) (fun hno9 => absurd hno9 (by omega)) (fun _ => ?_)
      obtain ⟨hf1, hf2, hf3⟩ := hf i (by omega)
      have hvi := hV x2 i (by omega) (by omega)
      refine lv_aload_n hx hb dX0_root_20 rfl (lv_at hl 0 rfl) ?_
      refine zx_get0 (v := .ref (ad 2)) hx hb hts hown hK hP 0 rfl 1 (by decide) zf_X0_14 rfl dX0_root_21 ?_
      refine lv_iload_n hx hb dX0_root_24 rfl (lv_at hl 3 rfl) ?_
      refine lv_aload_n hx hb dX0_root_25 rfl (lv_at hl 0 rfl) ?_
      refine lv_aload_n hx hb dX0_root_26 rfl (lv_at hl 0 rfl) ?_
      refine zx_get0 (v := .ref (ad 1)) hx hb hts hown hK hP 0 rfl 0 (by decide) zf_X0_11 rfl dX0_root_27 ?_
      refine lv_iload_n hx hb dX0_root_30 rfl (lv_at hl 2 rfl) ?_
      refine zr_aald (y := ad (4 + x2)) hx hb hK hP 1 1 rfl rfl (by omega) (by decide) rfl dX0_root_31 ?_
      refine lv_iload_n hx hb dX0_root_32 rfl (lv_at hl 3 rfl) ?_
      refine zr_iald (y := V x2 i) hx hb hK hP (4 + x2) 0 (zc_row (by omega)) rfl (by omega) (by decide) rfl dX0_root_33 ?_
      refine zr_callq (zx_runV (As := [.int (nI (V x2 i))]) (rest := [.int (nI (i)), .ref (ad 2)]) hx hb hml hts hown (cx_leastRoot l dC dI cA cR tr wr ad kd n t z v S1 P V (V x2 i) (f i) hvi ht ht2 hf1 hf2 hf3) zv_X0_91 rfl rfl ⟨Nat.le_of_ble_eq_true rfl, Nat.le_of_ble_eq_true rfl⟩ (zr_preV (q := (RX0, TX0, 8)) (ci := 0) (q0 := 0) hP hK rfl rfl) rfl hl.1 rfl (Nat.le_of_ble_eq_true rfl) dX0_root_34 ⟨Nat.zero_le _, Nat.zero_le _⟩) ?_
      refine zr_iastG (ws' := (zc_w cA cR ad kd n t z v (upd S1 i ((nI (f i)))) P V ++ wr)) hx hb hK hP hD hS 2 0 rfl rfl (by omega) (by decide) dX0_root_37 rfl (fun H locs hP hD hS => ?_)
      refine lv_aload_n hx hb dX0_root_38 rfl (lv_at hl 0 rfl) ?_
      refine zx_get0 (v := .ref (ad 2)) hx hb hts hown hK hP 0 rfl 1 (by decide) zf_X0_14 rfl dX0_root_39 ?_
      refine lv_iload_n hx hb dX0_root_42 rfl (lv_at hl 3 rfl) ?_
      refine zr_iald (y := f i) hx hb hK hP 2 0 rfl rfl (by omega) (by decide) (if_pos rfl) dX0_root_43 ?_
      refine zr_ifge (tgt := 57) hx hb dX0_root_44 (by decide) (by omega) ?_
      refine zr_iinc (k := 3) (lv' := [(3, .int (nI (i + 1))), (0, .ref (ad 0)), (1, .int (nI (x1))), (2, .int (nI (x2)))]) hx hb dX0_root_57 hl rfl (by decide) rfl (fun ls hl => ?_)
      refine lv_goto (tgt := 12) hx hb dX0_root_60 (by decide) ?_
      refine ih (i + 1) (by omega) _ (fun j hj => ?_) H locs hP hD hS ls (lv_sub hl [1, 2, 3, 0] rfl)
      by_cases e9 : j = i
      · subst e9; exact if_pos rfl
      · exact (if_neg e9).trans (hsp j (by omega))
  exact loop i1 0 (by omega) S (fun j hj => absurd hj (Nat.not_lt_zero _)) s.heap [] hP hD hS ls (lv_sub hl [1, 2, 3, 0] rfl)
