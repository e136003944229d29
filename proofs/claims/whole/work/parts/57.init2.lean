/-- the fields of a new object -/
def zn_f0 (q1 q2 q3 : Value) : List Value := [q1, q2, q3, .int (nI 0), .int (nI 0), .int (nI 0), .int (nI 0), .int (nI 0)]
def zn_f1 (n t : Nat) (q1 q2 q3 q4 q5 : Value) : List Value := [.int (nI 0), .int (nI 0), .int (nI n), .int (nI t), q1, q2, q3, q4, q5]
def zn_ad (a0 q1 q2 q3 : Nat) (r : Nat → Nat) : Nat → Nat := fun j => if j = 0 then a0 else if j = 1 then q1 else if j = 2 then q2 else if j = 3 then q3 else r (j - 4)
theorem zn_gr (a0 q1 q2 q3 : Nat) (r : Nat → Nat) (c : ClassId) : vp_cell c (16, .inr (.inr (.inr (.inr (fun i => if i < 16 then some (r i) else none))))) = vp_cell c (16, .inr (.inr (.inr (.inr (zc_g (zn_ad a0 q1 q2 q3 r)))))) := by
  show arrV c 16 (fun j => va_rf (if j < 16 then some (r j) else none)) = arrV c 16 (fun j => va_rf (zc_g (zn_ad a0 q1 q2 q3 r) j))
  refine zn_arr (fun j hj => ?_)
  show va_rf (if j < 16 then some (r j) else none) = va_rf (some (zn_ad a0 q1 q2 q3 r (4 + j)))
  rw [if_pos hj]
  unfold zn_ad
  rw [if_neg (by omega), if_neg (by omega), if_neg (by omega), if_neg (by omega), show 4 + j - 4 = j by omega]
set_option maxHeartbeats 4000000 in
set_option maxRecDepth 100000 in
/-- new ValueRing() -/
theorem cx_init (l : Launch) (dC : Nat → ClassId) (dI : Nat → Nat → Nat) (cA cR : ClassId) (tr : List (ClassId × FieldType)) (a0 sz : Nat) : Met l yX0_init wzX0_init { frames := 3, cells := 19, slots := 624, locals := 68 } (zn_pre (dC, dI) zz_cl ((cA, .int) :: (cR, .array .int) :: tr) [(a0, .inr (0, zn_f0 .null .null .null))] sz [.ref a0]) (va_Qv (fun u : (Nat → Nat) × (Nat → Nat) × (Nat → Nat → Nat) => u.1 0 = a0 ∧ (∀ j, j < 2 * zk_n 0 → u.2.1 j = zk_z 0 ^ j % zk_t 0) ∧ ∀ r j, r < 16 → j < 32 → u.2.2 r j = 0) (zw_at (dC, dI) zz_cl ((cA, .int) :: (cR, .array .int) :: tr) (va_A [(a0, .inr (0, zn_f0 .null .null .null))] sz) (fun u : (Nat → Nat) × (Nat → Nat) × (Nat → Nat → Nat) => zc_w cA cR u.1 0 (zk_n 0) (zk_t 0) (zk_z 0) (zk_i 0) (zq_I (fun _ => 0)) u.2.1 u.2.2)) (va_A [(a0, .inr (0, zn_f0 .null .null .null))] sz)) 19 624 (va_A [(a0, .inr (0, zn_f0 .null .null .null))] sz) := by
  refine Met.ofW (cc := cX0_init) (maxL := 1) (ret := none) (by decide) rfl ?_
  intro p e s m args below meth c s₁ B hml hv
  obtain ⟨rfl, hsz, hP, hK, hD0, hZs, hO⟩ := hv
  have hx := B.exec
  have hb := B.bytes
  have hr := B.returns
  have hts := atoms_spec (ws := wzX0_init) B.pre
  have hown : s.vm.findClass RX0 = some m.cls := findClass_of_methodNamed B.named
  have hin : meth.name = "<init>" := (name_of_methodNamed B.named B.method).1
  have hlocks := B.notSynchronized
  subst hsz
  have hD := hD0.self (sz := s.heap.size)
  generalize hAe : va_A ([(a0, .inr (0, zn_f0 .null .null .null))]) s.heap.size = A at hD hZs ⊢
  have hA : ∀ q : Nat, s.heap.size ≤ q → A q := fun q h => by rw [← hAe]; exact Or.inr h
  have hS : va_S A s.heap s.heap [] := va_S.rf
  have hl := lv_entry ([.ref a0]) (n := 1) (Nat.le_of_ble_eq_true rfl)
  rw [lg_entry_eq]
  generalize (lg_sl ([.ref a0]) ++ List.replicate (1 - (lg_sl ([.ref a0])).length) Slot.unset).toArray = ls at hl ⊢
  have hl : lv_has ls 1 [(0, .ref a0)] := hl
  refine lv_aload_n hx hb dX0_init_0 rfl (lv_at hl 0 rfl) ?_
  refine W.objInit hx hb hown (hts _ (List.mem_cons_of_mem _ zl_X0_1)) (hts _ (List.mem_cons_of_mem _ zo_init.1)) (hts _ (List.mem_cons_of_mem _ zo_init.2)) rfl (hl.1.trans hml.symm) rfl dX0_init_1 (Nat.le_of_ble_eq_true rfl) (Nat.le_of_ble_eq_true rfl) ?_
  refine lv_aload_n hx hb dX0_init_4 rfl (lv_at hl 0 rfl) ?_
  refine lv_bipush (v := nI 16) hx hb dX0_init_5 (by decide) ?_
  refine lv_bipush (v := nI 32) hx hb dX0_init_7 (by decide) ?_
  refine va_mna (X := [(a0, .inr (0, zn_f0 .null .null .null))]) (L := []) (f := fun _ => .inl (cA, 32, .inl (zq_I (fun _ => 0)))) (ty := .int) (cy := cA) (N' := 16) (K' := 32) (z := (32, .inl (zq_I (fun _ => 0)))) hx hb hown (hts _ (List.mem_cons_of_mem _ zk_X0_9)) (over_moved (Vm.Alike.refl s.vm) hO) (hts _ (List.mem_cons_of_mem _ za_int)) (hK.2 0 (cA, .int) rfl).2 hK hP hD hS hA (by decide) (by decide) (by decide) (by decide) (by decide) (by decide) (by decide) (by decide) (by decide) (Nat.le_of_ble_eq_true rfl) (Nat.le_of_ble_eq_true rfl) zn_in dX0_init_9 (fun q1 r c1 H hinj hnl hK1 hP hD hS => ?_)
  have e1 : c1 = cR := zn_same (by intro C h; cases h) hK1 (k := 1) rfl
  rw [e1] at hP hD
  rw [zn_rows] at hP hD
  refine va_putF (D := (dC, dI)) (ci := 0) (v := .ref q1) (ty := .array (.array .int)) (C := RX0) (T := TX0) (N := 8) hx hb hts (fun w h => List.mem_cons_of_mem _ (zz_f0 w h)) tyX0 tyX0_ok nmX0 hown hK hP hD hS 0 rfl rfl 0 (by decide) (hts _ (List.mem_cons_of_mem _ zf_X0_11)) (fun _ h9 => h9) rfl hin rfl (by decide +kernel) rfl rfl (Nat.le_of_ble_eq_true rfl) dX0_init_13 (fun H locs hP hD hS => ?_)
  replace hP : va_P (dC, dI) zz_cl (((a0, .inr (0, zn_f0 (.ref q1) .null .null)) :: (q1, .inl (cR, 16, (.inr (.inr (.inr (.inr (fun i => if i < 16 then some (r i) else none))))))) :: (List.range 16).map (fun i => (r i, .inl (cA, 32, .inl (zq_I (fun _ => 0))))))) H := hP
  replace hD : va_D A (((a0, .inr (0, zn_f0 (.ref q1) .null .null)) :: (q1, .inl (cR, 16, (.inr (.inr (.inr (.inr (fun i => if i < 16 then some (r i) else none))))))) :: (List.range 16).map (fun i => (r i, .inl (cA, 32, .inl (zq_I (fun _ => 0))))))) := hD
  refine lv_aload_n hx hb dX0_init_16 rfl (lv_at hl 0 rfl) ?_
  refine lv_bipush (v := nI 32) hx hb dX0_init_17 (by decide) ?_
  refine zn_newi (N' := 32) hx hb hts hK hP hD hS hA 0 rfl (by decide) (by decide) (by decide) (Nat.le_of_ble_eq_true rfl) (Nat.le_of_ble_eq_true rfl) dX0_init_19 (fun q2 H hP hD hS => ?_)
  refine va_putF (D := (dC, dI)) (ci := 0) (v := .ref q2) (ty := .array .int) (C := RX0) (T := TX0) (N := 8) hx hb hts (fun w h => List.mem_cons_of_mem _ (zz_f0 w h)) tyX0 tyX0_ok nmX0 hown hK hP hD hS 0 rfl rfl 1 (by decide) (hts _ (List.mem_cons_of_mem _ zf_X0_14)) (fun _ h9 => h9) rfl hin rfl (by decide +kernel) rfl rfl (Nat.le_of_ble_eq_true rfl) dX0_init_21 (fun H locs hP hD hS => ?_)
  replace hP : va_P (dC, dI) zz_cl (((a0, .inr (0, zn_f0 (.ref q1) (.ref q2) .null)) :: (q1, .inl (cR, 16, (.inr (.inr (.inr (.inr (fun i => if i < 16 then some (r i) else none))))))) :: (List.range 16).map (fun i => (r i, .inl (cA, 32, .inl (zq_I (fun _ => 0)))))) ++ [(q2, .inl (cA, 32, .inl (zq_I (fun _ => 0))))]) H := hP
  replace hD : va_D A (((a0, .inr (0, zn_f0 (.ref q1) (.ref q2) .null)) :: (q1, .inl (cR, 16, (.inr (.inr (.inr (.inr (fun i => if i < 16 then some (r i) else none))))))) :: (List.range 16).map (fun i => (r i, .inl (cA, 32, .inl (zq_I (fun _ => 0)))))) ++ [(q2, .inl (cA, 32, .inl (zq_I (fun _ => 0))))]) := hD
  refine lv_aload_n hx hb dX0_init_24 rfl (lv_at hl 0 rfl) ?_
  refine lv_bipush (v := nI 64) hx hb dX0_init_25 (by decide) ?_
  refine zn_newi (N' := 64) hx hb hts hK hP hD hS hA 0 rfl (by decide) (by decide) (by decide) (Nat.le_of_ble_eq_true rfl) (Nat.le_of_ble_eq_true rfl) dX0_init_27 (fun q3 H hP hD hS => ?_)
  refine va_putF (D := (dC, dI)) (ci := 0) (v := .ref q3) (ty := .array .int) (C := RX0) (T := TX0) (N := 8) hx hb hts (fun w h => List.mem_cons_of_mem _ (zz_f0 w h)) tyX0 tyX0_ok nmX0 hown hK hP hD hS 0 rfl rfl 2 (by decide) (hts _ (List.mem_cons_of_mem _ zf_X0_18)) (fun _ h9 => h9) rfl hin rfl (by decide +kernel) rfl rfl (Nat.le_of_ble_eq_true rfl) dX0_init_29 (fun H locs hP hD hS => ?_)
  replace hP : va_P (dC, dI) zz_cl ((((a0, .inr (0, zn_f0 (.ref q1) (.ref q2) (.ref q3))) :: (q1, .inl (cR, 16, (.inr (.inr (.inr (.inr (fun i => if i < 16 then some (r i) else none))))))) :: (List.range 16).map (fun i => (r i, .inl (cA, 32, .inl (zq_I (fun _ => 0)))))) ++ [(q2, .inl (cA, 32, .inl (zq_I (fun _ => 0))))] ++ [(q3, .inl (cA, 64, .inl (zq_I (fun _ => 0))))])) H := hP
  replace hD : va_D A ((((a0, .inr (0, zn_f0 (.ref q1) (.ref q2) (.ref q3))) :: (q1, .inl (cR, 16, (.inr (.inr (.inr (.inr (fun i => if i < 16 then some (r i) else none))))))) :: (List.range 16).map (fun i => (r i, .inl (cA, 32, .inl (zq_I (fun _ => 0)))))) ++ [(q2, .inl (cA, 32, .inl (zq_I (fun _ => 0))))] ++ [(q3, .inl (cA, 64, .inl (zq_I (fun _ => 0))))])) := hD
  have hP2 : va_P (dC, dI) zz_cl ([(a0, .inr (0, zn_f0 (.ref q1) (.ref q2) (.ref q3))), (q1, .inl (cR, 16, (.inr (.inr (.inr (.inr (fun i => if i < 16 then some (r i) else none))))))), (q2, .inl (cA, 32, .inl (zq_I (fun _ => 0)))), (q3, .inl (cA, 64, .inl (zq_I (fun _ => 0))))] ++ (List.range 16).map (fun i => (r i, .inl (cA, 32, .inl (zq_I (fun _ => 0)))))) H := hP.sub [0, 1, 18, 19, 2, 3, 4, 5, 6, 7, 8, 9, 10, 11, 12, 13, 14, 15, 16, 17] rfl
  have hD2 : va_D A ([(a0, .inr (0, zn_f0 (.ref q1) (.ref q2) (.ref q3))), (q1, .inl (cR, 16, (.inr (.inr (.inr (.inr (fun i => if i < 16 then some (r i) else none))))))), (q2, .inl (cA, 32, .inl (zq_I (fun _ => 0)))), (q3, .inl (cA, 64, .inl (zq_I (fun _ => 0))))] ++ (List.range 16).map (fun i => (r i, .inl (cA, 32, .inl (zq_I (fun _ => 0)))))) := hD.sub [0, 1, 18, 19, 2, 3, 4, 5, 6, 7, 8, 9, 10, 11, 12, 13, 14, 15, 16, 17] rfl rfl
  have hP3 : va_P (dC, dI) zz_cl (zc_w cA cR (zn_ad a0 q1 q2 q3 r) 0 0 0 0 0 (zq_I (fun _ => 0)) (fun _ => 0) (fun _ _ => 0) ++ []) H := zw_mem.mpr (fun q hq => by
    rcases List.mem_cons.mp hq with rfl | hq
    · exact zw_mem.mp hP2 _ List.mem_cons_self
    rcases List.mem_cons.mp hq with rfl | hq
    · have h9 : H[q1]? = some (vp_cell cR (16, (.inr (.inr (.inr (.inr (fun i => if i < 16 then some (r i) else none))))))) := zw_mem.mp hP2 _ (List.mem_cons_of_mem _ List.mem_cons_self)
      rw [zn_gr a0 q1 q2 q3 r] at h9
      exact h9
    · exact zw_mem.mp hP2 q (List.mem_cons_of_mem _ (List.mem_cons_of_mem _ hq)))
  have hD3 : va_D A (zc_w cA cR (zn_ad a0 q1 q2 q3 r) 0 0 0 0 0 (zq_I (fun _ => 0)) (fun _ => 0) (fun _ _ => 0) ++ []) := zw_dc (show List.map Prod.fst ([(a0, .inr (0, zn_f0 (.ref q1) (.ref q2) (.ref q3))), (q1, .inl (cR, 16, (.inr (.inr (.inr (.inr (fun i => if i < 16 then some (r i) else none))))))), (q2, .inl (cA, 32, .inl (zq_I (fun _ => 0)))), (q3, .inl (cA, 64, .inl (zq_I (fun _ => 0))))] ++ (List.range 16).map (fun i => (r i, .inl (cA, 32, .inl (zq_I (fun _ => 0)))))) = List.map Prod.fst (zc_w cA cR (zn_ad a0 q1 q2 q3 r) 0 0 0 0 0 (zq_I (fun _ => 0)) (fun _ => 0) (fun _ _ => 0) ++ []) from rfl) hD2
  clear hP hD hP2 hD2
  have hP := hP3
  have hD := hD3
  refine lv_aload_n hx hb dX0_init_32 rfl (lv_at hl 0 rfl) ?_
  refine lv_iconst (v := nI 0) hx hb dX0_init_33 (by decide) ?_
  refine zw_callv (w' := fun u : (Nat → Nat) × (Nat → Nat → Nat) => zc_w cA cR (zn_ad a0 q1 q2 q3 r) 0 (zk_n 0) (zk_t 0) (zk_z 0) (zk_i 0) (zq_I (fun _ => 0)) u.1 u.2 ++ []) hD hS hA (zx_runV (As := [.int (nI 0)]) (rest := []) hx hb hml hts hown (cx_startKind l dC dI cA cR tr [] (zn_ad a0 q1 q2 q3 r) 0 0 0 0 0 (zq_I (fun _ => 0)) (fun _ => 0) (fun _ _ => 0) H.size 0 (by decide)) zv_X0_21 rfl rfl ⟨Nat.le_of_ble_eq_true rfl, Nat.le_of_ble_eq_true rfl⟩ (zs_preV (q := (RX0, TX0, 8)) (ci := 0) (q0 := 0) hP hK hD hZs hS hA rfl rfl) rfl hl.1 rfl (Nat.le_of_ble_eq_true rfl) dX0_init_34 ⟨Nat.le_of_ble_eq_true rfl, Nat.le_of_ble_eq_true rfl⟩) (fun u9 H locs hu hP hD hS => ?_)
  exact W.vret hx hb hr (fun t9 h9 hW9 => ⟨⟨(zn_ad a0 q1 q2 q3 r, u9.1, u9.2), rfl, ⟨rfl, hu.1, hu.2⟩, by rw [h9]; exact hP, va_K.moved hW9.alike hK, hD⟩, hS.F h9⟩) hS.2.2 dX0_init_37
set_option maxHeartbeats 4000000 in
set_option maxRecDepth 100000 in
/-- new ValueRingModel() -/
theorem cm_init (l : Launch) (dC : Nat → ClassId) (dI : Nat → Nat → Nat) (cA : ClassId) (tr : List (ClassId × FieldType)) (wr : va_W) (a0 sz : Nat) : Met l yX1_init wzX1_init { frames := 1, cells := 5, slots := 640, locals := 20 } (zw_pre (dC, dI) zz_cl ((cA, .int) :: tr) ((a0, .inr (1, zn_f1 0 0 .null .null .null .null .null)) :: wr) sz [.ref a0]) (va_Qv (fun u : Nat → Nat => u 0 = a0) (zw_at (dC, dI) zz_cl ((cA, .int) :: tr) (va_A ((a0, .inr (1, zn_f1 0 0 .null .null .null .null .null)) :: wr) sz) (fun u : Nat → Nat => zm_w cA u 0 0 4 17 (fun _ => 0) (fun _ => 0) (fun _ => 0) (fun _ => 0) (fun _ => 0) ++ wr)) (va_A ((a0, .inr (1, zn_f1 0 0 .null .null .null .null .null)) :: wr) sz)) 5 640 (va_A ((a0, .inr (1, zn_f1 0 0 .null .null .null .null .null)) :: wr) sz) := by
  refine Met.ofW (cc := cX1_init) (maxL := 1) (ret := none) (by decide) rfl ?_
  intro p e s m args below meth c s₁ B hml hv
  obtain ⟨rfl, hsz, hP, hK, hD0⟩ := hv
  have hx := B.exec
  have hb := B.bytes
  have hr := B.returns
  have hts := atoms_spec (ws := wzX1_init) B.pre
  have hown : s.vm.findClass RX1 = some m.cls := findClass_of_methodNamed B.named
  have hin : meth.name = "<init>" := (name_of_methodNamed B.named B.method).1
  have hlocks := B.notSynchronized
  subst hsz
  have hD := hD0.self (sz := s.heap.size)
  generalize hAe : va_A (((a0, .inr (1, zn_f1 0 0 .null .null .null .null .null)) :: wr)) s.heap.size = A at hD ⊢
  have hA : ∀ q : Nat, s.heap.size ≤ q → A q := fun q h => by rw [← hAe]; exact Or.inr h
  have hS : va_S A s.heap s.heap [] := va_S.rf
  have hl := lv_entry ([.ref a0]) (n := 1) (Nat.le_of_ble_eq_true rfl)
  rw [lg_entry_eq]
  generalize (lg_sl ([.ref a0]) ++ List.replicate (1 - (lg_sl ([.ref a0])).length) Slot.unset).toArray = ls at hl ⊢
  have hl : lv_has ls 1 [(0, .ref a0)] := hl
  refine lv_aload_n hx hb dX1_init_0 rfl (lv_at hl 0 rfl) ?_
  refine W.objInit hx hb hown (hts _ (List.mem_cons_of_mem _ zl_X1_1)) (hts _ (List.mem_cons_of_mem _ zo_init.1)) (hts _ (List.mem_cons_of_mem _ zo_init.2)) rfl (hl.1.trans hml.symm) rfl dX1_init_1 (Nat.le_of_ble_eq_true rfl) (Nat.le_of_ble_eq_true rfl) ?_
  refine lv_aload_n hx hb dX1_init_4 rfl (lv_at hl 0 rfl) ?_
  refine lv_iconst (v := nI 4) hx hb dX1_init_5 (by decide) ?_
  refine zx_put1 (ws' := ((a0, .inr (1, zn_f1 4 0 .null .null .null .null .null)) :: wr)) hx hb hts hown hK hP hD hS 0 rfl 2 (by decide) zf_X1_7 rfl (by decide +kernel) (Nat.le_of_ble_eq_true rfl) dX1_init_6 rfl (fun H locs hP hD hS => ?_)
  refine lv_aload_n hx hb dX1_init_9 rfl (lv_at hl 0 rfl) ?_
  refine lv_bipush (v := nI 17) hx hb dX1_init_10 (by decide) ?_
  refine zx_put1 (ws' := ((a0, .inr (1, zn_f1 4 17 .null .null .null .null .null)) :: wr)) hx hb hts hown hK hP hD hS 0 rfl 3 (by decide) zf_X1_13 rfl (by decide +kernel) (Nat.le_of_ble_eq_true rfl) dX1_init_12 rfl (fun H locs hP hD hS => ?_)
  refine lv_aload_n hx hb dX1_init_15 rfl (lv_at hl 0 rfl) ?_
  refine lv_sipush (v := nI 512) hx hb dX1_init_16 (by decide) ?_
  refine zn_newi (N' := 512) hx hb hts hK hP hD hS hA 0 rfl (by decide) (by decide) (by decide) (Nat.le_of_ble_eq_true rfl) (Nat.le_of_ble_eq_true rfl) dX1_init_19 (fun q1 H hP hD hS => ?_)
  refine va_putF (D := (dC, dI)) (ci := 1) (v := .ref q1) (ty := .array .int) (C := RX1) (T := TM1) (N := 9) hx hb hts (fun w h => List.mem_cons_of_mem _ (zz_f1 w h)) tyM1 tyM1_ok nmM1 hown hK hP hD hS 0 rfl rfl 4 (by decide) (hts _ (List.mem_cons_of_mem _ zf_X1_16)) (fun _ h9 => h9) rfl hin rfl (by decide +kernel) rfl rfl (Nat.le_of_ble_eq_true rfl) dX1_init_21 (fun H locs hP hD hS => ?_)
  replace hP : va_P (dC, dI) zz_cl (((a0, .inr (1, zn_f1 4 17 (.ref q1) .null .null .null .null)) :: wr) ++ [(q1, .inl (cA, 512, .inl (zq_I (fun _ => 0))))]) H := hP
  replace hD : va_D A (((a0, .inr (1, zn_f1 4 17 (.ref q1) .null .null .null .null)) :: wr) ++ [(q1, .inl (cA, 512, .inl (zq_I (fun _ => 0))))]) := hD
  refine lv_aload_n hx hb dX1_init_24 rfl (lv_at hl 0 rfl) ?_
  refine lv_bipush (v := nI 32) hx hb dX1_init_25 (by decide) ?_
  refine zn_newi (N' := 32) hx hb hts hK hP hD hS hA 0 rfl (by decide) (by decide) (by decide) (Nat.le_of_ble_eq_true rfl) (Nat.le_of_ble_eq_true rfl) dX1_init_27 (fun q2 H hP hD hS => ?_)
  refine va_putF (D := (dC, dI)) (ci := 1) (v := .ref q2) (ty := .array .int) (C := RX1) (T := TM1) (N := 9) hx hb hts (fun w h => List.mem_cons_of_mem _ (zz_f1 w h)) tyM1 tyM1_ok nmM1 hown hK hP hD hS 0 rfl rfl 5 (by decide) (hts _ (List.mem_cons_of_mem _ zf_X1_20)) (fun _ h9 => h9) rfl hin rfl (by decide +kernel) rfl rfl (Nat.le_of_ble_eq_true rfl) dX1_init_29 (fun H locs hP hD hS => ?_)
  replace hP : va_P (dC, dI) zz_cl (((a0, .inr (1, zn_f1 4 17 (.ref q1) (.ref q2) .null .null .null)) :: wr) ++ [(q1, .inl (cA, 512, .inl (zq_I (fun _ => 0))))] ++ [(q2, .inl (cA, 32, .inl (zq_I (fun _ => 0))))]) H := hP
  replace hD : va_D A (((a0, .inr (1, zn_f1 4 17 (.ref q1) (.ref q2) .null .null .null)) :: wr) ++ [(q1, .inl (cA, 512, .inl (zq_I (fun _ => 0))))] ++ [(q2, .inl (cA, 32, .inl (zq_I (fun _ => 0))))]) := hD
  refine lv_aload_n hx hb dX1_init_32 rfl (lv_at hl 0 rfl) ?_
  refine lv_bipush (v := nI 32) hx hb dX1_init_33 (by decide) ?_
  refine zn_newi (N' := 32) hx hb hts hK hP hD hS hA 0 rfl (by decide) (by decide) (by decide) (Nat.le_of_ble_eq_true rfl) (Nat.le_of_ble_eq_true rfl) dX1_init_35 (fun q3 H hP hD hS => ?_)
  refine va_putF (D := (dC, dI)) (ci := 1) (v := .ref q3) (ty := .array .int) (C := RX1) (T := TM1) (N := 9) hx hb hts (fun w h => List.mem_cons_of_mem _ (zz_f1 w h)) tyM1 tyM1_ok nmM1 hown hK hP hD hS 0 rfl rfl 6 (by decide) (hts _ (List.mem_cons_of_mem _ zf_X1_23)) (fun _ h9 => h9) rfl hin rfl (by decide +kernel) rfl rfl (Nat.le_of_ble_eq_true rfl) dX1_init_37 (fun H locs hP hD hS => ?_)
  replace hP : va_P (dC, dI) zz_cl (((a0, .inr (1, zn_f1 4 17 (.ref q1) (.ref q2) (.ref q3) .null .null)) :: wr) ++ [(q1, .inl (cA, 512, .inl (zq_I (fun _ => 0))))] ++ [(q2, .inl (cA, 32, .inl (zq_I (fun _ => 0))))] ++ [(q3, .inl (cA, 32, .inl (zq_I (fun _ => 0))))]) H := hP
  replace hD : va_D A (((a0, .inr (1, zn_f1 4 17 (.ref q1) (.ref q2) (.ref q3) .null .null)) :: wr) ++ [(q1, .inl (cA, 512, .inl (zq_I (fun _ => 0))))] ++ [(q2, .inl (cA, 32, .inl (zq_I (fun _ => 0))))] ++ [(q3, .inl (cA, 32, .inl (zq_I (fun _ => 0))))]) := hD
  refine lv_aload_n hx hb dX1_init_40 rfl (lv_at hl 0 rfl) ?_
  refine lv_bipush (v := nI 32) hx hb dX1_init_41 (by decide) ?_
  refine zn_newi (N' := 32) hx hb hts hK hP hD hS hA 0 rfl (by decide) (by decide) (by decide) (Nat.le_of_ble_eq_true rfl) (Nat.le_of_ble_eq_true rfl) dX1_init_43 (fun q4 H hP hD hS => ?_)
  refine va_putF (D := (dC, dI)) (ci := 1) (v := .ref q4) (ty := .array .int) (C := RX1) (T := TM1) (N := 9) hx hb hts (fun w h => List.mem_cons_of_mem _ (zz_f1 w h)) tyM1 tyM1_ok nmM1 hown hK hP hD hS 0 rfl rfl 7 (by decide) (hts _ (List.mem_cons_of_mem _ zf_X1_26)) (fun _ h9 => h9) rfl hin rfl (by decide +kernel) rfl rfl (Nat.le_of_ble_eq_true rfl) dX1_init_45 (fun H locs hP hD hS => ?_)
  replace hP : va_P (dC, dI) zz_cl (((a0, .inr (1, zn_f1 4 17 (.ref q1) (.ref q2) (.ref q3) (.ref q4) .null)) :: wr) ++ [(q1, .inl (cA, 512, .inl (zq_I (fun _ => 0))))] ++ [(q2, .inl (cA, 32, .inl (zq_I (fun _ => 0))))] ++ [(q3, .inl (cA, 32, .inl (zq_I (fun _ => 0))))] ++ [(q4, .inl (cA, 32, .inl (zq_I (fun _ => 0))))]) H := hP
  replace hD : va_D A (((a0, .inr (1, zn_f1 4 17 (.ref q1) (.ref q2) (.ref q3) (.ref q4) .null)) :: wr) ++ [(q1, .inl (cA, 512, .inl (zq_I (fun _ => 0))))] ++ [(q2, .inl (cA, 32, .inl (zq_I (fun _ => 0))))] ++ [(q3, .inl (cA, 32, .inl (zq_I (fun _ => 0))))] ++ [(q4, .inl (cA, 32, .inl (zq_I (fun _ => 0))))]) := hD
  refine lv_aload_n hx hb dX1_init_48 rfl (lv_at hl 0 rfl) ?_
  refine lv_bipush (v := nI 32) hx hb dX1_init_49 (by decide) ?_
  refine zn_newi (N' := 32) hx hb hts hK hP hD hS hA 0 rfl (by decide) (by decide) (by decide) (Nat.le_of_ble_eq_true rfl) (Nat.le_of_ble_eq_true rfl) dX1_init_51 (fun q5 H hP hD hS => ?_)
  refine va_putF (D := (dC, dI)) (ci := 1) (v := .ref q5) (ty := .array .int) (C := RX1) (T := TM1) (N := 9) hx hb hts (fun w h => List.mem_cons_of_mem _ (zz_f1 w h)) tyM1 tyM1_ok nmM1 hown hK hP hD hS 0 rfl rfl 8 (by decide) (hts _ (List.mem_cons_of_mem _ zf_X1_29)) (fun _ h9 => h9) rfl hin rfl (by decide +kernel) rfl rfl (Nat.le_of_ble_eq_true rfl) dX1_init_53 (fun H locs hP hD hS => ?_)
  replace hP : va_P (dC, dI) zz_cl (((a0, .inr (1, zn_f1 4 17 (.ref q1) (.ref q2) (.ref q3) (.ref q4) (.ref q5))) :: wr) ++ [(q1, .inl (cA, 512, .inl (zq_I (fun _ => 0))))] ++ [(q2, .inl (cA, 32, .inl (zq_I (fun _ => 0))))] ++ [(q3, .inl (cA, 32, .inl (zq_I (fun _ => 0))))] ++ [(q4, .inl (cA, 32, .inl (zq_I (fun _ => 0))))] ++ [(q5, .inl (cA, 32, .inl (zq_I (fun _ => 0))))]) H := hP
  replace hD : va_D A (((a0, .inr (1, zn_f1 4 17 (.ref q1) (.ref q2) (.ref q3) (.ref q4) (.ref q5))) :: wr) ++ [(q1, .inl (cA, 512, .inl (zq_I (fun _ => 0))))] ++ [(q2, .inl (cA, 32, .inl (zq_I (fun _ => 0))))] ++ [(q3, .inl (cA, 32, .inl (zq_I (fun _ => 0))))] ++ [(q4, .inl (cA, 32, .inl (zq_I (fun _ => 0))))] ++ [(q5, .inl (cA, 32, .inl (zq_I (fun _ => 0))))]) := hD
  rw [List.append_assoc, List.append_assoc, List.append_assoc, List.append_assoc] at hP hD
  have hP2 : va_P (dC, dI) zz_cl (([(a0, .inr (1, zn_f1 4 17 (.ref q1) (.ref q2) (.ref q3) (.ref q4) (.ref q5)))] ++ [(q1, .inl (cA, 512, .inl (zq_I (fun _ => 0)))), (q2, .inl (cA, 32, .inl (zq_I (fun _ => 0)))), (q3, .inl (cA, 32, .inl (zq_I (fun _ => 0)))), (q4, .inl (cA, 32, .inl (zq_I (fun _ => 0)))), (q5, .inl (cA, 32, .inl (zq_I (fun _ => 0))))]) ++ wr) H := va_P.swap hP
  have hD2 : va_D A (([(a0, .inr (1, zn_f1 4 17 (.ref q1) (.ref q2) (.ref q3) (.ref q4) (.ref q5)))] ++ [(q1, .inl (cA, 512, .inl (zq_I (fun _ => 0)))), (q2, .inl (cA, 32, .inl (zq_I (fun _ => 0)))), (q3, .inl (cA, 32, .inl (zq_I (fun _ => 0)))), (q4, .inl (cA, 32, .inl (zq_I (fun _ => 0)))), (q5, .inl (cA, 32, .inl (zq_I (fun _ => 0))))]) ++ wr) := va_D.swap hD
  exact W.vret hx hb hr (fun t9 h9 hW9 => ⟨⟨(fun j => if j = 0 then a0 else if j = 1 then q1 else if j = 2 then q2 else if j = 3 then q3 else if j = 4 then q4 else q5), rfl, rfl, by rw [h9]; exact hP2, va_K.moved hW9.alike hK, hD2⟩, hS.F h9⟩) hS.2.2 dX1_init_56
