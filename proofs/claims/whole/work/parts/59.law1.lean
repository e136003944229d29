theorem zl_u0 (f : Nat → Int64) (x : Int64) : vp_updL f 0 x 0 = x := by simp [vp_updL]
set_option maxHeartbeats 4000000 in
set_option maxRecDepth 100000 in
theorem cl_get (l : Launch) (dC : Nat → ClassId) (dI : Nat → Nat → Nat) (cA cR cL : ClassId) (tr : List (ClassId × FieldType)) (wr : va_W) (ad : Nat → Nat) (o k : Nat) (S : Nat → Int32) (P : Nat → Nat) (V : Nat → Nat → Nat) (g : Nat → Int64) (sz : Nat) (x1 x2 : Int32) (f lo : Nat) (hf : f ≤ 8) (hlo : lo ≤ 170) (r : Int32) (hM : Met l yX0_get wzX0_get (k2_rm f lo) (zr_pre (dC, dI) zz_cl ((cA, .int) :: (cR, .array .int) :: (cL, .long) :: tr) (zc_w cA cR ad k (zk_n k) (zk_t k) (zk_z k) (zk_i k) S P V ++ ((o, .inl (cL, 1, .inr (.inl g))) :: wr)) [.ref (ad 0), .int x1, .int x2]) (k2_QcV (.int r)) 0 0 (fun _ => False)) : zl_C l dC dI cA cR cL tr wr ad o k (S, P, V, g) sz yL_get wqL_get [.ref (ad 0), .int (x1), .int (x2), .ref (o)] 0 (r.toInt64) k (fun P1 V1 => P1 = P ∧ V1 = V) := by
  unfold zl_C
  refine va_MetW (cc := cL_get) (maxL := 5) (ret := (some .int)) (hh := zhL_get) (by decide) rfl ?_
  intro p e s m args below meth c s₁ B hml hv
  obtain ⟨rfl, hsz, hP, hK, hD0, hE⟩ := hv
  have hx := B.exec
  have hb := B.bytes
  have hr := B.returns
  have hts := atoms_spec (ws := wqL_get) B.pre
  have hown : s.vm.findClass RL = some m.cls := findClass_of_methodNamed B.named
  have hlocks := B.notSynchronized
  have htb := vx_table (x := yL_get) B (hts _ List.mem_cons_self)
  subst hsz
  have hD := hD0.self (sz := s.heap.size)
  generalize hAe : va_A (zl_w cA cR cL wr ad o k (S, P, V, g)) s.heap.size = A at hD hE ⊢
  have hA : ∀ q : Nat, s.heap.size ≤ q → A q := fun q h => by rw [← hAe]; exact Or.inr h
  have hS : va_S A s.heap s.heap [] := va_S.rf
  replace hP : va_P (dC, dI) zz_cl (zc_w cA cR ad k (zk_n k) (zk_t k) (zk_z k) (zk_i k) S P V ++ ((o, .inl (cL, 1, .inr (.inl g))) :: wr)) s.heap := hP
  replace hD : va_D A (zc_w cA cR ad k (zk_n k) (zk_t k) (zk_z k) (zk_i k) S P V ++ ((o, .inl (cL, 1, .inr (.inl g))) :: wr)) := hD
  have hl := lv_entry ([.ref (ad 0), .int (x1), .int (x2), .ref (o)]) (n := 5) (Nat.le_of_ble_eq_true rfl)
  rw [lg_entry_eq]
  generalize (lg_sl ([.ref (ad 0), .int (x1), .int (x2), .ref (o)]) ++ List.replicate (5 - (lg_sl ([.ref (ad 0), .int (x1), .int (x2), .ref (o)])).length) Slot.unset).toArray = ls at hl ⊢
  have hl : lv_has ls 5 [(0, .ref (ad 0)), (1, .int (x1)), (2, .int (x2)), (3, .ref (o))] := hl
  refine lv_aload_n hx hb dL_get_0 rfl (lv_at hl 3 rfl) ?_
  refine lv_iconst (v := nI 0) hx hb dL_get_1 (by decide) ?_
  refine lv_aload_n hx hb dL_get_2 rfl (lv_at hl 0 rfl) ?_
  refine lv_iload_n hx hb dL_get_3 rfl (lv_at hl 1 rfl) ?_
  refine lv_iload_n hx hb dL_get_4 rfl (lv_at hl 2 rfl) ?_
  refine zr_callq (zx_runV (As := [.int (x1), .int (x2)]) (rest := [.int (nI 0), .ref (o)]) hx hb hml hts hown hM zv_L_21 rfl rfl ⟨Nat.succ_le_succ hf, Nat.le_trans (Nat.add_le_add_left hlo _) (Nat.le_of_ble_eq_true rfl)⟩ (zr_preV (q := (RX0, TX0, 8)) (ci := 0) (q0 := 0) hP hK rfl rfl) rfl hl.1 rfl (Nat.le_of_ble_eq_true rfl) dL_get_5 ⟨Nat.zero_le _, Nat.zero_le _⟩) ?_
  refine lv_i2l (v := r.toInt64) hx hb dL_get_8 rfl ?_
  refine zr_last0 (ws' := zc_w cA cR ad k (zk_n k) (zk_t k) (zk_z k) (zk_i k) S P V ++ ((o, .inl (cL, 1, .inr (.inl (vp_updL g 0 r.toInt64)))) :: wr)) hx hb hK hP hD hS 20 2 rfl rfl dL_get_9 rfl (fun H locs hP hD hS => ?_)
  refine lv_goto (tgt := 17) hx hb dL_get_10 (by decide) ?_
  refine lv_iconst (v := nI 0) hx hb dL_get_17 (by decide) ?_
  refine W.widen (k := 1) (n := 6) (Nat.le_of_ble_eq_true rfl) (Nat.le_of_ble_eq_true rfl) ?_
  exact W.iret (v := nI 0) hx hb hr (fun t9 h9 hW9 => ⟨⟨nI 0, (S, P, V, vp_updL g 0 r.toInt64), rfl, ⟨rfl, fun _ => zl_u0 g (r.toInt64), rfl, rfl⟩, by rw [h9]; exact hP, va_K.moved hW9.alike hK, hD⟩, hS.F h9⟩) hS.2.2 dL_get_18
set_option maxHeartbeats 4000000 in
set_option maxRecDepth 100000 in
theorem cl_value (l : Launch) (dC : Nat → ClassId) (dI : Nat → Nat → Nat) (cA cR cL : ClassId) (tr : List (ClassId × FieldType)) (wr : va_W) (ad : Nat → Nat) (o k : Nat) (S : Nat → Int32) (P : Nat → Nat) (V : Nat → Nat → Nat) (g : Nat → Int64) (sz : Nat) (x1 x2 : Int32) (f lo : Nat) (hf : f ≤ 8) (hlo : lo ≤ 170) (r : Int32) (hM : Met l yX0_value wzX0_value (k2_rm f lo) (zr_pre (dC, dI) zz_cl ((cA, .int) :: (cR, .array .int) :: (cL, .long) :: tr) (zc_w cA cR ad k (zk_n k) (zk_t k) (zk_z k) (zk_i k) S P V ++ ((o, .inl (cL, 1, .inr (.inl g))) :: wr)) [.ref (ad 0), .int x1, .int x2]) (k2_QcV (.int r)) 0 0 (fun _ => False)) : zl_C l dC dI cA cR cL tr wr ad o k (S, P, V, g) sz yL_value wqL_value [.ref (ad 0), .int (x1), .int (x2), .ref (o)] 0 (r.toInt64) k (fun P1 V1 => P1 = P ∧ V1 = V) := by
  unfold zl_C
  refine va_MetW (cc := cL_value) (maxL := 5) (ret := (some .int)) (hh := zhL_value) (by decide) rfl ?_
  intro p e s m args below meth c s₁ B hml hv
  obtain ⟨rfl, hsz, hP, hK, hD0, hE⟩ := hv
  have hx := B.exec
  have hb := B.bytes
  have hr := B.returns
  have hts := atoms_spec (ws := wqL_value) B.pre
  have hown : s.vm.findClass RL = some m.cls := findClass_of_methodNamed B.named
  have hlocks := B.notSynchronized
  have htb := vx_table (x := yL_value) B (hts _ List.mem_cons_self)
  subst hsz
  have hD := hD0.self (sz := s.heap.size)
  generalize hAe : va_A (zl_w cA cR cL wr ad o k (S, P, V, g)) s.heap.size = A at hD hE ⊢
  have hA : ∀ q : Nat, s.heap.size ≤ q → A q := fun q h => by rw [← hAe]; exact Or.inr h
  have hS : va_S A s.heap s.heap [] := va_S.rf
  replace hP : va_P (dC, dI) zz_cl (zc_w cA cR ad k (zk_n k) (zk_t k) (zk_z k) (zk_i k) S P V ++ ((o, .inl (cL, 1, .inr (.inl g))) :: wr)) s.heap := hP
  replace hD : va_D A (zc_w cA cR ad k (zk_n k) (zk_t k) (zk_z k) (zk_i k) S P V ++ ((o, .inl (cL, 1, .inr (.inl g))) :: wr)) := hD
  have hl := lv_entry ([.ref (ad 0), .int (x1), .int (x2), .ref (o)]) (n := 5) (Nat.le_of_ble_eq_true rfl)
  rw [lg_entry_eq]
  generalize (lg_sl ([.ref (ad 0), .int (x1), .int (x2), .ref (o)]) ++ List.replicate (5 - (lg_sl ([.ref (ad 0), .int (x1), .int (x2), .ref (o)])).length) Slot.unset).toArray = ls at hl ⊢
  have hl : lv_has ls 5 [(0, .ref (ad 0)), (1, .int (x1)), (2, .int (x2)), (3, .ref (o))] := hl
  refine lv_aload_n hx hb dL_value_0 rfl (lv_at hl 3 rfl) ?_
  refine lv_iconst (v := nI 0) hx hb dL_value_1 (by decide) ?_
  refine lv_aload_n hx hb dL_value_2 rfl (lv_at hl 0 rfl) ?_
  refine lv_iload_n hx hb dL_value_3 rfl (lv_at hl 1 rfl) ?_
  refine lv_iload_n hx hb dL_value_4 rfl (lv_at hl 2 rfl) ?_
  refine zr_callq (zx_runV (As := [.int (x1), .int (x2)]) (rest := [.int (nI 0), .ref (o)]) hx hb hml hts hown hM zv_L_28 rfl rfl ⟨Nat.succ_le_succ hf, Nat.le_trans (Nat.add_le_add_left hlo _) (Nat.le_of_ble_eq_true rfl)⟩ (zr_preV (q := (RX0, TX0, 8)) (ci := 0) (q0 := 0) hP hK rfl rfl) rfl hl.1 rfl (Nat.le_of_ble_eq_true rfl) dL_value_5 ⟨Nat.zero_le _, Nat.zero_le _⟩) ?_
  refine lv_i2l (v := r.toInt64) hx hb dL_value_8 rfl ?_
  refine zr_last0 (ws' := zc_w cA cR ad k (zk_n k) (zk_t k) (zk_z k) (zk_i k) S P V ++ ((o, .inl (cL, 1, .inr (.inl (vp_updL g 0 r.toInt64)))) :: wr)) hx hb hK hP hD hS 20 2 rfl rfl dL_value_9 rfl (fun H locs hP hD hS => ?_)
  refine lv_goto (tgt := 17) hx hb dL_value_10 (by decide) ?_
  refine lv_iconst (v := nI 0) hx hb dL_value_17 (by decide) ?_
  refine W.widen (k := 1) (n := 6) (Nat.le_of_ble_eq_true rfl) (Nat.le_of_ble_eq_true rfl) ?_
  exact W.iret (v := nI 0) hx hb hr (fun t9 h9 hW9 => ⟨⟨nI 0, (S, P, V, vp_updL g 0 r.toInt64), rfl, ⟨rfl, fun _ => zl_u0 g (r.toInt64), rfl, rfl⟩, by rw [h9]; exact hP, va_K.moved hW9.alike hK, hD⟩, hS.F h9⟩) hS.2.2 dL_value_18
set_option maxHeartbeats 4000000 in
set_option maxRecDepth 100000 in
theorem cl_order (l : Launch) (dC : Nat → ClassId) (dI : Nat → Nat → Nat) (cA cR cL : ClassId) (tr : List (ClassId × FieldType)) (wr : va_W) (ad : Nat → Nat) (o k : Nat) (S : Nat → Int32) (P : Nat → Nat) (V : Nat → Nat → Nat) (g : Nat → Int64) (sz : Nat) (x1 : Int32) (f lo : Nat) (hf : f ≤ 8) (hlo : lo ≤ 170) (r : Int32) (hM : Met l yX0_order wzX0_order (k2_rm f lo) (zr_pre (dC, dI) zz_cl ((cA, .int) :: (cR, .array .int) :: (cL, .long) :: tr) (zc_w cA cR ad k (zk_n k) (zk_t k) (zk_z k) (zk_i k) S P V ++ ((o, .inl (cL, 1, .inr (.inl g))) :: wr)) [.ref (ad 0), .int x1]) (k2_QcV (.int r)) 0 0 (fun _ => False)) : zl_C l dC dI cA cR cL tr wr ad o k (S, P, V, g) sz yL_order wqL_order [.ref (ad 0), .int (x1), .ref (o)] 0 (r.toInt64) k (fun P1 V1 => P1 = P ∧ V1 = V) := by
  unfold zl_C
  refine va_MetW (cc := cL_order) (maxL := 4) (ret := (some .int)) (hh := zhL_order) (by decide) rfl ?_
  intro p e s m args below meth c s₁ B hml hv
  obtain ⟨rfl, hsz, hP, hK, hD0, hE⟩ := hv
  have hx := B.exec
  have hb := B.bytes
  have hr := B.returns
  have hts := atoms_spec (ws := wqL_order) B.pre
  have hown : s.vm.findClass RL = some m.cls := findClass_of_methodNamed B.named
  have hlocks := B.notSynchronized
  have htb := vx_table (x := yL_order) B (hts _ List.mem_cons_self)
  subst hsz
  have hD := hD0.self (sz := s.heap.size)
  generalize hAe : va_A (zl_w cA cR cL wr ad o k (S, P, V, g)) s.heap.size = A at hD hE ⊢
  have hA : ∀ q : Nat, s.heap.size ≤ q → A q := fun q h => by rw [← hAe]; exact Or.inr h
  have hS : va_S A s.heap s.heap [] := va_S.rf
  replace hP : va_P (dC, dI) zz_cl (zc_w cA cR ad k (zk_n k) (zk_t k) (zk_z k) (zk_i k) S P V ++ ((o, .inl (cL, 1, .inr (.inl g))) :: wr)) s.heap := hP
  replace hD : va_D A (zc_w cA cR ad k (zk_n k) (zk_t k) (zk_z k) (zk_i k) S P V ++ ((o, .inl (cL, 1, .inr (.inl g))) :: wr)) := hD
  have hl := lv_entry ([.ref (ad 0), .int (x1), .ref (o)]) (n := 4) (Nat.le_of_ble_eq_true rfl)
  rw [lg_entry_eq]
  generalize (lg_sl ([.ref (ad 0), .int (x1), .ref (o)]) ++ List.replicate (4 - (lg_sl ([.ref (ad 0), .int (x1), .ref (o)])).length) Slot.unset).toArray = ls at hl ⊢
  have hl : lv_has ls 4 [(0, .ref (ad 0)), (1, .int (x1)), (2, .ref (o))] := hl
  refine lv_aload_n hx hb dL_order_0 rfl (lv_at hl 2 rfl) ?_
  refine lv_iconst (v := nI 0) hx hb dL_order_1 (by decide) ?_
  refine lv_aload_n hx hb dL_order_2 rfl (lv_at hl 0 rfl) ?_
  refine lv_iload_n hx hb dL_order_3 rfl (lv_at hl 1 rfl) ?_
  refine zr_callq (zx_runV (As := [.int (x1)]) (rest := [.int (nI 0), .ref (o)]) hx hb hml hts hown hM zv_L_47 rfl rfl ⟨Nat.succ_le_succ hf, Nat.le_trans (Nat.add_le_add_left hlo _) (Nat.le_of_ble_eq_true rfl)⟩ (zr_preV (q := (RX0, TX0, 8)) (ci := 0) (q0 := 0) hP hK rfl rfl) rfl hl.1 rfl (Nat.le_of_ble_eq_true rfl) dL_order_4 ⟨Nat.zero_le _, Nat.zero_le _⟩) ?_
  refine lv_i2l (v := r.toInt64) hx hb dL_order_7 rfl ?_
  refine zr_last0 (ws' := zc_w cA cR ad k (zk_n k) (zk_t k) (zk_z k) (zk_i k) S P V ++ ((o, .inl (cL, 1, .inr (.inl (vp_updL g 0 r.toInt64)))) :: wr)) hx hb hK hP hD hS 20 2 rfl rfl dL_order_8 rfl (fun H locs hP hD hS => ?_)
  refine lv_goto (tgt := 15) hx hb dL_order_9 (by decide) ?_
  refine lv_iconst (v := nI 0) hx hb dL_order_15 (by decide) ?_
  refine W.widen (k := 1) (n := 6) (Nat.le_of_ble_eq_true rfl) (Nat.le_of_ble_eq_true rfl) ?_
  exact W.iret (v := nI 0) hx hb hr (fun t9 h9 hW9 => ⟨⟨nI 0, (S, P, V, vp_updL g 0 r.toInt64), rfl, ⟨rfl, fun _ => zl_u0 g (r.toInt64), rfl, rfl⟩, by rw [h9]; exact hP, va_K.moved hW9.alike hK, hD⟩, hS.F h9⟩) hS.2.2 dL_order_16
set_option maxHeartbeats 4000000 in
set_option maxRecDepth 100000 in
theorem cl_about (l : Launch) (dC : Nat → ClassId) (dI : Nat → Nat → Nat) (cA cR cL : ClassId) (tr : List (ClassId × FieldType)) (wr : va_W) (ad : Nat → Nat) (o k : Nat) (S : Nat → Int32) (P : Nat → Nat) (V : Nat → Nat → Nat) (g : Nat → Int64) (sz : Nat) (x1 x2 : Int32) (f lo : Nat) (hf : f ≤ 8) (hlo : lo ≤ 170) (r : Int32) (hM : Met l yX0_about wzX0_about (k2_rm f lo) (zr_pre (dC, dI) zz_cl ((cA, .int) :: (cR, .array .int) :: (cL, .long) :: tr) (zc_w cA cR ad k (zk_n k) (zk_t k) (zk_z k) (zk_i k) S P V ++ ((o, .inl (cL, 1, .inr (.inl g))) :: wr)) [.ref (ad 0), .int x1, .int x2]) (k2_QcV (.int r)) 0 0 (fun _ => False)) : zl_C l dC dI cA cR cL tr wr ad o k (S, P, V, g) sz yL_about wqL_about [.ref (ad 0), .int (x1), .int (x2), .ref (o)] 0 (r.toInt64) k (fun P1 V1 => P1 = P ∧ V1 = V) := by
  unfold zl_C
  refine va_MetW (cc := cL_about) (maxL := 5) (ret := (some .int)) (hh := zhL_about) (by decide) rfl ?_
  intro p e s m args below meth c s₁ B hml hv
  obtain ⟨rfl, hsz, hP, hK, hD0, hE⟩ := hv
  have hx := B.exec
  have hb := B.bytes
  have hr := B.returns
  have hts := atoms_spec (ws := wqL_about) B.pre
  have hown : s.vm.findClass RL = some m.cls := findClass_of_methodNamed B.named
  have hlocks := B.notSynchronized
  have htb := vx_table (x := yL_about) B (hts _ List.mem_cons_self)
  subst hsz
  have hD := hD0.self (sz := s.heap.size)
  generalize hAe : va_A (zl_w cA cR cL wr ad o k (S, P, V, g)) s.heap.size = A at hD hE ⊢
  have hA : ∀ q : Nat, s.heap.size ≤ q → A q := fun q h => by rw [← hAe]; exact Or.inr h
  have hS : va_S A s.heap s.heap [] := va_S.rf
  replace hP : va_P (dC, dI) zz_cl (zc_w cA cR ad k (zk_n k) (zk_t k) (zk_z k) (zk_i k) S P V ++ ((o, .inl (cL, 1, .inr (.inl g))) :: wr)) s.heap := hP
  replace hD : va_D A (zc_w cA cR ad k (zk_n k) (zk_t k) (zk_z k) (zk_i k) S P V ++ ((o, .inl (cL, 1, .inr (.inl g))) :: wr)) := hD
  have hl := lv_entry ([.ref (ad 0), .int (x1), .int (x2), .ref (o)]) (n := 5) (Nat.le_of_ble_eq_true rfl)
  rw [lg_entry_eq]
  generalize (lg_sl ([.ref (ad 0), .int (x1), .int (x2), .ref (o)]) ++ List.replicate (5 - (lg_sl ([.ref (ad 0), .int (x1), .int (x2), .ref (o)])).length) Slot.unset).toArray = ls at hl ⊢
  have hl : lv_has ls 5 [(0, .ref (ad 0)), (1, .int (x1)), (2, .int (x2)), (3, .ref (o))] := hl
  refine lv_aload_n hx hb dL_about_0 rfl (lv_at hl 3 rfl) ?_
  refine lv_iconst (v := nI 0) hx hb dL_about_1 (by decide) ?_
  refine lv_aload_n hx hb dL_about_2 rfl (lv_at hl 0 rfl) ?_
  refine lv_iload_n hx hb dL_about_3 rfl (lv_at hl 1 rfl) ?_
  refine lv_iload_n hx hb dL_about_4 rfl (lv_at hl 2 rfl) ?_
  refine zr_callq (zx_runV (As := [.int (x1), .int (x2)]) (rest := [.int (nI 0), .ref (o)]) hx hb hml hts hown hM zv_L_50 rfl rfl ⟨Nat.succ_le_succ hf, Nat.le_trans (Nat.add_le_add_left hlo _) (Nat.le_of_ble_eq_true rfl)⟩ (zr_preV (q := (RX0, TX0, 8)) (ci := 0) (q0 := 0) hP hK rfl rfl) rfl hl.1 rfl (Nat.le_of_ble_eq_true rfl) dL_about_5 ⟨Nat.zero_le _, Nat.zero_le _⟩) ?_
  refine lv_i2l (v := r.toInt64) hx hb dL_about_8 rfl ?_
  refine zr_last0 (ws' := zc_w cA cR ad k (zk_n k) (zk_t k) (zk_z k) (zk_i k) S P V ++ ((o, .inl (cL, 1, .inr (.inl (vp_updL g 0 r.toInt64)))) :: wr)) hx hb hK hP hD hS 20 2 rfl rfl dL_about_9 rfl (fun H locs hP hD hS => ?_)
  refine lv_goto (tgt := 21) hx hb dL_about_10 (by decide) ?_
  refine lv_iconst (v := nI 0) hx hb dL_about_21 (by decide) ?_
  refine W.widen (k := 1) (n := 6) (Nat.le_of_ble_eq_true rfl) (Nat.le_of_ble_eq_true rfl) ?_
  exact W.iret (v := nI 0) hx hb hr (fun t9 h9 hW9 => ⟨⟨nI 0, (S, P, V, vp_updL g 0 r.toInt64), rfl, ⟨rfl, fun _ => zl_u0 g (r.toInt64), rfl, rfl⟩, by rw [h9]; exact hP, va_K.moved hW9.alike hK, hD⟩, hS.F h9⟩) hS.2.2 dL_about_22
set_option maxHeartbeats 4000000 in
set_option maxRecDepth 100000 in
theorem cl_same (l : Launch) (dC : Nat → ClassId) (dI : Nat → Nat → Nat) (cA cR cL : ClassId) (tr : List (ClassId × FieldType)) (wr : va_W) (ad : Nat → Nat) (o k : Nat) (S : Nat → Int32) (P : Nat → Nat) (V : Nat → Nat → Nat) (g : Nat → Int64) (sz : Nat) (x1 x2 : Int32) (f lo : Nat) (hf : f ≤ 8) (hlo : lo ≤ 170) (b : Nat) (hb2 : b < 2) (hM : Met l yX0_same wzX0_same (k2_rm f lo) (zr_pre (dC, dI) zz_cl ((cA, .int) :: (cR, .array .int) :: (cL, .long) :: tr) (zc_w cA cR ad k (zk_n k) (zk_t k) (zk_z k) (zk_i k) S P V ++ ((o, .inl (cL, 1, .inr (.inl g))) :: wr)) [.ref (ad 0), .int x1, .int x2]) (k2_QcV (.int (nI b))) 0 0 (fun _ => False)) : zl_C l dC dI cA cR cL tr wr ad o k (S, P, V, g) sz yL_same wqL_same [.ref (ad 0), .int (x1), .int (x2), .ref (o)] 0 (lN b) k (fun P1 V1 => P1 = P ∧ V1 = V) := by
  unfold zl_C
  refine va_MetW (cc := cL_same) (maxL := 5) (ret := (some .int)) (hh := zhL_same) (by decide) rfl ?_
  intro p e s m args below meth c s₁ B hml hv
  obtain ⟨rfl, hsz, hP, hK, hD0, hE⟩ := hv
  have hx := B.exec
  have hb := B.bytes
  have hr := B.returns
  have hts := atoms_spec (ws := wqL_same) B.pre
  have hown : s.vm.findClass RL = some m.cls := findClass_of_methodNamed B.named
  have hlocks := B.notSynchronized
  have htb := vx_table (x := yL_same) B (hts _ List.mem_cons_self)
  subst hsz
  have hD := hD0.self (sz := s.heap.size)
  generalize hAe : va_A (zl_w cA cR cL wr ad o k (S, P, V, g)) s.heap.size = A at hD hE ⊢
  have hA : ∀ q : Nat, s.heap.size ≤ q → A q := fun q h => by rw [← hAe]; exact Or.inr h
  have hS : va_S A s.heap s.heap [] := va_S.rf
  replace hP : va_P (dC, dI) zz_cl (zc_w cA cR ad k (zk_n k) (zk_t k) (zk_z k) (zk_i k) S P V ++ ((o, .inl (cL, 1, .inr (.inl g))) :: wr)) s.heap := hP
  replace hD : va_D A (zc_w cA cR ad k (zk_n k) (zk_t k) (zk_z k) (zk_i k) S P V ++ ((o, .inl (cL, 1, .inr (.inl g))) :: wr)) := hD
  have hl := lv_entry ([.ref (ad 0), .int (x1), .int (x2), .ref (o)]) (n := 5) (Nat.le_of_ble_eq_true rfl)
  rw [lg_entry_eq]
  generalize (lg_sl ([.ref (ad 0), .int (x1), .int (x2), .ref (o)]) ++ List.replicate (5 - (lg_sl ([.ref (ad 0), .int (x1), .int (x2), .ref (o)])).length) Slot.unset).toArray = ls at hl ⊢
  have hl : lv_has ls 5 [(0, .ref (ad 0)), (1, .int (x1)), (2, .int (x2)), (3, .ref (o))] := hl
  refine lv_aload_n hx hb dL_same_0 rfl (lv_at hl 3 rfl) ?_
  refine lv_iconst (v := nI 0) hx hb dL_same_1 (by decide) ?_
  refine lv_aload_n hx hb dL_same_2 rfl (lv_at hl 0 rfl) ?_
  refine lv_iload_n hx hb dL_same_3 rfl (lv_at hl 1 rfl) ?_
  refine lv_iload_n hx hb dL_same_4 rfl (lv_at hl 2 rfl) ?_
  refine zr_callq (zx_runV (As := [.int (x1), .int (x2)]) (rest := [.int (nI 0), .ref (o)]) hx hb hml hts hown hM zv_L_53 rfl rfl ⟨Nat.succ_le_succ hf, Nat.le_trans (Nat.add_le_add_left hlo _) (Nat.le_of_ble_eq_true rfl)⟩ (zr_preV (q := (RX0, TX0, 8)) (ci := 0) (q0 := 0) hP hK rfl rfl) rfl hl.1 rfl (Nat.le_of_ble_eq_true rfl) dL_same_5 ⟨Nat.zero_le _, Nat.zero_le _⟩) ?_
  refine zr_ifeq (tgt := 15) hx hb dL_same_8 (by decide) (by omega) (fun hc => ?_) (fun hc => ?_)
  · have hb3 : b = 0 := by omega
    subst hb3
    refine lv_lconst (v := lN 0) hx hb dL_same_15 (by decide) ?_
    refine zr_last0 (ws' := zc_w cA cR ad k (zk_n k) (zk_t k) (zk_z k) (zk_i k) S P V ++ ((o, .inl (cL, 1, .inr (.inl (vp_updL g 0 (lN 0))))) :: wr)) hx hb hK hP hD hS 20 2 rfl rfl dL_same_16 rfl (fun H locs hP hD hS => ?_)
    refine lv_goto (tgt := 24) hx hb dL_same_17 (by decide) ?_
    refine lv_iconst (v := nI 0) hx hb dL_same_24 (by decide) ?_
    refine W.widen (k := 1) (n := 6) (Nat.le_of_ble_eq_true rfl) (Nat.le_of_ble_eq_true rfl) ?_
    exact W.iret (v := nI 0) hx hb hr (fun t9 h9 hW9 => ⟨⟨nI 0, (S, P, V, vp_updL g 0 (lN 0)), rfl, ⟨rfl, fun _ => zl_u0 g (lN 0), rfl, rfl⟩, by rw [h9]; exact hP, va_K.moved hW9.alike hK, hD⟩, hS.F h9⟩) hS.2.2 dL_same_25
  · have hb3 : b = 1 := by omega
    subst hb3
    refine lv_lconst (v := lN 1) hx hb dL_same_11 (by decide) ?_
    refine lv_goto (tgt := 16) hx hb dL_same_12 (by decide) ?_
    refine zr_last0 (ws' := zc_w cA cR ad k (zk_n k) (zk_t k) (zk_z k) (zk_i k) S P V ++ ((o, .inl (cL, 1, .inr (.inl (vp_updL g 0 (lN 1))))) :: wr)) hx hb hK hP hD hS 20 2 rfl rfl dL_same_16 rfl (fun H locs hP hD hS => ?_)
    refine lv_goto (tgt := 24) hx hb dL_same_17 (by decide) ?_
    refine lv_iconst (v := nI 0) hx hb dL_same_24 (by decide) ?_
    refine W.widen (k := 1) (n := 6) (Nat.le_of_ble_eq_true rfl) (Nat.le_of_ble_eq_true rfl) ?_
    exact W.iret (v := nI 0) hx hb hr (fun t9 h9 hW9 => ⟨⟨nI 0, (S, P, V, vp_updL g 0 (lN 1)), rfl, ⟨rfl, fun _ => zl_u0 g (lN 1), rfl, rfl⟩, by rw [h9]; exact hP, va_K.moved hW9.alike hK, hD⟩, hS.F h9⟩) hS.2.2 dL_same_25
set_option maxHeartbeats 4000000 in
set_option maxRecDepth 100000 in
theorem cl_divides (l : Launch) (dC : Nat → ClassId) (dI : Nat → Nat → Nat) (cA cR cL : ClassId) (tr : List (ClassId × FieldType)) (wr : va_W) (ad : Nat → Nat) (o k : Nat) (S : Nat → Int32) (P : Nat → Nat) (V : Nat → Nat → Nat) (g : Nat → Int64) (sz : Nat) (x1 x2 : Int32) (f lo : Nat) (hf : f ≤ 8) (hlo : lo ≤ 170) (b : Nat) (hb2 : b < 2) (hM : Met l yX0_divides wzX0_divides (k2_rm f lo) (zr_pre (dC, dI) zz_cl ((cA, .int) :: (cR, .array .int) :: (cL, .long) :: tr) (zc_w cA cR ad k (zk_n k) (zk_t k) (zk_z k) (zk_i k) S P V ++ ((o, .inl (cL, 1, .inr (.inl g))) :: wr)) [.ref (ad 0), .int x1, .int x2]) (k2_QcV (.int (nI b))) 0 0 (fun _ => False)) : zl_C l dC dI cA cR cL tr wr ad o k (S, P, V, g) sz yL_divides wqL_divides [.ref (ad 0), .int (x1), .int (x2), .ref (o)] 0 (lN b) k (fun P1 V1 => P1 = P ∧ V1 = V) := by
  unfold zl_C
  refine va_MetW (cc := cL_divides) (maxL := 5) (ret := (some .int)) (hh := zhL_divides) (by decide) rfl ?_
  intro p e s m args below meth c s₁ B hml hv
  obtain ⟨rfl, hsz, hP, hK, hD0, hE⟩ := hv
  have hx := B.exec
  have hb := B.bytes
  have hr := B.returns
  have hts := atoms_spec (ws := wqL_divides) B.pre
  have hown : s.vm.findClass RL = some m.cls := findClass_of_methodNamed B.named
  have hlocks := B.notSynchronized
  have htb := vx_table (x := yL_divides) B (hts _ List.mem_cons_self)
  subst hsz
  have hD := hD0.self (sz := s.heap.size)
  generalize hAe : va_A (zl_w cA cR cL wr ad o k (S, P, V, g)) s.heap.size = A at hD hE ⊢
  have hA : ∀ q : Nat, s.heap.size ≤ q → A q := fun q h => by rw [← hAe]; exact Or.inr h
  have hS : va_S A s.heap s.heap [] := va_S.rf
  replace hP : va_P (dC, dI) zz_cl (zc_w cA cR ad k (zk_n k) (zk_t k) (zk_z k) (zk_i k) S P V ++ ((o, .inl (cL, 1, .inr (.inl g))) :: wr)) s.heap := hP
  replace hD : va_D A (zc_w cA cR ad k (zk_n k) (zk_t k) (zk_z k) (zk_i k) S P V ++ ((o, .inl (cL, 1, .inr (.inl g))) :: wr)) := hD
  have hl := lv_entry ([.ref (ad 0), .int (x1), .int (x2), .ref (o)]) (n := 5) (Nat.le_of_ble_eq_true rfl)
  rw [lg_entry_eq]
  generalize (lg_sl ([.ref (ad 0), .int (x1), .int (x2), .ref (o)]) ++ List.replicate (5 - (lg_sl ([.ref (ad 0), .int (x1), .int (x2), .ref (o)])).length) Slot.unset).toArray = ls at hl ⊢
  have hl : lv_has ls 5 [(0, .ref (ad 0)), (1, .int (x1)), (2, .int (x2)), (3, .ref (o))] := hl
  refine lv_aload_n hx hb dL_divides_0 rfl (lv_at hl 3 rfl) ?_
  refine lv_iconst (v := nI 0) hx hb dL_divides_1 (by decide) ?_
  refine lv_aload_n hx hb dL_divides_2 rfl (lv_at hl 0 rfl) ?_
  refine lv_iload_n hx hb dL_divides_3 rfl (lv_at hl 1 rfl) ?_
  refine lv_iload_n hx hb dL_divides_4 rfl (lv_at hl 2 rfl) ?_
  refine zr_callq (zx_runV (As := [.int (x1), .int (x2)]) (rest := [.int (nI 0), .ref (o)]) hx hb hml hts hown hM zv_L_57 rfl rfl ⟨Nat.succ_le_succ hf, Nat.le_trans (Nat.add_le_add_left hlo _) (Nat.le_of_ble_eq_true rfl)⟩ (zr_preV (q := (RX0, TX0, 8)) (ci := 0) (q0 := 0) hP hK rfl rfl) rfl hl.1 rfl (Nat.le_of_ble_eq_true rfl) dL_divides_5 ⟨Nat.zero_le _, Nat.zero_le _⟩) ?_
  refine zr_ifeq (tgt := 15) hx hb dL_divides_8 (by decide) (by omega) (fun hc => ?_) (fun hc => ?_)
  · have hb3 : b = 0 := by omega
    subst hb3
    refine lv_lconst (v := lN 0) hx hb dL_divides_15 (by decide) ?_
    refine zr_last0 (ws' := zc_w cA cR ad k (zk_n k) (zk_t k) (zk_z k) (zk_i k) S P V ++ ((o, .inl (cL, 1, .inr (.inl (vp_updL g 0 (lN 0))))) :: wr)) hx hb hK hP hD hS 20 2 rfl rfl dL_divides_16 rfl (fun H locs hP hD hS => ?_)
    refine lv_goto (tgt := 24) hx hb dL_divides_17 (by decide) ?_
    refine lv_iconst (v := nI 0) hx hb dL_divides_24 (by decide) ?_
    refine W.widen (k := 1) (n := 6) (Nat.le_of_ble_eq_true rfl) (Nat.le_of_ble_eq_true rfl) ?_
    exact W.iret (v := nI 0) hx hb hr (fun t9 h9 hW9 => ⟨⟨nI 0, (S, P, V, vp_updL g 0 (lN 0)), rfl, ⟨rfl, fun _ => zl_u0 g (lN 0), rfl, rfl⟩, by rw [h9]; exact hP, va_K.moved hW9.alike hK, hD⟩, hS.F h9⟩) hS.2.2 dL_divides_25
  · have hb3 : b = 1 := by omega
    subst hb3
    refine lv_lconst (v := lN 1) hx hb dL_divides_11 (by decide) ?_
    refine lv_goto (tgt := 16) hx hb dL_divides_12 (by decide) ?_
    refine zr_last0 (ws' := zc_w cA cR ad k (zk_n k) (zk_t k) (zk_z k) (zk_i k) S P V ++ ((o, .inl (cL, 1, .inr (.inl (vp_updL g 0 (lN 1))))) :: wr)) hx hb hK hP hD hS 20 2 rfl rfl dL_divides_16 rfl (fun H locs hP hD hS => ?_)
    refine lv_goto (tgt := 24) hx hb dL_divides_17 (by decide) ?_
    refine lv_iconst (v := nI 0) hx hb dL_divides_24 (by decide) ?_
    refine W.widen (k := 1) (n := 6) (Nat.le_of_ble_eq_true rfl) (Nat.le_of_ble_eq_true rfl) ?_
    exact W.iret (v := nI 0) hx hb hr (fun t9 h9 hW9 => ⟨⟨nI 0, (S, P, V, vp_updL g 0 (lN 1)), rfl, ⟨rfl, fun _ => zl_u0 g (lN 1), rfl, rfl⟩, by rw [h9]; exact hP, va_K.moved hW9.alike hK, hD⟩, hS.F h9⟩) hS.2.2 dL_divides_25
set_option maxHeartbeats 4000000 in
set_option maxRecDepth 100000 in
theorem cl_set (l : Launch) (dC : Nat → ClassId) (dI : Nat → Nat → Nat) (cA cR cL : ClassId) (tr : List (ClassId × FieldType)) (wr : va_W) (ad : Nat → Nat) (o k : Nat) (S : Nat → Int32) (P : Nat → Nat) (V : Nat → Nat → Nat) (g : Nat → Int64) (sz : Nat) (x1 x2 x3 : Int32) (f lo : Nat) (hf : f ≤ 8) (hlo : lo ≤ 170) (r : Int32) (pv : (Nat → Nat → Nat) → Prop) (post : Int32 → (Nat → Nat → Nat) → Prop) (hpost : ∀ (r1 : Int32) (u : Nat → Nat → Nat), post r1 u → r1 = r ∧ pv u) (hM : Met l yX0_set wzX0_set (k2_rm f lo) (zw_pre (dC, dI) zz_cl ((cA, .int) :: (cR, .array .int) :: (cL, .long) :: tr) (zc_w cA cR ad k (zk_n k) (zk_t k) (zk_z k) (zk_i k) S P V ++ ((o, .inl (cL, 1, .inr (.inl g))) :: wr)) sz [.ref (ad 0), .int x1, .int x2, .int x3]) (va_Qi post (zw_at (dC, dI) zz_cl ((cA, .int) :: (cR, .array .int) :: (cL, .long) :: tr) (va_A (zc_w cA cR ad k (zk_n k) (zk_t k) (zk_z k) (zk_i k) S P V ++ ((o, .inl (cL, 1, .inr (.inl g))) :: wr)) sz) (fun u : Nat → Nat → Nat => zc_w cA cR ad k (zk_n k) (zk_t k) (zk_z k) (zk_i k) S P u ++ ((o, .inl (cL, 1, .inr (.inl g))) :: wr))) (va_A (zc_w cA cR ad k (zk_n k) (zk_t k) (zk_z k) (zk_i k) S P V ++ ((o, .inl (cL, 1, .inr (.inl g))) :: wr)) sz)) 0 0 (va_A (zc_w cA cR ad k (zk_n k) (zk_t k) (zk_z k) (zk_i k) S P V ++ ((o, .inl (cL, 1, .inr (.inl g))) :: wr)) sz)) : zl_C l dC dI cA cR cL tr wr ad o k (S, P, V, g) sz yL_set wqL_set [.ref (ad 0), .int (x1), .int (x2), .int (x3), .ref (o)] 0 (r.toInt64) k (fun P1 V1 => P1 = P ∧ pv V1) := by
  unfold zl_C
  refine va_MetW (cc := cL_set) (maxL := 6) (ret := (some .int)) (hh := zhL_set) (by decide) rfl ?_
  intro p e s m args below meth c s₁ B hml hv
  obtain ⟨rfl, hsz, hP, hK, hD0, hE⟩ := hv
  have hx := B.exec
  have hb := B.bytes
  have hr := B.returns
  have hts := atoms_spec (ws := wqL_set) B.pre
  have hown : s.vm.findClass RL = some m.cls := findClass_of_methodNamed B.named
  have hlocks := B.notSynchronized
  have htb := vx_table (x := yL_set) B (hts _ List.mem_cons_self)
  subst hsz
  have hD := hD0.self (sz := s.heap.size)
  generalize hAe : va_A (zl_w cA cR cL wr ad o k (S, P, V, g)) s.heap.size = A at hD hE ⊢
  have hA : ∀ q : Nat, s.heap.size ≤ q → A q := fun q h => by rw [← hAe]; exact Or.inr h
  have hS : va_S A s.heap s.heap [] := va_S.rf
  replace hP : va_P (dC, dI) zz_cl (zc_w cA cR ad k (zk_n k) (zk_t k) (zk_z k) (zk_i k) S P V ++ ((o, .inl (cL, 1, .inr (.inl g))) :: wr)) s.heap := hP
  replace hD : va_D A (zc_w cA cR ad k (zk_n k) (zk_t k) (zk_z k) (zk_i k) S P V ++ ((o, .inl (cL, 1, .inr (.inl g))) :: wr)) := hD
  have hl := lv_entry ([.ref (ad 0), .int (x1), .int (x2), .int (x3), .ref (o)]) (n := 6) (Nat.le_of_ble_eq_true rfl)
  rw [lg_entry_eq]
  generalize (lg_sl ([.ref (ad 0), .int (x1), .int (x2), .int (x3), .ref (o)]) ++ List.replicate (6 - (lg_sl ([.ref (ad 0), .int (x1), .int (x2), .int (x3), .ref (o)])).length) Slot.unset).toArray = ls at hl ⊢
  have hl : lv_has ls 6 [(0, .ref (ad 0)), (1, .int (x1)), (2, .int (x2)), (3, .int (x3)), (4, .ref (o))] := hl
  refine lv_aload hx hb dL_set_0 (lv_at hl 4 rfl) ?_
  refine lv_iconst (v := nI 0) hx hb dL_set_2 (by decide) ?_
  refine lv_aload_n hx hb dL_set_3 rfl (lv_at hl 0 rfl) ?_
  refine lv_iload_n hx hb dL_set_4 rfl (lv_at hl 1 rfl) ?_
  refine lv_iload_n hx hb dL_set_5 rfl (lv_at hl 2 rfl) ?_
  refine lv_iload_n hx hb dL_set_6 rfl (lv_at hl 3 rfl) ?_
  refine zw_calli (w' := fun u : Nat → Nat → Nat => zc_w cA cR ad k (zk_n k) (zk_t k) (zk_z k) (zk_i k) S P u ++ ((o, .inl (cL, 1, .inr (.inl g))) :: wr)) hD hS hA (zx_runV (As := [.int (x1), .int (x2), .int (x3)]) (rest := [.int (nI 0), .ref (o)]) hx hb hml hts hown hM zv_L_15 rfl rfl ⟨Nat.succ_le_succ hf, Nat.le_trans (Nat.add_le_add_left hlo _) (Nat.le_of_ble_eq_true rfl)⟩ (zw_preV (q := (RX0, TX0, 8)) (ci := 0) (q0 := 0) hP hK hD rfl rfl) rfl hl.1 rfl (Nat.le_of_ble_eq_true rfl) dL_set_7 ⟨Nat.zero_le _, Nat.zero_le _⟩) (fun r9 u9 H locs hu hP hD hS => ?_)
  obtain ⟨hr9, hpv⟩ := hpost r9 u9 hu
  subst hr9
  refine lv_i2l (v := r9.toInt64) hx hb dL_set_10 rfl ?_
  refine zr_last0 (ws' := zc_w cA cR ad k (zk_n k) (zk_t k) (zk_z k) (zk_i k) S P u9 ++ ((o, .inl (cL, 1, .inr (.inl (vp_updL g 0 r9.toInt64)))) :: wr)) hx hb hK hP hD hS 20 2 rfl rfl dL_set_11 rfl (fun H locs hP hD hS => ?_)
  refine lv_goto (tgt := 19) hx hb dL_set_12 (by decide) ?_
  refine lv_iconst (v := nI 0) hx hb dL_set_19 (by decide) ?_
  refine W.widen (k := 1) (n := 6) (Nat.le_of_ble_eq_true rfl) (Nat.le_of_ble_eq_true rfl) ?_
  exact W.iret (v := nI 0) hx hb hr (fun t9 h9 hW9 => ⟨⟨nI 0, (S, P, u9, vp_updL g 0 r9.toInt64), rfl, ⟨rfl, fun _ => zl_u0 g (r9.toInt64), rfl, hpv⟩, by rw [h9]; exact hP, va_K.moved hW9.alike hK, hD⟩, hS.F h9⟩) hS.2.2 dL_set_20
set_option maxHeartbeats 4000000 in
set_option maxRecDepth 100000 in
theorem cl_setValue (l : Launch) (dC : Nat → ClassId) (dI : Nat → Nat → Nat) (cA cR cL : ClassId) (tr : List (ClassId × FieldType)) (wr : va_W) (ad : Nat → Nat) (o k : Nat) (S : Nat → Int32) (P : Nat → Nat) (V : Nat → Nat → Nat) (g : Nat → Int64) (sz : Nat) (x1 x2 x3 : Int32) (f lo : Nat) (hf : f ≤ 8) (hlo : lo ≤ 170) (r : Int32) (pv : (Nat → Nat → Nat) → Prop) (post : Int32 → (Nat → Nat → Nat) → Prop) (hpost : ∀ (r1 : Int32) (u : Nat → Nat → Nat), post r1 u → r1 = r ∧ pv u) (hM : Met l yX0_setValue wzX0_setValue (k2_rm f lo) (zw_pre (dC, dI) zz_cl ((cA, .int) :: (cR, .array .int) :: (cL, .long) :: tr) (zc_w cA cR ad k (zk_n k) (zk_t k) (zk_z k) (zk_i k) S P V ++ ((o, .inl (cL, 1, .inr (.inl g))) :: wr)) sz [.ref (ad 0), .int x1, .int x2, .int x3]) (va_Qi post (zw_at (dC, dI) zz_cl ((cA, .int) :: (cR, .array .int) :: (cL, .long) :: tr) (va_A (zc_w cA cR ad k (zk_n k) (zk_t k) (zk_z k) (zk_i k) S P V ++ ((o, .inl (cL, 1, .inr (.inl g))) :: wr)) sz) (fun u : Nat → Nat → Nat => zc_w cA cR ad k (zk_n k) (zk_t k) (zk_z k) (zk_i k) S P u ++ ((o, .inl (cL, 1, .inr (.inl g))) :: wr))) (va_A (zc_w cA cR ad k (zk_n k) (zk_t k) (zk_z k) (zk_i k) S P V ++ ((o, .inl (cL, 1, .inr (.inl g))) :: wr)) sz)) 0 0 (va_A (zc_w cA cR ad k (zk_n k) (zk_t k) (zk_z k) (zk_i k) S P V ++ ((o, .inl (cL, 1, .inr (.inl g))) :: wr)) sz)) : zl_C l dC dI cA cR cL tr wr ad o k (S, P, V, g) sz yL_setValue wqL_setValue [.ref (ad 0), .int (x1), .int (x2), .int (x3), .ref (o)] 0 (r.toInt64) k (fun P1 V1 => P1 = P ∧ pv V1) := by
  unfold zl_C
  refine va_MetW (cc := cL_setValue) (maxL := 6) (ret := (some .int)) (hh := zhL_setValue) (by decide) rfl ?_
  intro p e s m args below meth c s₁ B hml hv
  obtain ⟨rfl, hsz, hP, hK, hD0, hE⟩ := hv
  have hx := B.exec
  have hb := B.bytes
  have hr := B.returns
  have hts := atoms_spec (ws := wqL_setValue) B.pre
  have hown : s.vm.findClass RL = some m.cls := findClass_of_methodNamed B.named
  have hlocks := B.notSynchronized
  have htb := vx_table (x := yL_setValue) B (hts _ List.mem_cons_self)
  subst hsz
  have hD := hD0.self (sz := s.heap.size)
  generalize hAe : va_A (zl_w cA cR cL wr ad o k (S, P, V, g)) s.heap.size = A at hD hE ⊢
  have hA : ∀ q : Nat, s.heap.size ≤ q → A q := fun q h => by rw [← hAe]; exact Or.inr h
  have hS : va_S A s.heap s.heap [] := va_S.rf
  replace hP : va_P (dC, dI) zz_cl (zc_w cA cR ad k (zk_n k) (zk_t k) (zk_z k) (zk_i k) S P V ++ ((o, .inl (cL, 1, .inr (.inl g))) :: wr)) s.heap := hP
  replace hD : va_D A (zc_w cA cR ad k (zk_n k) (zk_t k) (zk_z k) (zk_i k) S P V ++ ((o, .inl (cL, 1, .inr (.inl g))) :: wr)) := hD
  have hl := lv_entry ([.ref (ad 0), .int (x1), .int (x2), .int (x3), .ref (o)]) (n := 6) (Nat.le_of_ble_eq_true rfl)
  rw [lg_entry_eq]
  generalize (lg_sl ([.ref (ad 0), .int (x1), .int (x2), .int (x3), .ref (o)]) ++ List.replicate (6 - (lg_sl ([.ref (ad 0), .int (x1), .int (x2), .int (x3), .ref (o)])).length) Slot.unset).toArray = ls at hl ⊢
  have hl : lv_has ls 6 [(0, .ref (ad 0)), (1, .int (x1)), (2, .int (x2)), (3, .int (x3)), (4, .ref (o))] := hl
  refine lv_aload hx hb dL_setValue_0 (lv_at hl 4 rfl) ?_
  refine lv_iconst (v := nI 0) hx hb dL_setValue_2 (by decide) ?_
  refine lv_aload_n hx hb dL_setValue_3 rfl (lv_at hl 0 rfl) ?_
  refine lv_iload_n hx hb dL_setValue_4 rfl (lv_at hl 1 rfl) ?_
  refine lv_iload_n hx hb dL_setValue_5 rfl (lv_at hl 2 rfl) ?_
  refine lv_iload_n hx hb dL_setValue_6 rfl (lv_at hl 3 rfl) ?_
  refine zw_calli (w' := fun u : Nat → Nat → Nat => zc_w cA cR ad k (zk_n k) (zk_t k) (zk_z k) (zk_i k) S P u ++ ((o, .inl (cL, 1, .inr (.inl g))) :: wr)) hD hS hA (zx_runV (As := [.int (x1), .int (x2), .int (x3)]) (rest := [.int (nI 0), .ref (o)]) hx hb hml hts hown hM zv_L_25 rfl rfl ⟨Nat.succ_le_succ hf, Nat.le_trans (Nat.add_le_add_left hlo _) (Nat.le_of_ble_eq_true rfl)⟩ (zw_preV (q := (RX0, TX0, 8)) (ci := 0) (q0 := 0) hP hK hD rfl rfl) rfl hl.1 rfl (Nat.le_of_ble_eq_true rfl) dL_setValue_7 ⟨Nat.zero_le _, Nat.zero_le _⟩) (fun r9 u9 H locs hu hP hD hS => ?_)
  obtain ⟨hr9, hpv⟩ := hpost r9 u9 hu
  subst hr9
  refine lv_i2l (v := r9.toInt64) hx hb dL_setValue_10 rfl ?_
  refine zr_last0 (ws' := zc_w cA cR ad k (zk_n k) (zk_t k) (zk_z k) (zk_i k) S P u9 ++ ((o, .inl (cL, 1, .inr (.inl (vp_updL g 0 r9.toInt64)))) :: wr)) hx hb hK hP hD hS 20 2 rfl rfl dL_setValue_11 rfl (fun H locs hP hD hS => ?_)
  refine lv_goto (tgt := 19) hx hb dL_setValue_12 (by decide) ?_
  refine lv_iconst (v := nI 0) hx hb dL_setValue_19 (by decide) ?_
  refine W.widen (k := 1) (n := 6) (Nat.le_of_ble_eq_true rfl) (Nat.le_of_ble_eq_true rfl) ?_
  exact W.iret (v := nI 0) hx hb hr (fun t9 h9 hW9 => ⟨⟨nI 0, (S, P, u9, vp_updL g 0 r9.toInt64), rfl, ⟨rfl, fun _ => zl_u0 g (r9.toInt64), rfl, hpv⟩, by rw [h9]; exact hP, va_K.moved hW9.alike hK, hD⟩, hS.F h9⟩) hS.2.2 dL_setValue_20
set_option maxHeartbeats 4000000 in
set_option maxRecDepth 100000 in
theorem cl_join (l : Launch) (dC : Nat → ClassId) (dI : Nat → Nat → Nat) (cA cR cL : ClassId) (tr : List (ClassId × FieldType)) (wr : va_W) (ad : Nat → Nat) (o k : Nat) (S : Nat → Int32) (P : Nat → Nat) (V : Nat → Nat → Nat) (g : Nat → Int64) (sz : Nat) (x1 x2 x3 x4 : Int32) (f lo : Nat) (hf : f ≤ 8) (hlo : lo ≤ 170) (r : Int32) (pv : (Nat → Nat → Nat) → Prop) (post : Int32 → (Nat → Nat → Nat) → Prop) (hpost : ∀ (r1 : Int32) (u : Nat → Nat → Nat), post r1 u → r1 = r ∧ pv u) (hM : Met l yX0_join wzX0_join (k2_rm f lo) (zw_pre (dC, dI) zz_cl ((cA, .int) :: (cR, .array .int) :: (cL, .long) :: tr) (zc_w cA cR ad k (zk_n k) (zk_t k) (zk_z k) (zk_i k) S P V ++ ((o, .inl (cL, 1, .inr (.inl g))) :: wr)) sz [.ref (ad 0), .int x1, .int x2, .int x3, .int x4]) (va_Qi post (zw_at (dC, dI) zz_cl ((cA, .int) :: (cR, .array .int) :: (cL, .long) :: tr) (va_A (zc_w cA cR ad k (zk_n k) (zk_t k) (zk_z k) (zk_i k) S P V ++ ((o, .inl (cL, 1, .inr (.inl g))) :: wr)) sz) (fun u : Nat → Nat → Nat => zc_w cA cR ad k (zk_n k) (zk_t k) (zk_z k) (zk_i k) S P u ++ ((o, .inl (cL, 1, .inr (.inl g))) :: wr))) (va_A (zc_w cA cR ad k (zk_n k) (zk_t k) (zk_z k) (zk_i k) S P V ++ ((o, .inl (cL, 1, .inr (.inl g))) :: wr)) sz)) 0 0 (va_A (zc_w cA cR ad k (zk_n k) (zk_t k) (zk_z k) (zk_i k) S P V ++ ((o, .inl (cL, 1, .inr (.inl g))) :: wr)) sz)) : zl_C l dC dI cA cR cL tr wr ad o k (S, P, V, g) sz yL_join wqL_join [.ref (ad 0), .int (x1), .int (x2), .int (x3), .int (x4), .ref (o)] 0 (r.toInt64) k (fun P1 V1 => P1 = P ∧ pv V1) := by
  unfold zl_C
  refine va_MetW (cc := cL_join) (maxL := 7) (ret := (some .int)) (hh := zhL_join) (by decide) rfl ?_
  intro p e s m args below meth c s₁ B hml hv
  obtain ⟨rfl, hsz, hP, hK, hD0, hE⟩ := hv
  have hx := B.exec
  have hb := B.bytes
  have hr := B.returns
  have hts := atoms_spec (ws := wqL_join) B.pre
  have hown : s.vm.findClass RL = some m.cls := findClass_of_methodNamed B.named
  have hlocks := B.notSynchronized
  have htb := vx_table (x := yL_join) B (hts _ List.mem_cons_self)
  subst hsz
  have hD := hD0.self (sz := s.heap.size)
  generalize hAe : va_A (zl_w cA cR cL wr ad o k (S, P, V, g)) s.heap.size = A at hD hE ⊢
  have hA : ∀ q : Nat, s.heap.size ≤ q → A q := fun q h => by rw [← hAe]; exact Or.inr h
  have hS : va_S A s.heap s.heap [] := va_S.rf
  replace hP : va_P (dC, dI) zz_cl (zc_w cA cR ad k (zk_n k) (zk_t k) (zk_z k) (zk_i k) S P V ++ ((o, .inl (cL, 1, .inr (.inl g))) :: wr)) s.heap := hP
  replace hD : va_D A (zc_w cA cR ad k (zk_n k) (zk_t k) (zk_z k) (zk_i k) S P V ++ ((o, .inl (cL, 1, .inr (.inl g))) :: wr)) := hD
  have hl := lv_entry ([.ref (ad 0), .int (x1), .int (x2), .int (x3), .int (x4), .ref (o)]) (n := 7) (Nat.le_of_ble_eq_true rfl)
  rw [lg_entry_eq]
  generalize (lg_sl ([.ref (ad 0), .int (x1), .int (x2), .int (x3), .int (x4), .ref (o)]) ++ List.replicate (7 - (lg_sl ([.ref (ad 0), .int (x1), .int (x2), .int (x3), .int (x4), .ref (o)])).length) Slot.unset).toArray = ls at hl ⊢
  have hl : lv_has ls 7 [(0, .ref (ad 0)), (1, .int (x1)), (2, .int (x2)), (3, .int (x3)), (4, .int (x4)), (5, .ref (o))] := hl
  refine lv_aload hx hb dL_join_0 (lv_at hl 5 rfl) ?_
  refine lv_iconst (v := nI 0) hx hb dL_join_2 (by decide) ?_
  refine lv_aload_n hx hb dL_join_3 rfl (lv_at hl 0 rfl) ?_
  refine lv_iload_n hx hb dL_join_4 rfl (lv_at hl 1 rfl) ?_
  refine lv_iload_n hx hb dL_join_5 rfl (lv_at hl 2 rfl) ?_
  refine lv_iload_n hx hb dL_join_6 rfl (lv_at hl 3 rfl) ?_
  refine lv_iload hx hb dL_join_7 (lv_at hl 4 rfl) ?_
  refine zw_calli (w' := fun u : Nat → Nat → Nat => zc_w cA cR ad k (zk_n k) (zk_t k) (zk_z k) (zk_i k) S P u ++ ((o, .inl (cL, 1, .inr (.inl g))) :: wr)) hD hS hA (zx_runV (As := [.int (x1), .int (x2), .int (x3), .int (x4)]) (rest := [.int (nI 0), .ref (o)]) hx hb hml hts hown hM zv_L_31 rfl rfl ⟨Nat.succ_le_succ hf, Nat.le_trans (Nat.add_le_add_left hlo _) (Nat.le_of_ble_eq_true rfl)⟩ (zw_preV (q := (RX0, TX0, 8)) (ci := 0) (q0 := 0) hP hK hD rfl rfl) rfl hl.1 rfl (Nat.le_of_ble_eq_true rfl) dL_join_9 ⟨Nat.zero_le _, Nat.zero_le _⟩) (fun r9 u9 H locs hu hP hD hS => ?_)
  obtain ⟨hr9, hpv⟩ := hpost r9 u9 hu
  subst hr9
  refine lv_i2l (v := r9.toInt64) hx hb dL_join_12 rfl ?_
  refine zr_last0 (ws' := zc_w cA cR ad k (zk_n k) (zk_t k) (zk_z k) (zk_i k) S P u9 ++ ((o, .inl (cL, 1, .inr (.inl (vp_updL g 0 r9.toInt64)))) :: wr)) hx hb hK hP hD hS 20 2 rfl rfl dL_join_13 rfl (fun H locs hP hD hS => ?_)
  refine lv_goto (tgt := 29) hx hb dL_join_14 (by decide) ?_
  refine lv_iconst (v := nI 0) hx hb dL_join_29 (by decide) ?_
  refine W.widen (k := 1) (n := 6) (Nat.le_of_ble_eq_true rfl) (Nat.le_of_ble_eq_true rfl) ?_
  exact W.iret (v := nI 0) hx hb hr (fun t9 h9 hW9 => ⟨⟨nI 0, (S, P, u9, vp_updL g 0 r9.toInt64), rfl, ⟨rfl, fun _ => zl_u0 g (r9.toInt64), rfl, hpv⟩, by rw [h9]; exact hP, va_K.moved hW9.alike hK, hD⟩, hS.F h9⟩) hS.2.2 dL_join_30
set_option maxHeartbeats 4000000 in
set_option maxRecDepth 100000 in
theorem cl_power (l : Launch) (dC : Nat → ClassId) (dI : Nat → Nat → Nat) (cA cR cL : ClassId) (tr : List (ClassId × FieldType)) (wr : va_W) (ad : Nat → Nat) (o k : Nat) (S : Nat → Int32) (P : Nat → Nat) (V : Nat → Nat → Nat) (g : Nat → Int64) (sz : Nat) (x1 x2 x3 : Int32) (f lo : Nat) (hf : f ≤ 8) (hlo : lo ≤ 170) (r : Int32) (pv : (Nat → Nat → Nat) → Prop) (post : Int32 → (Nat → Nat → Nat) → Prop) (hpost : ∀ (r1 : Int32) (u : Nat → Nat → Nat), post r1 u → r1 = r ∧ pv u) (hM : Met l yX0_power wzX0_power (k2_rm f lo) (zw_pre (dC, dI) zz_cl ((cA, .int) :: (cR, .array .int) :: (cL, .long) :: tr) (zc_w cA cR ad k (zk_n k) (zk_t k) (zk_z k) (zk_i k) S P V ++ ((o, .inl (cL, 1, .inr (.inl g))) :: wr)) sz [.ref (ad 0), .int x1, .int x2, .int x3]) (va_Qi post (zw_at (dC, dI) zz_cl ((cA, .int) :: (cR, .array .int) :: (cL, .long) :: tr) (va_A (zc_w cA cR ad k (zk_n k) (zk_t k) (zk_z k) (zk_i k) S P V ++ ((o, .inl (cL, 1, .inr (.inl g))) :: wr)) sz) (fun u : Nat → Nat → Nat => zc_w cA cR ad k (zk_n k) (zk_t k) (zk_z k) (zk_i k) S P u ++ ((o, .inl (cL, 1, .inr (.inl g))) :: wr))) (va_A (zc_w cA cR ad k (zk_n k) (zk_t k) (zk_z k) (zk_i k) S P V ++ ((o, .inl (cL, 1, .inr (.inl g))) :: wr)) sz)) 0 0 (va_A (zc_w cA cR ad k (zk_n k) (zk_t k) (zk_z k) (zk_i k) S P V ++ ((o, .inl (cL, 1, .inr (.inl g))) :: wr)) sz)) : zl_C l dC dI cA cR cL tr wr ad o k (S, P, V, g) sz yL_power wqL_power [.ref (ad 0), .int (x1), .int (x2), .int (x3), .ref (o)] 0 (r.toInt64) k (fun P1 V1 => P1 = P ∧ pv V1) := by
  unfold zl_C
  refine va_MetW (cc := cL_power) (maxL := 6) (ret := (some .int)) (hh := zhL_power) (by decide) rfl ?_
  intro p e s m args below meth c s₁ B hml hv
  obtain ⟨rfl, hsz, hP, hK, hD0, hE⟩ := hv
  have hx := B.exec
  have hb := B.bytes
  have hr := B.returns
  have hts := atoms_spec (ws := wqL_power) B.pre
  have hown : s.vm.findClass RL = some m.cls := findClass_of_methodNamed B.named
  have hlocks := B.notSynchronized
  have htb := vx_table (x := yL_power) B (hts _ List.mem_cons_self)
  subst hsz
  have hD := hD0.self (sz := s.heap.size)
  generalize hAe : va_A (zl_w cA cR cL wr ad o k (S, P, V, g)) s.heap.size = A at hD hE ⊢
  have hA : ∀ q : Nat, s.heap.size ≤ q → A q := fun q h => by rw [← hAe]; exact Or.inr h
  have hS : va_S A s.heap s.heap [] := va_S.rf
  replace hP : va_P (dC, dI) zz_cl (zc_w cA cR ad k (zk_n k) (zk_t k) (zk_z k) (zk_i k) S P V ++ ((o, .inl (cL, 1, .inr (.inl g))) :: wr)) s.heap := hP
  replace hD : va_D A (zc_w cA cR ad k (zk_n k) (zk_t k) (zk_z k) (zk_i k) S P V ++ ((o, .inl (cL, 1, .inr (.inl g))) :: wr)) := hD
  have hl := lv_entry ([.ref (ad 0), .int (x1), .int (x2), .int (x3), .ref (o)]) (n := 6) (Nat.le_of_ble_eq_true rfl)
  rw [lg_entry_eq]
  generalize (lg_sl ([.ref (ad 0), .int (x1), .int (x2), .int (x3), .ref (o)]) ++ List.replicate (6 - (lg_sl ([.ref (ad 0), .int (x1), .int (x2), .int (x3), .ref (o)])).length) Slot.unset).toArray = ls at hl ⊢
  have hl : lv_has ls 6 [(0, .ref (ad 0)), (1, .int (x1)), (2, .int (x2)), (3, .int (x3)), (4, .ref (o))] := hl
  refine lv_aload hx hb dL_power_0 (lv_at hl 4 rfl) ?_
  refine lv_iconst (v := nI 0) hx hb dL_power_2 (by decide) ?_
  refine lv_aload_n hx hb dL_power_3 rfl (lv_at hl 0 rfl) ?_
  refine lv_iload_n hx hb dL_power_4 rfl (lv_at hl 1 rfl) ?_
  refine lv_iload_n hx hb dL_power_5 rfl (lv_at hl 2 rfl) ?_
  refine lv_iload_n hx hb dL_power_6 rfl (lv_at hl 3 rfl) ?_
  refine zw_calli (w' := fun u : Nat → Nat → Nat => zc_w cA cR ad k (zk_n k) (zk_t k) (zk_z k) (zk_i k) S P u ++ ((o, .inl (cL, 1, .inr (.inl g))) :: wr)) hD hS hA (zx_runV (As := [.int (x1), .int (x2), .int (x3)]) (rest := [.int (nI 0), .ref (o)]) hx hb hml hts hown hM zv_L_40 rfl rfl ⟨Nat.succ_le_succ hf, Nat.le_trans (Nat.add_le_add_left hlo _) (Nat.le_of_ble_eq_true rfl)⟩ (zw_preV (q := (RX0, TX0, 8)) (ci := 0) (q0 := 0) hP hK hD rfl rfl) rfl hl.1 rfl (Nat.le_of_ble_eq_true rfl) dL_power_7 ⟨Nat.zero_le _, Nat.zero_le _⟩) (fun r9 u9 H locs hu hP hD hS => ?_)
  obtain ⟨hr9, hpv⟩ := hpost r9 u9 hu
  subst hr9
  refine lv_i2l (v := r9.toInt64) hx hb dL_power_10 rfl ?_
  refine zr_last0 (ws' := zc_w cA cR ad k (zk_n k) (zk_t k) (zk_z k) (zk_i k) S P u9 ++ ((o, .inl (cL, 1, .inr (.inl (vp_updL g 0 r9.toInt64)))) :: wr)) hx hb hK hP hD hS 20 2 rfl rfl dL_power_11 rfl (fun H locs hP hD hS => ?_)
  refine lv_goto (tgt := 23) hx hb dL_power_12 (by decide) ?_
  refine lv_iconst (v := nI 0) hx hb dL_power_23 (by decide) ?_
  refine W.widen (k := 1) (n := 6) (Nat.le_of_ble_eq_true rfl) (Nat.le_of_ble_eq_true rfl) ?_
  exact W.iret (v := nI 0) hx hb hr (fun t9 h9 hW9 => ⟨⟨nI 0, (S, P, u9, vp_updL g 0 r9.toInt64), rfl, ⟨rfl, fun _ => zl_u0 g (r9.toInt64), rfl, hpv⟩, by rw [h9]; exact hP, va_K.moved hW9.alike hK, hD⟩, hS.F h9⟩) hS.2.2 dL_power_24
set_option maxHeartbeats 4000000 in
set_option maxRecDepth 100000 in
theorem cl_turn (l : Launch) (dC : Nat → ClassId) (dI : Nat → Nat → Nat) (cA cR cL : ClassId) (tr : List (ClassId × FieldType)) (wr : va_W) (ad : Nat → Nat) (o k : Nat) (S : Nat → Int32) (P : Nat → Nat) (V : Nat → Nat → Nat) (g : Nat → Int64) (sz : Nat) (x1 x2 x3 : Int32) (f lo : Nat) (hf : f ≤ 8) (hlo : lo ≤ 170) (r : Int32) (pv : (Nat → Nat → Nat) → Prop) (post : Int32 → ((Nat → Int32) × (Nat → Nat → Nat)) → Prop) (hpost : ∀ (r1 : Int32) (u : (Nat → Int32) × (Nat → Nat → Nat)), post r1 u → r1 = r ∧ pv u.2) (hM : Met l yX0_turn wzX0_turn (k2_rm f lo) (zw_pre (dC, dI) zz_cl ((cA, .int) :: (cR, .array .int) :: (cL, .long) :: tr) (zc_w cA cR ad k (zk_n k) (zk_t k) (zk_z k) (zk_i k) S P V ++ ((o, .inl (cL, 1, .inr (.inl g))) :: wr)) sz [.ref (ad 0), .int x1, .int x2, .int x3]) (va_Qi post (zw_at (dC, dI) zz_cl ((cA, .int) :: (cR, .array .int) :: (cL, .long) :: tr) (va_A (zc_w cA cR ad k (zk_n k) (zk_t k) (zk_z k) (zk_i k) S P V ++ ((o, .inl (cL, 1, .inr (.inl g))) :: wr)) sz) (fun u : (Nat → Int32) × (Nat → Nat → Nat) => zc_w cA cR ad k (zk_n k) (zk_t k) (zk_z k) (zk_i k) u.1 P u.2 ++ ((o, .inl (cL, 1, .inr (.inl g))) :: wr))) (va_A (zc_w cA cR ad k (zk_n k) (zk_t k) (zk_z k) (zk_i k) S P V ++ ((o, .inl (cL, 1, .inr (.inl g))) :: wr)) sz)) 0 0 (va_A (zc_w cA cR ad k (zk_n k) (zk_t k) (zk_z k) (zk_i k) S P V ++ ((o, .inl (cL, 1, .inr (.inl g))) :: wr)) sz)) : zl_C l dC dI cA cR cL tr wr ad o k (S, P, V, g) sz yL_turn wqL_turn [.ref (ad 0), .int (x1), .int (x2), .int (x3), .ref (o)] 0 (r.toInt64) k (fun P1 V1 => P1 = P ∧ pv V1) := by
  unfold zl_C
  refine va_MetW (cc := cL_turn) (maxL := 6) (ret := (some .int)) (hh := zhL_turn) (by decide) rfl ?_
  intro p e s m args below meth c s₁ B hml hv
  obtain ⟨rfl, hsz, hP, hK, hD0, hE⟩ := hv
  have hx := B.exec
  have hb := B.bytes
  have hr := B.returns
  have hts := atoms_spec (ws := wqL_turn) B.pre
  have hown : s.vm.findClass RL = some m.cls := findClass_of_methodNamed B.named
  have hlocks := B.notSynchronized
  have htb := vx_table (x := yL_turn) B (hts _ List.mem_cons_self)
  subst hsz
  have hD := hD0.self (sz := s.heap.size)
  generalize hAe : va_A (zl_w cA cR cL wr ad o k (S, P, V, g)) s.heap.size = A at hD hE ⊢
  have hA : ∀ q : Nat, s.heap.size ≤ q → A q := fun q h => by rw [← hAe]; exact Or.inr h
  have hS : va_S A s.heap s.heap [] := va_S.rf
  replace hP : va_P (dC, dI) zz_cl (zc_w cA cR ad k (zk_n k) (zk_t k) (zk_z k) (zk_i k) S P V ++ ((o, .inl (cL, 1, .inr (.inl g))) :: wr)) s.heap := hP
  replace hD : va_D A (zc_w cA cR ad k (zk_n k) (zk_t k) (zk_z k) (zk_i k) S P V ++ ((o, .inl (cL, 1, .inr (.inl g))) :: wr)) := hD
  have hl := lv_entry ([.ref (ad 0), .int (x1), .int (x2), .int (x3), .ref (o)]) (n := 6) (Nat.le_of_ble_eq_true rfl)
  rw [lg_entry_eq]
  generalize (lg_sl ([.ref (ad 0), .int (x1), .int (x2), .int (x3), .ref (o)]) ++ List.replicate (6 - (lg_sl ([.ref (ad 0), .int (x1), .int (x2), .int (x3), .ref (o)])).length) Slot.unset).toArray = ls at hl ⊢
  have hl : lv_has ls 6 [(0, .ref (ad 0)), (1, .int (x1)), (2, .int (x2)), (3, .int (x3)), (4, .ref (o))] := hl
  refine lv_aload hx hb dL_turn_0 (lv_at hl 4 rfl) ?_
  refine lv_iconst (v := nI 0) hx hb dL_turn_2 (by decide) ?_
  refine lv_aload_n hx hb dL_turn_3 rfl (lv_at hl 0 rfl) ?_
  refine lv_iload_n hx hb dL_turn_4 rfl (lv_at hl 1 rfl) ?_
  refine lv_iload_n hx hb dL_turn_5 rfl (lv_at hl 2 rfl) ?_
  refine lv_iload_n hx hb dL_turn_6 rfl (lv_at hl 3 rfl) ?_
  refine zw_calli (w' := fun u : (Nat → Int32) × (Nat → Nat → Nat) => zc_w cA cR ad k (zk_n k) (zk_t k) (zk_z k) (zk_i k) u.1 P u.2 ++ ((o, .inl (cL, 1, .inr (.inl g))) :: wr)) hD hS hA (zx_runV (As := [.int (x1), .int (x2), .int (x3)]) (rest := [.int (nI 0), .ref (o)]) hx hb hml hts hown hM zv_L_37 rfl rfl ⟨Nat.succ_le_succ hf, Nat.le_trans (Nat.add_le_add_left hlo _) (Nat.le_of_ble_eq_true rfl)⟩ (zw_preV (q := (RX0, TX0, 8)) (ci := 0) (q0 := 0) hP hK hD rfl rfl) rfl hl.1 rfl (Nat.le_of_ble_eq_true rfl) dL_turn_7 ⟨Nat.zero_le _, Nat.zero_le _⟩) (fun r9 u9 H locs hu hP hD hS => ?_)
  obtain ⟨hr9, hpv⟩ := hpost r9 u9 hu
  subst hr9
  refine lv_i2l (v := r9.toInt64) hx hb dL_turn_10 rfl ?_
  refine zr_last0 (ws' := zc_w cA cR ad k (zk_n k) (zk_t k) (zk_z k) (zk_i k) u9.1 P u9.2 ++ ((o, .inl (cL, 1, .inr (.inl (vp_updL g 0 r9.toInt64)))) :: wr)) hx hb hK hP hD hS 20 2 rfl rfl dL_turn_11 rfl (fun H locs hP hD hS => ?_)
  refine lv_goto (tgt := 23) hx hb dL_turn_12 (by decide) ?_
  refine lv_iconst (v := nI 0) hx hb dL_turn_23 (by decide) ?_
  refine W.widen (k := 1) (n := 6) (Nat.le_of_ble_eq_true rfl) (Nat.le_of_ble_eq_true rfl) ?_
  exact W.iret (v := nI 0) hx hb hr (fun t9 h9 hW9 => ⟨⟨nI 0, (u9.1, P, u9.2, vp_updL g 0 r9.toInt64), rfl, ⟨rfl, fun _ => zl_u0 g (r9.toInt64), rfl, hpv⟩, by rw [h9]; exact hP, va_K.moved hW9.alike hK, hD⟩, hS.F h9⟩) hS.2.2 dL_turn_24
set_option maxHeartbeats 4000000 in
set_option maxRecDepth 100000 in
theorem cl_root (l : Launch) (dC : Nat → ClassId) (dI : Nat → Nat → Nat) (cA cR cL : ClassId) (tr : List (ClassId × FieldType)) (wr : va_W) (ad : Nat → Nat) (o k : Nat) (S : Nat → Int32) (P : Nat → Nat) (V : Nat → Nat → Nat) (g : Nat → Int64) (sz : Nat) (x1 x2 : Int32) (f lo : Nat) (hf : f ≤ 8) (hlo : lo ≤ 170) (r : Int64) (pv : (Nat → Nat → Nat) → Prop) (post : Int64 → ((Nat → Int32) × (Nat → Nat → Nat)) → Prop) (hpost : ∀ (r1 : Int64) (u : (Nat → Int32) × (Nat → Nat → Nat)), post r1 u → r1 = r ∧ pv u.2) (hM : Met l yX0_root wzX0_root (k2_rm f lo) (zw_pre (dC, dI) zz_cl ((cA, .int) :: (cR, .array .int) :: (cL, .long) :: tr) (zc_w cA cR ad k (zk_n k) (zk_t k) (zk_z k) (zk_i k) S P V ++ ((o, .inl (cL, 1, .inr (.inl g))) :: wr)) sz [.ref (ad 0), .int x1, .int x2]) (va_Ql post (zw_at (dC, dI) zz_cl ((cA, .int) :: (cR, .array .int) :: (cL, .long) :: tr) (va_A (zc_w cA cR ad k (zk_n k) (zk_t k) (zk_z k) (zk_i k) S P V ++ ((o, .inl (cL, 1, .inr (.inl g))) :: wr)) sz) (fun u : (Nat → Int32) × (Nat → Nat → Nat) => zc_w cA cR ad k (zk_n k) (zk_t k) (zk_z k) (zk_i k) u.1 P u.2 ++ ((o, .inl (cL, 1, .inr (.inl g))) :: wr))) (va_A (zc_w cA cR ad k (zk_n k) (zk_t k) (zk_z k) (zk_i k) S P V ++ ((o, .inl (cL, 1, .inr (.inl g))) :: wr)) sz)) 0 0 (va_A (zc_w cA cR ad k (zk_n k) (zk_t k) (zk_z k) (zk_i k) S P V ++ ((o, .inl (cL, 1, .inr (.inl g))) :: wr)) sz)) : zl_C l dC dI cA cR cL tr wr ad o k (S, P, V, g) sz yL_root wqL_root [.ref (ad 0), .int (x1), .int (x2), .ref (o)] 0 (r) k (fun P1 V1 => P1 = P ∧ pv V1) := by
  unfold zl_C
  refine va_MetW (cc := cL_root) (maxL := 5) (ret := (some .int)) (hh := zhL_root) (by decide) rfl ?_
  intro p e s m args below meth c s₁ B hml hv
  obtain ⟨rfl, hsz, hP, hK, hD0, hE⟩ := hv
  have hx := B.exec
  have hb := B.bytes
  have hr := B.returns
  have hts := atoms_spec (ws := wqL_root) B.pre
  have hown : s.vm.findClass RL = some m.cls := findClass_of_methodNamed B.named
  have hlocks := B.notSynchronized
  have htb := vx_table (x := yL_root) B (hts _ List.mem_cons_self)
  subst hsz
  have hD := hD0.self (sz := s.heap.size)
  generalize hAe : va_A (zl_w cA cR cL wr ad o k (S, P, V, g)) s.heap.size = A at hD hE ⊢
  have hA : ∀ q : Nat, s.heap.size ≤ q → A q := fun q h => by rw [← hAe]; exact Or.inr h
  have hS : va_S A s.heap s.heap [] := va_S.rf
  replace hP : va_P (dC, dI) zz_cl (zc_w cA cR ad k (zk_n k) (zk_t k) (zk_z k) (zk_i k) S P V ++ ((o, .inl (cL, 1, .inr (.inl g))) :: wr)) s.heap := hP
  replace hD : va_D A (zc_w cA cR ad k (zk_n k) (zk_t k) (zk_z k) (zk_i k) S P V ++ ((o, .inl (cL, 1, .inr (.inl g))) :: wr)) := hD
  have hl := lv_entry ([.ref (ad 0), .int (x1), .int (x2), .ref (o)]) (n := 5) (Nat.le_of_ble_eq_true rfl)
  rw [lg_entry_eq]
  generalize (lg_sl ([.ref (ad 0), .int (x1), .int (x2), .ref (o)]) ++ List.replicate (5 - (lg_sl ([.ref (ad 0), .int (x1), .int (x2), .ref (o)])).length) Slot.unset).toArray = ls at hl ⊢
  have hl : lv_has ls 5 [(0, .ref (ad 0)), (1, .int (x1)), (2, .int (x2)), (3, .ref (o))] := hl
  refine lv_aload_n hx hb dL_root_0 rfl (lv_at hl 3 rfl) ?_
  refine lv_iconst (v := nI 0) hx hb dL_root_1 (by decide) ?_
  refine lv_aload_n hx hb dL_root_2 rfl (lv_at hl 0 rfl) ?_
  refine lv_iload_n hx hb dL_root_3 rfl (lv_at hl 1 rfl) ?_
  refine lv_iload_n hx hb dL_root_4 rfl (lv_at hl 2 rfl) ?_
  refine zw_calll (w' := fun u : (Nat → Int32) × (Nat → Nat → Nat) => zc_w cA cR ad k (zk_n k) (zk_t k) (zk_z k) (zk_i k) u.1 P u.2 ++ ((o, .inl (cL, 1, .inr (.inl g))) :: wr)) hD hS hA (zx_runV (As := [.int (x1), .int (x2)]) (rest := [.int (nI 0), .ref (o)]) hx hb hml hts hown hM zv_L_43 rfl rfl ⟨Nat.succ_le_succ hf, Nat.le_trans (Nat.add_le_add_left hlo _) (Nat.le_of_ble_eq_true rfl)⟩ (zw_preV (q := (RX0, TX0, 8)) (ci := 0) (q0 := 0) hP hK hD rfl rfl) rfl hl.1 rfl (Nat.le_of_ble_eq_true rfl) dL_root_5 ⟨Nat.zero_le _, Nat.zero_le _⟩) (fun r9 u9 H locs hu hP hD hS => ?_)
  obtain ⟨hr9, hpv⟩ := hpost r9 u9 hu
  subst hr9
  refine zr_last0 (ws' := zc_w cA cR ad k (zk_n k) (zk_t k) (zk_z k) (zk_i k) u9.1 P u9.2 ++ ((o, .inl (cL, 1, .inr (.inl (vp_updL g 0 r9)))) :: wr)) hx hb hK hP hD hS 20 2 rfl rfl dL_root_8 rfl (fun H locs hP hD hS => ?_)
  refine lv_goto (tgt := 20) hx hb dL_root_9 (by decide) ?_
  refine lv_iconst (v := nI 0) hx hb dL_root_20 (by decide) ?_
  refine W.widen (k := 1) (n := 6) (Nat.le_of_ble_eq_true rfl) (Nat.le_of_ble_eq_true rfl) ?_
  exact W.iret (v := nI 0) hx hb hr (fun t9 h9 hW9 => ⟨⟨nI 0, (u9.1, P, u9.2, vp_updL g 0 r9), rfl, ⟨rfl, fun _ => zl_u0 g (r9), rfl, hpv⟩, by rw [h9]; exact hP, va_K.moved hW9.alike hK, hD⟩, hS.F h9⟩) hS.2.2 dL_root_21
set_option maxHeartbeats 4000000 in
set_option maxRecDepth 100000 in
theorem cl_begin (l : Launch) (dC : Nat → ClassId) (dI : Nat → Nat → Nat) (cA cR cL : ClassId) (tr : List (ClassId × FieldType)) (wr : va_W) (ad : Nat → Nat) (o k : Nat) (S : Nat → Int32) (P : Nat → Nat) (V : Nat → Nat → Nat) (g : Nat → Int64) (sz : Nat) (x1 : Int32) (f lo : Nat) (hf : f ≤ 8) (hlo : lo ≤ 170) (k1 : Nat) (r : Int32) (pv : (Nat → Nat) → (Nat → Nat → Nat) → Prop) (post : Int32 → (Nat → Nat) × (Nat → Nat → Nat) → Prop) (hpost : ∀ (r1 : Int32) (u : (Nat → Nat) × (Nat → Nat → Nat)), post r1 u → r1 = r ∧ pv u.1 u.2) (hM : Met l yX0_begin wzX0_begin (k2_rm f lo) (zs_pre (dC, dI) zz_cl ((cA, .int) :: (cR, .array .int) :: (cL, .long) :: tr) (zc_w cA cR ad k (zk_n k) (zk_t k) (zk_z k) (zk_i k) S P V ++ ((o, .inl (cL, 1, .inr (.inl g))) :: wr)) sz [.ref (ad 0), .int x1]) (va_Qi post (zw_at (dC, dI) zz_cl ((cA, .int) :: (cR, .array .int) :: (cL, .long) :: tr) (va_A (zc_w cA cR ad k (zk_n k) (zk_t k) (zk_z k) (zk_i k) S P V ++ ((o, .inl (cL, 1, .inr (.inl g))) :: wr)) sz) (fun u : (Nat → Nat) × (Nat → Nat → Nat) => zc_w cA cR ad k1 (zk_n k1) (zk_t k1) (zk_z k1) (zk_i k1) S u.1 u.2 ++ ((o, .inl (cL, 1, .inr (.inl g))) :: wr))) (va_A (zc_w cA cR ad k (zk_n k) (zk_t k) (zk_z k) (zk_i k) S P V ++ ((o, .inl (cL, 1, .inr (.inl g))) :: wr)) sz)) 0 0 (va_A (zc_w cA cR ad k (zk_n k) (zk_t k) (zk_z k) (zk_i k) S P V ++ ((o, .inl (cL, 1, .inr (.inl g))) :: wr)) sz)) : zl_C l dC dI cA cR cL tr wr ad o k (S, P, V, g) sz yL_begin wqL_begin [.ref (ad 0), .int (x1), .ref (o)] 0 (r.toInt64) k1 (pv) := by
  unfold zl_C
  refine va_MetW (cc := cL_begin) (maxL := 4) (ret := (some .int)) (hh := zhL_begin) (by decide) rfl ?_
  intro p e s m args below meth c s₁ B hml hv
  obtain ⟨rfl, hsz, hP, hK, hD0, hE⟩ := hv
  have hx := B.exec
  have hb := B.bytes
  have hr := B.returns
  have hts := atoms_spec (ws := wqL_begin) B.pre
  have hown : s.vm.findClass RL = some m.cls := findClass_of_methodNamed B.named
  have hlocks := B.notSynchronized
  have htb := vx_table (x := yL_begin) B (hts _ List.mem_cons_self)
  subst hsz
  have hD := hD0.self (sz := s.heap.size)
  generalize hAe : va_A (zl_w cA cR cL wr ad o k (S, P, V, g)) s.heap.size = A at hD hE ⊢
  have hA : ∀ q : Nat, s.heap.size ≤ q → A q := fun q h => by rw [← hAe]; exact Or.inr h
  have hS : va_S A s.heap s.heap [] := va_S.rf
  replace hP : va_P (dC, dI) zz_cl (zc_w cA cR ad k (zk_n k) (zk_t k) (zk_z k) (zk_i k) S P V ++ ((o, .inl (cL, 1, .inr (.inl g))) :: wr)) s.heap := hP
  replace hD : va_D A (zc_w cA cR ad k (zk_n k) (zk_t k) (zk_z k) (zk_i k) S P V ++ ((o, .inl (cL, 1, .inr (.inl g))) :: wr)) := hD
  have hl := lv_entry ([.ref (ad 0), .int (x1), .ref (o)]) (n := 4) (Nat.le_of_ble_eq_true rfl)
  rw [lg_entry_eq]
  generalize (lg_sl ([.ref (ad 0), .int (x1), .ref (o)]) ++ List.replicate (4 - (lg_sl ([.ref (ad 0), .int (x1), .ref (o)])).length) Slot.unset).toArray = ls at hl ⊢
  have hl : lv_has ls 4 [(0, .ref (ad 0)), (1, .int (x1)), (2, .ref (o))] := hl
  refine lv_aload_n hx hb dL_begin_0 rfl (lv_at hl 2 rfl) ?_
  refine lv_iconst (v := nI 0) hx hb dL_begin_1 (by decide) ?_
  refine lv_aload_n hx hb dL_begin_2 rfl (lv_at hl 0 rfl) ?_
  refine lv_iload_n hx hb dL_begin_3 rfl (lv_at hl 1 rfl) ?_
  refine zw_calli (w' := fun u : (Nat → Nat) × (Nat → Nat → Nat) => zc_w cA cR ad k1 (zk_n k1) (zk_t k1) (zk_z k1) (zk_i k1) S u.1 u.2 ++ ((o, .inl (cL, 1, .inr (.inl g))) :: wr)) hD hS hA (zx_runV (As := [.int (x1)]) (rest := [.int (nI 0), .ref (o)]) hx hb hml hts hown hM zv_L_7 rfl rfl ⟨Nat.succ_le_succ hf, Nat.le_trans (Nat.add_le_add_left hlo _) (Nat.le_of_ble_eq_true rfl)⟩ (zs_preV (q := (RX0, TX0, 8)) (ci := 0) (q0 := 0) hP hK hD hE.2.1 hS hA rfl rfl) rfl hl.1 rfl (Nat.le_of_ble_eq_true rfl) dL_begin_4 ⟨Nat.zero_le _, Nat.zero_le _⟩) (fun r9 u9 H locs hu hP hD hS => ?_)
  obtain ⟨hr9, hpv⟩ := hpost r9 u9 hu
  subst hr9
  refine lv_i2l (v := r9.toInt64) hx hb dL_begin_7 rfl ?_
  refine zr_last0 (ws' := zc_w cA cR ad k1 (zk_n k1) (zk_t k1) (zk_z k1) (zk_i k1) S u9.1 u9.2 ++ ((o, .inl (cL, 1, .inr (.inl (vp_updL g 0 r9.toInt64)))) :: wr)) hx hb hK hP hD hS 20 2 rfl rfl dL_begin_8 rfl (fun H locs hP hD hS => ?_)
  refine lv_goto (tgt := 15) hx hb dL_begin_9 (by decide) ?_
  refine lv_iconst (v := nI 0) hx hb dL_begin_15 (by decide) ?_
  refine W.widen (k := 1) (n := 6) (Nat.le_of_ble_eq_true rfl) (Nat.le_of_ble_eq_true rfl) ?_
  exact W.iret (v := nI 0) hx hb hr (fun t9 h9 hW9 => ⟨⟨nI 0, (S, u9.1, u9.2, vp_updL g 0 r9.toInt64), rfl, ⟨rfl, fun _ => zl_u0 g (r9.toInt64), hpv⟩, by rw [h9]; exact hP, va_K.moved hW9.alike hK, hD⟩, hS.F h9⟩) hS.2.2 dL_begin_16
set_option maxHeartbeats 4000000 in
set_option maxRecDepth 100000 in
theorem cl_begin_IA (l : Launch) (dC : Nat → ClassId) (dI : Nat → Nat → Nat) (cA cR cL : ClassId) (tr : List (ClassId × FieldType)) (wr : va_W) (ad : Nat → Nat) (o k : Nat) (S : Nat → Int32) (P : Nat → Nat) (V : Nat → Nat → Nat) (g : Nat → Int64) (sz : Nat) (x1 : Int32) (f lo : Nat) (hf : f ≤ 8) (hlo : lo ≤ 170) (hM : ∀ A : Nat → Prop, vx_Met l yX0_begin wzX0_begin (zx_rm f lo) (zb_pre (dC, dI) zz_cl ((cA, .int) :: (cR, .array .int) :: (cL, .long) :: tr) (zc_w cA cR ad k (zk_n k) (zk_t k) (zk_z k) (zk_i k) S P V ++ ((o, .inl (cL, 1, .inr (.inl g))) :: wr)) A [.ref (ad 0), .int x1]) zx_no (zx_K zx_IA) 1 6 (fun _ => False)) (a : Int64) : zl_C l dC dI cA cR cL tr wr ad o k (S, P, V, g) sz yL_begin wqL_begin [.ref (ad 0), .int (x1), .ref (o)] 1 (a) k (fun P1 V1 => P1 = P ∧ V1 = V) := by
  unfold zl_C
  refine va_MetW (cc := cL_begin) (maxL := 4) (ret := (some .int)) (hh := zhL_begin) (by decide) rfl ?_
  intro p e s m args below meth c s₁ B hml hv
  obtain ⟨rfl, hsz, hP, hK, hD0, hE⟩ := hv
  have hx := B.exec
  have hb := B.bytes
  have hr := B.returns
  have hts := atoms_spec (ws := wqL_begin) B.pre
  have hown : s.vm.findClass RL = some m.cls := findClass_of_methodNamed B.named
  have hlocks := B.notSynchronized
  have htb := vx_table (x := yL_begin) B (hts _ List.mem_cons_self)
  subst hsz
  have hD := hD0.self (sz := s.heap.size)
  generalize hAe : va_A (zl_w cA cR cL wr ad o k (S, P, V, g)) s.heap.size = A at hD hE ⊢
  have hA : ∀ q : Nat, s.heap.size ≤ q → A q := fun q h => by rw [← hAe]; exact Or.inr h
  have hS : va_S A s.heap s.heap [] := va_S.rf
  replace hP : va_P (dC, dI) zz_cl (zc_w cA cR ad k (zk_n k) (zk_t k) (zk_z k) (zk_i k) S P V ++ ((o, .inl (cL, 1, .inr (.inl g))) :: wr)) s.heap := hP
  replace hD : va_D A (zc_w cA cR ad k (zk_n k) (zk_t k) (zk_z k) (zk_i k) S P V ++ ((o, .inl (cL, 1, .inr (.inl g))) :: wr)) := hD
  have hl := lv_entry ([.ref (ad 0), .int (x1), .ref (o)]) (n := 4) (Nat.le_of_ble_eq_true rfl)
  rw [lg_entry_eq]
  generalize (lg_sl ([.ref (ad 0), .int (x1), .ref (o)]) ++ List.replicate (4 - (lg_sl ([.ref (ad 0), .int (x1), .ref (o)])).length) Slot.unset).toArray = ls at hl ⊢
  have hl : lv_has ls 4 [(0, .ref (ad 0)), (1, .int (x1)), (2, .ref (o))] := hl
  refine lv_aload_n hx hb dL_begin_0 rfl (lv_at hl 2 rfl) ?_
  refine lv_iconst (v := nI 0) hx hb dL_begin_1 (by decide) ?_
  refine lv_aload_n hx hb dL_begin_2 rfl (lv_at hl 0 rfl) ?_
  refine lv_iload_n hx hb dL_begin_3 rfl (lv_at hl 1 rfl) ?_
  refine zx_callX (As := [.int (x1)]) (rest := [.int (nI 0), .ref (o)]) hx hb hml hts hown (hM A) zv_L_7 rfl rfl ⟨Nat.succ_le_succ hf, Nat.le_trans (Nat.add_le_add_left hlo _) (Nat.le_of_ble_eq_true rfl)⟩ (zb_preV (q := (RX0, TX0, 8)) (ci := 0) (q0 := 0) hP hK hE.1 hE.2.1 hS rfl rfl) rfl hl.1 rfl (Nat.le_of_ble_eq_true rfl) dL_begin_4 ⟨Nat.le_of_ble_eq_true rfl, Nat.le_of_ble_eq_true rfl⟩ (fun ce q9 H9 hz9 hk9 hce hcv hcl => ?_)
  refine vx_catch (name := zx_IA) hown [] ⟨0, 9, 12, 13⟩ [] (htb.trans rfl) (fun z h => nomatch h) rfl (by decide) (hts _ (List.mem_cons_of_mem _ zk_L_13)) (va_Nw.use rfl hE.2.2.1.1) hce hcv hcl ?_
  obtain ⟨hP1, hS1⟩ := zl_more hP hS hz9 hk9
  clear hP hS
  have hP := hP1
  have hS := hS1
  refine lv_astore_n (lv' := [(3, .ref (q9)), (0, .ref (ad 0)), (1, .int (x1)), (2, .ref (o))]) hx hb dL_begin_12 rfl hl (by decide) rfl (fun ls hl => ?_)
  refine lv_iconst (v := nI 1) hx hb dL_begin_13 (by decide) ?_
  exact W.iret (v := nI 1) hx hb hr (fun t9 h9 hW9 => ⟨⟨nI 1, (S, P, V, g), rfl, ⟨rfl, fun h8 => absurd h8 (by decide), rfl, rfl⟩, by rw [h9]; exact hP, va_K.moved hW9.alike hK, hD⟩, hS.F h9⟩) hS.2.2 dL_begin_14
set_option maxHeartbeats 4000000 in
set_option maxRecDepth 100000 in
theorem cl_set_NS (l : Launch) (dC : Nat → ClassId) (dI : Nat → Nat → Nat) (cA cR cL : ClassId) (tr : List (ClassId × FieldType)) (wr : va_W) (ad : Nat → Nat) (o k : Nat) (S : Nat → Int32) (P : Nat → Nat) (V : Nat → Nat → Nat) (g : Nat → Int64) (sz : Nat) (x1 x2 x3 : Int32) (f lo : Nat) (hf : f ≤ 8) (hlo : lo ≤ 170) (hM : ∀ A : Nat → Prop, vx_Met l yX0_set wzX0_set (zx_rm f lo) (zx_pre (dC, dI) zz_cl ((cA, .int) :: (cR, .array .int) :: (cL, .long) :: tr) (zc_w cA cR ad k (zk_n k) (zk_t k) (zk_z k) (zk_i k) S P V ++ ((o, .inl (cL, 1, .inr (.inl g))) :: wr)) A [.ref (ad 0), .int x1, .int x2, .int x3]) zx_no (zx_K zx_NS) 1 6 (fun _ => False)) (a : Int64) : zl_C l dC dI cA cR cL tr wr ad o k (S, P, V, g) sz yL_set wqL_set [.ref (ad 0), .int (x1), .int (x2), .int (x3), .ref (o)] 1 (a) k (fun P1 V1 => P1 = P ∧ V1 = V) := by
  unfold zl_C
  refine va_MetW (cc := cL_set) (maxL := 6) (ret := (some .int)) (hh := zhL_set) (by decide) rfl ?_
  intro p e s m args below meth c s₁ B hml hv
  obtain ⟨rfl, hsz, hP, hK, hD0, hE⟩ := hv
  have hx := B.exec
  have hb := B.bytes
  have hr := B.returns
  have hts := atoms_spec (ws := wqL_set) B.pre
  have hown : s.vm.findClass RL = some m.cls := findClass_of_methodNamed B.named
  have hlocks := B.notSynchronized
  have htb := vx_table (x := yL_set) B (hts _ List.mem_cons_self)
  subst hsz
  have hD := hD0.self (sz := s.heap.size)
  generalize hAe : va_A (zl_w cA cR cL wr ad o k (S, P, V, g)) s.heap.size = A at hD hE ⊢
  have hA : ∀ q : Nat, s.heap.size ≤ q → A q := fun q h => by rw [← hAe]; exact Or.inr h
  have hS : va_S A s.heap s.heap [] := va_S.rf
  replace hP : va_P (dC, dI) zz_cl (zc_w cA cR ad k (zk_n k) (zk_t k) (zk_z k) (zk_i k) S P V ++ ((o, .inl (cL, 1, .inr (.inl g))) :: wr)) s.heap := hP
  replace hD : va_D A (zc_w cA cR ad k (zk_n k) (zk_t k) (zk_z k) (zk_i k) S P V ++ ((o, .inl (cL, 1, .inr (.inl g))) :: wr)) := hD
  have hl := lv_entry ([.ref (ad 0), .int (x1), .int (x2), .int (x3), .ref (o)]) (n := 6) (Nat.le_of_ble_eq_true rfl)
  rw [lg_entry_eq]
  generalize (lg_sl ([.ref (ad 0), .int (x1), .int (x2), .int (x3), .ref (o)]) ++ List.replicate (6 - (lg_sl ([.ref (ad 0), .int (x1), .int (x2), .int (x3), .ref (o)])).length) Slot.unset).toArray = ls at hl ⊢
  have hl : lv_has ls 6 [(0, .ref (ad 0)), (1, .int (x1)), (2, .int (x2)), (3, .int (x3)), (4, .ref (o))] := hl
  refine lv_aload hx hb dL_set_0 (lv_at hl 4 rfl) ?_
  refine lv_iconst (v := nI 0) hx hb dL_set_2 (by decide) ?_
  refine lv_aload_n hx hb dL_set_3 rfl (lv_at hl 0 rfl) ?_
  refine lv_iload_n hx hb dL_set_4 rfl (lv_at hl 1 rfl) ?_
  refine lv_iload_n hx hb dL_set_5 rfl (lv_at hl 2 rfl) ?_
  refine lv_iload_n hx hb dL_set_6 rfl (lv_at hl 3 rfl) ?_
  refine zx_callX (As := [.int (x1), .int (x2), .int (x3)]) (rest := [.int (nI 0), .ref (o)]) hx hb hml hts hown (hM A) zv_L_15 rfl rfl ⟨Nat.succ_le_succ hf, Nat.le_trans (Nat.add_le_add_left hlo _) (Nat.le_of_ble_eq_true rfl)⟩ (zx_preV (q := (RX0, TX0, 8)) (ci := 0) (q0 := 0) hP hK hE.1 hS rfl rfl) rfl hl.1 rfl (Nat.le_of_ble_eq_true rfl) dL_set_7 ⟨Nat.le_of_ble_eq_true rfl, Nat.le_of_ble_eq_true rfl⟩ (fun ce q9 H9 hz9 hk9 hce hcv hcl => ?_)
  refine vx_catch (name := zx_NS) hown [] ⟨0, 12, 15, 19⟩ [] (htb.trans rfl) (fun z h => nomatch h) rfl (by decide) (hts _ (List.mem_cons_of_mem _ zk_L_19)) (va_Nw.use rfl hE.2.2.1.2.1) hce hcv hcl ?_
  obtain ⟨hP1, hS1⟩ := zl_more hP hS hz9 hk9
  clear hP hS
  have hP := hP1
  have hS := hS1
  refine lv_astore (lv' := [(5, .ref (q9)), (0, .ref (ad 0)), (1, .int (x1)), (2, .int (x2)), (3, .int (x3)), (4, .ref (o))]) hx hb dL_set_15 hl (by decide) rfl (fun ls hl => ?_)
  refine lv_iconst (v := nI 1) hx hb dL_set_17 (by decide) ?_
  exact W.iret (v := nI 1) hx hb hr (fun t9 h9 hW9 => ⟨⟨nI 1, (S, P, V, g), rfl, ⟨rfl, fun h8 => absurd h8 (by decide), rfl, rfl⟩, by rw [h9]; exact hP, va_K.moved hW9.alike hK, hD⟩, hS.F h9⟩) hS.2.2 dL_set_18
set_option maxHeartbeats 4000000 in
set_option maxRecDepth 100000 in
theorem cl_get_NS (l : Launch) (dC : Nat → ClassId) (dI : Nat → Nat → Nat) (cA cR cL : ClassId) (tr : List (ClassId × FieldType)) (wr : va_W) (ad : Nat → Nat) (o k : Nat) (S : Nat → Int32) (P : Nat → Nat) (V : Nat → Nat → Nat) (g : Nat → Int64) (sz : Nat) (x1 x2 : Int32) (f lo : Nat) (hf : f ≤ 8) (hlo : lo ≤ 170) (hM : ∀ A : Nat → Prop, vx_Met l yX0_get wzX0_get (zx_rm f lo) (zx_pre (dC, dI) zz_cl ((cA, .int) :: (cR, .array .int) :: (cL, .long) :: tr) (zc_w cA cR ad k (zk_n k) (zk_t k) (zk_z k) (zk_i k) S P V ++ ((o, .inl (cL, 1, .inr (.inl g))) :: wr)) A [.ref (ad 0), .int x1, .int x2]) zx_no (zx_K zx_NS) 1 6 (fun _ => False)) (a : Int64) : zl_C l dC dI cA cR cL tr wr ad o k (S, P, V, g) sz yL_get wqL_get [.ref (ad 0), .int (x1), .int (x2), .ref (o)] 1 (a) k (fun P1 V1 => P1 = P ∧ V1 = V) := by
  unfold zl_C
  refine va_MetW (cc := cL_get) (maxL := 5) (ret := (some .int)) (hh := zhL_get) (by decide) rfl ?_
  intro p e s m args below meth c s₁ B hml hv
  obtain ⟨rfl, hsz, hP, hK, hD0, hE⟩ := hv
  have hx := B.exec
  have hb := B.bytes
  have hr := B.returns
  have hts := atoms_spec (ws := wqL_get) B.pre
  have hown : s.vm.findClass RL = some m.cls := findClass_of_methodNamed B.named
  have hlocks := B.notSynchronized
  have htb := vx_table (x := yL_get) B (hts _ List.mem_cons_self)
  subst hsz
  have hD := hD0.self (sz := s.heap.size)
  generalize hAe : va_A (zl_w cA cR cL wr ad o k (S, P, V, g)) s.heap.size = A at hD hE ⊢
  have hA : ∀ q : Nat, s.heap.size ≤ q → A q := fun q h => by rw [← hAe]; exact Or.inr h
  have hS : va_S A s.heap s.heap [] := va_S.rf
  replace hP : va_P (dC, dI) zz_cl (zc_w cA cR ad k (zk_n k) (zk_t k) (zk_z k) (zk_i k) S P V ++ ((o, .inl (cL, 1, .inr (.inl g))) :: wr)) s.heap := hP
  replace hD : va_D A (zc_w cA cR ad k (zk_n k) (zk_t k) (zk_z k) (zk_i k) S P V ++ ((o, .inl (cL, 1, .inr (.inl g))) :: wr)) := hD
  have hl := lv_entry ([.ref (ad 0), .int (x1), .int (x2), .ref (o)]) (n := 5) (Nat.le_of_ble_eq_true rfl)
  rw [lg_entry_eq]
  generalize (lg_sl ([.ref (ad 0), .int (x1), .int (x2), .ref (o)]) ++ List.replicate (5 - (lg_sl ([.ref (ad 0), .int (x1), .int (x2), .ref (o)])).length) Slot.unset).toArray = ls at hl ⊢
  have hl : lv_has ls 5 [(0, .ref (ad 0)), (1, .int (x1)), (2, .int (x2)), (3, .ref (o))] := hl
  refine lv_aload_n hx hb dL_get_0 rfl (lv_at hl 3 rfl) ?_
  refine lv_iconst (v := nI 0) hx hb dL_get_1 (by decide) ?_
  refine lv_aload_n hx hb dL_get_2 rfl (lv_at hl 0 rfl) ?_
  refine lv_iload_n hx hb dL_get_3 rfl (lv_at hl 1 rfl) ?_
  refine lv_iload_n hx hb dL_get_4 rfl (lv_at hl 2 rfl) ?_
  refine zx_callX (As := [.int (x1), .int (x2)]) (rest := [.int (nI 0), .ref (o)]) hx hb hml hts hown (hM A) zv_L_21 rfl rfl ⟨Nat.succ_le_succ hf, Nat.le_trans (Nat.add_le_add_left hlo _) (Nat.le_of_ble_eq_true rfl)⟩ (zx_preV (q := (RX0, TX0, 8)) (ci := 0) (q0 := 0) hP hK hE.1 hS rfl rfl) rfl hl.1 rfl (Nat.le_of_ble_eq_true rfl) dL_get_5 ⟨Nat.le_of_ble_eq_true rfl, Nat.le_of_ble_eq_true rfl⟩ (fun ce q9 H9 hz9 hk9 hce hcv hcl => ?_)
  refine vx_catch (name := zx_NS) hown [] ⟨0, 10, 13, 19⟩ [] (htb.trans rfl) (fun z h => nomatch h) rfl (by decide) (hts _ (List.mem_cons_of_mem _ zk_L_19)) (va_Nw.use rfl hE.2.2.1.2.1) hce hcv hcl ?_
  obtain ⟨hP1, hS1⟩ := zl_more hP hS hz9 hk9
  clear hP hS
  have hP := hP1
  have hS := hS1
  refine lv_astore (lv' := [(4, .ref (q9)), (0, .ref (ad 0)), (1, .int (x1)), (2, .int (x2)), (3, .ref (o))]) hx hb dL_get_13 hl (by decide) rfl (fun ls hl => ?_)
  refine lv_iconst (v := nI 1) hx hb dL_get_15 (by decide) ?_
  exact W.iret (v := nI 1) hx hb hr (fun t9 h9 hW9 => ⟨⟨nI 1, (S, P, V, g), rfl, ⟨rfl, fun h8 => absurd h8 (by decide), rfl, rfl⟩, by rw [h9]; exact hP, va_K.moved hW9.alike hK, hD⟩, hS.F h9⟩) hS.2.2 dL_get_16
set_option maxHeartbeats 4000000 in
set_option maxRecDepth 100000 in
theorem cl_setValue_NS (l : Launch) (dC : Nat → ClassId) (dI : Nat → Nat → Nat) (cA cR cL : ClassId) (tr : List (ClassId × FieldType)) (wr : va_W) (ad : Nat → Nat) (o k : Nat) (S : Nat → Int32) (P : Nat → Nat) (V : Nat → Nat → Nat) (g : Nat → Int64) (sz : Nat) (x1 x2 x3 : Int32) (f lo : Nat) (hf : f ≤ 8) (hlo : lo ≤ 170) (hM : ∀ A : Nat → Prop, vx_Met l yX0_setValue wzX0_setValue (zx_rm f lo) (zx_pre (dC, dI) zz_cl ((cA, .int) :: (cR, .array .int) :: (cL, .long) :: tr) (zc_w cA cR ad k (zk_n k) (zk_t k) (zk_z k) (zk_i k) S P V ++ ((o, .inl (cL, 1, .inr (.inl g))) :: wr)) A [.ref (ad 0), .int x1, .int x2, .int x3]) zx_no (zx_K zx_NS) 1 6 (fun _ => False)) (a : Int64) : zl_C l dC dI cA cR cL tr wr ad o k (S, P, V, g) sz yL_setValue wqL_setValue [.ref (ad 0), .int (x1), .int (x2), .int (x3), .ref (o)] 1 (a) k (fun P1 V1 => P1 = P ∧ V1 = V) := by
  unfold zl_C
  refine va_MetW (cc := cL_setValue) (maxL := 6) (ret := (some .int)) (hh := zhL_setValue) (by decide) rfl ?_
  intro p e s m args below meth c s₁ B hml hv
  obtain ⟨rfl, hsz, hP, hK, hD0, hE⟩ := hv
  have hx := B.exec
  have hb := B.bytes
  have hr := B.returns
  have hts := atoms_spec (ws := wqL_setValue) B.pre
  have hown : s.vm.findClass RL = some m.cls := findClass_of_methodNamed B.named
  have hlocks := B.notSynchronized
  have htb := vx_table (x := yL_setValue) B (hts _ List.mem_cons_self)
  subst hsz
  have hD := hD0.self (sz := s.heap.size)
  generalize hAe : va_A (zl_w cA cR cL wr ad o k (S, P, V, g)) s.heap.size = A at hD hE ⊢
  have hA : ∀ q : Nat, s.heap.size ≤ q → A q := fun q h => by rw [← hAe]; exact Or.inr h
  have hS : va_S A s.heap s.heap [] := va_S.rf
  replace hP : va_P (dC, dI) zz_cl (zc_w cA cR ad k (zk_n k) (zk_t k) (zk_z k) (zk_i k) S P V ++ ((o, .inl (cL, 1, .inr (.inl g))) :: wr)) s.heap := hP
  replace hD : va_D A (zc_w cA cR ad k (zk_n k) (zk_t k) (zk_z k) (zk_i k) S P V ++ ((o, .inl (cL, 1, .inr (.inl g))) :: wr)) := hD
  have hl := lv_entry ([.ref (ad 0), .int (x1), .int (x2), .int (x3), .ref (o)]) (n := 6) (Nat.le_of_ble_eq_true rfl)
  rw [lg_entry_eq]
  generalize (lg_sl ([.ref (ad 0), .int (x1), .int (x2), .int (x3), .ref (o)]) ++ List.replicate (6 - (lg_sl ([.ref (ad 0), .int (x1), .int (x2), .int (x3), .ref (o)])).length) Slot.unset).toArray = ls at hl ⊢
  have hl : lv_has ls 6 [(0, .ref (ad 0)), (1, .int (x1)), (2, .int (x2)), (3, .int (x3)), (4, .ref (o))] := hl
  refine lv_aload hx hb dL_setValue_0 (lv_at hl 4 rfl) ?_
  refine lv_iconst (v := nI 0) hx hb dL_setValue_2 (by decide) ?_
  refine lv_aload_n hx hb dL_setValue_3 rfl (lv_at hl 0 rfl) ?_
  refine lv_iload_n hx hb dL_setValue_4 rfl (lv_at hl 1 rfl) ?_
  refine lv_iload_n hx hb dL_setValue_5 rfl (lv_at hl 2 rfl) ?_
  refine lv_iload_n hx hb dL_setValue_6 rfl (lv_at hl 3 rfl) ?_
  refine zx_callX (As := [.int (x1), .int (x2), .int (x3)]) (rest := [.int (nI 0), .ref (o)]) hx hb hml hts hown (hM A) zv_L_25 rfl rfl ⟨Nat.succ_le_succ hf, Nat.le_trans (Nat.add_le_add_left hlo _) (Nat.le_of_ble_eq_true rfl)⟩ (zx_preV (q := (RX0, TX0, 8)) (ci := 0) (q0 := 0) hP hK hE.1 hS rfl rfl) rfl hl.1 rfl (Nat.le_of_ble_eq_true rfl) dL_setValue_7 ⟨Nat.le_of_ble_eq_true rfl, Nat.le_of_ble_eq_true rfl⟩ (fun ce q9 H9 hz9 hk9 hce hcv hcl => ?_)
  refine vx_catch (name := zx_NS) hown [] ⟨0, 12, 15, 19⟩ [] (htb.trans rfl) (fun z h => nomatch h) rfl (by decide) (hts _ (List.mem_cons_of_mem _ zk_L_19)) (va_Nw.use rfl hE.2.2.1.2.1) hce hcv hcl ?_
  obtain ⟨hP1, hS1⟩ := zl_more hP hS hz9 hk9
  clear hP hS
  have hP := hP1
  have hS := hS1
  refine lv_astore (lv' := [(5, .ref (q9)), (0, .ref (ad 0)), (1, .int (x1)), (2, .int (x2)), (3, .int (x3)), (4, .ref (o))]) hx hb dL_setValue_15 hl (by decide) rfl (fun ls hl => ?_)
  refine lv_iconst (v := nI 1) hx hb dL_setValue_17 (by decide) ?_
  exact W.iret (v := nI 1) hx hb hr (fun t9 h9 hW9 => ⟨⟨nI 1, (S, P, V, g), rfl, ⟨rfl, fun h8 => absurd h8 (by decide), rfl, rfl⟩, by rw [h9]; exact hP, va_K.moved hW9.alike hK, hD⟩, hS.F h9⟩) hS.2.2 dL_setValue_18
set_option maxHeartbeats 4000000 in
set_option maxRecDepth 100000 in
theorem cl_value_NS (l : Launch) (dC : Nat → ClassId) (dI : Nat → Nat → Nat) (cA cR cL : ClassId) (tr : List (ClassId × FieldType)) (wr : va_W) (ad : Nat → Nat) (o k : Nat) (S : Nat → Int32) (P : Nat → Nat) (V : Nat → Nat → Nat) (g : Nat → Int64) (sz : Nat) (x1 x2 : Int32) (f lo : Nat) (hf : f ≤ 8) (hlo : lo ≤ 170) (hM : ∀ A : Nat → Prop, vx_Met l yX0_value wzX0_value (zx_rm f lo) (zx_pre (dC, dI) zz_cl ((cA, .int) :: (cR, .array .int) :: (cL, .long) :: tr) (zc_w cA cR ad k (zk_n k) (zk_t k) (zk_z k) (zk_i k) S P V ++ ((o, .inl (cL, 1, .inr (.inl g))) :: wr)) A [.ref (ad 0), .int x1, .int x2]) zx_no (zx_K zx_NS) 1 6 (fun _ => False)) (a : Int64) : zl_C l dC dI cA cR cL tr wr ad o k (S, P, V, g) sz yL_value wqL_value [.ref (ad 0), .int (x1), .int (x2), .ref (o)] 1 (a) k (fun P1 V1 => P1 = P ∧ V1 = V) := by
  unfold zl_C
  refine va_MetW (cc := cL_value) (maxL := 5) (ret := (some .int)) (hh := zhL_value) (by decide) rfl ?_
  intro p e s m args below meth c s₁ B hml hv
  obtain ⟨rfl, hsz, hP, hK, hD0, hE⟩ := hv
  have hx := B.exec
  have hb := B.bytes
  have hr := B.returns
  have hts := atoms_spec (ws := wqL_value) B.pre
  have hown : s.vm.findClass RL = some m.cls := findClass_of_methodNamed B.named
  have hlocks := B.notSynchronized
  have htb := vx_table (x := yL_value) B (hts _ List.mem_cons_self)
  subst hsz
  have hD := hD0.self (sz := s.heap.size)
  generalize hAe : va_A (zl_w cA cR cL wr ad o k (S, P, V, g)) s.heap.size = A at hD hE ⊢
  have hA : ∀ q : Nat, s.heap.size ≤ q → A q := fun q h => by rw [← hAe]; exact Or.inr h
  have hS : va_S A s.heap s.heap [] := va_S.rf
  replace hP : va_P (dC, dI) zz_cl (zc_w cA cR ad k (zk_n k) (zk_t k) (zk_z k) (zk_i k) S P V ++ ((o, .inl (cL, 1, .inr (.inl g))) :: wr)) s.heap := hP
  replace hD : va_D A (zc_w cA cR ad k (zk_n k) (zk_t k) (zk_z k) (zk_i k) S P V ++ ((o, .inl (cL, 1, .inr (.inl g))) :: wr)) := hD
  have hl := lv_entry ([.ref (ad 0), .int (x1), .int (x2), .ref (o)]) (n := 5) (Nat.le_of_ble_eq_true rfl)
  rw [lg_entry_eq]
  generalize (lg_sl ([.ref (ad 0), .int (x1), .int (x2), .ref (o)]) ++ List.replicate (5 - (lg_sl ([.ref (ad 0), .int (x1), .int (x2), .ref (o)])).length) Slot.unset).toArray = ls at hl ⊢
  have hl : lv_has ls 5 [(0, .ref (ad 0)), (1, .int (x1)), (2, .int (x2)), (3, .ref (o))] := hl
  refine lv_aload_n hx hb dL_value_0 rfl (lv_at hl 3 rfl) ?_
  refine lv_iconst (v := nI 0) hx hb dL_value_1 (by decide) ?_
  refine lv_aload_n hx hb dL_value_2 rfl (lv_at hl 0 rfl) ?_
  refine lv_iload_n hx hb dL_value_3 rfl (lv_at hl 1 rfl) ?_
  refine lv_iload_n hx hb dL_value_4 rfl (lv_at hl 2 rfl) ?_
  refine zx_callX (As := [.int (x1), .int (x2)]) (rest := [.int (nI 0), .ref (o)]) hx hb hml hts hown (hM A) zv_L_28 rfl rfl ⟨Nat.succ_le_succ hf, Nat.le_trans (Nat.add_le_add_left hlo _) (Nat.le_of_ble_eq_true rfl)⟩ (zx_preV (q := (RX0, TX0, 8)) (ci := 0) (q0 := 0) hP hK hE.1 hS rfl rfl) rfl hl.1 rfl (Nat.le_of_ble_eq_true rfl) dL_value_5 ⟨Nat.le_of_ble_eq_true rfl, Nat.le_of_ble_eq_true rfl⟩ (fun ce q9 H9 hz9 hk9 hce hcv hcl => ?_)
  refine vx_catch (name := zx_NS) hown [] ⟨0, 10, 13, 19⟩ [] (htb.trans rfl) (fun z h => nomatch h) rfl (by decide) (hts _ (List.mem_cons_of_mem _ zk_L_19)) (va_Nw.use rfl hE.2.2.1.2.1) hce hcv hcl ?_
  obtain ⟨hP1, hS1⟩ := zl_more hP hS hz9 hk9
  clear hP hS
  have hP := hP1
  have hS := hS1
  refine lv_astore (lv' := [(4, .ref (q9)), (0, .ref (ad 0)), (1, .int (x1)), (2, .int (x2)), (3, .ref (o))]) hx hb dL_value_13 hl (by decide) rfl (fun ls hl => ?_)
  refine lv_iconst (v := nI 1) hx hb dL_value_15 (by decide) ?_
  exact W.iret (v := nI 1) hx hb hr (fun t9 h9 hW9 => ⟨⟨nI 1, (S, P, V, g), rfl, ⟨rfl, fun h8 => absurd h8 (by decide), rfl, rfl⟩, by rw [h9]; exact hP, va_K.moved hW9.alike hK, hD⟩, hS.F h9⟩) hS.2.2 dL_value_16
set_option maxHeartbeats 4000000 in
set_option maxRecDepth 100000 in
theorem cl_join_NS (l : Launch) (dC : Nat → ClassId) (dI : Nat → Nat → Nat) (cA cR cL : ClassId) (tr : List (ClassId × FieldType)) (wr : va_W) (ad : Nat → Nat) (o k : Nat) (S : Nat → Int32) (P : Nat → Nat) (V : Nat → Nat → Nat) (g : Nat → Int64) (sz : Nat) (x1 x2 x3 x4 : Int32) (f lo : Nat) (hf : f ≤ 8) (hlo : lo ≤ 170) (hM : ∀ A : Nat → Prop, vx_Met l yX0_join wzX0_join (zx_rm f lo) (zx_pre (dC, dI) zz_cl ((cA, .int) :: (cR, .array .int) :: (cL, .long) :: tr) (zc_w cA cR ad k (zk_n k) (zk_t k) (zk_z k) (zk_i k) S P V ++ ((o, .inl (cL, 1, .inr (.inl g))) :: wr)) A [.ref (ad 0), .int x1, .int x2, .int x3, .int x4]) zx_no (zx_K zx_NS) 1 6 (fun _ => False)) (a : Int64) : zl_C l dC dI cA cR cL tr wr ad o k (S, P, V, g) sz yL_join wqL_join [.ref (ad 0), .int (x1), .int (x2), .int (x3), .int (x4), .ref (o)] 1 (a) k (fun P1 V1 => P1 = P ∧ V1 = V) := by
  unfold zl_C
  refine va_MetW (cc := cL_join) (maxL := 7) (ret := (some .int)) (hh := zhL_join) (by decide) rfl ?_
  intro p e s m args below meth c s₁ B hml hv
  obtain ⟨rfl, hsz, hP, hK, hD0, hE⟩ := hv
  have hx := B.exec
  have hb := B.bytes
  have hr := B.returns
  have hts := atoms_spec (ws := wqL_join) B.pre
  have hown : s.vm.findClass RL = some m.cls := findClass_of_methodNamed B.named
  have hlocks := B.notSynchronized
  have htb := vx_table (x := yL_join) B (hts _ List.mem_cons_self)
  subst hsz
  have hD := hD0.self (sz := s.heap.size)
  generalize hAe : va_A (zl_w cA cR cL wr ad o k (S, P, V, g)) s.heap.size = A at hD hE ⊢
  have hA : ∀ q : Nat, s.heap.size ≤ q → A q := fun q h => by rw [← hAe]; exact Or.inr h
  have hS : va_S A s.heap s.heap [] := va_S.rf
  replace hP : va_P (dC, dI) zz_cl (zc_w cA cR ad k (zk_n k) (zk_t k) (zk_z k) (zk_i k) S P V ++ ((o, .inl (cL, 1, .inr (.inl g))) :: wr)) s.heap := hP
  replace hD : va_D A (zc_w cA cR ad k (zk_n k) (zk_t k) (zk_z k) (zk_i k) S P V ++ ((o, .inl (cL, 1, .inr (.inl g))) :: wr)) := hD
  have hl := lv_entry ([.ref (ad 0), .int (x1), .int (x2), .int (x3), .int (x4), .ref (o)]) (n := 7) (Nat.le_of_ble_eq_true rfl)
  rw [lg_entry_eq]
  generalize (lg_sl ([.ref (ad 0), .int (x1), .int (x2), .int (x3), .int (x4), .ref (o)]) ++ List.replicate (7 - (lg_sl ([.ref (ad 0), .int (x1), .int (x2), .int (x3), .int (x4), .ref (o)])).length) Slot.unset).toArray = ls at hl ⊢
  have hl : lv_has ls 7 [(0, .ref (ad 0)), (1, .int (x1)), (2, .int (x2)), (3, .int (x3)), (4, .int (x4)), (5, .ref (o))] := hl
  refine lv_aload hx hb dL_join_0 (lv_at hl 5 rfl) ?_
  refine lv_iconst (v := nI 0) hx hb dL_join_2 (by decide) ?_
  refine lv_aload_n hx hb dL_join_3 rfl (lv_at hl 0 rfl) ?_
  refine lv_iload_n hx hb dL_join_4 rfl (lv_at hl 1 rfl) ?_
  refine lv_iload_n hx hb dL_join_5 rfl (lv_at hl 2 rfl) ?_
  refine lv_iload_n hx hb dL_join_6 rfl (lv_at hl 3 rfl) ?_
  refine lv_iload hx hb dL_join_7 (lv_at hl 4 rfl) ?_
  refine zx_callX (As := [.int (x1), .int (x2), .int (x3), .int (x4)]) (rest := [.int (nI 0), .ref (o)]) hx hb hml hts hown (hM A) zv_L_31 rfl rfl ⟨Nat.succ_le_succ hf, Nat.le_trans (Nat.add_le_add_left hlo _) (Nat.le_of_ble_eq_true rfl)⟩ (zx_preV (q := (RX0, TX0, 8)) (ci := 0) (q0 := 0) hP hK hE.1 hS rfl rfl) rfl hl.1 rfl (Nat.le_of_ble_eq_true rfl) dL_join_9 ⟨Nat.le_of_ble_eq_true rfl, Nat.le_of_ble_eq_true rfl⟩ (fun ce q9 H9 hz9 hk9 hce hcv hcl => ?_)
  refine vx_catch (name := zx_NS) hown [] ⟨0, 14, 17, 19⟩ [⟨0, 14, 21, 13⟩, ⟨0, 14, 25, 35⟩] (htb.trans rfl) (fun z h => nomatch h) rfl (by decide) (hts _ (List.mem_cons_of_mem _ zk_L_19)) (va_Nw.use rfl hE.2.2.1.2.1) hce hcv hcl ?_
  obtain ⟨hP1, hS1⟩ := zl_more hP hS hz9 hk9
  clear hP hS
  have hP := hP1
  have hS := hS1
  refine lv_astore (lv' := [(6, .ref (q9)), (0, .ref (ad 0)), (1, .int (x1)), (2, .int (x2)), (3, .int (x3)), (4, .int (x4)), (5, .ref (o))]) hx hb dL_join_17 hl (by decide) rfl (fun ls hl => ?_)
  refine lv_iconst (v := nI 1) hx hb dL_join_19 (by decide) ?_
  exact W.iret (v := nI 1) hx hb hr (fun t9 h9 hW9 => ⟨⟨nI 1, (S, P, V, g), rfl, ⟨rfl, fun h8 => absurd h8 (by decide), rfl, rfl⟩, by rw [h9]; exact hP, va_K.moved hW9.alike hK, hD⟩, hS.F h9⟩) hS.2.2 dL_join_20
set_option maxHeartbeats 4000000 in
set_option maxRecDepth 100000 in
theorem cl_join_IA (l : Launch) (dC : Nat → ClassId) (dI : Nat → Nat → Nat) (cA cR cL : ClassId) (tr : List (ClassId × FieldType)) (wr : va_W) (ad : Nat → Nat) (o k : Nat) (S : Nat → Int32) (P : Nat → Nat) (V : Nat → Nat → Nat) (g : Nat → Int64) (sz : Nat) (x1 x2 x3 x4 : Int32) (f lo : Nat) (hf : f ≤ 8) (hlo : lo ≤ 170) (hM : ∀ A : Nat → Prop, vx_Met l yX0_join wzX0_join (zx_rm f lo) (zx_pre (dC, dI) zz_cl ((cA, .int) :: (cR, .array .int) :: (cL, .long) :: tr) (zc_w cA cR ad k (zk_n k) (zk_t k) (zk_z k) (zk_i k) S P V ++ ((o, .inl (cL, 1, .inr (.inl g))) :: wr)) A [.ref (ad 0), .int x1, .int x2, .int x3, .int x4]) zx_no (zx_K zx_IA) 1 6 (fun _ => False)) (a : Int64) : zl_C l dC dI cA cR cL tr wr ad o k (S, P, V, g) sz yL_join wqL_join [.ref (ad 0), .int (x1), .int (x2), .int (x3), .int (x4), .ref (o)] 2 (a) k (fun P1 V1 => P1 = P ∧ V1 = V) := by
  unfold zl_C
  refine va_MetW (cc := cL_join) (maxL := 7) (ret := (some .int)) (hh := zhL_join) (by decide) rfl ?_
  intro p e s m args below meth c s₁ B hml hv
  obtain ⟨rfl, hsz, hP, hK, hD0, hE⟩ := hv
  have hx := B.exec
  have hb := B.bytes
  have hr := B.returns
  have hts := atoms_spec (ws := wqL_join) B.pre
  have hown : s.vm.findClass RL = some m.cls := findClass_of_methodNamed B.named
  have hlocks := B.notSynchronized
  have htb := vx_table (x := yL_join) B (hts _ List.mem_cons_self)
  subst hsz
  have hD := hD0.self (sz := s.heap.size)
  generalize hAe : va_A (zl_w cA cR cL wr ad o k (S, P, V, g)) s.heap.size = A at hD hE ⊢
  have hA : ∀ q : Nat, s.heap.size ≤ q → A q := fun q h => by rw [← hAe]; exact Or.inr h
  have hS : va_S A s.heap s.heap [] := va_S.rf
  replace hP : va_P (dC, dI) zz_cl (zc_w cA cR ad k (zk_n k) (zk_t k) (zk_z k) (zk_i k) S P V ++ ((o, .inl (cL, 1, .inr (.inl g))) :: wr)) s.heap := hP
  replace hD : va_D A (zc_w cA cR ad k (zk_n k) (zk_t k) (zk_z k) (zk_i k) S P V ++ ((o, .inl (cL, 1, .inr (.inl g))) :: wr)) := hD
  have hl := lv_entry ([.ref (ad 0), .int (x1), .int (x2), .int (x3), .int (x4), .ref (o)]) (n := 7) (Nat.le_of_ble_eq_true rfl)
  rw [lg_entry_eq]
  generalize (lg_sl ([.ref (ad 0), .int (x1), .int (x2), .int (x3), .int (x4), .ref (o)]) ++ List.replicate (7 - (lg_sl ([.ref (ad 0), .int (x1), .int (x2), .int (x3), .int (x4), .ref (o)])).length) Slot.unset).toArray = ls at hl ⊢
  have hl : lv_has ls 7 [(0, .ref (ad 0)), (1, .int (x1)), (2, .int (x2)), (3, .int (x3)), (4, .int (x4)), (5, .ref (o))] := hl
  refine lv_aload hx hb dL_join_0 (lv_at hl 5 rfl) ?_
  refine lv_iconst (v := nI 0) hx hb dL_join_2 (by decide) ?_
  refine lv_aload_n hx hb dL_join_3 rfl (lv_at hl 0 rfl) ?_
  refine lv_iload_n hx hb dL_join_4 rfl (lv_at hl 1 rfl) ?_
  refine lv_iload_n hx hb dL_join_5 rfl (lv_at hl 2 rfl) ?_
  refine lv_iload_n hx hb dL_join_6 rfl (lv_at hl 3 rfl) ?_
  refine lv_iload hx hb dL_join_7 (lv_at hl 4 rfl) ?_
  refine zx_callX (As := [.int (x1), .int (x2), .int (x3), .int (x4)]) (rest := [.int (nI 0), .ref (o)]) hx hb hml hts hown (hM A) zv_L_31 rfl rfl ⟨Nat.succ_le_succ hf, Nat.le_trans (Nat.add_le_add_left hlo _) (Nat.le_of_ble_eq_true rfl)⟩ (zx_preV (q := (RX0, TX0, 8)) (ci := 0) (q0 := 0) hP hK hE.1 hS rfl rfl) rfl hl.1 rfl (Nat.le_of_ble_eq_true rfl) dL_join_9 ⟨Nat.le_of_ble_eq_true rfl, Nat.le_of_ble_eq_true rfl⟩ (fun ce q9 H9 hz9 hk9 hce hcv hcl => ?_)
  refine vx_catch (name := zx_IA) hown [⟨0, 14, 17, 19⟩] ⟨0, 14, 21, 13⟩ [⟨0, 14, 25, 35⟩] (htb.trans rfl) (fun z h => by
    rcases List.mem_cons.mp h with rfl | h
    · exact Or.inr ⟨by decide, zx_NS, hts _ (List.mem_cons_of_mem _ zk_L_19), hE.2.2.2.1⟩
    cases h) rfl (by decide) (hts _ (List.mem_cons_of_mem _ zk_L_13)) (va_Nw.use rfl hE.2.2.1.1) hce hcv hcl ?_
  obtain ⟨hP1, hS1⟩ := zl_more hP hS hz9 hk9
  clear hP hS
  have hP := hP1
  have hS := hS1
  refine lv_astore (lv' := [(6, .ref (q9)), (0, .ref (ad 0)), (1, .int (x1)), (2, .int (x2)), (3, .int (x3)), (4, .int (x4)), (5, .ref (o))]) hx hb dL_join_21 hl (by decide) rfl (fun ls hl => ?_)
  refine lv_iconst (v := nI 2) hx hb dL_join_23 (by decide) ?_
  exact W.iret (v := nI 2) hx hb hr (fun t9 h9 hW9 => ⟨⟨nI 2, (S, P, V, g), rfl, ⟨rfl, fun h8 => absurd h8 (by decide), rfl, rfl⟩, by rw [h9]; exact hP, va_K.moved hW9.alike hK, hD⟩, hS.F h9⟩) hS.2.2 dL_join_24
set_option maxHeartbeats 4000000 in
set_option maxRecDepth 100000 in
theorem cl_join_IS (l : Launch) (dC : Nat → ClassId) (dI : Nat → Nat → Nat) (cA cR cL : ClassId) (tr : List (ClassId × FieldType)) (wr : va_W) (ad : Nat → Nat) (o k : Nat) (S : Nat → Int32) (P : Nat → Nat) (V : Nat → Nat → Nat) (g : Nat → Int64) (sz : Nat) (x1 x2 x3 x4 : Int32) (f lo : Nat) (hf : f ≤ 8) (hlo : lo ≤ 170) (hM : ∀ A : Nat → Prop, vx_Met l yX0_join wzX0_join (zx_rm f lo) (zx_pre (dC, dI) zz_cl ((cA, .int) :: (cR, .array .int) :: (cL, .long) :: tr) (zc_w cA cR ad k (zk_n k) (zk_t k) (zk_z k) (zk_i k) S P V ++ ((o, .inl (cL, 1, .inr (.inl g))) :: wr)) A [.ref (ad 0), .int x1, .int x2, .int x3, .int x4]) zx_no (zx_K zx_IS) 1 6 (fun _ => False)) (a : Int64) : zl_C l dC dI cA cR cL tr wr ad o k (S, P, V, g) sz yL_join wqL_join [.ref (ad 0), .int (x1), .int (x2), .int (x3), .int (x4), .ref (o)] 3 (a) k (fun P1 V1 => P1 = P ∧ V1 = V) := by
  unfold zl_C
  refine va_MetW (cc := cL_join) (maxL := 7) (ret := (some .int)) (hh := zhL_join) (by decide) rfl ?_
  intro p e s m args below meth c s₁ B hml hv
  obtain ⟨rfl, hsz, hP, hK, hD0, hE⟩ := hv
  have hx := B.exec
  have hb := B.bytes
  have hr := B.returns
  have hts := atoms_spec (ws := wqL_join) B.pre
  have hown : s.vm.findClass RL = some m.cls := findClass_of_methodNamed B.named
  have hlocks := B.notSynchronized
  have htb := vx_table (x := yL_join) B (hts _ List.mem_cons_self)
  subst hsz
  have hD := hD0.self (sz := s.heap.size)
  generalize hAe : va_A (zl_w cA cR cL wr ad o k (S, P, V, g)) s.heap.size = A at hD hE ⊢
  have hA : ∀ q : Nat, s.heap.size ≤ q → A q := fun q h => by rw [← hAe]; exact Or.inr h
  have hS : va_S A s.heap s.heap [] := va_S.rf
  replace hP : va_P (dC, dI) zz_cl (zc_w cA cR ad k (zk_n k) (zk_t k) (zk_z k) (zk_i k) S P V ++ ((o, .inl (cL, 1, .inr (.inl g))) :: wr)) s.heap := hP
  replace hD : va_D A (zc_w cA cR ad k (zk_n k) (zk_t k) (zk_z k) (zk_i k) S P V ++ ((o, .inl (cL, 1, .inr (.inl g))) :: wr)) := hD
  have hl := lv_entry ([.ref (ad 0), .int (x1), .int (x2), .int (x3), .int (x4), .ref (o)]) (n := 7) (Nat.le_of_ble_eq_true rfl)
  rw [lg_entry_eq]
  generalize (lg_sl ([.ref (ad 0), .int (x1), .int (x2), .int (x3), .int (x4), .ref (o)]) ++ List.replicate (7 - (lg_sl ([.ref (ad 0), .int (x1), .int (x2), .int (x3), .int (x4), .ref (o)])).length) Slot.unset).toArray = ls at hl ⊢
  have hl : lv_has ls 7 [(0, .ref (ad 0)), (1, .int (x1)), (2, .int (x2)), (3, .int (x3)), (4, .int (x4)), (5, .ref (o))] := hl
  refine lv_aload hx hb dL_join_0 (lv_at hl 5 rfl) ?_
  refine lv_iconst (v := nI 0) hx hb dL_join_2 (by decide) ?_
  refine lv_aload_n hx hb dL_join_3 rfl (lv_at hl 0 rfl) ?_
  refine lv_iload_n hx hb dL_join_4 rfl (lv_at hl 1 rfl) ?_
  refine lv_iload_n hx hb dL_join_5 rfl (lv_at hl 2 rfl) ?_
  refine lv_iload_n hx hb dL_join_6 rfl (lv_at hl 3 rfl) ?_
  refine lv_iload hx hb dL_join_7 (lv_at hl 4 rfl) ?_
  refine zx_callX (As := [.int (x1), .int (x2), .int (x3), .int (x4)]) (rest := [.int (nI 0), .ref (o)]) hx hb hml hts hown (hM A) zv_L_31 rfl rfl ⟨Nat.succ_le_succ hf, Nat.le_trans (Nat.add_le_add_left hlo _) (Nat.le_of_ble_eq_true rfl)⟩ (zx_preV (q := (RX0, TX0, 8)) (ci := 0) (q0 := 0) hP hK hE.1 hS rfl rfl) rfl hl.1 rfl (Nat.le_of_ble_eq_true rfl) dL_join_9 ⟨Nat.le_of_ble_eq_true rfl, Nat.le_of_ble_eq_true rfl⟩ (fun ce q9 H9 hz9 hk9 hce hcv hcl => ?_)
  refine vx_catch (name := zx_IS) hown [⟨0, 14, 17, 19⟩, ⟨0, 14, 21, 13⟩] ⟨0, 14, 25, 35⟩ [] (htb.trans rfl) (fun z h => by
    rcases List.mem_cons.mp h with rfl | h
    · exact Or.inr ⟨by decide, zx_NS, hts _ (List.mem_cons_of_mem _ zk_L_19), hE.2.2.2.2.1⟩
    rcases List.mem_cons.mp h with rfl | h
    · exact Or.inr ⟨by decide, zx_IA, hts _ (List.mem_cons_of_mem _ zk_L_13), hE.2.2.2.2.2⟩
    cases h) rfl (by decide) (hts _ (List.mem_cons_of_mem _ zk_L_35)) (va_Nw.use rfl hE.2.2.1.2.2) hce hcv hcl ?_
  obtain ⟨hP1, hS1⟩ := zl_more hP hS hz9 hk9
  clear hP hS
  have hP := hP1
  have hS := hS1
  refine lv_astore (lv' := [(6, .ref (q9)), (0, .ref (ad 0)), (1, .int (x1)), (2, .int (x2)), (3, .int (x3)), (4, .int (x4)), (5, .ref (o))]) hx hb dL_join_25 hl (by decide) rfl (fun ls hl => ?_)
  refine lv_iconst (v := nI 3) hx hb dL_join_27 (by decide) ?_
  exact W.iret (v := nI 3) hx hb hr (fun t9 h9 hW9 => ⟨⟨nI 3, (S, P, V, g), rfl, ⟨rfl, fun h8 => absurd h8 (by decide), rfl, rfl⟩, by rw [h9]; exact hP, va_K.moved hW9.alike hK, hD⟩, hS.F h9⟩) hS.2.2 dL_join_28
set_option maxHeartbeats 4000000 in
set_option maxRecDepth 100000 in
theorem cl_turn_NS (l : Launch) (dC : Nat → ClassId) (dI : Nat → Nat → Nat) (cA cR cL : ClassId) (tr : List (ClassId × FieldType)) (wr : va_W) (ad : Nat → Nat) (o k : Nat) (S : Nat → Int32) (P : Nat → Nat) (V : Nat → Nat → Nat) (g : Nat → Int64) (sz : Nat) (x1 x2 x3 : Int32) (f lo : Nat) (hf : f ≤ 8) (hlo : lo ≤ 170) (hM : ∀ A : Nat → Prop, vx_Met l yX0_turn wzX0_turn (zx_rm f lo) (zx_pre (dC, dI) zz_cl ((cA, .int) :: (cR, .array .int) :: (cL, .long) :: tr) (zc_w cA cR ad k (zk_n k) (zk_t k) (zk_z k) (zk_i k) S P V ++ ((o, .inl (cL, 1, .inr (.inl g))) :: wr)) A [.ref (ad 0), .int x1, .int x2, .int x3]) zx_no (zx_K zx_NS) 1 6 (fun _ => False)) (a : Int64) : zl_C l dC dI cA cR cL tr wr ad o k (S, P, V, g) sz yL_turn wqL_turn [.ref (ad 0), .int (x1), .int (x2), .int (x3), .ref (o)] 1 (a) k (fun P1 V1 => P1 = P ∧ V1 = V) := by
  unfold zl_C
  refine va_MetW (cc := cL_turn) (maxL := 6) (ret := (some .int)) (hh := zhL_turn) (by decide) rfl ?_
  intro p e s m args below meth c s₁ B hml hv
  obtain ⟨rfl, hsz, hP, hK, hD0, hE⟩ := hv
  have hx := B.exec
  have hb := B.bytes
  have hr := B.returns
  have hts := atoms_spec (ws := wqL_turn) B.pre
  have hown : s.vm.findClass RL = some m.cls := findClass_of_methodNamed B.named
  have hlocks := B.notSynchronized
  have htb := vx_table (x := yL_turn) B (hts _ List.mem_cons_self)
  subst hsz
  have hD := hD0.self (sz := s.heap.size)
  generalize hAe : va_A (zl_w cA cR cL wr ad o k (S, P, V, g)) s.heap.size = A at hD hE ⊢
  have hA : ∀ q : Nat, s.heap.size ≤ q → A q := fun q h => by rw [← hAe]; exact Or.inr h
  have hS : va_S A s.heap s.heap [] := va_S.rf
  replace hP : va_P (dC, dI) zz_cl (zc_w cA cR ad k (zk_n k) (zk_t k) (zk_z k) (zk_i k) S P V ++ ((o, .inl (cL, 1, .inr (.inl g))) :: wr)) s.heap := hP
  replace hD : va_D A (zc_w cA cR ad k (zk_n k) (zk_t k) (zk_z k) (zk_i k) S P V ++ ((o, .inl (cL, 1, .inr (.inl g))) :: wr)) := hD
  have hl := lv_entry ([.ref (ad 0), .int (x1), .int (x2), .int (x3), .ref (o)]) (n := 6) (Nat.le_of_ble_eq_true rfl)
  rw [lg_entry_eq]
  generalize (lg_sl ([.ref (ad 0), .int (x1), .int (x2), .int (x3), .ref (o)]) ++ List.replicate (6 - (lg_sl ([.ref (ad 0), .int (x1), .int (x2), .int (x3), .ref (o)])).length) Slot.unset).toArray = ls at hl ⊢
  have hl : lv_has ls 6 [(0, .ref (ad 0)), (1, .int (x1)), (2, .int (x2)), (3, .int (x3)), (4, .ref (o))] := hl
  refine lv_aload hx hb dL_turn_0 (lv_at hl 4 rfl) ?_
  refine lv_iconst (v := nI 0) hx hb dL_turn_2 (by decide) ?_
  refine lv_aload_n hx hb dL_turn_3 rfl (lv_at hl 0 rfl) ?_
  refine lv_iload_n hx hb dL_turn_4 rfl (lv_at hl 1 rfl) ?_
  refine lv_iload_n hx hb dL_turn_5 rfl (lv_at hl 2 rfl) ?_
  refine lv_iload_n hx hb dL_turn_6 rfl (lv_at hl 3 rfl) ?_
  refine zx_callX (As := [.int (x1), .int (x2), .int (x3)]) (rest := [.int (nI 0), .ref (o)]) hx hb hml hts hown (hM A) zv_L_37 rfl rfl ⟨Nat.succ_le_succ hf, Nat.le_trans (Nat.add_le_add_left hlo _) (Nat.le_of_ble_eq_true rfl)⟩ (zx_preV (q := (RX0, TX0, 8)) (ci := 0) (q0 := 0) hP hK hE.1 hS rfl rfl) rfl hl.1 rfl (Nat.le_of_ble_eq_true rfl) dL_turn_7 ⟨Nat.le_of_ble_eq_true rfl, Nat.le_of_ble_eq_true rfl⟩ (fun ce q9 H9 hz9 hk9 hce hcv hcl => ?_)
  refine vx_catch (name := zx_NS) hown [] ⟨0, 12, 15, 19⟩ [⟨0, 12, 19, 13⟩] (htb.trans rfl) (fun z h => nomatch h) rfl (by decide) (hts _ (List.mem_cons_of_mem _ zk_L_19)) (va_Nw.use rfl hE.2.2.1.2.1) hce hcv hcl ?_
  obtain ⟨hP1, hS1⟩ := zl_more hP hS hz9 hk9
  clear hP hS
  have hP := hP1
  have hS := hS1
  refine lv_astore (lv' := [(5, .ref (q9)), (0, .ref (ad 0)), (1, .int (x1)), (2, .int (x2)), (3, .int (x3)), (4, .ref (o))]) hx hb dL_turn_15 hl (by decide) rfl (fun ls hl => ?_)
  refine lv_iconst (v := nI 1) hx hb dL_turn_17 (by decide) ?_
  exact W.iret (v := nI 1) hx hb hr (fun t9 h9 hW9 => ⟨⟨nI 1, (S, P, V, g), rfl, ⟨rfl, fun h8 => absurd h8 (by decide), rfl, rfl⟩, by rw [h9]; exact hP, va_K.moved hW9.alike hK, hD⟩, hS.F h9⟩) hS.2.2 dL_turn_18
set_option maxHeartbeats 4000000 in
set_option maxRecDepth 100000 in
theorem cl_turn_IA (l : Launch) (dC : Nat → ClassId) (dI : Nat → Nat → Nat) (cA cR cL : ClassId) (tr : List (ClassId × FieldType)) (wr : va_W) (ad : Nat → Nat) (o k : Nat) (S : Nat → Int32) (P : Nat → Nat) (V : Nat → Nat → Nat) (g : Nat → Int64) (sz : Nat) (x1 x2 x3 : Int32) (f lo : Nat) (hf : f ≤ 8) (hlo : lo ≤ 170) (hM : ∀ A : Nat → Prop, vx_Met l yX0_turn wzX0_turn (zx_rm f lo) (zx_pre (dC, dI) zz_cl ((cA, .int) :: (cR, .array .int) :: (cL, .long) :: tr) (zc_w cA cR ad k (zk_n k) (zk_t k) (zk_z k) (zk_i k) S P V ++ ((o, .inl (cL, 1, .inr (.inl g))) :: wr)) A [.ref (ad 0), .int x1, .int x2, .int x3]) zx_no (zx_K zx_IA) 1 6 (fun _ => False)) (a : Int64) : zl_C l dC dI cA cR cL tr wr ad o k (S, P, V, g) sz yL_turn wqL_turn [.ref (ad 0), .int (x1), .int (x2), .int (x3), .ref (o)] 2 (a) k (fun P1 V1 => P1 = P ∧ V1 = V) := by
  unfold zl_C
  refine va_MetW (cc := cL_turn) (maxL := 6) (ret := (some .int)) (hh := zhL_turn) (by decide) rfl ?_
  intro p e s m args below meth c s₁ B hml hv
  obtain ⟨rfl, hsz, hP, hK, hD0, hE⟩ := hv
  have hx := B.exec
  have hb := B.bytes
  have hr := B.returns
  have hts := atoms_spec (ws := wqL_turn) B.pre
  have hown : s.vm.findClass RL = some m.cls := findClass_of_methodNamed B.named
  have hlocks := B.notSynchronized
  have htb := vx_table (x := yL_turn) B (hts _ List.mem_cons_self)
  subst hsz
  have hD := hD0.self (sz := s.heap.size)
  generalize hAe : va_A (zl_w cA cR cL wr ad o k (S, P, V, g)) s.heap.size = A at hD hE ⊢
  have hA : ∀ q : Nat, s.heap.size ≤ q → A q := fun q h => by rw [← hAe]; exact Or.inr h
  have hS : va_S A s.heap s.heap [] := va_S.rf
  replace hP : va_P (dC, dI) zz_cl (zc_w cA cR ad k (zk_n k) (zk_t k) (zk_z k) (zk_i k) S P V ++ ((o, .inl (cL, 1, .inr (.inl g))) :: wr)) s.heap := hP
  replace hD : va_D A (zc_w cA cR ad k (zk_n k) (zk_t k) (zk_z k) (zk_i k) S P V ++ ((o, .inl (cL, 1, .inr (.inl g))) :: wr)) := hD
  have hl := lv_entry ([.ref (ad 0), .int (x1), .int (x2), .int (x3), .ref (o)]) (n := 6) (Nat.le_of_ble_eq_true rfl)
  rw [lg_entry_eq]
  generalize (lg_sl ([.ref (ad 0), .int (x1), .int (x2), .int (x3), .ref (o)]) ++ List.replicate (6 - (lg_sl ([.ref (ad 0), .int (x1), .int (x2), .int (x3), .ref (o)])).length) Slot.unset).toArray = ls at hl ⊢
  have hl : lv_has ls 6 [(0, .ref (ad 0)), (1, .int (x1)), (2, .int (x2)), (3, .int (x3)), (4, .ref (o))] := hl
  refine lv_aload hx hb dL_turn_0 (lv_at hl 4 rfl) ?_
  refine lv_iconst (v := nI 0) hx hb dL_turn_2 (by decide) ?_
  refine lv_aload_n hx hb dL_turn_3 rfl (lv_at hl 0 rfl) ?_
  refine lv_iload_n hx hb dL_turn_4 rfl (lv_at hl 1 rfl) ?_
  refine lv_iload_n hx hb dL_turn_5 rfl (lv_at hl 2 rfl) ?_
  refine lv_iload_n hx hb dL_turn_6 rfl (lv_at hl 3 rfl) ?_
  refine zx_callX (As := [.int (x1), .int (x2), .int (x3)]) (rest := [.int (nI 0), .ref (o)]) hx hb hml hts hown (hM A) zv_L_37 rfl rfl ⟨Nat.succ_le_succ hf, Nat.le_trans (Nat.add_le_add_left hlo _) (Nat.le_of_ble_eq_true rfl)⟩ (zx_preV (q := (RX0, TX0, 8)) (ci := 0) (q0 := 0) hP hK hE.1 hS rfl rfl) rfl hl.1 rfl (Nat.le_of_ble_eq_true rfl) dL_turn_7 ⟨Nat.le_of_ble_eq_true rfl, Nat.le_of_ble_eq_true rfl⟩ (fun ce q9 H9 hz9 hk9 hce hcv hcl => ?_)
  refine vx_catch (name := zx_IA) hown [⟨0, 12, 15, 19⟩] ⟨0, 12, 19, 13⟩ [] (htb.trans rfl) (fun z h => by
    rcases List.mem_cons.mp h with rfl | h
    · exact Or.inr ⟨by decide, zx_NS, hts _ (List.mem_cons_of_mem _ zk_L_19), hE.2.2.2.1⟩
    cases h) rfl (by decide) (hts _ (List.mem_cons_of_mem _ zk_L_13)) (va_Nw.use rfl hE.2.2.1.1) hce hcv hcl ?_
  obtain ⟨hP1, hS1⟩ := zl_more hP hS hz9 hk9
  clear hP hS
  have hP := hP1
  have hS := hS1
  refine lv_astore (lv' := [(5, .ref (q9)), (0, .ref (ad 0)), (1, .int (x1)), (2, .int (x2)), (3, .int (x3)), (4, .ref (o))]) hx hb dL_turn_19 hl (by decide) rfl (fun ls hl => ?_)
  refine lv_iconst (v := nI 2) hx hb dL_turn_21 (by decide) ?_
  exact W.iret (v := nI 2) hx hb hr (fun t9 h9 hW9 => ⟨⟨nI 2, (S, P, V, g), rfl, ⟨rfl, fun h8 => absurd h8 (by decide), rfl, rfl⟩, by rw [h9]; exact hP, va_K.moved hW9.alike hK, hD⟩, hS.F h9⟩) hS.2.2 dL_turn_22
set_option maxHeartbeats 4000000 in
set_option maxRecDepth 100000 in
theorem cl_power_NS (l : Launch) (dC : Nat → ClassId) (dI : Nat → Nat → Nat) (cA cR cL : ClassId) (tr : List (ClassId × FieldType)) (wr : va_W) (ad : Nat → Nat) (o k : Nat) (S : Nat → Int32) (P : Nat → Nat) (V : Nat → Nat → Nat) (g : Nat → Int64) (sz : Nat) (x1 x2 x3 : Int32) (f lo : Nat) (hf : f ≤ 8) (hlo : lo ≤ 170) (hM : ∀ A : Nat → Prop, vx_Met l yX0_power wzX0_power (zx_rm f lo) (zx_pre (dC, dI) zz_cl ((cA, .int) :: (cR, .array .int) :: (cL, .long) :: tr) (zc_w cA cR ad k (zk_n k) (zk_t k) (zk_z k) (zk_i k) S P V ++ ((o, .inl (cL, 1, .inr (.inl g))) :: wr)) A [.ref (ad 0), .int x1, .int x2, .int x3]) zx_no (zx_K zx_NS) 1 6 (fun _ => False)) (a : Int64) : zl_C l dC dI cA cR cL tr wr ad o k (S, P, V, g) sz yL_power wqL_power [.ref (ad 0), .int (x1), .int (x2), .int (x3), .ref (o)] 1 (a) k (fun P1 V1 => P1 = P ∧ V1 = V) := by
  unfold zl_C
  refine va_MetW (cc := cL_power) (maxL := 6) (ret := (some .int)) (hh := zhL_power) (by decide) rfl ?_
  intro p e s m args below meth c s₁ B hml hv
  obtain ⟨rfl, hsz, hP, hK, hD0, hE⟩ := hv
  have hx := B.exec
  have hb := B.bytes
  have hr := B.returns
  have hts := atoms_spec (ws := wqL_power) B.pre
  have hown : s.vm.findClass RL = some m.cls := findClass_of_methodNamed B.named
  have hlocks := B.notSynchronized
  have htb := vx_table (x := yL_power) B (hts _ List.mem_cons_self)
  subst hsz
  have hD := hD0.self (sz := s.heap.size)
  generalize hAe : va_A (zl_w cA cR cL wr ad o k (S, P, V, g)) s.heap.size = A at hD hE ⊢
  have hA : ∀ q : Nat, s.heap.size ≤ q → A q := fun q h => by rw [← hAe]; exact Or.inr h
  have hS : va_S A s.heap s.heap [] := va_S.rf
  replace hP : va_P (dC, dI) zz_cl (zc_w cA cR ad k (zk_n k) (zk_t k) (zk_z k) (zk_i k) S P V ++ ((o, .inl (cL, 1, .inr (.inl g))) :: wr)) s.heap := hP
  replace hD : va_D A (zc_w cA cR ad k (zk_n k) (zk_t k) (zk_z k) (zk_i k) S P V ++ ((o, .inl (cL, 1, .inr (.inl g))) :: wr)) := hD
  have hl := lv_entry ([.ref (ad 0), .int (x1), .int (x2), .int (x3), .ref (o)]) (n := 6) (Nat.le_of_ble_eq_true rfl)
  rw [lg_entry_eq]
  generalize (lg_sl ([.ref (ad 0), .int (x1), .int (x2), .int (x3), .ref (o)]) ++ List.replicate (6 - (lg_sl ([.ref (ad 0), .int (x1), .int (x2), .int (x3), .ref (o)])).length) Slot.unset).toArray = ls at hl ⊢
  have hl : lv_has ls 6 [(0, .ref (ad 0)), (1, .int (x1)), (2, .int (x2)), (3, .int (x3)), (4, .ref (o))] := hl
  refine lv_aload hx hb dL_power_0 (lv_at hl 4 rfl) ?_
  refine lv_iconst (v := nI 0) hx hb dL_power_2 (by decide) ?_
  refine lv_aload_n hx hb dL_power_3 rfl (lv_at hl 0 rfl) ?_
  refine lv_iload_n hx hb dL_power_4 rfl (lv_at hl 1 rfl) ?_
  refine lv_iload_n hx hb dL_power_5 rfl (lv_at hl 2 rfl) ?_
  refine lv_iload_n hx hb dL_power_6 rfl (lv_at hl 3 rfl) ?_
  refine zx_callX (As := [.int (x1), .int (x2), .int (x3)]) (rest := [.int (nI 0), .ref (o)]) hx hb hml hts hown (hM A) zv_L_40 rfl rfl ⟨Nat.succ_le_succ hf, Nat.le_trans (Nat.add_le_add_left hlo _) (Nat.le_of_ble_eq_true rfl)⟩ (zx_preV (q := (RX0, TX0, 8)) (ci := 0) (q0 := 0) hP hK hE.1 hS rfl rfl) rfl hl.1 rfl (Nat.le_of_ble_eq_true rfl) dL_power_7 ⟨Nat.le_of_ble_eq_true rfl, Nat.le_of_ble_eq_true rfl⟩ (fun ce q9 H9 hz9 hk9 hce hcv hcl => ?_)
  refine vx_catch (name := zx_NS) hown [] ⟨0, 12, 15, 19⟩ [⟨0, 12, 19, 35⟩] (htb.trans rfl) (fun z h => nomatch h) rfl (by decide) (hts _ (List.mem_cons_of_mem _ zk_L_19)) (va_Nw.use rfl hE.2.2.1.2.1) hce hcv hcl ?_
  obtain ⟨hP1, hS1⟩ := zl_more hP hS hz9 hk9
  clear hP hS
  have hP := hP1
  have hS := hS1
  refine lv_astore (lv' := [(5, .ref (q9)), (0, .ref (ad 0)), (1, .int (x1)), (2, .int (x2)), (3, .int (x3)), (4, .ref (o))]) hx hb dL_power_15 hl (by decide) rfl (fun ls hl => ?_)
  refine lv_iconst (v := nI 1) hx hb dL_power_17 (by decide) ?_
  exact W.iret (v := nI 1) hx hb hr (fun t9 h9 hW9 => ⟨⟨nI 1, (S, P, V, g), rfl, ⟨rfl, fun h8 => absurd h8 (by decide), rfl, rfl⟩, by rw [h9]; exact hP, va_K.moved hW9.alike hK, hD⟩, hS.F h9⟩) hS.2.2 dL_power_18
set_option maxHeartbeats 4000000 in
set_option maxRecDepth 100000 in
theorem cl_power_IS (l : Launch) (dC : Nat → ClassId) (dI : Nat → Nat → Nat) (cA cR cL : ClassId) (tr : List (ClassId × FieldType)) (wr : va_W) (ad : Nat → Nat) (o k : Nat) (S : Nat → Int32) (P : Nat → Nat) (V : Nat → Nat → Nat) (g : Nat → Int64) (sz : Nat) (x1 x2 x3 : Int32) (f lo : Nat) (hf : f ≤ 8) (hlo : lo ≤ 170) (hM : ∀ A : Nat → Prop, vx_Met l yX0_power wzX0_power (zx_rm f lo) (zx_pre (dC, dI) zz_cl ((cA, .int) :: (cR, .array .int) :: (cL, .long) :: tr) (zc_w cA cR ad k (zk_n k) (zk_t k) (zk_z k) (zk_i k) S P V ++ ((o, .inl (cL, 1, .inr (.inl g))) :: wr)) A [.ref (ad 0), .int x1, .int x2, .int x3]) zx_no (zx_K zx_IS) 1 6 (fun _ => False)) (a : Int64) : zl_C l dC dI cA cR cL tr wr ad o k (S, P, V, g) sz yL_power wqL_power [.ref (ad 0), .int (x1), .int (x2), .int (x3), .ref (o)] 2 (a) k (fun P1 V1 => P1 = P ∧ V1 = V) := by
  unfold zl_C
  refine va_MetW (cc := cL_power) (maxL := 6) (ret := (some .int)) (hh := zhL_power) (by decide) rfl ?_
  intro p e s m args below meth c s₁ B hml hv
  obtain ⟨rfl, hsz, hP, hK, hD0, hE⟩ := hv
  have hx := B.exec
  have hb := B.bytes
  have hr := B.returns
  have hts := atoms_spec (ws := wqL_power) B.pre
  have hown : s.vm.findClass RL = some m.cls := findClass_of_methodNamed B.named
  have hlocks := B.notSynchronized
  have htb := vx_table (x := yL_power) B (hts _ List.mem_cons_self)
  subst hsz
  have hD := hD0.self (sz := s.heap.size)
  generalize hAe : va_A (zl_w cA cR cL wr ad o k (S, P, V, g)) s.heap.size = A at hD hE ⊢
  have hA : ∀ q : Nat, s.heap.size ≤ q → A q := fun q h => by rw [← hAe]; exact Or.inr h
  have hS : va_S A s.heap s.heap [] := va_S.rf
  replace hP : va_P (dC, dI) zz_cl (zc_w cA cR ad k (zk_n k) (zk_t k) (zk_z k) (zk_i k) S P V ++ ((o, .inl (cL, 1, .inr (.inl g))) :: wr)) s.heap := hP
  replace hD : va_D A (zc_w cA cR ad k (zk_n k) (zk_t k) (zk_z k) (zk_i k) S P V ++ ((o, .inl (cL, 1, .inr (.inl g))) :: wr)) := hD
  have hl := lv_entry ([.ref (ad 0), .int (x1), .int (x2), .int (x3), .ref (o)]) (n := 6) (Nat.le_of_ble_eq_true rfl)
  rw [lg_entry_eq]
  generalize (lg_sl ([.ref (ad 0), .int (x1), .int (x2), .int (x3), .ref (o)]) ++ List.replicate (6 - (lg_sl ([.ref (ad 0), .int (x1), .int (x2), .int (x3), .ref (o)])).length) Slot.unset).toArray = ls at hl ⊢
  have hl : lv_has ls 6 [(0, .ref (ad 0)), (1, .int (x1)), (2, .int (x2)), (3, .int (x3)), (4, .ref (o))] := hl
  refine lv_aload hx hb dL_power_0 (lv_at hl 4 rfl) ?_
  refine lv_iconst (v := nI 0) hx hb dL_power_2 (by decide) ?_
  refine lv_aload_n hx hb dL_power_3 rfl (lv_at hl 0 rfl) ?_
  refine lv_iload_n hx hb dL_power_4 rfl (lv_at hl 1 rfl) ?_
  refine lv_iload_n hx hb dL_power_5 rfl (lv_at hl 2 rfl) ?_
  refine lv_iload_n hx hb dL_power_6 rfl (lv_at hl 3 rfl) ?_
  refine zx_callX (As := [.int (x1), .int (x2), .int (x3)]) (rest := [.int (nI 0), .ref (o)]) hx hb hml hts hown (hM A) zv_L_40 rfl rfl ⟨Nat.succ_le_succ hf, Nat.le_trans (Nat.add_le_add_left hlo _) (Nat.le_of_ble_eq_true rfl)⟩ (zx_preV (q := (RX0, TX0, 8)) (ci := 0) (q0 := 0) hP hK hE.1 hS rfl rfl) rfl hl.1 rfl (Nat.le_of_ble_eq_true rfl) dL_power_7 ⟨Nat.le_of_ble_eq_true rfl, Nat.le_of_ble_eq_true rfl⟩ (fun ce q9 H9 hz9 hk9 hce hcv hcl => ?_)
  refine vx_catch (name := zx_IS) hown [⟨0, 12, 15, 19⟩] ⟨0, 12, 19, 35⟩ [] (htb.trans rfl) (fun z h => by
    rcases List.mem_cons.mp h with rfl | h
    · exact Or.inr ⟨by decide, zx_NS, hts _ (List.mem_cons_of_mem _ zk_L_19), hE.2.2.2.2.1⟩
    cases h) rfl (by decide) (hts _ (List.mem_cons_of_mem _ zk_L_35)) (va_Nw.use rfl hE.2.2.1.2.2) hce hcv hcl ?_
  obtain ⟨hP1, hS1⟩ := zl_more hP hS hz9 hk9
  clear hP hS
  have hP := hP1
  have hS := hS1
  refine lv_astore (lv' := [(5, .ref (q9)), (0, .ref (ad 0)), (1, .int (x1)), (2, .int (x2)), (3, .int (x3)), (4, .ref (o))]) hx hb dL_power_19 hl (by decide) rfl (fun ls hl => ?_)
  refine lv_iconst (v := nI 2) hx hb dL_power_21 (by decide) ?_
  exact W.iret (v := nI 2) hx hb hr (fun t9 h9 hW9 => ⟨⟨nI 2, (S, P, V, g), rfl, ⟨rfl, fun h8 => absurd h8 (by decide), rfl, rfl⟩, by rw [h9]; exact hP, va_K.moved hW9.alike hK, hD⟩, hS.F h9⟩) hS.2.2 dL_power_22
set_option maxHeartbeats 4000000 in
set_option maxRecDepth 100000 in
theorem cl_root_NS (l : Launch) (dC : Nat → ClassId) (dI : Nat → Nat → Nat) (cA cR cL : ClassId) (tr : List (ClassId × FieldType)) (wr : va_W) (ad : Nat → Nat) (o k : Nat) (S : Nat → Int32) (P : Nat → Nat) (V : Nat → Nat → Nat) (g : Nat → Int64) (sz : Nat) (x1 x2 : Int32) (f lo : Nat) (hf : f ≤ 8) (hlo : lo ≤ 170) (hM : ∀ A : Nat → Prop, vx_Met l yX0_root wzX0_root (zx_rm f lo) (zx_pre (dC, dI) zz_cl ((cA, .int) :: (cR, .array .int) :: (cL, .long) :: tr) (zc_w cA cR ad k (zk_n k) (zk_t k) (zk_z k) (zk_i k) S P V ++ ((o, .inl (cL, 1, .inr (.inl g))) :: wr)) A [.ref (ad 0), .int x1, .int x2]) zx_no (zx_K zx_NS) 1 6 (fun _ => False)) (a : Int64) : zl_C l dC dI cA cR cL tr wr ad o k (S, P, V, g) sz yL_root wqL_root [.ref (ad 0), .int (x1), .int (x2), .ref (o)] 1 (a) k (fun P1 V1 => P1 = P ∧ V1 = V) := by
  unfold zl_C
  refine va_MetW (cc := cL_root) (maxL := 5) (ret := (some .int)) (hh := zhL_root) (by decide) rfl ?_
  intro p e s m args below meth c s₁ B hml hv
  obtain ⟨rfl, hsz, hP, hK, hD0, hE⟩ := hv
  have hx := B.exec
  have hb := B.bytes
  have hr := B.returns
  have hts := atoms_spec (ws := wqL_root) B.pre
  have hown : s.vm.findClass RL = some m.cls := findClass_of_methodNamed B.named
  have hlocks := B.notSynchronized
  have htb := vx_table (x := yL_root) B (hts _ List.mem_cons_self)
  subst hsz
  have hD := hD0.self (sz := s.heap.size)
  generalize hAe : va_A (zl_w cA cR cL wr ad o k (S, P, V, g)) s.heap.size = A at hD hE ⊢
  have hA : ∀ q : Nat, s.heap.size ≤ q → A q := fun q h => by rw [← hAe]; exact Or.inr h
  have hS : va_S A s.heap s.heap [] := va_S.rf
  replace hP : va_P (dC, dI) zz_cl (zc_w cA cR ad k (zk_n k) (zk_t k) (zk_z k) (zk_i k) S P V ++ ((o, .inl (cL, 1, .inr (.inl g))) :: wr)) s.heap := hP
  replace hD : va_D A (zc_w cA cR ad k (zk_n k) (zk_t k) (zk_z k) (zk_i k) S P V ++ ((o, .inl (cL, 1, .inr (.inl g))) :: wr)) := hD
  have hl := lv_entry ([.ref (ad 0), .int (x1), .int (x2), .ref (o)]) (n := 5) (Nat.le_of_ble_eq_true rfl)
  rw [lg_entry_eq]
  generalize (lg_sl ([.ref (ad 0), .int (x1), .int (x2), .ref (o)]) ++ List.replicate (5 - (lg_sl ([.ref (ad 0), .int (x1), .int (x2), .ref (o)])).length) Slot.unset).toArray = ls at hl ⊢
  have hl : lv_has ls 5 [(0, .ref (ad 0)), (1, .int (x1)), (2, .int (x2)), (3, .ref (o))] := hl
  refine lv_aload_n hx hb dL_root_0 rfl (lv_at hl 3 rfl) ?_
  refine lv_iconst (v := nI 0) hx hb dL_root_1 (by decide) ?_
  refine lv_aload_n hx hb dL_root_2 rfl (lv_at hl 0 rfl) ?_
  refine lv_iload_n hx hb dL_root_3 rfl (lv_at hl 1 rfl) ?_
  refine lv_iload_n hx hb dL_root_4 rfl (lv_at hl 2 rfl) ?_
  refine zx_callX (As := [.int (x1), .int (x2)]) (rest := [.int (nI 0), .ref (o)]) hx hb hml hts hown (hM A) zv_L_43 rfl rfl ⟨Nat.succ_le_succ hf, Nat.le_trans (Nat.add_le_add_left hlo _) (Nat.le_of_ble_eq_true rfl)⟩ (zx_preV (q := (RX0, TX0, 8)) (ci := 0) (q0 := 0) hP hK hE.1 hS rfl rfl) rfl hl.1 rfl (Nat.le_of_ble_eq_true rfl) dL_root_5 ⟨Nat.le_of_ble_eq_true rfl, Nat.le_of_ble_eq_true rfl⟩ (fun ce q9 H9 hz9 hk9 hce hcv hcl => ?_)
  refine vx_catch (name := zx_NS) hown [] ⟨0, 9, 12, 19⟩ [⟨0, 9, 16, 35⟩] (htb.trans rfl) (fun z h => nomatch h) rfl (by decide) (hts _ (List.mem_cons_of_mem _ zk_L_19)) (va_Nw.use rfl hE.2.2.1.2.1) hce hcv hcl ?_
  obtain ⟨hP1, hS1⟩ := zl_more hP hS hz9 hk9
  clear hP hS
  have hP := hP1
  have hS := hS1
  refine lv_astore (lv' := [(4, .ref (q9)), (0, .ref (ad 0)), (1, .int (x1)), (2, .int (x2)), (3, .ref (o))]) hx hb dL_root_12 hl (by decide) rfl (fun ls hl => ?_)
  refine lv_iconst (v := nI 1) hx hb dL_root_14 (by decide) ?_
  exact W.iret (v := nI 1) hx hb hr (fun t9 h9 hW9 => ⟨⟨nI 1, (S, P, V, g), rfl, ⟨rfl, fun h8 => absurd h8 (by decide), rfl, rfl⟩, by rw [h9]; exact hP, va_K.moved hW9.alike hK, hD⟩, hS.F h9⟩) hS.2.2 dL_root_15
set_option maxHeartbeats 4000000 in
set_option maxRecDepth 100000 in
theorem cl_order_NS (l : Launch) (dC : Nat → ClassId) (dI : Nat → Nat → Nat) (cA cR cL : ClassId) (tr : List (ClassId × FieldType)) (wr : va_W) (ad : Nat → Nat) (o k : Nat) (S : Nat → Int32) (P : Nat → Nat) (V : Nat → Nat → Nat) (g : Nat → Int64) (sz : Nat) (x1 : Int32) (f lo : Nat) (hf : f ≤ 8) (hlo : lo ≤ 170) (hM : ∀ A : Nat → Prop, vx_Met l yX0_order wzX0_order (zx_rm f lo) (zx_pre (dC, dI) zz_cl ((cA, .int) :: (cR, .array .int) :: (cL, .long) :: tr) (zc_w cA cR ad k (zk_n k) (zk_t k) (zk_z k) (zk_i k) S P V ++ ((o, .inl (cL, 1, .inr (.inl g))) :: wr)) A [.ref (ad 0), .int x1]) zx_no (zx_K zx_NS) 1 6 (fun _ => False)) (a : Int64) : zl_C l dC dI cA cR cL tr wr ad o k (S, P, V, g) sz yL_order wqL_order [.ref (ad 0), .int (x1), .ref (o)] 1 (a) k (fun P1 V1 => P1 = P ∧ V1 = V) := by
  unfold zl_C
  refine va_MetW (cc := cL_order) (maxL := 4) (ret := (some .int)) (hh := zhL_order) (by decide) rfl ?_
  intro p e s m args below meth c s₁ B hml hv
  obtain ⟨rfl, hsz, hP, hK, hD0, hE⟩ := hv
  have hx := B.exec
  have hb := B.bytes
  have hr := B.returns
  have hts := atoms_spec (ws := wqL_order) B.pre
  have hown : s.vm.findClass RL = some m.cls := findClass_of_methodNamed B.named
  have hlocks := B.notSynchronized
  have htb := vx_table (x := yL_order) B (hts _ List.mem_cons_self)
  subst hsz
  have hD := hD0.self (sz := s.heap.size)
  generalize hAe : va_A (zl_w cA cR cL wr ad o k (S, P, V, g)) s.heap.size = A at hD hE ⊢
  have hA : ∀ q : Nat, s.heap.size ≤ q → A q := fun q h => by rw [← hAe]; exact Or.inr h
  have hS : va_S A s.heap s.heap [] := va_S.rf
  replace hP : va_P (dC, dI) zz_cl (zc_w cA cR ad k (zk_n k) (zk_t k) (zk_z k) (zk_i k) S P V ++ ((o, .inl (cL, 1, .inr (.inl g))) :: wr)) s.heap := hP
  replace hD : va_D A (zc_w cA cR ad k (zk_n k) (zk_t k) (zk_z k) (zk_i k) S P V ++ ((o, .inl (cL, 1, .inr (.inl g))) :: wr)) := hD
  have hl := lv_entry ([.ref (ad 0), .int (x1), .ref (o)]) (n := 4) (Nat.le_of_ble_eq_true rfl)
  rw [lg_entry_eq]
  generalize (lg_sl ([.ref (ad 0), .int (x1), .ref (o)]) ++ List.replicate (4 - (lg_sl ([.ref (ad 0), .int (x1), .ref (o)])).length) Slot.unset).toArray = ls at hl ⊢
  have hl : lv_has ls 4 [(0, .ref (ad 0)), (1, .int (x1)), (2, .ref (o))] := hl
  refine lv_aload_n hx hb dL_order_0 rfl (lv_at hl 2 rfl) ?_
  refine lv_iconst (v := nI 0) hx hb dL_order_1 (by decide) ?_
  refine lv_aload_n hx hb dL_order_2 rfl (lv_at hl 0 rfl) ?_
  refine lv_iload_n hx hb dL_order_3 rfl (lv_at hl 1 rfl) ?_
  refine zx_callX (As := [.int (x1)]) (rest := [.int (nI 0), .ref (o)]) hx hb hml hts hown (hM A) zv_L_47 rfl rfl ⟨Nat.succ_le_succ hf, Nat.le_trans (Nat.add_le_add_left hlo _) (Nat.le_of_ble_eq_true rfl)⟩ (zx_preV (q := (RX0, TX0, 8)) (ci := 0) (q0 := 0) hP hK hE.1 hS rfl rfl) rfl hl.1 rfl (Nat.le_of_ble_eq_true rfl) dL_order_4 ⟨Nat.le_of_ble_eq_true rfl, Nat.le_of_ble_eq_true rfl⟩ (fun ce q9 H9 hz9 hk9 hce hcv hcl => ?_)
  refine vx_catch (name := zx_NS) hown [] ⟨0, 9, 12, 19⟩ [] (htb.trans rfl) (fun z h => nomatch h) rfl (by decide) (hts _ (List.mem_cons_of_mem _ zk_L_19)) (va_Nw.use rfl hE.2.2.1.2.1) hce hcv hcl ?_
  obtain ⟨hP1, hS1⟩ := zl_more hP hS hz9 hk9
  clear hP hS
  have hP := hP1
  have hS := hS1
  refine lv_astore_n (lv' := [(3, .ref (q9)), (0, .ref (ad 0)), (1, .int (x1)), (2, .ref (o))]) hx hb dL_order_12 rfl hl (by decide) rfl (fun ls hl => ?_)
  refine lv_iconst (v := nI 1) hx hb dL_order_13 (by decide) ?_
  exact W.iret (v := nI 1) hx hb hr (fun t9 h9 hW9 => ⟨⟨nI 1, (S, P, V, g), rfl, ⟨rfl, fun h8 => absurd h8 (by decide), rfl, rfl⟩, by rw [h9]; exact hP, va_K.moved hW9.alike hK, hD⟩, hS.F h9⟩) hS.2.2 dL_order_14
set_option maxHeartbeats 4000000 in
set_option maxRecDepth 100000 in
theorem cl_about_NS (l : Launch) (dC : Nat → ClassId) (dI : Nat → Nat → Nat) (cA cR cL : ClassId) (tr : List (ClassId × FieldType)) (wr : va_W) (ad : Nat → Nat) (o k : Nat) (S : Nat → Int32) (P : Nat → Nat) (V : Nat → Nat → Nat) (g : Nat → Int64) (sz : Nat) (x1 x2 : Int32) (f lo : Nat) (hf : f ≤ 8) (hlo : lo ≤ 170) (hM : ∀ A : Nat → Prop, vx_Met l yX0_about wzX0_about (zx_rm f lo) (zx_pre (dC, dI) zz_cl ((cA, .int) :: (cR, .array .int) :: (cL, .long) :: tr) (zc_w cA cR ad k (zk_n k) (zk_t k) (zk_z k) (zk_i k) S P V ++ ((o, .inl (cL, 1, .inr (.inl g))) :: wr)) A [.ref (ad 0), .int x1, .int x2]) zx_no (zx_K zx_NS) 1 6 (fun _ => False)) (a : Int64) : zl_C l dC dI cA cR cL tr wr ad o k (S, P, V, g) sz yL_about wqL_about [.ref (ad 0), .int (x1), .int (x2), .ref (o)] 1 (a) k (fun P1 V1 => P1 = P ∧ V1 = V) := by
  unfold zl_C
  refine va_MetW (cc := cL_about) (maxL := 5) (ret := (some .int)) (hh := zhL_about) (by decide) rfl ?_
  intro p e s m args below meth c s₁ B hml hv
  obtain ⟨rfl, hsz, hP, hK, hD0, hE⟩ := hv
  have hx := B.exec
  have hb := B.bytes
  have hr := B.returns
  have hts := atoms_spec (ws := wqL_about) B.pre
  have hown : s.vm.findClass RL = some m.cls := findClass_of_methodNamed B.named
  have hlocks := B.notSynchronized
  have htb := vx_table (x := yL_about) B (hts _ List.mem_cons_self)
  subst hsz
  have hD := hD0.self (sz := s.heap.size)
  generalize hAe : va_A (zl_w cA cR cL wr ad o k (S, P, V, g)) s.heap.size = A at hD hE ⊢
  have hA : ∀ q : Nat, s.heap.size ≤ q → A q := fun q h => by rw [← hAe]; exact Or.inr h
  have hS : va_S A s.heap s.heap [] := va_S.rf
  replace hP : va_P (dC, dI) zz_cl (zc_w cA cR ad k (zk_n k) (zk_t k) (zk_z k) (zk_i k) S P V ++ ((o, .inl (cL, 1, .inr (.inl g))) :: wr)) s.heap := hP
  replace hD : va_D A (zc_w cA cR ad k (zk_n k) (zk_t k) (zk_z k) (zk_i k) S P V ++ ((o, .inl (cL, 1, .inr (.inl g))) :: wr)) := hD
  have hl := lv_entry ([.ref (ad 0), .int (x1), .int (x2), .ref (o)]) (n := 5) (Nat.le_of_ble_eq_true rfl)
  rw [lg_entry_eq]
  generalize (lg_sl ([.ref (ad 0), .int (x1), .int (x2), .ref (o)]) ++ List.replicate (5 - (lg_sl ([.ref (ad 0), .int (x1), .int (x2), .ref (o)])).length) Slot.unset).toArray = ls at hl ⊢
  have hl : lv_has ls 5 [(0, .ref (ad 0)), (1, .int (x1)), (2, .int (x2)), (3, .ref (o))] := hl
  refine lv_aload_n hx hb dL_about_0 rfl (lv_at hl 3 rfl) ?_
  refine lv_iconst (v := nI 0) hx hb dL_about_1 (by decide) ?_
  refine lv_aload_n hx hb dL_about_2 rfl (lv_at hl 0 rfl) ?_
  refine lv_iload_n hx hb dL_about_3 rfl (lv_at hl 1 rfl) ?_
  refine lv_iload_n hx hb dL_about_4 rfl (lv_at hl 2 rfl) ?_
  refine zx_callX (As := [.int (x1), .int (x2)]) (rest := [.int (nI 0), .ref (o)]) hx hb hml hts hown (hM A) zv_L_50 rfl rfl ⟨Nat.succ_le_succ hf, Nat.le_trans (Nat.add_le_add_left hlo _) (Nat.le_of_ble_eq_true rfl)⟩ (zx_preV (q := (RX0, TX0, 8)) (ci := 0) (q0 := 0) hP hK hE.1 hS rfl rfl) rfl hl.1 rfl (Nat.le_of_ble_eq_true rfl) dL_about_5 ⟨Nat.le_of_ble_eq_true rfl, Nat.le_of_ble_eq_true rfl⟩ (fun ce q9 H9 hz9 hk9 hce hcv hcl => ?_)
  refine vx_catch (name := zx_NS) hown [] ⟨0, 10, 13, 19⟩ [⟨0, 10, 17, 13⟩] (htb.trans rfl) (fun z h => nomatch h) rfl (by decide) (hts _ (List.mem_cons_of_mem _ zk_L_19)) (va_Nw.use rfl hE.2.2.1.2.1) hce hcv hcl ?_
  obtain ⟨hP1, hS1⟩ := zl_more hP hS hz9 hk9
  clear hP hS
  have hP := hP1
  have hS := hS1
  refine lv_astore (lv' := [(4, .ref (q9)), (0, .ref (ad 0)), (1, .int (x1)), (2, .int (x2)), (3, .ref (o))]) hx hb dL_about_13 hl (by decide) rfl (fun ls hl => ?_)
  refine lv_iconst (v := nI 1) hx hb dL_about_15 (by decide) ?_
  exact W.iret (v := nI 1) hx hb hr (fun t9 h9 hW9 => ⟨⟨nI 1, (S, P, V, g), rfl, ⟨rfl, fun h8 => absurd h8 (by decide), rfl, rfl⟩, by rw [h9]; exact hP, va_K.moved hW9.alike hK, hD⟩, hS.F h9⟩) hS.2.2 dL_about_16
set_option maxHeartbeats 4000000 in
set_option maxRecDepth 100000 in
theorem cl_about_IA (l : Launch) (dC : Nat → ClassId) (dI : Nat → Nat → Nat) (cA cR cL : ClassId) (tr : List (ClassId × FieldType)) (wr : va_W) (ad : Nat → Nat) (o k : Nat) (S : Nat → Int32) (P : Nat → Nat) (V : Nat → Nat → Nat) (g : Nat → Int64) (sz : Nat) (x1 x2 : Int32) (f lo : Nat) (hf : f ≤ 8) (hlo : lo ≤ 170) (hM : ∀ A : Nat → Prop, vx_Met l yX0_about wzX0_about (zx_rm f lo) (zx_pre (dC, dI) zz_cl ((cA, .int) :: (cR, .array .int) :: (cL, .long) :: tr) (zc_w cA cR ad k (zk_n k) (zk_t k) (zk_z k) (zk_i k) S P V ++ ((o, .inl (cL, 1, .inr (.inl g))) :: wr)) A [.ref (ad 0), .int x1, .int x2]) zx_no (zx_K zx_IA) 1 6 (fun _ => False)) (a : Int64) : zl_C l dC dI cA cR cL tr wr ad o k (S, P, V, g) sz yL_about wqL_about [.ref (ad 0), .int (x1), .int (x2), .ref (o)] 2 (a) k (fun P1 V1 => P1 = P ∧ V1 = V) := by
  unfold zl_C
  refine va_MetW (cc := cL_about) (maxL := 5) (ret := (some .int)) (hh := zhL_about) (by decide) rfl ?_
  intro p e s m args below meth c s₁ B hml hv
  obtain ⟨rfl, hsz, hP, hK, hD0, hE⟩ := hv
  have hx := B.exec
  have hb := B.bytes
  have hr := B.returns
  have hts := atoms_spec (ws := wqL_about) B.pre
  have hown : s.vm.findClass RL = some m.cls := findClass_of_methodNamed B.named
  have hlocks := B.notSynchronized
  have htb := vx_table (x := yL_about) B (hts _ List.mem_cons_self)
  subst hsz
  have hD := hD0.self (sz := s.heap.size)
  generalize hAe : va_A (zl_w cA cR cL wr ad o k (S, P, V, g)) s.heap.size = A at hD hE ⊢
  have hA : ∀ q : Nat, s.heap.size ≤ q → A q := fun q h => by rw [← hAe]; exact Or.inr h
  have hS : va_S A s.heap s.heap [] := va_S.rf
  replace hP : va_P (dC, dI) zz_cl (zc_w cA cR ad k (zk_n k) (zk_t k) (zk_z k) (zk_i k) S P V ++ ((o, .inl (cL, 1, .inr (.inl g))) :: wr)) s.heap := hP
  replace hD : va_D A (zc_w cA cR ad k (zk_n k) (zk_t k) (zk_z k) (zk_i k) S P V ++ ((o, .inl (cL, 1, .inr (.inl g))) :: wr)) := hD
  have hl := lv_entry ([.ref (ad 0), .int (x1), .int (x2), .ref (o)]) (n := 5) (Nat.le_of_ble_eq_true rfl)
  rw [lg_entry_eq]
  generalize (lg_sl ([.ref (ad 0), .int (x1), .int (x2), .ref (o)]) ++ List.replicate (5 - (lg_sl ([.ref (ad 0), .int (x1), .int (x2), .ref (o)])).length) Slot.unset).toArray = ls at hl ⊢
  have hl : lv_has ls 5 [(0, .ref (ad 0)), (1, .int (x1)), (2, .int (x2)), (3, .ref (o))] := hl
  refine lv_aload_n hx hb dL_about_0 rfl (lv_at hl 3 rfl) ?_
  refine lv_iconst (v := nI 0) hx hb dL_about_1 (by decide) ?_
  refine lv_aload_n hx hb dL_about_2 rfl (lv_at hl 0 rfl) ?_
  refine lv_iload_n hx hb dL_about_3 rfl (lv_at hl 1 rfl) ?_
  refine lv_iload_n hx hb dL_about_4 rfl (lv_at hl 2 rfl) ?_
  refine zx_callX (As := [.int (x1), .int (x2)]) (rest := [.int (nI 0), .ref (o)]) hx hb hml hts hown (hM A) zv_L_50 rfl rfl ⟨Nat.succ_le_succ hf, Nat.le_trans (Nat.add_le_add_left hlo _) (Nat.le_of_ble_eq_true rfl)⟩ (zx_preV (q := (RX0, TX0, 8)) (ci := 0) (q0 := 0) hP hK hE.1 hS rfl rfl) rfl hl.1 rfl (Nat.le_of_ble_eq_true rfl) dL_about_5 ⟨Nat.le_of_ble_eq_true rfl, Nat.le_of_ble_eq_true rfl⟩ (fun ce q9 H9 hz9 hk9 hce hcv hcl => ?_)
  refine vx_catch (name := zx_IA) hown [⟨0, 10, 13, 19⟩] ⟨0, 10, 17, 13⟩ [] (htb.trans rfl) (fun z h => by
    rcases List.mem_cons.mp h with rfl | h
    · exact Or.inr ⟨by decide, zx_NS, hts _ (List.mem_cons_of_mem _ zk_L_19), hE.2.2.2.1⟩
    cases h) rfl (by decide) (hts _ (List.mem_cons_of_mem _ zk_L_13)) (va_Nw.use rfl hE.2.2.1.1) hce hcv hcl ?_
  obtain ⟨hP1, hS1⟩ := zl_more hP hS hz9 hk9
  clear hP hS
  have hP := hP1
  have hS := hS1
  refine lv_astore (lv' := [(4, .ref (q9)), (0, .ref (ad 0)), (1, .int (x1)), (2, .int (x2)), (3, .ref (o))]) hx hb dL_about_17 hl (by decide) rfl (fun ls hl => ?_)
  refine lv_iconst (v := nI 2) hx hb dL_about_19 (by decide) ?_
  exact W.iret (v := nI 2) hx hb hr (fun t9 h9 hW9 => ⟨⟨nI 2, (S, P, V, g), rfl, ⟨rfl, fun h8 => absurd h8 (by decide), rfl, rfl⟩, by rw [h9]; exact hP, va_K.moved hW9.alike hK, hD⟩, hS.F h9⟩) hS.2.2 dL_about_20
set_option maxHeartbeats 4000000 in
set_option maxRecDepth 100000 in
theorem cl_same_NS (l : Launch) (dC : Nat → ClassId) (dI : Nat → Nat → Nat) (cA cR cL : ClassId) (tr : List (ClassId × FieldType)) (wr : va_W) (ad : Nat → Nat) (o k : Nat) (S : Nat → Int32) (P : Nat → Nat) (V : Nat → Nat → Nat) (g : Nat → Int64) (sz : Nat) (x1 x2 : Int32) (f lo : Nat) (hf : f ≤ 8) (hlo : lo ≤ 170) (hM : ∀ A : Nat → Prop, vx_Met l yX0_same wzX0_same (zx_rm f lo) (zx_pre (dC, dI) zz_cl ((cA, .int) :: (cR, .array .int) :: (cL, .long) :: tr) (zc_w cA cR ad k (zk_n k) (zk_t k) (zk_z k) (zk_i k) S P V ++ ((o, .inl (cL, 1, .inr (.inl g))) :: wr)) A [.ref (ad 0), .int x1, .int x2]) zx_no (zx_K zx_NS) 1 6 (fun _ => False)) (a : Int64) : zl_C l dC dI cA cR cL tr wr ad o k (S, P, V, g) sz yL_same wqL_same [.ref (ad 0), .int (x1), .int (x2), .ref (o)] 1 (a) k (fun P1 V1 => P1 = P ∧ V1 = V) := by
  unfold zl_C
  refine va_MetW (cc := cL_same) (maxL := 5) (ret := (some .int)) (hh := zhL_same) (by decide) rfl ?_
  intro p e s m args below meth c s₁ B hml hv
  obtain ⟨rfl, hsz, hP, hK, hD0, hE⟩ := hv
  have hx := B.exec
  have hb := B.bytes
  have hr := B.returns
  have hts := atoms_spec (ws := wqL_same) B.pre
  have hown : s.vm.findClass RL = some m.cls := findClass_of_methodNamed B.named
  have hlocks := B.notSynchronized
  have htb := vx_table (x := yL_same) B (hts _ List.mem_cons_self)
  subst hsz
  have hD := hD0.self (sz := s.heap.size)
  generalize hAe : va_A (zl_w cA cR cL wr ad o k (S, P, V, g)) s.heap.size = A at hD hE ⊢
  have hA : ∀ q : Nat, s.heap.size ≤ q → A q := fun q h => by rw [← hAe]; exact Or.inr h
  have hS : va_S A s.heap s.heap [] := va_S.rf
  replace hP : va_P (dC, dI) zz_cl (zc_w cA cR ad k (zk_n k) (zk_t k) (zk_z k) (zk_i k) S P V ++ ((o, .inl (cL, 1, .inr (.inl g))) :: wr)) s.heap := hP
  replace hD : va_D A (zc_w cA cR ad k (zk_n k) (zk_t k) (zk_z k) (zk_i k) S P V ++ ((o, .inl (cL, 1, .inr (.inl g))) :: wr)) := hD
  have hl := lv_entry ([.ref (ad 0), .int (x1), .int (x2), .ref (o)]) (n := 5) (Nat.le_of_ble_eq_true rfl)
  rw [lg_entry_eq]
  generalize (lg_sl ([.ref (ad 0), .int (x1), .int (x2), .ref (o)]) ++ List.replicate (5 - (lg_sl ([.ref (ad 0), .int (x1), .int (x2), .ref (o)])).length) Slot.unset).toArray = ls at hl ⊢
  have hl : lv_has ls 5 [(0, .ref (ad 0)), (1, .int (x1)), (2, .int (x2)), (3, .ref (o))] := hl
  refine lv_aload_n hx hb dL_same_0 rfl (lv_at hl 3 rfl) ?_
  refine lv_iconst (v := nI 0) hx hb dL_same_1 (by decide) ?_
  refine lv_aload_n hx hb dL_same_2 rfl (lv_at hl 0 rfl) ?_
  refine lv_iload_n hx hb dL_same_3 rfl (lv_at hl 1 rfl) ?_
  refine lv_iload_n hx hb dL_same_4 rfl (lv_at hl 2 rfl) ?_
  refine zx_callX (As := [.int (x1), .int (x2)]) (rest := [.int (nI 0), .ref (o)]) hx hb hml hts hown (hM A) zv_L_53 rfl rfl ⟨Nat.succ_le_succ hf, Nat.le_trans (Nat.add_le_add_left hlo _) (Nat.le_of_ble_eq_true rfl)⟩ (zx_preV (q := (RX0, TX0, 8)) (ci := 0) (q0 := 0) hP hK hE.1 hS rfl rfl) rfl hl.1 rfl (Nat.le_of_ble_eq_true rfl) dL_same_5 ⟨Nat.le_of_ble_eq_true rfl, Nat.le_of_ble_eq_true rfl⟩ (fun ce q9 H9 hz9 hk9 hce hcv hcl => ?_)
  refine vx_catch (name := zx_NS) hown [] ⟨0, 17, 20, 19⟩ [] (htb.trans rfl) (fun z h => nomatch h) rfl (by decide) (hts _ (List.mem_cons_of_mem _ zk_L_19)) (va_Nw.use rfl hE.2.2.1.2.1) hce hcv hcl ?_
  obtain ⟨hP1, hS1⟩ := zl_more hP hS hz9 hk9
  clear hP hS
  have hP := hP1
  have hS := hS1
  refine lv_astore (lv' := [(4, .ref (q9)), (0, .ref (ad 0)), (1, .int (x1)), (2, .int (x2)), (3, .ref (o))]) hx hb dL_same_20 hl (by decide) rfl (fun ls hl => ?_)
  refine lv_iconst (v := nI 1) hx hb dL_same_22 (by decide) ?_
  exact W.iret (v := nI 1) hx hb hr (fun t9 h9 hW9 => ⟨⟨nI 1, (S, P, V, g), rfl, ⟨rfl, fun h8 => absurd h8 (by decide), rfl, rfl⟩, by rw [h9]; exact hP, va_K.moved hW9.alike hK, hD⟩, hS.F h9⟩) hS.2.2 dL_same_23
set_option maxHeartbeats 4000000 in
set_option maxRecDepth 100000 in
theorem cl_divides_NS (l : Launch) (dC : Nat → ClassId) (dI : Nat → Nat → Nat) (cA cR cL : ClassId) (tr : List (ClassId × FieldType)) (wr : va_W) (ad : Nat → Nat) (o k : Nat) (S : Nat → Int32) (P : Nat → Nat) (V : Nat → Nat → Nat) (g : Nat → Int64) (sz : Nat) (x1 x2 : Int32) (f lo : Nat) (hf : f ≤ 8) (hlo : lo ≤ 170) (hM : ∀ A : Nat → Prop, vx_Met l yX0_divides wzX0_divides (zx_rm f lo) (zx_pre (dC, dI) zz_cl ((cA, .int) :: (cR, .array .int) :: (cL, .long) :: tr) (zc_w cA cR ad k (zk_n k) (zk_t k) (zk_z k) (zk_i k) S P V ++ ((o, .inl (cL, 1, .inr (.inl g))) :: wr)) A [.ref (ad 0), .int x1, .int x2]) zx_no (zx_K zx_NS) 1 6 (fun _ => False)) (a : Int64) : zl_C l dC dI cA cR cL tr wr ad o k (S, P, V, g) sz yL_divides wqL_divides [.ref (ad 0), .int (x1), .int (x2), .ref (o)] 1 (a) k (fun P1 V1 => P1 = P ∧ V1 = V) := by
  unfold zl_C
  refine va_MetW (cc := cL_divides) (maxL := 5) (ret := (some .int)) (hh := zhL_divides) (by decide) rfl ?_
  intro p e s m args below meth c s₁ B hml hv
  obtain ⟨rfl, hsz, hP, hK, hD0, hE⟩ := hv
  have hx := B.exec
  have hb := B.bytes
  have hr := B.returns
  have hts := atoms_spec (ws := wqL_divides) B.pre
  have hown : s.vm.findClass RL = some m.cls := findClass_of_methodNamed B.named
  have hlocks := B.notSynchronized
  have htb := vx_table (x := yL_divides) B (hts _ List.mem_cons_self)
  subst hsz
  have hD := hD0.self (sz := s.heap.size)
  generalize hAe : va_A (zl_w cA cR cL wr ad o k (S, P, V, g)) s.heap.size = A at hD hE ⊢
  have hA : ∀ q : Nat, s.heap.size ≤ q → A q := fun q h => by rw [← hAe]; exact Or.inr h
  have hS : va_S A s.heap s.heap [] := va_S.rf
  replace hP : va_P (dC, dI) zz_cl (zc_w cA cR ad k (zk_n k) (zk_t k) (zk_z k) (zk_i k) S P V ++ ((o, .inl (cL, 1, .inr (.inl g))) :: wr)) s.heap := hP
  replace hD : va_D A (zc_w cA cR ad k (zk_n k) (zk_t k) (zk_z k) (zk_i k) S P V ++ ((o, .inl (cL, 1, .inr (.inl g))) :: wr)) := hD
  have hl := lv_entry ([.ref (ad 0), .int (x1), .int (x2), .ref (o)]) (n := 5) (Nat.le_of_ble_eq_true rfl)
  rw [lg_entry_eq]
  generalize (lg_sl ([.ref (ad 0), .int (x1), .int (x2), .ref (o)]) ++ List.replicate (5 - (lg_sl ([.ref (ad 0), .int (x1), .int (x2), .ref (o)])).length) Slot.unset).toArray = ls at hl ⊢
  have hl : lv_has ls 5 [(0, .ref (ad 0)), (1, .int (x1)), (2, .int (x2)), (3, .ref (o))] := hl
  refine lv_aload_n hx hb dL_divides_0 rfl (lv_at hl 3 rfl) ?_
  refine lv_iconst (v := nI 0) hx hb dL_divides_1 (by decide) ?_
  refine lv_aload_n hx hb dL_divides_2 rfl (lv_at hl 0 rfl) ?_
  refine lv_iload_n hx hb dL_divides_3 rfl (lv_at hl 1 rfl) ?_
  refine lv_iload_n hx hb dL_divides_4 rfl (lv_at hl 2 rfl) ?_
  refine zx_callX (As := [.int (x1), .int (x2)]) (rest := [.int (nI 0), .ref (o)]) hx hb hml hts hown (hM A) zv_L_57 rfl rfl ⟨Nat.succ_le_succ hf, Nat.le_trans (Nat.add_le_add_left hlo _) (Nat.le_of_ble_eq_true rfl)⟩ (zx_preV (q := (RX0, TX0, 8)) (ci := 0) (q0 := 0) hP hK hE.1 hS rfl rfl) rfl hl.1 rfl (Nat.le_of_ble_eq_true rfl) dL_divides_5 ⟨Nat.le_of_ble_eq_true rfl, Nat.le_of_ble_eq_true rfl⟩ (fun ce q9 H9 hz9 hk9 hce hcv hcl => ?_)
  refine vx_catch (name := zx_NS) hown [] ⟨0, 17, 20, 19⟩ [] (htb.trans rfl) (fun z h => nomatch h) rfl (by decide) (hts _ (List.mem_cons_of_mem _ zk_L_19)) (va_Nw.use rfl hE.2.2.1.2.1) hce hcv hcl ?_
  obtain ⟨hP1, hS1⟩ := zl_more hP hS hz9 hk9
  clear hP hS
  have hP := hP1
  have hS := hS1
  refine lv_astore (lv' := [(4, .ref (q9)), (0, .ref (ad 0)), (1, .int (x1)), (2, .int (x2)), (3, .ref (o))]) hx hb dL_divides_20 hl (by decide) rfl (fun ls hl => ?_)
  refine lv_iconst (v := nI 1) hx hb dL_divides_22 (by decide) ?_
  exact W.iret (v := nI 1) hx hb hr (fun t9 h9 hW9 => ⟨⟨nI 1, (S, P, V, g), rfl, ⟨rfl, fun h8 => absurd h8 (by decide), rfl, rfl⟩, by rw [h9]; exact hP, va_K.moved hW9.alike hK, hD⟩, hS.F h9⟩) hS.2.2 dL_divides_23
set_option maxHeartbeats 4000000 in
set_option maxRecDepth 100000 in
theorem cl_root_IS (l : Launch) (dC : Nat → ClassId) (dI : Nat → Nat → Nat) (cA cR cL : ClassId) (tr : List (ClassId × FieldType)) (wr : va_W) (ad : Nat → Nat) (o k : Nat) (S : Nat → Int32) (P : Nat → Nat) (V : Nat → Nat → Nat) (g : Nat → Int64) (sz : Nat) (x1 x2 : Int32) (f lo : Nat) (hf : f ≤ 8) (hlo : lo ≤ 170) (hM : vx_Met l yX0_root wzX0_root (zx_rm f lo) (zt_pre (dC, dI) zz_cl ((cA, .int) :: (cR, .array .int) :: (cL, .long) :: tr) (zc_w cA cR ad k (zk_n k) (zk_t k) (zk_z k) (zk_i k) S P V ++ ((o, .inl (cL, 1, .inr (.inl g))) :: wr)) sz [.ref (ad 0), .int x1, .int x2]) zx_no (vx_X (fun _ : Nat → Int32 => True) (fun E1 S1 t8 => E1 = zx_IS ∧ zw_at (dC, dI) zz_cl ((cA, .int) :: (cR, .array .int) :: (cL, .long) :: tr) (va_A (zc_w cA cR ad k (zk_n k) (zk_t k) (zk_z k) (zk_i k) S P V ++ ((o, .inl (cL, 1, .inr (.inl g))) :: wr)) sz) (fun S1 : Nat → Int32 => zc_w cA cR ad k (zk_n k) (zk_t k) (zk_z k) (zk_i k) S1 P V ++ ((o, .inl (cL, 1, .inr (.inl g))) :: wr)) S1 t8) (va_A (zc_w cA cR ad k (zk_n k) (zk_t k) (zk_z k) (zk_i k) S P V ++ ((o, .inl (cL, 1, .inr (.inl g))) :: wr)) sz)) 1 6 (va_A (zc_w cA cR ad k (zk_n k) (zk_t k) (zk_z k) (zk_i k) S P V ++ ((o, .inl (cL, 1, .inr (.inl g))) :: wr)) sz)) (a : Int64) : zl_C l dC dI cA cR cL tr wr ad o k (S, P, V, g) sz yL_root wqL_root [.ref (ad 0), .int (x1), .int (x2), .ref (o)] 2 (a) k (fun P1 V1 => P1 = P ∧ V1 = V) := by
  unfold zl_C
  refine va_MetW (cc := cL_root) (maxL := 5) (ret := (some .int)) (hh := zhL_root) (by decide) rfl ?_
  intro p e s m args below meth c s₁ B hml hv
  obtain ⟨rfl, hsz, hP, hK, hD0, hE⟩ := hv
  have hx := B.exec
  have hb := B.bytes
  have hr := B.returns
  have hts := atoms_spec (ws := wqL_root) B.pre
  have hown : s.vm.findClass RL = some m.cls := findClass_of_methodNamed B.named
  have hlocks := B.notSynchronized
  have htb := vx_table (x := yL_root) B (hts _ List.mem_cons_self)
  subst hsz
  have hD := hD0.self (sz := s.heap.size)
  generalize hAe : va_A (zl_w cA cR cL wr ad o k (S, P, V, g)) s.heap.size = A at hD hE ⊢
  have hA : ∀ q : Nat, s.heap.size ≤ q → A q := fun q h => by rw [← hAe]; exact Or.inr h
  have hS : va_S A s.heap s.heap [] := va_S.rf
  replace hP : va_P (dC, dI) zz_cl (zc_w cA cR ad k (zk_n k) (zk_t k) (zk_z k) (zk_i k) S P V ++ ((o, .inl (cL, 1, .inr (.inl g))) :: wr)) s.heap := hP
  replace hD : va_D A (zc_w cA cR ad k (zk_n k) (zk_t k) (zk_z k) (zk_i k) S P V ++ ((o, .inl (cL, 1, .inr (.inl g))) :: wr)) := hD
  have hl := lv_entry ([.ref (ad 0), .int (x1), .int (x2), .ref (o)]) (n := 5) (Nat.le_of_ble_eq_true rfl)
  rw [lg_entry_eq]
  generalize (lg_sl ([.ref (ad 0), .int (x1), .int (x2), .ref (o)]) ++ List.replicate (5 - (lg_sl ([.ref (ad 0), .int (x1), .int (x2), .ref (o)])).length) Slot.unset).toArray = ls at hl ⊢
  have hl : lv_has ls 5 [(0, .ref (ad 0)), (1, .int (x1)), (2, .int (x2)), (3, .ref (o))] := hl
  refine lv_aload_n hx hb dL_root_0 rfl (lv_at hl 3 rfl) ?_
  refine lv_iconst (v := nI 0) hx hb dL_root_1 (by decide) ?_
  refine lv_aload_n hx hb dL_root_2 rfl (lv_at hl 0 rfl) ?_
  refine lv_iload_n hx hb dL_root_3 rfl (lv_at hl 1 rfl) ?_
  refine lv_iload_n hx hb dL_root_4 rfl (lv_at hl 2 rfl) ?_
  refine zx_callXS (w' := fun S1 : Nat → Int32 => zc_w cA cR ad k (zk_n k) (zk_t k) (zk_z k) (zk_i k) S1 P V ++ ((o, .inl (cL, 1, .inr (.inl g))) :: wr)) (As := [.int (x1), .int (x2)]) (rest := [.int (nI 0), .ref (o)]) hx hb hml hts hown hD hS hA hM zv_L_43 rfl rfl ⟨Nat.succ_le_succ hf, Nat.le_trans (Nat.add_le_add_left hlo _) (Nat.le_of_ble_eq_true rfl)⟩ (zt_preV (q := (RX0, TX0, 8)) (ci := 0) (q0 := 0) hP hK hD hE.1 hS hA rfl rfl) rfl hl.1 rfl (Nat.le_of_ble_eq_true rfl) dL_root_5 ⟨Nat.le_of_ble_eq_true rfl, Nat.le_of_ble_eq_true rfl⟩ (fun ce q9 S1 H locs hce hcv hcl _ hP hD hS => ?_)
  refine vx_catch (name := zx_IS) hown [⟨0, 9, 12, 19⟩] ⟨0, 9, 16, 35⟩ [] (htb.trans rfl) (fun z h => by
    rcases List.mem_cons.mp h with rfl | h
    · exact Or.inr ⟨by decide, zx_NS, hts _ (List.mem_cons_of_mem _ zk_L_19), hE.2.2.2.2.1⟩
    cases h) rfl (by decide) (hts _ (List.mem_cons_of_mem _ zk_L_35)) (va_Nw.use rfl hE.2.2.1.2.2) hce hcv hcl ?_
  refine lv_astore (lv' := [(4, .ref (q9)), (0, .ref (ad 0)), (1, .int (x1)), (2, .int (x2)), (3, .ref (o))]) hx hb dL_root_16 hl (by decide) rfl (fun ls hl => ?_)
  refine lv_iconst (v := nI 2) hx hb dL_root_18 (by decide) ?_
  exact W.iret (v := nI 2) hx hb hr (fun t9 h9 hW9 => ⟨⟨nI 2, (S1, P, V, g), rfl, ⟨rfl, fun h8 => absurd h8 (by decide), rfl, rfl⟩, by rw [h9]; exact hP, va_K.moved hW9.alike hK, hD⟩, hS.F h9⟩) hS.2.2 dL_root_19
