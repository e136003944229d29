/-! what the law starts from; my own -/
theorem ls_tab {args : Array Value} {s : State} (hg : ∀ w ∈ flatC (Jvm.Cond.and given_1 narrow_1), w.before args s = true) (ht : ∀ w ∈ lw_tbl, w.before args s = true) {A : Nat → Prop} (hA : ∀ a : Nat, a < s.heap.size → ¬ A a) : zs_env A s := by
  obtain ⟨t1, e1, h1⟩ := va_Tof (A := A) (N := 4) (ty := .int) (tm := .static "ValueRing" "SIZES" "[I") (f := fun j => .int (nI (zk_n j))) (by decide) (hg (.arrayOf (.static "ValueRing" "SIZES" "[I") .int) (by decide +kernel)) (va_eqt (hg (.eq (.length (.static "ValueRing" "SIZES" "[I")) (.int 4)) (by decide +kernel))) (fun j hj => by
    rcases (show j = 0 ∨ j = 1 ∨ j = 2 ∨ j = 3 by omega) with rfl | rfl | rfl | rfl
    · exact va_eqt (hg (.eq (.elem (.static "ValueRing" "SIZES" "[I") (.int 0)) (.int 4)) (by decide +kernel))
    · exact va_eqt (hg (.eq (.elem (.static "ValueRing" "SIZES" "[I") (.int 1)) (.int 8)) (by decide +kernel))
    · exact va_eqt (hg (.eq (.elem (.static "ValueRing" "SIZES" "[I") (.int 2)) (.int 16)) (by decide +kernel))
    · exact va_eqt (hg (.eq (.elem (.static "ValueRing" "SIZES" "[I") (.int 3)) (.int 32)) (by decide +kernel))) hA
  obtain ⟨t2, e2, h2⟩ := va_Tof (A := A) (N := 4) (ty := .int) (tm := .static "ValueRing" "MODULI" "[I") (f := fun j => .int (nI (zk_t j))) (by decide) (hg (.arrayOf (.static "ValueRing" "MODULI" "[I") .int) (by decide +kernel)) (va_eqt (hg (.eq (.length (.static "ValueRing" "MODULI" "[I")) (.int 4)) (by decide +kernel))) (fun j hj => by
    rcases (show j = 0 ∨ j = 1 ∨ j = 2 ∨ j = 3 by omega) with rfl | rfl | rfl | rfl
    · exact va_eqt (hg (.eq (.elem (.static "ValueRing" "MODULI" "[I") (.int 0)) (.int 17)) (by decide +kernel))
    · exact va_eqt (hg (.eq (.elem (.static "ValueRing" "MODULI" "[I") (.int 1)) (.int 17)) (by decide +kernel))
    · exact va_eqt (hg (.eq (.elem (.static "ValueRing" "MODULI" "[I") (.int 2)) (.int 97)) (by decide +kernel))
    · exact va_eqt (hg (.eq (.elem (.static "ValueRing" "MODULI" "[I") (.int 3)) (.int 193)) (by decide +kernel))) hA
  exact ⟨t1, t2, va_Zof (ht (.laysStatic "ValueRing" "SIZES" "[I") (by decide +kernel)) (ht (.initialized "ValueRing") (by decide +kernel)) e1 hA, h1, va_Zof (ht (.laysStatic "ValueRing" "MODULI" "[I") (by decide +kernel)) (ht (.initialized "ValueRing") (by decide +kernel)) e2 hA, h2⟩
theorem ls_str {args : Array Value} {s : State} {k : Nat} {tx : String} (h1 : (Cond.stringRef RX0 k tx).before args s = true) (h2 : (Cond.exactly (.string RX0 k) "java/lang/String").before args s = true) : ∃ a, vk_R RX0 k tx a s := by
  obtain ⟨a, c, cA, kA, q1, -⟩ := Cond.exactly_spec (args := args) (first := s) (o := none) (s := s) (idx := []) (t := .string RX0 k) (cls := "java/lang/String") h2
  exact ⟨a, vk_R.of h1 q1⟩
theorem ls_env {args : Array Value} {s : State} (hg : ∀ w ∈ flatC (Jvm.Cond.and given_1 narrow_1), w.before args s = true) (ht : ∀ w ∈ lw_tbl, w.before args s = true) {A : Nat → Prop} (hA : ∀ a : Nat, a < s.heap.size → ¬ A a) : zl_env A s := by
  refine ⟨⟨vx_Zqof (ht _ (by decide +kernel)) (ht (.initialized Bundle.tN) (by decide +kernel)) (hg _ (by decide +kernel)) hA, vx_Zqof (ht _ (by decide +kernel)) (ht (.initialized Bundle.tN) (by decide +kernel)) (hg _ (by decide +kernel)) hA, fun w hw => ?_, fun q hq => ?_⟩, ls_tab hg ht hA, ⟨va_Nw.of rfl (ht (.castable zx_IA zx_IA) (by decide +kernel)), va_Nw.of rfl (ht (.castable zx_NS zx_NS) (by decide +kernel)), va_Nw.of rfl (ht (.castable zx_IS zx_IS) (by decide +kernel))⟩, va_Nc.of (hg (.not (.castable zx_IA zx_NS)) (by decide +kernel)), va_Nc.of (hg (.not (.castable zx_IS zx_NS)) (by decide +kernel)), va_Nc.of (hg (.not (.castable zx_IS zx_IA)) (by decide +kernel))⟩
  · exact va_Nw.of (zx_dct w hw) (ht w ((show ∀ w ∈ zx_dc, w ∈ lw_tbl by decide +kernel) w hw))
  · have hq2 := (show ∀ q ∈ zx_strs, Cond.stringRef RX0 q.1 q.2 ∈ lw_tbl ∧ Cond.exactly (.string RX0 q.1) "java/lang/String" ∈ flatC (Jvm.Cond.and given_1 narrow_1) by decide +kernel) q hq
    exact ls_str (ht _ hq2.1) (hg _ hq2.2)
set_option maxHeartbeats 4000000 in
set_option maxRecDepth 100000 in
theorem whole_start {p : Program} {e : Env} {s : State} {m : MethodId} {below : List Frame} {meth : Method} {c : Code} (l : Launch) (hlt9 : l.stackTraces = false) {b L : Nat} {xs : Nat → Int32} (hL : L ≤ 2560) (C0 : lw_At p s m meth c b L xs) : W p l e room_1 s m #[Value.ref b] below meth c s.heap [] 0 0 (lw_Z below #[Value.ref b] s) (entryFrame m ([Value.ref b] : List Value).toArray 8) := by
  obtain ⟨hx, hb, hret, hml, hown, htbl, hX, hbl, hlocks, hgv⟩ := C0
  have hg := flat_of_before _ hgv
  have hts : ∀ w ∈ Cond.initialized RL :: zz_w, w.before #[Value.ref b] s = true := fun w hw => by
    rcases List.mem_cons.mp hw with rfl | hw
    · exact htbl _ (by decide +kernel)
    · exact htbl w (List.mem_filter.mp hw).1
  have hz : ∀ w ∈ zz_w, w.before #[Value.ref b] s = true := fun w hw => hts w (List.mem_cons_of_mem _ hw)
  obtain ⟨c0, i0, hK0⟩ := u_known (n := 8) hz zz_f0 (hz _ zt_ValueRing)
  obtain ⟨c1, i1, hK1⟩ := u_known (n := 9) hz zz_f1 (hz _ zt_ValueRingModel)
  obtain ⟨cA, hcA1, hcA2⟩ := zn_cls (by intro C h; cases h) (hz _ za_int)
  obtain ⟨cL, hcL1, hcL2⟩ := zn_cls (by intro C h; cases h) (hz _ za_long)
  have hO : (Cond.arrayOver (.array .int)).before #[Value.ref b] s = true := htbl _ (by decide +kernel)
  obtain ⟨cR, hcR1, hcR2⟩ := zn_over hO
  generalize hdC : (fun j : Nat => if j = 0 then c0 else c1) = dC
  generalize hdI : (fun j : Nat => if j = 0 then i0 else i1) = dI
  have hK : va_K (dC, dI) zz_cl [(cA, .int), (cR, .array .int), (cL, .long)] s := by
    subst hdC hdI
    refine ⟨fun cn q hq => ?_, fun kn q hq => ?_⟩
    · match cn, hq with
      | 0, hq => cases hq; exact hK0
      | 1, hq => cases hq; exact hK1
      | n + 2, hq => cases hq
    · match kn, hq with
      | 0, hq => cases hq; exact ⟨hcA1, hcA2⟩
      | 1, hq => cases hq; exact ⟨hcR1, hcR2⟩
      | 2, hq => cases hq; exact ⟨hcL1, hcL2⟩
      | n + 3, hq => cases hq
  have hAn : ∀ a : Nat, a < s.heap.size → ¬ (fun q : Nat => s.heap.size ≤ q) a := fun a h1 h2 => absurd h1 (Nat.not_lt.mpr h2)
  have hE : zl_env (fun q : Nat => s.heap.size ≤ q) s := ls_env hg htbl hAn
  have hA : ∀ q : Nat, s.heap.size ≤ q → (fun q : Nat => s.heap.size ≤ q) q := fun q h => h
  have C : zo_C p l s m meth c b L xs dC dI cA cR cL := ⟨hx, hb, hml, hown, hts, hX, hbl, hK, hE, hlt9⟩
  have hS : va_S (fun q : Nat => s.heap.size ≤ q) s.heap s.heap [] := va_S.rf
  have hP : va_P (dC, dI) zz_cl [] s.heap := fun k q hk => by cases hk
  have hD : va_D (fun q : Nat => s.heap.size ≤ q) [] := ⟨fun i j x y hx _ _ => (by cases hx), fun k q hk => (by cases hk)⟩
  have hl := lv_entry ([Value.ref b]) (n := 8) (Nat.le_of_ble_eq_true rfl)
  rw [lg_entry_eq]
  generalize (lg_sl ([Value.ref b]) ++ List.replicate (8 - (lg_sl ([Value.ref b])).length) Slot.unset).toArray = ls at hl ⊢
  have hl : lv_has ls 8 [(0, .ref b)] := hl
  refine va_new (D := (dC, dI)) (ci := 0) (C := RX0) (T := TX0) (N := 8) (fs := zn_f0 .null .null .null) hx hb hts (fun w h => List.mem_cons_of_mem _ (zz_f0 w h)) tyX0 tyX0_ok hown (hz _ zk_L_8) (hz _ zt_ValueRing) (hz _ zo_ValueRing) hK hP hD hS hA rfl (fun j hj => by
    rcases (show j = 0 ∨ j = 1 ∨ j = 2 ∨ j = 3 ∨ j = 4 ∨ j = 5 ∨ j = 6 ∨ j = 7 by omega) with rfl | rfl | rfl | rfl | rfl | rfl | rfl | rfl <;> rfl) (Nat.le_of_ble_eq_true rfl) (Nat.le_of_ble_eq_true rfl) dL_law_0 (fun a0 H hP hD hS => ?_)
  refine lv_dup hx hb dL_law_3 rfl ?_
  refine zl_callv (w' := fun u : (Nat → Nat) × (Nat → Nat) × (Nat → Nat → Nat) => zc_w cA cR u.1 0 (zk_n 0) (zk_t 0) (zk_z 0) (zk_i 0) (zq_I (fun _ => 0)) u.2.1 u.2.2) hD hS hA (zx_runI (n := 0) (As := []) (rest := [.ref a0]) hx hb hml hts hown (cx_init l dC dI cA cR [(cL, .long)] a0 H.size) zl_L_60 zn_X0_init zo_ValueRing zc_X0_init rfl (by decide +kernel) rfl rfl ⟨Nat.le_of_ble_eq_true rfl, Nat.le_of_ble_eq_true rfl⟩ (zn_preS hP hK hD hE.2.1 hS hA (over_moved (Vm.Alike.refl s.vm) hO)) rfl hl.1 rfl (Nat.le_of_ble_eq_true rfl) dL_law_4 ⟨Nat.le_of_ble_eq_true rfl, Nat.le_of_ble_eq_true rfl⟩) (fun u H locs hu hP hD hS => ?_)
  obtain ⟨hu0, huP, huV⟩ := hu
  obtain ⟨ad, P, V⟩ := u
  have hu0 : ad 0 = a0 := hu0
  rw [← hu0]
  refine lv_astore_n (lv' := [(1, .ref (ad 0)), (0, .ref b)]) hx hb dL_law_7 rfl hl (by decide) rfl (fun ls hl => ?_)
  refine va_new (D := (dC, dI)) (ci := 1) (C := RX1) (T := TM1) (N := 9) (fs := zn_f1 0 0 .null .null .null .null .null) hx hb hts (fun w h => List.mem_cons_of_mem _ (zz_f1 w h)) tyM1 tyM1_ok hown (hz _ zk_L_61) (hz _ zt_ValueRingModel) (hz _ zo_ValueRingModel) hK hP hD hS hA rfl (fun j hj => by
    rcases (show j = 0 ∨ j = 1 ∨ j = 2 ∨ j = 3 ∨ j = 4 ∨ j = 5 ∨ j = 6 ∨ j = 7 ∨ j = 8 by omega) with rfl | rfl | rfl | rfl | rfl | rfl | rfl | rfl | rfl <;> rfl) (Nat.le_of_ble_eq_true rfl) (Nat.le_of_ble_eq_true rfl) dL_law_8 (fun m0 H hP hD hS => ?_)
  replace hP := zw_rotP hP
  replace hD := zw_rotD hD
  refine lv_dup hx hb dL_law_11 rfl ?_
  refine zl_callv (w' := fun u : Nat → Nat => zm_w cA u 0 0 4 17 (fun _ => 0) (fun _ => 0) (fun _ => 0) (fun _ => 0) (fun _ => 0) ++ (zc_w cA cR ad 0 (zk_n 0) (zk_t 0) (zk_z 0) (zk_i 0) (zq_I (fun _ => 0)) P V)) hD hS hA (zx_runI (n := 0) (As := []) (rest := [.ref m0]) hx hb hml hts hown (cm_init l dC dI cA [(cR, .array .int), (cL, .long)] (zc_w cA cR ad 0 (zk_n 0) (zk_t 0) (zk_z 0) (zk_i 0) (zq_I (fun _ => 0)) P V) m0 H.size) zl_L_63 zn_X1_init zo_ValueRingModel zc_X1_init rfl (by decide +kernel) rfl rfl ⟨Nat.le_of_ble_eq_true rfl, Nat.le_of_ble_eq_true rfl⟩ (zw_preS hP hK hD) rfl hl.1 rfl (Nat.le_of_ble_eq_true rfl) dL_law_12 ⟨Nat.le_of_ble_eq_true rfl, Nat.le_of_ble_eq_true rfl⟩) (fun mo H locs hm0 hP hD hS => ?_)
  rw [← hm0]
  refine lv_astore_n (lv' := [(2, .ref (mo 0)), (1, .ref (ad 0)), (0, .ref b)]) hx hb dL_law_15 rfl hl (by decide) rfl (fun ls hl => ?_)
  refine lv_iconst (v := nI 1) hx hb dL_law_16 (by decide) ?_
  refine va_newa (ty := .long) (N' := 1) (a0 := (1, .inr (.inl (fun _ => 0)))) hx hb (atype := .long) (hz _ za_long) rfl hK hP hD hS hA (fun _ => rfl) (by decide) (by decide) (by decide) (Nat.le_of_ble_eq_true rfl) (Nat.le_of_ble_eq_true rfl) dL_law_17 (fun o c9 H hK9 hP hD hS => ?_)
  have e9 : c9 = cL := zn_same (by intro C h; cases h) hK9 (k := 2) rfl
  rw [e9] at hP hD
  refine lv_astore_n (lv' := [(3, .ref o), (2, .ref (mo 0)), (1, .ref (ad 0)), (0, .ref b)]) hx hb dL_law_19 rfl hl (by decide) rfl (fun ls hl => ?_)
  refine lv_iconst (v := nI 0) hx hb dL_law_20 (by decide) ?_
  refine lv_istore (lv' := [(4, .int (nI 0)), (3, .ref o), (2, .ref (mo 0)), (1, .ref (ad 0)), (0, .ref b)]) hx hb dL_law_21 hl (by decide) rfl (fun ls hl => ?_)
  rw [List.append_assoc] at hP hD
  have hP2 : va_P (dC, dI) zz_cl (zm_w cA mo 0 0 (zk_n 0) (zk_t 0) (fun _ => 0) (fun _ => 0) (fun _ => 0) (fun _ => 0) (fun _ => 0) ++ zo_w cA cR cL ad o 0 (zq_I (fun _ => 0), P, V, fun _ => 0)) H := hP
  have hD2 : va_D (fun q : Nat => s.heap.size ≤ q) (zm_w cA mo 0 0 (zk_n 0) (zk_t 0) (fun _ => 0) (fun _ => 0) (fun _ => 0) (fun _ => 0) (fun _ => 0) ++ zo_w cA cR cL ad o 0 (zq_I (fun _ => 0), P, V, fun _ => 0)) := hD
  refine W.widen (k := 100 + 0) (n := 2000 + 6 * 0) (Nat.le_of_ble_eq_true rfl) (Nat.le_of_ble_eq_true rfl) ?_
  exact lo_loop C hret hlocks hL L 0 (by omega) 0 0 (zq_I (fun _ => 0), P, V, fun _ => 0) (fun _ => 0) (fun _ => 0) (fun _ => 0) (fun _ => 0) (fun _ => 0) H locs ls (by decide) (zy_zero (by decide) huP huV (fun _ _ => rfl)) (zo_bakP hP2) (zo_bakD hD2) hS (lv_sub hl [4, 3, 2, 1, 0] rfl)
