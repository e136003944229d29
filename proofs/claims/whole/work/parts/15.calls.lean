/-! rows over the shared words: fields, calls; my own -/
def zz_vok (own : String) (idx : Nat) (C : String) (y : MethodName) (bytes : ByteArray) (maxL : Nat) (ret : Option FieldType) (n : Nat) : Prop :=
  Cond.methodLink own idx y ∈ zz_w ∧ Cond.instanceMethod y ∈ zz_w ∧ Cond.selects C y y ∈ zz_w ∧ Cond.initialized C ∈ zz_w ∧ Cond.code y bytes maxL ret ∈ zz_w ∧
  (y.cls = C ∧ y.cls ≠ "java/lang/invoke/MethodHandle" ∧ y.cls ≠ "java/lang/invoke/VarHandle" ∧ (parseMethodDescriptor y.desc).map (fun d => d.parameters.length) = some n)
def zz_sok (own : String) (idx : Nat) (y : MethodName) (bytes : ByteArray) (maxL : Nat) (ret : Option FieldType) (n : Nat) : Prop :=
  Cond.methodLink own idx y ∈ zz_w ∧ Cond.static y ∈ zz_w ∧ Cond.initialized y.cls ∈ zz_w ∧ Cond.code y bytes maxL ret ∈ zz_w ∧
  (y.cls ≠ "java/lang/invoke/MethodHandle" ∧ y.cls ≠ "java/lang/invoke/VarHandle" ∧ (parseMethodDescriptor y.desc).map (fun d => d.parameters.length) = some n)
section ZX
variable {p : Program} {l : Launch} {e : Env} {R : Room} {s : State} {m : MethodId} {args : Array Value} {below : List Frame} {meth : Method} {c : Code} {H : Heap} {locs : List Loc} {cells slots : Nat} {Q : State → Prop}
variable {cc : ByteArray} {pc : Nat} {ls : Array Slot} {rest : List Value} {D : va_G} {A : Nat → Prop} {a : Nat} {tys : List (ClassId × FieldType)} {ws : va_W} {H0 : Heap}
theorem zx_get0 (hexec : p.tables.exec = Jvm.exec) (hb : c.code = cc) {c0 : Cond} (hts : ∀ w ∈ c0 :: zz_w, w.before args s = true) (hown : s.vm.findClass RX0 = some m.cls) (hK : va_K D zz_cl tys s) (hP : va_P D zz_cl ws H) (q0 : Nat) {fs : List Value} (he : ws[q0]? = some (a, .inr (0, fs))) (k : Nat) (hk : k < 8) {index : Nat} (hl : Cond.fieldLink RX0 index (TX0 k).1 (TX0 k).2.1 (TX0 k).2.2.1 ∈ zz_w) {v : Value} (hv : fs[k]? = some v) (hdg : decode cc pc = .ok (.getfield index, 3))
    (kk : W p l e R s m args below meth c H locs cells slots Q (F0 m (pc + 3) ls (v :: rest))) : W p l e R s m args below meth c H locs cells slots Q (F0 m pc ls (.ref a :: rest)) :=
  va_get (D := D) (ci := 0) (v := v) (C := RX0) (T := TX0) (N := 8) hexec hb hts (fun w h => List.mem_cons_of_mem _ (zz_f0 w h)) hown hK hP q0 he rfl k hk (hts _ (List.mem_cons_of_mem _ hl)) (fun _ h9 => h9) hv hdg kk
theorem zx_get1 (hexec : p.tables.exec = Jvm.exec) (hb : c.code = cc) {c0 : Cond} (hts : ∀ w ∈ c0 :: zz_w, w.before args s = true) (hown : s.vm.findClass RX1 = some m.cls) (hK : va_K D zz_cl tys s) (hP : va_P D zz_cl ws H) (q0 : Nat) {fs : List Value} (he : ws[q0]? = some (a, .inr (1, fs))) (k : Nat) (hk : k < 9) {index : Nat} (hl : Cond.fieldLink RX1 index (TM1 k).1 (TM1 k).2.1 (TM1 k).2.2.1 ∈ zz_w) {v : Value} (hv : fs[k]? = some v) (hdg : decode cc pc = .ok (.getfield index, 3))
    (kk : W p l e R s m args below meth c H locs cells slots Q (F0 m (pc + 3) ls (v :: rest))) : W p l e R s m args below meth c H locs cells slots Q (F0 m pc ls (.ref a :: rest)) :=
  va_get (D := D) (ci := 1) (v := v) (C := RX1) (T := TM1) (N := 9) hexec hb hts (fun w h => List.mem_cons_of_mem _ (zz_f1 w h)) hown hK hP q0 he rfl k hk (hts _ (List.mem_cons_of_mem _ hl)) (fun _ h9 => h9) hv hdg kk
/-- a field that isn't final is written -/
theorem zx_put0 (hexec : p.tables.exec = Jvm.exec) (hb : c.code = cc) {c0 : Cond} (hts : ∀ w ∈ c0 :: zz_w, w.before args s = true) (hown : s.vm.findClass RX0 = some m.cls) (hK : va_K D zz_cl tys s) (hP : va_P D zz_cl ws H) (hD : va_D A ws) (hS : va_S A H0 H locs) (q0 : Nat) {fs : List Value} (he : ws[q0]? = some (a, .inr (0, fs))) (k : Nat) (hk : k < 8) {index : Nat} (hl : Cond.fieldLink RX0 index (TX0 k).1 (TX0 k).2.1 (TX0 k).2.2.1 ∈ zz_w) (hfin : (TX0 k).2.2.2 = false) {x : Int32} (hd : parseFieldDescriptor (TX0 k).2.2.1 = some .int) (hkl : k < fs.length) (hdg : decode cc pc = .ok (.putfield index, 3))
    {ws' : va_W} (hw : ws.set q0 (a, .inr (0, fs.set k (.int x))) = ws')
    (kk : ∀ (H1 : Heap) (locs1 : List Loc), va_P D zz_cl ws' H1 → va_D A ws' → va_S A H0 H1 locs1 → W p l e R s m args below meth c H1 locs1 cells slots Q (F0 m (pc + 3) ls rest)) : W p l e R s m args below meth c H locs cells slots Q (F0 m pc ls (.int x :: .ref a :: rest)) := by
  subst hw
  exact va_put (D := D) (ci := 0) (v := .int x) (ty := .int) (C := RX0) (T := TX0) (N := 8) hexec hb hts (fun w h => List.mem_cons_of_mem _ (zz_f0 w h)) tyX0 tyX0_ok nmX0 hown hK hP hD hS q0 he rfl k hk (hts _ (List.mem_cons_of_mem _ hl)) (fun _ h9 => h9) hfin hd rfl rfl hkl hdg kk
theorem zx_put1 (hexec : p.tables.exec = Jvm.exec) (hb : c.code = cc) {c0 : Cond} (hts : ∀ w ∈ c0 :: zz_w, w.before args s = true) (hown : s.vm.findClass RX1 = some m.cls) (hK : va_K D zz_cl tys s) (hP : va_P D zz_cl ws H) (hD : va_D A ws) (hS : va_S A H0 H locs) (q0 : Nat) {fs : List Value} (he : ws[q0]? = some (a, .inr (1, fs))) (k : Nat) (hk : k < 9) {index : Nat} (hl : Cond.fieldLink RX1 index (TM1 k).1 (TM1 k).2.1 (TM1 k).2.2.1 ∈ zz_w) (hfin : (TM1 k).2.2.2 = false) {x : Int32} (hd : parseFieldDescriptor (TM1 k).2.2.1 = some .int) (hkl : k < fs.length) (hdg : decode cc pc = .ok (.putfield index, 3))
    {ws' : va_W} (hw : ws.set q0 (a, .inr (1, fs.set k (.int x))) = ws')
    (kk : ∀ (H1 : Heap) (locs1 : List Loc), va_P D zz_cl ws' H1 → va_D A ws' → va_S A H0 H1 locs1 → W p l e R s m args below meth c H1 locs1 cells slots Q (F0 m (pc + 3) ls rest)) : W p l e R s m args below meth c H locs cells slots Q (F0 m pc ls (.int x :: .ref a :: rest)) := by
  subst hw
  exact va_put (D := D) (ci := 1) (v := .int x) (ty := .int) (C := RX1) (T := TM1) (N := 9) hexec hb hts (fun w h => List.mem_cons_of_mem _ (zz_f1 w h)) tyM1 tyM1_ok nmM1 hown hK hP hD hS q0 he rfl k hk (hts _ (List.mem_cons_of_mem _ hl)) (fun _ h9 => h9) hfin hd rfl rfl hkl hdg kk
/-- an instance method is called: what runs -/
theorem zx_runV {nL maxL n idx b : Nat} {own C : String} {y : MethodName} {bytes : ByteArray} {ret : Option FieldType} {rm : Room} {Pc : Array Value → State → Prop} {Qc : Array Value → State → Outcome → State → Prop} {mc ms : Nat} {free : Addr → Prop} {As : List Value} {st0 : List Value} {c0 : Cond} (hexec : p.tables.exec = Jvm.exec) (hb : c.code = cc) (hml : c.maxLocals = nL) (hts : ∀ w ∈ c0 :: zz_w, w.before args s = true) (hown : s.vm.findClass own = some m.cls)
    (hM : Met l y (Cond.code y bytes maxL ret :: zz_w) rm Pc Qc mc ms free) (hv : zz_vok own idx C y bytes maxL ret n) (hrc : rm.cells = mc) (hrs : rm.slots = ms) (hR : rm.frames + 1 ≤ R.frames ∧ 8 + (maxL + 11) + rm.locals ≤ R.locals) (hp : PreV s H C b Pc As) (hn : As.length = n) (hsz : ls.size = nL) (hst : st0 = As.reverse ++ .ref b :: rest) (hW : (rest.map fun v => v.category).sum ≤ 8) (hdg : decode cc pc = .ok (.invokevirtual idx, 3)) (hcs : cells + mc ≤ R.cells ∧ slots + ms ≤ R.slots) :
    va_Run p l e R s m args below meth c H locs cells slots mc ms (F0 m pc ls st0) rest (Qc (Value.ref b :: As).toArray) free := by
  obtain ⟨h1, h2, h3, h4, h5, hd⟩ := hv
  exact va_runV ⟨hexec, hb, hml, hown, hts⟩ hM (cwV n hts (zz_V h1 h2 h3 h4 h5) rfl hrc hrs hd hR) hp rfl hn hsz hst (lv_room hW) hdg hcs
theorem zx_runS {nL maxL n idx : Nat} {own : String} {y : MethodName} {bytes : ByteArray} {ret : Option FieldType} {rm : Room} {Pc : Array Value → State → Prop} {Qc : Array Value → State → Outcome → State → Prop} {mc ms : Nat} {free : Addr → Prop} {As : List Value} {st0 : List Value} {c0 : Cond} (hexec : p.tables.exec = Jvm.exec) (hb : c.code = cc) (hml : c.maxLocals = nL) (hts : ∀ w ∈ c0 :: zz_w, w.before args s = true) (hown : s.vm.findClass own = some m.cls)
    (hM : Met l y (Cond.code y bytes maxL ret :: zz_w) rm Pc Qc mc ms free) (hv : zz_sok own idx y bytes maxL ret n) (hrc : rm.cells = mc) (hrs : rm.slots = ms) (hR : rm.frames + 1 ≤ R.frames ∧ 8 + (maxL + 11) + rm.locals ≤ R.locals) (hp : PreS s H Pc As) (hn : As.length = n) (hsz : ls.size = nL) (hst : st0 = As.reverse ++ rest) (hW : (rest.map fun v => v.category).sum ≤ 8) (hdg : decode cc pc = .ok (.invokestatic idx, 3)) (hcs : cells + mc ≤ R.cells ∧ slots + ms ≤ R.slots) :
    va_Run p l e R s m args below meth c H locs cells slots mc ms (F0 m pc ls st0) rest (Qc As.toArray) free := by
  obtain ⟨h1, h2, h4, h5, hd⟩ := hv
  exact va_runS ⟨hexec, hb, hml, hown, hts⟩ hM (va_cwS n hts (zz_S h1 h2 h4 h5) rfl hrc hrs hd hR) hp rfl hn hsz hst (lv_room hW) hdg hcs
end ZX

theorem zv_X0_21 : zz_vok RX0 21 RX0 yX0_startKind cX0_startKind 3 none 1 := ⟨zl_X0_21, zn_X0_startKind, ze_X0_startKind, zo_ValueRing, zc_X0_startKind, by decide +kernel⟩
theorem zv_X0_131 : zz_vok RX0 131 RX0 yX0_leastZ cX0_leastZ 2 (some .int) 0 := ⟨zl_X0_131, zn_X0_leastZ, ze_X0_leastZ, zo_ValueRing, zc_X0_leastZ, by decide +kernel⟩
theorem zv_X0_88 : zz_vok RX0 88 RX0 yX0_raised cX0_raised 6 (some .int) 2 := ⟨zl_X0_88, zn_X0_raised, ze_X0_raised, zo_ValueRing, zc_X0_raised, by decide +kernel⟩
theorem zv_X0_134 : zz_vok RX0 134 RX0 yX0_inverse cX0_inverse 2 (some .int) 1 := ⟨zl_X0_134, zn_X0_inverse, ze_X0_inverse, zo_ValueRing, zc_X0_inverse, by decide +kernel⟩
theorem zu_X0_140 : zz_sok RX0 140 yJ7_fill_53178 cJ7_fill_53178 4 none 2 := ⟨zl_X0_140, zs_J7_fill_53178, zo_java_util_Arrays, zc_J7_fill_53178, by decide +kernel⟩
theorem zv_L_113 : zz_vok RL 113 RX0 yX0_count cX0_count 2 (some .int) 1 := ⟨zl_L_113, zn_X0_count, ze_X0_count, zo_ValueRing, zc_X0_count, by decide +kernel⟩
theorem zv_X0_124 : zz_vok RX0 124 RX0 yX0_units cX0_units 3 (some .int) 0 := ⟨zl_X0_124, zn_X0_units, ze_X0_units, zo_ValueRing, zc_X0_units, by decide +kernel⟩
theorem zv_X0_73 : zz_vok RX0 73 RX0 yX0_zeros cX0_zeros 4 (some .int) 1 := ⟨zl_X0_73, zn_X0_zeros, ze_X0_zeros, zo_ValueRing, zc_X0_zeros, by decide +kernel⟩
theorem zv_L_7 : zz_vok RL 7 RX0 yX0_begin cX0_begin 2 (some .int) 1 := ⟨zl_L_7, zn_X0_begin, ze_X0_begin, zo_ValueRing, zc_X0_begin, by decide +kernel⟩
theorem zv_L_15 : zz_vok RL 15 RX0 yX0_set cX0_set 7 (some .int) 3 := ⟨zl_L_15, zn_X0_set, ze_X0_set, zo_ValueRing, zc_X0_set, by decide +kernel⟩
theorem zv_X0_39 : zz_vok RX0 39 RX0 yX0_needRegister cX0_needRegister 2 none 1 := ⟨zl_X0_39, zn_X0_needRegister, ze_X0_needRegister, zo_ValueRing, zc_X0_needRegister, by decide +kernel⟩
theorem zv_X0_42 : zz_vok RX0 42 RX0 yX0_needPlace cX0_needPlace 2 none 1 := ⟨zl_X0_42, zn_X0_needPlace, ze_X0_needPlace, zo_ValueRing, zc_X0_needPlace, by decide +kernel⟩
theorem zv_X0_45 : zz_vok RX0 45 RX0 yX0_coefficient cX0_coefficient 5 (some .int) 2 := ⟨zl_X0_45, zn_X0_coefficient, ze_X0_coefficient, zo_ValueRing, zc_X0_coefficient, by decide +kernel⟩
theorem zv_X0_61 : zz_vok RX0 61 RX0 yX0_powerOfPoint cX0_powerOfPoint 3 (some .int) 2 := ⟨zl_X0_61, zn_X0_powerOfPoint, ze_X0_powerOfPoint, zo_ValueRing, zc_X0_powerOfPoint, by decide +kernel⟩
theorem zu_X0_52 : zz_sok RX0 52 yJ9_floorMod_7cf53 cJ9_floorMod_7cf53 3 (some .int) 2 := ⟨zl_X0_52, zs_J9_floorMod_7cf53, zo_java_lang_Math, zc_J9_floorMod_7cf53, by decide +kernel⟩
theorem zv_L_21 : zz_vok RL 21 RX0 yX0_get cX0_get 3 (some .int) 2 := ⟨zl_L_21, zn_X0_get, ze_X0_get, zo_ValueRing, zc_X0_get, by decide +kernel⟩
theorem zv_L_25 : zz_vok RL 25 RX0 yX0_setValue cX0_setValue 5 (some .int) 3 := ⟨zl_L_25, zn_X0_setValue, ze_X0_setValue, zo_ValueRing, zc_X0_setValue, by decide +kernel⟩
theorem zv_L_28 : zz_vok RL 28 RX0 yX0_value cX0_value 3 (some .int) 2 := ⟨zl_L_28, zn_X0_value, ze_X0_value, zo_ValueRing, zc_X0_value, by decide +kernel⟩
theorem zv_L_31 : zz_vok RL 31 RX0 yX0_join cX0_join 6 (some .int) 4 := ⟨zl_L_31, zn_X0_join, ze_X0_join, zo_ValueRing, zc_X0_join, by decide +kernel⟩
theorem zv_X0_66 : zz_vok RX0 66 RX0 yX0_needUnit cX0_needUnit 2 none 1 := ⟨zl_X0_66, zn_X0_needUnit, ze_X0_needUnit, zo_ValueRing, zc_X0_needUnit, by decide +kernel⟩
theorem zv_X0_69 : zz_vok RX0 69 RX0 yX0_joined cX0_joined 4 (some .int) 3 := ⟨zl_X0_69, zn_X0_joined, ze_X0_joined, zo_ValueRing, zc_X0_joined, by decide +kernel⟩
theorem zv_L_37 : zz_vok RL 37 RX0 yX0_turn cX0_turn 6 (some .int) 3 := ⟨zl_L_37, zn_X0_turn, ze_X0_turn, zo_ValueRing, zc_X0_turn, by decide +kernel⟩
theorem zv_X0_79 : zz_vok RX0 79 RX0 yX0_turnedPlace cX0_turnedPlace 3 (some .int) 2 := ⟨zl_X0_79, zn_X0_turnedPlace, ze_X0_turnedPlace, zo_ValueRing, zc_X0_turnedPlace, by decide +kernel⟩
theorem zv_L_40 : zz_vok RL 40 RX0 yX0_power cX0_power 6 (some .int) 3 := ⟨zl_L_40, zn_X0_power, ze_X0_power, zo_ValueRing, zc_X0_power, by decide +kernel⟩
theorem zv_L_43 : zz_vok RL 43 RX0 yX0_root cX0_root 4 (some .long) 2 := ⟨zl_L_43, zn_X0_root, ze_X0_root, zo_ValueRing, zc_X0_root, by decide +kernel⟩
theorem zv_X0_91 : zz_vok RX0 91 RX0 yX0_leastRoot cX0_leastRoot 3 (some .int) 1 := ⟨zl_X0_91, zn_X0_leastRoot, ze_X0_leastRoot, zo_ValueRing, zc_X0_leastRoot, by decide +kernel⟩
theorem zv_L_47 : zz_vok RL 47 RX0 yX0_order cX0_order 3 (some .int) 1 := ⟨zl_L_47, zn_X0_order, ze_X0_order, zo_ValueRing, zc_X0_order, by decide +kernel⟩
theorem zv_X0_100 : zz_vok RX0 100 RX0 yX0_isOneAtPower cX0_isOneAtPower 4 (some .boolean) 2 := ⟨zl_X0_100, zn_X0_isOneAtPower, ze_X0_isOneAtPower, zo_ValueRing, zc_X0_isOneAtPower, by decide +kernel⟩
theorem zv_L_50 : zz_vok RL 50 RX0 yX0_about cX0_about 3 (some .int) 2 := ⟨zl_L_50, zn_X0_about, ze_X0_about, zo_ValueRing, zc_X0_about, by decide +kernel⟩
theorem zv_X0_104 : zz_vok RX0 104 RX0 yX0_product cX0_product 4 (some .int) 1 := ⟨zl_X0_104, zn_X0_product, ze_X0_product, zo_ValueRing, zc_X0_product, by decide +kernel⟩
theorem zv_X0_107 : zz_vok RX0 107 RX0 yX0_sum cX0_sum 4 (some .int) 1 := ⟨zl_X0_107, zn_X0_sum, ze_X0_sum, zo_ValueRing, zc_X0_sum, by decide +kernel⟩
theorem zv_X0_110 : zz_vok RX0 110 RX0 yX0_differentValues cX0_differentValues 4 (some .int) 1 := ⟨zl_X0_110, zn_X0_differentValues, ze_X0_differentValues, zo_ValueRing, zc_X0_differentValues, by decide +kernel⟩
theorem zv_X0_155 : zz_vok RX0 155 RX0 yX0_isFirstSuchValue cX0_isFirstSuchValue 4 (some .boolean) 2 := ⟨zl_X0_155, zn_X0_isFirstSuchValue, ze_X0_isFirstSuchValue, zo_ValueRing, zc_X0_isFirstSuchValue, by decide +kernel⟩
theorem zv_X0_113 : zz_vok RX0 113 RX0 yX0_degree cX0_degree 3 (some .int) 1 := ⟨zl_X0_113, zn_X0_degree, ze_X0_degree, zo_ValueRing, zc_X0_degree, by decide +kernel⟩
theorem zv_X0_116 : zz_vok RX0 116 RX0 yX0_turnsByThree cX0_turnsByThree 4 (some .int) 1 := ⟨zl_X0_116, zn_X0_turnsByThree, ze_X0_turnsByThree, zo_ValueRing, zc_X0_turnsByThree, by decide +kernel⟩
theorem zv_X0_158 : zz_vok RX0 158 RX0 yX0_isSameTurned cX0_isSameTurned 4 (some .boolean) 2 := ⟨zl_X0_158, zn_X0_isSameTurned, ze_X0_isSameTurned, zo_ValueRing, zc_X0_isSameTurned, by decide +kernel⟩
theorem zv_L_53 : zz_vok RL 53 RX0 yX0_same cX0_same 4 (some .boolean) 2 := ⟨zl_L_53, zn_X0_same, ze_X0_same, zo_ValueRing, zc_X0_same, by decide +kernel⟩
theorem zv_L_57 : zz_vok RL 57 RX0 yX0_divides cX0_divides 4 (some .boolean) 2 := ⟨zl_L_57, zn_X0_divides, ze_X0_divides, zo_ValueRing, zc_X0_divides, by decide +kernel⟩
theorem zv_L_70 : zz_vok RL 70 RX1 yX1_thrown cX1_thrown 1 (some .int) 0 := ⟨zl_L_70, zn_X1_thrown, ze_X1_thrown, zo_ValueRingModel, zc_X1_thrown, by decide +kernel⟩
theorem zv_L_69 : zz_vok RL 69 RX1 yX1_begin cX1_begin 3 (some .int) 1 := ⟨zl_L_69, zn_X1_begin, ze_X1_begin, zo_ValueRingModel, zc_X1_begin, by decide +kernel⟩
theorem zv_X1_42 : zz_vok RX1 42 RX1 yX1_least cX1_least 2 (some .int) 0 := ⟨zl_X1_42, zn_X1_least, ze_X1_least, zo_ValueRingModel, zc_X1_least, by decide +kernel⟩
theorem zv_X1_35 : zz_vok RX1 35 RX1 yX1_raised cX1_raised 5 (some .int) 2 := ⟨zl_X1_35, zn_X1_raised, ze_X1_raised, zo_ValueRingModel, zc_X1_raised, by decide +kernel⟩
theorem zv_L_77 : zz_vok RL 77 RX1 yX1_set cX1_set 5 (some .int) 3 := ⟨zl_L_77, zn_X1_set, ze_X1_set, zo_ValueRingModel, zc_X1_set, by decide +kernel⟩
theorem zv_X1_50 : zz_vok RX1 50 RX1 yX1_no cX1_no 3 (some .boolean) 2 := ⟨zl_X1_50, zn_X1_no, ze_X1_no, zo_ValueRingModel, zc_X1_no, by decide +kernel⟩
theorem zu_X1_46 : zz_sok RX1 46 yX1_none cX1_none 1 (some .boolean) 1 := ⟨zl_X1_46, zs_X1_none, zo_ValueRingModel, zc_X1_none, by decide +kernel⟩
theorem zv_X1_54 : zz_vok RX1 54 RX1 yX1_of cX1_of 4 (some .int) 1 := ⟨zl_X1_54, zn_X1_of, ze_X1_of, zo_ValueRingModel, zc_X1_of, by decide +kernel⟩
theorem zv_L_81 : zz_vok RL 81 RX1 yX1_get cX1_get 3 (some .int) 2 := ⟨zl_L_81, zn_X1_get, ze_X1_get, zo_ValueRingModel, zc_X1_get, by decide +kernel⟩
theorem zv_L_84 : zz_vok RL 84 RX1 yX1_setValue cX1_setValue 5 (some .int) 3 := ⟨zl_L_84, zn_X1_setValue, ze_X1_setValue, zo_ValueRingModel, zc_X1_setValue, by decide +kernel⟩
theorem zv_X1_62 : zz_vok RX1 62 RX1 yX1_take cX1_take 4 none 2 := ⟨zl_X1_62, zn_X1_take, ze_X1_take, zo_ValueRingModel, zc_X1_take, by decide +kernel⟩
theorem zv_X1_58 : zz_vok RX1 58 RX1 yX1_at cX1_at 6 (some .int) 2 := ⟨zl_X1_58, zn_X1_at, ze_X1_at, zo_ValueRingModel, zc_X1_at, by decide +kernel⟩
theorem zv_X1_66 : zz_vok RX1 66 RX1 yX1_add cX1_add 7 none 3 := ⟨zl_X1_66, zn_X1_add, ze_X1_add, zo_ValueRingModel, zc_X1_add, by decide +kernel⟩
theorem zv_X1_70 : zz_vok RX1 70 RX1 yX1_put cX1_put 4 none 2 := ⟨zl_X1_70, zn_X1_put, ze_X1_put, zo_ValueRingModel, zc_X1_put, by decide +kernel⟩
theorem zv_L_87 : zz_vok RL 87 RX1 yX1_value cX1_value 3 (some .int) 2 := ⟨zl_L_87, zn_X1_value, ze_X1_value, zo_ValueRingModel, zc_X1_value, by decide +kernel⟩
theorem zv_L_91 : zz_vok RL 91 RX1 yX1_join cX1_join 6 (some .int) 4 := ⟨zl_L_91, zn_X1_join, ze_X1_join, zo_ValueRingModel, zc_X1_join, by decide +kernel⟩
theorem zv_X1_77 : zz_vok RX1 77 RX1 yX1_zeros cX1_zeros 4 (some .int) 1 := ⟨zl_X1_77, zn_X1_zeros, ze_X1_zeros, zo_ValueRingModel, zc_X1_zeros, by decide +kernel⟩
theorem zv_X1_81 : zz_vok RX1 81 RX1 yX1_fail cX1_fail 2 (some .int) 1 := ⟨zl_X1_81, zn_X1_fail, ze_X1_fail, zo_ValueRingModel, zc_X1_fail, by decide +kernel⟩
theorem zv_X1_87 : zz_vok RX1 87 RX1 yX1_raise cX1_raise 7 none 2 := ⟨zl_X1_87, zn_X1_raise, ze_X1_raise, zo_ValueRingModel, zc_X1_raise, by decide +kernel⟩
theorem zv_X1_73 : zz_vok RX1 73 RX1 yX1_times cX1_times 6 none 2 := ⟨zl_X1_73, zn_X1_times, ze_X1_times, zo_ValueRingModel, zc_X1_times, by decide +kernel⟩
theorem zv_L_94 : zz_vok RL 94 RX1 yX1_turn cX1_turn 4 (some .int) 3 := ⟨zl_L_94, zn_X1_turn, ze_X1_turn, zo_ValueRingModel, zc_X1_turn, by decide +kernel⟩
theorem zu_X1_91 : zz_sok RX1 91 yJ9_floorMod_7cf53 cJ9_floorMod_7cf53 3 (some .int) 2 := ⟨zl_X1_91, zs_J9_floorMod_7cf53, zo_java_lang_Math, zc_J9_floorMod_7cf53, by decide +kernel⟩
theorem zv_X1_96 : zz_vok RX1 96 RX1 yX1_turn1 cX1_turn1 4 none 1 := ⟨zl_X1_96, zn_X1_turn1, ze_X1_turn1, zo_ValueRingModel, zc_X1_turn1, by decide +kernel⟩
theorem zv_L_97 : zz_vok RL 97 RX1 yX1_power cX1_power 4 (some .int) 3 := ⟨zl_L_97, zn_X1_power, ze_X1_power, zo_ValueRingModel, zc_X1_power, by decide +kernel⟩
theorem zv_L_100 : zz_vok RL 100 RX1 yX1_root cX1_root 8 (some .long) 2 := ⟨zl_L_100, zn_X1_root, ze_X1_root, zo_ValueRingModel, zc_X1_root, by decide +kernel⟩
theorem zv_L_103 : zz_vok RL 103 RX1 yX1_order cX1_order 4 (some .int) 1 := ⟨zl_L_103, zn_X1_order, ze_X1_order, zo_ValueRingModel, zc_X1_order, by decide +kernel⟩
theorem zv_X1_100 : zz_vok RX1 100 RX1 yX1_one cX1_one 3 (some .boolean) 0 := ⟨zl_X1_100, zn_X1_one, ze_X1_one, zo_ValueRingModel, zc_X1_one, by decide +kernel⟩
theorem zv_L_106 : zz_vok RL 106 RX1 yX1_about cX1_about 7 (some .int) 2 := ⟨zl_L_106, zn_X1_about, ze_X1_about, zo_ValueRingModel, zc_X1_about, by decide +kernel⟩
theorem zv_L_109 : zz_vok RL 109 RX1 yX1_same cX1_same 4 (some .boolean) 2 := ⟨zl_L_109, zn_X1_same, ze_X1_same, zo_ValueRingModel, zc_X1_same, by decide +kernel⟩
theorem zv_L_112 : zz_vok RL 112 RX1 yX1_divides cX1_divides 4 (some .boolean) 2 := ⟨zl_L_112, zn_X1_divides, ze_X1_divides, zo_ValueRingModel, zc_X1_divides, by decide +kernel⟩
theorem zv_L_116 : zz_vok RL 116 RX1 yX1_count cX1_count 4 (some .int) 1 := ⟨zl_L_116, zn_X1_count, ze_X1_count, zo_ValueRingModel, zc_X1_count, by decide +kernel⟩
