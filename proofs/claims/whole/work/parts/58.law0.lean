/-! the law's wrappers: what they start from, calls of methods with a table of handlers; my own -/
def zl_env (A : Nat → Prop) (U : State) : Prop := zx_env A U ∧ zs_env A U ∧ (va_Nw (.castable zx_IA zx_IA) U ∧ va_Nw (.castable zx_NS zx_NS) U ∧ va_Nw (.castable zx_IS zx_IS) U) ∧ va_Nc zx_IA zx_NS U ∧ va_Nc zx_IS zx_NS U ∧ va_Nc zx_IS zx_IA U
theorem zl_env.go {A : Nat → Prop} {s U : State} {H : Heap} {locs : List Loc} (h : zl_env A s) (hW : s.WarmedH U.vm) (hU : U.heap = H) (hS : va_S A s.heap H locs) : zl_env A U := by
  obtain ⟨h1, h2, ⟨h3, h4, h5⟩, h6, h7, h8⟩ := h
  exact ⟨h1.go hW hU hS, h2.go hW.alike hU hS, ⟨va_Nw.warmC hW h3, va_Nw.warmC hW h4, va_Nw.warmC hW h5⟩, va_Nc.moved hW.alike h6, va_Nc.moved hW.alike h7, va_Nc.moved hW.alike h8⟩
theorem zl_env.narrow {A B : Nat → Prop} {s : State} (h : zl_env A s) (hAB : ∀ q, B q → A q) : zl_env B s := ⟨h.1.narrow hAB, h.2.1.narrow hAB, h.2.2⟩
theorem zl_env.calling {A : Nat → Prop} {U : State} {g : JFrame} {mk : MethodId} {a : Array Value} (h : zl_env A U) : zl_env A (U.calling g mk a) := by
  obtain ⟨h1, h2, ⟨h3, h4, h5⟩, h6, h7, h8⟩ := h
  exact ⟨h1.calling, h2.calling, ⟨va_Nw.same rfl (rfl : U.vm = (U.calling g mk a).vm) h3, va_Nw.same rfl (rfl : U.vm = (U.calling g mk a).vm) h4, va_Nw.same rfl (rfl : U.vm = (U.calling g mk a).vm) h5⟩, va_Nc.moved (Vm.Alike.refl U.vm) h6, va_Nc.moved (Vm.Alike.refl U.vm) h7, va_Nc.moved (Vm.Alike.refl U.vm) h8⟩
def zl_pre (D : va_G) (cl : List vw_C) (tys : List (ClassId × FieldType)) (ws : va_W) (sz : Nat) (av : List Value) : Array Value → State → Prop := va_Pc av (fun U => U.heap.size = sz ∧ va_P D cl ws U.heap ∧ va_K D cl tys U ∧ va_D (fun _ => True) ws ∧ zl_env (va_A ws sz) U)
def zl_rm : Room := { frames := 9, cells := 1, slots := 6, locals := 200 }
/-- S, P, V of the class; out -/
abbrev zl_U : Type := (Nat → Int32) × (Nat → Nat) × (Nat → Nat → Nat) × (Nat → Int64)
def zl_w (cA cR cL : ClassId) (wr : va_W) (ad : Nat → Nat) (o k : Nat) (u : zl_U) : va_W := zc_w cA cR ad k (zk_n k) (zk_t k) (zk_z k) (zk_i k) u.1 u.2.1 u.2.2.1 ++ ((o, .inl (cL, 1, .inr (.inl u.2.2.2))) :: wr)
/-- a wrapper's contract: it answers x; if that is 0, out holds a; what the class holds then is as pv says -/
def zl_C (l : Launch) (dC : Nat → ClassId) (dI : Nat → Nat → Nat) (cA cR cL : ClassId) (tr : List (ClassId × FieldType)) (wr : va_W) (ad : Nat → Nat) (o k : Nat) (u0 : zl_U) (sz : Nat) (y : MethodName) (ws : List Cond) (av : List Value) (x : Nat) (a : Int64) (k1 : Nat) (pv : (Nat → Nat) → (Nat → Nat → Nat) → Prop) : Prop :=
  Met l y ws zl_rm (zl_pre (dC, dI) zz_cl ((cA, .int) :: (cR, .array .int) :: (cL, .long) :: tr) (zl_w cA cR cL wr ad o k u0) sz av) (va_Qi (fun r (u : zl_U) => r = nI x ∧ (x = 0 → u.2.2.2 0 = a) ∧ pv u.2.1 u.2.2.1) (zw_at (dC, dI) zz_cl ((cA, .int) :: (cR, .array .int) :: (cL, .long) :: tr) (va_A (zl_w cA cR cL wr ad o k u0) sz) (fun u : zl_U => zl_w cA cR cL wr ad o k1 u)) (va_A (zl_w cA cR cL wr ad o k u0) sz)) 1 6 (va_A (zl_w cA cR cL wr ad o k u0) sz)
section ZLW
variable {p : Program} {l : Launch} {e : Env} {R : Room} {s : State} {m : MethodId} {args : Array Value} {below : List Frame} {meth : Method} {c : Code} {H : Heap} {locs : List Loc} {cells slots : Nat} {Q : State → Prop}
variable {cc : ByteArray} {pc : Nat} {ls : Array Slot} {rest : List Value} {D : va_G} {cl : List vw_C} {A : Nat → Prop} {a : Nat} {tys : List (ClassId × FieldType)} {ws : va_W} {H0 : Heap}
theorem zl_blind {av : List Value} {sz : Nat} : FrameBlind (zl_pre D cl tys ws sz av) := fun a U g mk q => by
  obtain ⟨q0, q1, qP, qK, qD, qE⟩ := q
  exact ⟨q0, q1, qP, va_K.moved (u := U) (U := U.calling g mk a) (Vm.Alike.refl U.vm) qK, qD, qE.calling⟩
theorem zl_preS {As : List Value} (hP : va_P D cl ws H) (hK : va_K D cl tys s) (hD : va_D A ws) (hE : zl_env A s) (hS : va_S A s.heap H locs) (hA : ∀ q, s.heap.size ≤ q → A q) : PreS s H (zl_pre D cl tys ws H.size As) As :=
  ⟨zl_blind, fun U hU hW => ⟨rfl, by rw [hU], by rw [hU]; exact hP, va_K.moved hW.alike hK, hD.weaken (fun _ _ _ _ => trivial), (hE.go hW hU hS).narrow (zw_free hD hS hA)⟩⟩
theorem zt_preV {As : List Value} {b q0 ci : Nat} {q : vw_C} {fs : List Value} (hP : va_P D cl ws H) (hK : va_K D cl tys s) (hD : va_D A ws) (hE : zx_env A s) (hS : va_S A s.heap H locs) (hA : ∀ q, s.heap.size ≤ q → A q) (hc : cl[ci]? = some q) (he : ws[q0]? = some (b, .inr (ci, fs))) : PreV s H q.1 b (zt_pre D cl tys ws H.size (.ref b :: As)) As :=
  ⟨zt_blind, va_recv hK hP hc he, fun U hU hW => ⟨rfl, by rw [hU], by rw [hU]; exact hP, va_K.moved hW.alike hK, hD.weaken (fun _ _ _ _ => trivial), (hE.go hW hU hS).narrow (zw_free hD hS hA)⟩⟩
theorem zb_preV {As : List Value} {b q0 ci : Nat} {q : vw_C} {fs : List Value} (hP : va_P D cl ws H) (hK : va_K D cl tys s) (hE : zx_env A s) (hZ : zs_env A s) (hS : va_S A s.heap H locs) (hc : cl[ci]? = some q) (he : ws[q0]? = some (b, .inr (ci, fs))) : PreV s H q.1 b (zb_pre D cl tys ws A (.ref b :: As)) As :=
  ⟨zb_blind, va_recv hK hP hc he, fun U hU hW => ⟨rfl, by rw [hU]; exact hP, va_K.moved hW.alike hK, hE.go hW hU hS, hZ.go hW.alike hU hS⟩⟩
/-- a static method with a table of handlers is called: what runs -/
theorem zx_runSW {nL maxL n idx : Nat} {own : String} {y : MethodName} {bytes : ByteArray} {ret : Option FieldType} {hh : List (Nat × Nat × Nat × Nat)} {rm : Room} {Pc : Array Value → State → Prop} {Qc : Array Value → State → Outcome → State → Prop} {mc ms : Nat} {free : Addr → Prop} {As : List Value} {st0 : List Value} {c0 : Cond} (hexec : p.tables.exec = Jvm.exec) (hb : c.code = cc) (hml : c.maxLocals = nL) (hts : ∀ w ∈ c0 :: zz_w, w.before args s = true) (hown : s.vm.findClass own = some m.cls)
    (hM : Met l y (Cond.codeWith y bytes maxL ret hh :: zz_w) rm Pc Qc mc ms free) (h1 : Cond.methodLink own idx y ∈ zz_w) (h2 : Cond.static y ∈ zz_w) (h4 : Cond.initialized y.cls ∈ zz_w) (h5 : Cond.codeWith y bytes maxL ret hh ∈ zz_w) (hd : y.cls ≠ "java/lang/invoke/MethodHandle" ∧ y.cls ≠ "java/lang/invoke/VarHandle" ∧ (parseMethodDescriptor y.desc).map (fun d => d.parameters.length) = some n) (hrc : rm.cells = mc) (hrs : rm.slots = ms) (hR : rm.frames + 1 ≤ R.frames ∧ 8 + (maxL + 11) + rm.locals ≤ R.locals) (hp : PreS s H Pc As) (hn : As.length = n) (hsz : ls.size = nL) (hst : st0 = As.reverse ++ rest) (hW : (rest.map fun v => v.category).sum ≤ 8) (hdg : decode cc pc = .ok (.invokestatic idx, 3)) (hcs : cells + mc ≤ R.cells ∧ slots + ms ≤ R.slots) :
    va_Run p l e R s m args below meth c H locs cells slots mc ms (F0 m pc ls st0) rest (Qc As.toArray) free :=
  vx_runSW ⟨hexec, hb, hml, hown, hts⟩ hM (vx_cwSW n hts (zz_S h1 h2 h4 h5) rfl hrc hrs hd hR) hp rfl hn hsz hst (lv_room hW) hdg hcs
/-- a cell more, nothing else: the world stands -/
theorem zl_more {H1 : Heap} (hP : va_P D cl ws H) (hS : va_S A H0 H locs) (hz : H.size ≤ H1.size) (hk : ∀ q : Nat, q < H.size → H1[q]? = H[q]?) : va_P D cl ws H1 ∧ va_S A H0 H1 locs :=
  ⟨hP.kept (fun k q h => hk q.1 ((hP k q h).lt)), Nat.le_trans hS.1 hz, fun q h1 h2 => (hk q (Nat.lt_of_lt_of_le h1 hS.1)).trans (hS.2.1 q h1 h2), hS.2.2⟩
/-- out[0] = x -/
theorem zr_last0 (hexec : p.tables.exec = Jvm.exec) (hb : c.code = cc) (hK : va_K D cl tys s) (hP : va_P D cl ws H) (hD : va_D A ws) (hS : va_S A H0 H locs) (q0 t0 : Nat) {cL : ClassId} {f : Nat → Int64} (ha : ws[q0]? = some (a, .inl (cL, 1, .inr (.inl f)))) (ht : tys[t0]? = some (cL, .long)) {x : Int64} (hdg : decode cc pc = .ok (.lastore, 1))
    {ws' : va_W} (hw : ws.set q0 (a, .inl (cL, 1, .inr (.inl (vp_updL f 0 x)))) = ws')
    (kk : ∀ (H1 : Heap) (locs1 : List Loc), va_P D cl ws' H1 → va_D A ws' → va_S A H0 H1 locs1 → W p l e R s m args below meth c H1 locs1 cells slots Q (F0 m (pc + 1) ls rest)) : W p l e R s m args below meth c H locs cells slots Q (F0 m pc ls (.long x :: .int (nI 0) :: .ref a :: rest)) := by
  refine va_last hexec hb hK hP hD hS q0 t0 ha ht (vp_in_nI (show 0 < 1 by decide) (by decide)) hdg (fun H1 locs1 h1 h2 h3 => ?_)
  rw [nI_clamp (by decide), hw] at h1 h2
  exact kk H1 locs1 h1 h2 h3
/-- a call of a method that throws out of a world that it may have written -/
theorem zx_callXS {S : Type} {px : S → Prop} {w' : S → va_W} {nL maxL n idx b : Nat} {own C E : String} {y : MethodName} {bytes : ByteArray} {ret : Option FieldType} {rm : Room} {Pc : Array Value → State → Prop} {As : List Value} {st0 : List Value} {c0 : Cond} (hexec : p.tables.exec = Jvm.exec) (hb : c.code = cc) (hml : c.maxLocals = nL) (hts : ∀ w ∈ c0 :: zz_w, w.before args s = true) (hown : s.vm.findClass own = some m.cls) (hD : va_D A ws) (hS : va_S A H0 H locs) (hA : ∀ q, H0.size ≤ q → A q)
    (hM : vx_Met l y (Cond.code y bytes maxL ret :: zz_w) rm Pc zx_no (vx_X px (fun E1 u t8 => E1 = E ∧ zw_at D cl tys (va_A ws H.size) w' u t8) (va_A ws H.size)) 1 6 (va_A ws H.size)) (hv : zz_vok own idx C y bytes maxL ret n) (hrc : rm.cells = 1) (hrs : rm.slots = 6) (hR : rm.frames + 1 ≤ R.frames ∧ 8 + (maxL + 11) + rm.locals ≤ R.locals) (hp : PreV s H C b Pc As) (hn : As.length = n) (hsz : ls.size = nL) (hst : st0 = As.reverse ++ .ref b :: rest) (hW : (rest.map fun v => v.category).sum ≤ 8) (hdg : decode cc pc = .ok (.invokevirtual idx, 3)) (hcs : cells + 1 ≤ R.cells ∧ slots + 6 ≤ R.slots)
    (kx : ∀ (ce : Cell) (q9 : Addr) (u : S) (H1 : Heap) (locs1 : List Loc), H1[q9]? = some ce → ce.vm = .none → s.vm.findClass E = some ce.cls → px u → va_P D cl (w' u) H1 → va_D A (w' u) → va_S A H0 H1 locs1 → vx_W p l e R s m args below meth c H1 locs1 (cells + 1) (slots + 6) Q (F0 m pc ls rest) q9) : W p l e R s m args below meth c H locs cells slots Q (F0 m pc ls st0) := by
  obtain ⟨h1, h2, h3, h4, h5, hd⟩ := hv
  have hF := zw_free hD hS hA
  have hr := vx_runV (R := R) (H := H) (locs := locs) (cells := cells) (slots := slots) (below := below) (e := e) (meth := meth) (g := F0 m pc ls st0) (rest := rest) ⟨hexec, hb, hml, hown, hts⟩ hM (cwV n hts (zz_V h1 h2 h3 h4 h5) rfl hrc hrs hd hR) hp rfl hn hsz hst (lv_room hW) hdg hcs
  intro T hT X
  rcases hr T hT X with ⟨v, st₀, t, T', L, h0, X', hL, e1, e2, hq, st⟩ | ⟨q, st₀, t, T', L, E', ce, h0, X', hL, e1, e2, hK, hce, hcv, hcl, st⟩
  · exact hq.elim
  · obtain ⟨u, hpu, ⟨rfl, hP1, _, hD1⟩, hFt⟩ := hK
    have hS1 : va_S A H0 T'.heap (locs ++ L) := by
      rw [e1]
      refine ⟨Nat.le_trans hS.1 (by rw [← h0]; exact hFt.1), fun q h1 h2 => ?_, fun z hz => ?_⟩
      · rw [hFt.2 q (by rw [h0]; exact Nat.lt_of_lt_of_le h1 hS.1) (fun h9 => h2 (hF q h9)), h0]
        exact hS.2.1 q h1 h2
      · rcases List.mem_append.mp hz with hz | hz
        · exact hS.2.2 z hz
        · exact hF _ (hL z hz)
    obtain ⟨t2, a1, b1⟩ := kx ce q u T'.heap (locs ++ L) (by rw [e1]; exact hce) hcv hcl hpu (by rw [e1]; exact hP1) (hD1.weaken (fun k q _ h => hF q.1 h)) hS1 T' rfl X'
    exact ⟨t2, st.trans a1, b1⟩
end ZLW
def zhL_begin : List (Nat × Nat × Nat × Nat) := [((0 : Nat), (9 : Nat), (12 : Nat), (13 : Nat))]
abbrev wqL_begin : List Cond := Cond.codeWith yL_begin cL_begin 4 (some .int) zhL_begin :: zz_w
theorem zdL_begin : Cond.codeWith yL_begin cL_begin 4 (some .int) zhL_begin ∈ zz_w := by decide +kernel
def zhL_set : List (Nat × Nat × Nat × Nat) := [((0 : Nat), (12 : Nat), (15 : Nat), (19 : Nat))]
abbrev wqL_set : List Cond := Cond.codeWith yL_set cL_set 6 (some .int) zhL_set :: zz_w
theorem zdL_set : Cond.codeWith yL_set cL_set 6 (some .int) zhL_set ∈ zz_w := by decide +kernel
def zhL_get : List (Nat × Nat × Nat × Nat) := [((0 : Nat), (10 : Nat), (13 : Nat), (19 : Nat))]
abbrev wqL_get : List Cond := Cond.codeWith yL_get cL_get 5 (some .int) zhL_get :: zz_w
theorem zdL_get : Cond.codeWith yL_get cL_get 5 (some .int) zhL_get ∈ zz_w := by decide +kernel
def zhL_setValue : List (Nat × Nat × Nat × Nat) := [((0 : Nat), (12 : Nat), (15 : Nat), (19 : Nat))]
abbrev wqL_setValue : List Cond := Cond.codeWith yL_setValue cL_setValue 6 (some .int) zhL_setValue :: zz_w
theorem zdL_setValue : Cond.codeWith yL_setValue cL_setValue 6 (some .int) zhL_setValue ∈ zz_w := by decide +kernel
def zhL_value : List (Nat × Nat × Nat × Nat) := [((0 : Nat), (10 : Nat), (13 : Nat), (19 : Nat))]
abbrev wqL_value : List Cond := Cond.codeWith yL_value cL_value 5 (some .int) zhL_value :: zz_w
theorem zdL_value : Cond.codeWith yL_value cL_value 5 (some .int) zhL_value ∈ zz_w := by decide +kernel
def zhL_join : List (Nat × Nat × Nat × Nat) := [((0 : Nat), (14 : Nat), (17 : Nat), (19 : Nat)), ((0 : Nat), (14 : Nat), (21 : Nat), (13 : Nat)), ((0 : Nat), (14 : Nat), (25 : Nat), (35 : Nat))]
abbrev wqL_join : List Cond := Cond.codeWith yL_join cL_join 7 (some .int) zhL_join :: zz_w
theorem zdL_join : Cond.codeWith yL_join cL_join 7 (some .int) zhL_join ∈ zz_w := by decide +kernel
def zhL_turn : List (Nat × Nat × Nat × Nat) := [((0 : Nat), (12 : Nat), (15 : Nat), (19 : Nat)), ((0 : Nat), (12 : Nat), (19 : Nat), (13 : Nat))]
abbrev wqL_turn : List Cond := Cond.codeWith yL_turn cL_turn 6 (some .int) zhL_turn :: zz_w
theorem zdL_turn : Cond.codeWith yL_turn cL_turn 6 (some .int) zhL_turn ∈ zz_w := by decide +kernel
def zhL_power : List (Nat × Nat × Nat × Nat) := [((0 : Nat), (12 : Nat), (15 : Nat), (19 : Nat)), ((0 : Nat), (12 : Nat), (19 : Nat), (35 : Nat))]
abbrev wqL_power : List Cond := Cond.codeWith yL_power cL_power 6 (some .int) zhL_power :: zz_w
theorem zdL_power : Cond.codeWith yL_power cL_power 6 (some .int) zhL_power ∈ zz_w := by decide +kernel
def zhL_root : List (Nat × Nat × Nat × Nat) := [((0 : Nat), (9 : Nat), (12 : Nat), (19 : Nat)), ((0 : Nat), (9 : Nat), (16 : Nat), (35 : Nat))]
abbrev wqL_root : List Cond := Cond.codeWith yL_root cL_root 5 (some .int) zhL_root :: zz_w
theorem zdL_root : Cond.codeWith yL_root cL_root 5 (some .int) zhL_root ∈ zz_w := by decide +kernel
def zhL_order : List (Nat × Nat × Nat × Nat) := [((0 : Nat), (9 : Nat), (12 : Nat), (19 : Nat))]
abbrev wqL_order : List Cond := Cond.codeWith yL_order cL_order 4 (some .int) zhL_order :: zz_w
theorem zdL_order : Cond.codeWith yL_order cL_order 4 (some .int) zhL_order ∈ zz_w := by decide +kernel
def zhL_about : List (Nat × Nat × Nat × Nat) := [((0 : Nat), (10 : Nat), (13 : Nat), (19 : Nat)), ((0 : Nat), (10 : Nat), (17 : Nat), (13 : Nat))]
abbrev wqL_about : List Cond := Cond.codeWith yL_about cL_about 5 (some .int) zhL_about :: zz_w
theorem zdL_about : Cond.codeWith yL_about cL_about 5 (some .int) zhL_about ∈ zz_w := by decide +kernel
def zhL_same : List (Nat × Nat × Nat × Nat) := [((0 : Nat), (17 : Nat), (20 : Nat), (19 : Nat))]
abbrev wqL_same : List Cond := Cond.codeWith yL_same cL_same 5 (some .int) zhL_same :: zz_w
theorem zdL_same : Cond.codeWith yL_same cL_same 5 (some .int) zhL_same ∈ zz_w := by decide +kernel
def zhL_divides : List (Nat × Nat × Nat × Nat) := [((0 : Nat), (17 : Nat), (20 : Nat), (19 : Nat))]
abbrev wqL_divides : List Cond := Cond.codeWith yL_divides cL_divides 5 (some .int) zhL_divides :: zz_w
theorem zdL_divides : Cond.codeWith yL_divides cL_divides 5 (some .int) zhL_divides ∈ zz_w := by decide +kernel
