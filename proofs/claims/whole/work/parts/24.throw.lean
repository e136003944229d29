/-! what is thrown: the words, the statics and strings that a throw needs; calls that throw; my own rows over the printed ones -/
abbrev zx_IA : String := "java/lang/IllegalArgumentException"
abbrev zx_NS : String := "java/util/NoSuchElementException"
abbrev zx_IS : String := "java/lang/IllegalStateException"
abbrev zx_dc : List Cond := [.declares (Bundle.initS "java/lang/RuntimeException"), .declares (Bundle.initS "java/lang/Exception"), .declares (Bundle.initS Bundle.tN)]
def zx_strs : List (Nat × String) := [(30, "no such kind"), (64, "no such operation"), (77, "an even turn"), (97, "no square"), (119, "no such question"), (148, "no such register"), (151, "no such place"), (153, "no unit")]
def zx_ok (ik ic i1 : Nat) (by1 : ByteArray) (X : String) : Prop := Bundle.fit X = true ∧ (decode by1 0 = .ok (.aload_n 0, 1) ∧ decode by1 1 = .ok (.aload_n 1, 1) ∧ decode by1 2 = .ok (.invokespecial i1, 3) ∧ decode by1 5 = .ok (.return_, 1)) ∧ Cond.classLink RX0 ik X ∈ zz_w ∧ Cond.initialized X ∈ zz_w ∧ (∀ w ∈ ((zx_at RX0 ic X i1 by1).filter vx_no).filter goodWord, w ∈ zz_w) ∧ (∀ w ∈ ((zx_at RX0 ic X i1 by1).filter vx_no).filter (fun w => !goodWord w), w ∈ zx_dc) ∧ (∀ w ∈ Cond.classLink RX0 ik X :: Cond.initialized X :: (zx_at RX0 ic X i1 by1).filter vx_no, vx_ot w = true)
theorem zx_okIA : zx_ok 28 32 7 prog_5_method_2_code zx_IA := ⟨by decide +kernel, by decide +kernel, by decide +kernel, by decide +kernel, by decide +kernel, by decide +kernel, by decide +kernel⟩
theorem zx_okNS : zx_ok 146 150 13 prog_13_method_4_code zx_NS := ⟨by decide +kernel, by decide +kernel, by decide +kernel, by decide +kernel, by decide +kernel, by decide +kernel, by decide +kernel⟩
theorem zx_okIS : zx_ok 95 99 7 prog_6_method_2_code zx_IS := ⟨by decide +kernel, by decide +kernel, by decide +kernel, by decide +kernel, by decide +kernel, by decide +kernel, by decide +kernel⟩
def zx_env (A : Nat → Prop) (U : State) : Prop := vx_Zq Bundle.tN "UNASSIGNED_STACK" Bundle.steD A U U.heap ∧ vx_Zq Bundle.tN "SUPPRESSED_SENTINEL" Bundle.listD A U U.heap ∧ (∀ w ∈ zx_dc, va_Nw w U) ∧ ∀ q ∈ zx_strs, ∃ a, vk_R RX0 q.1 q.2 a U
theorem zx_dct : ∀ w ∈ zx_dc, w.onTables = true := by decide
theorem zx_dcw {s U : State} (hW : s.WarmedH U.vm) {w : Cond} (hw : w ∈ zx_dc) (h : va_Nw w s) : va_Nw w U := by
  rcases List.mem_cons.mp hw with rfl | hw
  · exact va_Nw.warmD hW h
  rcases List.mem_cons.mp hw with rfl | hw
  · exact va_Nw.warmD hW h
  rcases List.mem_cons.mp hw with rfl | hw
  · exact va_Nw.warmD hW h
  · cases hw
theorem zx_env.go {A : Nat → Prop} {s U : State} {H : Heap} {locs : List Loc} (h : zx_env A s) (hW : s.WarmedH U.vm) (hU : U.heap = H) (hS : va_S A s.heap H locs) : zx_env A U := by
  obtain ⟨h1, h2, h3, h4⟩ := h
  refine ⟨?_, ?_, fun w hw => zx_dcw hW hw (h3 w hw), fun q hq => ?_⟩
  · rw [hU]; exact vx_Zq.moved hW.alike (h1.kept hS.2.1)
  · rw [hU]; exact vx_Zq.moved hW.alike (h2.kept hS.2.1)
  · obtain ⟨a, ha⟩ := h4 q hq
    exact ⟨a, vk_R.warm hW ha⟩
theorem zx_env.narrow {A B : Nat → Prop} {s : State} (h : zx_env A s) (hAB : ∀ q, B q → A q) : zx_env B s := ⟨h.1.narrow hAB, h.2.1.narrow hAB, h.2.2⟩
theorem zx_env.calling {A : Nat → Prop} {U : State} {g : JFrame} {mk : MethodId} {a : Array Value} (h : zx_env A U) : zx_env A (U.calling g mk a) :=
  ⟨vx_Zq.moved (Vm.Alike.refl U.vm) h.1, vx_Zq.moved (Vm.Alike.refl U.vm) h.2.1, fun w hw => va_Nw.same (zx_dct w hw) (rfl : U.vm = (U.calling g mk a).vm) (h.2.2.1 w hw), fun q hq => by
    obtain ⟨b, hb⟩ := h.2.2.2 q hq
    exact ⟨b, vk_R.same (rfl : (U.calling g mk a).vm = U.vm) hb⟩⟩
/-- thrown: the class; every cell that was there is there as it was -/
def zx_K (E0 : String) : String → State → State → Prop := fun E st t => E = E0 ∧ st.heap.size ≤ t.heap.size ∧ ∀ q : Nat, q < st.heap.size → t.heap[q]? = st.heap[q]?
def zx_rm (f n : Nat) : Room := { frames := f, cells := 1, slots := 6, locals := n }
abbrev zx_no : Array Value → State → Outcome → State → Prop := fun _ _ _ _ => False
def zx_pre (D : va_G) (cl : List vw_C) (tys : List (ClassId × FieldType)) (ws : va_W) (A : Nat → Prop) (av : List Value) : Array Value → State → Prop := va_Pc av (fun U => va_P D cl ws U.heap ∧ va_K D cl tys U ∧ zx_env A U)
def zr_QV : Array Value → State → Outcome → State → Prop := fun _ st o t => o = .returned none ∧ t.heap = st.heap
section ZT
variable {p : Program} {l : Launch} {e : Env} {R : Room} {s : State} {m : MethodId} {args : Array Value} {below : List Frame} {meth : Method} {c : Code} {H : Heap} {locs : List Loc} {cells slots : Nat} {Q : State → Prop}
variable {cc : ByteArray} {pc : Nat} {ls : Array Slot} {rest : List Value} {D : va_G} {cl : List vw_C} {A : Nat → Prop} {a : Nat} {tys : List (ClassId × FieldType)} {ws : va_W} {H0 : Heap}
theorem zx_blind {av : List Value} : FrameBlind (zx_pre D cl tys ws A av) := fun a U g mk q => by
  obtain ⟨q0, qP, qK, qE⟩ := q
  exact ⟨q0, qP, va_K.moved (u := U) (U := U.calling g mk a) (Vm.Alike.refl U.vm) qK, qE.calling⟩
theorem zx_preV {As : List Value} {b q0 ci : Nat} {q : vw_C} {fs : List Value} (hP : va_P D cl ws H) (hK : va_K D cl tys s) (hE : zx_env A s) (hS : va_S A s.heap H locs) (hc : cl[ci]? = some q) (he : ws[q0]? = some (b, .inr (ci, fs))) : PreV s H q.1 b (zx_pre D cl tys ws A (.ref b :: As)) As :=
  ⟨zx_blind, va_recv hK hP hc he, fun U hU hW => ⟨rfl, by rw [hU]; exact hP, va_K.moved hW.alike hK, hE.go hW hU hS⟩⟩
theorem zr_calln {st0 : List Value} {aa : Array Value} (hr : va_Run p l e R s m args below meth c H locs cells slots 0 0 (F0 m pc ls st0) rest (zr_QV aa) (fun _ => False))
    (kk : W p l e R s m args below meth c H locs cells slots Q (F0 m (pc + 3) ls rest)) : W p l e R s m args below meth c H locs cells slots Q (F0 m pc ls st0) := by
  intro T hT X
  obtain ⟨v, st₀, t, T', L, h0, X', hL, e1, e2, ⟨hv, hh⟩, st⟩ := hr T hT X
  cases hv
  obtain ⟨t2, a1, b1⟩ := kk T' (by rw [e1, hh, h0]) (Stand.forget X' (fun q h => (hL q h).elim))
  exact ⟨t2, st t2 a1, b1⟩
/-- throw new X("text") -/
theorem zx_throw {Qc : Array Value → State → Outcome → State → Prop} {XC : String → State → State → Prop} {free : Addr → Prop} {ik is ic i1 mc ms : Nat} {by1 : ByteArray} {X text : String} {c0 : Cond} (hexec : p.tables.exec = Jvm.exec) (hb : c.code = cc) (hl : l.stackTraces = false) (hts : ∀ w ∈ c0 :: zz_w, w.before args s = true) (hown : s.vm.findClass RX0 = some m.cls) (hE : zx_env A s) (hS : va_S A s.heap H locs) (hok : zx_ok ik ic i1 by1 X) (hstr : (is, text) ∈ zx_strs) (hsize : ls.size = c.maxLocals)
    (d0 : decode cc pc = .ok (.new ik, 3)) (d3 : decode cc (pc + 3) = .ok (.dup, 1)) (d4 : decode cc (pc + 4) = .ok (.ldc is, 2)) (d6 : decode cc (pc + 6) = .ok (.invokespecial ic, 3)) (d9 : decode cc (pc + 9) = .ok (.athrow, 1))
    (hout : ∀ x ∈ c.exceptionTable.toList, covers x (pc + 9) = false) (hRf : 5 < R.frames) (hRl : (rest.map fun v => v.category).sum + 82 ≤ R.locals) (hRc : cells + 1 ≤ R.cells) (hRs : slots + 6 ≤ R.slots) (hlocks : meth.locks = false)
    (hx : ∀ t : State, s.vm.Alike t.vm → H.size ≤ t.heap.size → (∀ q : Nat, q < H.size → t.heap[q]? = H[q]?) → XC X s t)
    (hf : ∀ z ∈ locs, free z.base) (hc : cells + 1 ≤ mc) (hs : slots + 6 ≤ ms) :
    W p l e R s m args below meth c H locs cells slots (vx_MQ below Qc XC args s mc ms free) (F0 m pc ls rest) := by
  obtain ⟨h1, ⟨b0, b1, b2, b5⟩, h2, h3, h4, h5, h6⟩ := hok
  obtain ⟨sa, hsa⟩ := hE.2.2.2 _ hstr
  exact zx_throwS hexec hb hl hown h1 b0 b1 b2 b5 (hts _ (List.mem_cons_of_mem _ h2)) (hts _ (List.mem_cons_of_mem _ h3)) hsa (vx_hat (fun w h => hts w (List.mem_cons_of_mem _ (h4 w h))) h5 (fun w hw => va_Nw.use (zx_dct w hw) (hE.2.2.1 w hw))) h6 hE.1 hE.2.1 hS hsize d0 d3 d4 d6 d9 hout hRf hRl hRc hRs hlocks hx hf hc hs
/-- a call that throws -/
theorem zx_callX {nL maxL n idx b : Nat} {own C E : String} {y : MethodName} {bytes : ByteArray} {ret : Option FieldType} {rm : Room} {Pc : Array Value → State → Prop} {As : List Value} {st0 : List Value} {c0 : Cond} (hexec : p.tables.exec = Jvm.exec) (hb : c.code = cc) (hml : c.maxLocals = nL) (hts : ∀ w ∈ c0 :: zz_w, w.before args s = true) (hown : s.vm.findClass own = some m.cls)
    (hM : vx_Met l y (Cond.code y bytes maxL ret :: zz_w) rm Pc zx_no (zx_K E) 1 6 (fun _ => False)) (hv : zz_vok own idx C y bytes maxL ret n) (hrc : rm.cells = 1) (hrs : rm.slots = 6) (hR : rm.frames + 1 ≤ R.frames ∧ 8 + (maxL + 11) + rm.locals ≤ R.locals) (hp : PreV s H C b Pc As) (hn : As.length = n) (hsz : ls.size = nL) (hst : st0 = As.reverse ++ .ref b :: rest) (hW : (rest.map fun v => v.category).sum ≤ 8) (hdg : decode cc pc = .ok (.invokevirtual idx, 3)) (hcs : cells + 1 ≤ R.cells ∧ slots + 6 ≤ R.slots)
    (kx : ∀ (ce : Cell) (q9 : Addr) (H1 : Heap), H.size ≤ H1.size → (∀ q : Nat, q < H.size → H1[q]? = H[q]?) → H1[q9]? = some ce → ce.vm = .none → s.vm.findClass E = some ce.cls → vx_W p l e R s m args below meth c H1 locs (cells + 1) (slots + 6) Q (F0 m pc ls rest) q9) : W p l e R s m args below meth c H locs cells slots Q (F0 m pc ls st0) := by
  obtain ⟨h1, h2, h3, h4, h5, hd⟩ := hv
  have hr := vx_runV (R := R) (H := H) (locs := locs) (cells := cells) (slots := slots) (below := below) (e := e) (meth := meth) (g := F0 m pc ls st0) (rest := rest) ⟨hexec, hb, hml, hown, hts⟩ hM (cwV n hts (zz_V h1 h2 h3 h4 h5) rfl hrc hrs hd hR) hp rfl hn hsz hst (lv_room hW) hdg hcs
  intro T hT X
  rcases hr T hT X with ⟨v, st₀, t, T', L, h0, X', hL, e1, e2, hq, st⟩ | ⟨q, st₀, t, T', L, E', ce, h0, X', hL, e1, e2, hK, hce, hcv, hcl, st⟩
  · exact hq.elim
  · obtain ⟨rfl, hz, hk⟩ := hK
    have hL0 : L = [] := by
      cases L with
      | nil => rfl
      | cons z L => exact (hL z List.mem_cons_self).elim
    subst hL0
    rw [List.append_nil] at X'
    rw [h0] at hz hk
    obtain ⟨t2, a1, b1⟩ := kx ce q T'.heap (by rw [e1]; exact hz) (fun q hq => by rw [e1]; exact hk q hq) (by rw [e1]; exact hce) hcv hcl T' rfl X'
    exact ⟨t2, st.trans a1, b1⟩
/-- .. and it goes on to the caller: nothing was written before -/
theorem zx_callP {nL maxL n idx b : Nat} {own C E : String} {y : MethodName} {bytes : ByteArray} {ret : Option FieldType} {rm : Room} {Pc : Array Value → State → Prop} {As : List Value} {st0 : List Value} {c0 : Cond} (hexec : p.tables.exec = Jvm.exec) (hb : c.code = cc) (hml : c.maxLocals = nL) (hts : ∀ w ∈ c0 :: zz_w, w.before args s = true) (hown : s.vm.findClass own = some m.cls) (hxt : ∀ x ∈ c.exceptionTable.toList, False) (hlocks : meth.locks = false)
    (hM : vx_Met l y (Cond.code y bytes maxL ret :: zz_w) rm Pc zx_no (zx_K E) 1 6 (fun _ => False)) (hv : zz_vok own idx C y bytes maxL ret n) (hrc : rm.cells = 1) (hrs : rm.slots = 6) (hR : rm.frames + 1 ≤ R.frames ∧ 8 + (maxL + 11) + rm.locals ≤ R.locals) (hp : PreV s s.heap C b Pc As) (hn : As.length = n) (hsz : ls.size = nL) (hst : st0 = As.reverse ++ .ref b :: rest) (hW : (rest.map fun v => v.category).sum ≤ 8) (hdg : decode cc pc = .ok (.invokevirtual idx, 3)) (hcs : 0 + 1 ≤ R.cells ∧ 0 + 6 ≤ R.slots) :
    W p l e R s m args below meth c s.heap [] 0 0 (vx_MQ below zx_no (zx_K E) args s 1 6 (fun _ => False)) (F0 m pc ls st0) :=
  zx_callX hexec hb hml hts hown hM hv hrc hrs hR hp hn hsz hst hW hdg hcs (fun ce q9 H1 hz hk hce hcv hcl => vx_out (fun x h => (hxt x h).elim) hlocks hce hcv hcl (fun t ht _ => ⟨rfl, by rw [ht]; exact hz, fun q hq => by rw [ht]; exact hk q hq⟩) (fun z h => nomatch h) (Nat.le_refl _) (Nat.le_refl _))
end ZT
