/-! the two constructors; worlds in another order; my own -/
theorem zw_mem {D : va_G} {cl : List vw_C} {ws : va_W} {H : Heap} : va_P D cl ws H ↔ ∀ q ∈ ws, va_at D cl q H :=
  ⟨fun h q hq => by obtain ⟨k, hk⟩ := List.getElem?_of_mem hq; exact h k q hk, fun h k q hk => h q (List.mem_of_getElem? hk)⟩
/-- a world whose cells are at the same places -/
theorem zw_dc {A : Nat → Prop} {ws ws' : va_W} (h : ws.map Prod.fst = ws'.map Prod.fst) (hD : va_D A ws) : va_D A ws' := by
  have key : ∀ (k : Nat) (q : Nat × va_E), ws'[k]? = some q → ∃ q0, ws[k]? = some q0 ∧ q0.1 = q.1 := fun k q hk => by
    have h1 : (ws.map Prod.fst)[k]? = some q.1 := by rw [h, List.getElem?_map, hk]; rfl
    rw [List.getElem?_map] at h1
    cases h2 : ws[k]? with
    | none => rw [h2] at h1; cases h1
    | some q0 => rw [h2] at h1; exact ⟨q0, rfl, Option.some.inj h1⟩
  refine ⟨fun i j x y hx hy hxy => ?_, fun k q hk => ?_⟩
  · obtain ⟨x0, hx0, ex⟩ := key i x hx
    obtain ⟨y0, hy0, ey⟩ := key j y hy
    exact hD.1 i j x0 y0 hx0 hy0 (by rw [ex, ey, hxy])
  · obtain ⟨q0, hq0, eq⟩ := key k q hk
    rw [← eq]
    exact hD.2 k q0 hq0
theorem zw_rotP {D : va_G} {cl : List vw_C} {a b : va_W} {H : Heap} (h : va_P D cl (a ++ b) H) : va_P D cl (b ++ a) H := va_P.swap (a := []) h
theorem zw_rotD {A : Nat → Prop} {a b : va_W} (h : va_D A (a ++ b)) : va_D A (b ++ a) := va_D.swap (a := []) h
theorem zn_arr {c : ClassId} {N : Nat} {f g : Nat → Value} (h : ∀ j, j < N → f j = g j) : arrV c N f = arrV c N g := by
  unfold arrV
  congr 1
  exact congrArg Array.ofFn (funext fun j => h j.val j.isLt)
theorem zn_z0 (c : ClassId) (N : Nat) : arrV c N (fun _ => .int 0) = vp_cell c (N, .inl (zq_I (fun _ => 0))) := by
  show _ = arrV c N (fun j => .int (nI 0))
  rw [nI_0]
theorem zn_in (c : ClassId) : Jvm.Free.Multi.innerC c 32 (defaultValue .int) = vp_cell c (32, .inl (zq_I (fun _ => 0))) := by
  rw [← zn_z0]
  exact arrV_new c 32 (.int 0)
/-- a class of arrays that was known -/
theorem zn_same {D : va_G} {cl : List vw_C} {tys : List (ClassId × FieldType)} {s : State} {k : Nat} {c c1 : ClassId} {ty : FieldType} (hty : ∀ C, ty ≠ .object C) (h : va_K D cl (tys ++ [(c1, ty)]) s) (hk : tys[k]? = some (c, ty)) : c1 = c := by
  have h1 := (h.2 tys.length (c1, ty) (by rw [List.getElem?_append_right (Nat.le_refl _), Nat.sub_self]; rfl)).2
  have hl : k < tys.length := (List.getElem?_eq_some_iff.mp hk).1
  have h2 := (h.2 k (c, ty) (by rw [List.getElem?_append_left hl]; exact hk)).2
  cases ty with
  | object C => exact absurd rfl (hty C)
  | _ => exact Option.some.inj (h1.symm.trans h2)
theorem zn_rows {r : Nat → Nat} {f : Nat → va_E} {e : va_E} : va_pl ([] ++ (List.range 16).map r) (vr_up f ((List.range 16).map r) e) = (List.range 16).map (fun i => (r i, e)) := by
  unfold va_pl
  rw [List.nil_append, List.map_map]
  refine List.map_congr_left (fun i hi => ?_)
  show (r i, vr_up f ((List.range 16).map r) e (r i)) = (r i, e)
  rw [vr_up_in (List.mem_map.mpr ⟨i, hi, rfl⟩)]
/-- the class words at a start -/
theorem zn_over {args : Array Value} {s : State} (h : (Cond.arrayOver (.array .int)).before args s = true) : ∃ cR, ArrOfT s cR (.array .int) ∧ va_RA s cR (.array .int) := by
  obtain ⟨comp, c, k, -, -, hk, hkind, hn⟩ := arrayOverA_spec h
  exact ⟨c, fun n z => ⟨fun _ h => (nomatch h), k, hk, comp, hkind⟩, hn⟩
theorem zn_cls {args : Array Value} {s : State} {ty : FieldType} (hty : ∀ C, ty ≠ .object C) (h : (Cond.arrayClass ty).before args s = true) : ∃ cA, ArrOfT s cA ty ∧ va_RA s cA ty := by
  obtain ⟨c, k, comp, hn, hk, hkind⟩ := Cond.arrayClass_spec h
  refine ⟨c, fun n z => ⟨fun _ h => (nomatch h), k, hk, comp, hkind⟩, ?_⟩
  cases ty with
  | object C => exact absurd rfl (hty C)
  | _ => exact hn
theorem za_int : Cond.arrayClass .int ∈ zz_w := by decide +kernel
theorem za_long : Cond.arrayClass .long ∈ zz_w := by decide +kernel
theorem zo_init : Cond.instanceMethod Lib.objectInit ∈ zz_w ∧ Cond.code Lib.objectInit ⟨#[0xb1]⟩ 1 none ∈ zz_w := by decide +kernel
/-- a start with a world that may be written, the class's two tables, and what makes arrays of arrays -/
def zn_pre (D : va_G) (cl : List vw_C) (tys : List (ClassId × FieldType)) (ws : va_W) (sz : Nat) (av : List Value) : Array Value → State → Prop := va_Pc av (fun U => U.heap.size = sz ∧ va_P D cl ws U.heap ∧ va_K D cl tys U ∧ va_D (fun _ => True) ws ∧ zs_env (va_A ws sz) U ∧ (Cond.arrayOver (.array .int)).before #[] U = true)
section ZN
variable {p : Program} {l : Launch} {e : Env} {R : Room} {s : State} {m : MethodId} {args : Array Value} {below : List Frame} {meth : Method} {c : Code} {H : Heap} {locs : List Loc} {cells slots : Nat} {Q : State → Prop}
variable {cc : ByteArray} {pc : Nat} {ls : Array Slot} {rest : List Value} {D : va_G} {cl : List vw_C} {A : Nat → Prop} {a : Nat} {tys : List (ClassId × FieldType)} {ws : va_W} {H0 : Heap}
theorem zn_blind {av : List Value} {sz : Nat} : FrameBlind (zn_pre D cl tys ws sz av) := fun a U g mk q => by
  obtain ⟨q0, q1, qP, qK, qD, qE, qO⟩ := q
  exact ⟨q0, q1, qP, va_K.moved (u := U) (U := U.calling g mk a) (Vm.Alike.refl U.vm) qK, qD, qE.calling, over_moved (u := U) (E := U.calling g mk a) (Vm.Alike.refl U.vm) qO⟩
theorem zn_preS {As : List Value} (hP : va_P D cl ws H) (hK : va_K D cl tys s) (hD : va_D A ws) (hE : zs_env A s) (hS : va_S A s.heap H locs) (hA : ∀ q, s.heap.size ≤ q → A q) (hO : (Cond.arrayOver (.array .int)).before #[] s = true) : PreS s H (zn_pre D cl tys ws H.size As) As :=
  ⟨zn_blind, fun U hU hW => ⟨rfl, by rw [hU], by rw [hU]; exact hP, va_K.moved hW.alike hK, hD.weaken (fun _ _ _ _ => trivial), (hE.go hW.alike hU hS).narrow (zw_free hD hS hA), over_moved hW.alike hO⟩⟩
/-- a constructor is called: what runs -/
theorem zx_runI {nL maxL n idx b : Nat} {own : String} {y : MethodName} {bytes : ByteArray} {rm : Room} {Pc : Array Value → State → Prop} {Qc : Array Value → State → Outcome → State → Prop} {mc ms : Nat} {free : Addr → Prop} {As : List Value} {st0 : List Value} {c0 : Cond} (hexec : p.tables.exec = Jvm.exec) (hb : c.code = cc) (hml : c.maxLocals = nL) (hts : ∀ w ∈ c0 :: zz_w, w.before args s = true) (hown : s.vm.findClass own = some m.cls)
    (hM : Met l y (Cond.code y bytes maxL none :: zz_w) rm Pc Qc mc ms free) (h1 : Cond.methodLink own idx y ∈ zz_w) (h2 : Cond.instanceMethod y ∈ zz_w) (h4 : Cond.initialized y.cls ∈ zz_w) (h5 : Cond.code y bytes maxL none ∈ zz_w) (hy : y.name = "<init>") (hd : y.cls ≠ "java/lang/invoke/MethodHandle" ∧ y.cls ≠ "java/lang/invoke/VarHandle" ∧ (parseMethodDescriptor y.desc).map (fun d => d.parameters.length) = some n) (hrc : rm.cells = mc) (hrs : rm.slots = ms) (hR : rm.frames + 1 ≤ R.frames ∧ 8 + (maxL + 11) + rm.locals ≤ R.locals) (hp : PreS s H Pc (.ref b :: As)) (hn : As.length = n) (hsz : ls.size = nL) (hst : st0 = As.reverse ++ .ref b :: rest) (hW : (rest.map fun v => v.category).sum ≤ 8) (hdg : decode cc pc = .ok (.invokespecial idx, 3)) (hcs : cells + mc ≤ R.cells ∧ slots + ms ≤ R.slots) :
    va_Run p l e R s m args below meth c H locs cells slots mc ms (F0 m pc ls st0) rest (Qc (Value.ref b :: As).toArray) free :=
  va_runI ⟨hexec, hb, hml, hown, hts⟩ hM (cwI n hts (zz_in h5) rfl hrc hrs (hts _ (List.mem_cons_of_mem _ h4)) (hts _ (List.mem_cons_of_mem _ h1)) (hts _ (List.mem_cons_of_mem _ h2)) hy hd hR) hp rfl hn hsz hst (lv_room hW) hdg hcs
/-- new int[N], of a class of arrays that is known -/
theorem zn_newi (hexec : p.tables.exec = Jvm.exec) (hb : c.code = cc) {c0 : Cond} (hts : ∀ w ∈ c0 :: zz_w, w.before args s = true) (hK : va_K D cl tys s) (hP : va_P D cl ws H) (hD : va_D A ws) (hS : va_S A H0 H locs) (hA : ∀ q, H0.size ≤ q → A q) {cA : ClassId} (k : Nat) (hk : tys[k]? = some (cA, .int)) {n : Int32} {N' : Nat} (hn : ¬ n < 0) (hN : n.toNatClampNeg = N') (hbytes : N' * componentBytes .int ≤ 536870912) (hcells : cells + 1 ≤ R.cells) (hslots : slots + N' ≤ R.slots) (hdg : decode cc pc = .ok (.newarray .int, 2))
    (kk : ∀ (q : Nat) (H1 : Heap), va_P D cl (ws ++ [(q, .inl (cA, N', .inl (zq_I (fun _ => 0))))]) H1 → va_D A (ws ++ [(q, .inl (cA, N', .inl (zq_I (fun _ => 0))))]) → va_S A H0 H1 locs →
      W p l e R s m args below meth c H1 locs (cells + 1) (slots + N') Q (F0 m (pc + 2) ls (.ref q :: rest))) : W p l e R s m args below meth c H locs cells slots Q (F0 m pc ls (.int n :: rest)) := by
  refine va_newa (ty := .int) (a0 := (N', .inl (zq_I (fun _ => 0)))) hexec hb (atype := .int) (hts _ (List.mem_cons_of_mem _ za_int)) rfl hK hP hD hS hA (fun cA => (zn_z0 cA N').symm) hn hN hbytes hcells hslots hdg (fun q c1 H1 hK1 hP1 hD1 hS1 => ?_)
  have e1 : c1 = cA := zn_same (by intro C h; cases h) hK1 hk
  subst e1
  exact kk q H1 hP1 hD1 hS1
end ZN
